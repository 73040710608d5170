/-! ===== loops by a count; heaps that are not shown ===== -/
theorem pb_for {S E : Type} {body : S → Option (S ⊕ E)} (n : Nat) (I : Nat → S → Prop) (Po : E → Prop) {N : Nat} {s : S} (hN : n < N) (h0 : I 0 s) (hs : ∀ i s, i < n → I i s → (∃ s', body s = some (.inl s') ∧ I (i + 1) s') ∨ ∃ e, body s = some (.inr e) ∧ Po e) (he : ∀ s, I n s → ∃ e, body s = some (.inr e) ∧ Po e) : ∃ e, ss_lp body N s = some e ∧ Po e := by
  have key : ∀ d i, i + d = n → ∀ M, d < M → ∀ s, I i s → ∃ e, ss_lp body M s = some e ∧ Po e := by
    intro d
    induction d with
    | zero =>
      intro i hi M hM s h
      obtain ⟨M', rfl⟩ : ∃ M', M = M' + 1 := ⟨M - 1, by omega⟩
      have hin : i = n := by omega
      rw [hin] at h
      obtain ⟨e, h1, h2⟩ := he s h
      exact ⟨e, pb_stop h1, h2⟩
    | succ d ih =>
      intro i hi M hM s h
      obtain ⟨M', rfl⟩ : ∃ M', M = M' + 1 := ⟨M - 1, by omega⟩
      rcases hs i s (by omega) h with ⟨s', h1, h2⟩ | ⟨e, h1, h2⟩
      · obtain ⟨e, g1, g2⟩ := ih (i + 1) (by omega) M' (by omega) s' h2
        exact ⟨e, pb_step h1 g1, g2⟩
      · exact ⟨e, pb_stop h1, h2⟩
  exact key n 0 (by omega) N hN s h0
def z8 : List Int32 := List.replicate 8 (nI 0)
theorem z8_len : z8.length = 8 := rfl
def ro_of (fo : Int32) (RS : List (List ru_C)) : Option (List ru_C) := if fo < nI 0 then none else RS[fo.toNatClampNeg]?
def zs (Z : Nat → List Int32) (q : Nat) (l : List Int32) : Nat → List Int32 := fun j => if j = q then l else Z j
theorem zs_eq (Z : Nat → List Int32) (q : Nat) (l : List Int32) : zs Z q l q = l := by simp [zs]
theorem zs_ne (Z : Nat → List Int32) {q j : Nat} (l : List Int32) (h : j ≠ q) : zs Z q l j = Z j := by simp [zs, h]
/-! constant rows -/
def ck_h (h : ss_Hp) : Prop := ∃ n g rc ti tb vt ri cd sx rl wi wv gi gs gw nd ns nw il ai yv yr yi ys yw yt yh yf yo yk fr fg pl pc pg, h = pk_C n g rc ti tb vt ri cd sx rl wi wv gi gs gw nd ns nw il ai yv yr yi ys yw yt yh yf yo yk fr fg pl pc pg
theorem ck_is0 {h : ss_Hp} (hk : ck_h h) : ss_is h (some 0) 11 = true := by
  obtain ⟨n, g, rc, ti, tb, vt, ri, cd, sx, rl, wi, wv, gi, gs, gw, nd, ns, nw, il, ai, yv, yr, yi, ys, yw, yt, yh, yf, yo, yk, fr, fg, pl, pc, pg, rfl⟩ := hk
  exact pk_is0
theorem ck_r0_0 {h : ss_Hp} (hk : ck_h h) : ss_gr h (some 0) 11 0 = some (some 1) := by
  obtain ⟨n, g, rc, ti, tb, vt, ri, cd, sx, rl, wi, wv, gi, gs, gw, nd, ns, nw, il, ai, yv, yr, yi, ys, yw, yt, yh, yf, yo, yk, fr, fg, pl, pc, pg, rfl⟩ := hk
  exact pk_r0_0
theorem ck_r0_1 {h : ss_Hp} (hk : ck_h h) : ss_gr h (some 0) 11 1 = some (some 3) := by
  obtain ⟨n, g, rc, ti, tb, vt, ri, cd, sx, rl, wi, wv, gi, gs, gw, nd, ns, nw, il, ai, yv, yr, yi, ys, yw, yt, yh, yf, yo, yk, fr, fg, pl, pc, pg, rfl⟩ := hk
  exact pk_r0_1
theorem ck_r0_2 {h : ss_Hp} (hk : ck_h h) : ss_gr h (some 0) 11 2 = some (some 20) := by
  obtain ⟨n, g, rc, ti, tb, vt, ri, cd, sx, rl, wi, wv, gi, gs, gw, nd, ns, nw, il, ai, yv, yr, yi, ys, yw, yt, yh, yf, yo, yk, fr, fg, pl, pc, pg, rfl⟩ := hk
  exact pk_r0_2
theorem ck_r0_3 {h : ss_Hp} (hk : ck_h h) : ss_gr h (some 0) 11 3 = some (some 23) := by
  obtain ⟨n, g, rc, ti, tb, vt, ri, cd, sx, rl, wi, wv, gi, gs, gw, nd, ns, nw, il, ai, yv, yr, yi, ys, yw, yt, yh, yf, yo, yk, fr, fg, pl, pc, pg, rfl⟩ := hk
  exact pk_r0_3
theorem ck_r0_4 {h : ss_Hp} (hk : ck_h h) : ss_gr h (some 0) 11 4 = some (some 24) := by
  obtain ⟨n, g, rc, ti, tb, vt, ri, cd, sx, rl, wi, wv, gi, gs, gw, nd, ns, nw, il, ai, yv, yr, yi, ys, yw, yt, yh, yf, yo, yk, fr, fg, pl, pc, pg, rfl⟩ := hk
  exact pk_r0_4
theorem ck_r0_5 {h : ss_Hp} (hk : ck_h h) : ss_gr h (some 0) 11 5 = some (some 39) := by
  obtain ⟨n, g, rc, ti, tb, vt, ri, cd, sx, rl, wi, wv, gi, gs, gw, nd, ns, nw, il, ai, yv, yr, yi, ys, yw, yt, yh, yf, yo, yk, fr, fg, pl, pc, pg, rfl⟩ := hk
  exact pk_r0_5
theorem ck_r0_6 {h : ss_Hp} (hk : ck_h h) : ss_gr h (some 0) 11 6 = some (some 40) := by
  obtain ⟨n, g, rc, ti, tb, vt, ri, cd, sx, rl, wi, wv, gi, gs, gw, nd, ns, nw, il, ai, yv, yr, yi, ys, yw, yt, yh, yf, yo, yk, fr, fg, pl, pc, pg, rfl⟩ := hk
  exact pk_r0_6
theorem ck_r0_7 {h : ss_Hp} (hk : ck_h h) : ss_gr h (some 0) 11 7 = some (some 102) := by
  obtain ⟨n, g, rc, ti, tb, vt, ri, cd, sx, rl, wi, wv, gi, gs, gw, nd, ns, nw, il, ai, yv, yr, yi, ys, yw, yt, yh, yf, yo, yk, fr, fg, pl, pc, pg, rfl⟩ := hk
  exact pk_r0_7
theorem ck_r0_8 {h : ss_Hp} (hk : ck_h h) : ss_gr h (some 0) 11 8 = some (some 111) := by
  obtain ⟨n, g, rc, ti, tb, vt, ri, cd, sx, rl, wi, wv, gi, gs, gw, nd, ns, nw, il, ai, yv, yr, yi, ys, yw, yt, yh, yf, yo, yk, fr, fg, pl, pc, pg, rfl⟩ := hk
  exact pk_r0_8
theorem ck_r0_9 {h : ss_Hp} (hk : ck_h h) : ss_gr h (some 0) 11 9 = some (some 114) := by
  obtain ⟨n, g, rc, ti, tb, vt, ri, cd, sx, rl, wi, wv, gi, gs, gw, nd, ns, nw, il, ai, yv, yr, yi, ys, yw, yt, yh, yf, yo, yk, fr, fg, pl, pc, pg, rfl⟩ := hk
  exact pk_r0_9
theorem ck_is1 {h : ss_Hp} (hk : ck_h h) : ss_is h (some 1) 2 = true := by
  obtain ⟨n, g, rc, ti, tb, vt, ri, cd, sx, rl, wi, wv, gi, gs, gw, nd, ns, nw, il, ai, yv, yr, yi, ys, yw, yt, yh, yf, yo, yk, fr, fg, pl, pc, pg, rfl⟩ := hk
  exact pk_is1
theorem ck_r1_0 {h : ss_Hp} (hk : ck_h h) : ss_gr h (some 1) 2 0 = some (some 2) := by
  obtain ⟨n, g, rc, ti, tb, vt, ri, cd, sx, rl, wi, wv, gi, gs, gw, nd, ns, nw, il, ai, yv, yr, yi, ys, yw, yt, yh, yf, yo, yk, fr, fg, pl, pc, pg, rfl⟩ := hk
  exact pk_r1_0
theorem ck_is3 {h : ss_Hp} (hk : ck_h h) : ss_is h (some 3) 6 = true := by
  obtain ⟨n, g, rc, ti, tb, vt, ri, cd, sx, rl, wi, wv, gi, gs, gw, nd, ns, nw, il, ai, yv, yr, yi, ys, yw, yt, yh, yf, yo, yk, fr, fg, pl, pc, pg, rfl⟩ := hk
  exact pk_is3
theorem ck_r3_0 {h : ss_Hp} (hk : ck_h h) : ss_gr h (some 3) 6 0 = some (some 1) := by
  obtain ⟨n, g, rc, ti, tb, vt, ri, cd, sx, rl, wi, wv, gi, gs, gw, nd, ns, nw, il, ai, yv, yr, yi, ys, yw, yt, yh, yf, yo, yk, fr, fg, pl, pc, pg, rfl⟩ := hk
  exact pk_r3_0
theorem ck_r3_1 {h : ss_Hp} (hk : ck_h h) : ss_gr h (some 3) 6 1 = some (some 4) := by
  obtain ⟨n, g, rc, ti, tb, vt, ri, cd, sx, rl, wi, wv, gi, gs, gw, nd, ns, nw, il, ai, yv, yr, yi, ys, yw, yt, yh, yf, yo, yk, fr, fg, pl, pc, pg, rfl⟩ := hk
  exact pk_r3_1
theorem ck_is20 {h : ss_Hp} (hk : ck_h h) : ss_is h (some 20) 4 = true := by
  obtain ⟨n, g, rc, ti, tb, vt, ri, cd, sx, rl, wi, wv, gi, gs, gw, nd, ns, nw, il, ai, yv, yr, yi, ys, yw, yt, yh, yf, yo, yk, fr, fg, pl, pc, pg, rfl⟩ := hk
  exact pk_is20
theorem ck_r20_0 {h : ss_Hp} (hk : ck_h h) : ss_gr h (some 20) 4 0 = some (some 1) := by
  obtain ⟨n, g, rc, ti, tb, vt, ri, cd, sx, rl, wi, wv, gi, gs, gw, nd, ns, nw, il, ai, yv, yr, yi, ys, yw, yt, yh, yf, yo, yk, fr, fg, pl, pc, pg, rfl⟩ := hk
  exact pk_r20_0
theorem ck_r20_1 {h : ss_Hp} (hk : ck_h h) : ss_gr h (some 20) 4 1 = some (some 21) := by
  obtain ⟨n, g, rc, ti, tb, vt, ri, cd, sx, rl, wi, wv, gi, gs, gw, nd, ns, nw, il, ai, yv, yr, yi, ys, yw, yt, yh, yf, yo, yk, fr, fg, pl, pc, pg, rfl⟩ := hk
  exact pk_r20_1
theorem ck_r20_2 {h : ss_Hp} (hk : ck_h h) : ss_gr h (some 20) 4 2 = some (some 22) := by
  obtain ⟨n, g, rc, ti, tb, vt, ri, cd, sx, rl, wi, wv, gi, gs, gw, nd, ns, nw, il, ai, yv, yr, yi, ys, yw, yt, yh, yf, yo, yk, fr, fg, pl, pc, pg, rfl⟩ := hk
  exact pk_r20_2
theorem ck_is24 {h : ss_Hp} (hk : ck_h h) : ss_is h (some 24) 8 = true := by
  obtain ⟨n, g, rc, ti, tb, vt, ri, cd, sx, rl, wi, wv, gi, gs, gw, nd, ns, nw, il, ai, yv, yr, yi, ys, yw, yt, yh, yf, yo, yk, fr, fg, pl, pc, pg, rfl⟩ := hk
  exact pk_is24
theorem ck_r24_1 {h : ss_Hp} (hk : ck_h h) : ss_gr h (some 24) 8 1 = some (some 33) := by
  obtain ⟨n, g, rc, ti, tb, vt, ri, cd, sx, rl, wi, wv, gi, gs, gw, nd, ns, nw, il, ai, yv, yr, yi, ys, yw, yt, yh, yf, yo, yk, fr, fg, pl, pc, pg, rfl⟩ := hk
  exact pk_r24_1
theorem ck_r24_2 {h : ss_Hp} (hk : ck_h h) : ss_gr h (some 24) 8 2 = some (some 36) := by
  obtain ⟨n, g, rc, ti, tb, vt, ri, cd, sx, rl, wi, wv, gi, gs, gw, nd, ns, nw, il, ai, yv, yr, yi, ys, yw, yt, yh, yf, yo, yk, fr, fg, pl, pc, pg, rfl⟩ := hk
  exact pk_r24_2
theorem ck_r24_3 {h : ss_Hp} (hk : ck_h h) : ss_gr h (some 24) 8 3 = some (some 37) := by
  obtain ⟨n, g, rc, ti, tb, vt, ri, cd, sx, rl, wi, wv, gi, gs, gw, nd, ns, nw, il, ai, yv, yr, yi, ys, yw, yt, yh, yf, yo, yk, fr, fg, pl, pc, pg, rfl⟩ := hk
  exact pk_r24_3
theorem ck_r24_4 {h : ss_Hp} (hk : ck_h h) : ss_gr h (some 24) 8 4 = some (some 38) := by
  obtain ⟨n, g, rc, ti, tb, vt, ri, cd, sx, rl, wi, wv, gi, gs, gw, nd, ns, nw, il, ai, yv, yr, yi, ys, yw, yt, yh, yf, yo, yk, fr, fg, pl, pc, pg, rfl⟩ := hk
  exact pk_r24_4
theorem ck_is33 {h : ss_Hp} (hk : ck_h h) : ss_is h (some 33) 0 = true := by
  obtain ⟨n, g, rc, ti, tb, vt, ri, cd, sx, rl, wi, wv, gi, gs, gw, nd, ns, nw, il, ai, yv, yr, yi, ys, yw, yt, yh, yf, yo, yk, fr, fg, pl, pc, pg, rfl⟩ := hk
  exact pk_is33
theorem ck_r33_0 {h : ss_Hp} (hk : ck_h h) : ss_gr h (some 33) 0 0 = some (some 34) := by
  obtain ⟨n, g, rc, ti, tb, vt, ri, cd, sx, rl, wi, wv, gi, gs, gw, nd, ns, nw, il, ai, yv, yr, yi, ys, yw, yt, yh, yf, yo, yk, fr, fg, pl, pc, pg, rfl⟩ := hk
  exact pk_r33_0
theorem ck_r33_1 {h : ss_Hp} (hk : ck_h h) : ss_gr h (some 33) 0 1 = some (some 35) := by
  obtain ⟨n, g, rc, ti, tb, vt, ri, cd, sx, rl, wi, wv, gi, gs, gw, nd, ns, nw, il, ai, yv, yr, yi, ys, yw, yt, yh, yf, yo, yk, fr, fg, pl, pc, pg, rfl⟩ := hk
  exact pk_r33_1
theorem ck_is40 {h : ss_Hp} (hk : ck_h h) : ss_is h (some 40) 3 = true := by
  obtain ⟨n, g, rc, ti, tb, vt, ri, cd, sx, rl, wi, wv, gi, gs, gw, nd, ns, nw, il, ai, yv, yr, yi, ys, yw, yt, yh, yf, yo, yk, fr, fg, pl, pc, pg, rfl⟩ := hk
  exact pk_is40
theorem ck_r40_0 {h : ss_Hp} (hk : ck_h h) : ss_gr h (some 40) 3 0 = some (some 41) := by
  obtain ⟨n, g, rc, ti, tb, vt, ri, cd, sx, rl, wi, wv, gi, gs, gw, nd, ns, nw, il, ai, yv, yr, yi, ys, yw, yt, yh, yf, yo, yk, fr, fg, pl, pc, pg, rfl⟩ := hk
  exact pk_r40_0
theorem ck_is102 {h : ss_Hp} (hk : ck_h h) : ss_is h (some 102) 7 = true := by
  obtain ⟨n, g, rc, ti, tb, vt, ri, cd, sx, rl, wi, wv, gi, gs, gw, nd, ns, nw, il, ai, yv, yr, yi, ys, yw, yt, yh, yf, yo, yk, fr, fg, pl, pc, pg, rfl⟩ := hk
  exact pk_is102
theorem ck_r102_0 {h : ss_Hp} (hk : ck_h h) : ss_gr h (some 102) 7 0 = some (some 103) := by
  obtain ⟨n, g, rc, ti, tb, vt, ri, cd, sx, rl, wi, wv, gi, gs, gw, nd, ns, nw, il, ai, yv, yr, yi, ys, yw, yt, yh, yf, yo, yk, fr, fg, pl, pc, pg, rfl⟩ := hk
  exact pk_r102_0
theorem ck_r102_1 {h : ss_Hp} (hk : ck_h h) : ss_gr h (some 102) 7 1 = some (some 106) := by
  obtain ⟨n, g, rc, ti, tb, vt, ri, cd, sx, rl, wi, wv, gi, gs, gw, nd, ns, nw, il, ai, yv, yr, yi, ys, yw, yt, yh, yf, yo, yk, fr, fg, pl, pc, pg, rfl⟩ := hk
  exact pk_r102_1
theorem ck_r102_2 {h : ss_Hp} (hk : ck_h h) : ss_gr h (some 102) 7 2 = some (some 107) := by
  obtain ⟨n, g, rc, ti, tb, vt, ri, cd, sx, rl, wi, wv, gi, gs, gw, nd, ns, nw, il, ai, yv, yr, yi, ys, yw, yt, yh, yf, yo, yk, fr, fg, pl, pc, pg, rfl⟩ := hk
  exact pk_r102_2
theorem ck_r102_3 {h : ss_Hp} (hk : ck_h h) : ss_gr h (some 102) 7 3 = some (some 108) := by
  obtain ⟨n, g, rc, ti, tb, vt, ri, cd, sx, rl, wi, wv, gi, gs, gw, nd, ns, nw, il, ai, yv, yr, yi, ys, yw, yt, yh, yf, yo, yk, fr, fg, pl, pc, pg, rfl⟩ := hk
  exact pk_r102_3
theorem ck_r102_4 {h : ss_Hp} (hk : ck_h h) : ss_gr h (some 102) 7 4 = some (some 109) := by
  obtain ⟨n, g, rc, ti, tb, vt, ri, cd, sx, rl, wi, wv, gi, gs, gw, nd, ns, nw, il, ai, yv, yr, yi, ys, yw, yt, yh, yf, yo, yk, fr, fg, pl, pc, pg, rfl⟩ := hk
  exact pk_r102_4
theorem ck_r102_5 {h : ss_Hp} (hk : ck_h h) : ss_gr h (some 102) 7 5 = some (some 110) := by
  obtain ⟨n, g, rc, ti, tb, vt, ri, cd, sx, rl, wi, wv, gi, gs, gw, nd, ns, nw, il, ai, yv, yr, yi, ys, yw, yt, yh, yf, yo, yk, fr, fg, pl, pc, pg, rfl⟩ := hk
  exact pk_r102_5
theorem ck_is103 {h : ss_Hp} (hk : ck_h h) : ss_is h (some 103) 0 = true := by
  obtain ⟨n, g, rc, ti, tb, vt, ri, cd, sx, rl, wi, wv, gi, gs, gw, nd, ns, nw, il, ai, yv, yr, yi, ys, yw, yt, yh, yf, yo, yk, fr, fg, pl, pc, pg, rfl⟩ := hk
  exact pk_is103
theorem ck_r103_0 {h : ss_Hp} (hk : ck_h h) : ss_gr h (some 103) 0 0 = some (some 104) := by
  obtain ⟨n, g, rc, ti, tb, vt, ri, cd, sx, rl, wi, wv, gi, gs, gw, nd, ns, nw, il, ai, yv, yr, yi, ys, yw, yt, yh, yf, yo, yk, fr, fg, pl, pc, pg, rfl⟩ := hk
  exact pk_r103_0
theorem ck_r103_1 {h : ss_Hp} (hk : ck_h h) : ss_gr h (some 103) 0 1 = some (some 105) := by
  obtain ⟨n, g, rc, ti, tb, vt, ri, cd, sx, rl, wi, wv, gi, gs, gw, nd, ns, nw, il, ai, yv, yr, yi, ys, yw, yt, yh, yf, yo, yk, fr, fg, pl, pc, pg, rfl⟩ := hk
  exact pk_r103_1
theorem ck_is111 {h : ss_Hp} (hk : ck_h h) : ss_is h (some 111) 9 = true := by
  obtain ⟨n, g, rc, ti, tb, vt, ri, cd, sx, rl, wi, wv, gi, gs, gw, nd, ns, nw, il, ai, yv, yr, yi, ys, yw, yt, yh, yf, yo, yk, fr, fg, pl, pc, pg, rfl⟩ := hk
  exact pk_is111
theorem ck_r111_0 {h : ss_Hp} (hk : ck_h h) : ss_gr h (some 111) 9 0 = some (some 24) := by
  obtain ⟨n, g, rc, ti, tb, vt, ri, cd, sx, rl, wi, wv, gi, gs, gw, nd, ns, nw, il, ai, yv, yr, yi, ys, yw, yt, yh, yf, yo, yk, fr, fg, pl, pc, pg, rfl⟩ := hk
  exact pk_r111_0
theorem ck_r111_1 {h : ss_Hp} (hk : ck_h h) : ss_gr h (some 111) 9 1 = some (some 23) := by
  obtain ⟨n, g, rc, ti, tb, vt, ri, cd, sx, rl, wi, wv, gi, gs, gw, nd, ns, nw, il, ai, yv, yr, yi, ys, yw, yt, yh, yf, yo, yk, fr, fg, pl, pc, pg, rfl⟩ := hk
  exact pk_r111_1
theorem ck_r111_2 {h : ss_Hp} (hk : ck_h h) : ss_gr h (some 111) 9 2 = some (some 102) := by
  obtain ⟨n, g, rc, ti, tb, vt, ri, cd, sx, rl, wi, wv, gi, gs, gw, nd, ns, nw, il, ai, yv, yr, yi, ys, yw, yt, yh, yf, yo, yk, fr, fg, pl, pc, pg, rfl⟩ := hk
  exact pk_r111_2
theorem ck_r111_3 {h : ss_Hp} (hk : ck_h h) : ss_gr h (some 111) 9 3 = some (some 112) := by
  obtain ⟨n, g, rc, ti, tb, vt, ri, cd, sx, rl, wi, wv, gi, gs, gw, nd, ns, nw, il, ai, yv, yr, yi, ys, yw, yt, yh, yf, yo, yk, fr, fg, pl, pc, pg, rfl⟩ := hk
  exact pk_r111_3
theorem ck_r111_4 {h : ss_Hp} (hk : ck_h h) : ss_gr h (some 111) 9 4 = some (some 113) := by
  obtain ⟨n, g, rc, ti, tb, vt, ri, cd, sx, rl, wi, wv, gi, gs, gw, nd, ns, nw, il, ai, yv, yr, yi, ys, yw, yt, yh, yf, yo, yk, fr, fg, pl, pc, pg, rfl⟩ := hk
  exact pk_r111_4
theorem ck_is114 {h : ss_Hp} (hk : ck_h h) : ss_is h (some 114) 10 = true := by
  obtain ⟨n, g, rc, ti, tb, vt, ri, cd, sx, rl, wi, wv, gi, gs, gw, nd, ns, nw, il, ai, yv, yr, yi, ys, yw, yt, yh, yf, yo, yk, fr, fg, pl, pc, pg, rfl⟩ := hk
  exact pk_is114
theorem ck_r114_0 {h : ss_Hp} (hk : ck_h h) : ss_gr h (some 114) 10 0 = some (some 24) := by
  obtain ⟨n, g, rc, ti, tb, vt, ri, cd, sx, rl, wi, wv, gi, gs, gw, nd, ns, nw, il, ai, yv, yr, yi, ys, yw, yt, yh, yf, yo, yk, fr, fg, pl, pc, pg, rfl⟩ := hk
  exact pk_r114_0
theorem ck_r114_1 {h : ss_Hp} (hk : ck_h h) : ss_gr h (some 114) 10 1 = some (some 102) := by
  obtain ⟨n, g, rc, ti, tb, vt, ri, cd, sx, rl, wi, wv, gi, gs, gw, nd, ns, nw, il, ai, yv, yr, yi, ys, yw, yt, yh, yf, yo, yk, fr, fg, pl, pc, pg, rfl⟩ := hk
  exact pk_r114_1
theorem ck_r114_2 {h : ss_Hp} (hk : ck_h h) : ss_gr h (some 114) 10 2 = some (some 115) := by
  obtain ⟨n, g, rc, ti, tb, vt, ri, cd, sx, rl, wi, wv, gi, gs, gw, nd, ns, nw, il, ai, yv, yr, yi, ys, yw, yt, yh, yf, yo, yk, fr, fg, pl, pc, pg, rfl⟩ := hk
  exact pk_r114_2
theorem ck_r114_3 {h : ss_Hp} (hk : ck_h h) : ss_gr h (some 114) 10 3 = some (some 116) := by
  obtain ⟨n, g, rc, ti, tb, vt, ri, cd, sx, rl, wi, wv, gi, gs, gw, nd, ns, nw, il, ai, yv, yr, yi, ys, yw, yt, yh, yf, yo, yk, fr, fg, pl, pc, pg, rfl⟩ := hk
  exact pk_r114_3
theorem ck_r114_4 {h : ss_Hp} (hk : ck_h h) : ss_gr h (some 114) 10 4 = some (some 117) := by
  obtain ⟨n, g, rc, ti, tb, vt, ri, cd, sx, rl, wi, wv, gi, gs, gw, nd, ns, nw, il, ai, yv, yr, yi, ys, yw, yt, yh, yf, yo, yk, fr, fg, pl, pc, pg, rfl⟩ := hk
  exact pk_r114_4
def mk_h (h : ss_Hp) : Prop := ∃ n f mi dx tp sg lg cl cs rd op sk wd sd th fa ws kp li pr hb fi st im jf jx mk, h = pm_M n f mi dx tp sg lg cl cs rd op sk wd sd th fa ws kp li pr hb fi st im jf jx mk
theorem mk_is {h : ss_Hp} (hk : mk_h h) : ss_is h (some 118) 12 = true := by
  obtain ⟨n, f, mi, dx, tp, sg, lg, cl, cs, rd, op, sk, wd, sd, th, fa, ws, kp, li, pr, hb, fi, st, im, jf, jx, mk, rfl⟩ := hk
  exact pn_is
theorem mk_g0 {h : ss_Hp} (hk : mk_h h) : ss_gr h (some 118) 12 0 = some (some 119) := by
  obtain ⟨n, f, mi, dx, tp, sg, lg, cl, cs, rd, op, sk, wd, sd, th, fa, ws, kp, li, pr, hb, fi, st, im, jf, jx, mk, rfl⟩ := hk
  exact pn_g0
theorem mk_g1 {h : ss_Hp} (hk : mk_h h) : ss_gr h (some 118) 12 1 = some (some 120) := by
  obtain ⟨n, f, mi, dx, tp, sg, lg, cl, cs, rd, op, sk, wd, sd, th, fa, ws, kp, li, pr, hb, fi, st, im, jf, jx, mk, rfl⟩ := hk
  exact pn_g1
theorem mk_g2 {h : ss_Hp} (hk : mk_h h) : ss_gr h (some 118) 12 2 = some (some 121) := by
  obtain ⟨n, f, mi, dx, tp, sg, lg, cl, cs, rd, op, sk, wd, sd, th, fa, ws, kp, li, pr, hb, fi, st, im, jf, jx, mk, rfl⟩ := hk
  exact pn_g2
theorem mk_g3 {h : ss_Hp} (hk : mk_h h) : ss_gr h (some 118) 12 3 = some (some 122) := by
  obtain ⟨n, f, mi, dx, tp, sg, lg, cl, cs, rd, op, sk, wd, sd, th, fa, ws, kp, li, pr, hb, fi, st, im, jf, jx, mk, rfl⟩ := hk
  exact pn_g3
theorem mk_g4 {h : ss_Hp} (hk : mk_h h) : ss_gr h (some 118) 12 4 = some (some 123) := by
  obtain ⟨n, f, mi, dx, tp, sg, lg, cl, cs, rd, op, sk, wd, sd, th, fa, ws, kp, li, pr, hb, fi, st, im, jf, jx, mk, rfl⟩ := hk
  exact pn_g4
theorem mk_g5 {h : ss_Hp} (hk : mk_h h) : ss_gr h (some 118) 12 5 = some (some 124) := by
  obtain ⟨n, f, mi, dx, tp, sg, lg, cl, cs, rd, op, sk, wd, sd, th, fa, ws, kp, li, pr, hb, fi, st, im, jf, jx, mk, rfl⟩ := hk
  exact pn_g5
theorem mk_g6 {h : ss_Hp} (hk : mk_h h) : ss_gr h (some 118) 12 6 = some (some 125) := by
  obtain ⟨n, f, mi, dx, tp, sg, lg, cl, cs, rd, op, sk, wd, sd, th, fa, ws, kp, li, pr, hb, fi, st, im, jf, jx, mk, rfl⟩ := hk
  exact pn_g6
theorem mk_g7 {h : ss_Hp} (hk : mk_h h) : ss_gr h (some 118) 12 7 = some (some 126) := by
  obtain ⟨n, f, mi, dx, tp, sg, lg, cl, cs, rd, op, sk, wd, sd, th, fa, ws, kp, li, pr, hb, fi, st, im, jf, jx, mk, rfl⟩ := hk
  exact pn_g7
theorem mk_g8 {h : ss_Hp} (hk : mk_h h) : ss_gr h (some 118) 12 8 = some (some 127) := by
  obtain ⟨n, f, mi, dx, tp, sg, lg, cl, cs, rd, op, sk, wd, sd, th, fa, ws, kp, li, pr, hb, fi, st, im, jf, jx, mk, rfl⟩ := hk
  exact pn_g8
theorem mk_g9 {h : ss_Hp} (hk : mk_h h) : ss_gr h (some 118) 12 9 = some (some 128) := by
  obtain ⟨n, f, mi, dx, tp, sg, lg, cl, cs, rd, op, sk, wd, sd, th, fa, ws, kp, li, pr, hb, fi, st, im, jf, jx, mk, rfl⟩ := hk
  exact pn_g9
theorem mk_g10 {h : ss_Hp} (hk : mk_h h) : ss_gr h (some 118) 12 10 = some (some 129) := by
  obtain ⟨n, f, mi, dx, tp, sg, lg, cl, cs, rd, op, sk, wd, sd, th, fa, ws, kp, li, pr, hb, fi, st, im, jf, jx, mk, rfl⟩ := hk
  exact pn_g10
theorem mk_g11 {h : ss_Hp} (hk : mk_h h) : ss_gr h (some 118) 12 11 = some (some 130) := by
  obtain ⟨n, f, mi, dx, tp, sg, lg, cl, cs, rd, op, sk, wd, sd, th, fa, ws, kp, li, pr, hb, fi, st, im, jf, jx, mk, rfl⟩ := hk
  exact pn_g11
theorem mk_g12 {h : ss_Hp} (hk : mk_h h) : ss_gr h (some 118) 12 12 = some (some 131) := by
  obtain ⟨n, f, mi, dx, tp, sg, lg, cl, cs, rd, op, sk, wd, sd, th, fa, ws, kp, li, pr, hb, fi, st, im, jf, jx, mk, rfl⟩ := hk
  exact pn_g12
theorem mk_g13 {h : ss_Hp} (hk : mk_h h) : ss_gr h (some 118) 12 13 = some (some 132) := by
  obtain ⟨n, f, mi, dx, tp, sg, lg, cl, cs, rd, op, sk, wd, sd, th, fa, ws, kp, li, pr, hb, fi, st, im, jf, jx, mk, rfl⟩ := hk
  exact pn_g13
theorem mk_g14 {h : ss_Hp} (hk : mk_h h) : ss_gr h (some 118) 12 14 = some (some 133) := by
  obtain ⟨n, f, mi, dx, tp, sg, lg, cl, cs, rd, op, sk, wd, sd, th, fa, ws, kp, li, pr, hb, fi, st, im, jf, jx, mk, rfl⟩ := hk
  exact pn_g14
theorem mk_g15 {h : ss_Hp} (hk : mk_h h) : ss_gr h (some 118) 12 15 = some (some 134) := by
  obtain ⟨n, f, mi, dx, tp, sg, lg, cl, cs, rd, op, sk, wd, sd, th, fa, ws, kp, li, pr, hb, fi, st, im, jf, jx, mk, rfl⟩ := hk
  exact pn_g15
theorem mk_g16 {h : ss_Hp} (hk : mk_h h) : ss_gr h (some 118) 12 16 = some (some 135) := by
  obtain ⟨n, f, mi, dx, tp, sg, lg, cl, cs, rd, op, sk, wd, sd, th, fa, ws, kp, li, pr, hb, fi, st, im, jf, jx, mk, rfl⟩ := hk
  exact pn_g16
theorem mk_g17 {h : ss_Hp} (hk : mk_h h) : ss_gr h (some 118) 12 17 = some (some 136) := by
  obtain ⟨n, f, mi, dx, tp, sg, lg, cl, cs, rd, op, sk, wd, sd, th, fa, ws, kp, li, pr, hb, fi, st, im, jf, jx, mk, rfl⟩ := hk
  exact pn_g17
theorem mk_g18 {h : ss_Hp} (hk : mk_h h) : ss_gr h (some 118) 12 18 = some (some 137) := by
  obtain ⟨n, f, mi, dx, tp, sg, lg, cl, cs, rd, op, sk, wd, sd, th, fa, ws, kp, li, pr, hb, fi, st, im, jf, jx, mk, rfl⟩ := hk
  exact pn_g18
theorem mk_g19 {h : ss_Hp} (hk : mk_h h) : ss_gr h (some 118) 12 19 = some (some 138) := by
  obtain ⟨n, f, mi, dx, tp, sg, lg, cl, cs, rd, op, sk, wd, sd, th, fa, ws, kp, li, pr, hb, fi, st, im, jf, jx, mk, rfl⟩ := hk
  exact pn_g19
theorem mk_g20 {h : ss_Hp} (hk : mk_h h) : ss_gr h (some 118) 12 20 = some (some 139) := by
  obtain ⟨n, f, mi, dx, tp, sg, lg, cl, cs, rd, op, sk, wd, sd, th, fa, ws, kp, li, pr, hb, fi, st, im, jf, jx, mk, rfl⟩ := hk
  exact pn_g20
theorem mk_g21 {h : ss_Hp} (hk : mk_h h) : ss_gr h (some 118) 12 21 = some (some 140) := by
  obtain ⟨n, f, mi, dx, tp, sg, lg, cl, cs, rd, op, sk, wd, sd, th, fa, ws, kp, li, pr, hb, fi, st, im, jf, jx, mk, rfl⟩ := hk
  exact pn_g21
theorem mk_g22 {h : ss_Hp} (hk : mk_h h) : ss_gr h (some 118) 12 22 = some (some 141) := by
  obtain ⟨n, f, mi, dx, tp, sg, lg, cl, cs, rd, op, sk, wd, sd, th, fa, ws, kp, li, pr, hb, fi, st, im, jf, jx, mk, rfl⟩ := hk
  exact pn_g22
/-! the class: what lies now -/
def cb_h (h0 h : ss_Hp) (T : List Nat) (a : List Int32) (fo x : Int32) (RS : List (List ru_C)) (US : List (List Int32)) (I : Nat → Option (List Int32 × Int32 × Int32)) (Z : Nat → List Int32) : Prop := ∃ n g rc ti tb vt ri cd sx rl wi wv gi gs gw nd ns nw il ai yv yr yi ys yw yt yh yf yo yk fr fg pl pc pg, h = pk_C n g rc ti tb vt ri cd sx rl wi wv gi gs gw nd ns nw il ai yv yr yi ys yw yt yh yf yo yk fr fg pl pc pg ∧ cl_F n g rc ti tb vt ri cd sx rl wi wv gi gs gw nd ns nw il ai yv yr yi ys yw yt yh yf yo yk fr fg pl pc pg T a fo x RS US I ∧ (∀ p, 118 ≤ p → g p = h0.2 p ∧ n = h0.1) ∧ (fr = Z 0 ∧ fg = Z 1 ∧ pl = Z 2 ∧ pc = Z 3 ∧ pg = Z 4)
theorem cb_of {h : ss_Hp} {T : List Nat} {a : List Int32} {fo x : Int32} {RS : List (List ru_C)} {US : List (List Int32)} {I : Nat → Option (List Int32 × Int32 × Int32)} (hc : cl_h h T a fo x RS US I) : ∃ Z, cb_h h h T a fo x RS US I Z := by
  obtain ⟨n, g, rc, ti, tb, vt, ri, cd, sx, rl, wi, wv, gi, gs, gw, nd, ns, nw, il, ai, yv, yr, yi, ys, yw, yt, yh, yf, yo, yk, fr, fg, pl, pc, pg, e, F⟩ := hc
  refine ⟨fun j => if j = 0 then fr else if j = 1 then fg else if j = 2 then pl else if j = 3 then pc else pg, n, g, rc, ti, tb, vt, ri, cd, sx, rl, wi, wv, gi, gs, gw, nd, ns, nw, il, ai, yv, yr, yi, ys, yw, yt, yh, yf, yo, yk, fr, fg, pl, pc, pg, e, F, fun p hp => ⟨?_, ?_⟩, rfl, rfl, rfl, rfl, rfl⟩
  · rw [e, pk_out (by unfold pk_fr; omega)]
  · rw [e]
    rfl
/-- nothing lies where nothing was made -/
def fr_h (h : ss_Hp) : Prop := ∀ p, h.1 ≤ p → (h.2 p).1 = 99
theorem cb_cl {h0 h : ss_Hp} {T : List Nat} {a : List Int32} {fo x : Int32} {RS : List (List ru_C)} {US : List (List Int32)} {I : Nat → Option (List Int32 × Int32 × Int32)} {Z : Nat → List Int32} (hc : cb_h h0 h T a fo x RS US I Z) : cl_h h T a fo x RS US I ∧ (∀ p, 118 ≤ p ∧ p < 142 → h.2 p = h0.2 p) ∧ (fr_h h0 → fr_h h) := by
  obtain ⟨n, g, rc, ti, tb, vt, ri, cd, sx, rl, wi, wv, gi, gs, gw, nd, ns, nw, il, ai, yv, yr, yi, ys, yw, yt, yh, yf, yo, yk, fr, fg, pl, pc, pg, rfl, F, hg, -⟩ := hc
  refine ⟨⟨n, g, rc, ti, tb, vt, ri, cd, sx, rl, wi, wv, gi, gs, gw, nd, ns, nw, il, ai, yv, yr, yi, ys, yw, yt, yh, yf, yo, yk, fr, fg, pl, pc, pg, rfl, F⟩, fun p hp => by rw [pk_out (by unfold pk_fr; omega)]; exact (hg p hp.1).1, fun f p hp => ?_⟩
  have hp : n ≤ p := hp
  have h134 : 142 ≤ n := F.1
  rw [pk_out (by unfold pk_fr; omega), (hg p (by omega)).1]
  exact f p (by rw [← (hg p (by omega)).2]; exact hp)
theorem cb_ck {h0 h : ss_Hp} {T : List Nat} {a : List Int32} {fo x : Int32} {RS : List (List ru_C)} {US : List (List Int32)} {I : Nat → Option (List Int32 × Int32 × Int32)} {Z : Nat → List Int32} (hc : cb_h h0 h T a fo x RS US I Z) : ck_h h := by
  obtain ⟨n, g, rc, ti, tb, vt, ri, cd, sx, rl, wi, wv, gi, gs, gw, nd, ns, nw, il, ai, yv, yr, yi, ys, yw, yt, yh, yf, yo, yk, fr, fg, pl, pc, pg, rfl, F, hg, -⟩ := hc
  exact ⟨n, g, rc, ti, tb, vt, ri, cd, sx, rl, wi, wv, gi, gs, gw, nd, ns, nw, il, ai, yv, yr, yi, ys, yw, yt, yh, yf, yo, yk, fr, fg, pl, pc, pg, rfl⟩
theorem cb_len {h0 h : ss_Hp} {T : List Nat} {a : List Int32} {fo x : Int32} {RS : List (List ru_C)} {US : List (List Int32)} {I : Nat → Option (List Int32 × Int32 × Int32)} {Z : Nat → List Int32} (hc : cb_h h0 h T a fo x RS US I Z) : (Z 0).length = 488 ∧ (Z 1).length = 7 ∧ (Z 2).length = 8 ∧ (Z 3).length = 8 ∧ (Z 4).length = 64 := by
  obtain ⟨n, g, rc, ti, tb, vt, ri, cd, sx, rl, wi, wv, gi, gs, gw, nd, ns, nw, il, ai, yv, yr, yi, ys, yw, yt, yh, yf, yo, yk, fr, fg, pl, pc, pg, rfl, F, hg, z0, z1, z2, z3, z4⟩ := hc
  subst z0 z1 z2 z3 z4
  exact F.2.2.2.2.2.2.2.2.2
def cr_B (h : ss_Hp) (v : Nat) (a : List Int32) (fo x : Int32) : Prop := (ss_gr h (some 24) 8 0 = some (some v) ∧ ss_is h (some v) 5 = true ∧ ss_gi h (some v) 5 0 = some (sa_told a) ∧ ss_gi h (some v) 5 1 = some (pv a 0) ∧ ss_gi h (some v) 5 2 = some (pv a 1) ∧ ss_gi h (some v) 5 3 = some (pv a 2) ∧ ss_gi h (some v) 5 4 = some (pv a 3)) ∧ (ss_gr h (some v) 5 0 = some (some (v + 1)) ∧ ss_gr h (some v) 5 1 = some (some (v + 2)) ∧ ss_gr h (some v) 5 2 = some (some (v + 3)) ∧ ss_gr h (some v) 5 3 = some (some (v + 4)) ∧ ss_gr h (some v) 5 4 = some (some (v + 5))) ∧ (ss_gi h (some 24) 8 0 = some fo ∧ ss_gi h (some 24) 8 1 = some x ∧ ss_gi h (some 24) 8 2 = some (pv a 123)) ∧ (ss_gi h (some 33) 0 0 = some (pv a 11) ∧ ss_gi h (some 33) 0 1 = some (pv a 12) ∧ ss_gi h (some 33) 0 2 = some (pv a 13) ∧ ss_gi h (some 33) 0 3 = some (pv a 10)) ∧ (∀ i, i < 4 → ss_ai h (some (v + 1)) 20 (nI i) = some (pv a (38 + 2 * i))) ∧ (∀ i, i < 4 → ss_ai h (some (v + 2)) 20 (nI i) = some (pv a (38 + 2 * i + 1))) ∧ (∀ s, s < 8 → ss_ai h (some (v + 3)) 20 (nI s) = some (pv a (30 + s))) ∧ (∀ s, s < 8 → ss_ai h (some 34) 20 (nI s) = some (pv a (14 + s))) ∧ (¬ pv a 0 ≤ nI 0 → ∀ s, s < 8 → ss_ai h (some 35) 20 (nI s) = some (pv a (22 + s))) ∧ (∀ N s d, s < 8 → d < 2 ^ 31 → mm_V_isNeeded N (some v) (nI s) (nI d) h = some (if (sa_need a d >>> nI s) &&& nI 1 = nI 1 then nI 1 else nI 0)) ∧ (∀ N k, k ≤ 8 → pv a 2 = nI k → 8 < N → mm_Wo_closedBits N (some 24) h = some (sa_clo a k))
theorem cb_r {h0 h : ss_Hp} {T : List Nat} {a : List Int32} {fo x : Int32} {RS : List (List ru_C)} {US : List (List Int32)} {I : Nat → Option (List Int32 × Int32 × Int32)} {Z : Nat → List Int32} (hc : cb_h h0 h T a fo x RS US I Z) : ∃ v, cr_B h v a fo x := by
  obtain ⟨n, g, rc, ti, tb, vt, ri, cd, sx, rl, wi, wv, gi, gs, gw, nd, ns, nw, il, ai, yv, yr, yi, ys, yw, yt, yh, yf, yo, yk, fr, fg, pl, pc, pg, rfl, F, hg, -⟩ := hc
  obtain ⟨Fn, Frc, Ft, Fr, Fl, ⟨Fw, ⟨v, Fv, Fq⟩, Fg, Fs, Fwl, Fno⟩, Fi, ⟨nx, Fa, Fu⟩, Fy, Ff⟩ := F
  subst Fw Fv Fg Fs Fa
  obtain ⟨Fq0, Fq1, Fq2, Fq3, Fq4, Fq5⟩ := Fq
  have hf := qv_fr Fq0 (j := 0) (by omega)
  refine ⟨v, ⟨pk_r24_0, vr_is Fq0, ?_, vr_fall Fq0, vr_deep Fq0, vr_steps Fq0, vr_houses Fq0⟩, ⟨vr_r0 Fq0, vr_r1 Fq0, vr_r2 Fq0, vr_r3 Fq0, vr_r4 Fq0⟩, ⟨pk_x24_0, pk_x24_1, pk_x24_2⟩, ⟨pk_x33_0, pk_x33_1, pk_x33_2, pk_x33_3⟩, fun i hi => vr_own Fq0 hi, fun i hi => ?_, fun s hs => vr_beside Fq0 hs, fun s hs => pk_x34 hs, fun ht s hs => ?_, fun N s d hs hd => pq_isNeeded Fq0 hs hd, fun N k hk h2 hN => pq_Nclosed Fq0 hk h2 hN⟩
  · obtain ⟨h0, tl, nds, g0, g1, g3, g4, gl, gn⟩ := Fq0
    rw [g0] at Fq1
    exact (pk_oi hf g0 (j := 0) (by simp)).trans Fq1
  · rw [pk_oa (qv_fr Fq0 (j := 2) (by omega)) Fq2 (by simpa using hi) (by omega), pb_str hi]
  · have e := Fwl.2 ht
    subst e
    exact pk_x35 hs
/-! the class: the winter lies as b -/
def cw_h (h0 h : ss_Hp) (T : List Nat) (a : List Int32) (fo x : Int32) (RS : List (List ru_C)) (US : List (List Int32)) (I : Nat → Option (List Int32 × Int32 × Int32)) (Z : Nat → List Int32) (ro : Option (List ru_C)) (b : List Int32) (bu : Int32) (th fa : List Int32) : Prop := ∃ n g rc ti tb vt ri cd sx rl wi wv gi gs gw nd ns nw il ai yv yr yi ys yw yt yh yf yo yk fr fg pl pc pg, h = pk_C n g rc ti tb vt ri cd sx rl wi wv gi gs gw nd ns nw il ai yv yr yi ys yw yt yh yf yo yk fr fg pl pc pg ∧ cl_F n g rc ti tb vt ri cd sx rl wi wv gi gs gw nd ns nw il ai yv yr yi ys yw yt yh yf yo yk fr fg pl pc pg T a fo x RS US I ∧ (∀ p, 118 ≤ p → g p = h0.2 p ∧ n = h0.1) ∧ (fr = Z 0 ∧ fg = Z 1 ∧ pl = Z 2 ∧ pc = Z 3 ∧ pg = Z 4) ∧ (yi = [pv b 11, pv b 12, bu, pv b 10] ∧ ys = sl b 14 8 ∧ yw = sl b 22 8 ∧ yt = [pv b 39, pv b 41, pv b 43, pv b 45] ∧ yh = th ∧ yf = fa) ∧ (∃ v, yv = some v ∧ wv = some v ∧ qv_S g v b) ∧ rq_R g yr ro
theorem cw_cb {h0 h : ss_Hp} {T : List Nat} {a : List Int32} {fo x : Int32} {RS : List (List ru_C)} {US : List (List Int32)} {I : Nat → Option (List Int32 × Int32 × Int32)} {Z : Nat → List Int32} {ro : Option (List ru_C)} {b : List Int32} {bu : Int32} {th fa : List Int32} (hc : cw_h h0 h T a fo x RS US I Z ro b bu th fa) : cb_h h0 h T a fo x RS US I Z := by
  obtain ⟨n, g, rc, ti, tb, vt, ri, cd, sx, rl, wi, wv, gi, gs, gw, nd, ns, nw, il, ai, yv, yr, yi, ys, yw, yt, yh, yf, yo, yk, fr, fg, pl, pc, pg, e, F, hg, z, -⟩ := hc
  exact ⟨n, g, rc, ti, tb, vt, ri, cd, sx, rl, wi, wv, gi, gs, gw, nd, ns, nw, il, ai, yv, yr, yi, ys, yw, yt, yh, yf, yo, yk, fr, fg, pl, pc, pg, e, F, hg, z⟩
theorem cw_len {h0 h : ss_Hp} {T : List Nat} {a : List Int32} {fo x : Int32} {RS : List (List ru_C)} {US : List (List Int32)} {I : Nat → Option (List Int32 × Int32 × Int32)} {Z : Nat → List Int32} {ro : Option (List ru_C)} {b : List Int32} {bu : Int32} {th fa : List Int32} (hc : cw_h h0 h T a fo x RS US I Z ro b bu th fa) : th.length = 8 ∧ fa.length = 8 := by
  obtain ⟨n, g, rc, ti, tb, vt, ri, cd, sx, rl, wi, wv, gi, gs, gw, nd, ns, nw, il, ai, yv, yr, yi, ys, yw, yt, yh, yf, yo, yk, fr, fg, pl, pc, pg, e, F, hg, z, ⟨w1, w2, w3, w4, w5, w6⟩, -⟩ := hc
  subst w5 w6
  exact ⟨F.2.2.2.2.2.2.2.2.1.2.2.2.2.1, F.2.2.2.2.2.2.2.2.1.2.2.2.2.2.1⟩
