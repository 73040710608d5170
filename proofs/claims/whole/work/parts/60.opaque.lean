/-! ===== loops by a count; heaps that are not shown ===== -/
theorem pb_for {S E : Type} {body : S → Option (S ⊕ E)} (n : Nat) (I : Nat → S → Prop) (Po : E → Prop) {N : Nat} {s : S} (hN : n < N) (h0 : I 0 s) (hs : ∀ i s, i < n → I i s → (∃ s', body s = some (.inl s') ∧ I (i + 1) s') ∨ ∃ e, body s = some (.inr e) ∧ Po e) (he : ∀ s, I n s → ∃ e, body s = some (.inr e) ∧ Po e) : ∃ e, ss_lp body N s = some e ∧ Po e := by
  have key : ∀ d i, i + d = n → ∀ M, d < M → ∀ s, I i s → ∃ e, ss_lp body M s = some e ∧ Po e := by
    intro d
    induction d with
    | zero =>
      intro i hi M hM s h
      obtain ⟨M', rfl⟩ : ∃ M', M = M' + 1 := ⟨M - 1, by omega⟩
      have hin : i = n := by omega
      rw [hin] at h
      obtain ⟨e, h1, h2⟩ := he s h
      exact ⟨e, pb_stop h1, h2⟩
    | succ d ih =>
      intro i hi M hM s h
      obtain ⟨M', rfl⟩ : ∃ M', M = M' + 1 := ⟨M - 1, by omega⟩
      rcases hs i s (by omega) h with ⟨s', h1, h2⟩ | ⟨e, h1, h2⟩
      · obtain ⟨e, g1, g2⟩ := ih (i + 1) (by omega) M' (by omega) s' h2
        exact ⟨e, pb_step h1 g1, g2⟩
      · exact ⟨e, pb_stop h1, h2⟩
  exact key n 0 (by omega) N hN s h0
def z8 : List Int32 := List.replicate 8 (nI 0)
theorem z8_len : z8.length = 8 := rfl
def ro_of (fo : Int32) (RS : List (List ru_C)) : Option (List ru_C) := if fo < nI 0 then none else RS[fo.toNatClampNeg]?
def zs (Z : Nat → List Int32) (q : Nat) (l : List Int32) : Nat → List Int32 := fun j => if j = q then l else Z j
theorem zs_eq (Z : Nat → List Int32) (q : Nat) (l : List Int32) : zs Z q l q = l := by simp [zs]
theorem zs_ne (Z : Nat → List Int32) {q j : Nat} (l : List Int32) (h : j ≠ q) : zs Z q l j = Z j := by simp [zs, h]
/-! constant rows -/
def ck_h (h : ss_Hp) : Prop := ∃ n g rc ti tb vt ri cd sx rl wi wv gi gs gw nd ns nw il ai yv yr yi ys yw yt yh yf yo yk fr fg pl pc pg, h = pk_C n g rc ti tb vt ri cd sx rl wi wv gi gs gw nd ns nw il ai yv yr yi ys yw yt yh yf yo yk fr fg pl pc pg
theorem ck_is0 {h : ss_Hp} (hk : ck_h h) : ss_is h (some 0) 11 = true := by
  obtain ⟨n, g, rc, ti, tb, vt, ri, cd, sx, rl, wi, wv, gi, gs, gw, nd, ns, nw, il, ai, yv, yr, yi, ys, yw, yt, yh, yf, yo, yk, fr, fg, pl, pc, pg, rfl⟩ := hk
  exact pk_is0
theorem ck_r0_0 {h : ss_Hp} (hk : ck_h h) : ss_gr h (some 0) 11 0 = some (some 1) := by
  obtain ⟨n, g, rc, ti, tb, vt, ri, cd, sx, rl, wi, wv, gi, gs, gw, nd, ns, nw, il, ai, yv, yr, yi, ys, yw, yt, yh, yf, yo, yk, fr, fg, pl, pc, pg, rfl⟩ := hk
  exact pk_r0_0
theorem ck_r0_1 {h : ss_Hp} (hk : ck_h h) : ss_gr h (some 0) 11 1 = some (some 3) := by
  obtain ⟨n, g, rc, ti, tb, vt, ri, cd, sx, rl, wi, wv, gi, gs, gw, nd, ns, nw, il, ai, yv, yr, yi, ys, yw, yt, yh, yf, yo, yk, fr, fg, pl, pc, pg, rfl⟩ := hk
  exact pk_r0_1
theorem ck_r0_2 {h : ss_Hp} (hk : ck_h h) : ss_gr h (some 0) 11 2 = some (some 12) := by
  obtain ⟨n, g, rc, ti, tb, vt, ri, cd, sx, rl, wi, wv, gi, gs, gw, nd, ns, nw, il, ai, yv, yr, yi, ys, yw, yt, yh, yf, yo, yk, fr, fg, pl, pc, pg, rfl⟩ := hk
  exact pk_r0_2
theorem ck_r0_3 {h : ss_Hp} (hk : ck_h h) : ss_gr h (some 0) 11 3 = some (some 15) := by
  obtain ⟨n, g, rc, ti, tb, vt, ri, cd, sx, rl, wi, wv, gi, gs, gw, nd, ns, nw, il, ai, yv, yr, yi, ys, yw, yt, yh, yf, yo, yk, fr, fg, pl, pc, pg, rfl⟩ := hk
  exact pk_r0_3
theorem ck_r0_4 {h : ss_Hp} (hk : ck_h h) : ss_gr h (some 0) 11 4 = some (some 16) := by
  obtain ⟨n, g, rc, ti, tb, vt, ri, cd, sx, rl, wi, wv, gi, gs, gw, nd, ns, nw, il, ai, yv, yr, yi, ys, yw, yt, yh, yf, yo, yk, fr, fg, pl, pc, pg, rfl⟩ := hk
  exact pk_r0_4
theorem ck_r0_5 {h : ss_Hp} (hk : ck_h h) : ss_gr h (some 0) 11 5 = some (some 31) := by
  obtain ⟨n, g, rc, ti, tb, vt, ri, cd, sx, rl, wi, wv, gi, gs, gw, nd, ns, nw, il, ai, yv, yr, yi, ys, yw, yt, yh, yf, yo, yk, fr, fg, pl, pc, pg, rfl⟩ := hk
  exact pk_r0_5
theorem ck_r0_6 {h : ss_Hp} (hk : ck_h h) : ss_gr h (some 0) 11 6 = some (some 32) := by
  obtain ⟨n, g, rc, ti, tb, vt, ri, cd, sx, rl, wi, wv, gi, gs, gw, nd, ns, nw, il, ai, yv, yr, yi, ys, yw, yt, yh, yf, yo, yk, fr, fg, pl, pc, pg, rfl⟩ := hk
  exact pk_r0_6
theorem ck_r0_7 {h : ss_Hp} (hk : ck_h h) : ss_gr h (some 0) 11 7 = some (some 94) := by
  obtain ⟨n, g, rc, ti, tb, vt, ri, cd, sx, rl, wi, wv, gi, gs, gw, nd, ns, nw, il, ai, yv, yr, yi, ys, yw, yt, yh, yf, yo, yk, fr, fg, pl, pc, pg, rfl⟩ := hk
  exact pk_r0_7
theorem ck_r0_8 {h : ss_Hp} (hk : ck_h h) : ss_gr h (some 0) 11 8 = some (some 103) := by
  obtain ⟨n, g, rc, ti, tb, vt, ri, cd, sx, rl, wi, wv, gi, gs, gw, nd, ns, nw, il, ai, yv, yr, yi, ys, yw, yt, yh, yf, yo, yk, fr, fg, pl, pc, pg, rfl⟩ := hk
  exact pk_r0_8
theorem ck_r0_9 {h : ss_Hp} (hk : ck_h h) : ss_gr h (some 0) 11 9 = some (some 106) := by
  obtain ⟨n, g, rc, ti, tb, vt, ri, cd, sx, rl, wi, wv, gi, gs, gw, nd, ns, nw, il, ai, yv, yr, yi, ys, yw, yt, yh, yf, yo, yk, fr, fg, pl, pc, pg, rfl⟩ := hk
  exact pk_r0_9
theorem ck_is1 {h : ss_Hp} (hk : ck_h h) : ss_is h (some 1) 2 = true := by
  obtain ⟨n, g, rc, ti, tb, vt, ri, cd, sx, rl, wi, wv, gi, gs, gw, nd, ns, nw, il, ai, yv, yr, yi, ys, yw, yt, yh, yf, yo, yk, fr, fg, pl, pc, pg, rfl⟩ := hk
  exact pk_is1
theorem ck_r1_0 {h : ss_Hp} (hk : ck_h h) : ss_gr h (some 1) 2 0 = some (some 2) := by
  obtain ⟨n, g, rc, ti, tb, vt, ri, cd, sx, rl, wi, wv, gi, gs, gw, nd, ns, nw, il, ai, yv, yr, yi, ys, yw, yt, yh, yf, yo, yk, fr, fg, pl, pc, pg, rfl⟩ := hk
  exact pk_r1_0
theorem ck_is3 {h : ss_Hp} (hk : ck_h h) : ss_is h (some 3) 6 = true := by
  obtain ⟨n, g, rc, ti, tb, vt, ri, cd, sx, rl, wi, wv, gi, gs, gw, nd, ns, nw, il, ai, yv, yr, yi, ys, yw, yt, yh, yf, yo, yk, fr, fg, pl, pc, pg, rfl⟩ := hk
  exact pk_is3
theorem ck_r3_0 {h : ss_Hp} (hk : ck_h h) : ss_gr h (some 3) 6 0 = some (some 1) := by
  obtain ⟨n, g, rc, ti, tb, vt, ri, cd, sx, rl, wi, wv, gi, gs, gw, nd, ns, nw, il, ai, yv, yr, yi, ys, yw, yt, yh, yf, yo, yk, fr, fg, pl, pc, pg, rfl⟩ := hk
  exact pk_r3_0
theorem ck_is12 {h : ss_Hp} (hk : ck_h h) : ss_is h (some 12) 4 = true := by
  obtain ⟨n, g, rc, ti, tb, vt, ri, cd, sx, rl, wi, wv, gi, gs, gw, nd, ns, nw, il, ai, yv, yr, yi, ys, yw, yt, yh, yf, yo, yk, fr, fg, pl, pc, pg, rfl⟩ := hk
  exact pk_is12
theorem ck_r12_0 {h : ss_Hp} (hk : ck_h h) : ss_gr h (some 12) 4 0 = some (some 1) := by
  obtain ⟨n, g, rc, ti, tb, vt, ri, cd, sx, rl, wi, wv, gi, gs, gw, nd, ns, nw, il, ai, yv, yr, yi, ys, yw, yt, yh, yf, yo, yk, fr, fg, pl, pc, pg, rfl⟩ := hk
  exact pk_r12_0
theorem ck_r12_1 {h : ss_Hp} (hk : ck_h h) : ss_gr h (some 12) 4 1 = some (some 13) := by
  obtain ⟨n, g, rc, ti, tb, vt, ri, cd, sx, rl, wi, wv, gi, gs, gw, nd, ns, nw, il, ai, yv, yr, yi, ys, yw, yt, yh, yf, yo, yk, fr, fg, pl, pc, pg, rfl⟩ := hk
  exact pk_r12_1
theorem ck_r12_2 {h : ss_Hp} (hk : ck_h h) : ss_gr h (some 12) 4 2 = some (some 14) := by
  obtain ⟨n, g, rc, ti, tb, vt, ri, cd, sx, rl, wi, wv, gi, gs, gw, nd, ns, nw, il, ai, yv, yr, yi, ys, yw, yt, yh, yf, yo, yk, fr, fg, pl, pc, pg, rfl⟩ := hk
  exact pk_r12_2
theorem ck_is16 {h : ss_Hp} (hk : ck_h h) : ss_is h (some 16) 8 = true := by
  obtain ⟨n, g, rc, ti, tb, vt, ri, cd, sx, rl, wi, wv, gi, gs, gw, nd, ns, nw, il, ai, yv, yr, yi, ys, yw, yt, yh, yf, yo, yk, fr, fg, pl, pc, pg, rfl⟩ := hk
  exact pk_is16
theorem ck_r16_1 {h : ss_Hp} (hk : ck_h h) : ss_gr h (some 16) 8 1 = some (some 25) := by
  obtain ⟨n, g, rc, ti, tb, vt, ri, cd, sx, rl, wi, wv, gi, gs, gw, nd, ns, nw, il, ai, yv, yr, yi, ys, yw, yt, yh, yf, yo, yk, fr, fg, pl, pc, pg, rfl⟩ := hk
  exact pk_r16_1
theorem ck_r16_2 {h : ss_Hp} (hk : ck_h h) : ss_gr h (some 16) 8 2 = some (some 28) := by
  obtain ⟨n, g, rc, ti, tb, vt, ri, cd, sx, rl, wi, wv, gi, gs, gw, nd, ns, nw, il, ai, yv, yr, yi, ys, yw, yt, yh, yf, yo, yk, fr, fg, pl, pc, pg, rfl⟩ := hk
  exact pk_r16_2
theorem ck_r16_3 {h : ss_Hp} (hk : ck_h h) : ss_gr h (some 16) 8 3 = some (some 29) := by
  obtain ⟨n, g, rc, ti, tb, vt, ri, cd, sx, rl, wi, wv, gi, gs, gw, nd, ns, nw, il, ai, yv, yr, yi, ys, yw, yt, yh, yf, yo, yk, fr, fg, pl, pc, pg, rfl⟩ := hk
  exact pk_r16_3
theorem ck_r16_4 {h : ss_Hp} (hk : ck_h h) : ss_gr h (some 16) 8 4 = some (some 30) := by
  obtain ⟨n, g, rc, ti, tb, vt, ri, cd, sx, rl, wi, wv, gi, gs, gw, nd, ns, nw, il, ai, yv, yr, yi, ys, yw, yt, yh, yf, yo, yk, fr, fg, pl, pc, pg, rfl⟩ := hk
  exact pk_r16_4
theorem ck_is25 {h : ss_Hp} (hk : ck_h h) : ss_is h (some 25) 0 = true := by
  obtain ⟨n, g, rc, ti, tb, vt, ri, cd, sx, rl, wi, wv, gi, gs, gw, nd, ns, nw, il, ai, yv, yr, yi, ys, yw, yt, yh, yf, yo, yk, fr, fg, pl, pc, pg, rfl⟩ := hk
  exact pk_is25
theorem ck_r25_0 {h : ss_Hp} (hk : ck_h h) : ss_gr h (some 25) 0 0 = some (some 26) := by
  obtain ⟨n, g, rc, ti, tb, vt, ri, cd, sx, rl, wi, wv, gi, gs, gw, nd, ns, nw, il, ai, yv, yr, yi, ys, yw, yt, yh, yf, yo, yk, fr, fg, pl, pc, pg, rfl⟩ := hk
  exact pk_r25_0
theorem ck_r25_1 {h : ss_Hp} (hk : ck_h h) : ss_gr h (some 25) 0 1 = some (some 27) := by
  obtain ⟨n, g, rc, ti, tb, vt, ri, cd, sx, rl, wi, wv, gi, gs, gw, nd, ns, nw, il, ai, yv, yr, yi, ys, yw, yt, yh, yf, yo, yk, fr, fg, pl, pc, pg, rfl⟩ := hk
  exact pk_r25_1
theorem ck_is32 {h : ss_Hp} (hk : ck_h h) : ss_is h (some 32) 3 = true := by
  obtain ⟨n, g, rc, ti, tb, vt, ri, cd, sx, rl, wi, wv, gi, gs, gw, nd, ns, nw, il, ai, yv, yr, yi, ys, yw, yt, yh, yf, yo, yk, fr, fg, pl, pc, pg, rfl⟩ := hk
  exact pk_is32
theorem ck_r32_0 {h : ss_Hp} (hk : ck_h h) : ss_gr h (some 32) 3 0 = some (some 33) := by
  obtain ⟨n, g, rc, ti, tb, vt, ri, cd, sx, rl, wi, wv, gi, gs, gw, nd, ns, nw, il, ai, yv, yr, yi, ys, yw, yt, yh, yf, yo, yk, fr, fg, pl, pc, pg, rfl⟩ := hk
  exact pk_r32_0
theorem ck_is94 {h : ss_Hp} (hk : ck_h h) : ss_is h (some 94) 7 = true := by
  obtain ⟨n, g, rc, ti, tb, vt, ri, cd, sx, rl, wi, wv, gi, gs, gw, nd, ns, nw, il, ai, yv, yr, yi, ys, yw, yt, yh, yf, yo, yk, fr, fg, pl, pc, pg, rfl⟩ := hk
  exact pk_is94
theorem ck_r94_0 {h : ss_Hp} (hk : ck_h h) : ss_gr h (some 94) 7 0 = some (some 95) := by
  obtain ⟨n, g, rc, ti, tb, vt, ri, cd, sx, rl, wi, wv, gi, gs, gw, nd, ns, nw, il, ai, yv, yr, yi, ys, yw, yt, yh, yf, yo, yk, fr, fg, pl, pc, pg, rfl⟩ := hk
  exact pk_r94_0
theorem ck_r94_1 {h : ss_Hp} (hk : ck_h h) : ss_gr h (some 94) 7 1 = some (some 98) := by
  obtain ⟨n, g, rc, ti, tb, vt, ri, cd, sx, rl, wi, wv, gi, gs, gw, nd, ns, nw, il, ai, yv, yr, yi, ys, yw, yt, yh, yf, yo, yk, fr, fg, pl, pc, pg, rfl⟩ := hk
  exact pk_r94_1
theorem ck_r94_2 {h : ss_Hp} (hk : ck_h h) : ss_gr h (some 94) 7 2 = some (some 99) := by
  obtain ⟨n, g, rc, ti, tb, vt, ri, cd, sx, rl, wi, wv, gi, gs, gw, nd, ns, nw, il, ai, yv, yr, yi, ys, yw, yt, yh, yf, yo, yk, fr, fg, pl, pc, pg, rfl⟩ := hk
  exact pk_r94_2
theorem ck_r94_3 {h : ss_Hp} (hk : ck_h h) : ss_gr h (some 94) 7 3 = some (some 100) := by
  obtain ⟨n, g, rc, ti, tb, vt, ri, cd, sx, rl, wi, wv, gi, gs, gw, nd, ns, nw, il, ai, yv, yr, yi, ys, yw, yt, yh, yf, yo, yk, fr, fg, pl, pc, pg, rfl⟩ := hk
  exact pk_r94_3
theorem ck_r94_4 {h : ss_Hp} (hk : ck_h h) : ss_gr h (some 94) 7 4 = some (some 101) := by
  obtain ⟨n, g, rc, ti, tb, vt, ri, cd, sx, rl, wi, wv, gi, gs, gw, nd, ns, nw, il, ai, yv, yr, yi, ys, yw, yt, yh, yf, yo, yk, fr, fg, pl, pc, pg, rfl⟩ := hk
  exact pk_r94_4
theorem ck_r94_5 {h : ss_Hp} (hk : ck_h h) : ss_gr h (some 94) 7 5 = some (some 102) := by
  obtain ⟨n, g, rc, ti, tb, vt, ri, cd, sx, rl, wi, wv, gi, gs, gw, nd, ns, nw, il, ai, yv, yr, yi, ys, yw, yt, yh, yf, yo, yk, fr, fg, pl, pc, pg, rfl⟩ := hk
  exact pk_r94_5
theorem ck_is95 {h : ss_Hp} (hk : ck_h h) : ss_is h (some 95) 0 = true := by
  obtain ⟨n, g, rc, ti, tb, vt, ri, cd, sx, rl, wi, wv, gi, gs, gw, nd, ns, nw, il, ai, yv, yr, yi, ys, yw, yt, yh, yf, yo, yk, fr, fg, pl, pc, pg, rfl⟩ := hk
  exact pk_is95
theorem ck_r95_0 {h : ss_Hp} (hk : ck_h h) : ss_gr h (some 95) 0 0 = some (some 96) := by
  obtain ⟨n, g, rc, ti, tb, vt, ri, cd, sx, rl, wi, wv, gi, gs, gw, nd, ns, nw, il, ai, yv, yr, yi, ys, yw, yt, yh, yf, yo, yk, fr, fg, pl, pc, pg, rfl⟩ := hk
  exact pk_r95_0
theorem ck_r95_1 {h : ss_Hp} (hk : ck_h h) : ss_gr h (some 95) 0 1 = some (some 97) := by
  obtain ⟨n, g, rc, ti, tb, vt, ri, cd, sx, rl, wi, wv, gi, gs, gw, nd, ns, nw, il, ai, yv, yr, yi, ys, yw, yt, yh, yf, yo, yk, fr, fg, pl, pc, pg, rfl⟩ := hk
  exact pk_r95_1
theorem ck_is103 {h : ss_Hp} (hk : ck_h h) : ss_is h (some 103) 9 = true := by
  obtain ⟨n, g, rc, ti, tb, vt, ri, cd, sx, rl, wi, wv, gi, gs, gw, nd, ns, nw, il, ai, yv, yr, yi, ys, yw, yt, yh, yf, yo, yk, fr, fg, pl, pc, pg, rfl⟩ := hk
  exact pk_is103
theorem ck_r103_0 {h : ss_Hp} (hk : ck_h h) : ss_gr h (some 103) 9 0 = some (some 16) := by
  obtain ⟨n, g, rc, ti, tb, vt, ri, cd, sx, rl, wi, wv, gi, gs, gw, nd, ns, nw, il, ai, yv, yr, yi, ys, yw, yt, yh, yf, yo, yk, fr, fg, pl, pc, pg, rfl⟩ := hk
  exact pk_r103_0
theorem ck_r103_1 {h : ss_Hp} (hk : ck_h h) : ss_gr h (some 103) 9 1 = some (some 15) := by
  obtain ⟨n, g, rc, ti, tb, vt, ri, cd, sx, rl, wi, wv, gi, gs, gw, nd, ns, nw, il, ai, yv, yr, yi, ys, yw, yt, yh, yf, yo, yk, fr, fg, pl, pc, pg, rfl⟩ := hk
  exact pk_r103_1
theorem ck_r103_2 {h : ss_Hp} (hk : ck_h h) : ss_gr h (some 103) 9 2 = some (some 94) := by
  obtain ⟨n, g, rc, ti, tb, vt, ri, cd, sx, rl, wi, wv, gi, gs, gw, nd, ns, nw, il, ai, yv, yr, yi, ys, yw, yt, yh, yf, yo, yk, fr, fg, pl, pc, pg, rfl⟩ := hk
  exact pk_r103_2
theorem ck_r103_3 {h : ss_Hp} (hk : ck_h h) : ss_gr h (some 103) 9 3 = some (some 104) := by
  obtain ⟨n, g, rc, ti, tb, vt, ri, cd, sx, rl, wi, wv, gi, gs, gw, nd, ns, nw, il, ai, yv, yr, yi, ys, yw, yt, yh, yf, yo, yk, fr, fg, pl, pc, pg, rfl⟩ := hk
  exact pk_r103_3
theorem ck_r103_4 {h : ss_Hp} (hk : ck_h h) : ss_gr h (some 103) 9 4 = some (some 105) := by
  obtain ⟨n, g, rc, ti, tb, vt, ri, cd, sx, rl, wi, wv, gi, gs, gw, nd, ns, nw, il, ai, yv, yr, yi, ys, yw, yt, yh, yf, yo, yk, fr, fg, pl, pc, pg, rfl⟩ := hk
  exact pk_r103_4
theorem ck_is106 {h : ss_Hp} (hk : ck_h h) : ss_is h (some 106) 10 = true := by
  obtain ⟨n, g, rc, ti, tb, vt, ri, cd, sx, rl, wi, wv, gi, gs, gw, nd, ns, nw, il, ai, yv, yr, yi, ys, yw, yt, yh, yf, yo, yk, fr, fg, pl, pc, pg, rfl⟩ := hk
  exact pk_is106
theorem ck_r106_0 {h : ss_Hp} (hk : ck_h h) : ss_gr h (some 106) 10 0 = some (some 16) := by
  obtain ⟨n, g, rc, ti, tb, vt, ri, cd, sx, rl, wi, wv, gi, gs, gw, nd, ns, nw, il, ai, yv, yr, yi, ys, yw, yt, yh, yf, yo, yk, fr, fg, pl, pc, pg, rfl⟩ := hk
  exact pk_r106_0
theorem ck_r106_1 {h : ss_Hp} (hk : ck_h h) : ss_gr h (some 106) 10 1 = some (some 94) := by
  obtain ⟨n, g, rc, ti, tb, vt, ri, cd, sx, rl, wi, wv, gi, gs, gw, nd, ns, nw, il, ai, yv, yr, yi, ys, yw, yt, yh, yf, yo, yk, fr, fg, pl, pc, pg, rfl⟩ := hk
  exact pk_r106_1
theorem ck_r106_2 {h : ss_Hp} (hk : ck_h h) : ss_gr h (some 106) 10 2 = some (some 107) := by
  obtain ⟨n, g, rc, ti, tb, vt, ri, cd, sx, rl, wi, wv, gi, gs, gw, nd, ns, nw, il, ai, yv, yr, yi, ys, yw, yt, yh, yf, yo, yk, fr, fg, pl, pc, pg, rfl⟩ := hk
  exact pk_r106_2
theorem ck_r106_3 {h : ss_Hp} (hk : ck_h h) : ss_gr h (some 106) 10 3 = some (some 108) := by
  obtain ⟨n, g, rc, ti, tb, vt, ri, cd, sx, rl, wi, wv, gi, gs, gw, nd, ns, nw, il, ai, yv, yr, yi, ys, yw, yt, yh, yf, yo, yk, fr, fg, pl, pc, pg, rfl⟩ := hk
  exact pk_r106_3
theorem ck_r106_4 {h : ss_Hp} (hk : ck_h h) : ss_gr h (some 106) 10 4 = some (some 109) := by
  obtain ⟨n, g, rc, ti, tb, vt, ri, cd, sx, rl, wi, wv, gi, gs, gw, nd, ns, nw, il, ai, yv, yr, yi, ys, yw, yt, yh, yf, yo, yk, fr, fg, pl, pc, pg, rfl⟩ := hk
  exact pk_r106_4
def mk_h (h : ss_Hp) : Prop := ∃ n f mi dx tp sg lg cl cs rd op sk wd sd th fa ws kp li pr hb fi st im jf jx mk, h = pm_M n f mi dx tp sg lg cl cs rd op sk wd sd th fa ws kp li pr hb fi st im jf jx mk
theorem mk_is {h : ss_Hp} (hk : mk_h h) : ss_is h (some 110) 12 = true := by
  obtain ⟨n, f, mi, dx, tp, sg, lg, cl, cs, rd, op, sk, wd, sd, th, fa, ws, kp, li, pr, hb, fi, st, im, jf, jx, mk, rfl⟩ := hk
  exact pn_is
theorem mk_g0 {h : ss_Hp} (hk : mk_h h) : ss_gr h (some 110) 12 0 = some (some 111) := by
  obtain ⟨n, f, mi, dx, tp, sg, lg, cl, cs, rd, op, sk, wd, sd, th, fa, ws, kp, li, pr, hb, fi, st, im, jf, jx, mk, rfl⟩ := hk
  exact pn_g0
theorem mk_g1 {h : ss_Hp} (hk : mk_h h) : ss_gr h (some 110) 12 1 = some (some 112) := by
  obtain ⟨n, f, mi, dx, tp, sg, lg, cl, cs, rd, op, sk, wd, sd, th, fa, ws, kp, li, pr, hb, fi, st, im, jf, jx, mk, rfl⟩ := hk
  exact pn_g1
theorem mk_g2 {h : ss_Hp} (hk : mk_h h) : ss_gr h (some 110) 12 2 = some (some 113) := by
  obtain ⟨n, f, mi, dx, tp, sg, lg, cl, cs, rd, op, sk, wd, sd, th, fa, ws, kp, li, pr, hb, fi, st, im, jf, jx, mk, rfl⟩ := hk
  exact pn_g2
theorem mk_g3 {h : ss_Hp} (hk : mk_h h) : ss_gr h (some 110) 12 3 = some (some 114) := by
  obtain ⟨n, f, mi, dx, tp, sg, lg, cl, cs, rd, op, sk, wd, sd, th, fa, ws, kp, li, pr, hb, fi, st, im, jf, jx, mk, rfl⟩ := hk
  exact pn_g3
theorem mk_g4 {h : ss_Hp} (hk : mk_h h) : ss_gr h (some 110) 12 4 = some (some 115) := by
  obtain ⟨n, f, mi, dx, tp, sg, lg, cl, cs, rd, op, sk, wd, sd, th, fa, ws, kp, li, pr, hb, fi, st, im, jf, jx, mk, rfl⟩ := hk
  exact pn_g4
theorem mk_g5 {h : ss_Hp} (hk : mk_h h) : ss_gr h (some 110) 12 5 = some (some 116) := by
  obtain ⟨n, f, mi, dx, tp, sg, lg, cl, cs, rd, op, sk, wd, sd, th, fa, ws, kp, li, pr, hb, fi, st, im, jf, jx, mk, rfl⟩ := hk
  exact pn_g5
theorem mk_g6 {h : ss_Hp} (hk : mk_h h) : ss_gr h (some 110) 12 6 = some (some 117) := by
  obtain ⟨n, f, mi, dx, tp, sg, lg, cl, cs, rd, op, sk, wd, sd, th, fa, ws, kp, li, pr, hb, fi, st, im, jf, jx, mk, rfl⟩ := hk
  exact pn_g6
theorem mk_g7 {h : ss_Hp} (hk : mk_h h) : ss_gr h (some 110) 12 7 = some (some 118) := by
  obtain ⟨n, f, mi, dx, tp, sg, lg, cl, cs, rd, op, sk, wd, sd, th, fa, ws, kp, li, pr, hb, fi, st, im, jf, jx, mk, rfl⟩ := hk
  exact pn_g7
theorem mk_g8 {h : ss_Hp} (hk : mk_h h) : ss_gr h (some 110) 12 8 = some (some 119) := by
  obtain ⟨n, f, mi, dx, tp, sg, lg, cl, cs, rd, op, sk, wd, sd, th, fa, ws, kp, li, pr, hb, fi, st, im, jf, jx, mk, rfl⟩ := hk
  exact pn_g8
theorem mk_g9 {h : ss_Hp} (hk : mk_h h) : ss_gr h (some 110) 12 9 = some (some 120) := by
  obtain ⟨n, f, mi, dx, tp, sg, lg, cl, cs, rd, op, sk, wd, sd, th, fa, ws, kp, li, pr, hb, fi, st, im, jf, jx, mk, rfl⟩ := hk
  exact pn_g9
theorem mk_g10 {h : ss_Hp} (hk : mk_h h) : ss_gr h (some 110) 12 10 = some (some 121) := by
  obtain ⟨n, f, mi, dx, tp, sg, lg, cl, cs, rd, op, sk, wd, sd, th, fa, ws, kp, li, pr, hb, fi, st, im, jf, jx, mk, rfl⟩ := hk
  exact pn_g10
theorem mk_g11 {h : ss_Hp} (hk : mk_h h) : ss_gr h (some 110) 12 11 = some (some 122) := by
  obtain ⟨n, f, mi, dx, tp, sg, lg, cl, cs, rd, op, sk, wd, sd, th, fa, ws, kp, li, pr, hb, fi, st, im, jf, jx, mk, rfl⟩ := hk
  exact pn_g11
theorem mk_g12 {h : ss_Hp} (hk : mk_h h) : ss_gr h (some 110) 12 12 = some (some 123) := by
  obtain ⟨n, f, mi, dx, tp, sg, lg, cl, cs, rd, op, sk, wd, sd, th, fa, ws, kp, li, pr, hb, fi, st, im, jf, jx, mk, rfl⟩ := hk
  exact pn_g12
theorem mk_g13 {h : ss_Hp} (hk : mk_h h) : ss_gr h (some 110) 12 13 = some (some 124) := by
  obtain ⟨n, f, mi, dx, tp, sg, lg, cl, cs, rd, op, sk, wd, sd, th, fa, ws, kp, li, pr, hb, fi, st, im, jf, jx, mk, rfl⟩ := hk
  exact pn_g13
theorem mk_g14 {h : ss_Hp} (hk : mk_h h) : ss_gr h (some 110) 12 14 = some (some 125) := by
  obtain ⟨n, f, mi, dx, tp, sg, lg, cl, cs, rd, op, sk, wd, sd, th, fa, ws, kp, li, pr, hb, fi, st, im, jf, jx, mk, rfl⟩ := hk
  exact pn_g14
theorem mk_g15 {h : ss_Hp} (hk : mk_h h) : ss_gr h (some 110) 12 15 = some (some 126) := by
  obtain ⟨n, f, mi, dx, tp, sg, lg, cl, cs, rd, op, sk, wd, sd, th, fa, ws, kp, li, pr, hb, fi, st, im, jf, jx, mk, rfl⟩ := hk
  exact pn_g15
theorem mk_g16 {h : ss_Hp} (hk : mk_h h) : ss_gr h (some 110) 12 16 = some (some 127) := by
  obtain ⟨n, f, mi, dx, tp, sg, lg, cl, cs, rd, op, sk, wd, sd, th, fa, ws, kp, li, pr, hb, fi, st, im, jf, jx, mk, rfl⟩ := hk
  exact pn_g16
theorem mk_g17 {h : ss_Hp} (hk : mk_h h) : ss_gr h (some 110) 12 17 = some (some 128) := by
  obtain ⟨n, f, mi, dx, tp, sg, lg, cl, cs, rd, op, sk, wd, sd, th, fa, ws, kp, li, pr, hb, fi, st, im, jf, jx, mk, rfl⟩ := hk
  exact pn_g17
theorem mk_g18 {h : ss_Hp} (hk : mk_h h) : ss_gr h (some 110) 12 18 = some (some 129) := by
  obtain ⟨n, f, mi, dx, tp, sg, lg, cl, cs, rd, op, sk, wd, sd, th, fa, ws, kp, li, pr, hb, fi, st, im, jf, jx, mk, rfl⟩ := hk
  exact pn_g18
theorem mk_g19 {h : ss_Hp} (hk : mk_h h) : ss_gr h (some 110) 12 19 = some (some 130) := by
  obtain ⟨n, f, mi, dx, tp, sg, lg, cl, cs, rd, op, sk, wd, sd, th, fa, ws, kp, li, pr, hb, fi, st, im, jf, jx, mk, rfl⟩ := hk
  exact pn_g19
theorem mk_g20 {h : ss_Hp} (hk : mk_h h) : ss_gr h (some 110) 12 20 = some (some 131) := by
  obtain ⟨n, f, mi, dx, tp, sg, lg, cl, cs, rd, op, sk, wd, sd, th, fa, ws, kp, li, pr, hb, fi, st, im, jf, jx, mk, rfl⟩ := hk
  exact pn_g20
theorem mk_g21 {h : ss_Hp} (hk : mk_h h) : ss_gr h (some 110) 12 21 = some (some 132) := by
  obtain ⟨n, f, mi, dx, tp, sg, lg, cl, cs, rd, op, sk, wd, sd, th, fa, ws, kp, li, pr, hb, fi, st, im, jf, jx, mk, rfl⟩ := hk
  exact pn_g21
theorem mk_g22 {h : ss_Hp} (hk : mk_h h) : ss_gr h (some 110) 12 22 = some (some 133) := by
  obtain ⟨n, f, mi, dx, tp, sg, lg, cl, cs, rd, op, sk, wd, sd, th, fa, ws, kp, li, pr, hb, fi, st, im, jf, jx, mk, rfl⟩ := hk
  exact pn_g22
/-! the class: what lies now -/
def cb_h (h0 h : ss_Hp) (T : List Nat) (a : List Int32) (fo x : Int32) (RS : List (List ru_C)) (US : List (List Int32)) (I : Nat → Option (List Int32 × Int32 × Int32)) (Z : Nat → List Int32) : Prop := ∃ n g rc ti tb vt ri cd sx rl wi wv gi gs gw nd ns nw il ai yv yr yi ys yw yt yh yf yo yk fr fg pl pc pg, h = pk_C n g rc ti tb vt ri cd sx rl wi wv gi gs gw nd ns nw il ai yv yr yi ys yw yt yh yf yo yk fr fg pl pc pg ∧ cl_F n g rc ti tb vt ri cd sx rl wi wv gi gs gw nd ns nw il ai yv yr yi ys yw yt yh yf yo yk fr fg pl pc pg T a fo x RS US I ∧ (∀ p, 110 ≤ p → g p = h0.2 p ∧ n = h0.1) ∧ (fr = Z 0 ∧ fg = Z 1 ∧ pl = Z 2 ∧ pc = Z 3 ∧ pg = Z 4)
theorem cb_of {h : ss_Hp} {T : List Nat} {a : List Int32} {fo x : Int32} {RS : List (List ru_C)} {US : List (List Int32)} {I : Nat → Option (List Int32 × Int32 × Int32)} (hc : cl_h h T a fo x RS US I) : ∃ Z, cb_h h h T a fo x RS US I Z := by
  obtain ⟨n, g, rc, ti, tb, vt, ri, cd, sx, rl, wi, wv, gi, gs, gw, nd, ns, nw, il, ai, yv, yr, yi, ys, yw, yt, yh, yf, yo, yk, fr, fg, pl, pc, pg, e, F⟩ := hc
  refine ⟨fun j => if j = 0 then fr else if j = 1 then fg else if j = 2 then pl else if j = 3 then pc else pg, n, g, rc, ti, tb, vt, ri, cd, sx, rl, wi, wv, gi, gs, gw, nd, ns, nw, il, ai, yv, yr, yi, ys, yw, yt, yh, yf, yo, yk, fr, fg, pl, pc, pg, e, F, fun p hp => ⟨?_, ?_⟩, rfl, rfl, rfl, rfl, rfl⟩
  · rw [e, pk_out (by unfold pk_fr; omega)]
  · rw [e]
    rfl
/-- nothing lies where nothing was made -/
def fr_h (h : ss_Hp) : Prop := ∀ p, h.1 ≤ p → (h.2 p).1 = 99
theorem cb_cl {h0 h : ss_Hp} {T : List Nat} {a : List Int32} {fo x : Int32} {RS : List (List ru_C)} {US : List (List Int32)} {I : Nat → Option (List Int32 × Int32 × Int32)} {Z : Nat → List Int32} (hc : cb_h h0 h T a fo x RS US I Z) : cl_h h T a fo x RS US I ∧ (∀ p, 110 ≤ p ∧ p < 134 → h.2 p = h0.2 p) ∧ (fr_h h0 → fr_h h) := by
  obtain ⟨n, g, rc, ti, tb, vt, ri, cd, sx, rl, wi, wv, gi, gs, gw, nd, ns, nw, il, ai, yv, yr, yi, ys, yw, yt, yh, yf, yo, yk, fr, fg, pl, pc, pg, rfl, F, hg, -⟩ := hc
  refine ⟨⟨n, g, rc, ti, tb, vt, ri, cd, sx, rl, wi, wv, gi, gs, gw, nd, ns, nw, il, ai, yv, yr, yi, ys, yw, yt, yh, yf, yo, yk, fr, fg, pl, pc, pg, rfl, F⟩, fun p hp => by rw [pk_out (by unfold pk_fr; omega)]; exact (hg p hp.1).1, fun f p hp => ?_⟩
  have hp : n ≤ p := hp
  have h134 : 134 ≤ n := F.1
  rw [pk_out (by unfold pk_fr; omega), (hg p (by omega)).1]
  exact f p (by rw [← (hg p (by omega)).2]; exact hp)
theorem cb_ck {h0 h : ss_Hp} {T : List Nat} {a : List Int32} {fo x : Int32} {RS : List (List ru_C)} {US : List (List Int32)} {I : Nat → Option (List Int32 × Int32 × Int32)} {Z : Nat → List Int32} (hc : cb_h h0 h T a fo x RS US I Z) : ck_h h := by
  obtain ⟨n, g, rc, ti, tb, vt, ri, cd, sx, rl, wi, wv, gi, gs, gw, nd, ns, nw, il, ai, yv, yr, yi, ys, yw, yt, yh, yf, yo, yk, fr, fg, pl, pc, pg, rfl, F, hg, -⟩ := hc
  exact ⟨n, g, rc, ti, tb, vt, ri, cd, sx, rl, wi, wv, gi, gs, gw, nd, ns, nw, il, ai, yv, yr, yi, ys, yw, yt, yh, yf, yo, yk, fr, fg, pl, pc, pg, rfl⟩
theorem cb_len {h0 h : ss_Hp} {T : List Nat} {a : List Int32} {fo x : Int32} {RS : List (List ru_C)} {US : List (List Int32)} {I : Nat → Option (List Int32 × Int32 × Int32)} {Z : Nat → List Int32} (hc : cb_h h0 h T a fo x RS US I Z) : (Z 0).length = 488 ∧ (Z 1).length = 7 ∧ (Z 2).length = 8 ∧ (Z 3).length = 8 ∧ (Z 4).length = 64 := by
  obtain ⟨n, g, rc, ti, tb, vt, ri, cd, sx, rl, wi, wv, gi, gs, gw, nd, ns, nw, il, ai, yv, yr, yi, ys, yw, yt, yh, yf, yo, yk, fr, fg, pl, pc, pg, rfl, F, hg, z0, z1, z2, z3, z4⟩ := hc
  subst z0 z1 z2 z3 z4
  exact F.2.2.2.2.2.2.2.2.2
def cr_B (h : ss_Hp) (v : Nat) (a : List Int32) (fo x : Int32) : Prop := (ss_gr h (some 16) 8 0 = some (some v) ∧ ss_is h (some v) 5 = true ∧ ss_gi h (some v) 5 0 = some (sa_told a) ∧ ss_gi h (some v) 5 1 = some (pv a 0) ∧ ss_gi h (some v) 5 2 = some (pv a 1) ∧ ss_gi h (some v) 5 3 = some (pv a 2) ∧ ss_gi h (some v) 5 4 = some (pv a 3)) ∧ (ss_gr h (some v) 5 0 = some (some (v + 1)) ∧ ss_gr h (some v) 5 1 = some (some (v + 2)) ∧ ss_gr h (some v) 5 2 = some (some (v + 3)) ∧ ss_gr h (some v) 5 3 = some (some (v + 4)) ∧ ss_gr h (some v) 5 4 = some (some (v + 5))) ∧ (ss_gi h (some 16) 8 0 = some fo ∧ ss_gi h (some 16) 8 1 = some x ∧ ss_gi h (some 16) 8 2 = some (pv a 123)) ∧ (ss_gi h (some 25) 0 0 = some (pv a 11) ∧ ss_gi h (some 25) 0 1 = some (pv a 12) ∧ ss_gi h (some 25) 0 2 = some (pv a 13) ∧ ss_gi h (some 25) 0 3 = some (pv a 10)) ∧ (∀ i, i < 4 → ss_ai h (some (v + 1)) 20 (nI i) = some (pv a (38 + 2 * i))) ∧ (∀ i, i < 4 → ss_ai h (some (v + 2)) 20 (nI i) = some (pv a (38 + 2 * i + 1))) ∧ (∀ s, s < 8 → ss_ai h (some (v + 3)) 20 (nI s) = some (pv a (30 + s))) ∧ (∀ s, s < 8 → ss_ai h (some 26) 20 (nI s) = some (pv a (14 + s))) ∧ (¬ pv a 0 ≤ nI 0 → ∀ s, s < 8 → ss_ai h (some 27) 20 (nI s) = some (pv a (22 + s))) ∧ (∀ N s d, s < 8 → d < 2 ^ 31 → mm_V_isNeeded N (some v) (nI s) (nI d) h = some (if (sa_need a d >>> nI s) &&& nI 1 = nI 1 then nI 1 else nI 0)) ∧ (∀ N k, k ≤ 8 → pv a 2 = nI k → 8 < N → mm_Wo_closedBits N (some 16) h = some (sa_clo a k))
theorem cb_r {h0 h : ss_Hp} {T : List Nat} {a : List Int32} {fo x : Int32} {RS : List (List ru_C)} {US : List (List Int32)} {I : Nat → Option (List Int32 × Int32 × Int32)} {Z : Nat → List Int32} (hc : cb_h h0 h T a fo x RS US I Z) : ∃ v, cr_B h v a fo x := by
  obtain ⟨n, g, rc, ti, tb, vt, ri, cd, sx, rl, wi, wv, gi, gs, gw, nd, ns, nw, il, ai, yv, yr, yi, ys, yw, yt, yh, yf, yo, yk, fr, fg, pl, pc, pg, rfl, F, hg, -⟩ := hc
  obtain ⟨Fn, Frc, Ft, Fr, Fl, ⟨Fw, ⟨v, Fv, Fq⟩, Fg, Fs, Fwl, Fno⟩, Fi, ⟨nx, Fa, Fu⟩, Fy, Ff⟩ := F
  subst Fw Fv Fg Fs Fa
  obtain ⟨Fq0, Fq1, Fq2, Fq3, Fq4, Fq5⟩ := Fq
  have hf := qv_fr Fq0 (j := 0) (by omega)
  refine ⟨v, ⟨pk_r16_0, vr_is Fq0, ?_, vr_fall Fq0, vr_deep Fq0, vr_steps Fq0, vr_houses Fq0⟩, ⟨vr_r0 Fq0, vr_r1 Fq0, vr_r2 Fq0, vr_r3 Fq0, vr_r4 Fq0⟩, ⟨pk_x16_0, pk_x16_1, pk_x16_2⟩, ⟨pk_x25_0, pk_x25_1, pk_x25_2, pk_x25_3⟩, fun i hi => vr_own Fq0 hi, fun i hi => ?_, fun s hs => vr_beside Fq0 hs, fun s hs => pk_x26 hs, fun ht s hs => ?_, fun N s d hs hd => pq_isNeeded Fq0 hs hd, fun N k hk h2 hN => pq_Nclosed Fq0 hk h2 hN⟩
  · obtain ⟨h0, tl, nds, g0, g1, g3, g4, gl, gn⟩ := Fq0
    rw [g0] at Fq1
    exact (pk_oi hf g0 (j := 0) (by simp)).trans Fq1
  · rw [pk_oa (qv_fr Fq0 (j := 2) (by omega)) Fq2 (by simpa using hi) (by omega), pb_str hi]
  · have e := Fwl.2 ht
    subst e
    exact pk_x27 hs
/-! the class: the winter lies as b -/
def cw_h (h0 h : ss_Hp) (T : List Nat) (a : List Int32) (fo x : Int32) (RS : List (List ru_C)) (US : List (List Int32)) (I : Nat → Option (List Int32 × Int32 × Int32)) (Z : Nat → List Int32) (ro : Option (List ru_C)) (b : List Int32) (bu : Int32) (th fa : List Int32) : Prop := ∃ n g rc ti tb vt ri cd sx rl wi wv gi gs gw nd ns nw il ai yv yr yi ys yw yt yh yf yo yk fr fg pl pc pg, h = pk_C n g rc ti tb vt ri cd sx rl wi wv gi gs gw nd ns nw il ai yv yr yi ys yw yt yh yf yo yk fr fg pl pc pg ∧ cl_F n g rc ti tb vt ri cd sx rl wi wv gi gs gw nd ns nw il ai yv yr yi ys yw yt yh yf yo yk fr fg pl pc pg T a fo x RS US I ∧ (∀ p, 110 ≤ p → g p = h0.2 p ∧ n = h0.1) ∧ (fr = Z 0 ∧ fg = Z 1 ∧ pl = Z 2 ∧ pc = Z 3 ∧ pg = Z 4) ∧ (yi = [pv b 11, pv b 12, bu, pv b 10] ∧ ys = sl b 14 8 ∧ yw = sl b 22 8 ∧ yt = [pv b 39, pv b 41, pv b 43, pv b 45] ∧ yh = th ∧ yf = fa) ∧ (∃ v, yv = some v ∧ wv = some v ∧ qv_S g v b) ∧ rq_R g yr ro
theorem cw_cb {h0 h : ss_Hp} {T : List Nat} {a : List Int32} {fo x : Int32} {RS : List (List ru_C)} {US : List (List Int32)} {I : Nat → Option (List Int32 × Int32 × Int32)} {Z : Nat → List Int32} {ro : Option (List ru_C)} {b : List Int32} {bu : Int32} {th fa : List Int32} (hc : cw_h h0 h T a fo x RS US I Z ro b bu th fa) : cb_h h0 h T a fo x RS US I Z := by
  obtain ⟨n, g, rc, ti, tb, vt, ri, cd, sx, rl, wi, wv, gi, gs, gw, nd, ns, nw, il, ai, yv, yr, yi, ys, yw, yt, yh, yf, yo, yk, fr, fg, pl, pc, pg, e, F, hg, z, -⟩ := hc
  exact ⟨n, g, rc, ti, tb, vt, ri, cd, sx, rl, wi, wv, gi, gs, gw, nd, ns, nw, il, ai, yv, yr, yi, ys, yw, yt, yh, yf, yo, yk, fr, fg, pl, pc, pg, e, F, hg, z⟩
theorem cw_len {h0 h : ss_Hp} {T : List Nat} {a : List Int32} {fo x : Int32} {RS : List (List ru_C)} {US : List (List Int32)} {I : Nat → Option (List Int32 × Int32 × Int32)} {Z : Nat → List Int32} {ro : Option (List ru_C)} {b : List Int32} {bu : Int32} {th fa : List Int32} (hc : cw_h h0 h T a fo x RS US I Z ro b bu th fa) : th.length = 8 ∧ fa.length = 8 := by
  obtain ⟨n, g, rc, ti, tb, vt, ri, cd, sx, rl, wi, wv, gi, gs, gw, nd, ns, nw, il, ai, yv, yr, yi, ys, yw, yt, yh, yf, yo, yk, fr, fg, pl, pc, pg, e, F, hg, z, ⟨w1, w2, w3, w4, w5, w6⟩, -⟩ := hc
  subst w5 w6
  exact ⟨F.2.2.2.2.2.2.2.2.1.2.2.2.2.1, F.2.2.2.2.2.2.2.2.1.2.2.2.2.2.1⟩
