/-! ===== the beginning ===== -/
theorem fr_hn {h : ss_Hp} {c : ss_Cl} (hf : fr_h h) : fr_h (ss_hn h c) := fun p hp => by
  have hp : h.1 + 1 ≤ p := hp
  show (if p = h.1 then c else h.2 p).1 = 99
  rw [if_neg (by omega)]
  exact hf p (by omega)
theorem fr_hs {h : ss_Hp} {a : Nat} {c : ss_Cl} (hf : fr_h h) (ha : (h.2 a).1 ≠ 99) : fr_h (ss_hs h a c) := fun p hp => by
  have hp : h.1 ≤ p := hp
  have : p ≠ a := fun e => ha (by rw [← e]; exact hf p hp)
  show (if p = a then c else h.2 p).1 = 99
  rw [if_neg this]
  exact hf p hp
theorem fr_ss_no {h h' : ss_Hp} {ci ni nl nr : Nat} {r : Option Nat} (hf : fr_h h) (e : ss_no h ci ni nl nr = some (r, h')) : fr_h h' := by
  unfold ss_no at e
  cases e
  exact fr_hn hf
theorem fr_ss_na {h h' : ss_Hp} {t m : Nat} {n : Int32} {r : Option Nat} (hf : fr_h h) (e : ss_na h t m n = some (r, h')) : fr_h h' := by
  unfold ss_na at e
  obtain ⟨-, e⟩ := ss_chk e
  cases e
  exact fr_hn hf
theorem fr_ss_pr {h h' : ss_Hp} {ci j : Nat} {r v : Option Nat} (hc : ci ≠ 99) (hf : fr_h h) (e : ss_pr h r ci j v = some h') : fr_h h' := by
  cases r with
  | none => cases e
  | some a =>
    unfold ss_pr at e
    obtain ⟨c, e⟩ := ss_chk e
    cases e
    exact fr_hs hf (by rw [c.1]; exact hc)
theorem fr_ss_pi {h h' : ss_Hp} {ci j : Nat} {r : Option Nat} {v : Int32} (hc : ci ≠ 99) (hf : fr_h h) (e : ss_pi h r ci j v = some h') : fr_h h' := by
  cases r with
  | none => cases e
  | some a =>
    unfold ss_pi at e
    obtain ⟨c, e⟩ := ss_chk e
    cases e
    exact fr_hs hf (by rw [c.1]; exact hc)
theorem fr_ss_ui {h h' : ss_Hp} {t : Nat} {r : Option Nat} {i v : Int32} (hc : t ≠ 99) (hf : fr_h h) (e : ss_ui h r t i v = some h') : fr_h h' := by
  cases r with
  | none => cases e
  | some a =>
    unfold ss_ui at e
    obtain ⟨c, e⟩ := ss_chk e
    cases e
    exact fr_hs hf (by rw [c.1]; exact hc)
theorem fr_ss_ur {h h' : ss_Hp} {t ci : Nat} {r v : Option Nat} {i : Int32} (hc : t ≠ 99) (hf : fr_h h) (e : ss_ur h r t ci i v = some h') : fr_h h' := by
  cases r with
  | none => cases e
  | some a =>
    unfold ss_ur at e
    obtain ⟨c, e⟩ := ss_chk e
    cases e
    exact fr_hs hf (by rw [c.1]; exact hc)
theorem fr_lp {S E : Type} {body : S → Option (S ⊕ E)} {P : S → Prop} {Q : E → Prop} (h1 : ∀ s s', body s = some (.inl s') → P s → P s') (h2 : ∀ s e, body s = some (.inr e) → P s → Q e) : ∀ {N : Nat} {s : S} {e : E}, P s → ss_lp body N s = some e → Q e := by
  intro N
  induction N with
  | zero => intro s e _ h; cases h
  | succ N ih =>
    intro s e hp h
    obtain ⟨z, hz, z1, z2⟩ := ss_lps h
    cases z with
    | inl s' => exact ih (h1 s s' hz hp) (z1 s' rfl)
    | inr e' => rw [z2 e' rfl]; exact h2 s e' hz hp
theorem fr_G_init_b22 {N : Nat} {this : Option Nat} {st : Int32 × ss_Hp} {o : (Int32 × ss_Hp) ⊕ ss_Hp} (hf : fr_h st.2) (e : mm_G_init_b22 N this st = some o) : (∀ s, o = .inl s → fr_h s.2) ∧ ∀ s, o = .inr s → fr_h s := by
  obtain ⟨x, h⟩ := st
  unfold mm_G_init_b22 at e
  simp only at e
  by_cases c : (8 : Int32) ≤ x
  · rw [if_pos c] at e
    cases e
    exact ⟨(fun s h => by cases h), (fun s h => by cases h; exact hf)⟩
  · rw [if_neg c] at e
    obtain ⟨r8, -, e⟩ := ss_bind e
    obtain ⟨h9, e1, e⟩ := ss_bind e
    obtain ⟨v10, -, e⟩ := ss_bind e
    cases e
    have hf := fr_ss_ui (by decide) hf e1
    exact ⟨(fun s h => by cases h; exact hf), (fun s h => by cases h)⟩
theorem fr_G_init {N : Nat} {this : Option Nat} {h : ss_Hp} {h' : ss_Hp} (hf : fr_h h) (e : mm_G_init N this h = some h') : fr_h h' := by
  unfold mm_G_init at e
  obtain ⟨-, e⟩ := ss_chk e
  obtain ⟨r1, h2, e1, e⟩ := ss_bind2 e
  have hf := fr_ss_na hf e1
  clear e1
  obtain ⟨h3, e1, e⟩ := ss_bind e
  have hf := fr_ss_pr (by decide) hf e1
  clear e1
  obtain ⟨r4, h5, e1, e⟩ := ss_bind2 e
  have hf := fr_ss_na hf e1
  clear e1
  obtain ⟨h6, e1, e⟩ := ss_bind e
  have hf := fr_ss_pr (by decide) hf e1
  clear e1
  obtain ⟨h_22_41, e1, e⟩ := ss_bind e
  have hf := fr_lp (P := fun s => fr_h s.2) (Q := fr_h) (fun s s2 hb hp => (fr_G_init_b22 hp hb).1 s2 rfl) (fun s s2 hb hp => (fr_G_init_b22 hp hb).2 s2 rfl) hf e1
  clear e1
  cases e
  exact hf
theorem fr_A_init_b15 {N : Nat} {this : Option Nat} {st : Int32 × ss_Hp} {o : (Int32 × ss_Hp) ⊕ ss_Hp} (hf : fr_h st.2) (e : mm_A_init_b15 N this st = some o) : (∀ s, o = .inl s → fr_h s.2) ∧ ∀ s, o = .inr s → fr_h s := by
  obtain ⟨x, h⟩ := st
  unfold mm_A_init_b15 at e
  simp only at e
  by_cases c : (20 : Int32) ≤ x
  · rw [if_pos c] at e
    cases e
    exact ⟨(fun s h => by cases h), (fun s h => by cases h; exact hf)⟩
  · rw [if_neg c] at e
    obtain ⟨r5, -, e⟩ := ss_bind e
    obtain ⟨r6, h7, e1, e⟩ := ss_bind2 e
    obtain ⟨h8, e2, e⟩ := ss_bind e
    obtain ⟨h9, e3, e⟩ := ss_bind e
    obtain ⟨v10, -, e⟩ := ss_bind e
    cases e
    have hf := fr_ss_no hf e1
    have hf := fr_G_init hf e2
    have hf := fr_ss_ur (by decide) hf e3
    exact ⟨(fun s h => by cases h; exact hf), (fun s h => by cases h)⟩
theorem fr_T_init {N : Nat} {this : Option Nat} {h : ss_Hp} {h' : ss_Hp} (hf : fr_h h) (e : mm_T_init N this h = some h') : fr_h h' := by
  unfold mm_T_init at e
  obtain ⟨-, e⟩ := ss_chk e
  obtain ⟨r1, h2, e1, e⟩ := ss_bind2 e
  have hf := fr_ss_na hf e1
  clear e1
  obtain ⟨h3, e1, e⟩ := ss_bind e
  have hf := fr_ss_pr (by decide) hf e1
  clear e1
  cases e
  exact hf
theorem fr_V_init {N : Nat} {this : Option Nat} {h : ss_Hp} {h' : ss_Hp} (hf : fr_h h) (e : mm_V_init N this h = some h') : fr_h h' := by
  unfold mm_V_init at e
  obtain ⟨-, e⟩ := ss_chk e
  obtain ⟨r1, h2, e1, e⟩ := ss_bind2 e
  have hf := fr_ss_na hf e1
  clear e1
  obtain ⟨h3, e1, e⟩ := ss_bind e
  have hf := fr_ss_pr (by decide) hf e1
  clear e1
  obtain ⟨r4, h5, e1, e⟩ := ss_bind2 e
  have hf := fr_ss_na hf e1
  clear e1
  obtain ⟨h6, e1, e⟩ := ss_bind e
  have hf := fr_ss_pr (by decide) hf e1
  clear e1
  obtain ⟨r7, h8, e1, e⟩ := ss_bind2 e
  have hf := fr_ss_na hf e1
  clear e1
  obtain ⟨h9, e1, e⟩ := ss_bind e
  have hf := fr_ss_pr (by decide) hf e1
  clear e1
  obtain ⟨r10, h11, e1, e⟩ := ss_bind2 e
  have hf := fr_ss_na hf e1
  clear e1
  obtain ⟨h12, e1, e⟩ := ss_bind e
  have hf := fr_ss_pr (by decide) hf e1
  clear e1
  obtain ⟨r13, h14, e1, e⟩ := ss_bind2 e
  have hf := fr_ss_no hf e1
  clear e1
  obtain ⟨h15, e1, e⟩ := ss_bind e
  have hf := fr_G_init hf e1
  clear e1
  obtain ⟨h16, e1, e⟩ := ss_bind e
  have hf := fr_ss_pr (by decide) hf e1
  clear e1
  cases e
  exact hf
theorem fr_VR_init {N : Nat} {this : Option Nat} {a1 : Option Nat} {h : ss_Hp} {h' : ss_Hp} (hf : fr_h h) (e : mm_VR_init N this a1 h = some h') : fr_h h' := by
  unfold mm_VR_init at e
  obtain ⟨-, e⟩ := ss_chk e
  obtain ⟨r1, h2, e1, e⟩ := ss_bind2 e
  have hf := fr_ss_no hf e1
  clear e1
  obtain ⟨h3, e1, e⟩ := ss_bind e
  have hf := fr_V_init hf e1
  clear e1
  obtain ⟨h4, e1, e⟩ := ss_bind e
  have hf := fr_ss_pr (by decide) hf e1
  clear e1
  obtain ⟨r5, h6, e1, e⟩ := ss_bind2 e
  have hf := fr_ss_no hf e1
  clear e1
  obtain ⟨h7, e1, e⟩ := ss_bind e
  have hf := fr_V_init hf e1
  clear e1
  obtain ⟨h8, e1, e⟩ := ss_bind e
  have hf := fr_ss_pr (by decide) hf e1
  clear e1
  obtain ⟨h9, e1, e⟩ := ss_bind e
  have hf := fr_ss_pr (by decide) hf e1
  clear e1
  cases e
  exact hf
theorem fr_RR_init {N : Nat} {this : Option Nat} {a1 : Option Nat} {h : ss_Hp} {h' : ss_Hp} (hf : fr_h h) (e : mm_RR_init N this a1 h = some h') : fr_h h' := by
  unfold mm_RR_init at e
  obtain ⟨-, e⟩ := ss_chk e
  obtain ⟨r1, h2, e1, e⟩ := ss_bind2 e
  have hf := fr_ss_na hf e1
  clear e1
  obtain ⟨h3, e1, e⟩ := ss_bind e
  have hf := fr_ss_pr (by decide) hf e1
  clear e1
  obtain ⟨r4, h5, e1, e⟩ := ss_bind2 e
  have hf := fr_ss_na hf e1
  clear e1
  obtain ⟨h6, e1, e⟩ := ss_bind e
  have hf := fr_ss_pr (by decide) hf e1
  clear e1
  obtain ⟨h7, e1, e⟩ := ss_bind e
  have hf := fr_ss_pr (by decide) hf e1
  clear e1
  cases e
  exact hf
theorem fr_Wo_init {N : Nat} {this : Option Nat} {h : ss_Hp} {h' : ss_Hp} (hf : fr_h h) (e : mm_Wo_init N this h = some h') : fr_h h' := by
  unfold mm_Wo_init at e
  obtain ⟨-, e⟩ := ss_chk e
  obtain ⟨r1, h2, e1, e⟩ := ss_bind2 e
  have hf := fr_ss_no hf e1
  clear e1
  obtain ⟨h3, e1, e⟩ := ss_bind e
  have hf := fr_V_init hf e1
  clear e1
  obtain ⟨h4, e1, e⟩ := ss_bind e
  have hf := fr_ss_pr (by decide) hf e1
  clear e1
  obtain ⟨r5, h6, e1, e⟩ := ss_bind2 e
  have hf := fr_ss_no hf e1
  clear e1
  obtain ⟨h7, e1, e⟩ := ss_bind e
  have hf := fr_G_init hf e1
  clear e1
  obtain ⟨h8, e1, e⟩ := ss_bind e
  have hf := fr_ss_pr (by decide) hf e1
  clear e1
  obtain ⟨h9, e1, e⟩ := ss_bind e
  have hf := fr_ss_pi (by decide) hf e1
  clear e1
  obtain ⟨r10, h11, e1, e⟩ := ss_bind2 e
  have hf := fr_ss_na hf e1
  clear e1
  obtain ⟨h12, e1, e⟩ := ss_bind e
  have hf := fr_ss_pr (by decide) hf e1
  clear e1
  obtain ⟨r13, h14, e1, e⟩ := ss_bind2 e
  have hf := fr_ss_na hf e1
  clear e1
  obtain ⟨h15, e1, e⟩ := ss_bind e
  have hf := fr_ss_pr (by decide) hf e1
  clear e1
  obtain ⟨r16, h17, e1, e⟩ := ss_bind2 e
  have hf := fr_ss_na hf e1
  clear e1
  obtain ⟨h18, e1, e⟩ := ss_bind e
  have hf := fr_ss_pr (by decide) hf e1
  clear e1
  cases e
  exact hf
theorem fr_A_init {N : Nat} {this : Option Nat} {h : ss_Hp} {h' : ss_Hp} (hf : fr_h h) (e : mm_A_init N this h = some h') : fr_h h' := by
  unfold mm_A_init at e
  obtain ⟨-, e⟩ := ss_chk e
  obtain ⟨r1, h2, e1, e⟩ := ss_bind2 e
  have hf := fr_ss_na hf e1
  clear e1
  obtain ⟨h3, e1, e⟩ := ss_bind e
  have hf := fr_ss_pr (by decide) hf e1
  clear e1
  obtain ⟨h_15_40, e1, e⟩ := ss_bind e
  have hf := fr_lp (P := fun s => fr_h s.2) (Q := fr_h) (fun s s2 hb hp => (fr_A_init_b15 hp hb).1 s2 rfl) (fun s s2 hb hp => (fr_A_init_b15 hp hb).2 s2 rfl) hf e1
  clear e1
  cases e
  exact hf
theorem fr_Wi_init {N : Nat} {this : Option Nat} {a1 : Option Nat} {h : ss_Hp} {h' : ss_Hp} (hf : fr_h h) (e : mm_Wi_init N this a1 h = some h') : fr_h h' := by
  unfold mm_Wi_init at e
  obtain ⟨-, e⟩ := ss_chk e
  obtain ⟨r1, h2, e1, e⟩ := ss_bind2 e
  have hf := fr_ss_no hf e1
  clear e1
  obtain ⟨h3, e1, e⟩ := ss_bind e
  have hf := fr_G_init hf e1
  clear e1
  obtain ⟨h4, e1, e⟩ := ss_bind e
  have hf := fr_ss_pr (by decide) hf e1
  clear e1
  obtain ⟨r5, h6, e1, e⟩ := ss_bind2 e
  have hf := fr_ss_na hf e1
  clear e1
  obtain ⟨h7, e1, e⟩ := ss_bind e
  have hf := fr_ss_pr (by decide) hf e1
  clear e1
  obtain ⟨r8, h9, e1, e⟩ := ss_bind2 e
  have hf := fr_ss_na hf e1
  clear e1
  obtain ⟨h10, e1, e⟩ := ss_bind e
  have hf := fr_ss_pr (by decide) hf e1
  clear e1
  obtain ⟨r11, h12, e1, e⟩ := ss_bind2 e
  have hf := fr_ss_na hf e1
  clear e1
  obtain ⟨h13, e1, e⟩ := ss_bind e
  have hf := fr_ss_pr (by decide) hf e1
  clear e1
  obtain ⟨r14, h15, e1, e⟩ := ss_bind2 e
  have hf := fr_ss_na hf e1
  clear e1
  obtain ⟨h16, e1, e⟩ := ss_bind e
  have hf := fr_ss_pr (by decide) hf e1
  clear e1
  obtain ⟨r17, h18, e1, e⟩ := ss_bind2 e
  have hf := fr_ss_na hf e1
  clear e1
  obtain ⟨h19, e1, e⟩ := ss_bind e
  have hf := fr_ss_pr (by decide) hf e1
  clear e1
  obtain ⟨h20, e1, e⟩ := ss_bind e
  have hf := fr_ss_pr (by decide) hf e1
  clear e1
  cases e
  exact hf
theorem fr_F_init {N : Nat} {this : Option Nat} {a1 : Option Nat} {a2 : Option Nat} {a3 : Option Nat} {h : ss_Hp} {h' : ss_Hp} (hf : fr_h h) (e : mm_F_init N this a1 a2 a3 h = some h') : fr_h h' := by
  unfold mm_F_init at e
  obtain ⟨-, e⟩ := ss_chk e
  obtain ⟨r1, h2, e1, e⟩ := ss_bind2 e
  have hf := fr_ss_na hf e1
  clear e1
  obtain ⟨h3, e1, e⟩ := ss_bind e
  have hf := fr_ss_pr (by decide) hf e1
  clear e1
  obtain ⟨r4, h5, e1, e⟩ := ss_bind2 e
  have hf := fr_ss_na hf e1
  clear e1
  obtain ⟨h6, e1, e⟩ := ss_bind e
  have hf := fr_ss_pr (by decide) hf e1
  clear e1
  obtain ⟨h7, e1, e⟩ := ss_bind e
  have hf := fr_ss_pr (by decide) hf e1
  clear e1
  obtain ⟨h8, e1, e⟩ := ss_bind e
  have hf := fr_ss_pr (by decide) hf e1
  clear e1
  obtain ⟨h9, e1, e⟩ := ss_bind e
  have hf := fr_ss_pr (by decide) hf e1
  clear e1
  cases e
  exact hf
theorem fr_P_init {N : Nat} {this : Option Nat} {a1 : Option Nat} {a2 : Option Nat} {h : ss_Hp} {h' : ss_Hp} (hf : fr_h h) (e : mm_P_init N this a1 a2 h = some h') : fr_h h' := by
  unfold mm_P_init at e
  obtain ⟨-, e⟩ := ss_chk e
  obtain ⟨r1, h2, e1, e⟩ := ss_bind2 e
  have hf := fr_ss_na hf e1
  clear e1
  obtain ⟨h3, e1, e⟩ := ss_bind e
  have hf := fr_ss_pr (by decide) hf e1
  clear e1
  obtain ⟨r4, h5, e1, e⟩ := ss_bind2 e
  have hf := fr_ss_na hf e1
  clear e1
  obtain ⟨h6, e1, e⟩ := ss_bind e
  have hf := fr_ss_pr (by decide) hf e1
  clear e1
  obtain ⟨r7, h8, e1, e⟩ := ss_bind2 e
  have hf := fr_ss_na hf e1
  clear e1
  obtain ⟨h9, e1, e⟩ := ss_bind e
  have hf := fr_ss_pr (by decide) hf e1
  clear e1
  obtain ⟨h10, e1, e⟩ := ss_bind e
  have hf := fr_ss_pr (by decide) hf e1
  clear e1
  obtain ⟨h11, e1, e⟩ := ss_bind e
  have hf := fr_ss_pr (by decide) hf e1
  clear e1
  cases e
  exact hf
theorem fr_S_init {N : Nat} {this : Option Nat} {h : ss_Hp} {h' : ss_Hp} (hf : fr_h h) (e : mm_S_init N this h = some h') : fr_h h' := by
  unfold mm_S_init at e
  obtain ⟨-, e⟩ := ss_chk e
  obtain ⟨r1, h2, e1, e⟩ := ss_bind2 e
  have hf := fr_ss_no hf e1
  clear e1
  obtain ⟨h3, e1, e⟩ := ss_bind e
  have hf := fr_T_init hf e1
  clear e1
  obtain ⟨h4, e1, e⟩ := ss_bind e
  have hf := fr_ss_pr (by decide) hf e1
  clear e1
  obtain ⟨r5, h6, e1, e⟩ := ss_bind2 e
  have hf := fr_ss_no hf e1
  clear e1
  obtain ⟨r7, -, e⟩ := ss_bind e
  obtain ⟨h8, e1, e⟩ := ss_bind e
  have hf := fr_VR_init hf e1
  clear e1
  obtain ⟨h9, e1, e⟩ := ss_bind e
  have hf := fr_ss_pr (by decide) hf e1
  clear e1
  obtain ⟨r10, h11, e1, e⟩ := ss_bind2 e
  have hf := fr_ss_no hf e1
  clear e1
  obtain ⟨r12, -, e⟩ := ss_bind e
  obtain ⟨h13, e1, e⟩ := ss_bind e
  have hf := fr_RR_init hf e1
  clear e1
  obtain ⟨h14, e1, e⟩ := ss_bind e
  have hf := fr_ss_pr (by decide) hf e1
  clear e1
  obtain ⟨r15, h16, e1, e⟩ := ss_bind2 e
  have hf := fr_ss_na hf e1
  clear e1
  obtain ⟨h17, e1, e⟩ := ss_bind e
  have hf := fr_ss_pr (by decide) hf e1
  clear e1
  obtain ⟨r18, h19, e1, e⟩ := ss_bind2 e
  have hf := fr_ss_no hf e1
  clear e1
  obtain ⟨h20, e1, e⟩ := ss_bind e
  have hf := fr_Wo_init hf e1
  clear e1
  obtain ⟨h21, e1, e⟩ := ss_bind e
  have hf := fr_ss_pr (by decide) hf e1
  clear e1
  obtain ⟨r22, h23, e1, e⟩ := ss_bind2 e
  have hf := fr_ss_na hf e1
  clear e1
  obtain ⟨h24, e1, e⟩ := ss_bind e
  have hf := fr_ss_pr (by decide) hf e1
  clear e1
  obtain ⟨r25, h26, e1, e⟩ := ss_bind2 e
  have hf := fr_ss_no hf e1
  clear e1
  obtain ⟨h27, e1, e⟩ := ss_bind e
  have hf := fr_A_init hf e1
  clear e1
  obtain ⟨h28, e1, e⟩ := ss_bind e
  have hf := fr_ss_pr (by decide) hf e1
  clear e1
  obtain ⟨r29, h30, e1, e⟩ := ss_bind2 e
  have hf := fr_ss_no hf e1
  clear e1
  obtain ⟨r31, -, e⟩ := ss_bind e
  obtain ⟨r32, -, e⟩ := ss_bind e
  obtain ⟨h33, e1, e⟩ := ss_bind e
  have hf := fr_Wi_init hf e1
  clear e1
  obtain ⟨h34, e1, e⟩ := ss_bind e
  have hf := fr_ss_pr (by decide) hf e1
  clear e1
  obtain ⟨r35, h36, e1, e⟩ := ss_bind2 e
  have hf := fr_ss_no hf e1
  clear e1
  obtain ⟨r37, -, e⟩ := ss_bind e
  obtain ⟨r38, -, e⟩ := ss_bind e
  obtain ⟨r39, -, e⟩ := ss_bind e
  obtain ⟨h40, e1, e⟩ := ss_bind e
  have hf := fr_F_init hf e1
  clear e1
  obtain ⟨h41, e1, e⟩ := ss_bind e
  have hf := fr_ss_pr (by decide) hf e1
  clear e1
  obtain ⟨r42, h43, e1, e⟩ := ss_bind2 e
  have hf := fr_ss_no hf e1
  clear e1
  obtain ⟨r44, -, e⟩ := ss_bind e
  obtain ⟨r45, -, e⟩ := ss_bind e
  obtain ⟨h46, e1, e⟩ := ss_bind e
  have hf := fr_P_init hf e1
  clear e1
  obtain ⟨h47, e1, e⟩ := ss_bind e
  have hf := fr_ss_pr (by decide) hf e1
  clear e1
  cases e
  exact hf
theorem fr_M_init {N : Nat} {this : Option Nat} {h : ss_Hp} {h' : ss_Hp} (hf : fr_h h) (e : mm_M_init N this h = some h') : fr_h h' := by
  unfold mm_M_init at e
  obtain ⟨-, e⟩ := ss_chk e
  obtain ⟨r1, h2, e1, e⟩ := ss_bind2 e
  have hf := fr_ss_na hf e1
  clear e1
  obtain ⟨h3, e1, e⟩ := ss_bind e
  have hf := fr_ss_pr (by decide) hf e1
  clear e1
  obtain ⟨r4, h5, e1, e⟩ := ss_bind2 e
  have hf := fr_ss_na hf e1
  clear e1
  obtain ⟨h6, e1, e⟩ := ss_bind e
  have hf := fr_ss_pr (by decide) hf e1
  clear e1
  obtain ⟨r7, h8, e1, e⟩ := ss_bind2 e
  have hf := fr_ss_na hf e1
  clear e1
  obtain ⟨h9, e1, e⟩ := ss_bind e
  have hf := fr_ss_pr (by decide) hf e1
  clear e1
  obtain ⟨r10, h11, e1, e⟩ := ss_bind2 e
  have hf := fr_ss_na hf e1
  clear e1
  obtain ⟨h12, e1, e⟩ := ss_bind e
  have hf := fr_ss_pr (by decide) hf e1
  clear e1
  obtain ⟨r13, h14, e1, e⟩ := ss_bind2 e
  have hf := fr_ss_na hf e1
  clear e1
  obtain ⟨h15, e1, e⟩ := ss_bind e
  have hf := fr_ss_pr (by decide) hf e1
  clear e1
  obtain ⟨r16, h17, e1, e⟩ := ss_bind2 e
  have hf := fr_ss_na hf e1
  clear e1
  obtain ⟨h18, e1, e⟩ := ss_bind e
  have hf := fr_ss_pr (by decide) hf e1
  clear e1
  obtain ⟨r19, h20, e1, e⟩ := ss_bind2 e
  have hf := fr_ss_na hf e1
  clear e1
  obtain ⟨h21, e1, e⟩ := ss_bind e
  have hf := fr_ss_pr (by decide) hf e1
  clear e1
  obtain ⟨r22, h23, e1, e⟩ := ss_bind2 e
  have hf := fr_ss_na hf e1
  clear e1
  obtain ⟨h24, e1, e⟩ := ss_bind e
  have hf := fr_ss_pr (by decide) hf e1
  clear e1
  obtain ⟨r25, h26, e1, e⟩ := ss_bind2 e
  have hf := fr_ss_na hf e1
  clear e1
  obtain ⟨h27, e1, e⟩ := ss_bind e
  have hf := fr_ss_pr (by decide) hf e1
  clear e1
  obtain ⟨r28, h29, e1, e⟩ := ss_bind2 e
  have hf := fr_ss_na hf e1
  clear e1
  obtain ⟨h30, e1, e⟩ := ss_bind e
  have hf := fr_ss_pr (by decide) hf e1
  clear e1
  obtain ⟨h31, e1, e⟩ := ss_bind e
  have hf := fr_ss_pi (by decide) hf e1
  clear e1
  obtain ⟨r32, h33, e1, e⟩ := ss_bind2 e
  have hf := fr_ss_na hf e1
  clear e1
  obtain ⟨h34, e1, e⟩ := ss_bind e
  have hf := fr_ss_pr (by decide) hf e1
  clear e1
  obtain ⟨r35, h36, e1, e⟩ := ss_bind2 e
  have hf := fr_ss_na hf e1
  clear e1
  obtain ⟨h37, e1, e⟩ := ss_bind e
  have hf := fr_ss_pr (by decide) hf e1
  clear e1
  obtain ⟨r38, h39, e1, e⟩ := ss_bind2 e
  have hf := fr_ss_na hf e1
  clear e1
  obtain ⟨h40, e1, e⟩ := ss_bind e
  have hf := fr_ss_pr (by decide) hf e1
  clear e1
  obtain ⟨r41, h42, e1, e⟩ := ss_bind2 e
  have hf := fr_ss_na hf e1
  clear e1
  obtain ⟨h43, e1, e⟩ := ss_bind e
  have hf := fr_ss_pr (by decide) hf e1
  clear e1
  obtain ⟨r44, h45, e1, e⟩ := ss_bind2 e
  have hf := fr_ss_na hf e1
  clear e1
  obtain ⟨h46, e1, e⟩ := ss_bind e
  have hf := fr_ss_pr (by decide) hf e1
  clear e1
  obtain ⟨r47, h48, e1, e⟩ := ss_bind2 e
  have hf := fr_ss_na hf e1
  clear e1
  obtain ⟨h49, e1, e⟩ := ss_bind e
  have hf := fr_ss_pr (by decide) hf e1
  clear e1
  obtain ⟨r50, h51, e1, e⟩ := ss_bind2 e
  have hf := fr_ss_na hf e1
  clear e1
  obtain ⟨h52, e1, e⟩ := ss_bind e
  have hf := fr_ss_pr (by decide) hf e1
  clear e1
  obtain ⟨r53, h54, e1, e⟩ := ss_bind2 e
  have hf := fr_ss_na hf e1
  clear e1
  obtain ⟨h55, e1, e⟩ := ss_bind e
  have hf := fr_ss_pr (by decide) hf e1
  clear e1
  obtain ⟨r56, h57, e1, e⟩ := ss_bind2 e
  have hf := fr_ss_na hf e1
  clear e1
  obtain ⟨h58, e1, e⟩ := ss_bind e
  have hf := fr_ss_pr (by decide) hf e1
  clear e1
  obtain ⟨r59, h60, e1, e⟩ := ss_bind2 e
  have hf := fr_ss_na hf e1
  clear e1
  obtain ⟨h61, e1, e⟩ := ss_bind e
  have hf := fr_ss_pr (by decide) hf e1
  clear e1
  obtain ⟨r62, h63, e1, e⟩ := ss_bind2 e
  have hf := fr_ss_na hf e1
  clear e1
  obtain ⟨h64, e1, e⟩ := ss_bind e
  have hf := fr_ss_pr (by decide) hf e1
  clear e1
  obtain ⟨r65, h66, e1, e⟩ := ss_bind2 e
  have hf := fr_ss_na hf e1
  clear e1
  obtain ⟨h67, e1, e⟩ := ss_bind e
  have hf := fr_ss_pr (by decide) hf e1
  clear e1
  obtain ⟨r68, h69, e1, e⟩ := ss_bind2 e
  have hf := fr_ss_na hf e1
  clear e1
  obtain ⟨h70, e1, e⟩ := ss_bind e
  have hf := fr_ss_pr (by decide) hf e1
  clear e1
  cases e
  exact hf
def in_h (N : Nat) : Option ss_Hp :=
  ss_b2 (ss_no ss_h0 11 1 0 10) fun r1 h2 =>
  (mm_S_init N r1 h2).bind fun h3 =>
  ss_b2 (ss_no h3 12 16 1 23) fun r4 h5 =>
  (mm_M_init N r4 h5).bind fun h6 =>
  some h6
theorem in_fr {N : Nat} {h : ss_Hp} (e : in_h N = some h) : fr_h h := by
  have hf : fr_h ss_h0 := fun p _ => rfl
  unfold in_h at e
  obtain ⟨r1, h2, e1, e⟩ := ss_bind2 e
  have hf := fr_ss_no hf e1
  obtain ⟨h3, e2, e⟩ := ss_bind e
  have hf := fr_S_init hf e2
  obtain ⟨r4, h5, e3, e⟩ := ss_bind2 e
  have hf := fr_ss_no hf e3
  obtain ⟨h6, e4, e⟩ := ss_bind e
  have hf := fr_M_init hf e4
  cases e
  exact hf
def zN (n : Nat) : List Int32 := List.replicate n (nI 0)
def zL (n : Nat) : List Int64 := List.replicate n 0
def in_v (v j : Nat) : ss_Cl := if j = 0 then (5, zN 5, [], [some (v + 1), some (v + 2), some (v + 3), some (v + 4), some (v + 5)]) else if j = 1 ∨ j = 2 then (20, zN 4, [], []) else if j = 5 then (0, zN 4, [], [some (v + 6), some (v + 7)]) else if j = 7 then (20, m8, [], []) else (20, z8, [], [])
def in_g (p : Nat) : ss_Cl := if p < 12 then in_v 4 (p - 4) else if p < 20 then in_v 12 (p - 12) else if p < 33 then in_v 25 (p - 25) else if p < 102 then (if (p - 42) % 3 = 0 then (0, zN 4, [], [some (p + 1), some (p + 2)]) else if (p - 42) % 3 = 1 then (20, z8, [], []) else (20, m8, [], [])) else (99, [], [], [])
def in_C : ss_Hp := (pk_C 142 in_g (nI 0) (zN 5) (zN 400) (some 12) (zN 3) (zN 400) (zN 25) (List.replicate 6 none) [-nI 1, nI 0, nI 0] (some 25) (zN 4) z8 m8 z10 z10 z10 (List.replicate 4 none) (zN 2) (some 25) none (zN 4) z8 m8 (zN 4) z8 z8 (zL 12) (zL 32) (zN 488) (zN 7) z8 z8 (zN 64))
def in_M : ss_Hp := (pm_M 142 in_g ((zN 16).set 13 (-nI 1)) 0 (zN 400) (zN 2400) (zN 7) (zN 288) (zN 6) (zN 93) (zN 400) (zL 64) (zL 12) (zN 124) (zN 8) (zN 8) (zN 400) (zN 20) (zN 488) (zN 8) (zN 64) (zN 7) (zN 56) (zN 496) (zN 4) (zN 4) (zN 4))
def in_d2 : DecidableEq (List Int32) := inferInstance
def in_d7 : DecidableEq (List Int64 × List (Option Nat)) := inferInstance
def in_d8 : DecidableEq (List Int32 × List Int64 × List (Option Nat)) := @instDecidableEqProd _ _ in_d2 in_d7
def in_d9 : DecidableEq (Nat × List Int32 × List Int64 × List (Option Nat)) := @instDecidableEqProd _ _ inferInstance in_d8
def in_d10 : DecidableEq (List (Nat × List Int32 × List Int64 × List (Option Nat))) := @instDecidableEqList _ in_d9
def in_dC : DecidableEq (Nat × List (Nat × List Int32 × List Int64 × List (Option Nat))) := @instDecidableEqProd _ _ inferInstance in_d10
def in_s : Nat × List (Nat × List Int32 × List Int64 × List (Option Nat)) := (142, (List.range 142).map (fun p => if p < 118 then in_C.2 p else in_M.2 p))
def in_b : Bool := match in_h 200001 with
  | none => false
  | some h => @decide _ (in_dC (h.1, (List.range 142).map h.2) in_s)
def in_r (N : Nat) : Option Nat :=
  ss_b2 (ss_no ss_h0 11 1 0 10) fun r1 h2 =>
  (mm_S_init N r1 h2).bind fun h3 => some h3.1
theorem in_rt : in_r 200001 = some 118 := by decide +kernel
theorem in_bt : in_b = true := by decide +kernel
theorem in_e : ∃ h, in_h 200001 = some h ∧ (h.1, (List.range 142).map h.2) = in_s := by
  have e := in_bt
  unfold in_b at e
  split at e
  · cases e
  · next h hh => exact ⟨h, hh, @of_decide_eq_true _ (in_dC _ _) e⟩
theorem zN_pv {n i : Nat} : pv (zN n) i = nI 0 := by
  unfold zN pv
  rw [List.getD_eq_getElem?_getD, List.getElem?_replicate]
  split <;> rfl
theorem zN_len (n : Nat) : (zN n).length = n := List.length_replicate
theorem sl_z {n p q : Nat} : sl (zN n) p q = zN q := pv_ext (by rw [sl_len, zN_len]) (fun i hi => by
  rw [sl_len] at hi
  rw [sl_pv hi, zN_pv, zN_pv])
theorem in_ok : ∃ (N : Nat) (h : ss_Hp), 150000 < N ∧ in_r N = some 118 ∧ in_h N = some h ∧ cl_h h [] (zN 124) (-nI 1) (nI 0) [] [] (fun _ => none) ∧ mo_h h [] (zN 124) (-nI 1) (nI 0) [] [] (fun _ => none) ∧ as_ok [] (zN 124) (-nI 1) (nI 0) [] [] (fun _ => none) ∧ fr_h h := by
  obtain ⟨h, hi, e⟩ := in_e
  · skip
    have e1 : h.1 = 142 := congrArg Prod.fst e
    have e2 : (List.range 142).map h.2 = (List.range 142).map (fun p => if p < 118 then in_C.2 p else in_M.2 p) := congrArg Prod.snd e
    have ec : ∀ p, p < 142 → h.2 p = if p < 118 then in_C.2 p else in_M.2 p := fun p hp => by
      have := congrArg (fun l => l[p]?) e2
      simp only [List.getElem?_map, List.getElem?_range hp, Option.map_some] at this
      exact Option.some.inj this
    have lo : ∀ p, p < 118 → h.2 p = in_C.2 p := fun p hp => by rw [ec p (by omega), if_pos hp]
    have hi2 : ∀ p, 118 ≤ p → p < 142 → h.2 p = in_M.2 p := fun p h1 h2 => by rw [ec p h2, if_neg (by omega)]
    have gg : ∀ p, pk_fr p → p < 118 → h.2 p = in_g p := fun p q hp => by
      rw [lo p hp]
      exact pk_out q
    have v17 : qv_R h.2 25 (zN 124) := by
      refine ⟨⟨Or.inl rfl, nI 0, z8, ?_, ?_, ?_, ?_, rfl, fun s hs => ⟨0, by omega, z8_pv, fun d hd => ?_⟩⟩, ?_, ?_, ?_, ?_, m8, rfl, ?_, fun ht => ?_⟩
      · rw [gg 25 (by unfold pk_fr; omega) (by omega)]; rfl
      · rw [gg 26 (by unfold pk_fr; omega) (by omega)]; rfl
      · rw [gg 28 (by unfold pk_fr; omega) (by omega), sl_z]; rfl
      · rw [gg 29 (by unfold pk_fr; omega) (by omega)]; rfl
      · rw [zN_pv, pb_bit (by omega) (by omega)]; simp
      · rw [gg 25 (by unfold pk_fr; omega) (by omega)]; rfl
      · rw [gg 27 (by unfold pk_fr; omega) (by omega)]; rfl
      · rw [gg 30 (by unfold pk_fr; omega) (by omega)]; rfl
      · rw [gg 31 (by unfold pk_fr; omega) (by omega), sl_z]; rfl
      · rw [gg 32 (by unfold pk_fr; omega) (by omega)]; rfl
      · rw [zN_pv] at ht
        exact absurd (Int32.le_refl _) ht
    have b4 : bv_R h.2 4 [nI 0, nI 0, nI 0, nI 0, nI 0] [nI 0, nI 0, nI 0, nI 0] [nI 0, nI 0, nI 0, nI 0] bz8 bz8 bz8 bm8 := ⟨(gg 4 (by unfold pk_fr; omega) (by omega)).trans rfl, (gg (4 + 1) (by unfold pk_fr; omega) (by omega)).trans rfl, (gg (4 + 2) (by unfold pk_fr; omega) (by omega)).trans rfl, (gg (4 + 3) (by unfold pk_fr; omega) (by omega)).trans rfl, (gg (4 + 4) (by unfold pk_fr; omega) (by omega)).trans rfl, (gg (4 + 5) (by unfold pk_fr; omega) (by omega)).trans rfl, (gg (4 + 6) (by unfold pk_fr; omega) (by omega)).trans rfl, (gg (4 + 7) (by unfold pk_fr; omega) (by omega)).trans rfl⟩
    have b12 : bv_R h.2 12 [nI 0, nI 0, nI 0, nI 0, nI 0] [nI 0, nI 0, nI 0, nI 0] [nI 0, nI 0, nI 0, nI 0] bz8 bz8 bz8 bm8 := ⟨(gg 12 (by unfold pk_fr; omega) (by omega)).trans rfl, (gg (12 + 1) (by unfold pk_fr; omega) (by omega)).trans rfl, (gg (12 + 2) (by unfold pk_fr; omega) (by omega)).trans rfl, (gg (12 + 3) (by unfold pk_fr; omega) (by omega)).trans rfl, (gg (12 + 4) (by unfold pk_fr; omega) (by omega)).trans rfl, (gg (12 + 5) (by unfold pk_fr; omega) (by omega)).trans rfl, (gg (12 + 6) (by unfold pk_fr; omega) (by omega)).trans rfl, (gg (12 + 7) (by unfold pk_fr; omega) (by omega)).trans rfl⟩
    refine ⟨200001, h, by omega, in_rt, hi, ⟨h.1, h.2, nI 0, zN 5, zN 400, some 12, zN 3, zN 400, zN 25, List.replicate 6 none, [-nI 1, nI 0, nI 0], some 25, zN 4, z8, m8, z10, z10, z10, List.replicate 4 none, zN 2, some 25, none, zN 4, z8, m8, zN 4, z8, z8, zL 12, zL 32, zN 488, zN 7, z8, z8, zN 64, pk_re (n := 142) (g := in_g) (fun p q => ?_), by omega, rfl, ⟨rfl, rfl, zN_len _, (fun i hi => absurd hi (Nat.not_lt_zero i))⟩, ⟨rfl, zN_len _, zN_len _, zN_pv, rfl, rfl, rfl, b4, _, _, _, _, _, _, _, ⟨rfl, rfl, rfl, rfl, rfl, rfl, rfl⟩, b12⟩, ⟨rfl, fun r hr => ⟨(fun h => absurd h (Nat.not_lt_zero r)), fun _ => ?_⟩⟩, ⟨by rw [zN_pv], ⟨25, rfl, v17⟩, by rw [zN_pv, zN_pv, zN_pv, zN_pv]; rfl, by rw [sl_z]; rfl, ⟨rfl, fun ht => ?_⟩, ⟨rfl, rfl, rfl, fun q hq h123 i hi => ?_⟩⟩, ⟨rfl, fun q hq => ?_, fun q q' w h1 _ => ?_⟩, ⟨0, rfl, by omega, fun i hi => ?_, (fun j hj => absurd hj (Nat.not_lt_zero j))⟩, ⟨rfl, rfl, rfl, rfl, rfl, rfl, rfl, rfl⟩, ⟨zN_len _, rfl, rfl, rfl, zN_len _⟩⟩, ⟨h.1, h.2, (zN 16).set 13 (-nI 1), 0, zN 400, zN 2400, zN 7, zN 288, zN 6, zN 93, zN 400, zL 64, zL 12, zN 124, zN 8, zN 8, zN 400, zN 20, zN 488, zN 8, zN 64, zN 7, zN 56, zN 496, zN 4, zN 4, zN 4, ?_, ⟨rfl, zN_len _, zN_len _, rfl, zN_len _, rfl, zN_len _, zN_len _, List.length_replicate, List.length_replicate, rfl, rfl⟩, ⟨zN_len _, zN_len _, zN_len _, rfl, zN_len _, rfl, zN_len _, zN_len _, rfl, rfl, rfl⟩, ⟨rfl, (fun i hi => absurd hi (Nat.not_lt_zero i))⟩, ⟨rfl, (fun i hi => absurd hi (Nat.not_lt_zero i))⟩, ⟨rfl, rfl, rfl⟩, ⟨rfl, (fun i hi => absurd hi (Nat.not_lt_zero i))⟩, fun q hq => zN_pv⟩, ⟨⟨Nat.zero_le _, (fun i hi => absurd hi (Nat.not_lt_zero i))⟩, ⟨0, 0, 0, ?_, Nat.zero_le _, (fun i hi => absurd hi (Nat.not_lt_zero i))⟩, Nat.zero_le _, Or.inl rfl, ⟨0, by omega, rfl⟩, (fun q s f y hI => by cases hI)⟩, in_fr hi⟩
    · have hp : p < 118 := by unfold pk_fr at q; omega
      exact lo p hp
    · rw [List.getElem?_replicate, if_pos hr]
    · rw [zN_pv] at ht
      exact absurd (Int32.le_refl _) ht
    · rw [zN_pv] at h123
      have := (nI_eq (by omega) (by omega)).mp h123
      omega
    · show (List.replicate 4 none)[q]? = some none
      rw [List.getElem?_replicate, if_pos hq]
    · rw [List.getElem?_replicate] at h1
      split at h1 <;> cases h1
    · refine ⟨zN 4, z8, m8, rfl, rfl, rfl, ?_, ?_, ?_⟩
      · rw [gg (42 + 3 * i) (by unfold pk_fr; omega) (by omega)]
        unfold in_g
        rw [if_neg (by omega), if_neg (by omega), if_neg (by omega), if_pos (by omega), if_pos (by omega)]
      · rw [gg (42 + 3 * i + 1) (by unfold pk_fr; omega) (by omega)]
        unfold in_g
        rw [if_neg (by omega), if_neg (by omega), if_neg (by omega), if_pos (by omega), if_neg (by omega), if_pos (by omega)]
      · rw [gg (42 + 3 * i + 2) (by unfold pk_fr; omega) (by omega)]
        unfold in_g
        rw [if_neg (by omega), if_neg (by omega), if_neg (by omega), if_pos (by omega), if_neg (by omega), if_neg (by omega)]
    · refine Prod.ext rfl (funext fun p => ?_)
      by_cases q : p < 118 ∨ 142 ≤ p
      · rw [pm_out2 q]
      · rw [hi2 p (by omega) (by omega)]
        exact pm_in (by omega)
    · have z : ∀ j, pv (zN 124) j = nI 0 := fun j => zN_pv
      exact ⟨⟨zN_len _, ⟨by omega, z 2⟩, ⟨by omega, z 3⟩, ⟨by omega, z 10⟩, (fun s hs => by omega), fun s hs => ⟨0, by omega, z _⟩, (fun i hi => by omega)⟩, fun s hs => ⟨0, by omega, z _, fun _ => rfl⟩, (fun i hi => by omega), ⟨0, by omega, z _⟩, by omega, (fun s hs => by omega), ⟨0, by omega, z _, (fun i hi => by omega)⟩, ⟨fun s hs => ⟨0, by omega, z _, fun _ => rfl⟩, (fun s hs => by omega)⟩, fun e he => ⟨0, by omega, z _⟩, Or.inr ⟨z 0, rfl, rfl⟩⟩
