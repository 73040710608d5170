theorem dd_M_end_0 : decode bb_M_end 0 = .ok (.iload_n 1, 1) := by decide +kernel
theorem dd_M_end_1 : decode bb_M_end 1 = .ok (.ifCond .lt 11, 3) := by decide +kernel
theorem dd_M_end_4 : decode bb_M_end 4 = .ok (.iload_n 1, 1) := by decide +kernel
theorem dd_M_end_5 : decode bb_M_end 5 = .ok (.aload_n 0, 1) := by decide +kernel
theorem dd_M_end_6 : decode bb_M_end 6 = .ok (.getfield 86, 3) := by decide +kernel
theorem dd_M_end_9 : decode bb_M_end 9 = .ok (.if_icmp .le 5, 3) := by decide +kernel
theorem dd_M_end_12 : decode bb_M_end 12 = .ok (.iconst (-1), 1) := by decide +kernel
theorem dd_M_end_13 : decode bb_M_end 13 = .ok (.ireturn, 1) := by decide +kernel
theorem dd_M_end_14 : decode bb_M_end 14 = .ok (.aload_n 0, 1) := by decide +kernel
theorem dd_M_end_15 : decode bb_M_end 15 = .ok (.iload_n 1, 1) := by decide +kernel
theorem dd_M_end_16 : decode bb_M_end 16 = .ok (.putfield 86, 3) := by decide +kernel
theorem dd_M_end_19 : decode bb_M_end 19 = .ok (.iload_n 1, 1) := by decide +kernel
theorem dd_M_end_20 : decode bb_M_end 20 = .ok (.ireturn, 1) := by decide +kernel
def mm_M_end_j12 (N : Nat) (this : Option Nat) (a1 : Int32) (h_12 : ss_Hp) : Option (Int32 × ss_Hp) :=
  some ((-1 : Int32), h_12)
def mm_M_end (N : Nat) (this : Option Nat) (a1 : Int32) (h : ss_Hp) : Option (Int32 × ss_Hp) :=
  if ss_is h this 12 = true then
    if a1 < 0 then
      mm_M_end_j12 N this a1 h
    else
      (ss_gi h this 12 0).bind fun v2 =>
      if a1 ≤ v2 then
        (ss_pi h this 12 0 a1).bind fun h4 =>
        some (a1, h4)
      else
        mm_M_end_j12 N this a1 h
  else none
abbrev ww_M_end (p : Program) (l : Launch) (e : Env) (s : State) (m : MethodId) (below : List Frame) (meth : Method) (c : Code) (G : ss_G) (this : Option Nat) (a1 : Int32) (h : ss_Hp) (rr : Int32) (hh : ss_Hp) (H : Heap) (locs : List Loc) (k n : Nat) (g : JFrame) : Prop := W p l e (headSpec (ss_w yy_M_end bb_M_end 2 (some (.int))) ({ frames := 0, cells := 0, slots := 0, locals := 0 })).room s m ([ss_v (ss_b G) this, .int a1] : List Value).toArray below meth c H locs k n (MQ below (ss_Qc G (some (.int rr)) hh) ([ss_v (ss_b G) this, .int a1] : List Value).toArray s 0 0 (ss_A G)) g
theorem ck_M_end {N : Nat} {this : Option Nat} {a1 : Int32} {h : ss_Hp} {res : Int32 × ss_Hp} (hm : mm_M_end N this a1 h = some res) : ss_is h this 12 = true := (ss_chk hm).1
set_option maxHeartbeats 4000000 in
set_option maxRecDepth 100000 in
theorem cc_M_end (l : Launch) (G : ss_G) (N : Nat) (this : Option Nat) (a1 : Int32) (h : ss_Hp) (rr : Int32) (hh : ss_Hp) (hm : mm_M_end N this a1 h = some (rr, hh)) : ss_Ct l G yy_M_end bb_M_end 2 (some (.int)) ({ frames := 0, cells := 0, slots := 0, locals := 0 }) [ss_v (ss_b G) this, .int a1] h (some (.int rr)) hh := by
  obtain ⟨hck, hm⟩ := ss_chk hm
  refine Met.ofW (cc := bb_M_end) (maxL := 2) (ret := (some (.int))) (by decide) rfl ?_
  intro p e s m args below meth c s₁ B hml hv
  obtain ⟨rfl, hR, hK⟩ := hv
  have hC : CallFix p m c bb_M_end 2 s _ lw_g sR_12 := ⟨B.exec, B.bytes, hml, findClass_of_methodNamed B.named, fun w hw => atoms_spec (ws := ss_w yy_M_end bb_M_end 2 (some (.int))) B.pre w (List.mem_cons_of_mem _ hw)⟩
  have hx := hC.1
  have hb := hC.2.1
  have hr := B.returns
  have hlocks := B.notSynchronized
  have hS : va_S (ss_A G) s.heap s.heap [] := va_S.rf
  have hl := lv_entry ([ss_v (ss_b G) this, .int a1]) (n := 2) (by simp [lg_sl, ss_v_cat, ss_cat_i, ss_cat_l, ss_cat_r])
  rw [lg_entry_eq]
  generalize (lg_sl ([ss_v (ss_b G) this, .int a1]) ++ List.replicate (2 - (lg_sl ([ss_v (ss_b G) this, .int a1])).length) Slot.unset).toArray = ls at hl ⊢
  have hl : lv_has ls 2 [(0, ss_v (ss_b G) this), (1, .int a1)] := by simpa [lv_args, ss_v_cat, ss_cat_i, ss_cat_l, ss_cat_r] using hl
  have J_12 : ∀ (h_12 : ss_Hp) (H : Heap) (locs : List Loc) (ls : Array Slot), mm_M_end_j12 N this a1 h_12 = some (rr, hh) → ss_R G h_12 H → va_S (ss_A G) s.heap H locs → lv_has ls 2 [] → ww_M_end p l e s m below meth c G this a1 h rr hh  H locs 0 0 (F0 m 12 ls []) := by
    intro h_12 H locs ls hm hR hS hl
    refine lv_iconst (v := -1) hx hb dd_M_end_12 (by decide) ?_
    exact ss_iret hC hr hlocks hR hS hm dd_M_end_13
  refine lv_iload_n hx hb dd_M_end_0 rfl (lv_at hl 1 rfl) ?_
  refine lv_if_lt (tgt := 12) hx hb dd_M_end_1 (by decide) (fun c1 => ?_) (fun c1 => ?_)
  · have hm := ss_ift hm c1
    exact J_12 h _ _ _ hm hR hS (lv_sub hl [] rfl)
  · have hm := ss_iff hm c1
    refine lv_iload_n hx hb dd_M_end_4 rfl (lv_at hl 1 rfl) ?_
    refine ss_aload_n hx hb dd_M_end_5 rfl (lv_at hl 0 rfl) ?_
    obtain ⟨v2, qv2, hm⟩ := ss_bind hm
    refine ss_geti hC hK hR kf_M_86 qv2 dd_M_end_6 ?_
    refine lv_icmp_le (tgt := 14) hx hb dd_M_end_9 (by decide) (fun c3 => ?_) (fun c3 => ?_)
    · have hm := ss_ift hm c3
      refine ss_aload_n hx hb dd_M_end_14 rfl (lv_at hl 0 rfl) ?_
      refine lv_iload_n hx hb dd_M_end_15 rfl (lv_at hl 1 rfl) ?_
      obtain ⟨h4, qh4, hm⟩ := ss_bind hm
      refine ss_puti hC hK hR hS kp_M_86 qh4 dd_M_end_16 (fun H locs hR hS => ?_)
      refine lv_iload_n hx hb dd_M_end_19 rfl (lv_at hl 1 rfl) ?_
      exact ss_iret hC hr hlocks hR hS hm dd_M_end_20
    · have hm := ss_iff hm c3
      exact J_12 h _ _ _ hm hR hS (lv_sub hl [] rfl)
theorem dd_M_see_0 : decode bb_M_see 0 = .ok (.aload_n 0, 1) := by decide +kernel
theorem dd_M_see_1 : decode bb_M_see 1 = .ok (.getfield 96, 3) := by decide +kernel
theorem dd_M_see_4 : decode bb_M_see 4 = .ok (.aload_n 0, 1) := by decide +kernel
theorem dd_M_see_5 : decode bb_M_see 5 = .ok (.getfield 86, 3) := by decide +kernel
theorem dd_M_see_8 : decode bb_M_see 8 = .ok (.if_icmp .ge 30, 3) := by decide +kernel
theorem dd_M_see_11 : decode bb_M_see 11 = .ok (.aload_n 0, 1) := by decide +kernel
theorem dd_M_see_12 : decode bb_M_see 12 = .ok (.getfield 7, 3) := by decide +kernel
theorem dd_M_see_15 : decode bb_M_see 15 = .ok (.aload_n 0, 1) := by decide +kernel
theorem dd_M_see_16 : decode bb_M_see 16 = .ok (.getfield 96, 3) := by decide +kernel
theorem dd_M_see_19 : decode bb_M_see 19 = .ok (.baload, 1) := by decide +kernel
theorem dd_M_see_20 : decode bb_M_see 20 = .ok (.bipush 32, 2) := by decide +kernel
theorem dd_M_see_22 : decode bb_M_see 22 = .ok (.if_icmp .ne 16, 3) := by decide +kernel
theorem dd_M_see_25 : decode bb_M_see 25 = .ok (.aload_n 0, 1) := by decide +kernel
theorem dd_M_see_26 : decode bb_M_see 26 = .ok (.dup, 1) := by decide +kernel
theorem dd_M_see_27 : decode bb_M_see 27 = .ok (.getfield 96, 3) := by decide +kernel
theorem dd_M_see_30 : decode bb_M_see 30 = .ok (.iconst 1, 1) := by decide +kernel
theorem dd_M_see_31 : decode bb_M_see 31 = .ok (.iadd, 1) := by decide +kernel
theorem dd_M_see_32 : decode bb_M_see 32 = .ok (.putfield 96, 3) := by decide +kernel
theorem dd_M_see_35 : decode bb_M_see 35 = .ok (.goto (-35), 3) := by decide +kernel
theorem dd_M_see_38 : decode bb_M_see 38 = .ok (.aload_n 0, 1) := by decide +kernel
theorem dd_M_see_39 : decode bb_M_see 39 = .ok (.getfield 96, 3) := by decide +kernel
theorem dd_M_see_42 : decode bb_M_see 42 = .ok (.aload_n 0, 1) := by decide +kernel
theorem dd_M_see_43 : decode bb_M_see 43 = .ok (.getfield 86, 3) := by decide +kernel
theorem dd_M_see_46 : decode bb_M_see 46 = .ok (.if_icmp .ge 19, 3) := by decide +kernel
theorem dd_M_see_49 : decode bb_M_see 49 = .ok (.aload_n 0, 1) := by decide +kernel
theorem dd_M_see_50 : decode bb_M_see 50 = .ok (.getfield 7, 3) := by decide +kernel
theorem dd_M_see_53 : decode bb_M_see 53 = .ok (.aload_n 0, 1) := by decide +kernel
theorem dd_M_see_54 : decode bb_M_see 54 = .ok (.getfield 96, 3) := by decide +kernel
theorem dd_M_see_57 : decode bb_M_see 57 = .ok (.baload, 1) := by decide +kernel
theorem dd_M_see_58 : decode bb_M_see 58 = .ok (.sipush 255, 3) := by decide +kernel
theorem dd_M_see_61 : decode bb_M_see 61 = .ok (.iand, 1) := by decide +kernel
theorem dd_M_see_62 : decode bb_M_see 62 = .ok (.goto 4, 3) := by decide +kernel
theorem dd_M_see_65 : decode bb_M_see 65 = .ok (.iconst (-1), 1) := by decide +kernel
theorem dd_M_see_66 : decode bb_M_see 66 = .ok (.ireturn, 1) := by decide +kernel
def mm_M_see_j66 (N : Nat) (this : Option Nat) (s0_66 : Int32) (h_66 : ss_Hp) : Option (Int32 × ss_Hp) :=
  some (s0_66, h_66)
def mm_M_see_b0 (N : Nat) (this : Option Nat) (st : ss_Hp) : Option (ss_Hp ⊕ ss_Hp) :=
  match st with
  | h_0 =>
    (ss_gi h_0 this 12 2).bind fun v7 =>
    (ss_gi h_0 this 12 0).bind fun v8 =>
    if v8 ≤ v7 then
      some (.inr h_0)
    else
      (ss_gr h_0 this 12 0).bind fun r10 =>
      (ss_gi h_0 this 12 2).bind fun v11 =>
      (ss_ai h_0 r10 21 v11).bind fun v12 =>
      if v12 = (32 : Int32) then
        (ss_gi h_0 this 12 2).bind fun v14 =>
        (ss_pi h_0 this 12 2 (v14 + (1 : Int32))).bind fun h15 =>
        some (.inl h15)
      else
        some (.inr h_0)
def mm_M_see (N : Nat) (this : Option Nat) (h : ss_Hp) : Option (Int32 × ss_Hp) :=
  if ss_is h this 12 = true then
    (ss_lp (mm_M_see_b0 N this) N h).bind fun h_0_38 =>
    (ss_gi h_0_38 this 12 2).bind fun v1 =>
    (ss_gi h_0_38 this 12 0).bind fun v2 =>
    if v2 ≤ v1 then
      mm_M_see_j66 N this (-1 : Int32) h_0_38
    else
      (ss_gr h_0_38 this 12 0).bind fun r4 =>
      (ss_gi h_0_38 this 12 2).bind fun v5 =>
      (ss_ai h_0_38 r4 21 v5).bind fun v6 =>
      mm_M_see_j66 N this (v6 &&& (255 : Int32)) h_0_38
  else none
abbrev ww_M_see (p : Program) (l : Launch) (e : Env) (s : State) (m : MethodId) (below : List Frame) (meth : Method) (c : Code) (G : ss_G) (this : Option Nat) (h : ss_Hp) (rr : Int32) (hh : ss_Hp) (H : Heap) (locs : List Loc) (k n : Nat) (g : JFrame) : Prop := W p l e (headSpec (ss_w yy_M_see bb_M_see 1 (some (.int))) ({ frames := 0, cells := 0, slots := 0, locals := 0 })).room s m ([ss_v (ss_b G) this] : List Value).toArray below meth c H locs k n (MQ below (ss_Qc G (some (.int rr)) hh) ([ss_v (ss_b G) this] : List Value).toArray s 0 0 (ss_A G)) g
theorem ck_M_see {N : Nat} {this : Option Nat} {h : ss_Hp} {res : Int32 × ss_Hp} (hm : mm_M_see N this h = some res) : ss_is h this 12 = true := (ss_chk hm).1
set_option maxHeartbeats 4000000 in
set_option maxRecDepth 100000 in
theorem cc_M_see (l : Launch) (G : ss_G) (N : Nat) (this : Option Nat) (h : ss_Hp) (rr : Int32) (hh : ss_Hp) (hm : mm_M_see N this h = some (rr, hh)) : ss_Ct l G yy_M_see bb_M_see 1 (some (.int)) ({ frames := 0, cells := 0, slots := 0, locals := 0 }) [ss_v (ss_b G) this] h (some (.int rr)) hh := by
  obtain ⟨hck, hm⟩ := ss_chk hm
  refine Met.ofW (cc := bb_M_see) (maxL := 1) (ret := (some (.int))) (by decide) rfl ?_
  intro p e s m args below meth c s₁ B hml hv
  obtain ⟨rfl, hR, hK⟩ := hv
  have hC : CallFix p m c bb_M_see 1 s _ lw_g sR_12 := ⟨B.exec, B.bytes, hml, findClass_of_methodNamed B.named, fun w hw => atoms_spec (ws := ss_w yy_M_see bb_M_see 1 (some (.int))) B.pre w (List.mem_cons_of_mem _ hw)⟩
  have hx := hC.1
  have hb := hC.2.1
  have hr := B.returns
  have hlocks := B.notSynchronized
  have hS : va_S (ss_A G) s.heap s.heap [] := va_S.rf
  have hl := lv_entry ([ss_v (ss_b G) this]) (n := 1) (by simp [lg_sl, ss_v_cat, ss_cat_i, ss_cat_l, ss_cat_r])
  rw [lg_entry_eq]
  generalize (lg_sl ([ss_v (ss_b G) this]) ++ List.replicate (1 - (lg_sl ([ss_v (ss_b G) this])).length) Slot.unset).toArray = ls at hl ⊢
  have hl : lv_has ls 1 [(0, ss_v (ss_b G) this)] := by simpa [lv_args, ss_v_cat, ss_cat_i, ss_cat_l, ss_cat_r] using hl
  have J_66 : ∀ (s0_66 : Int32) (h_66 : ss_Hp) (H : Heap) (locs : List Loc) (ls : Array Slot), mm_M_see_j66 N this s0_66 h_66 = some (rr, hh) → ss_R G h_66 H → va_S (ss_A G) s.heap H locs → lv_has ls 1 [] → ww_M_see p l e s m below meth c G this h rr hh  H locs 0 0 (F0 m 66 ls [.int s0_66]) := by
    intro s0_66 h_66 H locs ls hm hR hS hl
    exact ss_iret hC hr hlocks hR hS hm dd_M_see_66
  obtain ⟨e_0, he_0, hm⟩ := ss_bind hm
  have X_0_38 : ∀  (h_0_38 : ss_Hp) (H : Heap) (locs : List Loc) (ls : Array Slot), e_0 = h_0_38 → ss_R G h_0_38 H → va_S (ss_A G) s.heap H locs → lv_has ls 1 [(0, ss_v (ss_b G) this)] → ww_M_see p l e s m below meth c G this h rr hh  H locs 0 0 (F0 m 38 ls []) := by
    intro h_0_38 H locs ls hq hR hS hl
    rw [hq] at hm
    refine ss_aload_n hx hb dd_M_see_38 rfl (lv_at hl 0 rfl) ?_
    obtain ⟨v1, qv1, hm⟩ := ss_bind hm
    refine ss_geti hC hK hR kf_M_96 qv1 dd_M_see_39 ?_
    refine ss_aload_n hx hb dd_M_see_42 rfl (lv_at hl 0 rfl) ?_
    obtain ⟨v2, qv2, hm⟩ := ss_bind hm
    refine ss_geti hC hK hR kf_M_86 qv2 dd_M_see_43 ?_
    refine lv_icmp_ge (tgt := 65) hx hb dd_M_see_46 (by decide) (fun c3 => ?_) (fun c3 => ?_)
    · have hm := ss_ift hm c3
      refine lv_iconst (v := -1) hx hb dd_M_see_65 (by decide) ?_
      exact J_66 (-1 : Int32) h_0_38 _ _ _ hm hR hS (lv_sub hl [] rfl)
    · have hm := ss_iff hm c3
      refine ss_aload_n hx hb dd_M_see_49 rfl (lv_at hl 0 rfl) ?_
      obtain ⟨r4, qr4, hm⟩ := ss_bind hm
      refine ss_getr hC hK hR kf_M_7 rfl qr4 dd_M_see_50 ?_
      refine ss_aload_n hx hb dd_M_see_53 rfl (lv_at hl 0 rfl) ?_
      obtain ⟨v5, qv5, hm⟩ := ss_bind hm
      refine ss_geti hC hK hR kf_M_96 qv5 dd_M_see_54 ?_
      obtain ⟨v6, qv6, hm⟩ := ss_bind hm
      refine ss_bald hC hK hR qv6 dd_M_see_57 ?_
      refine lv_sipush (v := 255) hx hb dd_M_see_58 (by decide) ?_
      refine lv_iand hx hb dd_M_see_61 ?_
      refine lv_goto (tgt := 66) hx hb dd_M_see_62 (by decide) ?_
      exact J_66 (v6 &&& (255 : Int32)) h_0_38 _ _ _ hm hR hS (lv_sub hl [] rfl)
  have L_0 : ∀ (n : Nat)  (h_0 : ss_Hp) (H : Heap) (locs : List Loc) (ls : Array Slot), ss_lp (mm_M_see_b0 N this) n h_0 = some e_0 → ss_R G h_0 H → va_S (ss_A G) s.heap H locs → lv_has ls 1 [(0, ss_v (ss_b G) this)] → ww_M_see p l e s m below meth c G this h rr hh  H locs 0 0 (F0 m 0 ls []) := by
    intro n
    induction n with
    | zero => intro h_0 H locs ls hm; cases hm
    | succ n ih_0 =>
      intro h_0 H locs ls hm hR hS hl
      obtain ⟨z_0, hm, hz1_0, hz2_0⟩ := ss_lps hm
      refine ss_aload_n hx hb dd_M_see_0 rfl (lv_at hl 0 rfl) ?_
      obtain ⟨v7, qv7, hm⟩ := ss_bind hm
      refine ss_geti hC hK hR kf_M_96 qv7 dd_M_see_1 ?_
      refine ss_aload_n hx hb dd_M_see_4 rfl (lv_at hl 0 rfl) ?_
      obtain ⟨v8, qv8, hm⟩ := ss_bind hm
      refine ss_geti hC hK hR kf_M_86 qv8 dd_M_see_5 ?_
      refine lv_icmp_ge (tgt := 38) hx hb dd_M_see_8 (by decide) (fun c9 => ?_) (fun c9 => ?_)
      · have hm := ss_ift hm c9
        exact X_0_38 h_0 _ _ _ (hz2_0 _ (ss_some hm)) hR hS hl
      · have hm := ss_iff hm c9
        refine ss_aload_n hx hb dd_M_see_11 rfl (lv_at hl 0 rfl) ?_
        obtain ⟨r10, qr10, hm⟩ := ss_bind hm
        refine ss_getr hC hK hR kf_M_7 rfl qr10 dd_M_see_12 ?_
        refine ss_aload_n hx hb dd_M_see_15 rfl (lv_at hl 0 rfl) ?_
        obtain ⟨v11, qv11, hm⟩ := ss_bind hm
        refine ss_geti hC hK hR kf_M_96 qv11 dd_M_see_16 ?_
        obtain ⟨v12, qv12, hm⟩ := ss_bind hm
        refine ss_bald hC hK hR qv12 dd_M_see_19 ?_
        refine lv_bipush (v := 32) hx hb dd_M_see_20 (by decide) ?_
        refine lv_icmp_ne (tgt := 38) hx hb dd_M_see_22 (by decide) (fun c13 => ?_) (fun c13 => ?_)
        · have hm := ss_iff hm c13
          exact X_0_38 h_0 _ _ _ (hz2_0 _ (ss_some hm)) hR hS hl
        · have hm := ss_ift hm c13
          refine ss_aload_n hx hb dd_M_see_25 rfl (lv_at hl 0 rfl) ?_
          refine ss_dupr hx hb dd_M_see_26 ?_
          obtain ⟨v14, qv14, hm⟩ := ss_bind hm
          refine ss_geti hC hK hR kf_M_96 qv14 dd_M_see_27 ?_
          refine lv_iconst (v := 1) hx hb dd_M_see_30 (by decide) ?_
          refine lv_iadd hx hb dd_M_see_31 ?_
          obtain ⟨h15, qh15, hm⟩ := ss_bind hm
          refine ss_puti hC hK hR hS kp_M_96 qh15 dd_M_see_32 (fun H locs hR hS => ?_)
          refine lv_goto (tgt := 0) hx hb dd_M_see_35 (by decide) ?_
          exact ih_0 h15 _ _ _ (hz1_0 _ (ss_some hm)) hR hS hl
  exact L_0 N h _ _ _ he_0 hR hS hl
theorem dd_M_isLetter_0 : decode bb_M_isLetter 0 = .ok (.iload_n 1, 1) := by decide +kernel
theorem dd_M_isLetter_1 : decode bb_M_isLetter 1 = .ok (.aload_n 0, 1) := by decide +kernel
theorem dd_M_isLetter_2 : decode bb_M_isLetter 2 = .ok (.getfield 86, 3) := by decide +kernel
theorem dd_M_isLetter_5 : decode bb_M_isLetter 5 = .ok (.if_icmp .ge 29, 3) := by decide +kernel
theorem dd_M_isLetter_8 : decode bb_M_isLetter 8 = .ok (.aload_n 0, 1) := by decide +kernel
theorem dd_M_isLetter_9 : decode bb_M_isLetter 9 = .ok (.getfield 7, 3) := by decide +kernel
theorem dd_M_isLetter_12 : decode bb_M_isLetter 12 = .ok (.iload_n 1, 1) := by decide +kernel
theorem dd_M_isLetter_13 : decode bb_M_isLetter 13 = .ok (.baload, 1) := by decide +kernel
theorem dd_M_isLetter_14 : decode bb_M_isLetter 14 = .ok (.bipush 97, 2) := by decide +kernel
theorem dd_M_isLetter_16 : decode bb_M_isLetter 16 = .ok (.if_icmp .lt 18, 3) := by decide +kernel
theorem dd_M_isLetter_19 : decode bb_M_isLetter 19 = .ok (.aload_n 0, 1) := by decide +kernel
theorem dd_M_isLetter_20 : decode bb_M_isLetter 20 = .ok (.getfield 7, 3) := by decide +kernel
theorem dd_M_isLetter_23 : decode bb_M_isLetter 23 = .ok (.iload_n 1, 1) := by decide +kernel
theorem dd_M_isLetter_24 : decode bb_M_isLetter 24 = .ok (.baload, 1) := by decide +kernel
theorem dd_M_isLetter_25 : decode bb_M_isLetter 25 = .ok (.bipush 122, 2) := by decide +kernel
theorem dd_M_isLetter_27 : decode bb_M_isLetter 27 = .ok (.if_icmp .gt 7, 3) := by decide +kernel
theorem dd_M_isLetter_30 : decode bb_M_isLetter 30 = .ok (.iconst 1, 1) := by decide +kernel
theorem dd_M_isLetter_31 : decode bb_M_isLetter 31 = .ok (.goto 4, 3) := by decide +kernel
theorem dd_M_isLetter_34 : decode bb_M_isLetter 34 = .ok (.iconst 0, 1) := by decide +kernel
theorem dd_M_isLetter_35 : decode bb_M_isLetter 35 = .ok (.ireturn, 1) := by decide +kernel
def mm_M_isLetter_j35 (N : Nat) (this : Option Nat) (a1 : Int32) (h : ss_Hp) (s0_35 : Int32) : Option Int32 :=
  (ss_bz s0_35).bind fun v1 =>
  some v1
def mm_M_isLetter_j34 (N : Nat) (this : Option Nat) (a1 : Int32) (h : ss_Hp) : Option Int32 :=
  mm_M_isLetter_j35 N this a1 h (0 : Int32)
def mm_M_isLetter (N : Nat) (this : Option Nat) (a1 : Int32) (h : ss_Hp) : Option Int32 :=
  if ss_is h this 12 = true then
    (ss_gi h this 12 0).bind fun v2 =>
    if v2 ≤ a1 then
      mm_M_isLetter_j34 N this a1 h
    else
      (ss_gr h this 12 0).bind fun r4 =>
      (ss_ai h r4 21 a1).bind fun v5 =>
      if v5 < (97 : Int32) then
        mm_M_isLetter_j34 N this a1 h
      else
        (ss_gr h this 12 0).bind fun r7 =>
        (ss_ai h r7 21 a1).bind fun v8 =>
        if (122 : Int32) < v8 then
          mm_M_isLetter_j34 N this a1 h
        else
          mm_M_isLetter_j35 N this a1 h (1 : Int32)
  else none
abbrev ww_M_isLetter (p : Program) (l : Launch) (e : Env) (s : State) (m : MethodId) (below : List Frame) (meth : Method) (c : Code) (G : ss_G) (this : Option Nat) (a1 : Int32) (h : ss_Hp) (rr : Int32) (H : Heap) (locs : List Loc) (k n : Nat) (g : JFrame) : Prop := W p l e (headSpec (ss_w yy_M_isLetter bb_M_isLetter 2 (some .boolean)) ({ frames := 0, cells := 0, slots := 0, locals := 0 })).room s m ([ss_v (ss_b G) this, .int a1] : List Value).toArray below meth c H locs k n (MQ below (ss_Qc G (some (.int rr)) h) ([ss_v (ss_b G) this, .int a1] : List Value).toArray s 0 0 (ss_A G)) g
theorem ck_M_isLetter {N : Nat} {this : Option Nat} {a1 : Int32} {h : ss_Hp} {res : Int32} (hm : mm_M_isLetter N this a1 h = some res) : ss_is h this 12 = true := (ss_chk hm).1
set_option maxHeartbeats 4000000 in
set_option maxRecDepth 100000 in
theorem cc_M_isLetter (l : Launch) (G : ss_G) (N : Nat) (this : Option Nat) (a1 : Int32) (h : ss_Hp) (rr : Int32) (hm : mm_M_isLetter N this a1 h = some rr) : ss_Ct l G yy_M_isLetter bb_M_isLetter 2 (some .boolean) ({ frames := 0, cells := 0, slots := 0, locals := 0 }) [ss_v (ss_b G) this, .int a1] h (some (.int rr)) h := by
  obtain ⟨hck, hm⟩ := ss_chk hm
  refine Met.ofW (cc := bb_M_isLetter) (maxL := 2) (ret := (some .boolean)) (by decide) rfl ?_
  intro p e s m args below meth c s₁ B hml hv
  obtain ⟨rfl, hR, hK⟩ := hv
  have hC : CallFix p m c bb_M_isLetter 2 s _ lw_g sR_12 := ⟨B.exec, B.bytes, hml, findClass_of_methodNamed B.named, fun w hw => atoms_spec (ws := ss_w yy_M_isLetter bb_M_isLetter 2 (some .boolean)) B.pre w (List.mem_cons_of_mem _ hw)⟩
  have hx := hC.1
  have hb := hC.2.1
  have hr := B.returns
  have hlocks := B.notSynchronized
  have hS : va_S (ss_A G) s.heap s.heap [] := va_S.rf
  have hl := lv_entry ([ss_v (ss_b G) this, .int a1]) (n := 2) (by simp [lg_sl, ss_v_cat, ss_cat_i, ss_cat_l, ss_cat_r])
  rw [lg_entry_eq]
  generalize (lg_sl ([ss_v (ss_b G) this, .int a1]) ++ List.replicate (2 - (lg_sl ([ss_v (ss_b G) this, .int a1])).length) Slot.unset).toArray = ls at hl ⊢
  have hl : lv_has ls 2 [(0, ss_v (ss_b G) this), (1, .int a1)] := by simpa [lv_args, ss_v_cat, ss_cat_i, ss_cat_l, ss_cat_r] using hl
  have J_35 : ∀ (s0_35 : Int32) (H : Heap) (locs : List Loc) (ls : Array Slot), mm_M_isLetter_j35 N this a1 h s0_35 = some rr → ss_R G h H → va_S (ss_A G) s.heap H locs → lv_has ls 2 [] → ww_M_isLetter p l e s m below meth c G this a1 h rr  H locs 0 0 (F0 m 35 ls [.int s0_35]) := by
    intro s0_35 H locs ls hm hR hS hl
    obtain ⟨v1, qv1, hm⟩ := ss_bind hm
    obtain ⟨hnb, rfl⟩ := ss_bzs qv1
    exact ss_zret hC hr hnb hlocks hR hS (ss_with _ hm) dd_M_isLetter_35
  have J_34 : ∀  (H : Heap) (locs : List Loc) (ls : Array Slot), mm_M_isLetter_j34 N this a1 h = some rr → ss_R G h H → va_S (ss_A G) s.heap H locs → lv_has ls 2 [] → ww_M_isLetter p l e s m below meth c G this a1 h rr  H locs 0 0 (F0 m 34 ls []) := by
    intro  H locs ls hm hR hS hl
    refine lv_iconst (v := 0) hx hb dd_M_isLetter_34 (by decide) ?_
    exact J_35 (0 : Int32)  _ _ _ hm hR hS hl
  refine lv_iload_n hx hb dd_M_isLetter_0 rfl (lv_at hl 1 rfl) ?_
  refine ss_aload_n hx hb dd_M_isLetter_1 rfl (lv_at hl 0 rfl) ?_
  obtain ⟨v2, qv2, hm⟩ := ss_bind hm
  refine ss_geti hC hK hR kf_M_86 qv2 dd_M_isLetter_2 ?_
  refine lv_icmp_ge (tgt := 34) hx hb dd_M_isLetter_5 (by decide) (fun c3 => ?_) (fun c3 => ?_)
  · have hm := ss_ift hm c3
    exact J_34  _ _ _ hm hR hS (lv_sub hl [] rfl)
  · have hm := ss_iff hm c3
    refine ss_aload_n hx hb dd_M_isLetter_8 rfl (lv_at hl 0 rfl) ?_
    obtain ⟨r4, qr4, hm⟩ := ss_bind hm
    refine ss_getr hC hK hR kf_M_7 rfl qr4 dd_M_isLetter_9 ?_
    refine lv_iload_n hx hb dd_M_isLetter_12 rfl (lv_at hl 1 rfl) ?_
    obtain ⟨v5, qv5, hm⟩ := ss_bind hm
    refine ss_bald hC hK hR qv5 dd_M_isLetter_13 ?_
    refine lv_bipush (v := 97) hx hb dd_M_isLetter_14 (by decide) ?_
    refine lv_icmp_lt (tgt := 34) hx hb dd_M_isLetter_16 (by decide) (fun c6 => ?_) (fun c6 => ?_)
    · have hm := ss_ift hm c6
      exact J_34  _ _ _ hm hR hS (lv_sub hl [] rfl)
    · have hm := ss_iff hm c6
      refine ss_aload_n hx hb dd_M_isLetter_19 rfl (lv_at hl 0 rfl) ?_
      obtain ⟨r7, qr7, hm⟩ := ss_bind hm
      refine ss_getr hC hK hR kf_M_7 rfl qr7 dd_M_isLetter_20 ?_
      refine lv_iload_n hx hb dd_M_isLetter_23 rfl (lv_at hl 1 rfl) ?_
      obtain ⟨v8, qv8, hm⟩ := ss_bind hm
      refine ss_bald hC hK hR qv8 dd_M_isLetter_24 ?_
      refine lv_bipush (v := 122) hx hb dd_M_isLetter_25 (by decide) ?_
      refine lv_icmp_gt (tgt := 34) hx hb dd_M_isLetter_27 (by decide) (fun c9 => ?_) (fun c9 => ?_)
      · have hm := ss_ift hm c9
        exact J_34  _ _ _ hm hR hS (lv_sub hl [] rfl)
      · have hm := ss_iff hm c9
        refine lv_iconst (v := 1) hx hb dd_M_isLetter_30 (by decide) ?_
        refine lv_goto (tgt := 35) hx hb dd_M_isLetter_31 (by decide) ?_
        exact J_35 (1 : Int32)  _ _ _ hm hR hS (lv_sub hl [] rfl)
theorem dd_M_isWord_0 : decode bb_M_isWord 0 = .ok (.aload_n 0, 1) := by decide +kernel
theorem dd_M_isWord_1 : decode bb_M_isWord 1 = .ok (.invokevirtual 99, 3) := by decide +kernel
theorem dd_M_isWord_4 : decode bb_M_isWord 4 = .ok (.pop, 1) := by decide +kernel
theorem dd_M_isWord_5 : decode bb_M_isWord 5 = .ok (.lconst 0, 1) := by decide +kernel
theorem dd_M_isWord_6 : decode bb_M_isWord 6 = .ok (.lstore_n 3, 1) := by decide +kernel
theorem dd_M_isWord_7 : decode bb_M_isWord 7 = .ok (.iconst 0, 1) := by decide +kernel
theorem dd_M_isWord_8 : decode bb_M_isWord 8 = .ok (.istore 5, 2) := by decide +kernel
theorem dd_M_isWord_10 : decode bb_M_isWord 10 = .ok (.aload_n 0, 1) := by decide +kernel
theorem dd_M_isWord_11 : decode bb_M_isWord 11 = .ok (.aload_n 0, 1) := by decide +kernel
theorem dd_M_isWord_12 : decode bb_M_isWord 12 = .ok (.getfield 96, 3) := by decide +kernel
theorem dd_M_isWord_15 : decode bb_M_isWord 15 = .ok (.iload 5, 2) := by decide +kernel
theorem dd_M_isWord_17 : decode bb_M_isWord 17 = .ok (.iadd, 1) := by decide +kernel
theorem dd_M_isWord_18 : decode bb_M_isWord 18 = .ok (.invokevirtual 103, 3) := by decide +kernel
theorem dd_M_isWord_21 : decode bb_M_isWord 21 = .ok (.ifCond .eq 35, 3) := by decide +kernel
theorem dd_M_isWord_24 : decode bb_M_isWord 24 = .ok (.iload 5, 2) := by decide +kernel
theorem dd_M_isWord_26 : decode bb_M_isWord 26 = .ok (.bipush 8, 2) := by decide +kernel
theorem dd_M_isWord_28 : decode bb_M_isWord 28 = .ok (.if_icmp .ge 22, 3) := by decide +kernel
theorem dd_M_isWord_31 : decode bb_M_isWord 31 = .ok (.lload_n 3, 1) := by decide +kernel
theorem dd_M_isWord_32 : decode bb_M_isWord 32 = .ok (.bipush 8, 2) := by decide +kernel
theorem dd_M_isWord_34 : decode bb_M_isWord 34 = .ok (.lshl, 1) := by decide +kernel
theorem dd_M_isWord_35 : decode bb_M_isWord 35 = .ok (.aload_n 0, 1) := by decide +kernel
theorem dd_M_isWord_36 : decode bb_M_isWord 36 = .ok (.getfield 7, 3) := by decide +kernel
theorem dd_M_isWord_39 : decode bb_M_isWord 39 = .ok (.aload_n 0, 1) := by decide +kernel
theorem dd_M_isWord_40 : decode bb_M_isWord 40 = .ok (.getfield 96, 3) := by decide +kernel
theorem dd_M_isWord_43 : decode bb_M_isWord 43 = .ok (.iload 5, 2) := by decide +kernel
theorem dd_M_isWord_45 : decode bb_M_isWord 45 = .ok (.iadd, 1) := by decide +kernel
theorem dd_M_isWord_46 : decode bb_M_isWord 46 = .ok (.baload, 1) := by decide +kernel
theorem dd_M_isWord_47 : decode bb_M_isWord 47 = .ok (.i2l, 1) := by decide +kernel
theorem dd_M_isWord_48 : decode bb_M_isWord 48 = .ok (.lor, 1) := by decide +kernel
theorem dd_M_isWord_49 : decode bb_M_isWord 49 = .ok (.lstore_n 3, 1) := by decide +kernel
theorem dd_M_isWord_50 : decode bb_M_isWord 50 = .ok (.iinc 5 1, 3) := by decide +kernel
theorem dd_M_isWord_53 : decode bb_M_isWord 53 = .ok (.goto (-43), 3) := by decide +kernel
theorem dd_M_isWord_56 : decode bb_M_isWord 56 = .ok (.iload 5, 2) := by decide +kernel
theorem dd_M_isWord_58 : decode bb_M_isWord 58 = .ok (.ifCond .le 20, 3) := by decide +kernel
theorem dd_M_isWord_61 : decode bb_M_isWord 61 = .ok (.iload 5, 2) := by decide +kernel
theorem dd_M_isWord_63 : decode bb_M_isWord 63 = .ok (.bipush 9, 2) := by decide +kernel
theorem dd_M_isWord_65 : decode bb_M_isWord 65 = .ok (.if_icmp .ge 13, 3) := by decide +kernel
theorem dd_M_isWord_68 : decode bb_M_isWord 68 = .ok (.lload_n 3, 1) := by decide +kernel
theorem dd_M_isWord_69 : decode bb_M_isWord 69 = .ok (.lload_n 1, 1) := by decide +kernel
theorem dd_M_isWord_70 : decode bb_M_isWord 70 = .ok (.lcmp, 1) := by decide +kernel
theorem dd_M_isWord_71 : decode bb_M_isWord 71 = .ok (.ifCond .ne 7, 3) := by decide +kernel
theorem dd_M_isWord_74 : decode bb_M_isWord 74 = .ok (.iconst 1, 1) := by decide +kernel
theorem dd_M_isWord_75 : decode bb_M_isWord 75 = .ok (.goto 4, 3) := by decide +kernel
theorem dd_M_isWord_78 : decode bb_M_isWord 78 = .ok (.iconst 0, 1) := by decide +kernel
theorem dd_M_isWord_79 : decode bb_M_isWord 79 = .ok (.ireturn, 1) := by decide +kernel
def mm_M_isWord_j79 (N : Nat) (this : Option Nat) (a1 : Int64) (s0_79 : Int32) (h_79 : ss_Hp) : Option (Int32 × ss_Hp) :=
  (ss_bz s0_79).bind fun v1 =>
  some (v1, h_79)
def mm_M_isWord_j78 (N : Nat) (this : Option Nat) (a1 : Int64) (h_78 : ss_Hp) : Option (Int32 × ss_Hp) :=
  mm_M_isWord_j79 N this a1 (0 : Int32) h_78
def mm_M_isWord_j50 (N : Nat) (this : Option Nat) (a1 : Int64) (h3 : ss_Hp) (x3_50 : Int64) (x5_50 : Int32) : Option ((Int64 × Int32) ⊕ (Int64 × Int32)) :=
  (some (x5_50 + (1 : Int32))).bind fun v7 =>
  some (.inl (x3_50, v7))
def mm_M_isWord_b10 (N : Nat) (this : Option Nat) (a1 : Int64) (h3 : ss_Hp) (st : Int64 × Int32) : Option ((Int64 × Int32) ⊕ (Int64 × Int32)) :=
  match st with
  | (x3_10, x5_10) =>
    (ss_gi h3 this 12 2).bind fun v8 =>
    (mm_M_isLetter N this (v8 + x5_10) h3).bind fun v9 =>
    if v9 = 0 then
      some (.inr (x3_10, x5_10))
    else
      if (8 : Int32) ≤ x5_10 then
        mm_M_isWord_j50 N this a1 h3 x3_10 x5_10
      else
        (ss_gr h3 this 12 0).bind fun r12 =>
        (ss_gi h3 this 12 2).bind fun v13 =>
        (ss_ai h3 r12 21 (v13 + x5_10)).bind fun v14 =>
        (some ((x3_10 <<< (((8 : Int32)).toInt64 &&& 63)) ||| ((v14).toInt64))).bind fun v15 =>
        mm_M_isWord_j50 N this a1 h3 v15 x5_10
def mm_M_isWord (N : Nat) (this : Option Nat) (a1 : Int64) (h : ss_Hp) : Option (Int32 × ss_Hp) :=
  if ss_is h this 12 = true then
    ss_b2 (mm_M_see N this h) fun v2 h3 =>
    (ss_lp (mm_M_isWord_b10 N this a1 h3) N ((0 : Int64), (0 : Int32))).bind fun e_10 =>
    match e_10 with
    | (y3_10_56, y5_10_56) =>
      if y5_10_56 ≤ 0 then
        mm_M_isWord_j78 N this a1 h3
      else
        if (9 : Int32) ≤ y5_10_56 then
          mm_M_isWord_j78 N this a1 h3
        else
          if (lg_cmp y3_10_56 a1) = 0 then
            mm_M_isWord_j79 N this a1 (1 : Int32) h3
          else
            mm_M_isWord_j78 N this a1 h3
  else none
abbrev ww_M_isWord (p : Program) (l : Launch) (e : Env) (s : State) (m : MethodId) (below : List Frame) (meth : Method) (c : Code) (G : ss_G) (this : Option Nat) (a1 : Int64) (h : ss_Hp) (rr : Int32) (hh : ss_Hp) (H : Heap) (locs : List Loc) (k n : Nat) (g : JFrame) : Prop := W p l e (headSpec (ss_w yy_M_isWord bb_M_isWord 6 (some .boolean)) ({ frames := 1, cells := 0, slots := 0, locals := 21 })).room s m ([ss_v (ss_b G) this, .long a1] : List Value).toArray below meth c H locs k n (MQ below (ss_Qc G (some (.int rr)) hh) ([ss_v (ss_b G) this, .long a1] : List Value).toArray s 0 0 (ss_A G)) g
theorem ck_M_isWord {N : Nat} {this : Option Nat} {a1 : Int64} {h : ss_Hp} {res : Int32 × ss_Hp} (hm : mm_M_isWord N this a1 h = some res) : ss_is h this 12 = true := (ss_chk hm).1
set_option maxHeartbeats 4000000 in
set_option maxRecDepth 100000 in
theorem cc_M_isWord (l : Launch) (G : ss_G) (N : Nat) (this : Option Nat) (a1 : Int64) (h : ss_Hp) (rr : Int32) (hh : ss_Hp) (hm : mm_M_isWord N this a1 h = some (rr, hh)) : ss_Ct l G yy_M_isWord bb_M_isWord 6 (some .boolean) ({ frames := 1, cells := 0, slots := 0, locals := 21 }) [ss_v (ss_b G) this, .long a1] h (some (.int rr)) hh := by
  obtain ⟨hck, hm⟩ := ss_chk hm
  refine Met.ofW (cc := bb_M_isWord) (maxL := 6) (ret := (some .boolean)) (by decide) rfl ?_
  intro p e s m args below meth c s₁ B hml hv
  obtain ⟨rfl, hR, hK⟩ := hv
  have hC : CallFix p m c bb_M_isWord 6 s _ lw_g sR_12 := ⟨B.exec, B.bytes, hml, findClass_of_methodNamed B.named, fun w hw => atoms_spec (ws := ss_w yy_M_isWord bb_M_isWord 6 (some .boolean)) B.pre w (List.mem_cons_of_mem _ hw)⟩
  have hx := hC.1
  have hb := hC.2.1
  have hr := B.returns
  have hlocks := B.notSynchronized
  have hS : va_S (ss_A G) s.heap s.heap [] := va_S.rf
  have hl := lv_entry ([ss_v (ss_b G) this, .long a1]) (n := 6) (by simp [lg_sl, ss_v_cat, ss_cat_i, ss_cat_l, ss_cat_r])
  rw [lg_entry_eq]
  generalize (lg_sl ([ss_v (ss_b G) this, .long a1]) ++ List.replicate (6 - (lg_sl ([ss_v (ss_b G) this, .long a1])).length) Slot.unset).toArray = ls at hl ⊢
  have hl : lv_has ls 6 [(0, ss_v (ss_b G) this), (1, .long a1)] := by simpa [lv_args, ss_v_cat, ss_cat_i, ss_cat_l, ss_cat_r] using hl
  have J_79 : ∀ (s0_79 : Int32) (h_79 : ss_Hp) (H : Heap) (locs : List Loc) (ls : Array Slot), mm_M_isWord_j79 N this a1 s0_79 h_79 = some (rr, hh) → ss_R G h_79 H → va_S (ss_A G) s.heap H locs → lv_has ls 6 [] → ww_M_isWord p l e s m below meth c G this a1 h rr hh  H locs 0 0 (F0 m 79 ls [.int s0_79]) := by
    intro s0_79 h_79 H locs ls hm hR hS hl
    obtain ⟨v1, qv1, hm⟩ := ss_bind hm
    obtain ⟨hnb, rfl⟩ := ss_bzs qv1
    exact ss_zret hC hr hnb hlocks hR hS hm dd_M_isWord_79
  have J_78 : ∀ (h_78 : ss_Hp) (H : Heap) (locs : List Loc) (ls : Array Slot), mm_M_isWord_j78 N this a1 h_78 = some (rr, hh) → ss_R G h_78 H → va_S (ss_A G) s.heap H locs → lv_has ls 6 [] → ww_M_isWord p l e s m below meth c G this a1 h rr hh  H locs 0 0 (F0 m 78 ls []) := by
    intro h_78 H locs ls hm hR hS hl
    refine lv_iconst (v := 0) hx hb dd_M_isWord_78 (by decide) ?_
    exact J_79 (0 : Int32) h_78 _ _ _ hm hR hS hl
  refine ss_aload_n hx hb dd_M_isWord_0 rfl (lv_at hl 0 rfl) ?_
  obtain ⟨v2, h3, qh3, hm⟩ := ss_bind2 hm
  refine ss_cV 0 0 (As := []) hC hK hR hS hl.1 (cc_M_see l G N _ _ _ _ qh3) km_M_99 (ck_M_see qh3) ⟨Nat.le_of_ble_eq_true rfl, Nat.le_of_ble_eq_true rfl⟩ ⟨Nat.le_of_ble_eq_true rfl, Nat.le_of_ble_eq_true rfl, Nat.le_of_ble_eq_true rfl, Nat.le_of_ble_eq_true rfl⟩ rfl rfl (Nat.le_of_ble_eq_true rfl) dd_M_isWord_1 (fun H locs hR hS => ?_)
  refine lv_pop hx hb dd_M_isWord_4 rfl ?_
  refine lv_lconst (v := 0) hx hb dd_M_isWord_5 (by decide) ?_
  refine lv_lstore_n (lv' := [(3, .long (0 : Int64)), (0, ss_v (ss_b G) this), (1, .long a1)]) hx hb dd_M_isWord_6 rfl hl (by decide) rfl (fun ls hl => ?_)
  refine lv_iconst (v := 0) hx hb dd_M_isWord_7 (by decide) ?_
  refine lv_istore (lv' := [(5, .int (0 : Int32)), (3, .long (0 : Int64)), (0, ss_v (ss_b G) this), (1, .long a1)]) hx hb dd_M_isWord_8 hl (by decide) rfl (fun ls hl => ?_)
  obtain ⟨e_10, he_10, hm⟩ := ss_bind hm
  have X_10_56 : ∀ (y3_10_56 : Int64) (y5_10_56 : Int32) (H : Heap) (locs : List Loc) (ls : Array Slot), e_10 = (y3_10_56, y5_10_56) → ss_R G h3 H → va_S (ss_A G) s.heap H locs → lv_has ls 6 [(1, .long a1), (3, .long y3_10_56), (5, .int y5_10_56)] → ww_M_isWord p l e s m below meth c G this a1 h rr hh  H locs 0 0 (F0 m 56 ls []) := by
    intro y3_10_56 y5_10_56 H locs ls hq hR hS hl
    rw [hq] at hm
    refine lv_iload hx hb dd_M_isWord_56 (lv_at hl 2 rfl) ?_
    refine lv_if_le (tgt := 78) hx hb dd_M_isWord_58 (by decide) (fun c4 => ?_) (fun c4 => ?_)
    · have hm := ss_ift hm c4
      exact J_78 h3 _ _ _ hm hR hS (lv_sub hl [] rfl)
    · have hm := ss_iff hm c4
      refine lv_iload hx hb dd_M_isWord_61 (lv_at hl 2 rfl) ?_
      refine lv_bipush (v := 9) hx hb dd_M_isWord_63 (by decide) ?_
      refine lv_icmp_ge (tgt := 78) hx hb dd_M_isWord_65 (by decide) (fun c5 => ?_) (fun c5 => ?_)
      · have hm := ss_ift hm c5
        exact J_78 h3 _ _ _ hm hR hS (lv_sub hl [] rfl)
      · have hm := ss_iff hm c5
        refine lv_lload_n hx hb dd_M_isWord_68 rfl (lv_at hl 1 rfl) ?_
        refine lv_lload_n hx hb dd_M_isWord_69 rfl (lv_at hl 0 rfl) ?_
        refine W.lcmp hx hb dd_M_isWord_70 ?_
        refine lv_if_ne (tgt := 78) hx hb dd_M_isWord_71 (by decide) (fun c6 => ?_) (fun c6 => ?_)
        · have hm := ss_iff hm c6
          exact J_78 h3 _ _ _ hm hR hS (lv_sub hl [] rfl)
        · have hm := ss_ift hm c6
          refine lv_iconst (v := 1) hx hb dd_M_isWord_74 (by decide) ?_
          refine lv_goto (tgt := 79) hx hb dd_M_isWord_75 (by decide) ?_
          exact J_79 (1 : Int32) h3 _ _ _ hm hR hS (lv_sub hl [] rfl)
  have L_10 : ∀ (n : Nat) (x3_10 : Int64) (x5_10 : Int32) (H : Heap) (locs : List Loc) (ls : Array Slot), ss_lp (mm_M_isWord_b10 N this a1 h3) n (x3_10, x5_10) = some e_10 → ss_R G h3 H → va_S (ss_A G) s.heap H locs → lv_has ls 6 [(0, ss_v (ss_b G) this), (1, .long a1), (3, .long x3_10), (5, .int x5_10)] → ww_M_isWord p l e s m below meth c G this a1 h rr hh  H locs 0 0 (F0 m 10 ls []) := by
    intro n
    induction n with
    | zero => intro x3_10 x5_10 H locs ls hm; cases hm
    | succ n ih_10 =>
      intro x3_10 x5_10 H locs ls hm hR hS hl
      obtain ⟨z_10, hm, hz1_10, hz2_10⟩ := ss_lps hm
      have J_50 : ∀ (x3_50 : Int64) (x5_50 : Int32) (H : Heap) (locs : List Loc) (ls : Array Slot), mm_M_isWord_j50 N this a1 h3 x3_50 x5_50 = some z_10 → ss_R G h3 H → va_S (ss_A G) s.heap H locs → lv_has ls 6 [(0, ss_v (ss_b G) this), (1, .long a1), (3, .long x3_50), (5, .int x5_50)] → ww_M_isWord p l e s m below meth c G this a1 h rr hh  H locs 0 0 (F0 m 50 ls []) := by
        intro x3_50 x5_50 H locs ls hm hR hS hl
        obtain ⟨v7, qv7, hm⟩ := ss_bind hm
        refine lv_iinc (v := v7) (lv' := [(5, .int v7), (0, ss_v (ss_b G) this), (1, .long a1), (3, .long x3_50)]) hx hb dd_M_isWord_50 hl (k := 3) rfl (ss_inc (by decide) qv7) (by decide) rfl (fun ls hl => ?_)
        refine lv_goto (tgt := 10) hx hb dd_M_isWord_53 (by decide) ?_
        exact ih_10 x3_50 v7  _ _ _ (hz1_10 _ (ss_some hm)) hR hS (lv_sub hl [1, 2, 3, 0] rfl)
      refine ss_aload_n hx hb dd_M_isWord_10 rfl (lv_at hl 0 rfl) ?_
      refine ss_aload_n hx hb dd_M_isWord_11 rfl (lv_at hl 0 rfl) ?_
      obtain ⟨v8, qv8, hm⟩ := ss_bind hm
      refine ss_geti hC hK hR kf_M_96 qv8 dd_M_isWord_12 ?_
      refine lv_iload hx hb dd_M_isWord_15 (lv_at hl 3 rfl) ?_
      refine lv_iadd hx hb dd_M_isWord_17 ?_
      obtain ⟨v9, qv9, hm⟩ := ss_bind hm
      refine ss_cV 0 0 (As := [.int (v8 + x5_10)]) hC hK hR hS hl.1 (cc_M_isLetter l G N _ _ _ _ qv9) km_M_103 (ck_M_isLetter qv9) ⟨Nat.le_of_ble_eq_true rfl, Nat.le_of_ble_eq_true rfl⟩ ⟨Nat.le_of_ble_eq_true rfl, Nat.le_of_ble_eq_true rfl, Nat.le_of_ble_eq_true rfl, Nat.le_of_ble_eq_true rfl⟩ rfl rfl (Nat.le_of_ble_eq_true rfl) dd_M_isWord_18 (fun H locs hR hS => ?_)
      refine lv_if_eq (tgt := 56) hx hb dd_M_isWord_21 (by decide) (fun c10 => ?_) (fun c10 => ?_)
      · have hm := ss_ift hm c10
        exact X_10_56 x3_10 x5_10  _ _ _ (hz2_10 _ (ss_some hm)) hR hS (lv_sub hl [1, 2, 3] rfl)
      · have hm := ss_iff hm c10
        refine lv_iload hx hb dd_M_isWord_24 (lv_at hl 3 rfl) ?_
        refine lv_bipush (v := 8) hx hb dd_M_isWord_26 (by decide) ?_
        refine lv_icmp_ge (tgt := 50) hx hb dd_M_isWord_28 (by decide) (fun c11 => ?_) (fun c11 => ?_)
        · have hm := ss_ift hm c11
          exact J_50 x3_10 x5_10  _ _ _ hm hR hS hl
        · have hm := ss_iff hm c11
          refine lv_lload_n hx hb dd_M_isWord_31 rfl (lv_at hl 2 rfl) ?_
          refine lv_bipush (v := 8) hx hb dd_M_isWord_32 (by decide) ?_
          refine lv_lshl hx hb dd_M_isWord_34 rfl ?_
          refine ss_aload_n hx hb dd_M_isWord_35 rfl (lv_at hl 0 rfl) ?_
          obtain ⟨r12, qr12, hm⟩ := ss_bind hm
          refine ss_getr hC hK hR kf_M_7 rfl qr12 dd_M_isWord_36 ?_
          refine ss_aload_n hx hb dd_M_isWord_39 rfl (lv_at hl 0 rfl) ?_
          obtain ⟨v13, qv13, hm⟩ := ss_bind hm
          refine ss_geti hC hK hR kf_M_96 qv13 dd_M_isWord_40 ?_
          refine lv_iload hx hb dd_M_isWord_43 (lv_at hl 3 rfl) ?_
          refine lv_iadd hx hb dd_M_isWord_45 ?_
          obtain ⟨v14, qv14, hm⟩ := ss_bind hm
          refine ss_bald hC hK hR qv14 dd_M_isWord_46 ?_
          refine lv_i2l hx hb dd_M_isWord_47 rfl ?_
          refine lv_lor hx hb dd_M_isWord_48 ?_
          obtain ⟨v15, qv15, hm⟩ := ss_bind hm
          refine ss_topl qv15 ?_
          refine lv_lstore_n (lv' := [(3, .long v15), (0, ss_v (ss_b G) this), (1, .long a1), (5, .int x5_10)]) hx hb dd_M_isWord_49 rfl hl (by decide) rfl (fun ls hl => ?_)
          exact J_50 v15 x5_10  _ _ _ hm hR hS (lv_sub hl [1, 2, 0, 3] rfl)
  exact L_10 N (0 : Int64) (0 : Int32) _ _ _ he_10 hR hS (lv_sub hl [2, 3, 1, 0] rfl)
theorem dd_M_isValleyWord_0 : decode bb_M_isValleyWord 0 = .ok (.aload_n 0, 1) := by decide +kernel
theorem dd_M_isValleyWord_1 : decode bb_M_isValleyWord 1 = .ok (.ldc2_w 237, 3) := by decide +kernel
theorem dd_M_isValleyWord_4 : decode bb_M_isValleyWord 4 = .ok (.invokevirtual 107, 3) := by decide +kernel
theorem dd_M_isValleyWord_7 : decode bb_M_isValleyWord 7 = .ok (.ifCond .ne 53, 3) := by decide +kernel
theorem dd_M_isValleyWord_10 : decode bb_M_isValleyWord 10 = .ok (.aload_n 0, 1) := by decide +kernel
theorem dd_M_isValleyWord_11 : decode bb_M_isValleyWord 11 = .ok (.ldc2_w 130, 3) := by decide +kernel
theorem dd_M_isValleyWord_14 : decode bb_M_isValleyWord 14 = .ok (.invokevirtual 107, 3) := by decide +kernel
theorem dd_M_isValleyWord_17 : decode bb_M_isValleyWord 17 = .ok (.ifCond .ne 43, 3) := by decide +kernel
theorem dd_M_isValleyWord_20 : decode bb_M_isValleyWord 20 = .ok (.aload_n 0, 1) := by decide +kernel
theorem dd_M_isValleyWord_21 : decode bb_M_isValleyWord 21 = .ok (.ldc2_w 128, 3) := by decide +kernel
theorem dd_M_isValleyWord_24 : decode bb_M_isValleyWord 24 = .ok (.invokevirtual 107, 3) := by decide +kernel
theorem dd_M_isValleyWord_27 : decode bb_M_isValleyWord 27 = .ok (.ifCond .ne 33, 3) := by decide +kernel
theorem dd_M_isValleyWord_30 : decode bb_M_isValleyWord 30 = .ok (.aload_n 0, 1) := by decide +kernel
theorem dd_M_isValleyWord_31 : decode bb_M_isValleyWord 31 = .ok (.ldc2_w 248, 3) := by decide +kernel
theorem dd_M_isValleyWord_34 : decode bb_M_isValleyWord 34 = .ok (.invokevirtual 107, 3) := by decide +kernel
theorem dd_M_isValleyWord_37 : decode bb_M_isValleyWord 37 = .ok (.ifCond .ne 23, 3) := by decide +kernel
theorem dd_M_isValleyWord_40 : decode bb_M_isValleyWord 40 = .ok (.aload_n 0, 1) := by decide +kernel
theorem dd_M_isValleyWord_41 : decode bb_M_isValleyWord 41 = .ok (.ldc2_w 253, 3) := by decide +kernel
theorem dd_M_isValleyWord_44 : decode bb_M_isValleyWord 44 = .ok (.invokevirtual 107, 3) := by decide +kernel
theorem dd_M_isValleyWord_47 : decode bb_M_isValleyWord 47 = .ok (.ifCond .ne 13, 3) := by decide +kernel
theorem dd_M_isValleyWord_50 : decode bb_M_isValleyWord 50 = .ok (.aload_n 0, 1) := by decide +kernel
theorem dd_M_isValleyWord_51 : decode bb_M_isValleyWord 51 = .ok (.ldc2_w 261, 3) := by decide +kernel
theorem dd_M_isValleyWord_54 : decode bb_M_isValleyWord 54 = .ok (.invokevirtual 107, 3) := by decide +kernel
theorem dd_M_isValleyWord_57 : decode bb_M_isValleyWord 57 = .ok (.ifCond .eq 7, 3) := by decide +kernel
theorem dd_M_isValleyWord_60 : decode bb_M_isValleyWord 60 = .ok (.iconst 1, 1) := by decide +kernel
theorem dd_M_isValleyWord_61 : decode bb_M_isValleyWord 61 = .ok (.goto 4, 3) := by decide +kernel
theorem dd_M_isValleyWord_64 : decode bb_M_isValleyWord 64 = .ok (.iconst 0, 1) := by decide +kernel
theorem dd_M_isValleyWord_65 : decode bb_M_isValleyWord 65 = .ok (.ireturn, 1) := by decide +kernel
def mm_M_isValleyWord_j65 (N : Nat) (this : Option Nat) (s0_65 : Int32) (h_65 : ss_Hp) : Option (Int32 × ss_Hp) :=
  (ss_bz s0_65).bind fun v1 =>
  some (v1, h_65)
def mm_M_isValleyWord_j60 (N : Nat) (this : Option Nat) (h_60 : ss_Hp) : Option (Int32 × ss_Hp) :=
  mm_M_isValleyWord_j65 N this (1 : Int32) h_60
def mm_M_isValleyWord (N : Nat) (this : Option Nat) (h : ss_Hp) : Option (Int32 × ss_Hp) :=
  if ss_is h this 12 = true then
    ss_b2 (mm_M_isWord N this (130160802948473 : Int64) h) fun v2 h3 =>
    if v2 = 0 then
      ss_b2 (mm_M_isWord N this (1937007984 : Int64) h3) fun v5 h6 =>
      if v5 = 0 then
        ss_b2 (mm_M_isWord N this (448546567013 : Int64) h6) fun v8 h9 =>
        if v8 = 0 then
          ss_b2 (mm_M_isWord N this (1885434984 : Int64) h9) fun v11 h12 =>
          if v11 = 0 then
            ss_b2 (mm_M_isWord N this (2002873452 : Int64) h12) fun v14 h15 =>
            if v14 = 0 then
              ss_b2 (mm_M_isWord N this (1852138852 : Int64) h15) fun v17 h18 =>
              if v17 = 0 then
                mm_M_isValleyWord_j65 N this (0 : Int32) h18
              else
                mm_M_isValleyWord_j60 N this h18
            else
              mm_M_isValleyWord_j60 N this h15
          else
            mm_M_isValleyWord_j60 N this h12
        else
          mm_M_isValleyWord_j60 N this h9
      else
        mm_M_isValleyWord_j60 N this h6
    else
      mm_M_isValleyWord_j60 N this h3
  else none
abbrev ww_M_isValleyWord (p : Program) (l : Launch) (e : Env) (s : State) (m : MethodId) (below : List Frame) (meth : Method) (c : Code) (G : ss_G) (this : Option Nat) (h : ss_Hp) (rr : Int32) (hh : ss_Hp) (H : Heap) (locs : List Loc) (k n : Nat) (g : JFrame) : Prop := W p l e (headSpec (ss_w yy_M_isValleyWord bb_M_isValleyWord 1 (some .boolean)) ({ frames := 2, cells := 0, slots := 0, locals := 46 })).room s m ([ss_v (ss_b G) this] : List Value).toArray below meth c H locs k n (MQ below (ss_Qc G (some (.int rr)) hh) ([ss_v (ss_b G) this] : List Value).toArray s 0 0 (ss_A G)) g
theorem ck_M_isValleyWord {N : Nat} {this : Option Nat} {h : ss_Hp} {res : Int32 × ss_Hp} (hm : mm_M_isValleyWord N this h = some res) : ss_is h this 12 = true := (ss_chk hm).1
set_option maxHeartbeats 4000000 in
set_option maxRecDepth 100000 in
theorem cc_M_isValleyWord (l : Launch) (G : ss_G) (N : Nat) (this : Option Nat) (h : ss_Hp) (rr : Int32) (hh : ss_Hp) (hm : mm_M_isValleyWord N this h = some (rr, hh)) : ss_Ct l G yy_M_isValleyWord bb_M_isValleyWord 1 (some .boolean) ({ frames := 2, cells := 0, slots := 0, locals := 46 }) [ss_v (ss_b G) this] h (some (.int rr)) hh := by
  obtain ⟨hck, hm⟩ := ss_chk hm
  refine Met.ofW (cc := bb_M_isValleyWord) (maxL := 1) (ret := (some .boolean)) (by decide) rfl ?_
  intro p e s m args below meth c s₁ B hml hv
  obtain ⟨rfl, hR, hK⟩ := hv
  have hC : CallFix p m c bb_M_isValleyWord 1 s _ lw_g sR_12 := ⟨B.exec, B.bytes, hml, findClass_of_methodNamed B.named, fun w hw => atoms_spec (ws := ss_w yy_M_isValleyWord bb_M_isValleyWord 1 (some .boolean)) B.pre w (List.mem_cons_of_mem _ hw)⟩
  have hx := hC.1
  have hb := hC.2.1
  have hr := B.returns
  have hlocks := B.notSynchronized
  have hS : va_S (ss_A G) s.heap s.heap [] := va_S.rf
  have hl := lv_entry ([ss_v (ss_b G) this]) (n := 1) (by simp [lg_sl, ss_v_cat, ss_cat_i, ss_cat_l, ss_cat_r])
  rw [lg_entry_eq]
  generalize (lg_sl ([ss_v (ss_b G) this]) ++ List.replicate (1 - (lg_sl ([ss_v (ss_b G) this])).length) Slot.unset).toArray = ls at hl ⊢
  have hl : lv_has ls 1 [(0, ss_v (ss_b G) this)] := by simpa [lv_args, ss_v_cat, ss_cat_i, ss_cat_l, ss_cat_r] using hl
  have J_65 : ∀ (s0_65 : Int32) (h_65 : ss_Hp) (H : Heap) (locs : List Loc) (ls : Array Slot), mm_M_isValleyWord_j65 N this s0_65 h_65 = some (rr, hh) → ss_R G h_65 H → va_S (ss_A G) s.heap H locs → lv_has ls 1 [] → ww_M_isValleyWord p l e s m below meth c G this h rr hh  H locs 0 0 (F0 m 65 ls [.int s0_65]) := by
    intro s0_65 h_65 H locs ls hm hR hS hl
    obtain ⟨v1, qv1, hm⟩ := ss_bind hm
    obtain ⟨hnb, rfl⟩ := ss_bzs qv1
    exact ss_zret hC hr hnb hlocks hR hS hm dd_M_isValleyWord_65
  have J_60 : ∀ (h_60 : ss_Hp) (H : Heap) (locs : List Loc) (ls : Array Slot), mm_M_isValleyWord_j60 N this h_60 = some (rr, hh) → ss_R G h_60 H → va_S (ss_A G) s.heap H locs → lv_has ls 1 [] → ww_M_isValleyWord p l e s m below meth c G this h rr hh  H locs 0 0 (F0 m 60 ls []) := by
    intro h_60 H locs ls hm hR hS hl
    refine lv_iconst (v := 1) hx hb dd_M_isValleyWord_60 (by decide) ?_
    refine lv_goto (tgt := 65) hx hb dd_M_isValleyWord_61 (by decide) ?_
    exact J_65 (1 : Int32) h_60 _ _ _ hm hR hS hl
  refine ss_aload_n hx hb dd_M_isValleyWord_0 rfl (lv_at hl 0 rfl) ?_
  refine lv_ldc2 (v := 130160802948473) hx hb hC.2.2.2.1 (hC.2.2.2.2 _ kl_M_237) dd_M_isValleyWord_1 ?_
  obtain ⟨v2, h3, qh3, hm⟩ := ss_bind2 hm
  refine ss_cV 0 0 (As := [.long (130160802948473 : Int64)]) hC hK hR hS hl.1 (cc_M_isWord l G N _ _ _ _ _ qh3) km_M_107 (ck_M_isWord qh3) ⟨Nat.le_of_ble_eq_true rfl, Nat.le_of_ble_eq_true rfl⟩ ⟨Nat.le_of_ble_eq_true rfl, Nat.le_of_ble_eq_true rfl, Nat.le_of_ble_eq_true rfl, Nat.le_of_ble_eq_true rfl⟩ rfl rfl (Nat.le_of_ble_eq_true rfl) dd_M_isValleyWord_4 (fun H locs hR hS => ?_)
  refine lv_if_ne (tgt := 60) hx hb dd_M_isValleyWord_7 (by decide) (fun c4 => ?_) (fun c4 => ?_)
  · have hm := ss_iff hm c4
    exact J_60 h3 _ _ _ hm hR hS (lv_sub hl [] rfl)
  · have hm := ss_ift hm c4
    refine ss_aload_n hx hb dd_M_isValleyWord_10 rfl (lv_at hl 0 rfl) ?_
    refine lv_ldc2 (v := 1937007984) hx hb hC.2.2.2.1 (hC.2.2.2.2 _ kl_M_130) dd_M_isValleyWord_11 ?_
    obtain ⟨v5, h6, qh6, hm⟩ := ss_bind2 hm
    refine ss_cV 0 0 (As := [.long (1937007984 : Int64)]) hC hK hR hS hl.1 (cc_M_isWord l G N _ _ _ _ _ qh6) km_M_107 (ck_M_isWord qh6) ⟨Nat.le_of_ble_eq_true rfl, Nat.le_of_ble_eq_true rfl⟩ ⟨Nat.le_of_ble_eq_true rfl, Nat.le_of_ble_eq_true rfl, Nat.le_of_ble_eq_true rfl, Nat.le_of_ble_eq_true rfl⟩ rfl rfl (Nat.le_of_ble_eq_true rfl) dd_M_isValleyWord_14 (fun H locs hR hS => ?_)
    refine lv_if_ne (tgt := 60) hx hb dd_M_isValleyWord_17 (by decide) (fun c7 => ?_) (fun c7 => ?_)
    · have hm := ss_iff hm c7
      exact J_60 h6 _ _ _ hm hR hS (lv_sub hl [] rfl)
    · have hm := ss_ift hm c7
      refine ss_aload_n hx hb dd_M_isValleyWord_20 rfl (lv_at hl 0 rfl) ?_
      refine lv_ldc2 (v := 448546567013) hx hb hC.2.2.2.1 (hC.2.2.2.2 _ kl_M_128) dd_M_isValleyWord_21 ?_
      obtain ⟨v8, h9, qh9, hm⟩ := ss_bind2 hm
      refine ss_cV 0 0 (As := [.long (448546567013 : Int64)]) hC hK hR hS hl.1 (cc_M_isWord l G N _ _ _ _ _ qh9) km_M_107 (ck_M_isWord qh9) ⟨Nat.le_of_ble_eq_true rfl, Nat.le_of_ble_eq_true rfl⟩ ⟨Nat.le_of_ble_eq_true rfl, Nat.le_of_ble_eq_true rfl, Nat.le_of_ble_eq_true rfl, Nat.le_of_ble_eq_true rfl⟩ rfl rfl (Nat.le_of_ble_eq_true rfl) dd_M_isValleyWord_24 (fun H locs hR hS => ?_)
      refine lv_if_ne (tgt := 60) hx hb dd_M_isValleyWord_27 (by decide) (fun c10 => ?_) (fun c10 => ?_)
      · have hm := ss_iff hm c10
        exact J_60 h9 _ _ _ hm hR hS (lv_sub hl [] rfl)
      · have hm := ss_ift hm c10
        refine ss_aload_n hx hb dd_M_isValleyWord_30 rfl (lv_at hl 0 rfl) ?_
        refine lv_ldc2 (v := 1885434984) hx hb hC.2.2.2.1 (hC.2.2.2.2 _ kl_M_248) dd_M_isValleyWord_31 ?_
        obtain ⟨v11, h12, qh12, hm⟩ := ss_bind2 hm
        refine ss_cV 0 0 (As := [.long (1885434984 : Int64)]) hC hK hR hS hl.1 (cc_M_isWord l G N _ _ _ _ _ qh12) km_M_107 (ck_M_isWord qh12) ⟨Nat.le_of_ble_eq_true rfl, Nat.le_of_ble_eq_true rfl⟩ ⟨Nat.le_of_ble_eq_true rfl, Nat.le_of_ble_eq_true rfl, Nat.le_of_ble_eq_true rfl, Nat.le_of_ble_eq_true rfl⟩ rfl rfl (Nat.le_of_ble_eq_true rfl) dd_M_isValleyWord_34 (fun H locs hR hS => ?_)
        refine lv_if_ne (tgt := 60) hx hb dd_M_isValleyWord_37 (by decide) (fun c13 => ?_) (fun c13 => ?_)
        · have hm := ss_iff hm c13
          exact J_60 h12 _ _ _ hm hR hS (lv_sub hl [] rfl)
        · have hm := ss_ift hm c13
          refine ss_aload_n hx hb dd_M_isValleyWord_40 rfl (lv_at hl 0 rfl) ?_
          refine lv_ldc2 (v := 2002873452) hx hb hC.2.2.2.1 (hC.2.2.2.2 _ kl_M_253) dd_M_isValleyWord_41 ?_
          obtain ⟨v14, h15, qh15, hm⟩ := ss_bind2 hm
          refine ss_cV 0 0 (As := [.long (2002873452 : Int64)]) hC hK hR hS hl.1 (cc_M_isWord l G N _ _ _ _ _ qh15) km_M_107 (ck_M_isWord qh15) ⟨Nat.le_of_ble_eq_true rfl, Nat.le_of_ble_eq_true rfl⟩ ⟨Nat.le_of_ble_eq_true rfl, Nat.le_of_ble_eq_true rfl, Nat.le_of_ble_eq_true rfl, Nat.le_of_ble_eq_true rfl⟩ rfl rfl (Nat.le_of_ble_eq_true rfl) dd_M_isValleyWord_44 (fun H locs hR hS => ?_)
          refine lv_if_ne (tgt := 60) hx hb dd_M_isValleyWord_47 (by decide) (fun c16 => ?_) (fun c16 => ?_)
          · have hm := ss_iff hm c16
            exact J_60 h15 _ _ _ hm hR hS (lv_sub hl [] rfl)
          · have hm := ss_ift hm c16
            refine ss_aload_n hx hb dd_M_isValleyWord_50 rfl (lv_at hl 0 rfl) ?_
            refine lv_ldc2 (v := 1852138852) hx hb hC.2.2.2.1 (hC.2.2.2.2 _ kl_M_261) dd_M_isValleyWord_51 ?_
            obtain ⟨v17, h18, qh18, hm⟩ := ss_bind2 hm
            refine ss_cV 0 0 (As := [.long (1852138852 : Int64)]) hC hK hR hS hl.1 (cc_M_isWord l G N _ _ _ _ _ qh18) km_M_107 (ck_M_isWord qh18) ⟨Nat.le_of_ble_eq_true rfl, Nat.le_of_ble_eq_true rfl⟩ ⟨Nat.le_of_ble_eq_true rfl, Nat.le_of_ble_eq_true rfl, Nat.le_of_ble_eq_true rfl, Nat.le_of_ble_eq_true rfl⟩ rfl rfl (Nat.le_of_ble_eq_true rfl) dd_M_isValleyWord_54 (fun H locs hR hS => ?_)
            refine lv_if_eq (tgt := 64) hx hb dd_M_isValleyWord_57 (by decide) (fun c19 => ?_) (fun c19 => ?_)
            · have hm := ss_ift hm c19
              refine lv_iconst (v := 0) hx hb dd_M_isValleyWord_64 (by decide) ?_
              exact J_65 (0 : Int32) h18 _ _ _ hm hR hS (lv_sub hl [] rfl)
            · have hm := ss_iff hm c19
              exact J_60 h18 _ _ _ hm hR hS (lv_sub hl [] rfl)
theorem dd_M_fails_0 : decode bb_M_fails 0 = .ok (.aload_n 0, 1) := by decide +kernel
theorem dd_M_fails_1 : decode bb_M_fails 1 = .ok (.getfield 93, 3) := by decide +kernel
theorem dd_M_fails_4 : decode bb_M_fails 4 = .ok (.ifCond .ne 15, 3) := by decide +kernel
theorem dd_M_fails_7 : decode bb_M_fails 7 = .ok (.aload_n 0, 1) := by decide +kernel
theorem dd_M_fails_8 : decode bb_M_fails 8 = .ok (.iconst 1, 1) := by decide +kernel
theorem dd_M_fails_9 : decode bb_M_fails 9 = .ok (.bipush 8, 2) := by decide +kernel
theorem dd_M_fails_11 : decode bb_M_fails 11 = .ok (.iload_n 2, 1) := by decide +kernel
theorem dd_M_fails_12 : decode bb_M_fails 12 = .ok (.imul, 1) := by decide +kernel
theorem dd_M_fails_13 : decode bb_M_fails 13 = .ok (.iadd, 1) := by decide +kernel
theorem dd_M_fails_14 : decode bb_M_fails 14 = .ok (.iload_n 1, 1) := by decide +kernel
theorem dd_M_fails_15 : decode bb_M_fails 15 = .ok (.iadd, 1) := by decide +kernel
theorem dd_M_fails_16 : decode bb_M_fails 16 = .ok (.putfield 93, 3) := by decide +kernel
theorem dd_M_fails_19 : decode bb_M_fails 19 = .ok (.iconst 0, 1) := by decide +kernel
theorem dd_M_fails_20 : decode bb_M_fails 20 = .ok (.ireturn, 1) := by decide +kernel
def mm_M_fails_j19 (N : Nat) (this : Option Nat) (a1 : Int32) (a2 : Int32) (h_19 : ss_Hp) : Option (Int32 × ss_Hp) :=
  some ((0 : Int32), h_19)
def mm_M_fails (N : Nat) (this : Option Nat) (a1 : Int32) (a2 : Int32) (h : ss_Hp) : Option (Int32 × ss_Hp) :=
  if ss_is h this 12 = true then
    (ss_gi h this 12 3).bind fun v1 =>
    if v1 = 0 then
      (ss_pi h this 12 3 (((1 : Int32) + ((8 : Int32) * a2)) + a1)).bind fun h3 =>
      mm_M_fails_j19 N this a1 a2 h3
    else
      mm_M_fails_j19 N this a1 a2 h
  else none
abbrev ww_M_fails (p : Program) (l : Launch) (e : Env) (s : State) (m : MethodId) (below : List Frame) (meth : Method) (c : Code) (G : ss_G) (this : Option Nat) (a1 : Int32) (a2 : Int32) (h : ss_Hp) (rr : Int32) (hh : ss_Hp) (H : Heap) (locs : List Loc) (k n : Nat) (g : JFrame) : Prop := W p l e (headSpec (ss_w yy_M_fails bb_M_fails 3 (some .boolean)) ({ frames := 0, cells := 0, slots := 0, locals := 0 })).room s m ([ss_v (ss_b G) this, .int a1, .int a2] : List Value).toArray below meth c H locs k n (MQ below (ss_Qc G (some (.int rr)) hh) ([ss_v (ss_b G) this, .int a1, .int a2] : List Value).toArray s 0 0 (ss_A G)) g
theorem ck_M_fails {N : Nat} {this : Option Nat} {a1 : Int32} {a2 : Int32} {h : ss_Hp} {res : Int32 × ss_Hp} (hm : mm_M_fails N this a1 a2 h = some res) : ss_is h this 12 = true := (ss_chk hm).1
set_option maxHeartbeats 4000000 in
set_option maxRecDepth 100000 in
theorem cc_M_fails (l : Launch) (G : ss_G) (N : Nat) (this : Option Nat) (a1 : Int32) (a2 : Int32) (h : ss_Hp) (rr : Int32) (hh : ss_Hp) (hm : mm_M_fails N this a1 a2 h = some (rr, hh)) : ss_Ct l G yy_M_fails bb_M_fails 3 (some .boolean) ({ frames := 0, cells := 0, slots := 0, locals := 0 }) [ss_v (ss_b G) this, .int a1, .int a2] h (some (.int rr)) hh := by
  obtain ⟨hck, hm⟩ := ss_chk hm
  refine Met.ofW (cc := bb_M_fails) (maxL := 3) (ret := (some .boolean)) (by decide) rfl ?_
  intro p e s m args below meth c s₁ B hml hv
  obtain ⟨rfl, hR, hK⟩ := hv
  have hC : CallFix p m c bb_M_fails 3 s _ lw_g sR_12 := ⟨B.exec, B.bytes, hml, findClass_of_methodNamed B.named, fun w hw => atoms_spec (ws := ss_w yy_M_fails bb_M_fails 3 (some .boolean)) B.pre w (List.mem_cons_of_mem _ hw)⟩
  have hx := hC.1
  have hb := hC.2.1
  have hr := B.returns
  have hlocks := B.notSynchronized
  have hS : va_S (ss_A G) s.heap s.heap [] := va_S.rf
  have hl := lv_entry ([ss_v (ss_b G) this, .int a1, .int a2]) (n := 3) (by simp [lg_sl, ss_v_cat, ss_cat_i, ss_cat_l, ss_cat_r])
  rw [lg_entry_eq]
  generalize (lg_sl ([ss_v (ss_b G) this, .int a1, .int a2]) ++ List.replicate (3 - (lg_sl ([ss_v (ss_b G) this, .int a1, .int a2])).length) Slot.unset).toArray = ls at hl ⊢
  have hl : lv_has ls 3 [(0, ss_v (ss_b G) this), (1, .int a1), (2, .int a2)] := by simpa [lv_args, ss_v_cat, ss_cat_i, ss_cat_l, ss_cat_r] using hl
  have J_19 : ∀ (h_19 : ss_Hp) (H : Heap) (locs : List Loc) (ls : Array Slot), mm_M_fails_j19 N this a1 a2 h_19 = some (rr, hh) → ss_R G h_19 H → va_S (ss_A G) s.heap H locs → lv_has ls 3 [] → ww_M_fails p l e s m below meth c G this a1 a2 h rr hh  H locs 0 0 (F0 m 19 ls []) := by
    intro h_19 H locs ls hm hR hS hl
    refine lv_iconst (v := 0) hx hb dd_M_fails_19 (by decide) ?_
    exact ss_zret hC hr (by decide) hlocks hR hS hm dd_M_fails_20
  refine ss_aload_n hx hb dd_M_fails_0 rfl (lv_at hl 0 rfl) ?_
  obtain ⟨v1, qv1, hm⟩ := ss_bind hm
  refine ss_geti hC hK hR kf_M_93 qv1 dd_M_fails_1 ?_
  refine lv_if_ne (tgt := 19) hx hb dd_M_fails_4 (by decide) (fun c2 => ?_) (fun c2 => ?_)
  · have hm := ss_iff hm c2
    exact J_19 h _ _ _ hm hR hS (lv_sub hl [] rfl)
  · have hm := ss_ift hm c2
    refine ss_aload_n hx hb dd_M_fails_7 rfl (lv_at hl 0 rfl) ?_
    refine lv_iconst (v := 1) hx hb dd_M_fails_8 (by decide) ?_
    refine lv_bipush (v := 8) hx hb dd_M_fails_9 (by decide) ?_
    refine lv_iload_n hx hb dd_M_fails_11 rfl (lv_at hl 2 rfl) ?_
    refine lv_imul hx hb dd_M_fails_12 ?_
    refine lv_iadd hx hb dd_M_fails_13 ?_
    refine lv_iload_n hx hb dd_M_fails_14 rfl (lv_at hl 1 rfl) ?_
    refine lv_iadd hx hb dd_M_fails_15 ?_
    obtain ⟨h3, qh3, hm⟩ := ss_bind hm
    refine ss_puti hC hK hR hS kp_M_93 qh3 dd_M_fails_16 (fun H locs hR hS => ?_)
    exact J_19 h3 _ _ _ hm hR hS (lv_sub hl [] rfl)
theorem dd_M_passWord_0 : decode bb_M_passWord 0 = .ok (.aload_n 0, 1) := by decide +kernel
theorem dd_M_passWord_1 : decode bb_M_passWord 1 = .ok (.aload_n 0, 1) := by decide +kernel
theorem dd_M_passWord_2 : decode bb_M_passWord 2 = .ok (.getfield 96, 3) := by decide +kernel
theorem dd_M_passWord_5 : decode bb_M_passWord 5 = .ok (.invokevirtual 103, 3) := by decide +kernel
theorem dd_M_passWord_8 : decode bb_M_passWord 8 = .ok (.ifCond .eq 16, 3) := by decide +kernel
theorem dd_M_passWord_11 : decode bb_M_passWord 11 = .ok (.aload_n 0, 1) := by decide +kernel
theorem dd_M_passWord_12 : decode bb_M_passWord 12 = .ok (.dup, 1) := by decide +kernel
theorem dd_M_passWord_13 : decode bb_M_passWord 13 = .ok (.getfield 96, 3) := by decide +kernel
theorem dd_M_passWord_16 : decode bb_M_passWord 16 = .ok (.iconst 1, 1) := by decide +kernel
theorem dd_M_passWord_17 : decode bb_M_passWord 17 = .ok (.iadd, 1) := by decide +kernel
theorem dd_M_passWord_18 : decode bb_M_passWord 18 = .ok (.putfield 96, 3) := by decide +kernel
theorem dd_M_passWord_21 : decode bb_M_passWord 21 = .ok (.goto (-21), 3) := by decide +kernel
theorem dd_M_passWord_24 : decode bb_M_passWord 24 = .ok (.return_, 1) := by decide +kernel
def mm_M_passWord_b0 (N : Nat) (this : Option Nat) (st : ss_Hp) : Option (ss_Hp ⊕ ss_Hp) :=
  match st with
  | h_0 =>
    (ss_gi h_0 this 12 2).bind fun v1 =>
    (mm_M_isLetter N this v1 h_0).bind fun v2 =>
    if v2 = 0 then
      some (.inr h_0)
    else
      (ss_gi h_0 this 12 2).bind fun v4 =>
      (ss_pi h_0 this 12 2 (v4 + (1 : Int32))).bind fun h5 =>
      some (.inl h5)
def mm_M_passWord (N : Nat) (this : Option Nat) (h : ss_Hp) : Option ss_Hp :=
  if ss_is h this 12 = true then
    (ss_lp (mm_M_passWord_b0 N this) N h).bind fun h_0_24 =>
    some h_0_24
  else none
abbrev ww_M_passWord (p : Program) (l : Launch) (e : Env) (s : State) (m : MethodId) (below : List Frame) (meth : Method) (c : Code) (G : ss_G) (this : Option Nat) (h : ss_Hp) (hh : ss_Hp) (H : Heap) (locs : List Loc) (k n : Nat) (g : JFrame) : Prop := W p l e (headSpec (ss_w yy_M_passWord bb_M_passWord 1 none) ({ frames := 1, cells := 0, slots := 0, locals := 21 })).room s m ([ss_v (ss_b G) this] : List Value).toArray below meth c H locs k n (MQ below (ss_Qc G none hh) ([ss_v (ss_b G) this] : List Value).toArray s 0 0 (ss_A G)) g
theorem ck_M_passWord {N : Nat} {this : Option Nat} {h : ss_Hp} {res : ss_Hp} (hm : mm_M_passWord N this h = some res) : ss_is h this 12 = true := (ss_chk hm).1
set_option maxHeartbeats 4000000 in
set_option maxRecDepth 100000 in
theorem cc_M_passWord (l : Launch) (G : ss_G) (N : Nat) (this : Option Nat) (h : ss_Hp) (hh : ss_Hp) (hm : mm_M_passWord N this h = some hh) : ss_Ct l G yy_M_passWord bb_M_passWord 1 none ({ frames := 1, cells := 0, slots := 0, locals := 21 }) [ss_v (ss_b G) this] h none hh := by
  obtain ⟨hck, hm⟩ := ss_chk hm
  refine Met.ofW (cc := bb_M_passWord) (maxL := 1) (ret := none) (by decide) rfl ?_
  intro p e s m args below meth c s₁ B hml hv
  obtain ⟨rfl, hR, hK⟩ := hv
  have hC : CallFix p m c bb_M_passWord 1 s _ lw_g sR_12 := ⟨B.exec, B.bytes, hml, findClass_of_methodNamed B.named, fun w hw => atoms_spec (ws := ss_w yy_M_passWord bb_M_passWord 1 none) B.pre w (List.mem_cons_of_mem _ hw)⟩
  have hx := hC.1
  have hb := hC.2.1
  have hr := B.returns
  have hlocks := B.notSynchronized
  have hS : va_S (ss_A G) s.heap s.heap [] := va_S.rf
  have hl := lv_entry ([ss_v (ss_b G) this]) (n := 1) (by simp [lg_sl, ss_v_cat, ss_cat_i, ss_cat_l, ss_cat_r])
  rw [lg_entry_eq]
  generalize (lg_sl ([ss_v (ss_b G) this]) ++ List.replicate (1 - (lg_sl ([ss_v (ss_b G) this])).length) Slot.unset).toArray = ls at hl ⊢
  have hl : lv_has ls 1 [(0, ss_v (ss_b G) this)] := by simpa [lv_args, ss_v_cat, ss_cat_i, ss_cat_l, ss_cat_r] using hl
  obtain ⟨e_0, he_0, hm⟩ := ss_bind hm
  have X_0_24 : ∀  (h_0_24 : ss_Hp) (H : Heap) (locs : List Loc) (ls : Array Slot), e_0 = h_0_24 → ss_R G h_0_24 H → va_S (ss_A G) s.heap H locs → lv_has ls 1 [] → ww_M_passWord p l e s m below meth c G this h hh  H locs 0 0 (F0 m 24 ls []) := by
    intro h_0_24 H locs ls hq hR hS hl
    rw [hq] at hm
    exact ss_vret hC hr hlocks hR hS hm dd_M_passWord_24
  have L_0 : ∀ (n : Nat)  (h_0 : ss_Hp) (H : Heap) (locs : List Loc) (ls : Array Slot), ss_lp (mm_M_passWord_b0 N this) n h_0 = some e_0 → ss_R G h_0 H → va_S (ss_A G) s.heap H locs → lv_has ls 1 [(0, ss_v (ss_b G) this)] → ww_M_passWord p l e s m below meth c G this h hh  H locs 0 0 (F0 m 0 ls []) := by
    intro n
    induction n with
    | zero => intro h_0 H locs ls hm; cases hm
    | succ n ih_0 =>
      intro h_0 H locs ls hm hR hS hl
      obtain ⟨z_0, hm, hz1_0, hz2_0⟩ := ss_lps hm
      refine ss_aload_n hx hb dd_M_passWord_0 rfl (lv_at hl 0 rfl) ?_
      refine ss_aload_n hx hb dd_M_passWord_1 rfl (lv_at hl 0 rfl) ?_
      obtain ⟨v1, qv1, hm⟩ := ss_bind hm
      refine ss_geti hC hK hR kf_M_96 qv1 dd_M_passWord_2 ?_
      obtain ⟨v2, qv2, hm⟩ := ss_bind hm
      refine ss_cV 0 0 (As := [.int v1]) hC hK hR hS hl.1 (cc_M_isLetter l G N _ _ _ _ qv2) km_M_103 (ck_M_isLetter qv2) ⟨Nat.le_of_ble_eq_true rfl, Nat.le_of_ble_eq_true rfl⟩ ⟨Nat.le_of_ble_eq_true rfl, Nat.le_of_ble_eq_true rfl, Nat.le_of_ble_eq_true rfl, Nat.le_of_ble_eq_true rfl⟩ rfl rfl (Nat.le_of_ble_eq_true rfl) dd_M_passWord_5 (fun H locs hR hS => ?_)
      refine lv_if_eq (tgt := 24) hx hb dd_M_passWord_8 (by decide) (fun c3 => ?_) (fun c3 => ?_)
      · have hm := ss_ift hm c3
        exact X_0_24 h_0 _ _ _ (hz2_0 _ (ss_some hm)) hR hS (lv_sub hl [] rfl)
      · have hm := ss_iff hm c3
        refine ss_aload_n hx hb dd_M_passWord_11 rfl (lv_at hl 0 rfl) ?_
        refine ss_dupr hx hb dd_M_passWord_12 ?_
        obtain ⟨v4, qv4, hm⟩ := ss_bind hm
        refine ss_geti hC hK hR kf_M_96 qv4 dd_M_passWord_13 ?_
        refine lv_iconst (v := 1) hx hb dd_M_passWord_16 (by decide) ?_
        refine lv_iadd hx hb dd_M_passWord_17 ?_
        obtain ⟨h5, qh5, hm⟩ := ss_bind hm
        refine ss_puti hC hK hR hS kp_M_96 qh5 dd_M_passWord_18 (fun H locs hR hS => ?_)
        refine lv_goto (tgt := 0) hx hb dd_M_passWord_21 (by decide) ?_
        exact ih_0 h5 _ _ _ (hz1_0 _ (ss_some hm)) hR hS hl
  exact L_0 N h _ _ _ he_0 hR hS hl
theorem dd_M_isDigit_0 : decode bb_M_isDigit 0 = .ok (.iload_n 1, 1) := by decide +kernel
theorem dd_M_isDigit_1 : decode bb_M_isDigit 1 = .ok (.aload_n 0, 1) := by decide +kernel
theorem dd_M_isDigit_2 : decode bb_M_isDigit 2 = .ok (.getfield 86, 3) := by decide +kernel
theorem dd_M_isDigit_5 : decode bb_M_isDigit 5 = .ok (.if_icmp .ge 29, 3) := by decide +kernel
theorem dd_M_isDigit_8 : decode bb_M_isDigit 8 = .ok (.aload_n 0, 1) := by decide +kernel
theorem dd_M_isDigit_9 : decode bb_M_isDigit 9 = .ok (.getfield 7, 3) := by decide +kernel
theorem dd_M_isDigit_12 : decode bb_M_isDigit 12 = .ok (.iload_n 1, 1) := by decide +kernel
theorem dd_M_isDigit_13 : decode bb_M_isDigit 13 = .ok (.baload, 1) := by decide +kernel
theorem dd_M_isDigit_14 : decode bb_M_isDigit 14 = .ok (.bipush 48, 2) := by decide +kernel
theorem dd_M_isDigit_16 : decode bb_M_isDigit 16 = .ok (.if_icmp .lt 18, 3) := by decide +kernel
theorem dd_M_isDigit_19 : decode bb_M_isDigit 19 = .ok (.aload_n 0, 1) := by decide +kernel
theorem dd_M_isDigit_20 : decode bb_M_isDigit 20 = .ok (.getfield 7, 3) := by decide +kernel
theorem dd_M_isDigit_23 : decode bb_M_isDigit 23 = .ok (.iload_n 1, 1) := by decide +kernel
theorem dd_M_isDigit_24 : decode bb_M_isDigit 24 = .ok (.baload, 1) := by decide +kernel
theorem dd_M_isDigit_25 : decode bb_M_isDigit 25 = .ok (.bipush 57, 2) := by decide +kernel
theorem dd_M_isDigit_27 : decode bb_M_isDigit 27 = .ok (.if_icmp .gt 7, 3) := by decide +kernel
theorem dd_M_isDigit_30 : decode bb_M_isDigit 30 = .ok (.iconst 1, 1) := by decide +kernel
theorem dd_M_isDigit_31 : decode bb_M_isDigit 31 = .ok (.goto 4, 3) := by decide +kernel
theorem dd_M_isDigit_34 : decode bb_M_isDigit 34 = .ok (.iconst 0, 1) := by decide +kernel
theorem dd_M_isDigit_35 : decode bb_M_isDigit 35 = .ok (.ireturn, 1) := by decide +kernel
def mm_M_isDigit_j35 (N : Nat) (this : Option Nat) (a1 : Int32) (h : ss_Hp) (s0_35 : Int32) : Option Int32 :=
  (ss_bz s0_35).bind fun v1 =>
  some v1
def mm_M_isDigit_j34 (N : Nat) (this : Option Nat) (a1 : Int32) (h : ss_Hp) : Option Int32 :=
  mm_M_isDigit_j35 N this a1 h (0 : Int32)
def mm_M_isDigit (N : Nat) (this : Option Nat) (a1 : Int32) (h : ss_Hp) : Option Int32 :=
  if ss_is h this 12 = true then
    (ss_gi h this 12 0).bind fun v2 =>
    if v2 ≤ a1 then
      mm_M_isDigit_j34 N this a1 h
    else
      (ss_gr h this 12 0).bind fun r4 =>
      (ss_ai h r4 21 a1).bind fun v5 =>
      if v5 < (48 : Int32) then
        mm_M_isDigit_j34 N this a1 h
      else
        (ss_gr h this 12 0).bind fun r7 =>
        (ss_ai h r7 21 a1).bind fun v8 =>
        if (57 : Int32) < v8 then
          mm_M_isDigit_j34 N this a1 h
        else
          mm_M_isDigit_j35 N this a1 h (1 : Int32)
  else none
abbrev ww_M_isDigit (p : Program) (l : Launch) (e : Env) (s : State) (m : MethodId) (below : List Frame) (meth : Method) (c : Code) (G : ss_G) (this : Option Nat) (a1 : Int32) (h : ss_Hp) (rr : Int32) (H : Heap) (locs : List Loc) (k n : Nat) (g : JFrame) : Prop := W p l e (headSpec (ss_w yy_M_isDigit bb_M_isDigit 2 (some .boolean)) ({ frames := 0, cells := 0, slots := 0, locals := 0 })).room s m ([ss_v (ss_b G) this, .int a1] : List Value).toArray below meth c H locs k n (MQ below (ss_Qc G (some (.int rr)) h) ([ss_v (ss_b G) this, .int a1] : List Value).toArray s 0 0 (ss_A G)) g
theorem ck_M_isDigit {N : Nat} {this : Option Nat} {a1 : Int32} {h : ss_Hp} {res : Int32} (hm : mm_M_isDigit N this a1 h = some res) : ss_is h this 12 = true := (ss_chk hm).1
set_option maxHeartbeats 4000000 in
set_option maxRecDepth 100000 in
theorem cc_M_isDigit (l : Launch) (G : ss_G) (N : Nat) (this : Option Nat) (a1 : Int32) (h : ss_Hp) (rr : Int32) (hm : mm_M_isDigit N this a1 h = some rr) : ss_Ct l G yy_M_isDigit bb_M_isDigit 2 (some .boolean) ({ frames := 0, cells := 0, slots := 0, locals := 0 }) [ss_v (ss_b G) this, .int a1] h (some (.int rr)) h := by
  obtain ⟨hck, hm⟩ := ss_chk hm
  refine Met.ofW (cc := bb_M_isDigit) (maxL := 2) (ret := (some .boolean)) (by decide) rfl ?_
  intro p e s m args below meth c s₁ B hml hv
  obtain ⟨rfl, hR, hK⟩ := hv
  have hC : CallFix p m c bb_M_isDigit 2 s _ lw_g sR_12 := ⟨B.exec, B.bytes, hml, findClass_of_methodNamed B.named, fun w hw => atoms_spec (ws := ss_w yy_M_isDigit bb_M_isDigit 2 (some .boolean)) B.pre w (List.mem_cons_of_mem _ hw)⟩
  have hx := hC.1
  have hb := hC.2.1
  have hr := B.returns
  have hlocks := B.notSynchronized
  have hS : va_S (ss_A G) s.heap s.heap [] := va_S.rf
  have hl := lv_entry ([ss_v (ss_b G) this, .int a1]) (n := 2) (by simp [lg_sl, ss_v_cat, ss_cat_i, ss_cat_l, ss_cat_r])
  rw [lg_entry_eq]
  generalize (lg_sl ([ss_v (ss_b G) this, .int a1]) ++ List.replicate (2 - (lg_sl ([ss_v (ss_b G) this, .int a1])).length) Slot.unset).toArray = ls at hl ⊢
  have hl : lv_has ls 2 [(0, ss_v (ss_b G) this), (1, .int a1)] := by simpa [lv_args, ss_v_cat, ss_cat_i, ss_cat_l, ss_cat_r] using hl
  have J_35 : ∀ (s0_35 : Int32) (H : Heap) (locs : List Loc) (ls : Array Slot), mm_M_isDigit_j35 N this a1 h s0_35 = some rr → ss_R G h H → va_S (ss_A G) s.heap H locs → lv_has ls 2 [] → ww_M_isDigit p l e s m below meth c G this a1 h rr  H locs 0 0 (F0 m 35 ls [.int s0_35]) := by
    intro s0_35 H locs ls hm hR hS hl
    obtain ⟨v1, qv1, hm⟩ := ss_bind hm
    obtain ⟨hnb, rfl⟩ := ss_bzs qv1
    exact ss_zret hC hr hnb hlocks hR hS (ss_with _ hm) dd_M_isDigit_35
  have J_34 : ∀  (H : Heap) (locs : List Loc) (ls : Array Slot), mm_M_isDigit_j34 N this a1 h = some rr → ss_R G h H → va_S (ss_A G) s.heap H locs → lv_has ls 2 [] → ww_M_isDigit p l e s m below meth c G this a1 h rr  H locs 0 0 (F0 m 34 ls []) := by
    intro  H locs ls hm hR hS hl
    refine lv_iconst (v := 0) hx hb dd_M_isDigit_34 (by decide) ?_
    exact J_35 (0 : Int32)  _ _ _ hm hR hS hl
  refine lv_iload_n hx hb dd_M_isDigit_0 rfl (lv_at hl 1 rfl) ?_
  refine ss_aload_n hx hb dd_M_isDigit_1 rfl (lv_at hl 0 rfl) ?_
  obtain ⟨v2, qv2, hm⟩ := ss_bind hm
  refine ss_geti hC hK hR kf_M_86 qv2 dd_M_isDigit_2 ?_
  refine lv_icmp_ge (tgt := 34) hx hb dd_M_isDigit_5 (by decide) (fun c3 => ?_) (fun c3 => ?_)
  · have hm := ss_ift hm c3
    exact J_34  _ _ _ hm hR hS (lv_sub hl [] rfl)
  · have hm := ss_iff hm c3
    refine ss_aload_n hx hb dd_M_isDigit_8 rfl (lv_at hl 0 rfl) ?_
    obtain ⟨r4, qr4, hm⟩ := ss_bind hm
    refine ss_getr hC hK hR kf_M_7 rfl qr4 dd_M_isDigit_9 ?_
    refine lv_iload_n hx hb dd_M_isDigit_12 rfl (lv_at hl 1 rfl) ?_
    obtain ⟨v5, qv5, hm⟩ := ss_bind hm
    refine ss_bald hC hK hR qv5 dd_M_isDigit_13 ?_
    refine lv_bipush (v := 48) hx hb dd_M_isDigit_14 (by decide) ?_
    refine lv_icmp_lt (tgt := 34) hx hb dd_M_isDigit_16 (by decide) (fun c6 => ?_) (fun c6 => ?_)
    · have hm := ss_ift hm c6
      exact J_34  _ _ _ hm hR hS (lv_sub hl [] rfl)
    · have hm := ss_iff hm c6
      refine ss_aload_n hx hb dd_M_isDigit_19 rfl (lv_at hl 0 rfl) ?_
      obtain ⟨r7, qr7, hm⟩ := ss_bind hm
      refine ss_getr hC hK hR kf_M_7 rfl qr7 dd_M_isDigit_20 ?_
      refine lv_iload_n hx hb dd_M_isDigit_23 rfl (lv_at hl 1 rfl) ?_
      obtain ⟨v8, qv8, hm⟩ := ss_bind hm
      refine ss_bald hC hK hR qv8 dd_M_isDigit_24 ?_
      refine lv_bipush (v := 57) hx hb dd_M_isDigit_25 (by decide) ?_
      refine lv_icmp_gt (tgt := 34) hx hb dd_M_isDigit_27 (by decide) (fun c9 => ?_) (fun c9 => ?_)
      · have hm := ss_ift hm c9
        exact J_34  _ _ _ hm hR hS (lv_sub hl [] rfl)
      · have hm := ss_iff hm c9
        refine lv_iconst (v := 1) hx hb dd_M_isDigit_30 (by decide) ?_
        refine lv_goto (tgt := 35) hx hb dd_M_isDigit_31 (by decide) ?_
        exact J_35 (1 : Int32)  _ _ _ hm hR hS (lv_sub hl [] rfl)
theorem dd_M_in_0 : decode bb_M_in 0 = .ok (.lload_n 0, 1) := by decide +kernel
theorem dd_M_in_1 : decode bb_M_in 1 = .ok (.lload_n 2, 1) := by decide +kernel
theorem dd_M_in_2 : decode bb_M_in 2 = .ok (.lcmp, 1) := by decide +kernel
theorem dd_M_in_3 : decode bb_M_in 3 = .ok (.ifCond .lt 14, 3) := by decide +kernel
theorem dd_M_in_6 : decode bb_M_in 6 = .ok (.lload_n 0, 1) := by decide +kernel
theorem dd_M_in_7 : decode bb_M_in 7 = .ok (.lload 4, 2) := by decide +kernel
theorem dd_M_in_9 : decode bb_M_in 9 = .ok (.lcmp, 1) := by decide +kernel
theorem dd_M_in_10 : decode bb_M_in 10 = .ok (.ifCond .gt 7, 3) := by decide +kernel
theorem dd_M_in_13 : decode bb_M_in 13 = .ok (.iconst 1, 1) := by decide +kernel
theorem dd_M_in_14 : decode bb_M_in 14 = .ok (.goto 4, 3) := by decide +kernel
theorem dd_M_in_17 : decode bb_M_in 17 = .ok (.iconst 0, 1) := by decide +kernel
theorem dd_M_in_18 : decode bb_M_in 18 = .ok (.ireturn, 1) := by decide +kernel
def mm_M_in_j18 (N : Nat) (a1 : Int64) (a2 : Int64) (a3 : Int64) (s0_18 : Int32) : Option Int32 :=
  (ss_bz s0_18).bind fun v1 =>
  some v1
def mm_M_in_j17 (N : Nat) (a1 : Int64) (a2 : Int64) (a3 : Int64) : Option Int32 :=
  mm_M_in_j18 N a1 a2 a3 (0 : Int32)
def mm_M_in (N : Nat) (a1 : Int64) (a2 : Int64) (a3 : Int64) : Option Int32 :=
  if (lg_cmp a1 a2) < 0 then
    mm_M_in_j17 N a1 a2 a3
  else
    if 0 < (lg_cmp a1 a3) then
      mm_M_in_j17 N a1 a2 a3
    else
      mm_M_in_j18 N a1 a2 a3 (1 : Int32)
abbrev ww_M_in (p : Program) (l : Launch) (e : Env) (s : State) (m : MethodId) (below : List Frame) (meth : Method) (c : Code) (G : ss_G) (a1 : Int64) (a2 : Int64) (a3 : Int64) (h : ss_Hp) (rr : Int32) (H : Heap) (locs : List Loc) (k n : Nat) (g : JFrame) : Prop := W p l e (headSpec (ss_w yy_M_in bb_M_in 6 (some .boolean)) ({ frames := 0, cells := 0, slots := 0, locals := 0 })).room s m ([.long a1, .long a2, .long a3] : List Value).toArray below meth c H locs k n (MQ below (ss_Qc G (some (.int rr)) h) ([.long a1, .long a2, .long a3] : List Value).toArray s 0 0 (ss_A G)) g
set_option maxHeartbeats 4000000 in
set_option maxRecDepth 100000 in
theorem cc_M_in (l : Launch) (G : ss_G) (N : Nat) (a1 : Int64) (a2 : Int64) (a3 : Int64) (h : ss_Hp) (rr : Int32) (hm : mm_M_in N a1 a2 a3 = some rr) : ss_Ct l G yy_M_in bb_M_in 6 (some .boolean) ({ frames := 0, cells := 0, slots := 0, locals := 0 }) [.long a1, .long a2, .long a3] h (some (.int rr)) h := by
  refine Met.ofW (cc := bb_M_in) (maxL := 6) (ret := (some .boolean)) (by decide) rfl ?_
  intro p e s m args below meth c s₁ B hml hv
  obtain ⟨rfl, hR, hK⟩ := hv
  have hC : CallFix p m c bb_M_in 6 s _ lw_g sR_12 := ⟨B.exec, B.bytes, hml, findClass_of_methodNamed B.named, fun w hw => atoms_spec (ws := ss_w yy_M_in bb_M_in 6 (some .boolean)) B.pre w (List.mem_cons_of_mem _ hw)⟩
  have hx := hC.1
  have hb := hC.2.1
  have hr := B.returns
  have hlocks := B.notSynchronized
  have hS : va_S (ss_A G) s.heap s.heap [] := va_S.rf
  have hl := lv_entry ([.long a1, .long a2, .long a3]) (n := 6) (Nat.le_of_ble_eq_true rfl)
  rw [lg_entry_eq]
  generalize (lg_sl ([.long a1, .long a2, .long a3]) ++ List.replicate (6 - (lg_sl ([.long a1, .long a2, .long a3])).length) Slot.unset).toArray = ls at hl ⊢
  have hl : lv_has ls 6 [(0, .long a1), (2, .long a2), (4, .long a3)] := hl
  have J_18 : ∀ (s0_18 : Int32) (H : Heap) (locs : List Loc) (ls : Array Slot), mm_M_in_j18 N a1 a2 a3 s0_18 = some rr → ss_R G h H → va_S (ss_A G) s.heap H locs → lv_has ls 6 [] → ww_M_in p l e s m below meth c G a1 a2 a3 h rr  H locs 0 0 (F0 m 18 ls [.int s0_18]) := by
    intro s0_18 H locs ls hm hR hS hl
    obtain ⟨v1, qv1, hm⟩ := ss_bind hm
    obtain ⟨hnb, rfl⟩ := ss_bzs qv1
    exact ss_zret hC hr hnb hlocks hR hS (ss_with _ hm) dd_M_in_18
  have J_17 : ∀  (H : Heap) (locs : List Loc) (ls : Array Slot), mm_M_in_j17 N a1 a2 a3 = some rr → ss_R G h H → va_S (ss_A G) s.heap H locs → lv_has ls 6 [] → ww_M_in p l e s m below meth c G a1 a2 a3 h rr  H locs 0 0 (F0 m 17 ls []) := by
    intro  H locs ls hm hR hS hl
    refine lv_iconst (v := 0) hx hb dd_M_in_17 (by decide) ?_
    exact J_18 (0 : Int32)  _ _ _ hm hR hS hl
  refine lv_lload_n hx hb dd_M_in_0 rfl (lv_at hl 0 rfl) ?_
  refine lv_lload_n hx hb dd_M_in_1 rfl (lv_at hl 1 rfl) ?_
  refine W.lcmp hx hb dd_M_in_2 ?_
  refine lv_if_lt (tgt := 17) hx hb dd_M_in_3 (by decide) (fun c2 => ?_) (fun c2 => ?_)
  · have hm := ss_ift hm c2
    exact J_17  _ _ _ hm hR hS (lv_sub hl [] rfl)
  · have hm := ss_iff hm c2
    refine lv_lload_n hx hb dd_M_in_6 rfl (lv_at hl 0 rfl) ?_
    refine lv_lload hx hb dd_M_in_7 (lv_at hl 2 rfl) ?_
    refine W.lcmp hx hb dd_M_in_9 ?_
    refine lv_if_gt (tgt := 17) hx hb dd_M_in_10 (by decide) (fun c3 => ?_) (fun c3 => ?_)
    · have hm := ss_ift hm c3
      exact J_17  _ _ _ hm hR hS (lv_sub hl [] rfl)
    · have hm := ss_iff hm c3
      refine lv_iconst (v := 1) hx hb dd_M_in_13 (by decide) ?_
      refine lv_goto (tgt := 18) hx hb dd_M_in_14 (by decide) ?_
      exact J_18 (1 : Int32)  _ _ _ hm hR hS (lv_sub hl [] rfl)
theorem dd_M_numberHere_0 : decode bb_M_numberHere 0 = .ok (.aload_n 0, 1) := by decide +kernel
theorem dd_M_numberHere_1 : decode bb_M_numberHere 1 = .ok (.invokevirtual 99, 3) := by decide +kernel
theorem dd_M_numberHere_4 : decode bb_M_numberHere 4 = .ok (.pop, 1) := by decide +kernel
theorem dd_M_numberHere_5 : decode bb_M_numberHere 5 = .ok (.aload_n 0, 1) := by decide +kernel
theorem dd_M_numberHere_6 : decode bb_M_numberHere 6 = .ok (.aload_n 0, 1) := by decide +kernel
theorem dd_M_numberHere_7 : decode bb_M_numberHere 7 = .ok (.getfield 96, 3) := by decide +kernel
theorem dd_M_numberHere_10 : decode bb_M_numberHere 10 = .ok (.invokevirtual 114, 3) := by decide +kernel
theorem dd_M_numberHere_13 : decode bb_M_numberHere 13 = .ok (.ifCond .ne 13, 3) := by decide +kernel
theorem dd_M_numberHere_16 : decode bb_M_numberHere 16 = .ok (.aload_n 0, 1) := by decide +kernel
theorem dd_M_numberHere_17 : decode bb_M_numberHere 17 = .ok (.iconst 0, 1) := by decide +kernel
theorem dd_M_numberHere_18 : decode bb_M_numberHere 18 = .ok (.aload_n 0, 1) := by decide +kernel
theorem dd_M_numberHere_19 : decode bb_M_numberHere 19 = .ok (.getfield 96, 3) := by decide +kernel
theorem dd_M_numberHere_22 : decode bb_M_numberHere 22 = .ok (.invokevirtual 117, 3) := by decide +kernel
theorem dd_M_numberHere_25 : decode bb_M_numberHere 25 = .ok (.ireturn, 1) := by decide +kernel
theorem dd_M_numberHere_26 : decode bb_M_numberHere 26 = .ok (.aload_n 0, 1) := by decide +kernel
theorem dd_M_numberHere_27 : decode bb_M_numberHere 27 = .ok (.getfield 96, 3) := by decide +kernel
theorem dd_M_numberHere_30 : decode bb_M_numberHere 30 = .ok (.istore_n 3, 1) := by decide +kernel
theorem dd_M_numberHere_31 : decode bb_M_numberHere 31 = .ok (.iconst 0, 1) := by decide +kernel
theorem dd_M_numberHere_32 : decode bb_M_numberHere 32 = .ok (.istore 4, 2) := by decide +kernel
theorem dd_M_numberHere_34 : decode bb_M_numberHere 34 = .ok (.aload_n 0, 1) := by decide +kernel
theorem dd_M_numberHere_35 : decode bb_M_numberHere 35 = .ok (.aload_n 0, 1) := by decide +kernel
theorem dd_M_numberHere_36 : decode bb_M_numberHere 36 = .ok (.getfield 96, 3) := by decide +kernel
theorem dd_M_numberHere_39 : decode bb_M_numberHere 39 = .ok (.invokevirtual 114, 3) := by decide +kernel
theorem dd_M_numberHere_42 : decode bb_M_numberHere 42 = .ok (.ifCond .eq 46, 3) := by decide +kernel
theorem dd_M_numberHere_45 : decode bb_M_numberHere 45 = .ok (.aload_n 0, 1) := by decide +kernel
theorem dd_M_numberHere_46 : decode bb_M_numberHere 46 = .ok (.getfield 96, 3) := by decide +kernel
theorem dd_M_numberHere_49 : decode bb_M_numberHere 49 = .ok (.iload_n 3, 1) := by decide +kernel
theorem dd_M_numberHere_50 : decode bb_M_numberHere 50 = .ok (.isub, 1) := by decide +kernel
theorem dd_M_numberHere_51 : decode bb_M_numberHere 51 = .ok (.iconst 5, 1) := by decide +kernel
theorem dd_M_numberHere_52 : decode bb_M_numberHere 52 = .ok (.if_icmp .ge 23, 3) := by decide +kernel
theorem dd_M_numberHere_55 : decode bb_M_numberHere 55 = .ok (.bipush 10, 2) := by decide +kernel
theorem dd_M_numberHere_57 : decode bb_M_numberHere 57 = .ok (.iload 4, 2) := by decide +kernel
theorem dd_M_numberHere_59 : decode bb_M_numberHere 59 = .ok (.imul, 1) := by decide +kernel
theorem dd_M_numberHere_60 : decode bb_M_numberHere 60 = .ok (.aload_n 0, 1) := by decide +kernel
theorem dd_M_numberHere_61 : decode bb_M_numberHere 61 = .ok (.getfield 7, 3) := by decide +kernel
theorem dd_M_numberHere_64 : decode bb_M_numberHere 64 = .ok (.aload_n 0, 1) := by decide +kernel
theorem dd_M_numberHere_65 : decode bb_M_numberHere 65 = .ok (.getfield 96, 3) := by decide +kernel
theorem dd_M_numberHere_68 : decode bb_M_numberHere 68 = .ok (.baload, 1) := by decide +kernel
theorem dd_M_numberHere_69 : decode bb_M_numberHere 69 = .ok (.iadd, 1) := by decide +kernel
theorem dd_M_numberHere_70 : decode bb_M_numberHere 70 = .ok (.bipush 48, 2) := by decide +kernel
theorem dd_M_numberHere_72 : decode bb_M_numberHere 72 = .ok (.isub, 1) := by decide +kernel
theorem dd_M_numberHere_73 : decode bb_M_numberHere 73 = .ok (.istore 4, 2) := by decide +kernel
theorem dd_M_numberHere_75 : decode bb_M_numberHere 75 = .ok (.aload_n 0, 1) := by decide +kernel
theorem dd_M_numberHere_76 : decode bb_M_numberHere 76 = .ok (.dup, 1) := by decide +kernel
theorem dd_M_numberHere_77 : decode bb_M_numberHere 77 = .ok (.getfield 96, 3) := by decide +kernel
theorem dd_M_numberHere_80 : decode bb_M_numberHere 80 = .ok (.iconst 1, 1) := by decide +kernel
theorem dd_M_numberHere_81 : decode bb_M_numberHere 81 = .ok (.iadd, 1) := by decide +kernel
theorem dd_M_numberHere_82 : decode bb_M_numberHere 82 = .ok (.putfield 96, 3) := by decide +kernel
theorem dd_M_numberHere_85 : decode bb_M_numberHere 85 = .ok (.goto (-51), 3) := by decide +kernel
theorem dd_M_numberHere_88 : decode bb_M_numberHere 88 = .ok (.aload_n 0, 1) := by decide +kernel
theorem dd_M_numberHere_89 : decode bb_M_numberHere 89 = .ok (.iload 4, 2) := by decide +kernel
theorem dd_M_numberHere_91 : decode bb_M_numberHere 91 = .ok (.putfield 121, 3) := by decide +kernel
theorem dd_M_numberHere_94 : decode bb_M_numberHere 94 = .ok (.aload_n 0, 1) := by decide +kernel
theorem dd_M_numberHere_95 : decode bb_M_numberHere 95 = .ok (.getfield 96, 3) := by decide +kernel
theorem dd_M_numberHere_98 : decode bb_M_numberHere 98 = .ok (.iload_n 3, 1) := by decide +kernel
theorem dd_M_numberHere_99 : decode bb_M_numberHere 99 = .ok (.isub, 1) := by decide +kernel
theorem dd_M_numberHere_100 : decode bb_M_numberHere 100 = .ok (.iconst 5, 1) := by decide +kernel
theorem dd_M_numberHere_101 : decode bb_M_numberHere 101 = .ok (.if_icmp .gt 16, 3) := by decide +kernel
theorem dd_M_numberHere_104 : decode bb_M_numberHere 104 = .ok (.iload 4, 2) := by decide +kernel
theorem dd_M_numberHere_106 : decode bb_M_numberHere 106 = .ok (.i2l, 1) := by decide +kernel
theorem dd_M_numberHere_107 : decode bb_M_numberHere 107 = .ok (.iload_n 1, 1) := by decide +kernel
theorem dd_M_numberHere_108 : decode bb_M_numberHere 108 = .ok (.i2l, 1) := by decide +kernel
theorem dd_M_numberHere_109 : decode bb_M_numberHere 109 = .ok (.iload_n 2, 1) := by decide +kernel
theorem dd_M_numberHere_110 : decode bb_M_numberHere 110 = .ok (.i2l, 1) := by decide +kernel
theorem dd_M_numberHere_111 : decode bb_M_numberHere 111 = .ok (.invokestatic 124, 3) := by decide +kernel
theorem dd_M_numberHere_114 : decode bb_M_numberHere 114 = .ok (.ifCond .ne 12, 3) := by decide +kernel
theorem dd_M_numberHere_117 : decode bb_M_numberHere 117 = .ok (.aload_n 0, 1) := by decide +kernel
theorem dd_M_numberHere_118 : decode bb_M_numberHere 118 = .ok (.iconst 1, 1) := by decide +kernel
theorem dd_M_numberHere_119 : decode bb_M_numberHere 119 = .ok (.iload_n 3, 1) := by decide +kernel
theorem dd_M_numberHere_120 : decode bb_M_numberHere 120 = .ok (.invokevirtual 117, 3) := by decide +kernel
theorem dd_M_numberHere_123 : decode bb_M_numberHere 123 = .ok (.ifCond .eq 7, 3) := by decide +kernel
theorem dd_M_numberHere_126 : decode bb_M_numberHere 126 = .ok (.iconst 1, 1) := by decide +kernel
theorem dd_M_numberHere_127 : decode bb_M_numberHere 127 = .ok (.goto 4, 3) := by decide +kernel
theorem dd_M_numberHere_130 : decode bb_M_numberHere 130 = .ok (.iconst 0, 1) := by decide +kernel
theorem dd_M_numberHere_131 : decode bb_M_numberHere 131 = .ok (.ireturn, 1) := by decide +kernel
def mm_M_numberHere_j131 (N : Nat) (this : Option Nat) (a1 : Int32) (a2 : Int32) (s0_131 : Int32) (h_131 : ss_Hp) : Option (Int32 × ss_Hp) :=
  (ss_bz s0_131).bind fun v1 =>
  some (v1, h_131)
def mm_M_numberHere_j126 (N : Nat) (this : Option Nat) (a1 : Int32) (a2 : Int32) (h_126 : ss_Hp) : Option (Int32 × ss_Hp) :=
  mm_M_numberHere_j131 N this a1 a2 (1 : Int32) h_126
def mm_M_numberHere_j117 (N : Nat) (this : Option Nat) (a1 : Int32) (a2 : Int32) (x3_117 : Int32) (h_117 : ss_Hp) : Option (Int32 × ss_Hp) :=
  ss_b2 (mm_M_fails N this (1 : Int32) x3_117 h_117) fun v2 h3 =>
  if v2 = 0 then
    mm_M_numberHere_j131 N this a1 a2 (0 : Int32) h3
  else
    mm_M_numberHere_j126 N this a1 a2 h3
def mm_M_numberHere_j75 (N : Nat) (this : Option Nat) (a1 : Int32) (a2 : Int32) (v10 : Int32) (x4_75 : Int32) (h_75 : ss_Hp) : Option ((Int32 × ss_Hp) ⊕ (Int32 × ss_Hp)) :=
  (ss_gi h_75 this 12 2).bind fun v16 =>
  (ss_pi h_75 this 12 2 (v16 + (1 : Int32))).bind fun h17 =>
  some (.inl (x4_75, h17))
def mm_M_numberHere_b34 (N : Nat) (this : Option Nat) (a1 : Int32) (a2 : Int32) (v10 : Int32) (st : Int32 × ss_Hp) : Option ((Int32 × ss_Hp) ⊕ (Int32 × ss_Hp)) :=
  match st with
  | (x4_34, h_34) =>
    (ss_gi h_34 this 12 2).bind fun v18 =>
    (mm_M_isDigit N this v18 h_34).bind fun v19 =>
    if v19 = 0 then
      some (.inr (x4_34, h_34))
    else
      (ss_gi h_34 this 12 2).bind fun v21 =>
      if (5 : Int32) ≤ (v21 - v10) then
        mm_M_numberHere_j75 N this a1 a2 v10 x4_34 h_34
      else
        (ss_gr h_34 this 12 0).bind fun r23 =>
        (ss_gi h_34 this 12 2).bind fun v24 =>
        (ss_ai h_34 r23 21 v24).bind fun v25 =>
        (some ((((10 : Int32) * x4_34) + v25) - (48 : Int32))).bind fun v26 =>
        mm_M_numberHere_j75 N this a1 a2 v10 v26 h_34
def mm_M_numberHere (N : Nat) (this : Option Nat) (a1 : Int32) (a2 : Int32) (h : ss_Hp) : Option (Int32 × ss_Hp) :=
  if ss_is h this 12 = true then
    ss_b2 (mm_M_see N this h) fun v5 h6 =>
    (ss_gi h6 this 12 2).bind fun v7 =>
    (mm_M_isDigit N this v7 h6).bind fun v8 =>
    if v8 = 0 then
      (ss_gi h6 this 12 2).bind fun v27 =>
      ss_b2 (mm_M_fails N this (0 : Int32) v27 h6) fun v28 h29 =>
      (ss_bz v28).bind fun v30 =>
      some (v30, h29)
    else
      (ss_gi h6 this 12 2).bind fun v10 =>
      (ss_lp (mm_M_numberHere_b34 N this a1 a2 v10) N ((0 : Int32), h6)).bind fun e_34 =>
      match e_34 with
      | (y4_34_88, h_34_88) =>
        (ss_pi h_34_88 this 12 4 y4_34_88).bind fun h11 =>
        (ss_gi h11 this 12 2).bind fun v12 =>
        if (5 : Int32) < (v12 - v10) then
          mm_M_numberHere_j117 N this a1 a2 v10 h11
        else
          (mm_M_in N ((y4_34_88).toInt64) ((a1).toInt64) ((a2).toInt64)).bind fun v14 =>
          if v14 = 0 then
            mm_M_numberHere_j117 N this a1 a2 v10 h11
          else
            mm_M_numberHere_j126 N this a1 a2 h11
  else none
abbrev ww_M_numberHere (p : Program) (l : Launch) (e : Env) (s : State) (m : MethodId) (below : List Frame) (meth : Method) (c : Code) (G : ss_G) (this : Option Nat) (a1 : Int32) (a2 : Int32) (h : ss_Hp) (rr : Int32) (hh : ss_Hp) (H : Heap) (locs : List Loc) (k n : Nat) (g : JFrame) : Prop := W p l e (headSpec (ss_w yy_M_numberHere bb_M_numberHere 5 (some .boolean)) ({ frames := 1, cells := 0, slots := 0, locals := 25 })).room s m ([ss_v (ss_b G) this, .int a1, .int a2] : List Value).toArray below meth c H locs k n (MQ below (ss_Qc G (some (.int rr)) hh) ([ss_v (ss_b G) this, .int a1, .int a2] : List Value).toArray s 0 0 (ss_A G)) g
theorem ck_M_numberHere {N : Nat} {this : Option Nat} {a1 : Int32} {a2 : Int32} {h : ss_Hp} {res : Int32 × ss_Hp} (hm : mm_M_numberHere N this a1 a2 h = some res) : ss_is h this 12 = true := (ss_chk hm).1
set_option maxHeartbeats 4000000 in
set_option maxRecDepth 100000 in
theorem cc_M_numberHere (l : Launch) (G : ss_G) (N : Nat) (this : Option Nat) (a1 : Int32) (a2 : Int32) (h : ss_Hp) (rr : Int32) (hh : ss_Hp) (hm : mm_M_numberHere N this a1 a2 h = some (rr, hh)) : ss_Ct l G yy_M_numberHere bb_M_numberHere 5 (some .boolean) ({ frames := 1, cells := 0, slots := 0, locals := 25 }) [ss_v (ss_b G) this, .int a1, .int a2] h (some (.int rr)) hh := by
  obtain ⟨hck, hm⟩ := ss_chk hm
  refine Met.ofW (cc := bb_M_numberHere) (maxL := 5) (ret := (some .boolean)) (by decide) rfl ?_
  intro p e s m args below meth c s₁ B hml hv
  obtain ⟨rfl, hR, hK⟩ := hv
  have hC : CallFix p m c bb_M_numberHere 5 s _ lw_g sR_12 := ⟨B.exec, B.bytes, hml, findClass_of_methodNamed B.named, fun w hw => atoms_spec (ws := ss_w yy_M_numberHere bb_M_numberHere 5 (some .boolean)) B.pre w (List.mem_cons_of_mem _ hw)⟩
  have hx := hC.1
  have hb := hC.2.1
  have hr := B.returns
  have hlocks := B.notSynchronized
  have hS : va_S (ss_A G) s.heap s.heap [] := va_S.rf
  have hl := lv_entry ([ss_v (ss_b G) this, .int a1, .int a2]) (n := 5) (by simp [lg_sl, ss_v_cat, ss_cat_i, ss_cat_l, ss_cat_r])
  rw [lg_entry_eq]
  generalize (lg_sl ([ss_v (ss_b G) this, .int a1, .int a2]) ++ List.replicate (5 - (lg_sl ([ss_v (ss_b G) this, .int a1, .int a2])).length) Slot.unset).toArray = ls at hl ⊢
  have hl : lv_has ls 5 [(0, ss_v (ss_b G) this), (1, .int a1), (2, .int a2)] := by simpa [lv_args, ss_v_cat, ss_cat_i, ss_cat_l, ss_cat_r] using hl
  have J_131 : ∀ (s0_131 : Int32) (h_131 : ss_Hp) (H : Heap) (locs : List Loc) (ls : Array Slot), mm_M_numberHere_j131 N this a1 a2 s0_131 h_131 = some (rr, hh) → ss_R G h_131 H → va_S (ss_A G) s.heap H locs → lv_has ls 5 [] → ww_M_numberHere p l e s m below meth c G this a1 a2 h rr hh  H locs 0 0 (F0 m 131 ls [.int s0_131]) := by
    intro s0_131 h_131 H locs ls hm hR hS hl
    obtain ⟨v1, qv1, hm⟩ := ss_bind hm
    obtain ⟨hnb, rfl⟩ := ss_bzs qv1
    exact ss_zret hC hr hnb hlocks hR hS hm dd_M_numberHere_131
  have J_126 : ∀ (h_126 : ss_Hp) (H : Heap) (locs : List Loc) (ls : Array Slot), mm_M_numberHere_j126 N this a1 a2 h_126 = some (rr, hh) → ss_R G h_126 H → va_S (ss_A G) s.heap H locs → lv_has ls 5 [] → ww_M_numberHere p l e s m below meth c G this a1 a2 h rr hh  H locs 0 0 (F0 m 126 ls []) := by
    intro h_126 H locs ls hm hR hS hl
    refine lv_iconst (v := 1) hx hb dd_M_numberHere_126 (by decide) ?_
    refine lv_goto (tgt := 131) hx hb dd_M_numberHere_127 (by decide) ?_
    exact J_131 (1 : Int32) h_126 _ _ _ hm hR hS hl
  have J_117 : ∀ (x3_117 : Int32) (h_117 : ss_Hp) (H : Heap) (locs : List Loc) (ls : Array Slot), mm_M_numberHere_j117 N this a1 a2 x3_117 h_117 = some (rr, hh) → ss_R G h_117 H → va_S (ss_A G) s.heap H locs → lv_has ls 5 [(0, ss_v (ss_b G) this), (3, .int x3_117)] → ww_M_numberHere p l e s m below meth c G this a1 a2 h rr hh  H locs 0 0 (F0 m 117 ls []) := by
    intro x3_117 h_117 H locs ls hm hR hS hl
    refine ss_aload_n hx hb dd_M_numberHere_117 rfl (lv_at hl 0 rfl) ?_
    refine lv_iconst (v := 1) hx hb dd_M_numberHere_118 (by decide) ?_
    refine lv_iload_n hx hb dd_M_numberHere_119 rfl (lv_at hl 1 rfl) ?_
    obtain ⟨v2, h3, qh3, hm⟩ := ss_bind2 hm
    refine ss_cV 0 0 (As := [.int (1 : Int32), .int x3_117]) hC hK hR hS hl.1 (cc_M_fails l G N _ _ _ _ _ _ qh3) km_M_117 (ck_M_fails qh3) ⟨Nat.le_of_ble_eq_true rfl, Nat.le_of_ble_eq_true rfl⟩ ⟨Nat.le_of_ble_eq_true rfl, Nat.le_of_ble_eq_true rfl, Nat.le_of_ble_eq_true rfl, Nat.le_of_ble_eq_true rfl⟩ rfl rfl (Nat.le_of_ble_eq_true rfl) dd_M_numberHere_120 (fun H locs hR hS => ?_)
    refine lv_if_eq (tgt := 130) hx hb dd_M_numberHere_123 (by decide) (fun c4 => ?_) (fun c4 => ?_)
    · have hm := ss_ift hm c4
      refine lv_iconst (v := 0) hx hb dd_M_numberHere_130 (by decide) ?_
      exact J_131 (0 : Int32) h3 _ _ _ hm hR hS (lv_sub hl [] rfl)
    · have hm := ss_iff hm c4
      exact J_126 h3 _ _ _ hm hR hS (lv_sub hl [] rfl)
  refine ss_aload_n hx hb dd_M_numberHere_0 rfl (lv_at hl 0 rfl) ?_
  obtain ⟨v5, h6, qh6, hm⟩ := ss_bind2 hm
  refine ss_cV 0 0 (As := []) hC hK hR hS hl.1 (cc_M_see l G N _ _ _ _ qh6) km_M_99 (ck_M_see qh6) ⟨Nat.le_of_ble_eq_true rfl, Nat.le_of_ble_eq_true rfl⟩ ⟨Nat.le_of_ble_eq_true rfl, Nat.le_of_ble_eq_true rfl, Nat.le_of_ble_eq_true rfl, Nat.le_of_ble_eq_true rfl⟩ rfl rfl (Nat.le_of_ble_eq_true rfl) dd_M_numberHere_1 (fun H locs hR hS => ?_)
  refine lv_pop hx hb dd_M_numberHere_4 rfl ?_
  refine ss_aload_n hx hb dd_M_numberHere_5 rfl (lv_at hl 0 rfl) ?_
  refine ss_aload_n hx hb dd_M_numberHere_6 rfl (lv_at hl 0 rfl) ?_
  obtain ⟨v7, qv7, hm⟩ := ss_bind hm
  refine ss_geti hC hK hR kf_M_96 qv7 dd_M_numberHere_7 ?_
  obtain ⟨v8, qv8, hm⟩ := ss_bind hm
  refine ss_cV 0 0 (As := [.int v7]) hC hK hR hS hl.1 (cc_M_isDigit l G N _ _ _ _ qv8) km_M_114 (ck_M_isDigit qv8) ⟨Nat.le_of_ble_eq_true rfl, Nat.le_of_ble_eq_true rfl⟩ ⟨Nat.le_of_ble_eq_true rfl, Nat.le_of_ble_eq_true rfl, Nat.le_of_ble_eq_true rfl, Nat.le_of_ble_eq_true rfl⟩ rfl rfl (Nat.le_of_ble_eq_true rfl) dd_M_numberHere_10 (fun H locs hR hS => ?_)
  refine lv_if_ne (tgt := 26) hx hb dd_M_numberHere_13 (by decide) (fun c9 => ?_) (fun c9 => ?_)
  · have hm := ss_iff hm c9
    refine ss_aload_n hx hb dd_M_numberHere_26 rfl (lv_at hl 0 rfl) ?_
    obtain ⟨v10, qv10, hm⟩ := ss_bind hm
    refine ss_geti hC hK hR kf_M_96 qv10 dd_M_numberHere_27 ?_
    refine lv_istore_n (lv' := [(3, .int v10), (0, ss_v (ss_b G) this), (1, .int a1), (2, .int a2)]) hx hb dd_M_numberHere_30 rfl hl (by decide) rfl (fun ls hl => ?_)
    refine lv_iconst (v := 0) hx hb dd_M_numberHere_31 (by decide) ?_
    refine lv_istore (lv' := [(4, .int (0 : Int32)), (3, .int v10), (0, ss_v (ss_b G) this), (1, .int a1), (2, .int a2)]) hx hb dd_M_numberHere_32 hl (by decide) rfl (fun ls hl => ?_)
    obtain ⟨e_34, he_34, hm⟩ := ss_bind hm
    have X_34_88 : ∀ (y4_34_88 : Int32) (h_34_88 : ss_Hp) (H : Heap) (locs : List Loc) (ls : Array Slot), e_34 = (y4_34_88, h_34_88) → ss_R G h_34_88 H → va_S (ss_A G) s.heap H locs → lv_has ls 5 [(0, ss_v (ss_b G) this), (1, .int a1), (2, .int a2), (3, .int v10), (4, .int y4_34_88)] → ww_M_numberHere p l e s m below meth c G this a1 a2 h rr hh  H locs 0 0 (F0 m 88 ls []) := by
      intro y4_34_88 h_34_88 H locs ls hq hR hS hl
      rw [hq] at hm
      refine ss_aload_n hx hb dd_M_numberHere_88 rfl (lv_at hl 0 rfl) ?_
      refine lv_iload hx hb dd_M_numberHere_89 (lv_at hl 4 rfl) ?_
      obtain ⟨h11, qh11, hm⟩ := ss_bind hm
      refine ss_puti hC hK hR hS kp_M_121 qh11 dd_M_numberHere_91 (fun H locs hR hS => ?_)
      refine ss_aload_n hx hb dd_M_numberHere_94 rfl (lv_at hl 0 rfl) ?_
      obtain ⟨v12, qv12, hm⟩ := ss_bind hm
      refine ss_geti hC hK hR kf_M_96 qv12 dd_M_numberHere_95 ?_
      refine lv_iload_n hx hb dd_M_numberHere_98 rfl (lv_at hl 3 rfl) ?_
      refine lv_isub hx hb dd_M_numberHere_99 ?_
      refine lv_iconst (v := 5) hx hb dd_M_numberHere_100 (by decide) ?_
      refine lv_icmp_gt (tgt := 117) hx hb dd_M_numberHere_101 (by decide) (fun c13 => ?_) (fun c13 => ?_)
      · have hm := ss_ift hm c13
        exact J_117 v10 h11 _ _ _ hm hR hS (lv_sub hl [0, 3] rfl)
      · have hm := ss_iff hm c13
        refine lv_iload hx hb dd_M_numberHere_104 (lv_at hl 4 rfl) ?_
        refine lv_i2l hx hb dd_M_numberHere_106 rfl ?_
        refine lv_iload_n hx hb dd_M_numberHere_107 rfl (lv_at hl 1 rfl) ?_
        refine lv_i2l hx hb dd_M_numberHere_108 rfl ?_
        refine lv_iload_n hx hb dd_M_numberHere_109 rfl (lv_at hl 2 rfl) ?_
        refine lv_i2l hx hb dd_M_numberHere_110 rfl ?_
        obtain ⟨v14, qv14, hm⟩ := ss_bind hm
        refine ss_cS 0 0 (As := [.long ((y4_34_88).toInt64), .long ((a1).toInt64), .long ((a2).toInt64)]) hC hK hR hS hl.1 (cc_M_in l G N _ _ _ _ _ qv14) km_M_124 ⟨Nat.le_of_ble_eq_true rfl, Nat.le_of_ble_eq_true rfl⟩ ⟨Nat.le_of_ble_eq_true rfl, Nat.le_of_ble_eq_true rfl, Nat.le_of_ble_eq_true rfl, Nat.le_of_ble_eq_true rfl⟩ rfl rfl (Nat.le_of_ble_eq_true rfl) dd_M_numberHere_111 (fun H locs hR hS => ?_)
        refine lv_if_ne (tgt := 126) hx hb dd_M_numberHere_114 (by decide) (fun c15 => ?_) (fun c15 => ?_)
        · have hm := ss_iff hm c15
          exact J_126 h11 _ _ _ hm hR hS (lv_sub hl [] rfl)
        · have hm := ss_ift hm c15
          exact J_117 v10 h11 _ _ _ hm hR hS (lv_sub hl [0, 3] rfl)
    have L_34 : ∀ (n : Nat) (x4_34 : Int32) (h_34 : ss_Hp) (H : Heap) (locs : List Loc) (ls : Array Slot), ss_lp (mm_M_numberHere_b34 N this a1 a2 v10) n (x4_34, h_34) = some e_34 → ss_R G h_34 H → va_S (ss_A G) s.heap H locs → lv_has ls 5 [(0, ss_v (ss_b G) this), (1, .int a1), (2, .int a2), (3, .int v10), (4, .int x4_34)] → ww_M_numberHere p l e s m below meth c G this a1 a2 h rr hh  H locs 0 0 (F0 m 34 ls []) := by
      intro n
      induction n with
      | zero => intro x4_34 h_34 H locs ls hm; cases hm
      | succ n ih_34 =>
        intro x4_34 h_34 H locs ls hm hR hS hl
        obtain ⟨z_34, hm, hz1_34, hz2_34⟩ := ss_lps hm
        have J_75 : ∀ (x4_75 : Int32) (h_75 : ss_Hp) (H : Heap) (locs : List Loc) (ls : Array Slot), mm_M_numberHere_j75 N this a1 a2 v10 x4_75 h_75 = some z_34 → ss_R G h_75 H → va_S (ss_A G) s.heap H locs → lv_has ls 5 [(0, ss_v (ss_b G) this), (1, .int a1), (2, .int a2), (3, .int v10), (4, .int x4_75)] → ww_M_numberHere p l e s m below meth c G this a1 a2 h rr hh  H locs 0 0 (F0 m 75 ls []) := by
          intro x4_75 h_75 H locs ls hm hR hS hl
          refine ss_aload_n hx hb dd_M_numberHere_75 rfl (lv_at hl 0 rfl) ?_
          refine ss_dupr hx hb dd_M_numberHere_76 ?_
          obtain ⟨v16, qv16, hm⟩ := ss_bind hm
          refine ss_geti hC hK hR kf_M_96 qv16 dd_M_numberHere_77 ?_
          refine lv_iconst (v := 1) hx hb dd_M_numberHere_80 (by decide) ?_
          refine lv_iadd hx hb dd_M_numberHere_81 ?_
          obtain ⟨h17, qh17, hm⟩ := ss_bind hm
          refine ss_puti hC hK hR hS kp_M_96 qh17 dd_M_numberHere_82 (fun H locs hR hS => ?_)
          refine lv_goto (tgt := 34) hx hb dd_M_numberHere_85 (by decide) ?_
          exact ih_34 x4_75 h17 _ _ _ (hz1_34 _ (ss_some hm)) hR hS hl
        refine ss_aload_n hx hb dd_M_numberHere_34 rfl (lv_at hl 0 rfl) ?_
        refine ss_aload_n hx hb dd_M_numberHere_35 rfl (lv_at hl 0 rfl) ?_
        obtain ⟨v18, qv18, hm⟩ := ss_bind hm
        refine ss_geti hC hK hR kf_M_96 qv18 dd_M_numberHere_36 ?_
        obtain ⟨v19, qv19, hm⟩ := ss_bind hm
        refine ss_cV 0 0 (As := [.int v18]) hC hK hR hS hl.1 (cc_M_isDigit l G N _ _ _ _ qv19) km_M_114 (ck_M_isDigit qv19) ⟨Nat.le_of_ble_eq_true rfl, Nat.le_of_ble_eq_true rfl⟩ ⟨Nat.le_of_ble_eq_true rfl, Nat.le_of_ble_eq_true rfl, Nat.le_of_ble_eq_true rfl, Nat.le_of_ble_eq_true rfl⟩ rfl rfl (Nat.le_of_ble_eq_true rfl) dd_M_numberHere_39 (fun H locs hR hS => ?_)
        refine lv_if_eq (tgt := 88) hx hb dd_M_numberHere_42 (by decide) (fun c20 => ?_) (fun c20 => ?_)
        · have hm := ss_ift hm c20
          exact X_34_88 x4_34 h_34 _ _ _ (hz2_34 _ (ss_some hm)) hR hS hl
        · have hm := ss_iff hm c20
          refine ss_aload_n hx hb dd_M_numberHere_45 rfl (lv_at hl 0 rfl) ?_
          obtain ⟨v21, qv21, hm⟩ := ss_bind hm
          refine ss_geti hC hK hR kf_M_96 qv21 dd_M_numberHere_46 ?_
          refine lv_iload_n hx hb dd_M_numberHere_49 rfl (lv_at hl 3 rfl) ?_
          refine lv_isub hx hb dd_M_numberHere_50 ?_
          refine lv_iconst (v := 5) hx hb dd_M_numberHere_51 (by decide) ?_
          refine lv_icmp_ge (tgt := 75) hx hb dd_M_numberHere_52 (by decide) (fun c22 => ?_) (fun c22 => ?_)
          · have hm := ss_ift hm c22
            exact J_75 x4_34 h_34 _ _ _ hm hR hS hl
          · have hm := ss_iff hm c22
            refine lv_bipush (v := 10) hx hb dd_M_numberHere_55 (by decide) ?_
            refine lv_iload hx hb dd_M_numberHere_57 (lv_at hl 4 rfl) ?_
            refine lv_imul hx hb dd_M_numberHere_59 ?_
            refine ss_aload_n hx hb dd_M_numberHere_60 rfl (lv_at hl 0 rfl) ?_
            obtain ⟨r23, qr23, hm⟩ := ss_bind hm
            refine ss_getr hC hK hR kf_M_7 rfl qr23 dd_M_numberHere_61 ?_
            refine ss_aload_n hx hb dd_M_numberHere_64 rfl (lv_at hl 0 rfl) ?_
            obtain ⟨v24, qv24, hm⟩ := ss_bind hm
            refine ss_geti hC hK hR kf_M_96 qv24 dd_M_numberHere_65 ?_
            obtain ⟨v25, qv25, hm⟩ := ss_bind hm
            refine ss_bald hC hK hR qv25 dd_M_numberHere_68 ?_
            refine lv_iadd hx hb dd_M_numberHere_69 ?_
            refine lv_bipush (v := 48) hx hb dd_M_numberHere_70 (by decide) ?_
            refine lv_isub hx hb dd_M_numberHere_72 ?_
            obtain ⟨v26, qv26, hm⟩ := ss_bind hm
            refine ss_topi qv26 ?_
            refine lv_istore (lv' := [(4, .int v26), (0, ss_v (ss_b G) this), (1, .int a1), (2, .int a2), (3, .int v10)]) hx hb dd_M_numberHere_73 hl (by decide) rfl (fun ls hl => ?_)
            exact J_75 v26 h_34 _ _ _ hm hR hS (lv_sub hl [1, 2, 3, 4, 0] rfl)
    exact L_34 N (0 : Int32) h6 _ _ _ he_34 hR hS (lv_sub hl [2, 3, 4, 1, 0] rfl)
  · have hm := ss_ift hm c9
    refine ss_aload_n hx hb dd_M_numberHere_16 rfl (lv_at hl 0 rfl) ?_
    refine lv_iconst (v := 0) hx hb dd_M_numberHere_17 (by decide) ?_
    refine ss_aload_n hx hb dd_M_numberHere_18 rfl (lv_at hl 0 rfl) ?_
    obtain ⟨v27, qv27, hm⟩ := ss_bind hm
    refine ss_geti hC hK hR kf_M_96 qv27 dd_M_numberHere_19 ?_
    obtain ⟨v28, h29, qh29, hm⟩ := ss_bind2 hm
    refine ss_cV 0 0 (As := [.int (0 : Int32), .int v27]) hC hK hR hS hl.1 (cc_M_fails l G N _ _ _ _ _ _ qh29) km_M_117 (ck_M_fails qh29) ⟨Nat.le_of_ble_eq_true rfl, Nat.le_of_ble_eq_true rfl⟩ ⟨Nat.le_of_ble_eq_true rfl, Nat.le_of_ble_eq_true rfl, Nat.le_of_ble_eq_true rfl, Nat.le_of_ble_eq_true rfl⟩ rfl rfl (Nat.le_of_ble_eq_true rfl) dd_M_numberHere_22 (fun H locs hR hS => ?_)
    obtain ⟨v30, qv30, hm⟩ := ss_bind hm
    obtain ⟨hnb, rfl⟩ := ss_bzs qv30
    exact ss_zret hC hr hnb hlocks hR hS hm dd_M_numberHere_25
theorem dd_M_cellHere_0 : decode bb_M_cellHere 0 = .ok (.aload_n 0, 1) := by decide +kernel
theorem dd_M_cellHere_1 : decode bb_M_cellHere 1 = .ok (.iload_n 2, 1) := by decide +kernel
theorem dd_M_cellHere_2 : decode bb_M_cellHere 2 = .ok (.iload_n 3, 1) := by decide +kernel
theorem dd_M_cellHere_3 : decode bb_M_cellHere 3 = .ok (.invokevirtual 173, 3) := by decide +kernel
theorem dd_M_cellHere_6 : decode bb_M_cellHere 6 = .ok (.ifCond .ne 5, 3) := by decide +kernel
theorem dd_M_cellHere_9 : decode bb_M_cellHere 9 = .ok (.iconst 0, 1) := by decide +kernel
theorem dd_M_cellHere_10 : decode bb_M_cellHere 10 = .ok (.ireturn, 1) := by decide +kernel
theorem dd_M_cellHere_11 : decode bb_M_cellHere 11 = .ok (.aload_n 0, 1) := by decide +kernel
theorem dd_M_cellHere_12 : decode bb_M_cellHere 12 = .ok (.getfield 26, 3) := by decide +kernel
theorem dd_M_cellHere_15 : decode bb_M_cellHere 15 = .ok (.iload_n 1, 1) := by decide +kernel
theorem dd_M_cellHere_16 : decode bb_M_cellHere 16 = .ok (.aload_n 0, 1) := by decide +kernel
theorem dd_M_cellHere_17 : decode bb_M_cellHere 17 = .ok (.getfield 121, 3) := by decide +kernel
theorem dd_M_cellHere_20 : decode bb_M_cellHere 20 = .ok (.iastore, 1) := by decide +kernel
theorem dd_M_cellHere_21 : decode bb_M_cellHere 21 = .ok (.iconst 1, 1) := by decide +kernel
theorem dd_M_cellHere_22 : decode bb_M_cellHere 22 = .ok (.ireturn, 1) := by decide +kernel
def mm_M_cellHere (N : Nat) (this : Option Nat) (a1 : Int32) (a2 : Int32) (a3 : Int32) (h : ss_Hp) : Option (Int32 × ss_Hp) :=
  if ss_is h this 12 = true then
    ss_b2 (mm_M_numberHere N this a2 a3 h) fun v1 h2 =>
    if v1 = 0 then
      some ((0 : Int32), h2)
    else
      (ss_gr h2 this 12 5).bind fun r4 =>
      (ss_gi h2 this 12 4).bind fun v5 =>
      (ss_ui h2 r4 20 a1 v5).bind fun h6 =>
      some ((1 : Int32), h6)
  else none
abbrev ww_M_cellHere (p : Program) (l : Launch) (e : Env) (s : State) (m : MethodId) (below : List Frame) (meth : Method) (c : Code) (G : ss_G) (this : Option Nat) (a1 : Int32) (a2 : Int32) (a3 : Int32) (h : ss_Hp) (rr : Int32) (hh : ss_Hp) (H : Heap) (locs : List Loc) (k n : Nat) (g : JFrame) : Prop := W p l e (headSpec (ss_w yy_M_cellHere bb_M_cellHere 4 (some .boolean)) ({ frames := 2, cells := 0, slots := 0, locals := 49 })).room s m ([ss_v (ss_b G) this, .int a1, .int a2, .int a3] : List Value).toArray below meth c H locs k n (MQ below (ss_Qc G (some (.int rr)) hh) ([ss_v (ss_b G) this, .int a1, .int a2, .int a3] : List Value).toArray s 0 0 (ss_A G)) g
theorem ck_M_cellHere {N : Nat} {this : Option Nat} {a1 : Int32} {a2 : Int32} {a3 : Int32} {h : ss_Hp} {res : Int32 × ss_Hp} (hm : mm_M_cellHere N this a1 a2 a3 h = some res) : ss_is h this 12 = true := (ss_chk hm).1
set_option maxHeartbeats 4000000 in
set_option maxRecDepth 100000 in
theorem cc_M_cellHere (l : Launch) (G : ss_G) (N : Nat) (this : Option Nat) (a1 : Int32) (a2 : Int32) (a3 : Int32) (h : ss_Hp) (rr : Int32) (hh : ss_Hp) (hm : mm_M_cellHere N this a1 a2 a3 h = some (rr, hh)) : ss_Ct l G yy_M_cellHere bb_M_cellHere 4 (some .boolean) ({ frames := 2, cells := 0, slots := 0, locals := 49 }) [ss_v (ss_b G) this, .int a1, .int a2, .int a3] h (some (.int rr)) hh := by
  obtain ⟨hck, hm⟩ := ss_chk hm
  refine Met.ofW (cc := bb_M_cellHere) (maxL := 4) (ret := (some .boolean)) (by decide) rfl ?_
  intro p e s m args below meth c s₁ B hml hv
  obtain ⟨rfl, hR, hK⟩ := hv
  have hC : CallFix p m c bb_M_cellHere 4 s _ lw_g sR_12 := ⟨B.exec, B.bytes, hml, findClass_of_methodNamed B.named, fun w hw => atoms_spec (ws := ss_w yy_M_cellHere bb_M_cellHere 4 (some .boolean)) B.pre w (List.mem_cons_of_mem _ hw)⟩
  have hx := hC.1
  have hb := hC.2.1
  have hr := B.returns
  have hlocks := B.notSynchronized
  have hS : va_S (ss_A G) s.heap s.heap [] := va_S.rf
  have hl := lv_entry ([ss_v (ss_b G) this, .int a1, .int a2, .int a3]) (n := 4) (by simp [lg_sl, ss_v_cat, ss_cat_i, ss_cat_l, ss_cat_r])
  rw [lg_entry_eq]
  generalize (lg_sl ([ss_v (ss_b G) this, .int a1, .int a2, .int a3]) ++ List.replicate (4 - (lg_sl ([ss_v (ss_b G) this, .int a1, .int a2, .int a3])).length) Slot.unset).toArray = ls at hl ⊢
  have hl : lv_has ls 4 [(0, ss_v (ss_b G) this), (1, .int a1), (2, .int a2), (3, .int a3)] := by simpa [lv_args, ss_v_cat, ss_cat_i, ss_cat_l, ss_cat_r] using hl
  refine ss_aload_n hx hb dd_M_cellHere_0 rfl (lv_at hl 0 rfl) ?_
  refine lv_iload_n hx hb dd_M_cellHere_1 rfl (lv_at hl 2 rfl) ?_
  refine lv_iload_n hx hb dd_M_cellHere_2 rfl (lv_at hl 3 rfl) ?_
  obtain ⟨v1, h2, qh2, hm⟩ := ss_bind2 hm
  refine ss_cV 0 0 (As := [.int a2, .int a3]) hC hK hR hS hl.1 (cc_M_numberHere l G N _ _ _ _ _ _ qh2) km_M_173 (ck_M_numberHere qh2) ⟨Nat.le_of_ble_eq_true rfl, Nat.le_of_ble_eq_true rfl⟩ ⟨Nat.le_of_ble_eq_true rfl, Nat.le_of_ble_eq_true rfl, Nat.le_of_ble_eq_true rfl, Nat.le_of_ble_eq_true rfl⟩ rfl rfl (Nat.le_of_ble_eq_true rfl) dd_M_cellHere_3 (fun H locs hR hS => ?_)
  refine lv_if_ne (tgt := 11) hx hb dd_M_cellHere_6 (by decide) (fun c3 => ?_) (fun c3 => ?_)
  · have hm := ss_iff hm c3
    refine ss_aload_n hx hb dd_M_cellHere_11 rfl (lv_at hl 0 rfl) ?_
    obtain ⟨r4, qr4, hm⟩ := ss_bind hm
    refine ss_getr hC hK hR kf_M_26 rfl qr4 dd_M_cellHere_12 ?_
    refine lv_iload_n hx hb dd_M_cellHere_15 rfl (lv_at hl 1 rfl) ?_
    refine ss_aload_n hx hb dd_M_cellHere_16 rfl (lv_at hl 0 rfl) ?_
    obtain ⟨v5, qv5, hm⟩ := ss_bind hm
    refine ss_geti hC hK hR kf_M_121 qv5 dd_M_cellHere_17 ?_
    obtain ⟨h6, qh6, hm⟩ := ss_bind hm
    refine ss_iast hC hK hR hS qh6 dd_M_cellHere_20 (fun H locs hR hS => ?_)
    refine lv_iconst (v := 1) hx hb dd_M_cellHere_21 (by decide) ?_
    exact ss_zret hC hr (by decide) hlocks hR hS hm dd_M_cellHere_22
  · have hm := ss_ift hm c3
    refine lv_iconst (v := 0) hx hb dd_M_cellHere_9 (by decide) ?_
    exact ss_zret hC hr (by decide) hlocks hR hS hm dd_M_cellHere_10
theorem dd_M_isValleyHere_0 : decode bb_M_isValleyHere 0 = .ok (.aload_n 0, 1) := by decide +kernel
theorem dd_M_isValleyHere_1 : decode bb_M_isValleyHere 1 = .ok (.getfield 26, 3) := by decide +kernel
theorem dd_M_isValleyHere_4 : decode bb_M_isValleyHere 4 = .ok (.iconst 0, 1) := by decide +kernel
theorem dd_M_isValleyHere_5 : decode bb_M_isValleyHere 5 = .ok (.iaload, 1) := by decide +kernel
theorem dd_M_isValleyHere_6 : decode bb_M_isValleyHere 6 = .ok (.ifCond .le 10, 3) := by decide +kernel
theorem dd_M_isValleyHere_9 : decode bb_M_isValleyHere 9 = .ok (.aload_n 0, 1) := by decide +kernel
theorem dd_M_isValleyHere_10 : decode bb_M_isValleyHere 10 = .ok (.iconst 4, 1) := by decide +kernel
theorem dd_M_isValleyHere_11 : decode bb_M_isValleyHere 11 = .ok (.iload_n 1, 1) := by decide +kernel
theorem dd_M_isValleyHere_12 : decode bb_M_isValleyHere 12 = .ok (.invokevirtual 117, 3) := by decide +kernel
theorem dd_M_isValleyHere_15 : decode bb_M_isValleyHere 15 = .ok (.ireturn, 1) := by decide +kernel
theorem dd_M_isValleyHere_16 : decode bb_M_isValleyHere 16 = .ok (.aload_n 0, 1) := by decide +kernel
theorem dd_M_isValleyHere_17 : decode bb_M_isValleyHere 17 = .ok (.invokevirtual 111, 3) := by decide +kernel
theorem dd_M_isValleyHere_20 : decode bb_M_isValleyHere 20 = .ok (.aload_n 0, 1) := by decide +kernel
theorem dd_M_isValleyHere_21 : decode bb_M_isValleyHere 21 = .ok (.iconst 4, 1) := by decide +kernel
theorem dd_M_isValleyHere_22 : decode bb_M_isValleyHere 22 = .ok (.iconst 1, 1) := by decide +kernel
theorem dd_M_isValleyHere_23 : decode bb_M_isValleyHere 23 = .ok (.bipush 9, 2) := by decide +kernel
theorem dd_M_isValleyHere_25 : decode bb_M_isValleyHere 25 = .ok (.invokevirtual 224, 3) := by decide +kernel
theorem dd_M_isValleyHere_28 : decode bb_M_isValleyHere 28 = .ok (.ifCond .eq 14, 3) := by decide +kernel
theorem dd_M_isValleyHere_31 : decode bb_M_isValleyHere 31 = .ok (.aload_n 0, 1) := by decide +kernel
theorem dd_M_isValleyHere_32 : decode bb_M_isValleyHere 32 = .ok (.iconst 1, 1) := by decide +kernel
theorem dd_M_isValleyHere_33 : decode bb_M_isValleyHere 33 = .ok (.iconst 1, 1) := by decide +kernel
theorem dd_M_isValleyHere_34 : decode bb_M_isValleyHere 34 = .ok (.bipush 30, 2) := by decide +kernel
theorem dd_M_isValleyHere_36 : decode bb_M_isValleyHere 36 = .ok (.invokevirtual 224, 3) := by decide +kernel
theorem dd_M_isValleyHere_39 : decode bb_M_isValleyHere 39 = .ok (.ifCond .ne 5, 3) := by decide +kernel
theorem dd_M_isValleyHere_42 : decode bb_M_isValleyHere 42 = .ok (.iconst 0, 1) := by decide +kernel
theorem dd_M_isValleyHere_43 : decode bb_M_isValleyHere 43 = .ok (.ireturn, 1) := by decide +kernel
theorem dd_M_isValleyHere_44 : decode bb_M_isValleyHere 44 = .ok (.aload_n 0, 1) := by decide +kernel
theorem dd_M_isValleyHere_45 : decode bb_M_isValleyHere 45 = .ok (.getfield 26, 3) := by decide +kernel
theorem dd_M_isValleyHere_48 : decode bb_M_isValleyHere 48 = .ok (.iconst 0, 1) := by decide +kernel
theorem dd_M_isValleyHere_49 : decode bb_M_isValleyHere 49 = .ok (.aload_n 0, 1) := by decide +kernel
theorem dd_M_isValleyHere_50 : decode bb_M_isValleyHere 50 = .ok (.getfield 26, 3) := by decide +kernel
theorem dd_M_isValleyHere_53 : decode bb_M_isValleyHere 53 = .ok (.iconst 4, 1) := by decide +kernel
theorem dd_M_isValleyHere_54 : decode bb_M_isValleyHere 54 = .ok (.iaload, 1) := by decide +kernel
theorem dd_M_isValleyHere_55 : decode bb_M_isValleyHere 55 = .ok (.iastore, 1) := by decide +kernel
theorem dd_M_isValleyHere_56 : decode bb_M_isValleyHere 56 = .ok (.iconst 0, 1) := by decide +kernel
theorem dd_M_isValleyHere_57 : decode bb_M_isValleyHere 57 = .ok (.istore_n 2, 1) := by decide +kernel
theorem dd_M_isValleyHere_58 : decode bb_M_isValleyHere 58 = .ok (.iload_n 2, 1) := by decide +kernel
theorem dd_M_isValleyHere_59 : decode bb_M_isValleyHere 59 = .ok (.bipush 8, 2) := by decide +kernel
theorem dd_M_isValleyHere_61 : decode bb_M_isValleyHere 61 = .ok (.if_icmp .ge 19, 3) := by decide +kernel
theorem dd_M_isValleyHere_64 : decode bb_M_isValleyHere 64 = .ok (.aload_n 0, 1) := by decide +kernel
theorem dd_M_isValleyHere_65 : decode bb_M_isValleyHere 65 = .ok (.getfield 26, 3) := by decide +kernel
theorem dd_M_isValleyHere_68 : decode bb_M_isValleyHere 68 = .ok (.bipush 54, 2) := by decide +kernel
theorem dd_M_isValleyHere_70 : decode bb_M_isValleyHere 70 = .ok (.iload_n 2, 1) := by decide +kernel
theorem dd_M_isValleyHere_71 : decode bb_M_isValleyHere 71 = .ok (.iadd, 1) := by decide +kernel
theorem dd_M_isValleyHere_72 : decode bb_M_isValleyHere 72 = .ok (.iconst (-1), 1) := by decide +kernel
theorem dd_M_isValleyHere_73 : decode bb_M_isValleyHere 73 = .ok (.iastore, 1) := by decide +kernel
theorem dd_M_isValleyHere_74 : decode bb_M_isValleyHere 74 = .ok (.iinc 2 1, 3) := by decide +kernel
theorem dd_M_isValleyHere_77 : decode bb_M_isValleyHere 77 = .ok (.goto (-19), 3) := by decide +kernel
theorem dd_M_isValleyHere_80 : decode bb_M_isValleyHere 80 = .ok (.iconst 1, 1) := by decide +kernel
theorem dd_M_isValleyHere_81 : decode bb_M_isValleyHere 81 = .ok (.ireturn, 1) := by decide +kernel
def mm_M_isValleyHere_j42 (N : Nat) (this : Option Nat) (a1 : Int32) (h_42 : ss_Hp) : Option (Int32 × ss_Hp) :=
  some ((0 : Int32), h_42)
def mm_M_isValleyHere_b58 (N : Nat) (this : Option Nat) (st : Int32 × ss_Hp) : Option ((Int32 × ss_Hp) ⊕ ss_Hp) :=
  match st with
  | (x2_58, h_58) =>
    if (8 : Int32) ≤ x2_58 then
      some (.inr h_58)
    else
      (ss_gr h_58 this 12 5).bind fun r16 =>
      (ss_ui h_58 r16 20 ((54 : Int32) + x2_58) (-1 : Int32)).bind fun h17 =>
      (some (x2_58 + (1 : Int32))).bind fun v18 =>
      some (.inl (v18, h17))
def mm_M_isValleyHere (N : Nat) (this : Option Nat) (a1 : Int32) (h : ss_Hp) : Option (Int32 × ss_Hp) :=
  if ss_is h this 12 = true then
    (ss_gr h this 12 5).bind fun r1 =>
    (ss_ai h r1 20 (0 : Int32)).bind fun v2 =>
    if v2 ≤ 0 then
      (mm_M_passWord N this h).bind fun h4 =>
      ss_b2 (mm_M_cellHere N this (4 : Int32) (1 : Int32) (9 : Int32) h4) fun v5 h6 =>
      if v5 = 0 then
        mm_M_isValleyHere_j42 N this a1 h6
      else
        ss_b2 (mm_M_cellHere N this (1 : Int32) (1 : Int32) (30 : Int32) h6) fun v8 h9 =>
        if v8 = 0 then
          mm_M_isValleyHere_j42 N this a1 h9
        else
          (ss_gr h9 this 12 5).bind fun r11 =>
          (ss_gr h9 this 12 5).bind fun r12 =>
          (ss_ai h9 r12 20 (4 : Int32)).bind fun v13 =>
          (ss_ui h9 r11 20 (0 : Int32) v13).bind fun h14 =>
          (ss_lp (mm_M_isValleyHere_b58 N this) N ((0 : Int32), h14)).bind fun h_58_80 =>
          some ((1 : Int32), h_58_80)
    else
      ss_b2 (mm_M_fails N this (4 : Int32) a1 h) fun v19 h20 =>
      (ss_bz v19).bind fun v21 =>
      some (v21, h20)
  else none
abbrev ww_M_isValleyHere (p : Program) (l : Launch) (e : Env) (s : State) (m : MethodId) (below : List Frame) (meth : Method) (c : Code) (G : ss_G) (this : Option Nat) (a1 : Int32) (h : ss_Hp) (rr : Int32) (hh : ss_Hp) (H : Heap) (locs : List Loc) (k n : Nat) (g : JFrame) : Prop := W p l e (headSpec (ss_w yy_M_isValleyHere bb_M_isValleyHere 3 (some .boolean)) ({ frames := 3, cells := 0, slots := 0, locals := 72 })).room s m ([ss_v (ss_b G) this, .int a1] : List Value).toArray below meth c H locs k n (MQ below (ss_Qc G (some (.int rr)) hh) ([ss_v (ss_b G) this, .int a1] : List Value).toArray s 0 0 (ss_A G)) g
theorem ck_M_isValleyHere {N : Nat} {this : Option Nat} {a1 : Int32} {h : ss_Hp} {res : Int32 × ss_Hp} (hm : mm_M_isValleyHere N this a1 h = some res) : ss_is h this 12 = true := (ss_chk hm).1
set_option maxHeartbeats 4000000 in
set_option maxRecDepth 100000 in
theorem cc_M_isValleyHere (l : Launch) (G : ss_G) (N : Nat) (this : Option Nat) (a1 : Int32) (h : ss_Hp) (rr : Int32) (hh : ss_Hp) (hm : mm_M_isValleyHere N this a1 h = some (rr, hh)) : ss_Ct l G yy_M_isValleyHere bb_M_isValleyHere 3 (some .boolean) ({ frames := 3, cells := 0, slots := 0, locals := 72 }) [ss_v (ss_b G) this, .int a1] h (some (.int rr)) hh := by
  obtain ⟨hck, hm⟩ := ss_chk hm
  refine Met.ofW (cc := bb_M_isValleyHere) (maxL := 3) (ret := (some .boolean)) (by decide) rfl ?_
  intro p e s m args below meth c s₁ B hml hv
  obtain ⟨rfl, hR, hK⟩ := hv
  have hC : CallFix p m c bb_M_isValleyHere 3 s _ lw_g sR_12 := ⟨B.exec, B.bytes, hml, findClass_of_methodNamed B.named, fun w hw => atoms_spec (ws := ss_w yy_M_isValleyHere bb_M_isValleyHere 3 (some .boolean)) B.pre w (List.mem_cons_of_mem _ hw)⟩
  have hx := hC.1
  have hb := hC.2.1
  have hr := B.returns
  have hlocks := B.notSynchronized
  have hS : va_S (ss_A G) s.heap s.heap [] := va_S.rf
  have hl := lv_entry ([ss_v (ss_b G) this, .int a1]) (n := 3) (by simp [lg_sl, ss_v_cat, ss_cat_i, ss_cat_l, ss_cat_r])
  rw [lg_entry_eq]
  generalize (lg_sl ([ss_v (ss_b G) this, .int a1]) ++ List.replicate (3 - (lg_sl ([ss_v (ss_b G) this, .int a1])).length) Slot.unset).toArray = ls at hl ⊢
  have hl : lv_has ls 3 [(0, ss_v (ss_b G) this), (1, .int a1)] := by simpa [lv_args, ss_v_cat, ss_cat_i, ss_cat_l, ss_cat_r] using hl
  have J_42 : ∀ (h_42 : ss_Hp) (H : Heap) (locs : List Loc) (ls : Array Slot), mm_M_isValleyHere_j42 N this a1 h_42 = some (rr, hh) → ss_R G h_42 H → va_S (ss_A G) s.heap H locs → lv_has ls 3 [] → ww_M_isValleyHere p l e s m below meth c G this a1 h rr hh  H locs 0 0 (F0 m 42 ls []) := by
    intro h_42 H locs ls hm hR hS hl
    refine lv_iconst (v := 0) hx hb dd_M_isValleyHere_42 (by decide) ?_
    exact ss_zret hC hr (by decide) hlocks hR hS hm dd_M_isValleyHere_43
  refine ss_aload_n hx hb dd_M_isValleyHere_0 rfl (lv_at hl 0 rfl) ?_
  obtain ⟨r1, qr1, hm⟩ := ss_bind hm
  refine ss_getr hC hK hR kf_M_26 rfl qr1 dd_M_isValleyHere_1 ?_
  refine lv_iconst (v := 0) hx hb dd_M_isValleyHere_4 (by decide) ?_
  obtain ⟨v2, qv2, hm⟩ := ss_bind hm
  refine ss_iald hC hK hR qv2 dd_M_isValleyHere_5 ?_
  refine lv_if_le (tgt := 16) hx hb dd_M_isValleyHere_6 (by decide) (fun c3 => ?_) (fun c3 => ?_)
  · have hm := ss_ift hm c3
    refine ss_aload_n hx hb dd_M_isValleyHere_16 rfl (lv_at hl 0 rfl) ?_
    obtain ⟨h4, qh4, hm⟩ := ss_bind hm
    refine ss_cVv 0 0 (As := []) hC hK hR hS hl.1 (cc_M_passWord l G N _ _ _ qh4) km_M_111 (ck_M_passWord qh4) ⟨Nat.le_of_ble_eq_true rfl, Nat.le_of_ble_eq_true rfl⟩ ⟨Nat.le_of_ble_eq_true rfl, Nat.le_of_ble_eq_true rfl, Nat.le_of_ble_eq_true rfl, Nat.le_of_ble_eq_true rfl⟩ rfl rfl (Nat.le_of_ble_eq_true rfl) dd_M_isValleyHere_17 (fun H locs hR hS => ?_)
    refine ss_aload_n hx hb dd_M_isValleyHere_20 rfl (lv_at hl 0 rfl) ?_
    refine lv_iconst (v := 4) hx hb dd_M_isValleyHere_21 (by decide) ?_
    refine lv_iconst (v := 1) hx hb dd_M_isValleyHere_22 (by decide) ?_
    refine lv_bipush (v := 9) hx hb dd_M_isValleyHere_23 (by decide) ?_
    obtain ⟨v5, h6, qh6, hm⟩ := ss_bind2 hm
    refine ss_cV 0 0 (As := [.int (4 : Int32), .int (1 : Int32), .int (9 : Int32)]) hC hK hR hS hl.1 (cc_M_cellHere l G N _ _ _ _ _ _ _ qh6) km_M_224 (ck_M_cellHere qh6) ⟨Nat.le_of_ble_eq_true rfl, Nat.le_of_ble_eq_true rfl⟩ ⟨Nat.le_of_ble_eq_true rfl, Nat.le_of_ble_eq_true rfl, Nat.le_of_ble_eq_true rfl, Nat.le_of_ble_eq_true rfl⟩ rfl rfl (Nat.le_of_ble_eq_true rfl) dd_M_isValleyHere_25 (fun H locs hR hS => ?_)
    refine lv_if_eq (tgt := 42) hx hb dd_M_isValleyHere_28 (by decide) (fun c7 => ?_) (fun c7 => ?_)
    · have hm := ss_ift hm c7
      exact J_42 h6 _ _ _ hm hR hS (lv_sub hl [] rfl)
    · have hm := ss_iff hm c7
      refine ss_aload_n hx hb dd_M_isValleyHere_31 rfl (lv_at hl 0 rfl) ?_
      refine lv_iconst (v := 1) hx hb dd_M_isValleyHere_32 (by decide) ?_
      refine lv_iconst (v := 1) hx hb dd_M_isValleyHere_33 (by decide) ?_
      refine lv_bipush (v := 30) hx hb dd_M_isValleyHere_34 (by decide) ?_
      obtain ⟨v8, h9, qh9, hm⟩ := ss_bind2 hm
      refine ss_cV 0 0 (As := [.int (1 : Int32), .int (1 : Int32), .int (30 : Int32)]) hC hK hR hS hl.1 (cc_M_cellHere l G N _ _ _ _ _ _ _ qh9) km_M_224 (ck_M_cellHere qh9) ⟨Nat.le_of_ble_eq_true rfl, Nat.le_of_ble_eq_true rfl⟩ ⟨Nat.le_of_ble_eq_true rfl, Nat.le_of_ble_eq_true rfl, Nat.le_of_ble_eq_true rfl, Nat.le_of_ble_eq_true rfl⟩ rfl rfl (Nat.le_of_ble_eq_true rfl) dd_M_isValleyHere_36 (fun H locs hR hS => ?_)
      refine lv_if_ne (tgt := 44) hx hb dd_M_isValleyHere_39 (by decide) (fun c10 => ?_) (fun c10 => ?_)
      · have hm := ss_iff hm c10
        refine ss_aload_n hx hb dd_M_isValleyHere_44 rfl (lv_at hl 0 rfl) ?_
        obtain ⟨r11, qr11, hm⟩ := ss_bind hm
        refine ss_getr hC hK hR kf_M_26 rfl qr11 dd_M_isValleyHere_45 ?_
        refine lv_iconst (v := 0) hx hb dd_M_isValleyHere_48 (by decide) ?_
        refine ss_aload_n hx hb dd_M_isValleyHere_49 rfl (lv_at hl 0 rfl) ?_
        obtain ⟨r12, qr12, hm⟩ := ss_bind hm
        refine ss_getr hC hK hR kf_M_26 rfl qr12 dd_M_isValleyHere_50 ?_
        refine lv_iconst (v := 4) hx hb dd_M_isValleyHere_53 (by decide) ?_
        obtain ⟨v13, qv13, hm⟩ := ss_bind hm
        refine ss_iald hC hK hR qv13 dd_M_isValleyHere_54 ?_
        obtain ⟨h14, qh14, hm⟩ := ss_bind hm
        refine ss_iast hC hK hR hS qh14 dd_M_isValleyHere_55 (fun H locs hR hS => ?_)
        refine lv_iconst (v := 0) hx hb dd_M_isValleyHere_56 (by decide) ?_
        refine lv_istore_n (lv' := [(2, .int (0 : Int32)), (0, ss_v (ss_b G) this), (1, .int a1)]) hx hb dd_M_isValleyHere_57 rfl hl (by decide) rfl (fun ls hl => ?_)
        obtain ⟨e_58, he_58, hm⟩ := ss_bind hm
        have X_58_80 : ∀  (h_58_80 : ss_Hp) (H : Heap) (locs : List Loc) (ls : Array Slot), e_58 = h_58_80 → ss_R G h_58_80 H → va_S (ss_A G) s.heap H locs → lv_has ls 3 [] → ww_M_isValleyHere p l e s m below meth c G this a1 h rr hh  H locs 0 0 (F0 m 80 ls []) := by
          intro h_58_80 H locs ls hq hR hS hl
          rw [hq] at hm
          refine lv_iconst (v := 1) hx hb dd_M_isValleyHere_80 (by decide) ?_
          exact ss_zret hC hr (by decide) hlocks hR hS hm dd_M_isValleyHere_81
        have L_58 : ∀ (n : Nat) (x2_58 : Int32) (h_58 : ss_Hp) (H : Heap) (locs : List Loc) (ls : Array Slot), ss_lp (mm_M_isValleyHere_b58 N this) n (x2_58, h_58) = some e_58 → ss_R G h_58 H → va_S (ss_A G) s.heap H locs → lv_has ls 3 [(0, ss_v (ss_b G) this), (2, .int x2_58)] → ww_M_isValleyHere p l e s m below meth c G this a1 h rr hh  H locs 0 0 (F0 m 58 ls []) := by
          intro n
          induction n with
          | zero => intro x2_58 h_58 H locs ls hm; cases hm
          | succ n ih_58 =>
            intro x2_58 h_58 H locs ls hm hR hS hl
            obtain ⟨z_58, hm, hz1_58, hz2_58⟩ := ss_lps hm
            refine lv_iload_n hx hb dd_M_isValleyHere_58 rfl (lv_at hl 1 rfl) ?_
            refine lv_bipush (v := 8) hx hb dd_M_isValleyHere_59 (by decide) ?_
            refine lv_icmp_ge (tgt := 80) hx hb dd_M_isValleyHere_61 (by decide) (fun c15 => ?_) (fun c15 => ?_)
            · have hm := ss_ift hm c15
              exact X_58_80 h_58 _ _ _ (hz2_58 _ (ss_some hm)) hR hS (lv_sub hl [] rfl)
            · have hm := ss_iff hm c15
              refine ss_aload_n hx hb dd_M_isValleyHere_64 rfl (lv_at hl 0 rfl) ?_
              obtain ⟨r16, qr16, hm⟩ := ss_bind hm
              refine ss_getr hC hK hR kf_M_26 rfl qr16 dd_M_isValleyHere_65 ?_
              refine lv_bipush (v := 54) hx hb dd_M_isValleyHere_68 (by decide) ?_
              refine lv_iload_n hx hb dd_M_isValleyHere_70 rfl (lv_at hl 1 rfl) ?_
              refine lv_iadd hx hb dd_M_isValleyHere_71 ?_
              refine lv_iconst (v := -1) hx hb dd_M_isValleyHere_72 (by decide) ?_
              obtain ⟨h17, qh17, hm⟩ := ss_bind hm
              refine ss_iast hC hK hR hS qh17 dd_M_isValleyHere_73 (fun H locs hR hS => ?_)
              obtain ⟨v18, qv18, hm⟩ := ss_bind hm
              refine lv_iinc (v := v18) (lv' := [(2, .int v18), (0, ss_v (ss_b G) this)]) hx hb dd_M_isValleyHere_74 hl (k := 1) rfl (ss_inc (by decide) qv18) (by decide) rfl (fun ls hl => ?_)
              refine lv_goto (tgt := 58) hx hb dd_M_isValleyHere_77 (by decide) ?_
              exact ih_58 v18 h17 _ _ _ (hz1_58 _ (ss_some hm)) hR hS (lv_sub hl [1, 0] rfl)
        exact L_58 N (0 : Int32) h14 _ _ _ he_58 hR hS (lv_sub hl [1, 0] rfl)
      · have hm := ss_ift hm c10
        exact J_42 h9 _ _ _ hm hR hS (lv_sub hl [] rfl)
  · have hm := ss_iff hm c3
    refine ss_aload_n hx hb dd_M_isValleyHere_9 rfl (lv_at hl 0 rfl) ?_
    refine lv_iconst (v := 4) hx hb dd_M_isValleyHere_10 (by decide) ?_
    refine lv_iload_n hx hb dd_M_isValleyHere_11 rfl (lv_at hl 1 rfl) ?_
    obtain ⟨v19, h20, qh20, hm⟩ := ss_bind2 hm
    refine ss_cV 0 0 (As := [.int (4 : Int32), .int a1]) hC hK hR hS hl.1 (cc_M_fails l G N _ _ _ _ _ _ qh20) km_M_117 (ck_M_fails qh20) ⟨Nat.le_of_ble_eq_true rfl, Nat.le_of_ble_eq_true rfl⟩ ⟨Nat.le_of_ble_eq_true rfl, Nat.le_of_ble_eq_true rfl, Nat.le_of_ble_eq_true rfl, Nat.le_of_ble_eq_true rfl⟩ rfl rfl (Nat.le_of_ble_eq_true rfl) dd_M_isValleyHere_12 (fun H locs hR hS => ?_)
    obtain ⟨v21, qv21, hm⟩ := ss_bind hm
    obtain ⟨hnb, rfl⟩ := ss_bzs qv21
    exact ss_zret hC hr hnb hlocks hR hS hm dd_M_isValleyHere_15
theorem dd_M_isStepHere_0 : decode bb_M_isStepHere 0 = .ok (.aload_n 0, 1) := by decide +kernel
theorem dd_M_isStepHere_1 : decode bb_M_isStepHere 1 = .ok (.getfield 26, 3) := by decide +kernel
theorem dd_M_isStepHere_4 : decode bb_M_isStepHere 4 = .ok (.iconst 2, 1) := by decide +kernel
theorem dd_M_isStepHere_5 : decode bb_M_isStepHere 5 = .ok (.iaload, 1) := by decide +kernel
theorem dd_M_isStepHere_6 : decode bb_M_isStepHere 6 = .ok (.bipush 8, 2) := by decide +kernel
theorem dd_M_isStepHere_8 : decode bb_M_isStepHere 8 = .ok (.if_icmp .ne 10, 3) := by decide +kernel
theorem dd_M_isStepHere_11 : decode bb_M_isStepHere 11 = .ok (.aload_n 0, 1) := by decide +kernel
theorem dd_M_isStepHere_12 : decode bb_M_isStepHere 12 = .ok (.iconst 4, 1) := by decide +kernel
theorem dd_M_isStepHere_13 : decode bb_M_isStepHere 13 = .ok (.iload_n 1, 1) := by decide +kernel
theorem dd_M_isStepHere_14 : decode bb_M_isStepHere 14 = .ok (.invokevirtual 117, 3) := by decide +kernel
theorem dd_M_isStepHere_17 : decode bb_M_isStepHere 17 = .ok (.ireturn, 1) := by decide +kernel
theorem dd_M_isStepHere_18 : decode bb_M_isStepHere 18 = .ok (.aload_n 0, 1) := by decide +kernel
theorem dd_M_isStepHere_19 : decode bb_M_isStepHere 19 = .ok (.invokevirtual 111, 3) := by decide +kernel
theorem dd_M_isStepHere_22 : decode bb_M_isStepHere 22 = .ok (.aload_n 0, 1) := by decide +kernel
theorem dd_M_isStepHere_23 : decode bb_M_isStepHere 23 = .ok (.bipush 46, 2) := by decide +kernel
theorem dd_M_isStepHere_25 : decode bb_M_isStepHere 25 = .ok (.aload_n 0, 1) := by decide +kernel
theorem dd_M_isStepHere_26 : decode bb_M_isStepHere 26 = .ok (.getfield 26, 3) := by decide +kernel
theorem dd_M_isStepHere_29 : decode bb_M_isStepHere 29 = .ok (.iconst 2, 1) := by decide +kernel
theorem dd_M_isStepHere_30 : decode bb_M_isStepHere 30 = .ok (.iaload, 1) := by decide +kernel
theorem dd_M_isStepHere_31 : decode bb_M_isStepHere 31 = .ok (.iadd, 1) := by decide +kernel
theorem dd_M_isStepHere_32 : decode bb_M_isStepHere 32 = .ok (.iconst 0, 1) := by decide +kernel
theorem dd_M_isStepHere_33 : decode bb_M_isStepHere 33 = .ok (.bipush 99, 2) := by decide +kernel
theorem dd_M_isStepHere_35 : decode bb_M_isStepHere 35 = .ok (.invokevirtual 224, 3) := by decide +kernel
theorem dd_M_isStepHere_38 : decode bb_M_isStepHere 38 = .ok (.ifCond .ne 5, 3) := by decide +kernel
theorem dd_M_isStepHere_41 : decode bb_M_isStepHere 41 = .ok (.iconst 0, 1) := by decide +kernel
theorem dd_M_isStepHere_42 : decode bb_M_isStepHere 42 = .ok (.ireturn, 1) := by decide +kernel
theorem dd_M_isStepHere_43 : decode bb_M_isStepHere 43 = .ok (.aload_n 0, 1) := by decide +kernel
theorem dd_M_isStepHere_44 : decode bb_M_isStepHere 44 = .ok (.getfield 26, 3) := by decide +kernel
theorem dd_M_isStepHere_47 : decode bb_M_isStepHere 47 = .ok (.iconst 2, 1) := by decide +kernel
theorem dd_M_isStepHere_48 : decode bb_M_isStepHere 48 = .ok (.dup2, 1) := by decide +kernel
theorem dd_M_isStepHere_49 : decode bb_M_isStepHere 49 = .ok (.iaload, 1) := by decide +kernel
theorem dd_M_isStepHere_50 : decode bb_M_isStepHere 50 = .ok (.iconst 1, 1) := by decide +kernel
theorem dd_M_isStepHere_51 : decode bb_M_isStepHere 51 = .ok (.iadd, 1) := by decide +kernel
theorem dd_M_isStepHere_52 : decode bb_M_isStepHere 52 = .ok (.iastore, 1) := by decide +kernel
theorem dd_M_isStepHere_53 : decode bb_M_isStepHere 53 = .ok (.iconst 1, 1) := by decide +kernel
theorem dd_M_isStepHere_54 : decode bb_M_isStepHere 54 = .ok (.ireturn, 1) := by decide +kernel
def mm_M_isStepHere (N : Nat) (this : Option Nat) (a1 : Int32) (h : ss_Hp) : Option (Int32 × ss_Hp) :=
  if ss_is h this 12 = true then
    (ss_gr h this 12 5).bind fun r1 =>
    (ss_ai h r1 20 (2 : Int32)).bind fun v2 =>
    if v2 = (8 : Int32) then
      ss_b2 (mm_M_fails N this (4 : Int32) a1 h) fun v13 h14 =>
      (ss_bz v13).bind fun v15 =>
      some (v15, h14)
    else
      (mm_M_passWord N this h).bind fun h4 =>
      (ss_gr h4 this 12 5).bind fun r5 =>
      (ss_ai h4 r5 20 (2 : Int32)).bind fun v6 =>
      ss_b2 (mm_M_cellHere N this ((46 : Int32) + v6) (0 : Int32) (99 : Int32) h4) fun v7 h8 =>
      if v7 = 0 then
        some ((0 : Int32), h8)
      else
        (ss_gr h8 this 12 5).bind fun r10 =>
        (ss_ai h8 r10 20 (2 : Int32)).bind fun v11 =>
        (ss_ui h8 r10 20 (2 : Int32) (v11 + (1 : Int32))).bind fun h12 =>
        some ((1 : Int32), h12)
  else none
abbrev ww_M_isStepHere (p : Program) (l : Launch) (e : Env) (s : State) (m : MethodId) (below : List Frame) (meth : Method) (c : Code) (G : ss_G) (this : Option Nat) (a1 : Int32) (h : ss_Hp) (rr : Int32) (hh : ss_Hp) (H : Heap) (locs : List Loc) (k n : Nat) (g : JFrame) : Prop := W p l e (headSpec (ss_w yy_M_isStepHere bb_M_isStepHere 2 (some .boolean)) ({ frames := 3, cells := 0, slots := 0, locals := 72 })).room s m ([ss_v (ss_b G) this, .int a1] : List Value).toArray below meth c H locs k n (MQ below (ss_Qc G (some (.int rr)) hh) ([ss_v (ss_b G) this, .int a1] : List Value).toArray s 0 0 (ss_A G)) g
theorem ck_M_isStepHere {N : Nat} {this : Option Nat} {a1 : Int32} {h : ss_Hp} {res : Int32 × ss_Hp} (hm : mm_M_isStepHere N this a1 h = some res) : ss_is h this 12 = true := (ss_chk hm).1
set_option maxHeartbeats 4000000 in
set_option maxRecDepth 100000 in
theorem cc_M_isStepHere (l : Launch) (G : ss_G) (N : Nat) (this : Option Nat) (a1 : Int32) (h : ss_Hp) (rr : Int32) (hh : ss_Hp) (hm : mm_M_isStepHere N this a1 h = some (rr, hh)) : ss_Ct l G yy_M_isStepHere bb_M_isStepHere 2 (some .boolean) ({ frames := 3, cells := 0, slots := 0, locals := 72 }) [ss_v (ss_b G) this, .int a1] h (some (.int rr)) hh := by
  obtain ⟨hck, hm⟩ := ss_chk hm
  refine Met.ofW (cc := bb_M_isStepHere) (maxL := 2) (ret := (some .boolean)) (by decide) rfl ?_
  intro p e s m args below meth c s₁ B hml hv
  obtain ⟨rfl, hR, hK⟩ := hv
  have hC : CallFix p m c bb_M_isStepHere 2 s _ lw_g sR_12 := ⟨B.exec, B.bytes, hml, findClass_of_methodNamed B.named, fun w hw => atoms_spec (ws := ss_w yy_M_isStepHere bb_M_isStepHere 2 (some .boolean)) B.pre w (List.mem_cons_of_mem _ hw)⟩
  have hx := hC.1
  have hb := hC.2.1
  have hr := B.returns
  have hlocks := B.notSynchronized
  have hS : va_S (ss_A G) s.heap s.heap [] := va_S.rf
  have hl := lv_entry ([ss_v (ss_b G) this, .int a1]) (n := 2) (by simp [lg_sl, ss_v_cat, ss_cat_i, ss_cat_l, ss_cat_r])
  rw [lg_entry_eq]
  generalize (lg_sl ([ss_v (ss_b G) this, .int a1]) ++ List.replicate (2 - (lg_sl ([ss_v (ss_b G) this, .int a1])).length) Slot.unset).toArray = ls at hl ⊢
  have hl : lv_has ls 2 [(0, ss_v (ss_b G) this), (1, .int a1)] := by simpa [lv_args, ss_v_cat, ss_cat_i, ss_cat_l, ss_cat_r] using hl
  refine ss_aload_n hx hb dd_M_isStepHere_0 rfl (lv_at hl 0 rfl) ?_
  obtain ⟨r1, qr1, hm⟩ := ss_bind hm
  refine ss_getr hC hK hR kf_M_26 rfl qr1 dd_M_isStepHere_1 ?_
  refine lv_iconst (v := 2) hx hb dd_M_isStepHere_4 (by decide) ?_
  obtain ⟨v2, qv2, hm⟩ := ss_bind hm
  refine ss_iald hC hK hR qv2 dd_M_isStepHere_5 ?_
  refine lv_bipush (v := 8) hx hb dd_M_isStepHere_6 (by decide) ?_
  refine lv_icmp_ne (tgt := 18) hx hb dd_M_isStepHere_8 (by decide) (fun c3 => ?_) (fun c3 => ?_)
  · have hm := ss_iff hm c3
    refine ss_aload_n hx hb dd_M_isStepHere_18 rfl (lv_at hl 0 rfl) ?_
    obtain ⟨h4, qh4, hm⟩ := ss_bind hm
    refine ss_cVv 0 0 (As := []) hC hK hR hS hl.1 (cc_M_passWord l G N _ _ _ qh4) km_M_111 (ck_M_passWord qh4) ⟨Nat.le_of_ble_eq_true rfl, Nat.le_of_ble_eq_true rfl⟩ ⟨Nat.le_of_ble_eq_true rfl, Nat.le_of_ble_eq_true rfl, Nat.le_of_ble_eq_true rfl, Nat.le_of_ble_eq_true rfl⟩ rfl rfl (Nat.le_of_ble_eq_true rfl) dd_M_isStepHere_19 (fun H locs hR hS => ?_)
    refine ss_aload_n hx hb dd_M_isStepHere_22 rfl (lv_at hl 0 rfl) ?_
    refine lv_bipush (v := 46) hx hb dd_M_isStepHere_23 (by decide) ?_
    refine ss_aload_n hx hb dd_M_isStepHere_25 rfl (lv_at hl 0 rfl) ?_
    obtain ⟨r5, qr5, hm⟩ := ss_bind hm
    refine ss_getr hC hK hR kf_M_26 rfl qr5 dd_M_isStepHere_26 ?_
    refine lv_iconst (v := 2) hx hb dd_M_isStepHere_29 (by decide) ?_
    obtain ⟨v6, qv6, hm⟩ := ss_bind hm
    refine ss_iald hC hK hR qv6 dd_M_isStepHere_30 ?_
    refine lv_iadd hx hb dd_M_isStepHere_31 ?_
    refine lv_iconst (v := 0) hx hb dd_M_isStepHere_32 (by decide) ?_
    refine lv_bipush (v := 99) hx hb dd_M_isStepHere_33 (by decide) ?_
    obtain ⟨v7, h8, qh8, hm⟩ := ss_bind2 hm
    refine ss_cV 0 0 (As := [.int ((46 : Int32) + v6), .int (0 : Int32), .int (99 : Int32)]) hC hK hR hS hl.1 (cc_M_cellHere l G N _ _ _ _ _ _ _ qh8) km_M_224 (ck_M_cellHere qh8) ⟨Nat.le_of_ble_eq_true rfl, Nat.le_of_ble_eq_true rfl⟩ ⟨Nat.le_of_ble_eq_true rfl, Nat.le_of_ble_eq_true rfl, Nat.le_of_ble_eq_true rfl, Nat.le_of_ble_eq_true rfl⟩ rfl rfl (Nat.le_of_ble_eq_true rfl) dd_M_isStepHere_35 (fun H locs hR hS => ?_)
    refine lv_if_ne (tgt := 43) hx hb dd_M_isStepHere_38 (by decide) (fun c9 => ?_) (fun c9 => ?_)
    · have hm := ss_iff hm c9
      refine ss_aload_n hx hb dd_M_isStepHere_43 rfl (lv_at hl 0 rfl) ?_
      obtain ⟨r10, qr10, hm⟩ := ss_bind hm
      refine ss_getr hC hK hR kf_M_26 rfl qr10 dd_M_isStepHere_44 ?_
      refine lv_iconst (v := 2) hx hb dd_M_isStepHere_47 (by decide) ?_
      refine ss_dup2ir hx hb dd_M_isStepHere_48 ?_
      obtain ⟨v11, qv11, hm⟩ := ss_bind hm
      refine ss_iald hC hK hR qv11 dd_M_isStepHere_49 ?_
      refine lv_iconst (v := 1) hx hb dd_M_isStepHere_50 (by decide) ?_
      refine lv_iadd hx hb dd_M_isStepHere_51 ?_
      obtain ⟨h12, qh12, hm⟩ := ss_bind hm
      refine ss_iast hC hK hR hS qh12 dd_M_isStepHere_52 (fun H locs hR hS => ?_)
      refine lv_iconst (v := 1) hx hb dd_M_isStepHere_53 (by decide) ?_
      exact ss_zret hC hr (by decide) hlocks hR hS hm dd_M_isStepHere_54
    · have hm := ss_ift hm c9
      refine lv_iconst (v := 0) hx hb dd_M_isStepHere_41 (by decide) ?_
      exact ss_zret hC hr (by decide) hlocks hR hS hm dd_M_isStepHere_42
  · have hm := ss_ift hm c3
    refine ss_aload_n hx hb dd_M_isStepHere_11 rfl (lv_at hl 0 rfl) ?_
    refine lv_iconst (v := 4) hx hb dd_M_isStepHere_12 (by decide) ?_
    refine lv_iload_n hx hb dd_M_isStepHere_13 rfl (lv_at hl 1 rfl) ?_
    obtain ⟨v13, h14, qh14, hm⟩ := ss_bind2 hm
    refine ss_cV 0 0 (As := [.int (4 : Int32), .int a1]) hC hK hR hS hl.1 (cc_M_fails l G N _ _ _ _ _ _ qh14) km_M_117 (ck_M_fails qh14) ⟨Nat.le_of_ble_eq_true rfl, Nat.le_of_ble_eq_true rfl⟩ ⟨Nat.le_of_ble_eq_true rfl, Nat.le_of_ble_eq_true rfl, Nat.le_of_ble_eq_true rfl, Nat.le_of_ble_eq_true rfl⟩ rfl rfl (Nat.le_of_ble_eq_true rfl) dd_M_isStepHere_14 (fun H locs hR hS => ?_)
    obtain ⟨v15, qv15, hm⟩ := ss_bind hm
    obtain ⟨hnb, rfl⟩ := ss_bzs qv15
    exact ss_zret hC hr hnb hlocks hR hS hm dd_M_isStepHere_17
theorem dd_M_isHouseHere_0 : decode bb_M_isHouseHere 0 = .ok (.aload_n 0, 1) := by decide +kernel
theorem dd_M_isHouseHere_1 : decode bb_M_isHouseHere 1 = .ok (.getfield 26, 3) := by decide +kernel
theorem dd_M_isHouseHere_4 : decode bb_M_isHouseHere 4 = .ok (.iconst 3, 1) := by decide +kernel
theorem dd_M_isHouseHere_5 : decode bb_M_isHouseHere 5 = .ok (.iaload, 1) := by decide +kernel
theorem dd_M_isHouseHere_6 : decode bb_M_isHouseHere 6 = .ok (.iconst 4, 1) := by decide +kernel
theorem dd_M_isHouseHere_7 : decode bb_M_isHouseHere 7 = .ok (.if_icmp .ne 10, 3) := by decide +kernel
theorem dd_M_isHouseHere_10 : decode bb_M_isHouseHere 10 = .ok (.aload_n 0, 1) := by decide +kernel
theorem dd_M_isHouseHere_11 : decode bb_M_isHouseHere 11 = .ok (.iconst 4, 1) := by decide +kernel
theorem dd_M_isHouseHere_12 : decode bb_M_isHouseHere 12 = .ok (.iload_n 1, 1) := by decide +kernel
theorem dd_M_isHouseHere_13 : decode bb_M_isHouseHere 13 = .ok (.invokevirtual 117, 3) := by decide +kernel
theorem dd_M_isHouseHere_16 : decode bb_M_isHouseHere 16 = .ok (.ireturn, 1) := by decide +kernel
theorem dd_M_isHouseHere_17 : decode bb_M_isHouseHere 17 = .ok (.aload_n 0, 1) := by decide +kernel
theorem dd_M_isHouseHere_18 : decode bb_M_isHouseHere 18 = .ok (.invokevirtual 111, 3) := by decide +kernel
theorem dd_M_isHouseHere_21 : decode bb_M_isHouseHere 21 = .ok (.bipush 38, 2) := by decide +kernel
theorem dd_M_isHouseHere_23 : decode bb_M_isHouseHere 23 = .ok (.iconst 2, 1) := by decide +kernel
theorem dd_M_isHouseHere_24 : decode bb_M_isHouseHere 24 = .ok (.aload_n 0, 1) := by decide +kernel
theorem dd_M_isHouseHere_25 : decode bb_M_isHouseHere 25 = .ok (.getfield 26, 3) := by decide +kernel
theorem dd_M_isHouseHere_28 : decode bb_M_isHouseHere 28 = .ok (.iconst 3, 1) := by decide +kernel
theorem dd_M_isHouseHere_29 : decode bb_M_isHouseHere 29 = .ok (.iaload, 1) := by decide +kernel
theorem dd_M_isHouseHere_30 : decode bb_M_isHouseHere 30 = .ok (.imul, 1) := by decide +kernel
theorem dd_M_isHouseHere_31 : decode bb_M_isHouseHere 31 = .ok (.iadd, 1) := by decide +kernel
theorem dd_M_isHouseHere_32 : decode bb_M_isHouseHere 32 = .ok (.istore_n 2, 1) := by decide +kernel
theorem dd_M_isHouseHere_33 : decode bb_M_isHouseHere 33 = .ok (.aload_n 0, 1) := by decide +kernel
theorem dd_M_isHouseHere_34 : decode bb_M_isHouseHere 34 = .ok (.iload_n 2, 1) := by decide +kernel
theorem dd_M_isHouseHere_35 : decode bb_M_isHouseHere 35 = .ok (.iconst 0, 1) := by decide +kernel
theorem dd_M_isHouseHere_36 : decode bb_M_isHouseHere 36 = .ok (.aload_n 0, 1) := by decide +kernel
theorem dd_M_isHouseHere_37 : decode bb_M_isHouseHere 37 = .ok (.getfield 26, 3) := by decide +kernel
theorem dd_M_isHouseHere_40 : decode bb_M_isHouseHere 40 = .ok (.iconst 2, 1) := by decide +kernel
theorem dd_M_isHouseHere_41 : decode bb_M_isHouseHere 41 = .ok (.iaload, 1) := by decide +kernel
theorem dd_M_isHouseHere_42 : decode bb_M_isHouseHere 42 = .ok (.iconst 1, 1) := by decide +kernel
theorem dd_M_isHouseHere_43 : decode bb_M_isHouseHere 43 = .ok (.isub, 1) := by decide +kernel
theorem dd_M_isHouseHere_44 : decode bb_M_isHouseHere 44 = .ok (.invokevirtual 224, 3) := by decide +kernel
theorem dd_M_isHouseHere_47 : decode bb_M_isHouseHere 47 = .ok (.ifCond .eq 16, 3) := by decide +kernel
theorem dd_M_isHouseHere_50 : decode bb_M_isHouseHere 50 = .ok (.aload_n 0, 1) := by decide +kernel
theorem dd_M_isHouseHere_51 : decode bb_M_isHouseHere 51 = .ok (.iload_n 2, 1) := by decide +kernel
theorem dd_M_isHouseHere_52 : decode bb_M_isHouseHere 52 = .ok (.iconst 1, 1) := by decide +kernel
theorem dd_M_isHouseHere_53 : decode bb_M_isHouseHere 53 = .ok (.iadd, 1) := by decide +kernel
theorem dd_M_isHouseHere_54 : decode bb_M_isHouseHere 54 = .ok (.iconst 1, 1) := by decide +kernel
theorem dd_M_isHouseHere_55 : decode bb_M_isHouseHere 55 = .ok (.bipush 99, 2) := by decide +kernel
theorem dd_M_isHouseHere_57 : decode bb_M_isHouseHere 57 = .ok (.invokevirtual 224, 3) := by decide +kernel
theorem dd_M_isHouseHere_60 : decode bb_M_isHouseHere 60 = .ok (.ifCond .ne 5, 3) := by decide +kernel
theorem dd_M_isHouseHere_63 : decode bb_M_isHouseHere 63 = .ok (.iconst 0, 1) := by decide +kernel
theorem dd_M_isHouseHere_64 : decode bb_M_isHouseHere 64 = .ok (.ireturn, 1) := by decide +kernel
theorem dd_M_isHouseHere_65 : decode bb_M_isHouseHere 65 = .ok (.aload_n 0, 1) := by decide +kernel
theorem dd_M_isHouseHere_66 : decode bb_M_isHouseHere 66 = .ok (.getfield 26, 3) := by decide +kernel
theorem dd_M_isHouseHere_69 : decode bb_M_isHouseHere 69 = .ok (.iconst 3, 1) := by decide +kernel
theorem dd_M_isHouseHere_70 : decode bb_M_isHouseHere 70 = .ok (.dup2, 1) := by decide +kernel
theorem dd_M_isHouseHere_71 : decode bb_M_isHouseHere 71 = .ok (.iaload, 1) := by decide +kernel
theorem dd_M_isHouseHere_72 : decode bb_M_isHouseHere 72 = .ok (.iconst 1, 1) := by decide +kernel
theorem dd_M_isHouseHere_73 : decode bb_M_isHouseHere 73 = .ok (.iadd, 1) := by decide +kernel
theorem dd_M_isHouseHere_74 : decode bb_M_isHouseHere 74 = .ok (.iastore, 1) := by decide +kernel
theorem dd_M_isHouseHere_75 : decode bb_M_isHouseHere 75 = .ok (.iconst 1, 1) := by decide +kernel
theorem dd_M_isHouseHere_76 : decode bb_M_isHouseHere 76 = .ok (.ireturn, 1) := by decide +kernel
def mm_M_isHouseHere_j63 (N : Nat) (this : Option Nat) (a1 : Int32) (h_63 : ss_Hp) : Option (Int32 × ss_Hp) :=
  some ((0 : Int32), h_63)
def mm_M_isHouseHere (N : Nat) (this : Option Nat) (a1 : Int32) (h : ss_Hp) : Option (Int32 × ss_Hp) :=
  if ss_is h this 12 = true then
    (ss_gr h this 12 5).bind fun r1 =>
    (ss_ai h r1 20 (3 : Int32)).bind fun v2 =>
    if v2 = (4 : Int32) then
      ss_b2 (mm_M_fails N this (4 : Int32) a1 h) fun v19 h20 =>
      (ss_bz v19).bind fun v21 =>
      some (v21, h20)
    else
      (mm_M_passWord N this h).bind fun h4 =>
      (ss_gr h4 this 12 5).bind fun r5 =>
      (ss_ai h4 r5 20 (3 : Int32)).bind fun v6 =>
      (some ((38 : Int32) + ((2 : Int32) * v6))).bind fun v7 =>
      (ss_gr h4 this 12 5).bind fun r8 =>
      (ss_ai h4 r8 20 (2 : Int32)).bind fun v9 =>
      ss_b2 (mm_M_cellHere N this v7 (0 : Int32) (v9 - (1 : Int32)) h4) fun v10 h11 =>
      if v10 = 0 then
        mm_M_isHouseHere_j63 N this a1 h11
      else
        ss_b2 (mm_M_cellHere N this (v7 + (1 : Int32)) (1 : Int32) (99 : Int32) h11) fun v13 h14 =>
        if v13 = 0 then
          mm_M_isHouseHere_j63 N this a1 h14
        else
          (ss_gr h14 this 12 5).bind fun r16 =>
          (ss_ai h14 r16 20 (3 : Int32)).bind fun v17 =>
          (ss_ui h14 r16 20 (3 : Int32) (v17 + (1 : Int32))).bind fun h18 =>
          some ((1 : Int32), h18)
  else none
abbrev ww_M_isHouseHere (p : Program) (l : Launch) (e : Env) (s : State) (m : MethodId) (below : List Frame) (meth : Method) (c : Code) (G : ss_G) (this : Option Nat) (a1 : Int32) (h : ss_Hp) (rr : Int32) (hh : ss_Hp) (H : Heap) (locs : List Loc) (k n : Nat) (g : JFrame) : Prop := W p l e (headSpec (ss_w yy_M_isHouseHere bb_M_isHouseHere 3 (some .boolean)) ({ frames := 3, cells := 0, slots := 0, locals := 72 })).room s m ([ss_v (ss_b G) this, .int a1] : List Value).toArray below meth c H locs k n (MQ below (ss_Qc G (some (.int rr)) hh) ([ss_v (ss_b G) this, .int a1] : List Value).toArray s 0 0 (ss_A G)) g
theorem ck_M_isHouseHere {N : Nat} {this : Option Nat} {a1 : Int32} {h : ss_Hp} {res : Int32 × ss_Hp} (hm : mm_M_isHouseHere N this a1 h = some res) : ss_is h this 12 = true := (ss_chk hm).1
set_option maxHeartbeats 4000000 in
set_option maxRecDepth 100000 in
theorem cc_M_isHouseHere (l : Launch) (G : ss_G) (N : Nat) (this : Option Nat) (a1 : Int32) (h : ss_Hp) (rr : Int32) (hh : ss_Hp) (hm : mm_M_isHouseHere N this a1 h = some (rr, hh)) : ss_Ct l G yy_M_isHouseHere bb_M_isHouseHere 3 (some .boolean) ({ frames := 3, cells := 0, slots := 0, locals := 72 }) [ss_v (ss_b G) this, .int a1] h (some (.int rr)) hh := by
  obtain ⟨hck, hm⟩ := ss_chk hm
  refine Met.ofW (cc := bb_M_isHouseHere) (maxL := 3) (ret := (some .boolean)) (by decide) rfl ?_
  intro p e s m args below meth c s₁ B hml hv
  obtain ⟨rfl, hR, hK⟩ := hv
  have hC : CallFix p m c bb_M_isHouseHere 3 s _ lw_g sR_12 := ⟨B.exec, B.bytes, hml, findClass_of_methodNamed B.named, fun w hw => atoms_spec (ws := ss_w yy_M_isHouseHere bb_M_isHouseHere 3 (some .boolean)) B.pre w (List.mem_cons_of_mem _ hw)⟩
  have hx := hC.1
  have hb := hC.2.1
  have hr := B.returns
  have hlocks := B.notSynchronized
  have hS : va_S (ss_A G) s.heap s.heap [] := va_S.rf
  have hl := lv_entry ([ss_v (ss_b G) this, .int a1]) (n := 3) (by simp [lg_sl, ss_v_cat, ss_cat_i, ss_cat_l, ss_cat_r])
  rw [lg_entry_eq]
  generalize (lg_sl ([ss_v (ss_b G) this, .int a1]) ++ List.replicate (3 - (lg_sl ([ss_v (ss_b G) this, .int a1])).length) Slot.unset).toArray = ls at hl ⊢
  have hl : lv_has ls 3 [(0, ss_v (ss_b G) this), (1, .int a1)] := by simpa [lv_args, ss_v_cat, ss_cat_i, ss_cat_l, ss_cat_r] using hl
  have J_63 : ∀ (h_63 : ss_Hp) (H : Heap) (locs : List Loc) (ls : Array Slot), mm_M_isHouseHere_j63 N this a1 h_63 = some (rr, hh) → ss_R G h_63 H → va_S (ss_A G) s.heap H locs → lv_has ls 3 [] → ww_M_isHouseHere p l e s m below meth c G this a1 h rr hh  H locs 0 0 (F0 m 63 ls []) := by
    intro h_63 H locs ls hm hR hS hl
    refine lv_iconst (v := 0) hx hb dd_M_isHouseHere_63 (by decide) ?_
    exact ss_zret hC hr (by decide) hlocks hR hS hm dd_M_isHouseHere_64
  refine ss_aload_n hx hb dd_M_isHouseHere_0 rfl (lv_at hl 0 rfl) ?_
  obtain ⟨r1, qr1, hm⟩ := ss_bind hm
  refine ss_getr hC hK hR kf_M_26 rfl qr1 dd_M_isHouseHere_1 ?_
  refine lv_iconst (v := 3) hx hb dd_M_isHouseHere_4 (by decide) ?_
  obtain ⟨v2, qv2, hm⟩ := ss_bind hm
  refine ss_iald hC hK hR qv2 dd_M_isHouseHere_5 ?_
  refine lv_iconst (v := 4) hx hb dd_M_isHouseHere_6 (by decide) ?_
  refine lv_icmp_ne (tgt := 17) hx hb dd_M_isHouseHere_7 (by decide) (fun c3 => ?_) (fun c3 => ?_)
  · have hm := ss_iff hm c3
    refine ss_aload_n hx hb dd_M_isHouseHere_17 rfl (lv_at hl 0 rfl) ?_
    obtain ⟨h4, qh4, hm⟩ := ss_bind hm
    refine ss_cVv 0 0 (As := []) hC hK hR hS hl.1 (cc_M_passWord l G N _ _ _ qh4) km_M_111 (ck_M_passWord qh4) ⟨Nat.le_of_ble_eq_true rfl, Nat.le_of_ble_eq_true rfl⟩ ⟨Nat.le_of_ble_eq_true rfl, Nat.le_of_ble_eq_true rfl, Nat.le_of_ble_eq_true rfl, Nat.le_of_ble_eq_true rfl⟩ rfl rfl (Nat.le_of_ble_eq_true rfl) dd_M_isHouseHere_18 (fun H locs hR hS => ?_)
    refine lv_bipush (v := 38) hx hb dd_M_isHouseHere_21 (by decide) ?_
    refine lv_iconst (v := 2) hx hb dd_M_isHouseHere_23 (by decide) ?_
    refine ss_aload_n hx hb dd_M_isHouseHere_24 rfl (lv_at hl 0 rfl) ?_
    obtain ⟨r5, qr5, hm⟩ := ss_bind hm
    refine ss_getr hC hK hR kf_M_26 rfl qr5 dd_M_isHouseHere_25 ?_
    refine lv_iconst (v := 3) hx hb dd_M_isHouseHere_28 (by decide) ?_
    obtain ⟨v6, qv6, hm⟩ := ss_bind hm
    refine ss_iald hC hK hR qv6 dd_M_isHouseHere_29 ?_
    refine lv_imul hx hb dd_M_isHouseHere_30 ?_
    refine lv_iadd hx hb dd_M_isHouseHere_31 ?_
    obtain ⟨v7, qv7, hm⟩ := ss_bind hm
    refine ss_topi qv7 ?_
    refine lv_istore_n (lv' := [(2, .int v7), (0, ss_v (ss_b G) this), (1, .int a1)]) hx hb dd_M_isHouseHere_32 rfl hl (by decide) rfl (fun ls hl => ?_)
    refine ss_aload_n hx hb dd_M_isHouseHere_33 rfl (lv_at hl 1 rfl) ?_
    refine lv_iload_n hx hb dd_M_isHouseHere_34 rfl (lv_at hl 0 rfl) ?_
    refine lv_iconst (v := 0) hx hb dd_M_isHouseHere_35 (by decide) ?_
    refine ss_aload_n hx hb dd_M_isHouseHere_36 rfl (lv_at hl 1 rfl) ?_
    obtain ⟨r8, qr8, hm⟩ := ss_bind hm
    refine ss_getr hC hK hR kf_M_26 rfl qr8 dd_M_isHouseHere_37 ?_
    refine lv_iconst (v := 2) hx hb dd_M_isHouseHere_40 (by decide) ?_
    obtain ⟨v9, qv9, hm⟩ := ss_bind hm
    refine ss_iald hC hK hR qv9 dd_M_isHouseHere_41 ?_
    refine lv_iconst (v := 1) hx hb dd_M_isHouseHere_42 (by decide) ?_
    refine lv_isub hx hb dd_M_isHouseHere_43 ?_
    obtain ⟨v10, h11, qh11, hm⟩ := ss_bind2 hm
    refine ss_cV 0 0 (As := [.int v7, .int (0 : Int32), .int (v9 - (1 : Int32))]) hC hK hR hS hl.1 (cc_M_cellHere l G N _ _ _ _ _ _ _ qh11) km_M_224 (ck_M_cellHere qh11) ⟨Nat.le_of_ble_eq_true rfl, Nat.le_of_ble_eq_true rfl⟩ ⟨Nat.le_of_ble_eq_true rfl, Nat.le_of_ble_eq_true rfl, Nat.le_of_ble_eq_true rfl, Nat.le_of_ble_eq_true rfl⟩ rfl rfl (Nat.le_of_ble_eq_true rfl) dd_M_isHouseHere_44 (fun H locs hR hS => ?_)
    refine lv_if_eq (tgt := 63) hx hb dd_M_isHouseHere_47 (by decide) (fun c12 => ?_) (fun c12 => ?_)
    · have hm := ss_ift hm c12
      exact J_63 h11 _ _ _ hm hR hS (lv_sub hl [] rfl)
    · have hm := ss_iff hm c12
      refine ss_aload_n hx hb dd_M_isHouseHere_50 rfl (lv_at hl 1 rfl) ?_
      refine lv_iload_n hx hb dd_M_isHouseHere_51 rfl (lv_at hl 0 rfl) ?_
      refine lv_iconst (v := 1) hx hb dd_M_isHouseHere_52 (by decide) ?_
      refine lv_iadd hx hb dd_M_isHouseHere_53 ?_
      refine lv_iconst (v := 1) hx hb dd_M_isHouseHere_54 (by decide) ?_
      refine lv_bipush (v := 99) hx hb dd_M_isHouseHere_55 (by decide) ?_
      obtain ⟨v13, h14, qh14, hm⟩ := ss_bind2 hm
      refine ss_cV 0 0 (As := [.int (v7 + (1 : Int32)), .int (1 : Int32), .int (99 : Int32)]) hC hK hR hS hl.1 (cc_M_cellHere l G N _ _ _ _ _ _ _ qh14) km_M_224 (ck_M_cellHere qh14) ⟨Nat.le_of_ble_eq_true rfl, Nat.le_of_ble_eq_true rfl⟩ ⟨Nat.le_of_ble_eq_true rfl, Nat.le_of_ble_eq_true rfl, Nat.le_of_ble_eq_true rfl, Nat.le_of_ble_eq_true rfl⟩ rfl rfl (Nat.le_of_ble_eq_true rfl) dd_M_isHouseHere_57 (fun H locs hR hS => ?_)
      refine lv_if_ne (tgt := 65) hx hb dd_M_isHouseHere_60 (by decide) (fun c15 => ?_) (fun c15 => ?_)
      · have hm := ss_iff hm c15
        refine ss_aload_n hx hb dd_M_isHouseHere_65 rfl (lv_at hl 1 rfl) ?_
        obtain ⟨r16, qr16, hm⟩ := ss_bind hm
        refine ss_getr hC hK hR kf_M_26 rfl qr16 dd_M_isHouseHere_66 ?_
        refine lv_iconst (v := 3) hx hb dd_M_isHouseHere_69 (by decide) ?_
        refine ss_dup2ir hx hb dd_M_isHouseHere_70 ?_
        obtain ⟨v17, qv17, hm⟩ := ss_bind hm
        refine ss_iald hC hK hR qv17 dd_M_isHouseHere_71 ?_
        refine lv_iconst (v := 1) hx hb dd_M_isHouseHere_72 (by decide) ?_
        refine lv_iadd hx hb dd_M_isHouseHere_73 ?_
        obtain ⟨h18, qh18, hm⟩ := ss_bind hm
        refine ss_iast hC hK hR hS qh18 dd_M_isHouseHere_74 (fun H locs hR hS => ?_)
        refine lv_iconst (v := 1) hx hb dd_M_isHouseHere_75 (by decide) ?_
        exact ss_zret hC hr (by decide) hlocks hR hS hm dd_M_isHouseHere_76
      · have hm := ss_ift hm c15
        exact J_63 h14 _ _ _ hm hR hS (lv_sub hl [] rfl)
  · have hm := ss_ift hm c3
    refine ss_aload_n hx hb dd_M_isHouseHere_10 rfl (lv_at hl 0 rfl) ?_
    refine lv_iconst (v := 4) hx hb dd_M_isHouseHere_11 (by decide) ?_
    refine lv_iload_n hx hb dd_M_isHouseHere_12 rfl (lv_at hl 1 rfl) ?_
    obtain ⟨v19, h20, qh20, hm⟩ := ss_bind2 hm
    refine ss_cV 0 0 (As := [.int (4 : Int32), .int a1]) hC hK hR hS hl.1 (cc_M_fails l G N _ _ _ _ _ _ qh20) km_M_117 (ck_M_fails qh20) ⟨Nat.le_of_ble_eq_true rfl, Nat.le_of_ble_eq_true rfl⟩ ⟨Nat.le_of_ble_eq_true rfl, Nat.le_of_ble_eq_true rfl, Nat.le_of_ble_eq_true rfl, Nat.le_of_ble_eq_true rfl⟩ rfl rfl (Nat.le_of_ble_eq_true rfl) dd_M_isHouseHere_13 (fun H locs hR hS => ?_)
    obtain ⟨v21, qv21, hm⟩ := ss_bind hm
    obtain ⟨hnb, rfl⟩ := ss_bzs qv21
    exact ss_zret hC hr hnb hlocks hR hS hm dd_M_isHouseHere_16
