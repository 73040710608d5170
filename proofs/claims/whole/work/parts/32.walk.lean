theorem dd_M_alikeAt_0 : decode bb_M_alikeAt 0 = .ok (.iconst 0, 1) := by decide +kernel
theorem dd_M_alikeAt_1 : decode bb_M_alikeAt 1 = .ok (.istore_n 2, 1) := by decide +kernel
theorem dd_M_alikeAt_2 : decode bb_M_alikeAt 2 = .ok (.iconst 0, 1) := by decide +kernel
theorem dd_M_alikeAt_3 : decode bb_M_alikeAt 3 = .ok (.istore_n 3, 1) := by decide +kernel
theorem dd_M_alikeAt_4 : decode bb_M_alikeAt 4 = .ok (.iload_n 3, 1) := by decide +kernel
theorem dd_M_alikeAt_5 : decode bb_M_alikeAt 5 = .ok (.aload_n 0, 1) := by decide +kernel
theorem dd_M_alikeAt_6 : decode bb_M_alikeAt 6 = .ok (.getfield 280, 3) := by decide +kernel
theorem dd_M_alikeAt_9 : decode bb_M_alikeAt 9 = .ok (.if_icmp .gt 98, 3) := by decide +kernel
theorem dd_M_alikeAt_12 : decode bb_M_alikeAt 12 = .ok (.iconst 0, 1) := by decide +kernel
theorem dd_M_alikeAt_13 : decode bb_M_alikeAt 13 = .ok (.istore 4, 2) := by decide +kernel
theorem dd_M_alikeAt_15 : decode bb_M_alikeAt 15 = .ok (.iconst 0, 1) := by decide +kernel
theorem dd_M_alikeAt_16 : decode bb_M_alikeAt 16 = .ok (.istore 5, 2) := by decide +kernel
theorem dd_M_alikeAt_18 : decode bb_M_alikeAt 18 = .ok (.iload 5, 2) := by decide +kernel
theorem dd_M_alikeAt_20 : decode bb_M_alikeAt 20 = .ok (.aload_n 0, 1) := by decide +kernel
theorem dd_M_alikeAt_21 : decode bb_M_alikeAt 21 = .ok (.getfield 280, 3) := by decide +kernel
theorem dd_M_alikeAt_24 : decode bb_M_alikeAt 24 = .ok (.if_icmp .gt 64, 3) := by decide +kernel
theorem dd_M_alikeAt_27 : decode bb_M_alikeAt 27 = .ok (.aload_n 0, 1) := by decide +kernel
theorem dd_M_alikeAt_28 : decode bb_M_alikeAt 28 = .ok (.getfield 67, 3) := by decide +kernel
theorem dd_M_alikeAt_31 : decode bb_M_alikeAt 31 = .ok (.iload_n 3, 1) := by decide +kernel
theorem dd_M_alikeAt_32 : decode bb_M_alikeAt 32 = .ok (.baload, 1) := by decide +kernel
theorem dd_M_alikeAt_33 : decode bb_M_alikeAt 33 = .ok (.ifCond .eq 55, 3) := by decide +kernel
theorem dd_M_alikeAt_36 : decode bb_M_alikeAt 36 = .ok (.iload 4, 2) := by decide +kernel
theorem dd_M_alikeAt_38 : decode bb_M_alikeAt 38 = .ok (.aload_n 0, 1) := by decide +kernel
theorem dd_M_alikeAt_39 : decode bb_M_alikeAt 39 = .ok (.getfield 67, 3) := by decide +kernel
theorem dd_M_alikeAt_42 : decode bb_M_alikeAt 42 = .ok (.iload 5, 2) := by decide +kernel
theorem dd_M_alikeAt_44 : decode bb_M_alikeAt 44 = .ok (.baload, 1) := by decide +kernel
theorem dd_M_alikeAt_45 : decode bb_M_alikeAt 45 = .ok (.ifCond .eq 33, 3) := by decide +kernel
theorem dd_M_alikeAt_48 : decode bb_M_alikeAt 48 = .ok (.aload_n 0, 1) := by decide +kernel
theorem dd_M_alikeAt_49 : decode bb_M_alikeAt 49 = .ok (.getfield 71, 3) := by decide +kernel
theorem dd_M_alikeAt_52 : decode bb_M_alikeAt 52 = .ok (.bipush 8, 2) := by decide +kernel
theorem dd_M_alikeAt_54 : decode bb_M_alikeAt 54 = .ok (.iload_n 3, 1) := by decide +kernel
theorem dd_M_alikeAt_55 : decode bb_M_alikeAt 55 = .ok (.imul, 1) := by decide +kernel
theorem dd_M_alikeAt_56 : decode bb_M_alikeAt 56 = .ok (.iload_n 1, 1) := by decide +kernel
theorem dd_M_alikeAt_57 : decode bb_M_alikeAt 57 = .ok (.iadd, 1) := by decide +kernel
theorem dd_M_alikeAt_58 : decode bb_M_alikeAt 58 = .ok (.iaload, 1) := by decide +kernel
theorem dd_M_alikeAt_59 : decode bb_M_alikeAt 59 = .ok (.aload_n 0, 1) := by decide +kernel
theorem dd_M_alikeAt_60 : decode bb_M_alikeAt 60 = .ok (.getfield 71, 3) := by decide +kernel
theorem dd_M_alikeAt_63 : decode bb_M_alikeAt 63 = .ok (.bipush 8, 2) := by decide +kernel
theorem dd_M_alikeAt_65 : decode bb_M_alikeAt 65 = .ok (.iload 5, 2) := by decide +kernel
theorem dd_M_alikeAt_67 : decode bb_M_alikeAt 67 = .ok (.imul, 1) := by decide +kernel
theorem dd_M_alikeAt_68 : decode bb_M_alikeAt 68 = .ok (.iload_n 1, 1) := by decide +kernel
theorem dd_M_alikeAt_69 : decode bb_M_alikeAt 69 = .ok (.iadd, 1) := by decide +kernel
theorem dd_M_alikeAt_70 : decode bb_M_alikeAt 70 = .ok (.iaload, 1) := by decide +kernel
theorem dd_M_alikeAt_71 : decode bb_M_alikeAt 71 = .ok (.if_icmp .ne 7, 3) := by decide +kernel
theorem dd_M_alikeAt_74 : decode bb_M_alikeAt 74 = .ok (.iconst 1, 1) := by decide +kernel
theorem dd_M_alikeAt_75 : decode bb_M_alikeAt 75 = .ok (.goto 4, 3) := by decide +kernel
theorem dd_M_alikeAt_78 : decode bb_M_alikeAt 78 = .ok (.iconst 0, 1) := by decide +kernel
theorem dd_M_alikeAt_79 : decode bb_M_alikeAt 79 = .ok (.iadd, 1) := by decide +kernel
theorem dd_M_alikeAt_80 : decode bb_M_alikeAt 80 = .ok (.istore 4, 2) := by decide +kernel
theorem dd_M_alikeAt_82 : decode bb_M_alikeAt 82 = .ok (.iinc 5 1, 3) := by decide +kernel
theorem dd_M_alikeAt_85 : decode bb_M_alikeAt 85 = .ok (.goto (-67), 3) := by decide +kernel
theorem dd_M_alikeAt_88 : decode bb_M_alikeAt 88 = .ok (.iload 4, 2) := by decide +kernel
theorem dd_M_alikeAt_90 : decode bb_M_alikeAt 90 = .ok (.iload_n 2, 1) := by decide +kernel
theorem dd_M_alikeAt_91 : decode bb_M_alikeAt 91 = .ok (.if_icmp .le 8, 3) := by decide +kernel
theorem dd_M_alikeAt_94 : decode bb_M_alikeAt 94 = .ok (.iload 4, 2) := by decide +kernel
theorem dd_M_alikeAt_96 : decode bb_M_alikeAt 96 = .ok (.goto 4, 3) := by decide +kernel
theorem dd_M_alikeAt_99 : decode bb_M_alikeAt 99 = .ok (.iload_n 2, 1) := by decide +kernel
theorem dd_M_alikeAt_100 : decode bb_M_alikeAt 100 = .ok (.istore_n 2, 1) := by decide +kernel
theorem dd_M_alikeAt_101 : decode bb_M_alikeAt 101 = .ok (.iinc 3 1, 3) := by decide +kernel
theorem dd_M_alikeAt_104 : decode bb_M_alikeAt 104 = .ok (.goto (-100), 3) := by decide +kernel
theorem dd_M_alikeAt_107 : decode bb_M_alikeAt 107 = .ok (.iload_n 2, 1) := by decide +kernel
theorem dd_M_alikeAt_108 : decode bb_M_alikeAt 108 = .ok (.ireturn, 1) := by decide +kernel
def mm_M_alikeAt_j100 (N : Nat) (this : Option Nat) (a1 : Int32) (h : ss_Hp) (x3_100 : Int32) (s0_100 : Int32) : Option ((Int32 × Int32) ⊕ Int32) :=
  (some (x3_100 + (1 : Int32))).bind fun v1 =>
  some (.inl (s0_100, v1))
def mm_M_alikeAt_j79 (N : Nat) (this : Option Nat) (a1 : Int32) (x2_4 : Int32) (x3_4 : Int32) (h : ss_Hp) (x5_79 : Int32) (s0_79 : Int32) (s1_79 : Int32) : Option ((Int32 × Int32) ⊕ Int32) :=
  (some (s0_79 + s1_79)).bind fun v5 =>
  (some (x5_79 + (1 : Int32))).bind fun v6 =>
  some (.inl (v5, v6))
def mm_M_alikeAt_j78 (N : Nat) (this : Option Nat) (a1 : Int32) (x2_4 : Int32) (x3_4 : Int32) (h : ss_Hp) (x5_78 : Int32) (s0_78 : Int32) : Option ((Int32 × Int32) ⊕ Int32) :=
  mm_M_alikeAt_j79 N this a1 x2_4 x3_4 h x5_78 s0_78 (0 : Int32)
def mm_M_alikeAt_b18 (N : Nat) (this : Option Nat) (a1 : Int32) (x2_4 : Int32) (x3_4 : Int32) (h : ss_Hp) (st : Int32 × Int32) : Option ((Int32 × Int32) ⊕ Int32) :=
  match st with
  | (x4_18, x5_18) =>
    (ss_gi h this 12 1).bind fun v7 =>
    if v7 < x5_18 then
      some (.inr x4_18)
    else
      (ss_gr h this 12 17).bind fun r9 =>
      (ss_ai h r9 22 x3_4).bind fun v10 =>
      if v10 = 0 then
        some (.inr x4_18)
      else
        (ss_gr h this 12 17).bind fun r12 =>
        (ss_ai h r12 22 x5_18).bind fun v13 =>
        if v13 = 0 then
          mm_M_alikeAt_j78 N this a1 x2_4 x3_4 h x5_18 x4_18
        else
          (ss_gr h this 12 18).bind fun r15 =>
          (ss_ai h r15 20 (((8 : Int32) * x3_4) + a1)).bind fun v16 =>
          (ss_gr h this 12 18).bind fun r17 =>
          (ss_ai h r17 20 (((8 : Int32) * x5_18) + a1)).bind fun v18 =>
          if v16 = v18 then
            mm_M_alikeAt_j79 N this a1 x2_4 x3_4 h x5_18 x4_18 (1 : Int32)
          else
            mm_M_alikeAt_j78 N this a1 x2_4 x3_4 h x5_18 x4_18
def mm_M_alikeAt_b4 (N : Nat) (this : Option Nat) (a1 : Int32) (h : ss_Hp) (st : Int32 × Int32) : Option ((Int32 × Int32) ⊕ Int32) :=
  match st with
  | (x2_4, x3_4) =>
    (ss_gi h this 12 1).bind fun v2 =>
    if v2 < x3_4 then
      some (.inr x2_4)
    else
      (ss_lp (mm_M_alikeAt_b18 N this a1 x2_4 x3_4 h) N ((0 : Int32), (0 : Int32))).bind fun y4_18_88 =>
      if y4_18_88 ≤ x2_4 then
        mm_M_alikeAt_j100 N this a1 h x3_4 x2_4
      else
        mm_M_alikeAt_j100 N this a1 h x3_4 y4_18_88
def mm_M_alikeAt (N : Nat) (this : Option Nat) (a1 : Int32) (h : ss_Hp) : Option Int32 :=
  if ss_is h this 12 = true then
    (ss_lp (mm_M_alikeAt_b4 N this a1 h) N ((0 : Int32), (0 : Int32))).bind fun y2_4_107 =>
    some y2_4_107
  else none
abbrev ww_M_alikeAt (p : Program) (l : Launch) (e : Env) (s : State) (m : MethodId) (below : List Frame) (meth : Method) (c : Code) (G : ss_G) (this : Option Nat) (a1 : Int32) (h : ss_Hp) (rr : Int32) (H : Heap) (locs : List Loc) (k n : Nat) (g : JFrame) : Prop := W p l e (headSpec (ss_w yy_M_alikeAt bb_M_alikeAt 6 (some (.int))) ({ frames := 0, cells := 0, slots := 0, locals := 0 })).room s m ([ss_v (ss_b G) this, .int a1] : List Value).toArray below meth c H locs k n (MQ below (ss_Qc G (some (.int rr)) h) ([ss_v (ss_b G) this, .int a1] : List Value).toArray s 0 0 (ss_A G)) g
theorem ck_M_alikeAt {N : Nat} {this : Option Nat} {a1 : Int32} {h : ss_Hp} {res : Int32} (hm : mm_M_alikeAt N this a1 h = some res) : ss_is h this 12 = true := (ss_chk hm).1
set_option maxHeartbeats 4000000 in
set_option maxRecDepth 100000 in
theorem cc_M_alikeAt (l : Launch) (G : ss_G) (N : Nat) (this : Option Nat) (a1 : Int32) (h : ss_Hp) (rr : Int32) (hm : mm_M_alikeAt N this a1 h = some rr) : ss_Ct l G yy_M_alikeAt bb_M_alikeAt 6 (some (.int)) ({ frames := 0, cells := 0, slots := 0, locals := 0 }) [ss_v (ss_b G) this, .int a1] h (some (.int rr)) h := by
  obtain ⟨hck, hm⟩ := ss_chk hm
  refine Met.ofW (cc := bb_M_alikeAt) (maxL := 6) (ret := (some (.int))) (by decide) rfl ?_
  intro p e s m args below meth c s₁ B hml hv
  obtain ⟨rfl, hR, hK⟩ := hv
  have hC : CallFix p m c bb_M_alikeAt 6 s _ lw_g sR_12 := ⟨B.exec, B.bytes, hml, findClass_of_methodNamed B.named, fun w hw => atoms_spec (ws := ss_w yy_M_alikeAt bb_M_alikeAt 6 (some (.int))) B.pre w (List.mem_cons_of_mem _ hw)⟩
  have hx := hC.1
  have hb := hC.2.1
  have hr := B.returns
  have hlocks := B.notSynchronized
  have hS : va_S (ss_A G) s.heap s.heap [] := va_S.rf
  have hl := lv_entry ([ss_v (ss_b G) this, .int a1]) (n := 6) (by simp [lg_sl, ss_v_cat, ss_cat_i, ss_cat_l, ss_cat_r])
  rw [lg_entry_eq]
  generalize (lg_sl ([ss_v (ss_b G) this, .int a1]) ++ List.replicate (6 - (lg_sl ([ss_v (ss_b G) this, .int a1])).length) Slot.unset).toArray = ls at hl ⊢
  have hl : lv_has ls 6 [(0, ss_v (ss_b G) this), (1, .int a1)] := by simpa [lv_args, ss_v_cat, ss_cat_i, ss_cat_l, ss_cat_r] using hl
  refine lv_iconst (v := 0) hx hb dd_M_alikeAt_0 (by decide) ?_
  refine lv_istore_n (lv' := [(2, .int (0 : Int32)), (0, ss_v (ss_b G) this), (1, .int a1)]) hx hb dd_M_alikeAt_1 rfl hl (by decide) rfl (fun ls hl => ?_)
  refine lv_iconst (v := 0) hx hb dd_M_alikeAt_2 (by decide) ?_
  refine lv_istore_n (lv' := [(3, .int (0 : Int32)), (2, .int (0 : Int32)), (0, ss_v (ss_b G) this), (1, .int a1)]) hx hb dd_M_alikeAt_3 rfl hl (by decide) rfl (fun ls hl => ?_)
  obtain ⟨e_4, he_4, hm⟩ := ss_bind hm
  have X_4_107 : ∀ (y2_4_107 : Int32) (H : Heap) (locs : List Loc) (ls : Array Slot), e_4 = y2_4_107 → ss_R G h H → va_S (ss_A G) s.heap H locs → lv_has ls 6 [(2, .int y2_4_107)] → ww_M_alikeAt p l e s m below meth c G this a1 h rr  H locs 0 0 (F0 m 107 ls []) := by
    intro y2_4_107 H locs ls hq hR hS hl
    rw [hq] at hm
    refine lv_iload_n hx hb dd_M_alikeAt_107 rfl (lv_at hl 0 rfl) ?_
    exact ss_iret hC hr hlocks hR hS (ss_with _ hm) dd_M_alikeAt_108
  have L_4 : ∀ (n : Nat) (x2_4 : Int32) (x3_4 : Int32) (H : Heap) (locs : List Loc) (ls : Array Slot), ss_lp (mm_M_alikeAt_b4 N this a1 h) n (x2_4, x3_4) = some e_4 → ss_R G h H → va_S (ss_A G) s.heap H locs → lv_has ls 6 [(0, ss_v (ss_b G) this), (1, .int a1), (2, .int x2_4), (3, .int x3_4)] → ww_M_alikeAt p l e s m below meth c G this a1 h rr  H locs 0 0 (F0 m 4 ls []) := by
    intro n
    induction n with
    | zero => intro x2_4 x3_4 H locs ls hm; cases hm
    | succ n ih_4 =>
      intro x2_4 x3_4 H locs ls hm hR hS hl
      obtain ⟨z_4, hm, hz1_4, hz2_4⟩ := ss_lps hm
      have J_100 : ∀ (x3_100 : Int32) (s0_100 : Int32) (H : Heap) (locs : List Loc) (ls : Array Slot), mm_M_alikeAt_j100 N this a1 h x3_100 s0_100 = some z_4 → ss_R G h H → va_S (ss_A G) s.heap H locs → lv_has ls 6 [(0, ss_v (ss_b G) this), (1, .int a1), (3, .int x3_100)] → ww_M_alikeAt p l e s m below meth c G this a1 h rr  H locs 0 0 (F0 m 100 ls [.int s0_100]) := by
        intro x3_100 s0_100 H locs ls hm hR hS hl
        refine lv_istore_n (lv' := [(2, .int s0_100), (0, ss_v (ss_b G) this), (1, .int a1), (3, .int x3_100)]) hx hb dd_M_alikeAt_100 rfl hl (by decide) rfl (fun ls hl => ?_)
        obtain ⟨v1, qv1, hm⟩ := ss_bind hm
        refine lv_iinc (v := v1) (lv' := [(3, .int v1), (2, .int s0_100), (0, ss_v (ss_b G) this), (1, .int a1)]) hx hb dd_M_alikeAt_101 hl (k := 3) rfl (ss_inc (by decide) qv1) (by decide) rfl (fun ls hl => ?_)
        refine lv_goto (tgt := 4) hx hb dd_M_alikeAt_104 (by decide) ?_
        exact ih_4 s0_100 v1  _ _ _ (hz1_4 _ (ss_some hm)) hR hS (lv_sub hl [2, 3, 1, 0] rfl)
      refine lv_iload_n hx hb dd_M_alikeAt_4 rfl (lv_at hl 3 rfl) ?_
      refine ss_aload_n hx hb dd_M_alikeAt_5 rfl (lv_at hl 0 rfl) ?_
      obtain ⟨v2, qv2, hm⟩ := ss_bind hm
      refine ss_geti hC hK hR kf_M_280 qv2 dd_M_alikeAt_6 ?_
      refine lv_icmp_gt (tgt := 107) hx hb dd_M_alikeAt_9 (by decide) (fun c3 => ?_) (fun c3 => ?_)
      · have hm := ss_ift hm c3
        exact X_4_107 x2_4  _ _ _ (hz2_4 _ (ss_some hm)) hR hS (lv_sub hl [2] rfl)
      · have hm := ss_iff hm c3
        refine lv_iconst (v := 0) hx hb dd_M_alikeAt_12 (by decide) ?_
        refine lv_istore (lv' := [(4, .int (0 : Int32)), (0, ss_v (ss_b G) this), (1, .int a1), (2, .int x2_4), (3, .int x3_4)]) hx hb dd_M_alikeAt_13 hl (by decide) rfl (fun ls hl => ?_)
        refine lv_iconst (v := 0) hx hb dd_M_alikeAt_15 (by decide) ?_
        refine lv_istore (lv' := [(5, .int (0 : Int32)), (4, .int (0 : Int32)), (0, ss_v (ss_b G) this), (1, .int a1), (2, .int x2_4), (3, .int x3_4)]) hx hb dd_M_alikeAt_16 hl (by decide) rfl (fun ls hl => ?_)
        obtain ⟨e_18, he_18, hm⟩ := ss_bind hm
        have X_18_88 : ∀ (y4_18_88 : Int32) (H : Heap) (locs : List Loc) (ls : Array Slot), e_18 = y4_18_88 → ss_R G h H → va_S (ss_A G) s.heap H locs → lv_has ls 6 [(0, ss_v (ss_b G) this), (1, .int a1), (2, .int x2_4), (3, .int x3_4), (4, .int y4_18_88)] → ww_M_alikeAt p l e s m below meth c G this a1 h rr  H locs 0 0 (F0 m 88 ls []) := by
          intro y4_18_88 H locs ls hq hR hS hl
          rw [hq] at hm
          refine lv_iload hx hb dd_M_alikeAt_88 (lv_at hl 4 rfl) ?_
          refine lv_iload_n hx hb dd_M_alikeAt_90 rfl (lv_at hl 2 rfl) ?_
          refine lv_icmp_le (tgt := 99) hx hb dd_M_alikeAt_91 (by decide) (fun c4 => ?_) (fun c4 => ?_)
          · have hm := ss_ift hm c4
            refine lv_iload_n hx hb dd_M_alikeAt_99 rfl (lv_at hl 2 rfl) ?_
            exact J_100 x3_4 x2_4  _ _ _ hm hR hS (lv_sub hl [0, 1, 3] rfl)
          · have hm := ss_iff hm c4
            refine lv_iload hx hb dd_M_alikeAt_94 (lv_at hl 4 rfl) ?_
            refine lv_goto (tgt := 100) hx hb dd_M_alikeAt_96 (by decide) ?_
            exact J_100 x3_4 y4_18_88  _ _ _ hm hR hS (lv_sub hl [0, 1, 3] rfl)
        have L_18 : ∀ (n : Nat) (x4_18 : Int32) (x5_18 : Int32) (H : Heap) (locs : List Loc) (ls : Array Slot), ss_lp (mm_M_alikeAt_b18 N this a1 x2_4 x3_4 h) n (x4_18, x5_18) = some e_18 → ss_R G h H → va_S (ss_A G) s.heap H locs → lv_has ls 6 [(0, ss_v (ss_b G) this), (1, .int a1), (2, .int x2_4), (3, .int x3_4), (4, .int x4_18), (5, .int x5_18)] → ww_M_alikeAt p l e s m below meth c G this a1 h rr  H locs 0 0 (F0 m 18 ls []) := by
          intro n
          induction n with
          | zero => intro x4_18 x5_18 H locs ls hm; cases hm
          | succ n ih_18 =>
            intro x4_18 x5_18 H locs ls hm hR hS hl
            obtain ⟨z_18, hm, hz1_18, hz2_18⟩ := ss_lps hm
            have J_79 : ∀ (x5_79 : Int32) (s0_79 : Int32) (s1_79 : Int32) (H : Heap) (locs : List Loc) (ls : Array Slot), mm_M_alikeAt_j79 N this a1 x2_4 x3_4 h x5_79 s0_79 s1_79 = some z_18 → ss_R G h H → va_S (ss_A G) s.heap H locs → lv_has ls 6 [(0, ss_v (ss_b G) this), (1, .int a1), (2, .int x2_4), (3, .int x3_4), (5, .int x5_79)] → ww_M_alikeAt p l e s m below meth c G this a1 h rr  H locs 0 0 (F0 m 79 ls [.int s1_79, .int s0_79]) := by
              intro x5_79 s0_79 s1_79 H locs ls hm hR hS hl
              refine lv_iadd hx hb dd_M_alikeAt_79 ?_
              obtain ⟨v5, qv5, hm⟩ := ss_bind hm
              refine ss_topi qv5 ?_
              refine lv_istore (lv' := [(4, .int v5), (0, ss_v (ss_b G) this), (1, .int a1), (2, .int x2_4), (3, .int x3_4), (5, .int x5_79)]) hx hb dd_M_alikeAt_80 hl (by decide) rfl (fun ls hl => ?_)
              obtain ⟨v6, qv6, hm⟩ := ss_bind hm
              refine lv_iinc (v := v6) (lv' := [(5, .int v6), (4, .int v5), (0, ss_v (ss_b G) this), (1, .int a1), (2, .int x2_4), (3, .int x3_4)]) hx hb dd_M_alikeAt_82 hl (k := 5) rfl (ss_inc (by decide) qv6) (by decide) rfl (fun ls hl => ?_)
              refine lv_goto (tgt := 18) hx hb dd_M_alikeAt_85 (by decide) ?_
              exact ih_18 v5 v6  _ _ _ (hz1_18 _ (ss_some hm)) hR hS (lv_sub hl [2, 3, 4, 5, 1, 0] rfl)
            have J_78 : ∀ (x5_78 : Int32) (s0_78 : Int32) (H : Heap) (locs : List Loc) (ls : Array Slot), mm_M_alikeAt_j78 N this a1 x2_4 x3_4 h x5_78 s0_78 = some z_18 → ss_R G h H → va_S (ss_A G) s.heap H locs → lv_has ls 6 [(0, ss_v (ss_b G) this), (1, .int a1), (2, .int x2_4), (3, .int x3_4), (5, .int x5_78)] → ww_M_alikeAt p l e s m below meth c G this a1 h rr  H locs 0 0 (F0 m 78 ls [.int s0_78]) := by
              intro x5_78 s0_78 H locs ls hm hR hS hl
              refine lv_iconst (v := 0) hx hb dd_M_alikeAt_78 (by decide) ?_
              exact J_79 x5_78 s0_78 (0 : Int32)  _ _ _ hm hR hS hl
            refine lv_iload hx hb dd_M_alikeAt_18 (lv_at hl 5 rfl) ?_
            refine ss_aload_n hx hb dd_M_alikeAt_20 rfl (lv_at hl 0 rfl) ?_
            obtain ⟨v7, qv7, hm⟩ := ss_bind hm
            refine ss_geti hC hK hR kf_M_280 qv7 dd_M_alikeAt_21 ?_
            refine lv_icmp_gt (tgt := 88) hx hb dd_M_alikeAt_24 (by decide) (fun c8 => ?_) (fun c8 => ?_)
            · have hm := ss_ift hm c8
              exact X_18_88 x4_18  _ _ _ (hz2_18 _ (ss_some hm)) hR hS (lv_sub hl [0, 1, 2, 3, 4] rfl)
            · have hm := ss_iff hm c8
              refine ss_aload_n hx hb dd_M_alikeAt_27 rfl (lv_at hl 0 rfl) ?_
              obtain ⟨r9, qr9, hm⟩ := ss_bind hm
              refine ss_getr hC hK hR kf_M_67 rfl qr9 dd_M_alikeAt_28 ?_
              refine lv_iload_n hx hb dd_M_alikeAt_31 rfl (lv_at hl 3 rfl) ?_
              obtain ⟨v10, qv10, hm⟩ := ss_bind hm
              refine ss_zald hC hK hR qv10 dd_M_alikeAt_32 ?_
              refine lv_if_eq (tgt := 88) hx hb dd_M_alikeAt_33 (by decide) (fun c11 => ?_) (fun c11 => ?_)
              · have hm := ss_ift hm c11
                exact X_18_88 x4_18  _ _ _ (hz2_18 _ (ss_some hm)) hR hS (lv_sub hl [0, 1, 2, 3, 4] rfl)
              · have hm := ss_iff hm c11
                refine lv_iload hx hb dd_M_alikeAt_36 (lv_at hl 4 rfl) ?_
                refine ss_aload_n hx hb dd_M_alikeAt_38 rfl (lv_at hl 0 rfl) ?_
                obtain ⟨r12, qr12, hm⟩ := ss_bind hm
                refine ss_getr hC hK hR kf_M_67 rfl qr12 dd_M_alikeAt_39 ?_
                refine lv_iload hx hb dd_M_alikeAt_42 (lv_at hl 5 rfl) ?_
                obtain ⟨v13, qv13, hm⟩ := ss_bind hm
                refine ss_zald hC hK hR qv13 dd_M_alikeAt_44 ?_
                refine lv_if_eq (tgt := 78) hx hb dd_M_alikeAt_45 (by decide) (fun c14 => ?_) (fun c14 => ?_)
                · have hm := ss_ift hm c14
                  exact J_78 x5_18 x4_18  _ _ _ hm hR hS (lv_sub hl [0, 1, 2, 3, 5] rfl)
                · have hm := ss_iff hm c14
                  refine ss_aload_n hx hb dd_M_alikeAt_48 rfl (lv_at hl 0 rfl) ?_
                  obtain ⟨r15, qr15, hm⟩ := ss_bind hm
                  refine ss_getr hC hK hR kf_M_71 rfl qr15 dd_M_alikeAt_49 ?_
                  refine lv_bipush (v := 8) hx hb dd_M_alikeAt_52 (by decide) ?_
                  refine lv_iload_n hx hb dd_M_alikeAt_54 rfl (lv_at hl 3 rfl) ?_
                  refine lv_imul hx hb dd_M_alikeAt_55 ?_
                  refine lv_iload_n hx hb dd_M_alikeAt_56 rfl (lv_at hl 1 rfl) ?_
                  refine lv_iadd hx hb dd_M_alikeAt_57 ?_
                  obtain ⟨v16, qv16, hm⟩ := ss_bind hm
                  refine ss_iald hC hK hR qv16 dd_M_alikeAt_58 ?_
                  refine ss_aload_n hx hb dd_M_alikeAt_59 rfl (lv_at hl 0 rfl) ?_
                  obtain ⟨r17, qr17, hm⟩ := ss_bind hm
                  refine ss_getr hC hK hR kf_M_71 rfl qr17 dd_M_alikeAt_60 ?_
                  refine lv_bipush (v := 8) hx hb dd_M_alikeAt_63 (by decide) ?_
                  refine lv_iload hx hb dd_M_alikeAt_65 (lv_at hl 5 rfl) ?_
                  refine lv_imul hx hb dd_M_alikeAt_67 ?_
                  refine lv_iload_n hx hb dd_M_alikeAt_68 rfl (lv_at hl 1 rfl) ?_
                  refine lv_iadd hx hb dd_M_alikeAt_69 ?_
                  obtain ⟨v18, qv18, hm⟩ := ss_bind hm
                  refine ss_iald hC hK hR qv18 dd_M_alikeAt_70 ?_
                  refine lv_icmp_ne (tgt := 78) hx hb dd_M_alikeAt_71 (by decide) (fun c19 => ?_) (fun c19 => ?_)
                  · have hm := ss_iff hm c19
                    exact J_78 x5_18 x4_18  _ _ _ hm hR hS (lv_sub hl [0, 1, 2, 3, 5] rfl)
                  · have hm := ss_ift hm c19
                    refine lv_iconst (v := 1) hx hb dd_M_alikeAt_74 (by decide) ?_
                    refine lv_goto (tgt := 79) hx hb dd_M_alikeAt_75 (by decide) ?_
                    exact J_79 x5_18 x4_18 (1 : Int32)  _ _ _ hm hR hS (lv_sub hl [0, 1, 2, 3, 5] rfl)
        exact L_18 N (0 : Int32) (0 : Int32) _ _ _ he_18 hR hS (lv_sub hl [2, 3, 4, 5, 1, 0] rfl)
  exact L_4 N (0 : Int32) (0 : Int32) _ _ _ he_4 hR hS (lv_sub hl [2, 3, 1, 0] rfl)
theorem dd_M_look_0 : decode bb_M_look 0 = .ok (.aload_n 0, 1) := by decide +kernel
theorem dd_M_look_1 : decode bb_M_look 1 = .ok (.invokevirtual 366, 3) := by decide +kernel
theorem dd_M_look_4 : decode bb_M_look 4 = .ok (.ifCond .eq 25, 3) := by decide +kernel
theorem dd_M_look_7 : decode bb_M_look 7 = .ok (.iload_n 1, 1) := by decide +kernel
theorem dd_M_look_8 : decode bb_M_look 8 = .ok (.i2l, 1) := by decide +kernel
theorem dd_M_look_9 : decode bb_M_look 9 = .ok (.lconst 0, 1) := by decide +kernel
theorem dd_M_look_10 : decode bb_M_look 10 = .ok (.ldc2_w 391, 3) := by decide +kernel
theorem dd_M_look_13 : decode bb_M_look 13 = .ok (.invokestatic 124, 3) := by decide +kernel
theorem dd_M_look_16 : decode bb_M_look 16 = .ok (.ifCond .eq 13, 3) := by decide +kernel
theorem dd_M_look_19 : decode bb_M_look 19 = .ok (.iload_n 2, 1) := by decide +kernel
theorem dd_M_look_20 : decode bb_M_look 20 = .ok (.i2l, 1) := by decide +kernel
theorem dd_M_look_21 : decode bb_M_look 21 = .ok (.lconst 0, 1) := by decide +kernel
theorem dd_M_look_22 : decode bb_M_look 22 = .ok (.lconst 1, 1) := by decide +kernel
theorem dd_M_look_23 : decode bb_M_look 23 = .ok (.invokestatic 124, 3) := by decide +kernel
theorem dd_M_look_26 : decode bb_M_look 26 = .ok (.ifCond .ne 5, 3) := by decide +kernel
theorem dd_M_look_29 : decode bb_M_look 29 = .ok (.iconst (-1), 1) := by decide +kernel
theorem dd_M_look_30 : decode bb_M_look 30 = .ok (.ireturn, 1) := by decide +kernel
theorem dd_M_look_31 : decode bb_M_look 31 = .ok (.aload_n 0, 1) := by decide +kernel
theorem dd_M_look_32 : decode bb_M_look 32 = .ok (.iload_n 1, 1) := by decide +kernel
theorem dd_M_look_33 : decode bb_M_look 33 = .ok (.invokevirtual 435, 3) := by decide +kernel
theorem dd_M_look_36 : decode bb_M_look 36 = .ok (.bipush (-2), 2) := by decide +kernel
theorem dd_M_look_38 : decode bb_M_look 38 = .ok (.istore_n 3, 1) := by decide +kernel
theorem dd_M_look_39 : decode bb_M_look 39 = .ok (.bipush (-2), 2) := by decide +kernel
theorem dd_M_look_41 : decode bb_M_look 41 = .ok (.istore 4, 2) := by decide +kernel
theorem dd_M_look_43 : decode bb_M_look 43 = .ok (.iconst 0, 1) := by decide +kernel
theorem dd_M_look_44 : decode bb_M_look 44 = .ok (.istore 5, 2) := by decide +kernel
theorem dd_M_look_46 : decode bb_M_look 46 = .ok (.iload 5, 2) := by decide +kernel
theorem dd_M_look_48 : decode bb_M_look 48 = .ok (.aload_n 0, 1) := by decide +kernel
theorem dd_M_look_49 : decode bb_M_look 49 = .ok (.getfield 39, 3) := by decide +kernel
theorem dd_M_look_52 : decode bb_M_look 52 = .ok (.iconst 2, 1) := by decide +kernel
theorem dd_M_look_53 : decode bb_M_look 53 = .ok (.iaload, 1) := by decide +kernel
theorem dd_M_look_54 : decode bb_M_look 54 = .ok (.if_icmp .ge 43, 3) := by decide +kernel
theorem dd_M_look_57 : decode bb_M_look 57 = .ok (.aload_n 0, 1) := by decide +kernel
theorem dd_M_look_58 : decode bb_M_look 58 = .ok (.iload 5, 2) := by decide +kernel
theorem dd_M_look_60 : decode bb_M_look 60 = .ok (.invokevirtual 438, 3) := by decide +kernel
theorem dd_M_look_63 : decode bb_M_look 63 = .ok (.istore 6, 2) := by decide +kernel
theorem dd_M_look_65 : decode bb_M_look 65 = .ok (.iload 6, 2) := by decide +kernel
theorem dd_M_look_67 : decode bb_M_look 67 = .ok (.ifCond .eq 24, 3) := by decide +kernel
theorem dd_M_look_70 : decode bb_M_look 70 = .ok (.iload_n 3, 1) := by decide +kernel
theorem dd_M_look_71 : decode bb_M_look 71 = .ok (.ifCond .lt 13, 3) := by decide +kernel
theorem dd_M_look_74 : decode bb_M_look 74 = .ok (.iload 6, 2) := by decide +kernel
theorem dd_M_look_76 : decode bb_M_look 76 = .ok (.iload 4, 2) := by decide +kernel
theorem dd_M_look_78 : decode bb_M_look 78 = .ok (.if_icmp .lt 6, 3) := by decide +kernel
theorem dd_M_look_81 : decode bb_M_look 81 = .ok (.goto 10, 3) := by decide +kernel
theorem dd_M_look_84 : decode bb_M_look 84 = .ok (.iload 5, 2) := by decide +kernel
theorem dd_M_look_86 : decode bb_M_look 86 = .ok (.istore_n 3, 1) := by decide +kernel
theorem dd_M_look_87 : decode bb_M_look 87 = .ok (.iload 6, 2) := by decide +kernel
theorem dd_M_look_89 : decode bb_M_look 89 = .ok (.istore 4, 2) := by decide +kernel
theorem dd_M_look_91 : decode bb_M_look 91 = .ok (.iinc 5 1, 3) := by decide +kernel
theorem dd_M_look_94 : decode bb_M_look 94 = .ok (.goto (-48), 3) := by decide +kernel
theorem dd_M_look_97 : decode bb_M_look 97 = .ok (.iload_n 2, 1) := by decide +kernel
theorem dd_M_look_98 : decode bb_M_look 98 = .ok (.ifCond .ne 7, 3) := by decide +kernel
theorem dd_M_look_101 : decode bb_M_look 101 = .ok (.iload_n 3, 1) := by decide +kernel
theorem dd_M_look_102 : decode bb_M_look 102 = .ok (.goto 5, 3) := by decide +kernel
theorem dd_M_look_105 : decode bb_M_look 105 = .ok (.iload 4, 2) := by decide +kernel
theorem dd_M_look_107 : decode bb_M_look 107 = .ok (.ireturn, 1) := by decide +kernel
def mm_M_look_j29 (N : Nat) (this : Option Nat) (a1 : Int32) (a2 : Int32) (h_29 : ss_Hp) : Option (Int32 × ss_Hp) :=
  some ((-1 : Int32), h_29)
def mm_M_look_j107 (N : Nat) (this : Option Nat) (a1 : Int32) (a2 : Int32) (s0_107 : Int32) (h_107 : ss_Hp) : Option (Int32 × ss_Hp) :=
  some (s0_107, h_107)
def mm_M_look_j91 (N : Nat) (this : Option Nat) (a2 : Int32) (h7 : ss_Hp) (x3_91 : Int32) (x4_91 : Int32) (x5_91 : Int32) : Option ((Int32 × Int32 × Int32) ⊕ (Int32 × Int32)) :=
  (some (x5_91 + (1 : Int32))).bind fun v9 =>
  some (.inl (x3_91, x4_91, v9))
def mm_M_look_j84 (N : Nat) (this : Option Nat) (a2 : Int32) (h7 : ss_Hp) (x5_84 : Int32) (x6_84 : Int32) : Option ((Int32 × Int32 × Int32) ⊕ (Int32 × Int32)) :=
  mm_M_look_j91 N this a2 h7 x5_84 x6_84 x5_84
def mm_M_look_b46 (N : Nat) (this : Option Nat) (a2 : Int32) (h7 : ss_Hp) (st : Int32 × Int32 × Int32) : Option ((Int32 × Int32 × Int32) ⊕ (Int32 × Int32)) :=
  match st with
  | (x3_46, x4_46, x5_46) =>
    (ss_gr h7 this 12 9).bind fun r10 =>
    (ss_ai h7 r10 20 (2 : Int32)).bind fun v11 =>
    if v11 ≤ x5_46 then
      some (.inr (x3_46, x4_46))
    else
      (mm_M_alikeAt N this x5_46 h7).bind fun v13 =>
      if v13 = 0 then
        mm_M_look_j91 N this a2 h7 x3_46 x4_46 x5_46
      else
        if x3_46 < 0 then
          mm_M_look_j84 N this a2 h7 x5_46 v13
        else
          if v13 < x4_46 then
            mm_M_look_j84 N this a2 h7 x5_46 v13
          else
            mm_M_look_j91 N this a2 h7 x3_46 x4_46 x5_46
def mm_M_look (N : Nat) (this : Option Nat) (a1 : Int32) (a2 : Int32) (h : ss_Hp) : Option (Int32 × ss_Hp) :=
  if ss_is h this 12 = true then
    (mm_M_isValley N this h).bind fun v1 =>
    if v1 = 0 then
      mm_M_look_j29 N this a1 a2 h
    else
      (mm_M_in N ((a1).toInt64) (0 : Int64) (60 : Int64)).bind fun v3 =>
      if v3 = 0 then
        mm_M_look_j29 N this a1 a2 h
      else
        (mm_M_in N ((a2).toInt64) (0 : Int64) (1 : Int64)).bind fun v5 =>
        if v5 = 0 then
          mm_M_look_j29 N this a1 a2 h
        else
          (mm_M_fillsFits N this a1 h).bind fun h7 =>
          (ss_lp (mm_M_look_b46 N this a2 h7) N ((-2 : Int32), (-2 : Int32), (0 : Int32))).bind fun e_46 =>
          match e_46 with
          | (y3_46_97, y4_46_97) =>
            if a2 = 0 then
              mm_M_look_j107 N this a1 a2 y3_46_97 h7
            else
              mm_M_look_j107 N this a1 a2 y4_46_97 h7
  else none
abbrev ww_M_look (p : Program) (l : Launch) (e : Env) (s : State) (m : MethodId) (below : List Frame) (meth : Method) (c : Code) (G : ss_G) (this : Option Nat) (a1 : Int32) (a2 : Int32) (h : ss_Hp) (rr : Int32) (hh : ss_Hp) (H : Heap) (locs : List Loc) (k n : Nat) (g : JFrame) : Prop := W p l e (headSpec (ss_w yy_M_look bb_M_look 7 (some (.int))) ({ frames := 6, cells := 0, slots := 0, locals := 152 })).room s m ([ss_v (ss_b G) this, .int a1, .int a2] : List Value).toArray below meth c H locs k n (MQ below (ss_Qc G (some (.int rr)) hh) ([ss_v (ss_b G) this, .int a1, .int a2] : List Value).toArray s 0 0 (ss_A G)) g
theorem ck_M_look {N : Nat} {this : Option Nat} {a1 : Int32} {a2 : Int32} {h : ss_Hp} {res : Int32 × ss_Hp} (hm : mm_M_look N this a1 a2 h = some res) : ss_is h this 12 = true := (ss_chk hm).1
set_option maxHeartbeats 4000000 in
set_option maxRecDepth 100000 in
theorem cc_M_look (l : Launch) (G : ss_G) (N : Nat) (this : Option Nat) (a1 : Int32) (a2 : Int32) (h : ss_Hp) (rr : Int32) (hh : ss_Hp) (hm : mm_M_look N this a1 a2 h = some (rr, hh)) : ss_Ct l G yy_M_look bb_M_look 7 (some (.int)) ({ frames := 6, cells := 0, slots := 0, locals := 152 }) [ss_v (ss_b G) this, .int a1, .int a2] h (some (.int rr)) hh := by
  obtain ⟨hck, hm⟩ := ss_chk hm
  refine Met.ofW (cc := bb_M_look) (maxL := 7) (ret := (some (.int))) (by decide) rfl ?_
  intro p e s m args below meth c s₁ B hml hv
  obtain ⟨rfl, hR, hK⟩ := hv
  have hC : CallFix p m c bb_M_look 7 s _ lw_g sR_12 := ⟨B.exec, B.bytes, hml, findClass_of_methodNamed B.named, fun w hw => atoms_spec (ws := ss_w yy_M_look bb_M_look 7 (some (.int))) B.pre w (List.mem_cons_of_mem _ hw)⟩
  have hx := hC.1
  have hb := hC.2.1
  have hr := B.returns
  have hlocks := B.notSynchronized
  have hS : va_S (ss_A G) s.heap s.heap [] := va_S.rf
  have hl := lv_entry ([ss_v (ss_b G) this, .int a1, .int a2]) (n := 7) (by simp [lg_sl, ss_v_cat, ss_cat_i, ss_cat_l, ss_cat_r])
  rw [lg_entry_eq]
  generalize (lg_sl ([ss_v (ss_b G) this, .int a1, .int a2]) ++ List.replicate (7 - (lg_sl ([ss_v (ss_b G) this, .int a1, .int a2])).length) Slot.unset).toArray = ls at hl ⊢
  have hl : lv_has ls 7 [(0, ss_v (ss_b G) this), (1, .int a1), (2, .int a2)] := by simpa [lv_args, ss_v_cat, ss_cat_i, ss_cat_l, ss_cat_r] using hl
  have J_29 : ∀ (h_29 : ss_Hp) (H : Heap) (locs : List Loc) (ls : Array Slot), mm_M_look_j29 N this a1 a2 h_29 = some (rr, hh) → ss_R G h_29 H → va_S (ss_A G) s.heap H locs → lv_has ls 7 [] → ww_M_look p l e s m below meth c G this a1 a2 h rr hh  H locs 0 0 (F0 m 29 ls []) := by
    intro h_29 H locs ls hm hR hS hl
    refine lv_iconst (v := -1) hx hb dd_M_look_29 (by decide) ?_
    exact ss_iret hC hr hlocks hR hS hm dd_M_look_30
  have J_107 : ∀ (s0_107 : Int32) (h_107 : ss_Hp) (H : Heap) (locs : List Loc) (ls : Array Slot), mm_M_look_j107 N this a1 a2 s0_107 h_107 = some (rr, hh) → ss_R G h_107 H → va_S (ss_A G) s.heap H locs → lv_has ls 7 [] → ww_M_look p l e s m below meth c G this a1 a2 h rr hh  H locs 0 0 (F0 m 107 ls [.int s0_107]) := by
    intro s0_107 h_107 H locs ls hm hR hS hl
    exact ss_iret hC hr hlocks hR hS hm dd_M_look_107
  refine ss_aload_n hx hb dd_M_look_0 rfl (lv_at hl 0 rfl) ?_
  obtain ⟨v1, qv1, hm⟩ := ss_bind hm
  refine ss_cV 0 0 (As := []) hC hK hR hS hl.1 (cc_M_isValley l G N _ _ _ qv1) km_M_366 (ck_M_isValley qv1) ⟨Nat.le_of_ble_eq_true rfl, Nat.le_of_ble_eq_true rfl⟩ ⟨Nat.le_of_ble_eq_true rfl, Nat.le_of_ble_eq_true rfl, Nat.le_of_ble_eq_true rfl, Nat.le_of_ble_eq_true rfl⟩ rfl rfl (Nat.le_of_ble_eq_true rfl) dd_M_look_1 (fun H locs hR hS => ?_)
  refine lv_if_eq (tgt := 29) hx hb dd_M_look_4 (by decide) (fun c2 => ?_) (fun c2 => ?_)
  · have hm := ss_ift hm c2
    exact J_29 h _ _ _ hm hR hS (lv_sub hl [] rfl)
  · have hm := ss_iff hm c2
    refine lv_iload_n hx hb dd_M_look_7 rfl (lv_at hl 1 rfl) ?_
    refine lv_i2l hx hb dd_M_look_8 rfl ?_
    refine lv_lconst (v := 0) hx hb dd_M_look_9 (by decide) ?_
    refine lv_ldc2 (v := 60) hx hb hC.2.2.2.1 (hC.2.2.2.2 _ kl_M_391) dd_M_look_10 ?_
    obtain ⟨v3, qv3, hm⟩ := ss_bind hm
    refine ss_cS 0 0 (As := [.long ((a1).toInt64), .long (0 : Int64), .long (60 : Int64)]) hC hK hR hS hl.1 (cc_M_in l G N _ _ _ _ _ qv3) km_M_124 ⟨Nat.le_of_ble_eq_true rfl, Nat.le_of_ble_eq_true rfl⟩ ⟨Nat.le_of_ble_eq_true rfl, Nat.le_of_ble_eq_true rfl, Nat.le_of_ble_eq_true rfl, Nat.le_of_ble_eq_true rfl⟩ rfl rfl (Nat.le_of_ble_eq_true rfl) dd_M_look_13 (fun H locs hR hS => ?_)
    refine lv_if_eq (tgt := 29) hx hb dd_M_look_16 (by decide) (fun c4 => ?_) (fun c4 => ?_)
    · have hm := ss_ift hm c4
      exact J_29 h _ _ _ hm hR hS (lv_sub hl [] rfl)
    · have hm := ss_iff hm c4
      refine lv_iload_n hx hb dd_M_look_19 rfl (lv_at hl 2 rfl) ?_
      refine lv_i2l hx hb dd_M_look_20 rfl ?_
      refine lv_lconst (v := 0) hx hb dd_M_look_21 (by decide) ?_
      refine lv_lconst (v := 1) hx hb dd_M_look_22 (by decide) ?_
      obtain ⟨v5, qv5, hm⟩ := ss_bind hm
      refine ss_cS 0 0 (As := [.long ((a2).toInt64), .long (0 : Int64), .long (1 : Int64)]) hC hK hR hS hl.1 (cc_M_in l G N _ _ _ _ _ qv5) km_M_124 ⟨Nat.le_of_ble_eq_true rfl, Nat.le_of_ble_eq_true rfl⟩ ⟨Nat.le_of_ble_eq_true rfl, Nat.le_of_ble_eq_true rfl, Nat.le_of_ble_eq_true rfl, Nat.le_of_ble_eq_true rfl⟩ rfl rfl (Nat.le_of_ble_eq_true rfl) dd_M_look_23 (fun H locs hR hS => ?_)
      refine lv_if_ne (tgt := 31) hx hb dd_M_look_26 (by decide) (fun c6 => ?_) (fun c6 => ?_)
      · have hm := ss_iff hm c6
        refine ss_aload_n hx hb dd_M_look_31 rfl (lv_at hl 0 rfl) ?_
        refine lv_iload_n hx hb dd_M_look_32 rfl (lv_at hl 1 rfl) ?_
        obtain ⟨h7, qh7, hm⟩ := ss_bind hm
        refine ss_cVv 0 0 (As := [.int a1]) hC hK hR hS hl.1 (cc_M_fillsFits l G N _ _ _ _ qh7) km_M_435 (ck_M_fillsFits qh7) ⟨Nat.le_of_ble_eq_true rfl, Nat.le_of_ble_eq_true rfl⟩ ⟨Nat.le_of_ble_eq_true rfl, Nat.le_of_ble_eq_true rfl, Nat.le_of_ble_eq_true rfl, Nat.le_of_ble_eq_true rfl⟩ rfl rfl (Nat.le_of_ble_eq_true rfl) dd_M_look_33 (fun H locs hR hS => ?_)
        refine lv_bipush (v := -2) hx hb dd_M_look_36 (by decide) ?_
        refine lv_istore_n (lv' := [(3, .int (-2 : Int32)), (0, ss_v (ss_b G) this), (1, .int a1), (2, .int a2)]) hx hb dd_M_look_38 rfl hl (by decide) rfl (fun ls hl => ?_)
        refine lv_bipush (v := -2) hx hb dd_M_look_39 (by decide) ?_
        refine lv_istore (lv' := [(4, .int (-2 : Int32)), (3, .int (-2 : Int32)), (0, ss_v (ss_b G) this), (1, .int a1), (2, .int a2)]) hx hb dd_M_look_41 hl (by decide) rfl (fun ls hl => ?_)
        refine lv_iconst (v := 0) hx hb dd_M_look_43 (by decide) ?_
        refine lv_istore (lv' := [(5, .int (0 : Int32)), (4, .int (-2 : Int32)), (3, .int (-2 : Int32)), (0, ss_v (ss_b G) this), (1, .int a1), (2, .int a2)]) hx hb dd_M_look_44 hl (by decide) rfl (fun ls hl => ?_)
        obtain ⟨e_46, he_46, hm⟩ := ss_bind hm
        have X_46_97 : ∀ (y3_46_97 : Int32) (y4_46_97 : Int32) (H : Heap) (locs : List Loc) (ls : Array Slot), e_46 = (y3_46_97, y4_46_97) → ss_R G h7 H → va_S (ss_A G) s.heap H locs → lv_has ls 7 [(2, .int a2), (3, .int y3_46_97), (4, .int y4_46_97)] → ww_M_look p l e s m below meth c G this a1 a2 h rr hh  H locs 0 0 (F0 m 97 ls []) := by
          intro y3_46_97 y4_46_97 H locs ls hq hR hS hl
          rw [hq] at hm
          refine lv_iload_n hx hb dd_M_look_97 rfl (lv_at hl 0 rfl) ?_
          refine lv_if_ne (tgt := 105) hx hb dd_M_look_98 (by decide) (fun c8 => ?_) (fun c8 => ?_)
          · have hm := ss_iff hm c8
            refine lv_iload hx hb dd_M_look_105 (lv_at hl 2 rfl) ?_
            exact J_107 y4_46_97 h7 _ _ _ hm hR hS (lv_sub hl [] rfl)
          · have hm := ss_ift hm c8
            refine lv_iload_n hx hb dd_M_look_101 rfl (lv_at hl 1 rfl) ?_
            refine lv_goto (tgt := 107) hx hb dd_M_look_102 (by decide) ?_
            exact J_107 y3_46_97 h7 _ _ _ hm hR hS (lv_sub hl [] rfl)
        have L_46 : ∀ (n : Nat) (x3_46 : Int32) (x4_46 : Int32) (x5_46 : Int32) (H : Heap) (locs : List Loc) (ls : Array Slot), ss_lp (mm_M_look_b46 N this a2 h7) n (x3_46, x4_46, x5_46) = some e_46 → ss_R G h7 H → va_S (ss_A G) s.heap H locs → lv_has ls 7 [(0, ss_v (ss_b G) this), (2, .int a2), (3, .int x3_46), (4, .int x4_46), (5, .int x5_46)] → ww_M_look p l e s m below meth c G this a1 a2 h rr hh  H locs 0 0 (F0 m 46 ls []) := by
          intro n
          induction n with
          | zero => intro x3_46 x4_46 x5_46 H locs ls hm; cases hm
          | succ n ih_46 =>
            intro x3_46 x4_46 x5_46 H locs ls hm hR hS hl
            obtain ⟨z_46, hm, hz1_46, hz2_46⟩ := ss_lps hm
            have J_91 : ∀ (x3_91 : Int32) (x4_91 : Int32) (x5_91 : Int32) (H : Heap) (locs : List Loc) (ls : Array Slot), mm_M_look_j91 N this a2 h7 x3_91 x4_91 x5_91 = some z_46 → ss_R G h7 H → va_S (ss_A G) s.heap H locs → lv_has ls 7 [(0, ss_v (ss_b G) this), (2, .int a2), (3, .int x3_91), (4, .int x4_91), (5, .int x5_91)] → ww_M_look p l e s m below meth c G this a1 a2 h rr hh  H locs 0 0 (F0 m 91 ls []) := by
              intro x3_91 x4_91 x5_91 H locs ls hm hR hS hl
              obtain ⟨v9, qv9, hm⟩ := ss_bind hm
              refine lv_iinc (v := v9) (lv' := [(5, .int v9), (0, ss_v (ss_b G) this), (2, .int a2), (3, .int x3_91), (4, .int x4_91)]) hx hb dd_M_look_91 hl (k := 4) rfl (ss_inc (by decide) qv9) (by decide) rfl (fun ls hl => ?_)
              refine lv_goto (tgt := 46) hx hb dd_M_look_94 (by decide) ?_
              exact ih_46 x3_91 x4_91 v9  _ _ _ (hz1_46 _ (ss_some hm)) hR hS (lv_sub hl [1, 2, 3, 4, 0] rfl)
            have J_84 : ∀ (x5_84 : Int32) (x6_84 : Int32) (H : Heap) (locs : List Loc) (ls : Array Slot), mm_M_look_j84 N this a2 h7 x5_84 x6_84 = some z_46 → ss_R G h7 H → va_S (ss_A G) s.heap H locs → lv_has ls 7 [(0, ss_v (ss_b G) this), (2, .int a2), (5, .int x5_84), (6, .int x6_84)] → ww_M_look p l e s m below meth c G this a1 a2 h rr hh  H locs 0 0 (F0 m 84 ls []) := by
              intro x5_84 x6_84 H locs ls hm hR hS hl
              refine lv_iload hx hb dd_M_look_84 (lv_at hl 2 rfl) ?_
              refine lv_istore_n (lv' := [(3, .int x5_84), (0, ss_v (ss_b G) this), (2, .int a2), (5, .int x5_84), (6, .int x6_84)]) hx hb dd_M_look_86 rfl hl (by decide) rfl (fun ls hl => ?_)
              refine lv_iload hx hb dd_M_look_87 (lv_at hl 4 rfl) ?_
              refine lv_istore (lv' := [(4, .int x6_84), (3, .int x5_84), (0, ss_v (ss_b G) this), (2, .int a2), (5, .int x5_84), (6, .int x6_84)]) hx hb dd_M_look_89 hl (by decide) rfl (fun ls hl => ?_)
              exact J_91 x5_84 x6_84 x5_84  _ _ _ hm hR hS (lv_sub hl [2, 3, 1, 0, 4] rfl)
            refine lv_iload hx hb dd_M_look_46 (lv_at hl 4 rfl) ?_
            refine ss_aload_n hx hb dd_M_look_48 rfl (lv_at hl 0 rfl) ?_
            obtain ⟨r10, qr10, hm⟩ := ss_bind hm
            refine ss_getr hC hK hR kf_M_39 rfl qr10 dd_M_look_49 ?_
            refine lv_iconst (v := 2) hx hb dd_M_look_52 (by decide) ?_
            obtain ⟨v11, qv11, hm⟩ := ss_bind hm
            refine ss_iald hC hK hR qv11 dd_M_look_53 ?_
            refine lv_icmp_ge (tgt := 97) hx hb dd_M_look_54 (by decide) (fun c12 => ?_) (fun c12 => ?_)
            · have hm := ss_ift hm c12
              exact X_46_97 x3_46 x4_46  _ _ _ (hz2_46 _ (ss_some hm)) hR hS (lv_sub hl [1, 2, 3] rfl)
            · have hm := ss_iff hm c12
              refine ss_aload_n hx hb dd_M_look_57 rfl (lv_at hl 0 rfl) ?_
              refine lv_iload hx hb dd_M_look_58 (lv_at hl 4 rfl) ?_
              obtain ⟨v13, qv13, hm⟩ := ss_bind hm
              refine ss_cV 0 0 (As := [.int x5_46]) hC hK hR hS hl.1 (cc_M_alikeAt l G N _ _ _ _ qv13) km_M_438 (ck_M_alikeAt qv13) ⟨Nat.le_of_ble_eq_true rfl, Nat.le_of_ble_eq_true rfl⟩ ⟨Nat.le_of_ble_eq_true rfl, Nat.le_of_ble_eq_true rfl, Nat.le_of_ble_eq_true rfl, Nat.le_of_ble_eq_true rfl⟩ rfl rfl (Nat.le_of_ble_eq_true rfl) dd_M_look_60 (fun H locs hR hS => ?_)
              refine lv_istore (lv' := [(6, .int v13), (0, ss_v (ss_b G) this), (2, .int a2), (3, .int x3_46), (4, .int x4_46), (5, .int x5_46)]) hx hb dd_M_look_63 hl (by decide) rfl (fun ls hl => ?_)
              refine lv_iload hx hb dd_M_look_65 (lv_at hl 0 rfl) ?_
              refine lv_if_eq (tgt := 91) hx hb dd_M_look_67 (by decide) (fun c14 => ?_) (fun c14 => ?_)
              · have hm := ss_ift hm c14
                exact J_91 x3_46 x4_46 x5_46  _ _ _ hm hR hS (lv_sub hl [1, 2, 3, 4, 5] rfl)
              · have hm := ss_iff hm c14
                refine lv_iload_n hx hb dd_M_look_70 rfl (lv_at hl 3 rfl) ?_
                refine lv_if_lt (tgt := 84) hx hb dd_M_look_71 (by decide) (fun c15 => ?_) (fun c15 => ?_)
                · have hm := ss_ift hm c15
                  exact J_84 x5_46 v13  _ _ _ hm hR hS (lv_sub hl [1, 2, 5, 0] rfl)
                · have hm := ss_iff hm c15
                  refine lv_iload hx hb dd_M_look_74 (lv_at hl 0 rfl) ?_
                  refine lv_iload hx hb dd_M_look_76 (lv_at hl 4 rfl) ?_
                  refine lv_icmp_lt (tgt := 84) hx hb dd_M_look_78 (by decide) (fun c16 => ?_) (fun c16 => ?_)
                  · have hm := ss_ift hm c16
                    exact J_84 x5_46 v13  _ _ _ hm hR hS (lv_sub hl [1, 2, 5, 0] rfl)
                  · have hm := ss_iff hm c16
                    refine lv_goto (tgt := 91) hx hb dd_M_look_81 (by decide) ?_
                    exact J_91 x3_46 x4_46 x5_46  _ _ _ hm hR hS (lv_sub hl [1, 2, 3, 4, 5] rfl)
        exact L_46 N (-2 : Int32) (-2 : Int32) (0 : Int32) _ _ _ he_46 hR hS (lv_sub hl [3, 5, 2, 1, 0] rfl)
      · have hm := ss_ift hm c6
        exact J_29 h _ _ _ hm hR hS (lv_sub hl [] rfl)
theorem dd_M_seed_0 : decode bb_M_seed 0 = .ok (.iload_n 1, 1) := by decide +kernel
theorem dd_M_seed_1 : decode bb_M_seed 1 = .ok (.ifCond .ge 5, 3) := by decide +kernel
theorem dd_M_seed_4 : decode bb_M_seed 4 = .ok (.iconst (-1), 1) := by decide +kernel
theorem dd_M_seed_5 : decode bb_M_seed 5 = .ok (.ireturn, 1) := by decide +kernel
theorem dd_M_seed_6 : decode bb_M_seed 6 = .ok (.aload_n 0, 1) := by decide +kernel
theorem dd_M_seed_7 : decode bb_M_seed 7 = .ok (.getfield 441, 3) := by decide +kernel
theorem dd_M_seed_10 : decode bb_M_seed 10 = .ok (.istore_n 2, 1) := by decide +kernel
theorem dd_M_seed_11 : decode bb_M_seed 11 = .ok (.aload_n 0, 1) := by decide +kernel
theorem dd_M_seed_12 : decode bb_M_seed 12 = .ok (.iload_n 1, 1) := by decide +kernel
theorem dd_M_seed_13 : decode bb_M_seed 13 = .ok (.putfield 441, 3) := by decide +kernel
theorem dd_M_seed_16 : decode bb_M_seed 16 = .ok (.iload_n 2, 1) := by decide +kernel
theorem dd_M_seed_17 : decode bb_M_seed 17 = .ok (.ireturn, 1) := by decide +kernel
def mm_M_seed (N : Nat) (this : Option Nat) (a1 : Int32) (h : ss_Hp) : Option (Int32 × ss_Hp) :=
  if ss_is h this 12 = true then
    if 0 ≤ a1 then
      (ss_gi h this 12 14).bind fun v2 =>
      (ss_pi h this 12 14 a1).bind fun h3 =>
      some (v2, h3)
    else
      some ((-1 : Int32), h)
  else none
abbrev ww_M_seed (p : Program) (l : Launch) (e : Env) (s : State) (m : MethodId) (below : List Frame) (meth : Method) (c : Code) (G : ss_G) (this : Option Nat) (a1 : Int32) (h : ss_Hp) (rr : Int32) (hh : ss_Hp) (H : Heap) (locs : List Loc) (k n : Nat) (g : JFrame) : Prop := W p l e (headSpec (ss_w yy_M_seed bb_M_seed 3 (some (.int))) ({ frames := 0, cells := 0, slots := 0, locals := 0 })).room s m ([ss_v (ss_b G) this, .int a1] : List Value).toArray below meth c H locs k n (MQ below (ss_Qc G (some (.int rr)) hh) ([ss_v (ss_b G) this, .int a1] : List Value).toArray s 0 0 (ss_A G)) g
theorem ck_M_seed {N : Nat} {this : Option Nat} {a1 : Int32} {h : ss_Hp} {res : Int32 × ss_Hp} (hm : mm_M_seed N this a1 h = some res) : ss_is h this 12 = true := (ss_chk hm).1
set_option maxHeartbeats 4000000 in
set_option maxRecDepth 100000 in
theorem cc_M_seed (l : Launch) (G : ss_G) (N : Nat) (this : Option Nat) (a1 : Int32) (h : ss_Hp) (rr : Int32) (hh : ss_Hp) (hm : mm_M_seed N this a1 h = some (rr, hh)) : ss_Ct l G yy_M_seed bb_M_seed 3 (some (.int)) ({ frames := 0, cells := 0, slots := 0, locals := 0 }) [ss_v (ss_b G) this, .int a1] h (some (.int rr)) hh := by
  obtain ⟨hck, hm⟩ := ss_chk hm
  refine Met.ofW (cc := bb_M_seed) (maxL := 3) (ret := (some (.int))) (by decide) rfl ?_
  intro p e s m args below meth c s₁ B hml hv
  obtain ⟨rfl, hR, hK⟩ := hv
  have hC : CallFix p m c bb_M_seed 3 s _ lw_g sR_12 := ⟨B.exec, B.bytes, hml, findClass_of_methodNamed B.named, fun w hw => atoms_spec (ws := ss_w yy_M_seed bb_M_seed 3 (some (.int))) B.pre w (List.mem_cons_of_mem _ hw)⟩
  have hx := hC.1
  have hb := hC.2.1
  have hr := B.returns
  have hlocks := B.notSynchronized
  have hS : va_S (ss_A G) s.heap s.heap [] := va_S.rf
  have hl := lv_entry ([ss_v (ss_b G) this, .int a1]) (n := 3) (by simp [lg_sl, ss_v_cat, ss_cat_i, ss_cat_l, ss_cat_r])
  rw [lg_entry_eq]
  generalize (lg_sl ([ss_v (ss_b G) this, .int a1]) ++ List.replicate (3 - (lg_sl ([ss_v (ss_b G) this, .int a1])).length) Slot.unset).toArray = ls at hl ⊢
  have hl : lv_has ls 3 [(0, ss_v (ss_b G) this), (1, .int a1)] := by simpa [lv_args, ss_v_cat, ss_cat_i, ss_cat_l, ss_cat_r] using hl
  refine lv_iload_n hx hb dd_M_seed_0 rfl (lv_at hl 1 rfl) ?_
  refine lv_if_ge (tgt := 6) hx hb dd_M_seed_1 (by decide) (fun c1 => ?_) (fun c1 => ?_)
  · have hm := ss_ift hm c1
    refine ss_aload_n hx hb dd_M_seed_6 rfl (lv_at hl 0 rfl) ?_
    obtain ⟨v2, qv2, hm⟩ := ss_bind hm
    refine ss_geti hC hK hR kf_M_441 qv2 dd_M_seed_7 ?_
    refine lv_istore_n (lv' := [(2, .int v2), (0, ss_v (ss_b G) this), (1, .int a1)]) hx hb dd_M_seed_10 rfl hl (by decide) rfl (fun ls hl => ?_)
    refine ss_aload_n hx hb dd_M_seed_11 rfl (lv_at hl 1 rfl) ?_
    refine lv_iload_n hx hb dd_M_seed_12 rfl (lv_at hl 2 rfl) ?_
    obtain ⟨h3, qh3, hm⟩ := ss_bind hm
    refine ss_puti hC hK hR hS kp_M_441 qh3 dd_M_seed_13 (fun H locs hR hS => ?_)
    refine lv_iload_n hx hb dd_M_seed_16 rfl (lv_at hl 0 rfl) ?_
    exact ss_iret hC hr hlocks hR hS hm dd_M_seed_17
  · have hm := ss_iff hm c1
    refine lv_iconst (v := -1) hx hb dd_M_seed_4 (by decide) ?_
    exact ss_iret hC hr hlocks hR hS hm dd_M_seed_5
theorem dd_M_draw_0 : decode bb_M_draw 0 = .ok (.aload_n 0, 1) := by decide +kernel
theorem dd_M_draw_1 : decode bb_M_draw 1 = .ok (.aload_n 0, 1) := by decide +kernel
theorem dd_M_draw_2 : decode bb_M_draw 2 = .ok (.getfield 444, 3) := by decide +kernel
theorem dd_M_draw_5 : decode bb_M_draw 5 = .ok (.ldc2_w 448, 3) := by decide +kernel
theorem dd_M_draw_8 : decode bb_M_draw 8 = .ok (.lmul, 1) := by decide +kernel
theorem dd_M_draw_9 : decode bb_M_draw 9 = .ok (.ldc2_w 450, 3) := by decide +kernel
theorem dd_M_draw_12 : decode bb_M_draw 12 = .ok (.ladd, 1) := by decide +kernel
theorem dd_M_draw_13 : decode bb_M_draw 13 = .ok (.ldc2_w 452, 3) := by decide +kernel
theorem dd_M_draw_16 : decode bb_M_draw 16 = .ok (.lrem, 1) := by decide +kernel
theorem dd_M_draw_17 : decode bb_M_draw 17 = .ok (.putfield 444, 3) := by decide +kernel
theorem dd_M_draw_20 : decode bb_M_draw 20 = .ok (.aload_n 0, 1) := by decide +kernel
theorem dd_M_draw_21 : decode bb_M_draw 21 = .ok (.getfield 444, 3) := by decide +kernel
theorem dd_M_draw_24 : decode bb_M_draw 24 = .ok (.ldc2_w 454, 3) := by decide +kernel
theorem dd_M_draw_27 : decode bb_M_draw 27 = .ok (.ldiv, 1) := by decide +kernel
theorem dd_M_draw_28 : decode bb_M_draw 28 = .ok (.iload_n 1, 1) := by decide +kernel
theorem dd_M_draw_29 : decode bb_M_draw 29 = .ok (.i2l, 1) := by decide +kernel
theorem dd_M_draw_30 : decode bb_M_draw 30 = .ok (.lrem, 1) := by decide +kernel
theorem dd_M_draw_31 : decode bb_M_draw 31 = .ok (.l2i, 1) := by decide +kernel
theorem dd_M_draw_32 : decode bb_M_draw 32 = .ok (.ireturn, 1) := by decide +kernel
def mm_M_draw (N : Nat) (this : Option Nat) (a1 : Int32) (h : ss_Hp) : Option (Int32 × ss_Hp) :=
  if ss_is h this 12 = true then
    (ss_gl h this 12 0).bind fun v1 =>
    (ss_lrem ((v1 * (1103515245 : Int64)) + (12345 : Int64)) (2147483648 : Int64)).bind fun v2 =>
    (ss_pl h this 12 0 v2).bind fun h3 =>
    (ss_gl h3 this 12 0).bind fun v4 =>
    (ss_ldiv v4 (65536 : Int64)).bind fun v5 =>
    (ss_lrem v5 ((a1).toInt64)).bind fun v6 =>
    some (((v6).toInt32), h3)
  else none
abbrev ww_M_draw (p : Program) (l : Launch) (e : Env) (s : State) (m : MethodId) (below : List Frame) (meth : Method) (c : Code) (G : ss_G) (this : Option Nat) (a1 : Int32) (h : ss_Hp) (rr : Int32) (hh : ss_Hp) (H : Heap) (locs : List Loc) (k n : Nat) (g : JFrame) : Prop := W p l e (headSpec (ss_w yy_M_draw bb_M_draw 2 (some (.int))) ({ frames := 0, cells := 0, slots := 0, locals := 0 })).room s m ([ss_v (ss_b G) this, .int a1] : List Value).toArray below meth c H locs k n (MQ below (ss_Qc G (some (.int rr)) hh) ([ss_v (ss_b G) this, .int a1] : List Value).toArray s 0 0 (ss_A G)) g
theorem ck_M_draw {N : Nat} {this : Option Nat} {a1 : Int32} {h : ss_Hp} {res : Int32 × ss_Hp} (hm : mm_M_draw N this a1 h = some res) : ss_is h this 12 = true := (ss_chk hm).1
set_option maxHeartbeats 4000000 in
set_option maxRecDepth 100000 in
theorem cc_M_draw (l : Launch) (G : ss_G) (N : Nat) (this : Option Nat) (a1 : Int32) (h : ss_Hp) (rr : Int32) (hh : ss_Hp) (hm : mm_M_draw N this a1 h = some (rr, hh)) : ss_Ct l G yy_M_draw bb_M_draw 2 (some (.int)) ({ frames := 0, cells := 0, slots := 0, locals := 0 }) [ss_v (ss_b G) this, .int a1] h (some (.int rr)) hh := by
  obtain ⟨hck, hm⟩ := ss_chk hm
  refine Met.ofW (cc := bb_M_draw) (maxL := 2) (ret := (some (.int))) (by decide) rfl ?_
  intro p e s m args below meth c s₁ B hml hv
  obtain ⟨rfl, hR, hK⟩ := hv
  have hC : CallFix p m c bb_M_draw 2 s _ lw_g sR_12 := ⟨B.exec, B.bytes, hml, findClass_of_methodNamed B.named, fun w hw => atoms_spec (ws := ss_w yy_M_draw bb_M_draw 2 (some (.int))) B.pre w (List.mem_cons_of_mem _ hw)⟩
  have hx := hC.1
  have hb := hC.2.1
  have hr := B.returns
  have hlocks := B.notSynchronized
  have hS : va_S (ss_A G) s.heap s.heap [] := va_S.rf
  have hl := lv_entry ([ss_v (ss_b G) this, .int a1]) (n := 2) (by simp [lg_sl, ss_v_cat, ss_cat_i, ss_cat_l, ss_cat_r])
  rw [lg_entry_eq]
  generalize (lg_sl ([ss_v (ss_b G) this, .int a1]) ++ List.replicate (2 - (lg_sl ([ss_v (ss_b G) this, .int a1])).length) Slot.unset).toArray = ls at hl ⊢
  have hl : lv_has ls 2 [(0, ss_v (ss_b G) this), (1, .int a1)] := by simpa [lv_args, ss_v_cat, ss_cat_i, ss_cat_l, ss_cat_r] using hl
  refine ss_aload_n hx hb dd_M_draw_0 rfl (lv_at hl 0 rfl) ?_
  refine ss_aload_n hx hb dd_M_draw_1 rfl (lv_at hl 0 rfl) ?_
  obtain ⟨v1, qv1, hm⟩ := ss_bind hm
  refine ss_getl hC hK hR kf_M_444 rfl qv1 dd_M_draw_2 ?_
  refine lv_ldc2 (v := 1103515245) hx hb hC.2.2.2.1 (hC.2.2.2.2 _ kl_M_448) dd_M_draw_5 ?_
  refine lv_lmul hx hb dd_M_draw_8 ?_
  refine lv_ldc2 (v := 12345) hx hb hC.2.2.2.1 (hC.2.2.2.2 _ kl_M_450) dd_M_draw_9 ?_
  refine lv_ladd hx hb dd_M_draw_12 ?_
  refine lv_ldc2 (v := 2147483648) hx hb hC.2.2.2.1 (hC.2.2.2.2 _ kl_M_452) dd_M_draw_13 ?_
  obtain ⟨v2, qv2, hm⟩ := ss_bind hm
  refine ss_lrm hx hb qv2 dd_M_draw_16 ?_
  obtain ⟨h3, qh3, hm⟩ := ss_bind hm
  refine ss_putl hC hK hR hS kp_M_444 rfl qh3 dd_M_draw_17 (fun H locs hR hS => ?_)
  refine ss_aload_n hx hb dd_M_draw_20 rfl (lv_at hl 0 rfl) ?_
  obtain ⟨v4, qv4, hm⟩ := ss_bind hm
  refine ss_getl hC hK hR kf_M_444 rfl qv4 dd_M_draw_21 ?_
  refine lv_ldc2 (v := 65536) hx hb hC.2.2.2.1 (hC.2.2.2.2 _ kl_M_454) dd_M_draw_24 ?_
  obtain ⟨v5, qv5, hm⟩ := ss_bind hm
  refine ss_ldv hx hb qv5 dd_M_draw_27 ?_
  refine lv_iload_n hx hb dd_M_draw_28 rfl (lv_at hl 1 rfl) ?_
  refine lv_i2l hx hb dd_M_draw_29 rfl ?_
  obtain ⟨v6, qv6, hm⟩ := ss_bind hm
  refine ss_lrm hx hb qv6 dd_M_draw_30 ?_
  refine lv_l2i hx hb dd_M_draw_31 rfl ?_
  exact ss_iret hC hr hlocks hR hS hm dd_M_draw_32
theorem dd_M_storms_0 : decode bb_M_storms 0 = .ok (.aload_n 0, 1) := by decide +kernel
theorem dd_M_storms_1 : decode bb_M_storms 1 = .ok (.invokevirtual 366, 3) := by decide +kernel
theorem dd_M_storms_4 : decode bb_M_storms 4 = .ok (.ifCond .eq 50, 3) := by decide +kernel
theorem dd_M_storms_7 : decode bb_M_storms 7 = .ok (.iload_n 1, 1) := by decide +kernel
theorem dd_M_storms_8 : decode bb_M_storms 8 = .ok (.i2l, 1) := by decide +kernel
theorem dd_M_storms_9 : decode bb_M_storms 9 = .ok (.lconst 1, 1) := by decide +kernel
theorem dd_M_storms_10 : decode bb_M_storms 10 = .ok (.ldc2_w 396, 3) := by decide +kernel
theorem dd_M_storms_13 : decode bb_M_storms 13 = .ok (.invokestatic 124, 3) := by decide +kernel
theorem dd_M_storms_16 : decode bb_M_storms 16 = .ok (.ifCond .eq 38, 3) := by decide +kernel
theorem dd_M_storms_19 : decode bb_M_storms 19 = .ok (.iload_n 2, 1) := by decide +kernel
theorem dd_M_storms_20 : decode bb_M_storms 20 = .ok (.i2l, 1) := by decide +kernel
theorem dd_M_storms_21 : decode bb_M_storms 21 = .ok (.lconst 1, 1) := by decide +kernel
theorem dd_M_storms_22 : decode bb_M_storms 22 = .ok (.ldc2_w 391, 3) := by decide +kernel
theorem dd_M_storms_25 : decode bb_M_storms 25 = .ok (.invokestatic 124, 3) := by decide +kernel
theorem dd_M_storms_28 : decode bb_M_storms 28 = .ok (.ifCond .eq 26, 3) := by decide +kernel
theorem dd_M_storms_31 : decode bb_M_storms 31 = .ok (.iload_n 3, 1) := by decide +kernel
theorem dd_M_storms_32 : decode bb_M_storms 32 = .ok (.i2l, 1) := by decide +kernel
theorem dd_M_storms_33 : decode bb_M_storms 33 = .ok (.lconst 0, 1) := by decide +kernel
theorem dd_M_storms_34 : decode bb_M_storms 34 = .ok (.ldc2_w 383, 3) := by decide +kernel
theorem dd_M_storms_37 : decode bb_M_storms 37 = .ok (.invokestatic 124, 3) := by decide +kernel
theorem dd_M_storms_40 : decode bb_M_storms 40 = .ok (.ifCond .eq 14, 3) := by decide +kernel
theorem dd_M_storms_43 : decode bb_M_storms 43 = .ok (.iload 4, 2) := by decide +kernel
theorem dd_M_storms_45 : decode bb_M_storms 45 = .ok (.i2l, 1) := by decide +kernel
theorem dd_M_storms_46 : decode bb_M_storms 46 = .ok (.lconst 0, 1) := by decide +kernel
theorem dd_M_storms_47 : decode bb_M_storms 47 = .ok (.lconst 1, 1) := by decide +kernel
theorem dd_M_storms_48 : decode bb_M_storms 48 = .ok (.invokestatic 124, 3) := by decide +kernel
theorem dd_M_storms_51 : decode bb_M_storms 51 = .ok (.ifCond .ne 5, 3) := by decide +kernel
theorem dd_M_storms_54 : decode bb_M_storms 54 = .ok (.iconst (-1), 1) := by decide +kernel
theorem dd_M_storms_55 : decode bb_M_storms 55 = .ok (.ireturn, 1) := by decide +kernel
theorem dd_M_storms_56 : decode bb_M_storms 56 = .ok (.aload_n 0, 1) := by decide +kernel
theorem dd_M_storms_57 : decode bb_M_storms 57 = .ok (.aload_n 0, 1) := by decide +kernel
theorem dd_M_storms_58 : decode bb_M_storms 58 = .ok (.getfield 441, 3) := by decide +kernel
theorem dd_M_storms_61 : decode bb_M_storms 61 = .ok (.i2l, 1) := by decide +kernel
theorem dd_M_storms_62 : decode bb_M_storms 62 = .ok (.putfield 444, 3) := by decide +kernel
theorem dd_M_storms_65 : decode bb_M_storms 65 = .ok (.iconst 0, 1) := by decide +kernel
theorem dd_M_storms_66 : decode bb_M_storms 66 = .ok (.istore 5, 2) := by decide +kernel
theorem dd_M_storms_68 : decode bb_M_storms 68 = .ok (.iconst 0, 1) := by decide +kernel
theorem dd_M_storms_69 : decode bb_M_storms 69 = .ok (.istore 6, 2) := by decide +kernel
theorem dd_M_storms_71 : decode bb_M_storms 71 = .ok (.aload_n 0, 1) := by decide +kernel
theorem dd_M_storms_72 : decode bb_M_storms 72 = .ok (.invokevirtual 385, 3) := by decide +kernel
theorem dd_M_storms_75 : decode bb_M_storms 75 = .ok (.iconst 0, 1) := by decide +kernel
theorem dd_M_storms_76 : decode bb_M_storms 76 = .ok (.istore 7, 2) := by decide +kernel
theorem dd_M_storms_78 : decode bb_M_storms 78 = .ok (.iload 7, 2) := by decide +kernel
theorem dd_M_storms_80 : decode bb_M_storms 80 = .ok (.iload_n 1, 1) := by decide +kernel
theorem dd_M_storms_81 : decode bb_M_storms 81 = .ok (.if_icmp .ge 115, 3) := by decide +kernel
theorem dd_M_storms_84 : decode bb_M_storms 84 = .ok (.iconst 0, 1) := by decide +kernel
theorem dd_M_storms_85 : decode bb_M_storms 85 = .ok (.istore 8, 2) := by decide +kernel
theorem dd_M_storms_87 : decode bb_M_storms 87 = .ok (.iload 8, 2) := by decide +kernel
theorem dd_M_storms_89 : decode bb_M_storms 89 = .ok (.iload_n 2, 1) := by decide +kernel
theorem dd_M_storms_90 : decode bb_M_storms 90 = .ok (.if_icmp .ge 75, 3) := by decide +kernel
theorem dd_M_storms_93 : decode bb_M_storms 93 = .ok (.aload_n 0, 1) := by decide +kernel
theorem dd_M_storms_94 : decode bb_M_storms 94 = .ok (.bipush 100, 2) := by decide +kernel
theorem dd_M_storms_96 : decode bb_M_storms 96 = .ok (.invokevirtual 456, 3) := by decide +kernel
theorem dd_M_storms_99 : decode bb_M_storms 99 = .ok (.iload_n 3, 1) := by decide +kernel
theorem dd_M_storms_100 : decode bb_M_storms 100 = .ok (.if_icmp .ge 54, 3) := by decide +kernel
theorem dd_M_storms_103 : decode bb_M_storms 103 = .ok (.aload_n 0, 1) := by decide +kernel
theorem dd_M_storms_104 : decode bb_M_storms 104 = .ok (.getfield 39, 3) := by decide +kernel
theorem dd_M_storms_107 : decode bb_M_storms 107 = .ok (.iconst 2, 1) := by decide +kernel
theorem dd_M_storms_108 : decode bb_M_storms 108 = .ok (.iaload, 1) := by decide +kernel
theorem dd_M_storms_109 : decode bb_M_storms 109 = .ok (.ifCond .le 45, 3) := by decide +kernel
theorem dd_M_storms_112 : decode bb_M_storms 112 = .ok (.aload_n 0, 1) := by decide +kernel
theorem dd_M_storms_113 : decode bb_M_storms 113 = .ok (.aload_n 0, 1) := by decide +kernel
theorem dd_M_storms_114 : decode bb_M_storms 114 = .ok (.getfield 39, 3) := by decide +kernel
theorem dd_M_storms_117 : decode bb_M_storms 117 = .ok (.iconst 2, 1) := by decide +kernel
theorem dd_M_storms_118 : decode bb_M_storms 118 = .ok (.iaload, 1) := by decide +kernel
theorem dd_M_storms_119 : decode bb_M_storms 119 = .ok (.invokevirtual 456, 3) := by decide +kernel
theorem dd_M_storms_122 : decode bb_M_storms 122 = .ok (.istore 9, 2) := by decide +kernel
theorem dd_M_storms_124 : decode bb_M_storms 124 = .ok (.aload_n 0, 1) := by decide +kernel
theorem dd_M_storms_125 : decode bb_M_storms 125 = .ok (.getfield 39, 3) := by decide +kernel
theorem dd_M_storms_128 : decode bb_M_storms 128 = .ok (.bipush 14, 2) := by decide +kernel
theorem dd_M_storms_130 : decode bb_M_storms 130 = .ok (.iload 9, 2) := by decide +kernel
theorem dd_M_storms_132 : decode bb_M_storms 132 = .ok (.iadd, 1) := by decide +kernel
theorem dd_M_storms_133 : decode bb_M_storms 133 = .ok (.aload_n 0, 1) := by decide +kernel
theorem dd_M_storms_134 : decode bb_M_storms 134 = .ok (.getfield 39, 3) := by decide +kernel
theorem dd_M_storms_137 : decode bb_M_storms 137 = .ok (.bipush 14, 2) := by decide +kernel
theorem dd_M_storms_139 : decode bb_M_storms 139 = .ok (.iload 9, 2) := by decide +kernel
theorem dd_M_storms_141 : decode bb_M_storms 141 = .ok (.iadd, 1) := by decide +kernel
theorem dd_M_storms_142 : decode bb_M_storms 142 = .ok (.iaload, 1) := by decide +kernel
theorem dd_M_storms_143 : decode bb_M_storms 143 = .ok (.aload_n 0, 1) := by decide +kernel
theorem dd_M_storms_144 : decode bb_M_storms 144 = .ok (.getfield 39, 3) := by decide +kernel
theorem dd_M_storms_147 : decode bb_M_storms 147 = .ok (.iconst 0, 1) := by decide +kernel
theorem dd_M_storms_148 : decode bb_M_storms 148 = .ok (.iaload, 1) := by decide +kernel
theorem dd_M_storms_149 : decode bb_M_storms 149 = .ok (.iadd, 1) := by decide +kernel
theorem dd_M_storms_150 : decode bb_M_storms 150 = .ok (.invokestatic 333, 3) := by decide +kernel
theorem dd_M_storms_153 : decode bb_M_storms 153 = .ok (.iastore, 1) := by decide +kernel
theorem dd_M_storms_154 : decode bb_M_storms 154 = .ok (.aload_n 0, 1) := by decide +kernel
theorem dd_M_storms_155 : decode bb_M_storms 155 = .ok (.invokevirtual 372, 3) := by decide +kernel
theorem dd_M_storms_158 : decode bb_M_storms 158 = .ok (.pop, 1) := by decide +kernel
theorem dd_M_storms_159 : decode bb_M_storms 159 = .ok (.iinc 8 1, 3) := by decide +kernel
theorem dd_M_storms_162 : decode bb_M_storms 162 = .ok (.goto (-75), 3) := by decide +kernel
theorem dd_M_storms_165 : decode bb_M_storms 165 = .ok (.iload 5, 2) := by decide +kernel
theorem dd_M_storms_167 : decode bb_M_storms 167 = .ok (.aload_n 0, 1) := by decide +kernel
theorem dd_M_storms_168 : decode bb_M_storms 168 = .ok (.invokevirtual 380, 3) := by decide +kernel
theorem dd_M_storms_171 : decode bb_M_storms 171 = .ok (.iadd, 1) := by decide +kernel
theorem dd_M_storms_172 : decode bb_M_storms 172 = .ok (.istore 5, 2) := by decide +kernel
theorem dd_M_storms_174 : decode bb_M_storms 174 = .ok (.iload 6, 2) := by decide +kernel
theorem dd_M_storms_176 : decode bb_M_storms 176 = .ok (.aload_n 0, 1) := by decide +kernel
theorem dd_M_storms_177 : decode bb_M_storms 177 = .ok (.invokevirtual 340, 3) := by decide +kernel
theorem dd_M_storms_180 : decode bb_M_storms 180 = .ok (.invokestatic 343, 3) := by decide +kernel
theorem dd_M_storms_183 : decode bb_M_storms 183 = .ok (.iadd, 1) := by decide +kernel
theorem dd_M_storms_184 : decode bb_M_storms 184 = .ok (.istore 6, 2) := by decide +kernel
theorem dd_M_storms_186 : decode bb_M_storms 186 = .ok (.aload_n 0, 1) := by decide +kernel
theorem dd_M_storms_187 : decode bb_M_storms 187 = .ok (.invokevirtual 388, 3) := by decide +kernel
theorem dd_M_storms_190 : decode bb_M_storms 190 = .ok (.iinc 7 1, 3) := by decide +kernel
theorem dd_M_storms_193 : decode bb_M_storms 193 = .ok (.goto (-115), 3) := by decide +kernel
theorem dd_M_storms_196 : decode bb_M_storms 196 = .ok (.iload 4, 2) := by decide +kernel
theorem dd_M_storms_198 : decode bb_M_storms 198 = .ok (.ifCond .ne 8, 3) := by decide +kernel
theorem dd_M_storms_201 : decode bb_M_storms 201 = .ok (.iload 5, 2) := by decide +kernel
theorem dd_M_storms_203 : decode bb_M_storms 203 = .ok (.goto 5, 3) := by decide +kernel
theorem dd_M_storms_206 : decode bb_M_storms 206 = .ok (.iload 6, 2) := by decide +kernel
theorem dd_M_storms_208 : decode bb_M_storms 208 = .ok (.ireturn, 1) := by decide +kernel
def mm_M_storms_j54 (N : Nat) (this : Option Nat) (a1 : Int32) (a2 : Int32) (a3 : Int32) (a4 : Int32) (h_54 : ss_Hp) : Option (Int32 × ss_Hp) :=
  some ((-1 : Int32), h_54)
def mm_M_storms_j208 (N : Nat) (this : Option Nat) (a1 : Int32) (a2 : Int32) (a3 : Int32) (a4 : Int32) (s0_208 : Int32) (h_208 : ss_Hp) : Option (Int32 × ss_Hp) :=
  some (s0_208, h_208)
def mm_M_storms_j154 (N : Nat) (this : Option Nat) (a1 : Int32) (a2 : Int32) (a3 : Int32) (a4 : Int32) (x5_78 : Int32) (x6_78 : Int32) (x7_78 : Int32) (x8_154 : Int32) (h_154 : ss_Hp) : Option ((Int32 × ss_Hp) ⊕ ss_Hp) :=
  ss_b2 (mm_M_passes N this h_154) fun v23 h24 =>
  (some (x8_154 + (1 : Int32))).bind fun v25 =>
  some (.inl (v25, h24))
def mm_M_storms_b87 (N : Nat) (this : Option Nat) (a1 : Int32) (a2 : Int32) (a3 : Int32) (a4 : Int32) (x5_78 : Int32) (x6_78 : Int32) (x7_78 : Int32) (st : Int32 × ss_Hp) : Option ((Int32 × ss_Hp) ⊕ ss_Hp) :=
  match st with
  | (x8_87, h_87) =>
    if a2 ≤ x8_87 then
      some (.inr h_87)
    else
      ss_b2 (mm_M_draw N this (100 : Int32) h_87) fun v27 h28 =>
      if a3 ≤ v27 then
        mm_M_storms_j154 N this a1 a2 a3 a4 x5_78 x6_78 x7_78 x8_87 h28
      else
        (ss_gr h28 this 12 9).bind fun r30 =>
        (ss_ai h28 r30 20 (2 : Int32)).bind fun v31 =>
        if v31 ≤ 0 then
          mm_M_storms_j154 N this a1 a2 a3 a4 x5_78 x6_78 x7_78 x8_87 h28
        else
          (ss_gr h28 this 12 9).bind fun r33 =>
          (ss_ai h28 r33 20 (2 : Int32)).bind fun v34 =>
          ss_b2 (mm_M_draw N this v34 h28) fun v35 h36 =>
          (ss_gr h36 this 12 9).bind fun r37 =>
          (ss_gr h36 this 12 9).bind fun r38 =>
          (ss_ai h36 r38 20 ((14 : Int32) + v35)).bind fun v39 =>
          (ss_gr h36 this 12 9).bind fun r40 =>
          (ss_ai h36 r40 20 (0 : Int32)).bind fun v41 =>
          (mm_M_held N (v39 + v41)).bind fun v42 =>
          (ss_ui h36 r37 20 ((14 : Int32) + v35) v42).bind fun h43 =>
          mm_M_storms_j154 N this a1 a2 a3 a4 x5_78 x6_78 x7_78 x8_87 h43
def mm_M_storms_b78 (N : Nat) (this : Option Nat) (a1 : Int32) (a2 : Int32) (a3 : Int32) (a4 : Int32) (st : Int32 × Int32 × Int32 × ss_Hp) : Option ((Int32 × Int32 × Int32 × ss_Hp) ⊕ (Int32 × Int32 × ss_Hp)) :=
  match st with
  | (x5_78, x6_78, x7_78, h_78) =>
    if a1 ≤ x7_78 then
      some (.inr (x5_78, x6_78, h_78))
    else
      (ss_lp (mm_M_storms_b87 N this a1 a2 a3 a4 x5_78 x6_78 x7_78) N ((0 : Int32), h_78)).bind fun h_87_165 =>
      (mm_M_snowAll N this h_87_165).bind fun v16 =>
      (some (x5_78 + v16)).bind fun v17 =>
      (mm_M_closed N this h_87_165).bind fun v18 =>
      (mm_M_bits N v18).bind fun v19 =>
      (some (x6_78 + v19)).bind fun v20 =>
      (mm_M_laysBack N this h_87_165).bind fun h21 =>
      (some (x7_78 + (1 : Int32))).bind fun v22 =>
      some (.inl (v17, v20, v22, h21))
def mm_M_storms (N : Nat) (this : Option Nat) (a1 : Int32) (a2 : Int32) (a3 : Int32) (a4 : Int32) (h : ss_Hp) : Option (Int32 × ss_Hp) :=
  if ss_is h this 12 = true then
    (mm_M_isValley N this h).bind fun v1 =>
    if v1 = 0 then
      mm_M_storms_j54 N this a1 a2 a3 a4 h
    else
      (mm_M_in N ((a1).toInt64) (1 : Int64) (10 : Int64)).bind fun v3 =>
      if v3 = 0 then
        mm_M_storms_j54 N this a1 a2 a3 a4 h
      else
        (mm_M_in N ((a2).toInt64) (1 : Int64) (60 : Int64)).bind fun v5 =>
        if v5 = 0 then
          mm_M_storms_j54 N this a1 a2 a3 a4 h
        else
          (mm_M_in N ((a3).toInt64) (0 : Int64) (100 : Int64)).bind fun v7 =>
          if v7 = 0 then
            mm_M_storms_j54 N this a1 a2 a3 a4 h
          else
            (mm_M_in N ((a4).toInt64) (0 : Int64) (1 : Int64)).bind fun v9 =>
            if v9 = 0 then
              mm_M_storms_j54 N this a1 a2 a3 a4 h
            else
              (ss_gi h this 12 14).bind fun v11 =>
              (ss_pl h this 12 0 ((v11).toInt64)).bind fun h12 =>
              (mm_M_keeps N this h12).bind fun h13 =>
              (ss_lp (mm_M_storms_b78 N this a1 a2 a3 a4) N ((0 : Int32), (0 : Int32), (0 : Int32), h13)).bind fun e_78 =>
              match e_78 with
              | (y5_78_196, y6_78_196, h_78_196) =>
                if a4 = 0 then
                  mm_M_storms_j208 N this a1 a2 a3 a4 y5_78_196 h_78_196
                else
                  mm_M_storms_j208 N this a1 a2 a3 a4 y6_78_196 h_78_196
  else none
abbrev ww_M_storms (p : Program) (l : Launch) (e : Env) (s : State) (m : MethodId) (below : List Frame) (meth : Method) (c : Code) (G : ss_G) (this : Option Nat) (a1 : Int32) (a2 : Int32) (a3 : Int32) (a4 : Int32) (h : ss_Hp) (rr : Int32) (hh : ss_Hp) (H : Heap) (locs : List Loc) (k n : Nat) (g : JFrame) : Prop := W p l e (headSpec (ss_w yy_M_storms bb_M_storms 10 (some (.int))) ({ frames := 5, cells := 0, slots := 0, locals := 126 })).room s m ([ss_v (ss_b G) this, .int a1, .int a2, .int a3, .int a4] : List Value).toArray below meth c H locs k n (MQ below (ss_Qc G (some (.int rr)) hh) ([ss_v (ss_b G) this, .int a1, .int a2, .int a3, .int a4] : List Value).toArray s 0 0 (ss_A G)) g
theorem ck_M_storms {N : Nat} {this : Option Nat} {a1 : Int32} {a2 : Int32} {a3 : Int32} {a4 : Int32} {h : ss_Hp} {res : Int32 × ss_Hp} (hm : mm_M_storms N this a1 a2 a3 a4 h = some res) : ss_is h this 12 = true := (ss_chk hm).1
set_option maxHeartbeats 4000000 in
set_option maxRecDepth 100000 in
theorem cc_M_storms (l : Launch) (G : ss_G) (N : Nat) (this : Option Nat) (a1 : Int32) (a2 : Int32) (a3 : Int32) (a4 : Int32) (h : ss_Hp) (rr : Int32) (hh : ss_Hp) (hm : mm_M_storms N this a1 a2 a3 a4 h = some (rr, hh)) : ss_Ct l G yy_M_storms bb_M_storms 10 (some (.int)) ({ frames := 5, cells := 0, slots := 0, locals := 126 }) [ss_v (ss_b G) this, .int a1, .int a2, .int a3, .int a4] h (some (.int rr)) hh := by
  obtain ⟨hck, hm⟩ := ss_chk hm
  refine Met.ofW (cc := bb_M_storms) (maxL := 10) (ret := (some (.int))) (by decide) rfl ?_
  intro p e s m args below meth c s₁ B hml hv
  obtain ⟨rfl, hR, hK⟩ := hv
  have hC : CallFix p m c bb_M_storms 10 s _ lw_g sR_12 := ⟨B.exec, B.bytes, hml, findClass_of_methodNamed B.named, fun w hw => atoms_spec (ws := ss_w yy_M_storms bb_M_storms 10 (some (.int))) B.pre w (List.mem_cons_of_mem _ hw)⟩
  have hx := hC.1
  have hb := hC.2.1
  have hr := B.returns
  have hlocks := B.notSynchronized
  have hS : va_S (ss_A G) s.heap s.heap [] := va_S.rf
  have hl := lv_entry ([ss_v (ss_b G) this, .int a1, .int a2, .int a3, .int a4]) (n := 10) (by simp [lg_sl, ss_v_cat, ss_cat_i, ss_cat_l, ss_cat_r])
  rw [lg_entry_eq]
  generalize (lg_sl ([ss_v (ss_b G) this, .int a1, .int a2, .int a3, .int a4]) ++ List.replicate (10 - (lg_sl ([ss_v (ss_b G) this, .int a1, .int a2, .int a3, .int a4])).length) Slot.unset).toArray = ls at hl ⊢
  have hl : lv_has ls 10 [(0, ss_v (ss_b G) this), (1, .int a1), (2, .int a2), (3, .int a3), (4, .int a4)] := by simpa [lv_args, ss_v_cat, ss_cat_i, ss_cat_l, ss_cat_r] using hl
  have J_54 : ∀ (h_54 : ss_Hp) (H : Heap) (locs : List Loc) (ls : Array Slot), mm_M_storms_j54 N this a1 a2 a3 a4 h_54 = some (rr, hh) → ss_R G h_54 H → va_S (ss_A G) s.heap H locs → lv_has ls 10 [] → ww_M_storms p l e s m below meth c G this a1 a2 a3 a4 h rr hh  H locs 0 0 (F0 m 54 ls []) := by
    intro h_54 H locs ls hm hR hS hl
    refine lv_iconst (v := -1) hx hb dd_M_storms_54 (by decide) ?_
    exact ss_iret hC hr hlocks hR hS hm dd_M_storms_55
  have J_208 : ∀ (s0_208 : Int32) (h_208 : ss_Hp) (H : Heap) (locs : List Loc) (ls : Array Slot), mm_M_storms_j208 N this a1 a2 a3 a4 s0_208 h_208 = some (rr, hh) → ss_R G h_208 H → va_S (ss_A G) s.heap H locs → lv_has ls 10 [] → ww_M_storms p l e s m below meth c G this a1 a2 a3 a4 h rr hh  H locs 0 0 (F0 m 208 ls [.int s0_208]) := by
    intro s0_208 h_208 H locs ls hm hR hS hl
    exact ss_iret hC hr hlocks hR hS hm dd_M_storms_208
  refine ss_aload_n hx hb dd_M_storms_0 rfl (lv_at hl 0 rfl) ?_
  obtain ⟨v1, qv1, hm⟩ := ss_bind hm
  refine ss_cV 0 0 (As := []) hC hK hR hS hl.1 (cc_M_isValley l G N _ _ _ qv1) km_M_366 (ck_M_isValley qv1) ⟨Nat.le_of_ble_eq_true rfl, Nat.le_of_ble_eq_true rfl⟩ ⟨Nat.le_of_ble_eq_true rfl, Nat.le_of_ble_eq_true rfl, Nat.le_of_ble_eq_true rfl, Nat.le_of_ble_eq_true rfl⟩ rfl rfl (Nat.le_of_ble_eq_true rfl) dd_M_storms_1 (fun H locs hR hS => ?_)
  refine lv_if_eq (tgt := 54) hx hb dd_M_storms_4 (by decide) (fun c2 => ?_) (fun c2 => ?_)
  · have hm := ss_ift hm c2
    exact J_54 h _ _ _ hm hR hS (lv_sub hl [] rfl)
  · have hm := ss_iff hm c2
    refine lv_iload_n hx hb dd_M_storms_7 rfl (lv_at hl 1 rfl) ?_
    refine lv_i2l hx hb dd_M_storms_8 rfl ?_
    refine lv_lconst (v := 1) hx hb dd_M_storms_9 (by decide) ?_
    refine lv_ldc2 (v := 10) hx hb hC.2.2.2.1 (hC.2.2.2.2 _ kl_M_396) dd_M_storms_10 ?_
    obtain ⟨v3, qv3, hm⟩ := ss_bind hm
    refine ss_cS 0 0 (As := [.long ((a1).toInt64), .long (1 : Int64), .long (10 : Int64)]) hC hK hR hS hl.1 (cc_M_in l G N _ _ _ _ _ qv3) km_M_124 ⟨Nat.le_of_ble_eq_true rfl, Nat.le_of_ble_eq_true rfl⟩ ⟨Nat.le_of_ble_eq_true rfl, Nat.le_of_ble_eq_true rfl, Nat.le_of_ble_eq_true rfl, Nat.le_of_ble_eq_true rfl⟩ rfl rfl (Nat.le_of_ble_eq_true rfl) dd_M_storms_13 (fun H locs hR hS => ?_)
    refine lv_if_eq (tgt := 54) hx hb dd_M_storms_16 (by decide) (fun c4 => ?_) (fun c4 => ?_)
    · have hm := ss_ift hm c4
      exact J_54 h _ _ _ hm hR hS (lv_sub hl [] rfl)
    · have hm := ss_iff hm c4
      refine lv_iload_n hx hb dd_M_storms_19 rfl (lv_at hl 2 rfl) ?_
      refine lv_i2l hx hb dd_M_storms_20 rfl ?_
      refine lv_lconst (v := 1) hx hb dd_M_storms_21 (by decide) ?_
      refine lv_ldc2 (v := 60) hx hb hC.2.2.2.1 (hC.2.2.2.2 _ kl_M_391) dd_M_storms_22 ?_
      obtain ⟨v5, qv5, hm⟩ := ss_bind hm
      refine ss_cS 0 0 (As := [.long ((a2).toInt64), .long (1 : Int64), .long (60 : Int64)]) hC hK hR hS hl.1 (cc_M_in l G N _ _ _ _ _ qv5) km_M_124 ⟨Nat.le_of_ble_eq_true rfl, Nat.le_of_ble_eq_true rfl⟩ ⟨Nat.le_of_ble_eq_true rfl, Nat.le_of_ble_eq_true rfl, Nat.le_of_ble_eq_true rfl, Nat.le_of_ble_eq_true rfl⟩ rfl rfl (Nat.le_of_ble_eq_true rfl) dd_M_storms_25 (fun H locs hR hS => ?_)
      refine lv_if_eq (tgt := 54) hx hb dd_M_storms_28 (by decide) (fun c6 => ?_) (fun c6 => ?_)
      · have hm := ss_ift hm c6
        exact J_54 h _ _ _ hm hR hS (lv_sub hl [] rfl)
      · have hm := ss_iff hm c6
        refine lv_iload_n hx hb dd_M_storms_31 rfl (lv_at hl 3 rfl) ?_
        refine lv_i2l hx hb dd_M_storms_32 rfl ?_
        refine lv_lconst (v := 0) hx hb dd_M_storms_33 (by decide) ?_
        refine lv_ldc2 (v := 100) hx hb hC.2.2.2.1 (hC.2.2.2.2 _ kl_M_383) dd_M_storms_34 ?_
        obtain ⟨v7, qv7, hm⟩ := ss_bind hm
        refine ss_cS 0 0 (As := [.long ((a3).toInt64), .long (0 : Int64), .long (100 : Int64)]) hC hK hR hS hl.1 (cc_M_in l G N _ _ _ _ _ qv7) km_M_124 ⟨Nat.le_of_ble_eq_true rfl, Nat.le_of_ble_eq_true rfl⟩ ⟨Nat.le_of_ble_eq_true rfl, Nat.le_of_ble_eq_true rfl, Nat.le_of_ble_eq_true rfl, Nat.le_of_ble_eq_true rfl⟩ rfl rfl (Nat.le_of_ble_eq_true rfl) dd_M_storms_37 (fun H locs hR hS => ?_)
        refine lv_if_eq (tgt := 54) hx hb dd_M_storms_40 (by decide) (fun c8 => ?_) (fun c8 => ?_)
        · have hm := ss_ift hm c8
          exact J_54 h _ _ _ hm hR hS (lv_sub hl [] rfl)
        · have hm := ss_iff hm c8
          refine lv_iload hx hb dd_M_storms_43 (lv_at hl 4 rfl) ?_
          refine lv_i2l hx hb dd_M_storms_45 rfl ?_
          refine lv_lconst (v := 0) hx hb dd_M_storms_46 (by decide) ?_
          refine lv_lconst (v := 1) hx hb dd_M_storms_47 (by decide) ?_
          obtain ⟨v9, qv9, hm⟩ := ss_bind hm
          refine ss_cS 0 0 (As := [.long ((a4).toInt64), .long (0 : Int64), .long (1 : Int64)]) hC hK hR hS hl.1 (cc_M_in l G N _ _ _ _ _ qv9) km_M_124 ⟨Nat.le_of_ble_eq_true rfl, Nat.le_of_ble_eq_true rfl⟩ ⟨Nat.le_of_ble_eq_true rfl, Nat.le_of_ble_eq_true rfl, Nat.le_of_ble_eq_true rfl, Nat.le_of_ble_eq_true rfl⟩ rfl rfl (Nat.le_of_ble_eq_true rfl) dd_M_storms_48 (fun H locs hR hS => ?_)
          refine lv_if_ne (tgt := 56) hx hb dd_M_storms_51 (by decide) (fun c10 => ?_) (fun c10 => ?_)
          · have hm := ss_iff hm c10
            refine ss_aload_n hx hb dd_M_storms_56 rfl (lv_at hl 0 rfl) ?_
            refine ss_aload_n hx hb dd_M_storms_57 rfl (lv_at hl 0 rfl) ?_
            obtain ⟨v11, qv11, hm⟩ := ss_bind hm
            refine ss_geti hC hK hR kf_M_441 qv11 dd_M_storms_58 ?_
            refine lv_i2l hx hb dd_M_storms_61 rfl ?_
            obtain ⟨h12, qh12, hm⟩ := ss_bind hm
            refine ss_putl hC hK hR hS kp_M_444 rfl qh12 dd_M_storms_62 (fun H locs hR hS => ?_)
            refine lv_iconst (v := 0) hx hb dd_M_storms_65 (by decide) ?_
            refine lv_istore (lv' := [(5, .int (0 : Int32)), (0, ss_v (ss_b G) this), (1, .int a1), (2, .int a2), (3, .int a3), (4, .int a4)]) hx hb dd_M_storms_66 hl (by decide) rfl (fun ls hl => ?_)
            refine lv_iconst (v := 0) hx hb dd_M_storms_68 (by decide) ?_
            refine lv_istore (lv' := [(6, .int (0 : Int32)), (5, .int (0 : Int32)), (0, ss_v (ss_b G) this), (1, .int a1), (2, .int a2), (3, .int a3), (4, .int a4)]) hx hb dd_M_storms_69 hl (by decide) rfl (fun ls hl => ?_)
            refine ss_aload_n hx hb dd_M_storms_71 rfl (lv_at hl 2 rfl) ?_
            obtain ⟨h13, qh13, hm⟩ := ss_bind hm
            refine ss_cVv 0 0 (As := []) hC hK hR hS hl.1 (cc_M_keeps l G N _ _ _ qh13) km_M_385 (ck_M_keeps qh13) ⟨Nat.le_of_ble_eq_true rfl, Nat.le_of_ble_eq_true rfl⟩ ⟨Nat.le_of_ble_eq_true rfl, Nat.le_of_ble_eq_true rfl, Nat.le_of_ble_eq_true rfl, Nat.le_of_ble_eq_true rfl⟩ rfl rfl (Nat.le_of_ble_eq_true rfl) dd_M_storms_72 (fun H locs hR hS => ?_)
            refine lv_iconst (v := 0) hx hb dd_M_storms_75 (by decide) ?_
            refine lv_istore (lv' := [(7, .int (0 : Int32)), (6, .int (0 : Int32)), (5, .int (0 : Int32)), (0, ss_v (ss_b G) this), (1, .int a1), (2, .int a2), (3, .int a3), (4, .int a4)]) hx hb dd_M_storms_76 hl (by decide) rfl (fun ls hl => ?_)
            obtain ⟨e_78, he_78, hm⟩ := ss_bind hm
            have X_78_196 : ∀ (y5_78_196 : Int32) (y6_78_196 : Int32) (h_78_196 : ss_Hp) (H : Heap) (locs : List Loc) (ls : Array Slot), e_78 = (y5_78_196, y6_78_196, h_78_196) → ss_R G h_78_196 H → va_S (ss_A G) s.heap H locs → lv_has ls 10 [(4, .int a4), (5, .int y5_78_196), (6, .int y6_78_196)] → ww_M_storms p l e s m below meth c G this a1 a2 a3 a4 h rr hh  H locs 0 0 (F0 m 196 ls []) := by
              intro y5_78_196 y6_78_196 h_78_196 H locs ls hq hR hS hl
              rw [hq] at hm
              refine lv_iload hx hb dd_M_storms_196 (lv_at hl 0 rfl) ?_
              refine lv_if_ne (tgt := 206) hx hb dd_M_storms_198 (by decide) (fun c14 => ?_) (fun c14 => ?_)
              · have hm := ss_iff hm c14
                refine lv_iload hx hb dd_M_storms_206 (lv_at hl 2 rfl) ?_
                exact J_208 y6_78_196 h_78_196 _ _ _ hm hR hS (lv_sub hl [] rfl)
              · have hm := ss_ift hm c14
                refine lv_iload hx hb dd_M_storms_201 (lv_at hl 1 rfl) ?_
                refine lv_goto (tgt := 208) hx hb dd_M_storms_203 (by decide) ?_
                exact J_208 y5_78_196 h_78_196 _ _ _ hm hR hS (lv_sub hl [] rfl)
            have L_78 : ∀ (n : Nat) (x5_78 : Int32) (x6_78 : Int32) (x7_78 : Int32) (h_78 : ss_Hp) (H : Heap) (locs : List Loc) (ls : Array Slot), ss_lp (mm_M_storms_b78 N this a1 a2 a3 a4) n (x5_78, x6_78, x7_78, h_78) = some e_78 → ss_R G h_78 H → va_S (ss_A G) s.heap H locs → lv_has ls 10 [(0, ss_v (ss_b G) this), (1, .int a1), (2, .int a2), (3, .int a3), (4, .int a4), (5, .int x5_78), (6, .int x6_78), (7, .int x7_78)] → ww_M_storms p l e s m below meth c G this a1 a2 a3 a4 h rr hh  H locs 0 0 (F0 m 78 ls []) := by
              intro n
              induction n with
              | zero => intro x5_78 x6_78 x7_78 h_78 H locs ls hm; cases hm
              | succ n ih_78 =>
                intro x5_78 x6_78 x7_78 h_78 H locs ls hm hR hS hl
                obtain ⟨z_78, hm, hz1_78, hz2_78⟩ := ss_lps hm
                refine lv_iload hx hb dd_M_storms_78 (lv_at hl 7 rfl) ?_
                refine lv_iload_n hx hb dd_M_storms_80 rfl (lv_at hl 1 rfl) ?_
                refine lv_icmp_ge (tgt := 196) hx hb dd_M_storms_81 (by decide) (fun c15 => ?_) (fun c15 => ?_)
                · have hm := ss_ift hm c15
                  exact X_78_196 x5_78 x6_78 h_78 _ _ _ (hz2_78 _ (ss_some hm)) hR hS (lv_sub hl [4, 5, 6] rfl)
                · have hm := ss_iff hm c15
                  refine lv_iconst (v := 0) hx hb dd_M_storms_84 (by decide) ?_
                  refine lv_istore (lv' := [(8, .int (0 : Int32)), (0, ss_v (ss_b G) this), (1, .int a1), (2, .int a2), (3, .int a3), (4, .int a4), (5, .int x5_78), (6, .int x6_78), (7, .int x7_78)]) hx hb dd_M_storms_85 hl (by decide) rfl (fun ls hl => ?_)
                  obtain ⟨e_87, he_87, hm⟩ := ss_bind hm
                  have X_87_165 : ∀  (h_87_165 : ss_Hp) (H : Heap) (locs : List Loc) (ls : Array Slot), e_87 = h_87_165 → ss_R G h_87_165 H → va_S (ss_A G) s.heap H locs → lv_has ls 10 [(0, ss_v (ss_b G) this), (1, .int a1), (2, .int a2), (3, .int a3), (4, .int a4), (5, .int x5_78), (6, .int x6_78), (7, .int x7_78)] → ww_M_storms p l e s m below meth c G this a1 a2 a3 a4 h rr hh  H locs 0 0 (F0 m 165 ls []) := by
                    intro h_87_165 H locs ls hq hR hS hl
                    rw [hq] at hm
                    refine lv_iload hx hb dd_M_storms_165 (lv_at hl 5 rfl) ?_
                    refine ss_aload_n hx hb dd_M_storms_167 rfl (lv_at hl 0 rfl) ?_
                    obtain ⟨v16, qv16, hm⟩ := ss_bind hm
                    refine ss_cV 0 0 (As := []) hC hK hR hS hl.1 (cc_M_snowAll l G N _ _ _ qv16) km_M_380 (ck_M_snowAll qv16) ⟨Nat.le_of_ble_eq_true rfl, Nat.le_of_ble_eq_true rfl⟩ ⟨Nat.le_of_ble_eq_true rfl, Nat.le_of_ble_eq_true rfl, Nat.le_of_ble_eq_true rfl, Nat.le_of_ble_eq_true rfl⟩ rfl rfl (Nat.le_of_ble_eq_true rfl) dd_M_storms_168 (fun H locs hR hS => ?_)
                    refine lv_iadd hx hb dd_M_storms_171 ?_
                    obtain ⟨v17, qv17, hm⟩ := ss_bind hm
                    refine ss_topi qv17 ?_
                    refine lv_istore (lv' := [(5, .int v17), (0, ss_v (ss_b G) this), (1, .int a1), (2, .int a2), (3, .int a3), (4, .int a4), (6, .int x6_78), (7, .int x7_78)]) hx hb dd_M_storms_172 hl (by decide) rfl (fun ls hl => ?_)
                    refine lv_iload hx hb dd_M_storms_174 (lv_at hl 6 rfl) ?_
                    refine ss_aload_n hx hb dd_M_storms_176 rfl (lv_at hl 1 rfl) ?_
                    obtain ⟨v18, qv18, hm⟩ := ss_bind hm
                    refine ss_cV 0 0 (As := []) hC hK hR hS hl.1 (cc_M_closed l G N _ _ _ qv18) km_M_340 (ck_M_closed qv18) ⟨Nat.le_of_ble_eq_true rfl, Nat.le_of_ble_eq_true rfl⟩ ⟨Nat.le_of_ble_eq_true rfl, Nat.le_of_ble_eq_true rfl, Nat.le_of_ble_eq_true rfl, Nat.le_of_ble_eq_true rfl⟩ rfl rfl (Nat.le_of_ble_eq_true rfl) dd_M_storms_177 (fun H locs hR hS => ?_)
                    obtain ⟨v19, qv19, hm⟩ := ss_bind hm
                    refine ss_cS 0 0 (As := [.int v18]) hC hK hR hS hl.1 (cc_M_bits l G N _ _ _ qv19) km_M_343 ⟨Nat.le_of_ble_eq_true rfl, Nat.le_of_ble_eq_true rfl⟩ ⟨Nat.le_of_ble_eq_true rfl, Nat.le_of_ble_eq_true rfl, Nat.le_of_ble_eq_true rfl, Nat.le_of_ble_eq_true rfl⟩ rfl rfl (Nat.le_of_ble_eq_true rfl) dd_M_storms_180 (fun H locs hR hS => ?_)
                    refine lv_iadd hx hb dd_M_storms_183 ?_
                    obtain ⟨v20, qv20, hm⟩ := ss_bind hm
                    refine ss_topi qv20 ?_
                    refine lv_istore (lv' := [(6, .int v20), (5, .int v17), (0, ss_v (ss_b G) this), (1, .int a1), (2, .int a2), (3, .int a3), (4, .int a4), (7, .int x7_78)]) hx hb dd_M_storms_184 hl (by decide) rfl (fun ls hl => ?_)
                    refine ss_aload_n hx hb dd_M_storms_186 rfl (lv_at hl 2 rfl) ?_
                    obtain ⟨h21, qh21, hm⟩ := ss_bind hm
                    refine ss_cVv 0 0 (As := []) hC hK hR hS hl.1 (cc_M_laysBack l G N _ _ _ qh21) km_M_388 (ck_M_laysBack qh21) ⟨Nat.le_of_ble_eq_true rfl, Nat.le_of_ble_eq_true rfl⟩ ⟨Nat.le_of_ble_eq_true rfl, Nat.le_of_ble_eq_true rfl, Nat.le_of_ble_eq_true rfl, Nat.le_of_ble_eq_true rfl⟩ rfl rfl (Nat.le_of_ble_eq_true rfl) dd_M_storms_187 (fun H locs hR hS => ?_)
                    obtain ⟨v22, qv22, hm⟩ := ss_bind hm
                    refine lv_iinc (v := v22) (lv' := [(7, .int v22), (6, .int v20), (5, .int v17), (0, ss_v (ss_b G) this), (1, .int a1), (2, .int a2), (3, .int a3), (4, .int a4)]) hx hb dd_M_storms_190 hl (k := 7) rfl (ss_inc (by decide) qv22) (by decide) rfl (fun ls hl => ?_)
                    refine lv_goto (tgt := 78) hx hb dd_M_storms_193 (by decide) ?_
                    exact ih_78 v17 v20 v22 h21 _ _ _ (hz1_78 _ (ss_some hm)) hR hS (lv_sub hl [3, 4, 5, 6, 7, 2, 1, 0] rfl)
                  have L_87 : ∀ (n : Nat) (x8_87 : Int32) (h_87 : ss_Hp) (H : Heap) (locs : List Loc) (ls : Array Slot), ss_lp (mm_M_storms_b87 N this a1 a2 a3 a4 x5_78 x6_78 x7_78) n (x8_87, h_87) = some e_87 → ss_R G h_87 H → va_S (ss_A G) s.heap H locs → lv_has ls 10 [(0, ss_v (ss_b G) this), (1, .int a1), (2, .int a2), (3, .int a3), (4, .int a4), (5, .int x5_78), (6, .int x6_78), (7, .int x7_78), (8, .int x8_87)] → ww_M_storms p l e s m below meth c G this a1 a2 a3 a4 h rr hh  H locs 0 0 (F0 m 87 ls []) := by
                    intro n
                    induction n with
                    | zero => intro x8_87 h_87 H locs ls hm; cases hm
                    | succ n ih_87 =>
                      intro x8_87 h_87 H locs ls hm hR hS hl
                      obtain ⟨z_87, hm, hz1_87, hz2_87⟩ := ss_lps hm
                      have J_154 : ∀ (x8_154 : Int32) (h_154 : ss_Hp) (H : Heap) (locs : List Loc) (ls : Array Slot), mm_M_storms_j154 N this a1 a2 a3 a4 x5_78 x6_78 x7_78 x8_154 h_154 = some z_87 → ss_R G h_154 H → va_S (ss_A G) s.heap H locs → lv_has ls 10 [(0, ss_v (ss_b G) this), (1, .int a1), (2, .int a2), (3, .int a3), (4, .int a4), (5, .int x5_78), (6, .int x6_78), (7, .int x7_78), (8, .int x8_154)] → ww_M_storms p l e s m below meth c G this a1 a2 a3 a4 h rr hh  H locs 0 0 (F0 m 154 ls []) := by
                        intro x8_154 h_154 H locs ls hm hR hS hl
                        refine ss_aload_n hx hb dd_M_storms_154 rfl (lv_at hl 0 rfl) ?_
                        obtain ⟨v23, h24, qh24, hm⟩ := ss_bind2 hm
                        refine ss_cV 0 0 (As := []) hC hK hR hS hl.1 (cc_M_passes l G N _ _ _ _ qh24) km_M_372 (ck_M_passes qh24) ⟨Nat.le_of_ble_eq_true rfl, Nat.le_of_ble_eq_true rfl⟩ ⟨Nat.le_of_ble_eq_true rfl, Nat.le_of_ble_eq_true rfl, Nat.le_of_ble_eq_true rfl, Nat.le_of_ble_eq_true rfl⟩ rfl rfl (Nat.le_of_ble_eq_true rfl) dd_M_storms_155 (fun H locs hR hS => ?_)
                        refine lv_pop hx hb dd_M_storms_158 rfl ?_
                        obtain ⟨v25, qv25, hm⟩ := ss_bind hm
                        refine lv_iinc (v := v25) (lv' := [(8, .int v25), (0, ss_v (ss_b G) this), (1, .int a1), (2, .int a2), (3, .int a3), (4, .int a4), (5, .int x5_78), (6, .int x6_78), (7, .int x7_78)]) hx hb dd_M_storms_159 hl (k := 8) rfl (ss_inc (by decide) qv25) (by decide) rfl (fun ls hl => ?_)
                        refine lv_goto (tgt := 87) hx hb dd_M_storms_162 (by decide) ?_
                        exact ih_87 v25 h24 _ _ _ (hz1_87 _ (ss_some hm)) hR hS (lv_sub hl [1, 2, 3, 4, 5, 6, 7, 8, 0] rfl)
                      refine lv_iload hx hb dd_M_storms_87 (lv_at hl 8 rfl) ?_
                      refine lv_iload_n hx hb dd_M_storms_89 rfl (lv_at hl 2 rfl) ?_
                      refine lv_icmp_ge (tgt := 165) hx hb dd_M_storms_90 (by decide) (fun c26 => ?_) (fun c26 => ?_)
                      · have hm := ss_ift hm c26
                        exact X_87_165 h_87 _ _ _ (hz2_87 _ (ss_some hm)) hR hS (lv_sub hl [0, 1, 2, 3, 4, 5, 6, 7] rfl)
                      · have hm := ss_iff hm c26
                        refine ss_aload_n hx hb dd_M_storms_93 rfl (lv_at hl 0 rfl) ?_
                        refine lv_bipush (v := 100) hx hb dd_M_storms_94 (by decide) ?_
                        obtain ⟨v27, h28, qh28, hm⟩ := ss_bind2 hm
                        refine ss_cV 0 0 (As := [.int (100 : Int32)]) hC hK hR hS hl.1 (cc_M_draw l G N _ _ _ _ _ qh28) km_M_456 (ck_M_draw qh28) ⟨Nat.le_of_ble_eq_true rfl, Nat.le_of_ble_eq_true rfl⟩ ⟨Nat.le_of_ble_eq_true rfl, Nat.le_of_ble_eq_true rfl, Nat.le_of_ble_eq_true rfl, Nat.le_of_ble_eq_true rfl⟩ rfl rfl (Nat.le_of_ble_eq_true rfl) dd_M_storms_96 (fun H locs hR hS => ?_)
                        refine lv_iload_n hx hb dd_M_storms_99 rfl (lv_at hl 3 rfl) ?_
                        refine lv_icmp_ge (tgt := 154) hx hb dd_M_storms_100 (by decide) (fun c29 => ?_) (fun c29 => ?_)
                        · have hm := ss_ift hm c29
                          exact J_154 x8_87 h28 _ _ _ hm hR hS hl
                        · have hm := ss_iff hm c29
                          refine ss_aload_n hx hb dd_M_storms_103 rfl (lv_at hl 0 rfl) ?_
                          obtain ⟨r30, qr30, hm⟩ := ss_bind hm
                          refine ss_getr hC hK hR kf_M_39 rfl qr30 dd_M_storms_104 ?_
                          refine lv_iconst (v := 2) hx hb dd_M_storms_107 (by decide) ?_
                          obtain ⟨v31, qv31, hm⟩ := ss_bind hm
                          refine ss_iald hC hK hR qv31 dd_M_storms_108 ?_
                          refine lv_if_le (tgt := 154) hx hb dd_M_storms_109 (by decide) (fun c32 => ?_) (fun c32 => ?_)
                          · have hm := ss_ift hm c32
                            exact J_154 x8_87 h28 _ _ _ hm hR hS hl
                          · have hm := ss_iff hm c32
                            refine ss_aload_n hx hb dd_M_storms_112 rfl (lv_at hl 0 rfl) ?_
                            refine ss_aload_n hx hb dd_M_storms_113 rfl (lv_at hl 0 rfl) ?_
                            obtain ⟨r33, qr33, hm⟩ := ss_bind hm
                            refine ss_getr hC hK hR kf_M_39 rfl qr33 dd_M_storms_114 ?_
                            refine lv_iconst (v := 2) hx hb dd_M_storms_117 (by decide) ?_
                            obtain ⟨v34, qv34, hm⟩ := ss_bind hm
                            refine ss_iald hC hK hR qv34 dd_M_storms_118 ?_
                            obtain ⟨v35, h36, qh36, hm⟩ := ss_bind2 hm
                            refine ss_cV 0 0 (As := [.int v34]) hC hK hR hS hl.1 (cc_M_draw l G N _ _ _ _ _ qh36) km_M_456 (ck_M_draw qh36) ⟨Nat.le_of_ble_eq_true rfl, Nat.le_of_ble_eq_true rfl⟩ ⟨Nat.le_of_ble_eq_true rfl, Nat.le_of_ble_eq_true rfl, Nat.le_of_ble_eq_true rfl, Nat.le_of_ble_eq_true rfl⟩ rfl rfl (Nat.le_of_ble_eq_true rfl) dd_M_storms_119 (fun H locs hR hS => ?_)
                            refine lv_istore (lv' := [(9, .int v35), (0, ss_v (ss_b G) this), (1, .int a1), (2, .int a2), (3, .int a3), (4, .int a4), (5, .int x5_78), (6, .int x6_78), (7, .int x7_78), (8, .int x8_87)]) hx hb dd_M_storms_122 hl (by decide) rfl (fun ls hl => ?_)
                            refine ss_aload_n hx hb dd_M_storms_124 rfl (lv_at hl 1 rfl) ?_
                            obtain ⟨r37, qr37, hm⟩ := ss_bind hm
                            refine ss_getr hC hK hR kf_M_39 rfl qr37 dd_M_storms_125 ?_
                            refine lv_bipush (v := 14) hx hb dd_M_storms_128 (by decide) ?_
                            refine lv_iload hx hb dd_M_storms_130 (lv_at hl 0 rfl) ?_
                            refine lv_iadd hx hb dd_M_storms_132 ?_
                            refine ss_aload_n hx hb dd_M_storms_133 rfl (lv_at hl 1 rfl) ?_
                            obtain ⟨r38, qr38, hm⟩ := ss_bind hm
                            refine ss_getr hC hK hR kf_M_39 rfl qr38 dd_M_storms_134 ?_
                            refine lv_bipush (v := 14) hx hb dd_M_storms_137 (by decide) ?_
                            refine lv_iload hx hb dd_M_storms_139 (lv_at hl 0 rfl) ?_
                            refine lv_iadd hx hb dd_M_storms_141 ?_
                            obtain ⟨v39, qv39, hm⟩ := ss_bind hm
                            refine ss_iald hC hK hR qv39 dd_M_storms_142 ?_
                            refine ss_aload_n hx hb dd_M_storms_143 rfl (lv_at hl 1 rfl) ?_
                            obtain ⟨r40, qr40, hm⟩ := ss_bind hm
                            refine ss_getr hC hK hR kf_M_39 rfl qr40 dd_M_storms_144 ?_
                            refine lv_iconst (v := 0) hx hb dd_M_storms_147 (by decide) ?_
                            obtain ⟨v41, qv41, hm⟩ := ss_bind hm
                            refine ss_iald hC hK hR qv41 dd_M_storms_148 ?_
                            refine lv_iadd hx hb dd_M_storms_149 ?_
                            obtain ⟨v42, qv42, hm⟩ := ss_bind hm
                            refine ss_cS 0 0 (As := [.int (v39 + v41)]) hC hK hR hS hl.1 (cc_M_held l G N _ _ _ qv42) km_M_333 ⟨Nat.le_of_ble_eq_true rfl, Nat.le_of_ble_eq_true rfl⟩ ⟨Nat.le_of_ble_eq_true rfl, Nat.le_of_ble_eq_true rfl, Nat.le_of_ble_eq_true rfl, Nat.le_of_ble_eq_true rfl⟩ rfl rfl (by simp [ss_v_cat, ss_cat_i, ss_cat_l, ss_cat_r]) dd_M_storms_150 (fun H locs hR hS => ?_)
                            obtain ⟨h43, qh43, hm⟩ := ss_bind hm
                            refine ss_iast hC hK hR hS qh43 dd_M_storms_153 (fun H locs hR hS => ?_)
                            exact J_154 x8_87 h43 _ _ _ hm hR hS (lv_sub hl [1, 2, 3, 4, 5, 6, 7, 8, 9] rfl)
                  exact L_87 N (0 : Int32) h_78 _ _ _ he_87 hR hS (lv_sub hl [1, 2, 3, 4, 5, 6, 7, 8, 0] rfl)
            exact L_78 N (0 : Int32) (0 : Int32) (0 : Int32) h13 _ _ _ he_78 hR hS (lv_sub hl [3, 4, 5, 6, 7, 2, 1, 0] rfl)
          · have hm := ss_ift hm c10
            exact J_54 h _ _ _ hm hR hS (lv_sub hl [] rfl)
theorem dd_M_count_0 : decode bb_M_count 0 = .ok (.iload_n 1, 1) := by decide +kernel
theorem dd_M_count_1 : decode bb_M_count 1 = .ok (.tableswitch 153 0 14 #[75, 75, 75, 75, 82, 87, 92, 100, 105, 113, 125, 130, 138, 143, 148], 75) := by decide +kernel
theorem dd_M_count_76 : decode bb_M_count 76 = .ok (.aload_n 0, 1) := by decide +kernel
theorem dd_M_count_77 : decode bb_M_count 77 = .ok (.getfield 39, 3) := by decide +kernel
theorem dd_M_count_80 : decode bb_M_count 80 = .ok (.iload_n 1, 1) := by decide +kernel
theorem dd_M_count_81 : decode bb_M_count 81 = .ok (.iaload, 1) := by decide +kernel
theorem dd_M_count_82 : decode bb_M_count 82 = .ok (.ireturn, 1) := by decide +kernel
theorem dd_M_count_83 : decode bb_M_count 83 = .ok (.aload_n 0, 1) := by decide +kernel
theorem dd_M_count_84 : decode bb_M_count 84 = .ok (.getfield 280, 3) := by decide +kernel
theorem dd_M_count_87 : decode bb_M_count 87 = .ok (.ireturn, 1) := by decide +kernel
theorem dd_M_count_88 : decode bb_M_count 88 = .ok (.aload_n 0, 1) := by decide +kernel
theorem dd_M_count_89 : decode bb_M_count 89 = .ok (.getfield 42, 3) := by decide +kernel
theorem dd_M_count_92 : decode bb_M_count 92 = .ok (.ireturn, 1) := by decide +kernel
theorem dd_M_count_93 : decode bb_M_count 93 = .ok (.aload_n 0, 1) := by decide +kernel
theorem dd_M_count_94 : decode bb_M_count 94 = .ok (.getfield 39, 3) := by decide +kernel
theorem dd_M_count_97 : decode bb_M_count 97 = .ok (.bipush 10, 2) := by decide +kernel
theorem dd_M_count_99 : decode bb_M_count 99 = .ok (.iaload, 1) := by decide +kernel
theorem dd_M_count_100 : decode bb_M_count 100 = .ok (.ireturn, 1) := by decide +kernel
theorem dd_M_count_101 : decode bb_M_count 101 = .ok (.aload_n 0, 1) := by decide +kernel
theorem dd_M_count_102 : decode bb_M_count 102 = .ok (.invokevirtual 340, 3) := by decide +kernel
theorem dd_M_count_105 : decode bb_M_count 105 = .ok (.ireturn, 1) := by decide +kernel
theorem dd_M_count_106 : decode bb_M_count 106 = .ok (.aload_n 0, 1) := by decide +kernel
theorem dd_M_count_107 : decode bb_M_count 107 = .ok (.getfield 39, 3) := by decide +kernel
theorem dd_M_count_110 : decode bb_M_count 110 = .ok (.bipush 11, 2) := by decide +kernel
theorem dd_M_count_112 : decode bb_M_count 112 = .ok (.iaload, 1) := by decide +kernel
theorem dd_M_count_113 : decode bb_M_count 113 = .ok (.ireturn, 1) := by decide +kernel
theorem dd_M_count_114 : decode bb_M_count 114 = .ok (.aload_n 0, 1) := by decide +kernel
theorem dd_M_count_115 : decode bb_M_count 115 = .ok (.aload_n 0, 1) := by decide +kernel
theorem dd_M_count_116 : decode bb_M_count 116 = .ok (.getfield 39, 3) := by decide +kernel
theorem dd_M_count_119 : decode bb_M_count 119 = .ok (.bipush 10, 2) := by decide +kernel
theorem dd_M_count_121 : decode bb_M_count 121 = .ok (.iaload, 1) := by decide +kernel
theorem dd_M_count_122 : decode bb_M_count 122 = .ok (.invokevirtual 319, 3) := by decide +kernel
theorem dd_M_count_125 : decode bb_M_count 125 = .ok (.ireturn, 1) := by decide +kernel
theorem dd_M_count_126 : decode bb_M_count 126 = .ok (.aload_n 0, 1) := by decide +kernel
theorem dd_M_count_127 : decode bb_M_count 127 = .ok (.invokevirtual 380, 3) := by decide +kernel
theorem dd_M_count_130 : decode bb_M_count 130 = .ok (.ireturn, 1) := by decide +kernel
theorem dd_M_count_131 : decode bb_M_count 131 = .ok (.aload_n 0, 1) := by decide +kernel
theorem dd_M_count_132 : decode bb_M_count 132 = .ok (.getfield 39, 3) := by decide +kernel
theorem dd_M_count_135 : decode bb_M_count 135 = .ok (.bipush 123, 2) := by decide +kernel
theorem dd_M_count_137 : decode bb_M_count 137 = .ok (.iaload, 1) := by decide +kernel
theorem dd_M_count_138 : decode bb_M_count 138 = .ok (.ireturn, 1) := by decide +kernel
theorem dd_M_count_139 : decode bb_M_count 139 = .ok (.aload_n 0, 1) := by decide +kernel
theorem dd_M_count_140 : decode bb_M_count 140 = .ok (.getfield 289, 3) := by decide +kernel
theorem dd_M_count_143 : decode bb_M_count 143 = .ok (.ireturn, 1) := by decide +kernel
theorem dd_M_count_144 : decode bb_M_count 144 = .ok (.aload_n 0, 1) := by decide +kernel
theorem dd_M_count_145 : decode bb_M_count 145 = .ok (.getfield 441, 3) := by decide +kernel
theorem dd_M_count_148 : decode bb_M_count 148 = .ok (.ireturn, 1) := by decide +kernel
theorem dd_M_count_149 : decode bb_M_count 149 = .ok (.aload_n 0, 1) := by decide +kernel
theorem dd_M_count_150 : decode bb_M_count 150 = .ok (.getfield 86, 3) := by decide +kernel
theorem dd_M_count_153 : decode bb_M_count 153 = .ok (.ireturn, 1) := by decide +kernel
theorem dd_M_count_154 : decode bb_M_count 154 = .ok (.iconst (-1), 1) := by decide +kernel
theorem dd_M_count_155 : decode bb_M_count 155 = .ok (.ireturn, 1) := by decide +kernel
def mm_M_count_j76 (N : Nat) (this : Option Nat) (a1 : Int32) (h : ss_Hp) : Option Int32 :=
  (ss_gr h this 12 9).bind fun r1 =>
  (ss_ai h r1 20 a1).bind fun v2 =>
  some v2
def mm_M_count (N : Nat) (this : Option Nat) (a1 : Int32) (h : ss_Hp) : Option Int32 :=
  if ss_is h this 12 = true then
    if a1 = (0 : Int32) then
      mm_M_count_j76 N this a1 h
    else
    if a1 = (1 : Int32) then
      mm_M_count_j76 N this a1 h
    else
    if a1 = (2 : Int32) then
      mm_M_count_j76 N this a1 h
    else
    if a1 = (3 : Int32) then
      mm_M_count_j76 N this a1 h
    else
    if a1 = (4 : Int32) then
      (ss_gi h this 12 1).bind fun v8 =>
      some v8
    else
    if a1 = (5 : Int32) then
      (ss_gi h this 12 13).bind fun v10 =>
      some v10
    else
    if a1 = (6 : Int32) then
      (ss_gr h this 12 9).bind fun r12 =>
      (ss_ai h r12 20 (10 : Int32)).bind fun v13 =>
      some v13
    else
    if a1 = (7 : Int32) then
      (mm_M_closed N this h).bind fun v15 =>
      some v15
    else
    if a1 = (8 : Int32) then
      (ss_gr h this 12 9).bind fun r17 =>
      (ss_ai h r17 20 (11 : Int32)).bind fun v18 =>
      some v18
    else
    if a1 = (9 : Int32) then
      (ss_gr h this 12 9).bind fun r20 =>
      (ss_ai h r20 20 (10 : Int32)).bind fun v21 =>
      (mm_M_neededOn N this v21 h).bind fun v22 =>
      some v22
    else
    if a1 = (10 : Int32) then
      (mm_M_snowAll N this h).bind fun v24 =>
      some v24
    else
    if a1 = (11 : Int32) then
      (ss_gr h this 12 9).bind fun r26 =>
      (ss_ai h r26 20 (123 : Int32)).bind fun v27 =>
      some v27
    else
    if a1 = (12 : Int32) then
      (ss_gi h this 12 15).bind fun v29 =>
      some v29
    else
    if a1 = (13 : Int32) then
      (ss_gi h this 12 14).bind fun v31 =>
      some v31
    else
    if a1 = (14 : Int32) then
      (ss_gi h this 12 0).bind fun v33 =>
      some v33
    else
    some (-1 : Int32)
  else none
abbrev ww_M_count (p : Program) (l : Launch) (e : Env) (s : State) (m : MethodId) (below : List Frame) (meth : Method) (c : Code) (G : ss_G) (this : Option Nat) (a1 : Int32) (h : ss_Hp) (rr : Int32) (H : Heap) (locs : List Loc) (k n : Nat) (g : JFrame) : Prop := W p l e (headSpec (ss_w yy_M_count bb_M_count 2 (some (.int))) ({ frames := 2, cells := 0, slots := 0, locals := 43 })).room s m ([ss_v (ss_b G) this, .int a1] : List Value).toArray below meth c H locs k n (MQ below (ss_Qc G (some (.int rr)) h) ([ss_v (ss_b G) this, .int a1] : List Value).toArray s 0 0 (ss_A G)) g
theorem ck_M_count {N : Nat} {this : Option Nat} {a1 : Int32} {h : ss_Hp} {res : Int32} (hm : mm_M_count N this a1 h = some res) : ss_is h this 12 = true := (ss_chk hm).1
set_option maxHeartbeats 4000000 in
set_option maxRecDepth 100000 in
theorem cc_M_count (l : Launch) (G : ss_G) (N : Nat) (this : Option Nat) (a1 : Int32) (h : ss_Hp) (rr : Int32) (hm : mm_M_count N this a1 h = some rr) : ss_Ct l G yy_M_count bb_M_count 2 (some (.int)) ({ frames := 2, cells := 0, slots := 0, locals := 43 }) [ss_v (ss_b G) this, .int a1] h (some (.int rr)) h := by
  obtain ⟨hck, hm⟩ := ss_chk hm
  refine Met.ofW (cc := bb_M_count) (maxL := 2) (ret := (some (.int))) (by decide) rfl ?_
  intro p e s m args below meth c s₁ B hml hv
  obtain ⟨rfl, hR, hK⟩ := hv
  have hC : CallFix p m c bb_M_count 2 s _ lw_g sR_12 := ⟨B.exec, B.bytes, hml, findClass_of_methodNamed B.named, fun w hw => atoms_spec (ws := ss_w yy_M_count bb_M_count 2 (some (.int))) B.pre w (List.mem_cons_of_mem _ hw)⟩
  have hx := hC.1
  have hb := hC.2.1
  have hr := B.returns
  have hlocks := B.notSynchronized
  have hS : va_S (ss_A G) s.heap s.heap [] := va_S.rf
  have hl := lv_entry ([ss_v (ss_b G) this, .int a1]) (n := 2) (by simp [lg_sl, ss_v_cat, ss_cat_i, ss_cat_l, ss_cat_r])
  rw [lg_entry_eq]
  generalize (lg_sl ([ss_v (ss_b G) this, .int a1]) ++ List.replicate (2 - (lg_sl ([ss_v (ss_b G) this, .int a1])).length) Slot.unset).toArray = ls at hl ⊢
  have hl : lv_has ls 2 [(0, ss_v (ss_b G) this), (1, .int a1)] := by simpa [lv_args, ss_v_cat, ss_cat_i, ss_cat_l, ss_cat_r] using hl
  have J_76 : ∀  (H : Heap) (locs : List Loc) (ls : Array Slot), mm_M_count_j76 N this a1 h = some rr → ss_R G h H → va_S (ss_A G) s.heap H locs → lv_has ls 2 [(0, ss_v (ss_b G) this), (1, .int a1)] → ww_M_count p l e s m below meth c G this a1 h rr  H locs 0 0 (F0 m 76 ls []) := by
    intro  H locs ls hm hR hS hl
    refine ss_aload_n hx hb dd_M_count_76 rfl (lv_at hl 0 rfl) ?_
    obtain ⟨r1, qr1, hm⟩ := ss_bind hm
    refine ss_getr hC hK hR kf_M_39 rfl qr1 dd_M_count_77 ?_
    refine lv_iload_n hx hb dd_M_count_80 rfl (lv_at hl 1 rfl) ?_
    obtain ⟨v2, qv2, hm⟩ := ss_bind hm
    refine ss_iald hC hK hR qv2 dd_M_count_81 ?_
    exact ss_iret hC hr hlocks hR hS (ss_with _ hm) dd_M_count_82
  refine lv_iload_n hx hb dd_M_count_0 rfl (lv_at hl 1 rfl) ?_
  by_cases c3 : a1 = (0 : Int32)
  · have hm := ss_ift hm c3
    refine lv_tableIn (tgt := 76) hx hb dd_M_count_1 (by rw [c3]; decide) (by rw [c3]; decide) (by rw [c3]; rfl) (by decide) ?_
    exact J_76  _ _ _ hm hR hS hl
  have hm := ss_iff hm c3
  by_cases c4 : a1 = (1 : Int32)
  · have hm := ss_ift hm c4
    refine lv_tableIn (tgt := 76) hx hb dd_M_count_1 (by rw [c4]; decide) (by rw [c4]; decide) (by rw [c4]; rfl) (by decide) ?_
    exact J_76  _ _ _ hm hR hS hl
  have hm := ss_iff hm c4
  by_cases c5 : a1 = (2 : Int32)
  · have hm := ss_ift hm c5
    refine lv_tableIn (tgt := 76) hx hb dd_M_count_1 (by rw [c5]; decide) (by rw [c5]; decide) (by rw [c5]; rfl) (by decide) ?_
    exact J_76  _ _ _ hm hR hS hl
  have hm := ss_iff hm c5
  by_cases c6 : a1 = (3 : Int32)
  · have hm := ss_ift hm c6
    refine lv_tableIn (tgt := 76) hx hb dd_M_count_1 (by rw [c6]; decide) (by rw [c6]; decide) (by rw [c6]; rfl) (by decide) ?_
    exact J_76  _ _ _ hm hR hS hl
  have hm := ss_iff hm c6
  by_cases c7 : a1 = (4 : Int32)
  · have hm := ss_ift hm c7
    refine lv_tableIn (tgt := 83) hx hb dd_M_count_1 (by rw [c7]; decide) (by rw [c7]; decide) (by rw [c7]; rfl) (by decide) ?_
    refine ss_aload_n hx hb dd_M_count_83 rfl (lv_at hl 0 rfl) ?_
    obtain ⟨v8, qv8, hm⟩ := ss_bind hm
    refine ss_geti hC hK hR kf_M_280 qv8 dd_M_count_84 ?_
    exact ss_iret hC hr hlocks hR hS (ss_with _ hm) dd_M_count_87
  have hm := ss_iff hm c7
  by_cases c9 : a1 = (5 : Int32)
  · have hm := ss_ift hm c9
    refine lv_tableIn (tgt := 88) hx hb dd_M_count_1 (by rw [c9]; decide) (by rw [c9]; decide) (by rw [c9]; rfl) (by decide) ?_
    refine ss_aload_n hx hb dd_M_count_88 rfl (lv_at hl 0 rfl) ?_
    obtain ⟨v10, qv10, hm⟩ := ss_bind hm
    refine ss_geti hC hK hR kf_M_42 qv10 dd_M_count_89 ?_
    exact ss_iret hC hr hlocks hR hS (ss_with _ hm) dd_M_count_92
  have hm := ss_iff hm c9
  by_cases c11 : a1 = (6 : Int32)
  · have hm := ss_ift hm c11
    refine lv_tableIn (tgt := 93) hx hb dd_M_count_1 (by rw [c11]; decide) (by rw [c11]; decide) (by rw [c11]; rfl) (by decide) ?_
    refine ss_aload_n hx hb dd_M_count_93 rfl (lv_at hl 0 rfl) ?_
    obtain ⟨r12, qr12, hm⟩ := ss_bind hm
    refine ss_getr hC hK hR kf_M_39 rfl qr12 dd_M_count_94 ?_
    refine lv_bipush (v := 10) hx hb dd_M_count_97 (by decide) ?_
    obtain ⟨v13, qv13, hm⟩ := ss_bind hm
    refine ss_iald hC hK hR qv13 dd_M_count_99 ?_
    exact ss_iret hC hr hlocks hR hS (ss_with _ hm) dd_M_count_100
  have hm := ss_iff hm c11
  by_cases c14 : a1 = (7 : Int32)
  · have hm := ss_ift hm c14
    refine lv_tableIn (tgt := 101) hx hb dd_M_count_1 (by rw [c14]; decide) (by rw [c14]; decide) (by rw [c14]; rfl) (by decide) ?_
    refine ss_aload_n hx hb dd_M_count_101 rfl (lv_at hl 0 rfl) ?_
    obtain ⟨v15, qv15, hm⟩ := ss_bind hm
    refine ss_cV 0 0 (As := []) hC hK hR hS hl.1 (cc_M_closed l G N _ _ _ qv15) km_M_340 (ck_M_closed qv15) ⟨Nat.le_of_ble_eq_true rfl, Nat.le_of_ble_eq_true rfl⟩ ⟨Nat.le_of_ble_eq_true rfl, Nat.le_of_ble_eq_true rfl, Nat.le_of_ble_eq_true rfl, Nat.le_of_ble_eq_true rfl⟩ rfl rfl (Nat.le_of_ble_eq_true rfl) dd_M_count_102 (fun H locs hR hS => ?_)
    exact ss_iret hC hr hlocks hR hS (ss_with _ hm) dd_M_count_105
  have hm := ss_iff hm c14
  by_cases c16 : a1 = (8 : Int32)
  · have hm := ss_ift hm c16
    refine lv_tableIn (tgt := 106) hx hb dd_M_count_1 (by rw [c16]; decide) (by rw [c16]; decide) (by rw [c16]; rfl) (by decide) ?_
    refine ss_aload_n hx hb dd_M_count_106 rfl (lv_at hl 0 rfl) ?_
    obtain ⟨r17, qr17, hm⟩ := ss_bind hm
    refine ss_getr hC hK hR kf_M_39 rfl qr17 dd_M_count_107 ?_
    refine lv_bipush (v := 11) hx hb dd_M_count_110 (by decide) ?_
    obtain ⟨v18, qv18, hm⟩ := ss_bind hm
    refine ss_iald hC hK hR qv18 dd_M_count_112 ?_
    exact ss_iret hC hr hlocks hR hS (ss_with _ hm) dd_M_count_113
  have hm := ss_iff hm c16
  by_cases c19 : a1 = (9 : Int32)
  · have hm := ss_ift hm c19
    refine lv_tableIn (tgt := 114) hx hb dd_M_count_1 (by rw [c19]; decide) (by rw [c19]; decide) (by rw [c19]; rfl) (by decide) ?_
    refine ss_aload_n hx hb dd_M_count_114 rfl (lv_at hl 0 rfl) ?_
    refine ss_aload_n hx hb dd_M_count_115 rfl (lv_at hl 0 rfl) ?_
    obtain ⟨r20, qr20, hm⟩ := ss_bind hm
    refine ss_getr hC hK hR kf_M_39 rfl qr20 dd_M_count_116 ?_
    refine lv_bipush (v := 10) hx hb dd_M_count_119 (by decide) ?_
    obtain ⟨v21, qv21, hm⟩ := ss_bind hm
    refine ss_iald hC hK hR qv21 dd_M_count_121 ?_
    obtain ⟨v22, qv22, hm⟩ := ss_bind hm
    refine ss_cV 0 0 (As := [.int v21]) hC hK hR hS hl.1 (cc_M_neededOn l G N _ _ _ _ qv22) km_M_319 (ck_M_neededOn qv22) ⟨Nat.le_of_ble_eq_true rfl, Nat.le_of_ble_eq_true rfl⟩ ⟨Nat.le_of_ble_eq_true rfl, Nat.le_of_ble_eq_true rfl, Nat.le_of_ble_eq_true rfl, Nat.le_of_ble_eq_true rfl⟩ rfl rfl (Nat.le_of_ble_eq_true rfl) dd_M_count_122 (fun H locs hR hS => ?_)
    exact ss_iret hC hr hlocks hR hS (ss_with _ hm) dd_M_count_125
  have hm := ss_iff hm c19
  by_cases c23 : a1 = (10 : Int32)
  · have hm := ss_ift hm c23
    refine lv_tableIn (tgt := 126) hx hb dd_M_count_1 (by rw [c23]; decide) (by rw [c23]; decide) (by rw [c23]; rfl) (by decide) ?_
    refine ss_aload_n hx hb dd_M_count_126 rfl (lv_at hl 0 rfl) ?_
    obtain ⟨v24, qv24, hm⟩ := ss_bind hm
    refine ss_cV 0 0 (As := []) hC hK hR hS hl.1 (cc_M_snowAll l G N _ _ _ qv24) km_M_380 (ck_M_snowAll qv24) ⟨Nat.le_of_ble_eq_true rfl, Nat.le_of_ble_eq_true rfl⟩ ⟨Nat.le_of_ble_eq_true rfl, Nat.le_of_ble_eq_true rfl, Nat.le_of_ble_eq_true rfl, Nat.le_of_ble_eq_true rfl⟩ rfl rfl (Nat.le_of_ble_eq_true rfl) dd_M_count_127 (fun H locs hR hS => ?_)
    exact ss_iret hC hr hlocks hR hS (ss_with _ hm) dd_M_count_130
  have hm := ss_iff hm c23
  by_cases c25 : a1 = (11 : Int32)
  · have hm := ss_ift hm c25
    refine lv_tableIn (tgt := 131) hx hb dd_M_count_1 (by rw [c25]; decide) (by rw [c25]; decide) (by rw [c25]; rfl) (by decide) ?_
    refine ss_aload_n hx hb dd_M_count_131 rfl (lv_at hl 0 rfl) ?_
    obtain ⟨r26, qr26, hm⟩ := ss_bind hm
    refine ss_getr hC hK hR kf_M_39 rfl qr26 dd_M_count_132 ?_
    refine lv_bipush (v := 123) hx hb dd_M_count_135 (by decide) ?_
    obtain ⟨v27, qv27, hm⟩ := ss_bind hm
    refine ss_iald hC hK hR qv27 dd_M_count_137 ?_
    exact ss_iret hC hr hlocks hR hS (ss_with _ hm) dd_M_count_138
  have hm := ss_iff hm c25
  by_cases c28 : a1 = (12 : Int32)
  · have hm := ss_ift hm c28
    refine lv_tableIn (tgt := 139) hx hb dd_M_count_1 (by rw [c28]; decide) (by rw [c28]; decide) (by rw [c28]; rfl) (by decide) ?_
    refine ss_aload_n hx hb dd_M_count_139 rfl (lv_at hl 0 rfl) ?_
    obtain ⟨v29, qv29, hm⟩ := ss_bind hm
    refine ss_geti hC hK hR kf_M_289 qv29 dd_M_count_140 ?_
    exact ss_iret hC hr hlocks hR hS (ss_with _ hm) dd_M_count_143
  have hm := ss_iff hm c28
  by_cases c30 : a1 = (13 : Int32)
  · have hm := ss_ift hm c30
    refine lv_tableIn (tgt := 144) hx hb dd_M_count_1 (by rw [c30]; decide) (by rw [c30]; decide) (by rw [c30]; rfl) (by decide) ?_
    refine ss_aload_n hx hb dd_M_count_144 rfl (lv_at hl 0 rfl) ?_
    obtain ⟨v31, qv31, hm⟩ := ss_bind hm
    refine ss_geti hC hK hR kf_M_441 qv31 dd_M_count_145 ?_
    exact ss_iret hC hr hlocks hR hS (ss_with _ hm) dd_M_count_148
  have hm := ss_iff hm c30
  by_cases c32 : a1 = (14 : Int32)
  · have hm := ss_ift hm c32
    refine lv_tableIn (tgt := 149) hx hb dd_M_count_1 (by rw [c32]; decide) (by rw [c32]; decide) (by rw [c32]; rfl) (by decide) ?_
    refine ss_aload_n hx hb dd_M_count_149 rfl (lv_at hl 0 rfl) ?_
    obtain ⟨v33, qv33, hm⟩ := ss_bind hm
    refine ss_geti hC hK hR kf_M_86 qv33 dd_M_count_150 ?_
    exact ss_iret hC hr hlocks hR hS (ss_with _ hm) dd_M_count_153
  have hm := ss_iff hm c32
  have nc3 := lv_neT (a := 0) c3 (by decide)
  have nc4 := lv_neT (a := 1) c4 (by decide)
  have nc5 := lv_neT (a := 2) c5 (by decide)
  have nc6 := lv_neT (a := 3) c6 (by decide)
  have nc7 := lv_neT (a := 4) c7 (by decide)
  have nc9 := lv_neT (a := 5) c9 (by decide)
  have nc11 := lv_neT (a := 6) c11 (by decide)
  have nc14 := lv_neT (a := 7) c14 (by decide)
  have nc16 := lv_neT (a := 8) c16 (by decide)
  have nc19 := lv_neT (a := 9) c19 (by decide)
  have nc23 := lv_neT (a := 10) c23 (by decide)
  have nc25 := lv_neT (a := 11) c25 (by decide)
  have nc28 := lv_neT (a := 12) c28 (by decide)
  have nc30 := lv_neT (a := 13) c30 (by decide)
  have nc32 := lv_neT (a := 14) c32 (by decide)
  refine lv_tableOut (tgt := 154) hx hb dd_M_count_1 (by omega) (by decide) ?_
  refine lv_iconst (v := -1) hx hb dd_M_count_154 (by decide) ?_
  exact ss_iret hC hr hlocks hR hS (ss_with _ hm) dd_M_count_155
theorem dd_M_image_0 : decode bb_M_image 0 = .ok (.iload_n 1, 1) := by decide +kernel
theorem dd_M_image_1 : decode bb_M_image 1 = .ok (.i2l, 1) := by decide +kernel
theorem dd_M_image_2 : decode bb_M_image 2 = .ok (.lconst 0, 1) := by decide +kernel
theorem dd_M_image_3 : decode bb_M_image 3 = .ok (.ldc2_w 459, 3) := by decide +kernel
theorem dd_M_image_6 : decode bb_M_image 6 = .ok (.invokestatic 124, 3) := by decide +kernel
theorem dd_M_image_9 : decode bb_M_image 9 = .ok (.ifCond .ne 5, 3) := by decide +kernel
theorem dd_M_image_12 : decode bb_M_image 12 = .ok (.iconst (-1), 1) := by decide +kernel
theorem dd_M_image_13 : decode bb_M_image 13 = .ok (.ireturn, 1) := by decide +kernel
theorem dd_M_image_14 : decode bb_M_image 14 = .ok (.aload_n 0, 1) := by decide +kernel
theorem dd_M_image_15 : decode bb_M_image 15 = .ok (.getfield 83, 3) := by decide +kernel
theorem dd_M_image_18 : decode bb_M_image 18 = .ok (.iload_n 1, 1) := by decide +kernel
theorem dd_M_image_19 : decode bb_M_image 19 = .ok (.iconst 1, 1) := by decide +kernel
theorem dd_M_image_20 : decode bb_M_image 20 = .ok (.bastore, 1) := by decide +kernel
theorem dd_M_image_21 : decode bb_M_image 21 = .ok (.aload_n 0, 1) := by decide +kernel
theorem dd_M_image_22 : decode bb_M_image 22 = .ok (.getfield 77, 3) := by decide +kernel
theorem dd_M_image_25 : decode bb_M_image 25 = .ok (.iload_n 1, 1) := by decide +kernel
theorem dd_M_image_26 : decode bb_M_image 26 = .ok (.aload_n 0, 1) := by decide +kernel
theorem dd_M_image_27 : decode bb_M_image 27 = .ok (.getfield 42, 3) := by decide +kernel
theorem dd_M_image_30 : decode bb_M_image 30 = .ok (.iastore, 1) := by decide +kernel
theorem dd_M_image_31 : decode bb_M_image 31 = .ok (.aload_n 0, 1) := by decide +kernel
theorem dd_M_image_32 : decode bb_M_image 32 = .ok (.getfield 80, 3) := by decide +kernel
theorem dd_M_image_35 : decode bb_M_image 35 = .ok (.iload_n 1, 1) := by decide +kernel
theorem dd_M_image_36 : decode bb_M_image 36 = .ok (.aload_n 0, 1) := by decide +kernel
theorem dd_M_image_37 : decode bb_M_image 37 = .ok (.getfield 441, 3) := by decide +kernel
theorem dd_M_image_40 : decode bb_M_image 40 = .ok (.iastore, 1) := by decide +kernel
theorem dd_M_image_41 : decode bb_M_image 41 = .ok (.iconst 0, 1) := by decide +kernel
theorem dd_M_image_42 : decode bb_M_image 42 = .ok (.istore_n 2, 1) := by decide +kernel
theorem dd_M_image_43 : decode bb_M_image 43 = .ok (.iload_n 2, 1) := by decide +kernel
theorem dd_M_image_44 : decode bb_M_image 44 = .ok (.bipush 124, 2) := by decide +kernel
theorem dd_M_image_46 : decode bb_M_image 46 = .ok (.if_icmp .ge 26, 3) := by decide +kernel
theorem dd_M_image_49 : decode bb_M_image 49 = .ok (.aload_n 0, 1) := by decide +kernel
theorem dd_M_image_50 : decode bb_M_image 50 = .ok (.getfield 74, 3) := by decide +kernel
theorem dd_M_image_53 : decode bb_M_image 53 = .ok (.bipush 124, 2) := by decide +kernel
theorem dd_M_image_55 : decode bb_M_image 55 = .ok (.iload_n 1, 1) := by decide +kernel
theorem dd_M_image_56 : decode bb_M_image 56 = .ok (.imul, 1) := by decide +kernel
theorem dd_M_image_57 : decode bb_M_image 57 = .ok (.iload_n 2, 1) := by decide +kernel
theorem dd_M_image_58 : decode bb_M_image 58 = .ok (.iadd, 1) := by decide +kernel
theorem dd_M_image_59 : decode bb_M_image 59 = .ok (.aload_n 0, 1) := by decide +kernel
theorem dd_M_image_60 : decode bb_M_image 60 = .ok (.getfield 39, 3) := by decide +kernel
theorem dd_M_image_63 : decode bb_M_image 63 = .ok (.iload_n 2, 1) := by decide +kernel
theorem dd_M_image_64 : decode bb_M_image 64 = .ok (.iaload, 1) := by decide +kernel
theorem dd_M_image_65 : decode bb_M_image 65 = .ok (.iastore, 1) := by decide +kernel
theorem dd_M_image_66 : decode bb_M_image 66 = .ok (.iinc 2 1, 3) := by decide +kernel
theorem dd_M_image_69 : decode bb_M_image 69 = .ok (.goto (-26), 3) := by decide +kernel
theorem dd_M_image_72 : decode bb_M_image 72 = .ok (.aload_n 0, 1) := by decide +kernel
theorem dd_M_image_73 : decode bb_M_image 73 = .ok (.getfield 39, 3) := by decide +kernel
theorem dd_M_image_76 : decode bb_M_image 76 = .ok (.bipush 10, 2) := by decide +kernel
theorem dd_M_image_78 : decode bb_M_image 78 = .ok (.iaload, 1) := by decide +kernel
theorem dd_M_image_79 : decode bb_M_image 79 = .ok (.ireturn, 1) := by decide +kernel
def mm_M_image_b43 (N : Nat) (this : Option Nat) (a1 : Int32) (st : Int32 × ss_Hp) : Option ((Int32 × ss_Hp) ⊕ ss_Hp) :=
  match st with
  | (x2_43, h_43) =>
    if (124 : Int32) ≤ x2_43 then
      some (.inr h_43)
    else
      (ss_gr h_43 this 12 19).bind fun r14 =>
      (ss_gr h_43 this 12 9).bind fun r15 =>
      (ss_ai h_43 r15 20 x2_43).bind fun v16 =>
      (ss_ui h_43 r14 20 (((124 : Int32) * a1) + x2_43) v16).bind fun h17 =>
      (some (x2_43 + (1 : Int32))).bind fun v18 =>
      some (.inl (v18, h17))
def mm_M_image (N : Nat) (this : Option Nat) (a1 : Int32) (h : ss_Hp) : Option (Int32 × ss_Hp) :=
  if ss_is h this 12 = true then
    (mm_M_in N ((a1).toInt64) (0 : Int64) (3 : Int64)).bind fun v1 =>
    if v1 = 0 then
      some ((-1 : Int32), h)
    else
      (ss_gr h this 12 22).bind fun r3 =>
      (ss_ui h r3 22 a1 (vp_nar .boolean (1 : Int32))).bind fun h4 =>
      (ss_gr h4 this 12 20).bind fun r5 =>
      (ss_gi h4 this 12 13).bind fun v6 =>
      (ss_ui h4 r5 20 a1 v6).bind fun h7 =>
      (ss_gr h7 this 12 21).bind fun r8 =>
      (ss_gi h7 this 12 14).bind fun v9 =>
      (ss_ui h7 r8 20 a1 v9).bind fun h10 =>
      (ss_lp (mm_M_image_b43 N this a1) N ((0 : Int32), h10)).bind fun h_43_72 =>
      (ss_gr h_43_72 this 12 9).bind fun r11 =>
      (ss_ai h_43_72 r11 20 (10 : Int32)).bind fun v12 =>
      some (v12, h_43_72)
  else none
abbrev ww_M_image (p : Program) (l : Launch) (e : Env) (s : State) (m : MethodId) (below : List Frame) (meth : Method) (c : Code) (G : ss_G) (this : Option Nat) (a1 : Int32) (h : ss_Hp) (rr : Int32) (hh : ss_Hp) (H : Heap) (locs : List Loc) (k n : Nat) (g : JFrame) : Prop := W p l e (headSpec (ss_w yy_M_image bb_M_image 3 (some (.int))) ({ frames := 1, cells := 0, slots := 0, locals := 25 })).room s m ([ss_v (ss_b G) this, .int a1] : List Value).toArray below meth c H locs k n (MQ below (ss_Qc G (some (.int rr)) hh) ([ss_v (ss_b G) this, .int a1] : List Value).toArray s 0 0 (ss_A G)) g
theorem ck_M_image {N : Nat} {this : Option Nat} {a1 : Int32} {h : ss_Hp} {res : Int32 × ss_Hp} (hm : mm_M_image N this a1 h = some res) : ss_is h this 12 = true := (ss_chk hm).1
set_option maxHeartbeats 4000000 in
set_option maxRecDepth 100000 in
theorem cc_M_image (l : Launch) (G : ss_G) (N : Nat) (this : Option Nat) (a1 : Int32) (h : ss_Hp) (rr : Int32) (hh : ss_Hp) (hm : mm_M_image N this a1 h = some (rr, hh)) : ss_Ct l G yy_M_image bb_M_image 3 (some (.int)) ({ frames := 1, cells := 0, slots := 0, locals := 25 }) [ss_v (ss_b G) this, .int a1] h (some (.int rr)) hh := by
  obtain ⟨hck, hm⟩ := ss_chk hm
  refine Met.ofW (cc := bb_M_image) (maxL := 3) (ret := (some (.int))) (by decide) rfl ?_
  intro p e s m args below meth c s₁ B hml hv
  obtain ⟨rfl, hR, hK⟩ := hv
  have hC : CallFix p m c bb_M_image 3 s _ lw_g sR_12 := ⟨B.exec, B.bytes, hml, findClass_of_methodNamed B.named, fun w hw => atoms_spec (ws := ss_w yy_M_image bb_M_image 3 (some (.int))) B.pre w (List.mem_cons_of_mem _ hw)⟩
  have hx := hC.1
  have hb := hC.2.1
  have hr := B.returns
  have hlocks := B.notSynchronized
  have hS : va_S (ss_A G) s.heap s.heap [] := va_S.rf
  have hl := lv_entry ([ss_v (ss_b G) this, .int a1]) (n := 3) (by simp [lg_sl, ss_v_cat, ss_cat_i, ss_cat_l, ss_cat_r])
  rw [lg_entry_eq]
  generalize (lg_sl ([ss_v (ss_b G) this, .int a1]) ++ List.replicate (3 - (lg_sl ([ss_v (ss_b G) this, .int a1])).length) Slot.unset).toArray = ls at hl ⊢
  have hl : lv_has ls 3 [(0, ss_v (ss_b G) this), (1, .int a1)] := by simpa [lv_args, ss_v_cat, ss_cat_i, ss_cat_l, ss_cat_r] using hl
  refine lv_iload_n hx hb dd_M_image_0 rfl (lv_at hl 1 rfl) ?_
  refine lv_i2l hx hb dd_M_image_1 rfl ?_
  refine lv_lconst (v := 0) hx hb dd_M_image_2 (by decide) ?_
  refine lv_ldc2 (v := 3) hx hb hC.2.2.2.1 (hC.2.2.2.2 _ kl_M_459) dd_M_image_3 ?_
  obtain ⟨v1, qv1, hm⟩ := ss_bind hm
  refine ss_cS 0 0 (As := [.long ((a1).toInt64), .long (0 : Int64), .long (3 : Int64)]) hC hK hR hS hl.1 (cc_M_in l G N _ _ _ _ _ qv1) km_M_124 ⟨Nat.le_of_ble_eq_true rfl, Nat.le_of_ble_eq_true rfl⟩ ⟨Nat.le_of_ble_eq_true rfl, Nat.le_of_ble_eq_true rfl, Nat.le_of_ble_eq_true rfl, Nat.le_of_ble_eq_true rfl⟩ rfl rfl (Nat.le_of_ble_eq_true rfl) dd_M_image_6 (fun H locs hR hS => ?_)
  refine lv_if_ne (tgt := 14) hx hb dd_M_image_9 (by decide) (fun c2 => ?_) (fun c2 => ?_)
  · have hm := ss_iff hm c2
    refine ss_aload_n hx hb dd_M_image_14 rfl (lv_at hl 0 rfl) ?_
    obtain ⟨r3, qr3, hm⟩ := ss_bind hm
    refine ss_getr hC hK hR kf_M_83 rfl qr3 dd_M_image_15 ?_
    refine lv_iload_n hx hb dd_M_image_18 rfl (lv_at hl 1 rfl) ?_
    refine lv_iconst (v := 1) hx hb dd_M_image_19 (by decide) ?_
    obtain ⟨h4, qh4, hm⟩ := ss_bind hm
    refine ss_zast hC hK hR hS qh4 dd_M_image_20 (fun H locs hR hS => ?_)
    refine ss_aload_n hx hb dd_M_image_21 rfl (lv_at hl 0 rfl) ?_
    obtain ⟨r5, qr5, hm⟩ := ss_bind hm
    refine ss_getr hC hK hR kf_M_77 rfl qr5 dd_M_image_22 ?_
    refine lv_iload_n hx hb dd_M_image_25 rfl (lv_at hl 1 rfl) ?_
    refine ss_aload_n hx hb dd_M_image_26 rfl (lv_at hl 0 rfl) ?_
    obtain ⟨v6, qv6, hm⟩ := ss_bind hm
    refine ss_geti hC hK hR kf_M_42 qv6 dd_M_image_27 ?_
    obtain ⟨h7, qh7, hm⟩ := ss_bind hm
    refine ss_iast hC hK hR hS qh7 dd_M_image_30 (fun H locs hR hS => ?_)
    refine ss_aload_n hx hb dd_M_image_31 rfl (lv_at hl 0 rfl) ?_
    obtain ⟨r8, qr8, hm⟩ := ss_bind hm
    refine ss_getr hC hK hR kf_M_80 rfl qr8 dd_M_image_32 ?_
    refine lv_iload_n hx hb dd_M_image_35 rfl (lv_at hl 1 rfl) ?_
    refine ss_aload_n hx hb dd_M_image_36 rfl (lv_at hl 0 rfl) ?_
    obtain ⟨v9, qv9, hm⟩ := ss_bind hm
    refine ss_geti hC hK hR kf_M_441 qv9 dd_M_image_37 ?_
    obtain ⟨h10, qh10, hm⟩ := ss_bind hm
    refine ss_iast hC hK hR hS qh10 dd_M_image_40 (fun H locs hR hS => ?_)
    refine lv_iconst (v := 0) hx hb dd_M_image_41 (by decide) ?_
    refine lv_istore_n (lv' := [(2, .int (0 : Int32)), (0, ss_v (ss_b G) this), (1, .int a1)]) hx hb dd_M_image_42 rfl hl (by decide) rfl (fun ls hl => ?_)
    obtain ⟨e_43, he_43, hm⟩ := ss_bind hm
    have X_43_72 : ∀  (h_43_72 : ss_Hp) (H : Heap) (locs : List Loc) (ls : Array Slot), e_43 = h_43_72 → ss_R G h_43_72 H → va_S (ss_A G) s.heap H locs → lv_has ls 3 [(0, ss_v (ss_b G) this)] → ww_M_image p l e s m below meth c G this a1 h rr hh  H locs 0 0 (F0 m 72 ls []) := by
      intro h_43_72 H locs ls hq hR hS hl
      rw [hq] at hm
      refine ss_aload_n hx hb dd_M_image_72 rfl (lv_at hl 0 rfl) ?_
      obtain ⟨r11, qr11, hm⟩ := ss_bind hm
      refine ss_getr hC hK hR kf_M_39 rfl qr11 dd_M_image_73 ?_
      refine lv_bipush (v := 10) hx hb dd_M_image_76 (by decide) ?_
      obtain ⟨v12, qv12, hm⟩ := ss_bind hm
      refine ss_iald hC hK hR qv12 dd_M_image_78 ?_
      exact ss_iret hC hr hlocks hR hS hm dd_M_image_79
    have L_43 : ∀ (n : Nat) (x2_43 : Int32) (h_43 : ss_Hp) (H : Heap) (locs : List Loc) (ls : Array Slot), ss_lp (mm_M_image_b43 N this a1) n (x2_43, h_43) = some e_43 → ss_R G h_43 H → va_S (ss_A G) s.heap H locs → lv_has ls 3 [(0, ss_v (ss_b G) this), (1, .int a1), (2, .int x2_43)] → ww_M_image p l e s m below meth c G this a1 h rr hh  H locs 0 0 (F0 m 43 ls []) := by
      intro n
      induction n with
      | zero => intro x2_43 h_43 H locs ls hm; cases hm
      | succ n ih_43 =>
        intro x2_43 h_43 H locs ls hm hR hS hl
        obtain ⟨z_43, hm, hz1_43, hz2_43⟩ := ss_lps hm
        refine lv_iload_n hx hb dd_M_image_43 rfl (lv_at hl 2 rfl) ?_
        refine lv_bipush (v := 124) hx hb dd_M_image_44 (by decide) ?_
        refine lv_icmp_ge (tgt := 72) hx hb dd_M_image_46 (by decide) (fun c13 => ?_) (fun c13 => ?_)
        · have hm := ss_ift hm c13
          exact X_43_72 h_43 _ _ _ (hz2_43 _ (ss_some hm)) hR hS (lv_sub hl [0] rfl)
        · have hm := ss_iff hm c13
          refine ss_aload_n hx hb dd_M_image_49 rfl (lv_at hl 0 rfl) ?_
          obtain ⟨r14, qr14, hm⟩ := ss_bind hm
          refine ss_getr hC hK hR kf_M_74 rfl qr14 dd_M_image_50 ?_
          refine lv_bipush (v := 124) hx hb dd_M_image_53 (by decide) ?_
          refine lv_iload_n hx hb dd_M_image_55 rfl (lv_at hl 1 rfl) ?_
          refine lv_imul hx hb dd_M_image_56 ?_
          refine lv_iload_n hx hb dd_M_image_57 rfl (lv_at hl 2 rfl) ?_
          refine lv_iadd hx hb dd_M_image_58 ?_
          refine ss_aload_n hx hb dd_M_image_59 rfl (lv_at hl 0 rfl) ?_
          obtain ⟨r15, qr15, hm⟩ := ss_bind hm
          refine ss_getr hC hK hR kf_M_39 rfl qr15 dd_M_image_60 ?_
          refine lv_iload_n hx hb dd_M_image_63 rfl (lv_at hl 2 rfl) ?_
          obtain ⟨v16, qv16, hm⟩ := ss_bind hm
          refine ss_iald hC hK hR qv16 dd_M_image_64 ?_
          obtain ⟨h17, qh17, hm⟩ := ss_bind hm
          refine ss_iast hC hK hR hS qh17 dd_M_image_65 (fun H locs hR hS => ?_)
          obtain ⟨v18, qv18, hm⟩ := ss_bind hm
          refine lv_iinc (v := v18) (lv' := [(2, .int v18), (0, ss_v (ss_b G) this), (1, .int a1)]) hx hb dd_M_image_66 hl (k := 2) rfl (ss_inc (by decide) qv18) (by decide) rfl (fun ls hl => ?_)
          refine lv_goto (tgt := 43) hx hb dd_M_image_69 (by decide) ?_
          exact ih_43 v18 h17 _ _ _ (hz1_43 _ (ss_some hm)) hR hS (lv_sub hl [1, 2, 0] rfl)
    exact L_43 N (0 : Int32) h10 _ _ _ he_43 hR hS (lv_sub hl [1, 2, 0] rfl)
  · have hm := ss_ift hm c2
    refine lv_iconst (v := -1) hx hb dd_M_image_12 (by decide) ?_
    exact ss_iret hC hr hlocks hR hS hm dd_M_image_13
theorem dd_M_back_0 : decode bb_M_back 0 = .ok (.iload_n 1, 1) := by decide +kernel
theorem dd_M_back_1 : decode bb_M_back 1 = .ok (.i2l, 1) := by decide +kernel
theorem dd_M_back_2 : decode bb_M_back 2 = .ok (.lconst 0, 1) := by decide +kernel
theorem dd_M_back_3 : decode bb_M_back 3 = .ok (.ldc2_w 459, 3) := by decide +kernel
theorem dd_M_back_6 : decode bb_M_back 6 = .ok (.invokestatic 124, 3) := by decide +kernel
theorem dd_M_back_9 : decode bb_M_back 9 = .ok (.ifCond .eq 12, 3) := by decide +kernel
theorem dd_M_back_12 : decode bb_M_back 12 = .ok (.aload_n 0, 1) := by decide +kernel
theorem dd_M_back_13 : decode bb_M_back 13 = .ok (.getfield 83, 3) := by decide +kernel
theorem dd_M_back_16 : decode bb_M_back 16 = .ok (.iload_n 1, 1) := by decide +kernel
theorem dd_M_back_17 : decode bb_M_back 17 = .ok (.baload, 1) := by decide +kernel
theorem dd_M_back_18 : decode bb_M_back 18 = .ok (.ifCond .ne 5, 3) := by decide +kernel
theorem dd_M_back_21 : decode bb_M_back 21 = .ok (.iconst (-1), 1) := by decide +kernel
theorem dd_M_back_22 : decode bb_M_back 22 = .ok (.ireturn, 1) := by decide +kernel
theorem dd_M_back_23 : decode bb_M_back 23 = .ok (.aload_n 0, 1) := by decide +kernel
theorem dd_M_back_24 : decode bb_M_back 24 = .ok (.aload_n 0, 1) := by decide +kernel
theorem dd_M_back_25 : decode bb_M_back 25 = .ok (.getfield 77, 3) := by decide +kernel
theorem dd_M_back_28 : decode bb_M_back 28 = .ok (.iload_n 1, 1) := by decide +kernel
theorem dd_M_back_29 : decode bb_M_back 29 = .ok (.iaload, 1) := by decide +kernel
theorem dd_M_back_30 : decode bb_M_back 30 = .ok (.putfield 42, 3) := by decide +kernel
theorem dd_M_back_33 : decode bb_M_back 33 = .ok (.aload_n 0, 1) := by decide +kernel
theorem dd_M_back_34 : decode bb_M_back 34 = .ok (.aload_n 0, 1) := by decide +kernel
theorem dd_M_back_35 : decode bb_M_back 35 = .ok (.getfield 80, 3) := by decide +kernel
theorem dd_M_back_38 : decode bb_M_back 38 = .ok (.iload_n 1, 1) := by decide +kernel
theorem dd_M_back_39 : decode bb_M_back 39 = .ok (.iaload, 1) := by decide +kernel
theorem dd_M_back_40 : decode bb_M_back 40 = .ok (.putfield 441, 3) := by decide +kernel
theorem dd_M_back_43 : decode bb_M_back 43 = .ok (.aload_n 0, 1) := by decide +kernel
theorem dd_M_back_44 : decode bb_M_back 44 = .ok (.iconst 0, 1) := by decide +kernel
theorem dd_M_back_45 : decode bb_M_back 45 = .ok (.putfield 289, 3) := by decide +kernel
theorem dd_M_back_48 : decode bb_M_back 48 = .ok (.iconst 0, 1) := by decide +kernel
theorem dd_M_back_49 : decode bb_M_back 49 = .ok (.istore_n 2, 1) := by decide +kernel
theorem dd_M_back_50 : decode bb_M_back 50 = .ok (.iload_n 2, 1) := by decide +kernel
theorem dd_M_back_51 : decode bb_M_back 51 = .ok (.bipush 124, 2) := by decide +kernel
theorem dd_M_back_53 : decode bb_M_back 53 = .ok (.if_icmp .ge 26, 3) := by decide +kernel
theorem dd_M_back_56 : decode bb_M_back 56 = .ok (.aload_n 0, 1) := by decide +kernel
theorem dd_M_back_57 : decode bb_M_back 57 = .ok (.getfield 39, 3) := by decide +kernel
theorem dd_M_back_60 : decode bb_M_back 60 = .ok (.iload_n 2, 1) := by decide +kernel
theorem dd_M_back_61 : decode bb_M_back 61 = .ok (.aload_n 0, 1) := by decide +kernel
theorem dd_M_back_62 : decode bb_M_back 62 = .ok (.getfield 74, 3) := by decide +kernel
theorem dd_M_back_65 : decode bb_M_back 65 = .ok (.bipush 124, 2) := by decide +kernel
theorem dd_M_back_67 : decode bb_M_back 67 = .ok (.iload_n 1, 1) := by decide +kernel
theorem dd_M_back_68 : decode bb_M_back 68 = .ok (.imul, 1) := by decide +kernel
theorem dd_M_back_69 : decode bb_M_back 69 = .ok (.iload_n 2, 1) := by decide +kernel
theorem dd_M_back_70 : decode bb_M_back 70 = .ok (.iadd, 1) := by decide +kernel
theorem dd_M_back_71 : decode bb_M_back 71 = .ok (.iaload, 1) := by decide +kernel
theorem dd_M_back_72 : decode bb_M_back 72 = .ok (.iastore, 1) := by decide +kernel
theorem dd_M_back_73 : decode bb_M_back 73 = .ok (.iinc 2 1, 3) := by decide +kernel
theorem dd_M_back_76 : decode bb_M_back 76 = .ok (.goto (-26), 3) := by decide +kernel
theorem dd_M_back_79 : decode bb_M_back 79 = .ok (.aload_n 0, 1) := by decide +kernel
theorem dd_M_back_80 : decode bb_M_back 80 = .ok (.getfield 39, 3) := by decide +kernel
theorem dd_M_back_83 : decode bb_M_back 83 = .ok (.bipush 10, 2) := by decide +kernel
theorem dd_M_back_85 : decode bb_M_back 85 = .ok (.iaload, 1) := by decide +kernel
theorem dd_M_back_86 : decode bb_M_back 86 = .ok (.ireturn, 1) := by decide +kernel
def mm_M_back_j21 (N : Nat) (this : Option Nat) (a1 : Int32) (h_21 : ss_Hp) : Option (Int32 × ss_Hp) :=
  some ((-1 : Int32), h_21)
def mm_M_back_b50 (N : Nat) (this : Option Nat) (a1 : Int32) (st : Int32 × ss_Hp) : Option ((Int32 × ss_Hp) ⊕ ss_Hp) :=
  match st with
  | (x2_50, h_50) =>
    if (124 : Int32) ≤ x2_50 then
      some (.inr h_50)
    else
      (ss_gr h_50 this 12 9).bind fun r16 =>
      (ss_gr h_50 this 12 19).bind fun r17 =>
      (ss_ai h_50 r17 20 (((124 : Int32) * a1) + x2_50)).bind fun v18 =>
      (ss_ui h_50 r16 20 x2_50 v18).bind fun h19 =>
      (some (x2_50 + (1 : Int32))).bind fun v20 =>
      some (.inl (v20, h19))
def mm_M_back (N : Nat) (this : Option Nat) (a1 : Int32) (h : ss_Hp) : Option (Int32 × ss_Hp) :=
  if ss_is h this 12 = true then
    (mm_M_in N ((a1).toInt64) (0 : Int64) (3 : Int64)).bind fun v1 =>
    if v1 = 0 then
      mm_M_back_j21 N this a1 h
    else
      (ss_gr h this 12 22).bind fun r3 =>
      (ss_ai h r3 22 a1).bind fun v4 =>
      if v4 = 0 then
        mm_M_back_j21 N this a1 h
      else
        (ss_gr h this 12 20).bind fun r6 =>
        (ss_ai h r6 20 a1).bind fun v7 =>
        (ss_pi h this 12 13 v7).bind fun h8 =>
        (ss_gr h8 this 12 21).bind fun r9 =>
        (ss_ai h8 r9 20 a1).bind fun v10 =>
        (ss_pi h8 this 12 14 v10).bind fun h11 =>
        (ss_pi h11 this 12 15 (0 : Int32)).bind fun h12 =>
        (ss_lp (mm_M_back_b50 N this a1) N ((0 : Int32), h12)).bind fun h_50_79 =>
        (ss_gr h_50_79 this 12 9).bind fun r13 =>
        (ss_ai h_50_79 r13 20 (10 : Int32)).bind fun v14 =>
        some (v14, h_50_79)
  else none
abbrev ww_M_back (p : Program) (l : Launch) (e : Env) (s : State) (m : MethodId) (below : List Frame) (meth : Method) (c : Code) (G : ss_G) (this : Option Nat) (a1 : Int32) (h : ss_Hp) (rr : Int32) (hh : ss_Hp) (H : Heap) (locs : List Loc) (k n : Nat) (g : JFrame) : Prop := W p l e (headSpec (ss_w yy_M_back bb_M_back 3 (some (.int))) ({ frames := 1, cells := 0, slots := 0, locals := 25 })).room s m ([ss_v (ss_b G) this, .int a1] : List Value).toArray below meth c H locs k n (MQ below (ss_Qc G (some (.int rr)) hh) ([ss_v (ss_b G) this, .int a1] : List Value).toArray s 0 0 (ss_A G)) g
theorem ck_M_back {N : Nat} {this : Option Nat} {a1 : Int32} {h : ss_Hp} {res : Int32 × ss_Hp} (hm : mm_M_back N this a1 h = some res) : ss_is h this 12 = true := (ss_chk hm).1
set_option maxHeartbeats 4000000 in
set_option maxRecDepth 100000 in
theorem cc_M_back (l : Launch) (G : ss_G) (N : Nat) (this : Option Nat) (a1 : Int32) (h : ss_Hp) (rr : Int32) (hh : ss_Hp) (hm : mm_M_back N this a1 h = some (rr, hh)) : ss_Ct l G yy_M_back bb_M_back 3 (some (.int)) ({ frames := 1, cells := 0, slots := 0, locals := 25 }) [ss_v (ss_b G) this, .int a1] h (some (.int rr)) hh := by
  obtain ⟨hck, hm⟩ := ss_chk hm
  refine Met.ofW (cc := bb_M_back) (maxL := 3) (ret := (some (.int))) (by decide) rfl ?_
  intro p e s m args below meth c s₁ B hml hv
  obtain ⟨rfl, hR, hK⟩ := hv
  have hC : CallFix p m c bb_M_back 3 s _ lw_g sR_12 := ⟨B.exec, B.bytes, hml, findClass_of_methodNamed B.named, fun w hw => atoms_spec (ws := ss_w yy_M_back bb_M_back 3 (some (.int))) B.pre w (List.mem_cons_of_mem _ hw)⟩
  have hx := hC.1
  have hb := hC.2.1
  have hr := B.returns
  have hlocks := B.notSynchronized
  have hS : va_S (ss_A G) s.heap s.heap [] := va_S.rf
  have hl := lv_entry ([ss_v (ss_b G) this, .int a1]) (n := 3) (by simp [lg_sl, ss_v_cat, ss_cat_i, ss_cat_l, ss_cat_r])
  rw [lg_entry_eq]
  generalize (lg_sl ([ss_v (ss_b G) this, .int a1]) ++ List.replicate (3 - (lg_sl ([ss_v (ss_b G) this, .int a1])).length) Slot.unset).toArray = ls at hl ⊢
  have hl : lv_has ls 3 [(0, ss_v (ss_b G) this), (1, .int a1)] := by simpa [lv_args, ss_v_cat, ss_cat_i, ss_cat_l, ss_cat_r] using hl
  have J_21 : ∀ (h_21 : ss_Hp) (H : Heap) (locs : List Loc) (ls : Array Slot), mm_M_back_j21 N this a1 h_21 = some (rr, hh) → ss_R G h_21 H → va_S (ss_A G) s.heap H locs → lv_has ls 3 [] → ww_M_back p l e s m below meth c G this a1 h rr hh  H locs 0 0 (F0 m 21 ls []) := by
    intro h_21 H locs ls hm hR hS hl
    refine lv_iconst (v := -1) hx hb dd_M_back_21 (by decide) ?_
    exact ss_iret hC hr hlocks hR hS hm dd_M_back_22
  refine lv_iload_n hx hb dd_M_back_0 rfl (lv_at hl 1 rfl) ?_
  refine lv_i2l hx hb dd_M_back_1 rfl ?_
  refine lv_lconst (v := 0) hx hb dd_M_back_2 (by decide) ?_
  refine lv_ldc2 (v := 3) hx hb hC.2.2.2.1 (hC.2.2.2.2 _ kl_M_459) dd_M_back_3 ?_
  obtain ⟨v1, qv1, hm⟩ := ss_bind hm
  refine ss_cS 0 0 (As := [.long ((a1).toInt64), .long (0 : Int64), .long (3 : Int64)]) hC hK hR hS hl.1 (cc_M_in l G N _ _ _ _ _ qv1) km_M_124 ⟨Nat.le_of_ble_eq_true rfl, Nat.le_of_ble_eq_true rfl⟩ ⟨Nat.le_of_ble_eq_true rfl, Nat.le_of_ble_eq_true rfl, Nat.le_of_ble_eq_true rfl, Nat.le_of_ble_eq_true rfl⟩ rfl rfl (Nat.le_of_ble_eq_true rfl) dd_M_back_6 (fun H locs hR hS => ?_)
  refine lv_if_eq (tgt := 21) hx hb dd_M_back_9 (by decide) (fun c2 => ?_) (fun c2 => ?_)
  · have hm := ss_ift hm c2
    exact J_21 h _ _ _ hm hR hS (lv_sub hl [] rfl)
  · have hm := ss_iff hm c2
    refine ss_aload_n hx hb dd_M_back_12 rfl (lv_at hl 0 rfl) ?_
    obtain ⟨r3, qr3, hm⟩ := ss_bind hm
    refine ss_getr hC hK hR kf_M_83 rfl qr3 dd_M_back_13 ?_
    refine lv_iload_n hx hb dd_M_back_16 rfl (lv_at hl 1 rfl) ?_
    obtain ⟨v4, qv4, hm⟩ := ss_bind hm
    refine ss_zald hC hK hR qv4 dd_M_back_17 ?_
    refine lv_if_ne (tgt := 23) hx hb dd_M_back_18 (by decide) (fun c5 => ?_) (fun c5 => ?_)
    · have hm := ss_iff hm c5
      refine ss_aload_n hx hb dd_M_back_23 rfl (lv_at hl 0 rfl) ?_
      refine ss_aload_n hx hb dd_M_back_24 rfl (lv_at hl 0 rfl) ?_
      obtain ⟨r6, qr6, hm⟩ := ss_bind hm
      refine ss_getr hC hK hR kf_M_77 rfl qr6 dd_M_back_25 ?_
      refine lv_iload_n hx hb dd_M_back_28 rfl (lv_at hl 1 rfl) ?_
      obtain ⟨v7, qv7, hm⟩ := ss_bind hm
      refine ss_iald hC hK hR qv7 dd_M_back_29 ?_
      obtain ⟨h8, qh8, hm⟩ := ss_bind hm
      refine ss_puti hC hK hR hS kp_M_42 qh8 dd_M_back_30 (fun H locs hR hS => ?_)
      refine ss_aload_n hx hb dd_M_back_33 rfl (lv_at hl 0 rfl) ?_
      refine ss_aload_n hx hb dd_M_back_34 rfl (lv_at hl 0 rfl) ?_
      obtain ⟨r9, qr9, hm⟩ := ss_bind hm
      refine ss_getr hC hK hR kf_M_80 rfl qr9 dd_M_back_35 ?_
      refine lv_iload_n hx hb dd_M_back_38 rfl (lv_at hl 1 rfl) ?_
      obtain ⟨v10, qv10, hm⟩ := ss_bind hm
      refine ss_iald hC hK hR qv10 dd_M_back_39 ?_
      obtain ⟨h11, qh11, hm⟩ := ss_bind hm
      refine ss_puti hC hK hR hS kp_M_441 qh11 dd_M_back_40 (fun H locs hR hS => ?_)
      refine ss_aload_n hx hb dd_M_back_43 rfl (lv_at hl 0 rfl) ?_
      refine lv_iconst (v := 0) hx hb dd_M_back_44 (by decide) ?_
      obtain ⟨h12, qh12, hm⟩ := ss_bind hm
      refine ss_puti hC hK hR hS kp_M_289 qh12 dd_M_back_45 (fun H locs hR hS => ?_)
      refine lv_iconst (v := 0) hx hb dd_M_back_48 (by decide) ?_
      refine lv_istore_n (lv' := [(2, .int (0 : Int32)), (0, ss_v (ss_b G) this), (1, .int a1)]) hx hb dd_M_back_49 rfl hl (by decide) rfl (fun ls hl => ?_)
      obtain ⟨e_50, he_50, hm⟩ := ss_bind hm
      have X_50_79 : ∀  (h_50_79 : ss_Hp) (H : Heap) (locs : List Loc) (ls : Array Slot), e_50 = h_50_79 → ss_R G h_50_79 H → va_S (ss_A G) s.heap H locs → lv_has ls 3 [(0, ss_v (ss_b G) this)] → ww_M_back p l e s m below meth c G this a1 h rr hh  H locs 0 0 (F0 m 79 ls []) := by
        intro h_50_79 H locs ls hq hR hS hl
        rw [hq] at hm
        refine ss_aload_n hx hb dd_M_back_79 rfl (lv_at hl 0 rfl) ?_
        obtain ⟨r13, qr13, hm⟩ := ss_bind hm
        refine ss_getr hC hK hR kf_M_39 rfl qr13 dd_M_back_80 ?_
        refine lv_bipush (v := 10) hx hb dd_M_back_83 (by decide) ?_
        obtain ⟨v14, qv14, hm⟩ := ss_bind hm
        refine ss_iald hC hK hR qv14 dd_M_back_85 ?_
        exact ss_iret hC hr hlocks hR hS hm dd_M_back_86
      have L_50 : ∀ (n : Nat) (x2_50 : Int32) (h_50 : ss_Hp) (H : Heap) (locs : List Loc) (ls : Array Slot), ss_lp (mm_M_back_b50 N this a1) n (x2_50, h_50) = some e_50 → ss_R G h_50 H → va_S (ss_A G) s.heap H locs → lv_has ls 3 [(0, ss_v (ss_b G) this), (1, .int a1), (2, .int x2_50)] → ww_M_back p l e s m below meth c G this a1 h rr hh  H locs 0 0 (F0 m 50 ls []) := by
        intro n
        induction n with
        | zero => intro x2_50 h_50 H locs ls hm; cases hm
        | succ n ih_50 =>
          intro x2_50 h_50 H locs ls hm hR hS hl
          obtain ⟨z_50, hm, hz1_50, hz2_50⟩ := ss_lps hm
          refine lv_iload_n hx hb dd_M_back_50 rfl (lv_at hl 2 rfl) ?_
          refine lv_bipush (v := 124) hx hb dd_M_back_51 (by decide) ?_
          refine lv_icmp_ge (tgt := 79) hx hb dd_M_back_53 (by decide) (fun c15 => ?_) (fun c15 => ?_)
          · have hm := ss_ift hm c15
            exact X_50_79 h_50 _ _ _ (hz2_50 _ (ss_some hm)) hR hS (lv_sub hl [0] rfl)
          · have hm := ss_iff hm c15
            refine ss_aload_n hx hb dd_M_back_56 rfl (lv_at hl 0 rfl) ?_
            obtain ⟨r16, qr16, hm⟩ := ss_bind hm
            refine ss_getr hC hK hR kf_M_39 rfl qr16 dd_M_back_57 ?_
            refine lv_iload_n hx hb dd_M_back_60 rfl (lv_at hl 2 rfl) ?_
            refine ss_aload_n hx hb dd_M_back_61 rfl (lv_at hl 0 rfl) ?_
            obtain ⟨r17, qr17, hm⟩ := ss_bind hm
            refine ss_getr hC hK hR kf_M_74 rfl qr17 dd_M_back_62 ?_
            refine lv_bipush (v := 124) hx hb dd_M_back_65 (by decide) ?_
            refine lv_iload_n hx hb dd_M_back_67 rfl (lv_at hl 1 rfl) ?_
            refine lv_imul hx hb dd_M_back_68 ?_
            refine lv_iload_n hx hb dd_M_back_69 rfl (lv_at hl 2 rfl) ?_
            refine lv_iadd hx hb dd_M_back_70 ?_
            obtain ⟨v18, qv18, hm⟩ := ss_bind hm
            refine ss_iald hC hK hR qv18 dd_M_back_71 ?_
            obtain ⟨h19, qh19, hm⟩ := ss_bind hm
            refine ss_iast hC hK hR hS qh19 dd_M_back_72 (fun H locs hR hS => ?_)
            obtain ⟨v20, qv20, hm⟩ := ss_bind hm
            refine lv_iinc (v := v20) (lv' := [(2, .int v20), (0, ss_v (ss_b G) this), (1, .int a1)]) hx hb dd_M_back_73 hl (k := 2) rfl (ss_inc (by decide) qv20) (by decide) rfl (fun ls hl => ?_)
            refine lv_goto (tgt := 50) hx hb dd_M_back_76 (by decide) ?_
            exact ih_50 v20 h19 _ _ _ (hz1_50 _ (ss_some hm)) hR hS (lv_sub hl [1, 2, 0] rfl)
      exact L_50 N (0 : Int32) h12 _ _ _ he_50 hR hS (lv_sub hl [1, 2, 0] rfl)
    · have hm := ss_ift hm c5
      exact J_21 h _ _ _ hm hR hS (lv_sub hl [] rfl)
