theorem dd_M_neededOn_0 : decode bb_M_neededOn 0 = .ok (.iload_n 1, 1) := by decide +kernel
theorem dd_M_neededOn_1 : decode bb_M_neededOn 1 = .ok (.bipush 30, 2) := by decide +kernel
theorem dd_M_neededOn_3 : decode bb_M_neededOn 3 = .ok (.if_icmp .gt 15, 3) := by decide +kernel
theorem dd_M_neededOn_6 : decode bb_M_neededOn 6 = .ok (.aload_n 0, 1) := by decide +kernel
theorem dd_M_neededOn_7 : decode bb_M_neededOn 7 = .ok (.getfield 39, 3) := by decide +kernel
theorem dd_M_neededOn_10 : decode bb_M_neededOn 10 = .ok (.bipush 62, 2) := by decide +kernel
theorem dd_M_neededOn_12 : decode bb_M_neededOn 12 = .ok (.iload_n 1, 1) := by decide +kernel
theorem dd_M_neededOn_13 : decode bb_M_neededOn 13 = .ok (.iadd, 1) := by decide +kernel
theorem dd_M_neededOn_14 : decode bb_M_neededOn 14 = .ok (.iaload, 1) := by decide +kernel
theorem dd_M_neededOn_15 : decode bb_M_neededOn 15 = .ok (.goto 4, 3) := by decide +kernel
theorem dd_M_neededOn_18 : decode bb_M_neededOn 18 = .ok (.iconst 0, 1) := by decide +kernel
theorem dd_M_neededOn_19 : decode bb_M_neededOn 19 = .ok (.ireturn, 1) := by decide +kernel
def mm_M_neededOn_j19 (N : Nat) (this : Option Nat) (a1 : Int32) (h : ss_Hp) (s0_19 : Int32) : Option Int32 :=
  some s0_19
def mm_M_neededOn (N : Nat) (this : Option Nat) (a1 : Int32) (h : ss_Hp) : Option Int32 :=
  if ss_is h this 12 = true then
    if (30 : Int32) < a1 then
      mm_M_neededOn_j19 N this a1 h (0 : Int32)
    else
      (ss_gr h this 12 9).bind fun r2 =>
      (ss_ai h r2 20 ((62 : Int32) + a1)).bind fun v3 =>
      mm_M_neededOn_j19 N this a1 h v3
  else none
abbrev ww_M_neededOn (p : Program) (l : Launch) (e : Env) (s : State) (m : MethodId) (below : List Frame) (meth : Method) (c : Code) (G : ss_G) (this : Option Nat) (a1 : Int32) (h : ss_Hp) (rr : Int32) (H : Heap) (locs : List Loc) (k n : Nat) (g : JFrame) : Prop := W p l e (headSpec (ss_w yy_M_neededOn bb_M_neededOn 2 (some (.int))) ({ frames := 0, cells := 0, slots := 0, locals := 0 })).room s m ([ss_v (ss_b G) this, .int a1] : List Value).toArray below meth c H locs k n (MQ below (ss_Qc G (some (.int rr)) h) ([ss_v (ss_b G) this, .int a1] : List Value).toArray s 0 0 (ss_A G)) g
theorem ck_M_neededOn {N : Nat} {this : Option Nat} {a1 : Int32} {h : ss_Hp} {res : Int32} (hm : mm_M_neededOn N this a1 h = some res) : ss_is h this 12 = true := (ss_chk hm).1
set_option maxHeartbeats 4000000 in
set_option maxRecDepth 100000 in
theorem cc_M_neededOn (l : Launch) (G : ss_G) (N : Nat) (this : Option Nat) (a1 : Int32) (h : ss_Hp) (rr : Int32) (hm : mm_M_neededOn N this a1 h = some rr) : ss_Ct l G yy_M_neededOn bb_M_neededOn 2 (some (.int)) ({ frames := 0, cells := 0, slots := 0, locals := 0 }) [ss_v (ss_b G) this, .int a1] h (some (.int rr)) h := by
  obtain ⟨hck, hm⟩ := ss_chk hm
  refine Met.ofW (cc := bb_M_neededOn) (maxL := 2) (ret := (some (.int))) (by decide) rfl ?_
  intro p e s m args below meth c s₁ B hml hv
  obtain ⟨rfl, hR, hK⟩ := hv
  have hC : CallFix p m c bb_M_neededOn 2 s _ lw_g sR_12 := ⟨B.exec, B.bytes, hml, findClass_of_methodNamed B.named, fun w hw => atoms_spec (ws := ss_w yy_M_neededOn bb_M_neededOn 2 (some (.int))) B.pre w (List.mem_cons_of_mem _ hw)⟩
  have hx := hC.1
  have hb := hC.2.1
  have hr := B.returns
  have hlocks := B.notSynchronized
  have hS : va_S (ss_A G) s.heap s.heap [] := va_S.rf
  have hl := lv_entry ([ss_v (ss_b G) this, .int a1]) (n := 2) (by simp [lg_sl, ss_v_cat, ss_cat_i, ss_cat_l, ss_cat_r])
  rw [lg_entry_eq]
  generalize (lg_sl ([ss_v (ss_b G) this, .int a1]) ++ List.replicate (2 - (lg_sl ([ss_v (ss_b G) this, .int a1])).length) Slot.unset).toArray = ls at hl ⊢
  have hl : lv_has ls 2 [(0, ss_v (ss_b G) this), (1, .int a1)] := by simpa [lv_args, ss_v_cat, ss_cat_i, ss_cat_l, ss_cat_r] using hl
  have J_19 : ∀ (s0_19 : Int32) (H : Heap) (locs : List Loc) (ls : Array Slot), mm_M_neededOn_j19 N this a1 h s0_19 = some rr → ss_R G h H → va_S (ss_A G) s.heap H locs → lv_has ls 2 [] → ww_M_neededOn p l e s m below meth c G this a1 h rr  H locs 0 0 (F0 m 19 ls [.int s0_19]) := by
    intro s0_19 H locs ls hm hR hS hl
    exact ss_iret hC hr hlocks hR hS (ss_with _ hm) dd_M_neededOn_19
  refine lv_iload_n hx hb dd_M_neededOn_0 rfl (lv_at hl 1 rfl) ?_
  refine lv_bipush (v := 30) hx hb dd_M_neededOn_1 (by decide) ?_
  refine lv_icmp_gt (tgt := 18) hx hb dd_M_neededOn_3 (by decide) (fun c1 => ?_) (fun c1 => ?_)
  · have hm := ss_ift hm c1
    refine lv_iconst (v := 0) hx hb dd_M_neededOn_18 (by decide) ?_
    exact J_19 (0 : Int32)  _ _ _ hm hR hS (lv_sub hl [] rfl)
  · have hm := ss_iff hm c1
    refine ss_aload_n hx hb dd_M_neededOn_6 rfl (lv_at hl 0 rfl) ?_
    obtain ⟨r2, qr2, hm⟩ := ss_bind hm
    refine ss_getr hC hK hR kf_M_39 rfl qr2 dd_M_neededOn_7 ?_
    refine lv_bipush (v := 62) hx hb dd_M_neededOn_10 (by decide) ?_
    refine lv_iload_n hx hb dd_M_neededOn_12 rfl (lv_at hl 1 rfl) ?_
    refine lv_iadd hx hb dd_M_neededOn_13 ?_
    obtain ⟨v3, qv3, hm⟩ := ss_bind hm
    refine ss_iald hC hK hR qv3 dd_M_neededOn_14 ?_
    refine lv_goto (tgt := 19) hx hb dd_M_neededOn_15 (by decide) ?_
    exact J_19 v3  _ _ _ hm hR hS (lv_sub hl [] rfl)
theorem dd_M_step_0 : decode bb_M_step 0 = .ok (.aload_n 0, 1) := by decide +kernel
theorem dd_M_step_1 : decode bb_M_step 1 = .ok (.iload_n 1, 1) := by decide +kernel
theorem dd_M_step_2 : decode bb_M_step 2 = .ok (.invokevirtual 313, 3) := by decide +kernel
theorem dd_M_step_5 : decode bb_M_step 5 = .ok (.ifCond .ne 6, 3) := by decide +kernel
theorem dd_M_step_8 : decode bb_M_step 8 = .ok (.bipush (-2), 2) := by decide +kernel
theorem dd_M_step_10 : decode bb_M_step 10 = .ok (.ireturn, 1) := by decide +kernel
theorem dd_M_step_11 : decode bb_M_step 11 = .ok (.iload_n 2, 1) := by decide +kernel
theorem dd_M_step_12 : decode bb_M_step 12 = .ok (.tableswitch 128 0 5 #[40, 50, 64, 84, 94, 104], 40) := by decide +kernel
theorem dd_M_step_52 : decode bb_M_step 52 = .ok (.aload_n 0, 1) := by decide +kernel
theorem dd_M_step_53 : decode bb_M_step 53 = .ok (.getfield 39, 3) := by decide +kernel
theorem dd_M_step_56 : decode bb_M_step 56 = .ok (.bipush 14, 2) := by decide +kernel
theorem dd_M_step_58 : decode bb_M_step 58 = .ok (.iload_n 1, 1) := by decide +kernel
theorem dd_M_step_59 : decode bb_M_step 59 = .ok (.iadd, 1) := by decide +kernel
theorem dd_M_step_60 : decode bb_M_step 60 = .ok (.iaload, 1) := by decide +kernel
theorem dd_M_step_61 : decode bb_M_step 61 = .ok (.ireturn, 1) := by decide +kernel
theorem dd_M_step_62 : decode bb_M_step 62 = .ok (.aload_n 0, 1) := by decide +kernel
theorem dd_M_step_63 : decode bb_M_step 63 = .ok (.iload_n 1, 1) := by decide +kernel
theorem dd_M_step_64 : decode bb_M_step 64 = .ok (.invokevirtual 307, 3) := by decide +kernel
theorem dd_M_step_67 : decode bb_M_step 67 = .ok (.ifCond .eq 7, 3) := by decide +kernel
theorem dd_M_step_70 : decode bb_M_step 70 = .ok (.iconst 1, 1) := by decide +kernel
theorem dd_M_step_71 : decode bb_M_step 71 = .ok (.goto 4, 3) := by decide +kernel
theorem dd_M_step_74 : decode bb_M_step 74 = .ok (.iconst 0, 1) := by decide +kernel
theorem dd_M_step_75 : decode bb_M_step 75 = .ok (.ireturn, 1) := by decide +kernel
theorem dd_M_step_76 : decode bb_M_step 76 = .ok (.aload_n 0, 1) := by decide +kernel
theorem dd_M_step_77 : decode bb_M_step 77 = .ok (.getfield 39, 3) := by decide +kernel
theorem dd_M_step_80 : decode bb_M_step 80 = .ok (.bipush 11, 2) := by decide +kernel
theorem dd_M_step_82 : decode bb_M_step 82 = .ok (.iaload, 1) := by decide +kernel
theorem dd_M_step_83 : decode bb_M_step 83 = .ok (.iload_n 1, 1) := by decide +kernel
theorem dd_M_step_84 : decode bb_M_step 84 = .ok (.invokestatic 316, 3) := by decide +kernel
theorem dd_M_step_87 : decode bb_M_step 87 = .ok (.ifCond .eq 7, 3) := by decide +kernel
theorem dd_M_step_90 : decode bb_M_step 90 = .ok (.iconst 1, 1) := by decide +kernel
theorem dd_M_step_91 : decode bb_M_step 91 = .ok (.goto 4, 3) := by decide +kernel
theorem dd_M_step_94 : decode bb_M_step 94 = .ok (.iconst 0, 1) := by decide +kernel
theorem dd_M_step_95 : decode bb_M_step 95 = .ok (.ireturn, 1) := by decide +kernel
theorem dd_M_step_96 : decode bb_M_step 96 = .ok (.aload_n 0, 1) := by decide +kernel
theorem dd_M_step_97 : decode bb_M_step 97 = .ok (.getfield 39, 3) := by decide +kernel
theorem dd_M_step_100 : decode bb_M_step 100 = .ok (.bipush 22, 2) := by decide +kernel
theorem dd_M_step_102 : decode bb_M_step 102 = .ok (.iload_n 1, 1) := by decide +kernel
theorem dd_M_step_103 : decode bb_M_step 103 = .ok (.iadd, 1) := by decide +kernel
theorem dd_M_step_104 : decode bb_M_step 104 = .ok (.iaload, 1) := by decide +kernel
theorem dd_M_step_105 : decode bb_M_step 105 = .ok (.ireturn, 1) := by decide +kernel
theorem dd_M_step_106 : decode bb_M_step 106 = .ok (.aload_n 0, 1) := by decide +kernel
theorem dd_M_step_107 : decode bb_M_step 107 = .ok (.getfield 39, 3) := by decide +kernel
theorem dd_M_step_110 : decode bb_M_step 110 = .ok (.bipush 30, 2) := by decide +kernel
theorem dd_M_step_112 : decode bb_M_step 112 = .ok (.iload_n 1, 1) := by decide +kernel
theorem dd_M_step_113 : decode bb_M_step 113 = .ok (.iadd, 1) := by decide +kernel
theorem dd_M_step_114 : decode bb_M_step 114 = .ok (.iaload, 1) := by decide +kernel
theorem dd_M_step_115 : decode bb_M_step 115 = .ok (.ireturn, 1) := by decide +kernel
theorem dd_M_step_116 : decode bb_M_step 116 = .ok (.aload_n 0, 1) := by decide +kernel
theorem dd_M_step_117 : decode bb_M_step 117 = .ok (.aload_n 0, 1) := by decide +kernel
theorem dd_M_step_118 : decode bb_M_step 118 = .ok (.getfield 39, 3) := by decide +kernel
theorem dd_M_step_121 : decode bb_M_step 121 = .ok (.bipush 10, 2) := by decide +kernel
theorem dd_M_step_123 : decode bb_M_step 123 = .ok (.iaload, 1) := by decide +kernel
theorem dd_M_step_124 : decode bb_M_step 124 = .ok (.invokevirtual 319, 3) := by decide +kernel
theorem dd_M_step_127 : decode bb_M_step 127 = .ok (.iload_n 1, 1) := by decide +kernel
theorem dd_M_step_128 : decode bb_M_step 128 = .ok (.invokestatic 316, 3) := by decide +kernel
theorem dd_M_step_131 : decode bb_M_step 131 = .ok (.ifCond .eq 7, 3) := by decide +kernel
theorem dd_M_step_134 : decode bb_M_step 134 = .ok (.iconst 1, 1) := by decide +kernel
theorem dd_M_step_135 : decode bb_M_step 135 = .ok (.goto 4, 3) := by decide +kernel
theorem dd_M_step_138 : decode bb_M_step 138 = .ok (.iconst 0, 1) := by decide +kernel
theorem dd_M_step_139 : decode bb_M_step 139 = .ok (.ireturn, 1) := by decide +kernel
theorem dd_M_step_140 : decode bb_M_step 140 = .ok (.bipush (-2), 2) := by decide +kernel
theorem dd_M_step_142 : decode bb_M_step 142 = .ok (.ireturn, 1) := by decide +kernel
def mm_M_step_j75 (N : Nat) (this : Option Nat) (a1 : Int32) (a2 : Int32) (h : ss_Hp) (s0_75 : Int32) : Option Int32 :=
  some s0_75
def mm_M_step_j95 (N : Nat) (this : Option Nat) (a1 : Int32) (a2 : Int32) (h : ss_Hp) (s0_95 : Int32) : Option Int32 :=
  some s0_95
def mm_M_step_j139 (N : Nat) (this : Option Nat) (a1 : Int32) (a2 : Int32) (h : ss_Hp) (s0_139 : Int32) : Option Int32 :=
  some s0_139
def mm_M_step (N : Nat) (this : Option Nat) (a1 : Int32) (a2 : Int32) (h : ss_Hp) : Option Int32 :=
  if ss_is h this 12 = true then
    (mm_M_isStep N this a1 h).bind fun v1 =>
    if v1 = 0 then
      some (-2 : Int32)
    else
      if a2 = (0 : Int32) then
        (ss_gr h this 12 9).bind fun r4 =>
        (ss_ai h r4 20 ((14 : Int32) + a1)).bind fun v5 =>
        some v5
      else
      if a2 = (1 : Int32) then
        (mm_M_isClosed N this a1 h).bind fun v7 =>
        if v7 = 0 then
          mm_M_step_j75 N this a1 a2 h (0 : Int32)
        else
          mm_M_step_j75 N this a1 a2 h (1 : Int32)
      else
      if a2 = (2 : Int32) then
        (ss_gr h this 12 9).bind fun r10 =>
        (ss_ai h r10 20 (11 : Int32)).bind fun v11 =>
        (mm_M_isOf N v11 a1).bind fun v12 =>
        if v12 = 0 then
          mm_M_step_j95 N this a1 a2 h (0 : Int32)
        else
          mm_M_step_j95 N this a1 a2 h (1 : Int32)
      else
      if a2 = (3 : Int32) then
        (ss_gr h this 12 9).bind fun r15 =>
        (ss_ai h r15 20 ((22 : Int32) + a1)).bind fun v16 =>
        some v16
      else
      if a2 = (4 : Int32) then
        (ss_gr h this 12 9).bind fun r18 =>
        (ss_ai h r18 20 ((30 : Int32) + a1)).bind fun v19 =>
        some v19
      else
      if a2 = (5 : Int32) then
        (ss_gr h this 12 9).bind fun r21 =>
        (ss_ai h r21 20 (10 : Int32)).bind fun v22 =>
        (mm_M_neededOn N this v22 h).bind fun v23 =>
        (mm_M_isOf N v23 a1).bind fun v24 =>
        if v24 = 0 then
          mm_M_step_j139 N this a1 a2 h (0 : Int32)
        else
          mm_M_step_j139 N this a1 a2 h (1 : Int32)
      else
      some (-2 : Int32)
  else none
abbrev ww_M_step (p : Program) (l : Launch) (e : Env) (s : State) (m : MethodId) (below : List Frame) (meth : Method) (c : Code) (G : ss_G) (this : Option Nat) (a1 : Int32) (a2 : Int32) (h : ss_Hp) (rr : Int32) (H : Heap) (locs : List Loc) (k n : Nat) (g : JFrame) : Prop := W p l e (headSpec (ss_w yy_M_step bb_M_step 3 (some (.int))) ({ frames := 1, cells := 0, slots := 0, locals := 21 })).room s m ([ss_v (ss_b G) this, .int a1, .int a2] : List Value).toArray below meth c H locs k n (MQ below (ss_Qc G (some (.int rr)) h) ([ss_v (ss_b G) this, .int a1, .int a2] : List Value).toArray s 0 0 (ss_A G)) g
theorem ck_M_step {N : Nat} {this : Option Nat} {a1 : Int32} {a2 : Int32} {h : ss_Hp} {res : Int32} (hm : mm_M_step N this a1 a2 h = some res) : ss_is h this 12 = true := (ss_chk hm).1
set_option maxHeartbeats 4000000 in
set_option maxRecDepth 100000 in
theorem cc_M_step (l : Launch) (G : ss_G) (N : Nat) (this : Option Nat) (a1 : Int32) (a2 : Int32) (h : ss_Hp) (rr : Int32) (hm : mm_M_step N this a1 a2 h = some rr) : ss_Ct l G yy_M_step bb_M_step 3 (some (.int)) ({ frames := 1, cells := 0, slots := 0, locals := 21 }) [ss_v (ss_b G) this, .int a1, .int a2] h (some (.int rr)) h := by
  obtain ⟨hck, hm⟩ := ss_chk hm
  refine Met.ofW (cc := bb_M_step) (maxL := 3) (ret := (some (.int))) (by decide) rfl ?_
  intro p e s m args below meth c s₁ B hml hv
  obtain ⟨rfl, hR, hK⟩ := hv
  have hC : CallFix p m c bb_M_step 3 s _ lw_g sR_12 := ⟨B.exec, B.bytes, hml, findClass_of_methodNamed B.named, fun w hw => atoms_spec (ws := ss_w yy_M_step bb_M_step 3 (some (.int))) B.pre w (List.mem_cons_of_mem _ hw)⟩
  have hx := hC.1
  have hb := hC.2.1
  have hr := B.returns
  have hlocks := B.notSynchronized
  have hS : va_S (ss_A G) s.heap s.heap [] := va_S.rf
  have hl := lv_entry ([ss_v (ss_b G) this, .int a1, .int a2]) (n := 3) (by simp [lg_sl, ss_v_cat, ss_cat_i, ss_cat_l, ss_cat_r])
  rw [lg_entry_eq]
  generalize (lg_sl ([ss_v (ss_b G) this, .int a1, .int a2]) ++ List.replicate (3 - (lg_sl ([ss_v (ss_b G) this, .int a1, .int a2])).length) Slot.unset).toArray = ls at hl ⊢
  have hl : lv_has ls 3 [(0, ss_v (ss_b G) this), (1, .int a1), (2, .int a2)] := by simpa [lv_args, ss_v_cat, ss_cat_i, ss_cat_l, ss_cat_r] using hl
  have J_75 : ∀ (s0_75 : Int32) (H : Heap) (locs : List Loc) (ls : Array Slot), mm_M_step_j75 N this a1 a2 h s0_75 = some rr → ss_R G h H → va_S (ss_A G) s.heap H locs → lv_has ls 3 [] → ww_M_step p l e s m below meth c G this a1 a2 h rr  H locs 0 0 (F0 m 75 ls [.int s0_75]) := by
    intro s0_75 H locs ls hm hR hS hl
    exact ss_iret hC hr hlocks hR hS (ss_with _ hm) dd_M_step_75
  have J_95 : ∀ (s0_95 : Int32) (H : Heap) (locs : List Loc) (ls : Array Slot), mm_M_step_j95 N this a1 a2 h s0_95 = some rr → ss_R G h H → va_S (ss_A G) s.heap H locs → lv_has ls 3 [] → ww_M_step p l e s m below meth c G this a1 a2 h rr  H locs 0 0 (F0 m 95 ls [.int s0_95]) := by
    intro s0_95 H locs ls hm hR hS hl
    exact ss_iret hC hr hlocks hR hS (ss_with _ hm) dd_M_step_95
  have J_139 : ∀ (s0_139 : Int32) (H : Heap) (locs : List Loc) (ls : Array Slot), mm_M_step_j139 N this a1 a2 h s0_139 = some rr → ss_R G h H → va_S (ss_A G) s.heap H locs → lv_has ls 3 [] → ww_M_step p l e s m below meth c G this a1 a2 h rr  H locs 0 0 (F0 m 139 ls [.int s0_139]) := by
    intro s0_139 H locs ls hm hR hS hl
    exact ss_iret hC hr hlocks hR hS (ss_with _ hm) dd_M_step_139
  refine ss_aload_n hx hb dd_M_step_0 rfl (lv_at hl 0 rfl) ?_
  refine lv_iload_n hx hb dd_M_step_1 rfl (lv_at hl 1 rfl) ?_
  obtain ⟨v1, qv1, hm⟩ := ss_bind hm
  refine ss_cV 0 0 (As := [.int a1]) hC hK hR hS hl.1 (cc_M_isStep l G N _ _ _ _ qv1) km_M_313 (ck_M_isStep qv1) ⟨Nat.le_of_ble_eq_true rfl, Nat.le_of_ble_eq_true rfl⟩ ⟨Nat.le_of_ble_eq_true rfl, Nat.le_of_ble_eq_true rfl, Nat.le_of_ble_eq_true rfl, Nat.le_of_ble_eq_true rfl⟩ rfl rfl (Nat.le_of_ble_eq_true rfl) dd_M_step_2 (fun H locs hR hS => ?_)
  refine lv_if_ne (tgt := 11) hx hb dd_M_step_5 (by decide) (fun c2 => ?_) (fun c2 => ?_)
  · have hm := ss_iff hm c2
    refine lv_iload_n hx hb dd_M_step_11 rfl (lv_at hl 2 rfl) ?_
    by_cases c3 : a2 = (0 : Int32)
    · have hm := ss_ift hm c3
      refine lv_tableIn (tgt := 52) hx hb dd_M_step_12 (by rw [c3]; decide) (by rw [c3]; decide) (by rw [c3]; rfl) (by decide) ?_
      refine ss_aload_n hx hb dd_M_step_52 rfl (lv_at hl 0 rfl) ?_
      obtain ⟨r4, qr4, hm⟩ := ss_bind hm
      refine ss_getr hC hK hR kf_M_39 rfl qr4 dd_M_step_53 ?_
      refine lv_bipush (v := 14) hx hb dd_M_step_56 (by decide) ?_
      refine lv_iload_n hx hb dd_M_step_58 rfl (lv_at hl 1 rfl) ?_
      refine lv_iadd hx hb dd_M_step_59 ?_
      obtain ⟨v5, qv5, hm⟩ := ss_bind hm
      refine ss_iald hC hK hR qv5 dd_M_step_60 ?_
      exact ss_iret hC hr hlocks hR hS (ss_with _ hm) dd_M_step_61
    have hm := ss_iff hm c3
    by_cases c6 : a2 = (1 : Int32)
    · have hm := ss_ift hm c6
      refine lv_tableIn (tgt := 62) hx hb dd_M_step_12 (by rw [c6]; decide) (by rw [c6]; decide) (by rw [c6]; rfl) (by decide) ?_
      refine ss_aload_n hx hb dd_M_step_62 rfl (lv_at hl 0 rfl) ?_
      refine lv_iload_n hx hb dd_M_step_63 rfl (lv_at hl 1 rfl) ?_
      obtain ⟨v7, qv7, hm⟩ := ss_bind hm
      refine ss_cV 0 0 (As := [.int a1]) hC hK hR hS hl.1 (cc_M_isClosed l G N _ _ _ _ qv7) km_M_307 (ck_M_isClosed qv7) ⟨Nat.le_of_ble_eq_true rfl, Nat.le_of_ble_eq_true rfl⟩ ⟨Nat.le_of_ble_eq_true rfl, Nat.le_of_ble_eq_true rfl, Nat.le_of_ble_eq_true rfl, Nat.le_of_ble_eq_true rfl⟩ rfl rfl (Nat.le_of_ble_eq_true rfl) dd_M_step_64 (fun H locs hR hS => ?_)
      refine lv_if_eq (tgt := 74) hx hb dd_M_step_67 (by decide) (fun c8 => ?_) (fun c8 => ?_)
      · have hm := ss_ift hm c8
        refine lv_iconst (v := 0) hx hb dd_M_step_74 (by decide) ?_
        exact J_75 (0 : Int32)  _ _ _ hm hR hS (lv_sub hl [] rfl)
      · have hm := ss_iff hm c8
        refine lv_iconst (v := 1) hx hb dd_M_step_70 (by decide) ?_
        refine lv_goto (tgt := 75) hx hb dd_M_step_71 (by decide) ?_
        exact J_75 (1 : Int32)  _ _ _ hm hR hS (lv_sub hl [] rfl)
    have hm := ss_iff hm c6
    by_cases c9 : a2 = (2 : Int32)
    · have hm := ss_ift hm c9
      refine lv_tableIn (tgt := 76) hx hb dd_M_step_12 (by rw [c9]; decide) (by rw [c9]; decide) (by rw [c9]; rfl) (by decide) ?_
      refine ss_aload_n hx hb dd_M_step_76 rfl (lv_at hl 0 rfl) ?_
      obtain ⟨r10, qr10, hm⟩ := ss_bind hm
      refine ss_getr hC hK hR kf_M_39 rfl qr10 dd_M_step_77 ?_
      refine lv_bipush (v := 11) hx hb dd_M_step_80 (by decide) ?_
      obtain ⟨v11, qv11, hm⟩ := ss_bind hm
      refine ss_iald hC hK hR qv11 dd_M_step_82 ?_
      refine lv_iload_n hx hb dd_M_step_83 rfl (lv_at hl 1 rfl) ?_
      obtain ⟨v12, qv12, hm⟩ := ss_bind hm
      refine ss_cS 0 0 (As := [.int v11, .int a1]) hC hK hR hS hl.1 (cc_M_isOf l G N _ _ _ _ qv12) km_M_316 ⟨Nat.le_of_ble_eq_true rfl, Nat.le_of_ble_eq_true rfl⟩ ⟨Nat.le_of_ble_eq_true rfl, Nat.le_of_ble_eq_true rfl, Nat.le_of_ble_eq_true rfl, Nat.le_of_ble_eq_true rfl⟩ rfl rfl (Nat.le_of_ble_eq_true rfl) dd_M_step_84 (fun H locs hR hS => ?_)
      refine lv_if_eq (tgt := 94) hx hb dd_M_step_87 (by decide) (fun c13 => ?_) (fun c13 => ?_)
      · have hm := ss_ift hm c13
        refine lv_iconst (v := 0) hx hb dd_M_step_94 (by decide) ?_
        exact J_95 (0 : Int32)  _ _ _ hm hR hS (lv_sub hl [] rfl)
      · have hm := ss_iff hm c13
        refine lv_iconst (v := 1) hx hb dd_M_step_90 (by decide) ?_
        refine lv_goto (tgt := 95) hx hb dd_M_step_91 (by decide) ?_
        exact J_95 (1 : Int32)  _ _ _ hm hR hS (lv_sub hl [] rfl)
    have hm := ss_iff hm c9
    by_cases c14 : a2 = (3 : Int32)
    · have hm := ss_ift hm c14
      refine lv_tableIn (tgt := 96) hx hb dd_M_step_12 (by rw [c14]; decide) (by rw [c14]; decide) (by rw [c14]; rfl) (by decide) ?_
      refine ss_aload_n hx hb dd_M_step_96 rfl (lv_at hl 0 rfl) ?_
      obtain ⟨r15, qr15, hm⟩ := ss_bind hm
      refine ss_getr hC hK hR kf_M_39 rfl qr15 dd_M_step_97 ?_
      refine lv_bipush (v := 22) hx hb dd_M_step_100 (by decide) ?_
      refine lv_iload_n hx hb dd_M_step_102 rfl (lv_at hl 1 rfl) ?_
      refine lv_iadd hx hb dd_M_step_103 ?_
      obtain ⟨v16, qv16, hm⟩ := ss_bind hm
      refine ss_iald hC hK hR qv16 dd_M_step_104 ?_
      exact ss_iret hC hr hlocks hR hS (ss_with _ hm) dd_M_step_105
    have hm := ss_iff hm c14
    by_cases c17 : a2 = (4 : Int32)
    · have hm := ss_ift hm c17
      refine lv_tableIn (tgt := 106) hx hb dd_M_step_12 (by rw [c17]; decide) (by rw [c17]; decide) (by rw [c17]; rfl) (by decide) ?_
      refine ss_aload_n hx hb dd_M_step_106 rfl (lv_at hl 0 rfl) ?_
      obtain ⟨r18, qr18, hm⟩ := ss_bind hm
      refine ss_getr hC hK hR kf_M_39 rfl qr18 dd_M_step_107 ?_
      refine lv_bipush (v := 30) hx hb dd_M_step_110 (by decide) ?_
      refine lv_iload_n hx hb dd_M_step_112 rfl (lv_at hl 1 rfl) ?_
      refine lv_iadd hx hb dd_M_step_113 ?_
      obtain ⟨v19, qv19, hm⟩ := ss_bind hm
      refine ss_iald hC hK hR qv19 dd_M_step_114 ?_
      exact ss_iret hC hr hlocks hR hS (ss_with _ hm) dd_M_step_115
    have hm := ss_iff hm c17
    by_cases c20 : a2 = (5 : Int32)
    · have hm := ss_ift hm c20
      refine lv_tableIn (tgt := 116) hx hb dd_M_step_12 (by rw [c20]; decide) (by rw [c20]; decide) (by rw [c20]; rfl) (by decide) ?_
      refine ss_aload_n hx hb dd_M_step_116 rfl (lv_at hl 0 rfl) ?_
      refine ss_aload_n hx hb dd_M_step_117 rfl (lv_at hl 0 rfl) ?_
      obtain ⟨r21, qr21, hm⟩ := ss_bind hm
      refine ss_getr hC hK hR kf_M_39 rfl qr21 dd_M_step_118 ?_
      refine lv_bipush (v := 10) hx hb dd_M_step_121 (by decide) ?_
      obtain ⟨v22, qv22, hm⟩ := ss_bind hm
      refine ss_iald hC hK hR qv22 dd_M_step_123 ?_
      obtain ⟨v23, qv23, hm⟩ := ss_bind hm
      refine ss_cV 0 0 (As := [.int v22]) hC hK hR hS hl.1 (cc_M_neededOn l G N _ _ _ _ qv23) km_M_319 (ck_M_neededOn qv23) ⟨Nat.le_of_ble_eq_true rfl, Nat.le_of_ble_eq_true rfl⟩ ⟨Nat.le_of_ble_eq_true rfl, Nat.le_of_ble_eq_true rfl, Nat.le_of_ble_eq_true rfl, Nat.le_of_ble_eq_true rfl⟩ rfl rfl (Nat.le_of_ble_eq_true rfl) dd_M_step_124 (fun H locs hR hS => ?_)
      refine lv_iload_n hx hb dd_M_step_127 rfl (lv_at hl 1 rfl) ?_
      obtain ⟨v24, qv24, hm⟩ := ss_bind hm
      refine ss_cS 0 0 (As := [.int v23, .int a1]) hC hK hR hS hl.1 (cc_M_isOf l G N _ _ _ _ qv24) km_M_316 ⟨Nat.le_of_ble_eq_true rfl, Nat.le_of_ble_eq_true rfl⟩ ⟨Nat.le_of_ble_eq_true rfl, Nat.le_of_ble_eq_true rfl, Nat.le_of_ble_eq_true rfl, Nat.le_of_ble_eq_true rfl⟩ rfl rfl (Nat.le_of_ble_eq_true rfl) dd_M_step_128 (fun H locs hR hS => ?_)
      refine lv_if_eq (tgt := 138) hx hb dd_M_step_131 (by decide) (fun c25 => ?_) (fun c25 => ?_)
      · have hm := ss_ift hm c25
        refine lv_iconst (v := 0) hx hb dd_M_step_138 (by decide) ?_
        exact J_139 (0 : Int32)  _ _ _ hm hR hS (lv_sub hl [] rfl)
      · have hm := ss_iff hm c25
        refine lv_iconst (v := 1) hx hb dd_M_step_134 (by decide) ?_
        refine lv_goto (tgt := 139) hx hb dd_M_step_135 (by decide) ?_
        exact J_139 (1 : Int32)  _ _ _ hm hR hS (lv_sub hl [] rfl)
    have hm := ss_iff hm c20
    have nc3 := lv_neT (a := 0) c3 (by decide)
    have nc6 := lv_neT (a := 1) c6 (by decide)
    have nc9 := lv_neT (a := 2) c9 (by decide)
    have nc14 := lv_neT (a := 3) c14 (by decide)
    have nc17 := lv_neT (a := 4) c17 (by decide)
    have nc20 := lv_neT (a := 5) c20 (by decide)
    refine lv_tableOut (tgt := 140) hx hb dd_M_step_12 (by omega) (by decide) ?_
    refine lv_bipush (v := -2) hx hb dd_M_step_140 (by decide) ?_
    exact ss_iret hC hr hlocks hR hS (ss_with _ hm) dd_M_step_142
  · have hm := ss_ift hm c2
    refine lv_bipush (v := -2) hx hb dd_M_step_8 (by decide) ?_
    exact ss_iret hC hr hlocks hR hS (ss_with _ hm) dd_M_step_10
theorem dd_M_isHouse_0 : decode bb_M_isHouse 0 = .ok (.iload_n 1, 1) := by decide +kernel
theorem dd_M_isHouse_1 : decode bb_M_isHouse 1 = .ok (.ifCond .lt 17, 3) := by decide +kernel
theorem dd_M_isHouse_4 : decode bb_M_isHouse 4 = .ok (.iload_n 1, 1) := by decide +kernel
theorem dd_M_isHouse_5 : decode bb_M_isHouse 5 = .ok (.aload_n 0, 1) := by decide +kernel
theorem dd_M_isHouse_6 : decode bb_M_isHouse 6 = .ok (.getfield 39, 3) := by decide +kernel
theorem dd_M_isHouse_9 : decode bb_M_isHouse 9 = .ok (.iconst 3, 1) := by decide +kernel
theorem dd_M_isHouse_10 : decode bb_M_isHouse 10 = .ok (.iaload, 1) := by decide +kernel
theorem dd_M_isHouse_11 : decode bb_M_isHouse 11 = .ok (.if_icmp .ge 7, 3) := by decide +kernel
theorem dd_M_isHouse_14 : decode bb_M_isHouse 14 = .ok (.iconst 1, 1) := by decide +kernel
theorem dd_M_isHouse_15 : decode bb_M_isHouse 15 = .ok (.goto 4, 3) := by decide +kernel
theorem dd_M_isHouse_18 : decode bb_M_isHouse 18 = .ok (.iconst 0, 1) := by decide +kernel
theorem dd_M_isHouse_19 : decode bb_M_isHouse 19 = .ok (.ireturn, 1) := by decide +kernel
def mm_M_isHouse_j19 (N : Nat) (this : Option Nat) (a1 : Int32) (h : ss_Hp) (s0_19 : Int32) : Option Int32 :=
  (ss_bz s0_19).bind fun v1 =>
  some v1
def mm_M_isHouse_j18 (N : Nat) (this : Option Nat) (a1 : Int32) (h : ss_Hp) : Option Int32 :=
  mm_M_isHouse_j19 N this a1 h (0 : Int32)
def mm_M_isHouse (N : Nat) (this : Option Nat) (a1 : Int32) (h : ss_Hp) : Option Int32 :=
  if ss_is h this 12 = true then
    if a1 < 0 then
      mm_M_isHouse_j18 N this a1 h
    else
      (ss_gr h this 12 9).bind fun r3 =>
      (ss_ai h r3 20 (3 : Int32)).bind fun v4 =>
      if v4 ≤ a1 then
        mm_M_isHouse_j18 N this a1 h
      else
        mm_M_isHouse_j19 N this a1 h (1 : Int32)
  else none
abbrev ww_M_isHouse (p : Program) (l : Launch) (e : Env) (s : State) (m : MethodId) (below : List Frame) (meth : Method) (c : Code) (G : ss_G) (this : Option Nat) (a1 : Int32) (h : ss_Hp) (rr : Int32) (H : Heap) (locs : List Loc) (k n : Nat) (g : JFrame) : Prop := W p l e (headSpec (ss_w yy_M_isHouse bb_M_isHouse 2 (some .boolean)) ({ frames := 0, cells := 0, slots := 0, locals := 0 })).room s m ([ss_v (ss_b G) this, .int a1] : List Value).toArray below meth c H locs k n (MQ below (ss_Qc G (some (.int rr)) h) ([ss_v (ss_b G) this, .int a1] : List Value).toArray s 0 0 (ss_A G)) g
theorem ck_M_isHouse {N : Nat} {this : Option Nat} {a1 : Int32} {h : ss_Hp} {res : Int32} (hm : mm_M_isHouse N this a1 h = some res) : ss_is h this 12 = true := (ss_chk hm).1
set_option maxHeartbeats 4000000 in
set_option maxRecDepth 100000 in
theorem cc_M_isHouse (l : Launch) (G : ss_G) (N : Nat) (this : Option Nat) (a1 : Int32) (h : ss_Hp) (rr : Int32) (hm : mm_M_isHouse N this a1 h = some rr) : ss_Ct l G yy_M_isHouse bb_M_isHouse 2 (some .boolean) ({ frames := 0, cells := 0, slots := 0, locals := 0 }) [ss_v (ss_b G) this, .int a1] h (some (.int rr)) h := by
  obtain ⟨hck, hm⟩ := ss_chk hm
  refine Met.ofW (cc := bb_M_isHouse) (maxL := 2) (ret := (some .boolean)) (by decide) rfl ?_
  intro p e s m args below meth c s₁ B hml hv
  obtain ⟨rfl, hR, hK⟩ := hv
  have hC : CallFix p m c bb_M_isHouse 2 s _ lw_g sR_12 := ⟨B.exec, B.bytes, hml, findClass_of_methodNamed B.named, fun w hw => atoms_spec (ws := ss_w yy_M_isHouse bb_M_isHouse 2 (some .boolean)) B.pre w (List.mem_cons_of_mem _ hw)⟩
  have hx := hC.1
  have hb := hC.2.1
  have hr := B.returns
  have hlocks := B.notSynchronized
  have hS : va_S (ss_A G) s.heap s.heap [] := va_S.rf
  have hl := lv_entry ([ss_v (ss_b G) this, .int a1]) (n := 2) (by simp [lg_sl, ss_v_cat, ss_cat_i, ss_cat_l, ss_cat_r])
  rw [lg_entry_eq]
  generalize (lg_sl ([ss_v (ss_b G) this, .int a1]) ++ List.replicate (2 - (lg_sl ([ss_v (ss_b G) this, .int a1])).length) Slot.unset).toArray = ls at hl ⊢
  have hl : lv_has ls 2 [(0, ss_v (ss_b G) this), (1, .int a1)] := by simpa [lv_args, ss_v_cat, ss_cat_i, ss_cat_l, ss_cat_r] using hl
  have J_19 : ∀ (s0_19 : Int32) (H : Heap) (locs : List Loc) (ls : Array Slot), mm_M_isHouse_j19 N this a1 h s0_19 = some rr → ss_R G h H → va_S (ss_A G) s.heap H locs → lv_has ls 2 [] → ww_M_isHouse p l e s m below meth c G this a1 h rr  H locs 0 0 (F0 m 19 ls [.int s0_19]) := by
    intro s0_19 H locs ls hm hR hS hl
    obtain ⟨v1, qv1, hm⟩ := ss_bind hm
    obtain ⟨hnb, rfl⟩ := ss_bzs qv1
    exact ss_zret hC hr hnb hlocks hR hS (ss_with _ hm) dd_M_isHouse_19
  have J_18 : ∀  (H : Heap) (locs : List Loc) (ls : Array Slot), mm_M_isHouse_j18 N this a1 h = some rr → ss_R G h H → va_S (ss_A G) s.heap H locs → lv_has ls 2 [] → ww_M_isHouse p l e s m below meth c G this a1 h rr  H locs 0 0 (F0 m 18 ls []) := by
    intro  H locs ls hm hR hS hl
    refine lv_iconst (v := 0) hx hb dd_M_isHouse_18 (by decide) ?_
    exact J_19 (0 : Int32)  _ _ _ hm hR hS hl
  refine lv_iload_n hx hb dd_M_isHouse_0 rfl (lv_at hl 1 rfl) ?_
  refine lv_if_lt (tgt := 18) hx hb dd_M_isHouse_1 (by decide) (fun c2 => ?_) (fun c2 => ?_)
  · have hm := ss_ift hm c2
    exact J_18  _ _ _ hm hR hS (lv_sub hl [] rfl)
  · have hm := ss_iff hm c2
    refine lv_iload_n hx hb dd_M_isHouse_4 rfl (lv_at hl 1 rfl) ?_
    refine ss_aload_n hx hb dd_M_isHouse_5 rfl (lv_at hl 0 rfl) ?_
    obtain ⟨r3, qr3, hm⟩ := ss_bind hm
    refine ss_getr hC hK hR kf_M_39 rfl qr3 dd_M_isHouse_6 ?_
    refine lv_iconst (v := 3) hx hb dd_M_isHouse_9 (by decide) ?_
    obtain ⟨v4, qv4, hm⟩ := ss_bind hm
    refine ss_iald hC hK hR qv4 dd_M_isHouse_10 ?_
    refine lv_icmp_ge (tgt := 18) hx hb dd_M_isHouse_11 (by decide) (fun c5 => ?_) (fun c5 => ?_)
    · have hm := ss_ift hm c5
      exact J_18  _ _ _ hm hR hS (lv_sub hl [] rfl)
    · have hm := ss_iff hm c5
      refine lv_iconst (v := 1) hx hb dd_M_isHouse_14 (by decide) ?_
      refine lv_goto (tgt := 19) hx hb dd_M_isHouse_15 (by decide) ?_
      exact J_19 (1 : Int32)  _ _ _ hm hR hS (lv_sub hl [] rfl)
theorem dd_M_ownOf_0 : decode bb_M_ownOf 0 = .ok (.aload_n 0, 1) := by decide +kernel
theorem dd_M_ownOf_1 : decode bb_M_ownOf 1 = .ok (.getfield 39, 3) := by decide +kernel
theorem dd_M_ownOf_4 : decode bb_M_ownOf 4 = .ok (.bipush 38, 2) := by decide +kernel
theorem dd_M_ownOf_6 : decode bb_M_ownOf 6 = .ok (.iconst 2, 1) := by decide +kernel
theorem dd_M_ownOf_7 : decode bb_M_ownOf 7 = .ok (.iload_n 1, 1) := by decide +kernel
theorem dd_M_ownOf_8 : decode bb_M_ownOf 8 = .ok (.imul, 1) := by decide +kernel
theorem dd_M_ownOf_9 : decode bb_M_ownOf 9 = .ok (.iadd, 1) := by decide +kernel
theorem dd_M_ownOf_10 : decode bb_M_ownOf 10 = .ok (.iaload, 1) := by decide +kernel
theorem dd_M_ownOf_11 : decode bb_M_ownOf 11 = .ok (.ireturn, 1) := by decide +kernel
def mm_M_ownOf (N : Nat) (this : Option Nat) (a1 : Int32) (h : ss_Hp) : Option Int32 :=
  if ss_is h this 12 = true then
    (ss_gr h this 12 9).bind fun r1 =>
    (ss_ai h r1 20 ((38 : Int32) + ((2 : Int32) * a1))).bind fun v2 =>
    some v2
  else none
abbrev ww_M_ownOf (p : Program) (l : Launch) (e : Env) (s : State) (m : MethodId) (below : List Frame) (meth : Method) (c : Code) (G : ss_G) (this : Option Nat) (a1 : Int32) (h : ss_Hp) (rr : Int32) (H : Heap) (locs : List Loc) (k n : Nat) (g : JFrame) : Prop := W p l e (headSpec (ss_w yy_M_ownOf bb_M_ownOf 2 (some (.int))) ({ frames := 0, cells := 0, slots := 0, locals := 0 })).room s m ([ss_v (ss_b G) this, .int a1] : List Value).toArray below meth c H locs k n (MQ below (ss_Qc G (some (.int rr)) h) ([ss_v (ss_b G) this, .int a1] : List Value).toArray s 0 0 (ss_A G)) g
theorem ck_M_ownOf {N : Nat} {this : Option Nat} {a1 : Int32} {h : ss_Hp} {res : Int32} (hm : mm_M_ownOf N this a1 h = some res) : ss_is h this 12 = true := (ss_chk hm).1
set_option maxHeartbeats 4000000 in
set_option maxRecDepth 100000 in
theorem cc_M_ownOf (l : Launch) (G : ss_G) (N : Nat) (this : Option Nat) (a1 : Int32) (h : ss_Hp) (rr : Int32) (hm : mm_M_ownOf N this a1 h = some rr) : ss_Ct l G yy_M_ownOf bb_M_ownOf 2 (some (.int)) ({ frames := 0, cells := 0, slots := 0, locals := 0 }) [ss_v (ss_b G) this, .int a1] h (some (.int rr)) h := by
  obtain ⟨hck, hm⟩ := ss_chk hm
  refine Met.ofW (cc := bb_M_ownOf) (maxL := 2) (ret := (some (.int))) (by decide) rfl ?_
  intro p e s m args below meth c s₁ B hml hv
  obtain ⟨rfl, hR, hK⟩ := hv
  have hC : CallFix p m c bb_M_ownOf 2 s _ lw_g sR_12 := ⟨B.exec, B.bytes, hml, findClass_of_methodNamed B.named, fun w hw => atoms_spec (ws := ss_w yy_M_ownOf bb_M_ownOf 2 (some (.int))) B.pre w (List.mem_cons_of_mem _ hw)⟩
  have hx := hC.1
  have hb := hC.2.1
  have hr := B.returns
  have hlocks := B.notSynchronized
  have hS : va_S (ss_A G) s.heap s.heap [] := va_S.rf
  have hl := lv_entry ([ss_v (ss_b G) this, .int a1]) (n := 2) (by simp [lg_sl, ss_v_cat, ss_cat_i, ss_cat_l, ss_cat_r])
  rw [lg_entry_eq]
  generalize (lg_sl ([ss_v (ss_b G) this, .int a1]) ++ List.replicate (2 - (lg_sl ([ss_v (ss_b G) this, .int a1])).length) Slot.unset).toArray = ls at hl ⊢
  have hl : lv_has ls 2 [(0, ss_v (ss_b G) this), (1, .int a1)] := by simpa [lv_args, ss_v_cat, ss_cat_i, ss_cat_l, ss_cat_r] using hl
  refine ss_aload_n hx hb dd_M_ownOf_0 rfl (lv_at hl 0 rfl) ?_
  obtain ⟨r1, qr1, hm⟩ := ss_bind hm
  refine ss_getr hC hK hR kf_M_39 rfl qr1 dd_M_ownOf_1 ?_
  refine lv_bipush (v := 38) hx hb dd_M_ownOf_4 (by decide) ?_
  refine lv_iconst (v := 2) hx hb dd_M_ownOf_6 (by decide) ?_
  refine lv_iload_n hx hb dd_M_ownOf_7 rfl (lv_at hl 1 rfl) ?_
  refine lv_imul hx hb dd_M_ownOf_8 ?_
  refine lv_iadd hx hb dd_M_ownOf_9 ?_
  obtain ⟨v2, qv2, hm⟩ := ss_bind hm
  refine ss_iald hC hK hR qv2 dd_M_ownOf_10 ?_
  exact ss_iret hC hr hlocks hR hS (ss_with _ hm) dd_M_ownOf_11
theorem dd_M_strengthOf_0 : decode bb_M_strengthOf 0 = .ok (.aload_n 0, 1) := by decide +kernel
theorem dd_M_strengthOf_1 : decode bb_M_strengthOf 1 = .ok (.getfield 39, 3) := by decide +kernel
theorem dd_M_strengthOf_4 : decode bb_M_strengthOf 4 = .ok (.bipush 38, 2) := by decide +kernel
theorem dd_M_strengthOf_6 : decode bb_M_strengthOf 6 = .ok (.iconst 2, 1) := by decide +kernel
theorem dd_M_strengthOf_7 : decode bb_M_strengthOf 7 = .ok (.iload_n 1, 1) := by decide +kernel
theorem dd_M_strengthOf_8 : decode bb_M_strengthOf 8 = .ok (.imul, 1) := by decide +kernel
theorem dd_M_strengthOf_9 : decode bb_M_strengthOf 9 = .ok (.iadd, 1) := by decide +kernel
theorem dd_M_strengthOf_10 : decode bb_M_strengthOf 10 = .ok (.iconst 1, 1) := by decide +kernel
theorem dd_M_strengthOf_11 : decode bb_M_strengthOf 11 = .ok (.iadd, 1) := by decide +kernel
theorem dd_M_strengthOf_12 : decode bb_M_strengthOf 12 = .ok (.iaload, 1) := by decide +kernel
theorem dd_M_strengthOf_13 : decode bb_M_strengthOf 13 = .ok (.ireturn, 1) := by decide +kernel
def mm_M_strengthOf (N : Nat) (this : Option Nat) (a1 : Int32) (h : ss_Hp) : Option Int32 :=
  if ss_is h this 12 = true then
    (ss_gr h this 12 9).bind fun r1 =>
    (ss_ai h r1 20 (((38 : Int32) + ((2 : Int32) * a1)) + (1 : Int32))).bind fun v2 =>
    some v2
  else none
abbrev ww_M_strengthOf (p : Program) (l : Launch) (e : Env) (s : State) (m : MethodId) (below : List Frame) (meth : Method) (c : Code) (G : ss_G) (this : Option Nat) (a1 : Int32) (h : ss_Hp) (rr : Int32) (H : Heap) (locs : List Loc) (k n : Nat) (g : JFrame) : Prop := W p l e (headSpec (ss_w yy_M_strengthOf bb_M_strengthOf 2 (some (.int))) ({ frames := 0, cells := 0, slots := 0, locals := 0 })).room s m ([ss_v (ss_b G) this, .int a1] : List Value).toArray below meth c H locs k n (MQ below (ss_Qc G (some (.int rr)) h) ([ss_v (ss_b G) this, .int a1] : List Value).toArray s 0 0 (ss_A G)) g
theorem ck_M_strengthOf {N : Nat} {this : Option Nat} {a1 : Int32} {h : ss_Hp} {res : Int32} (hm : mm_M_strengthOf N this a1 h = some res) : ss_is h this 12 = true := (ss_chk hm).1
set_option maxHeartbeats 4000000 in
set_option maxRecDepth 100000 in
theorem cc_M_strengthOf (l : Launch) (G : ss_G) (N : Nat) (this : Option Nat) (a1 : Int32) (h : ss_Hp) (rr : Int32) (hm : mm_M_strengthOf N this a1 h = some rr) : ss_Ct l G yy_M_strengthOf bb_M_strengthOf 2 (some (.int)) ({ frames := 0, cells := 0, slots := 0, locals := 0 }) [ss_v (ss_b G) this, .int a1] h (some (.int rr)) h := by
  obtain ⟨hck, hm⟩ := ss_chk hm
  refine Met.ofW (cc := bb_M_strengthOf) (maxL := 2) (ret := (some (.int))) (by decide) rfl ?_
  intro p e s m args below meth c s₁ B hml hv
  obtain ⟨rfl, hR, hK⟩ := hv
  have hC : CallFix p m c bb_M_strengthOf 2 s _ lw_g sR_12 := ⟨B.exec, B.bytes, hml, findClass_of_methodNamed B.named, fun w hw => atoms_spec (ws := ss_w yy_M_strengthOf bb_M_strengthOf 2 (some (.int))) B.pre w (List.mem_cons_of_mem _ hw)⟩
  have hx := hC.1
  have hb := hC.2.1
  have hr := B.returns
  have hlocks := B.notSynchronized
  have hS : va_S (ss_A G) s.heap s.heap [] := va_S.rf
  have hl := lv_entry ([ss_v (ss_b G) this, .int a1]) (n := 2) (by simp [lg_sl, ss_v_cat, ss_cat_i, ss_cat_l, ss_cat_r])
  rw [lg_entry_eq]
  generalize (lg_sl ([ss_v (ss_b G) this, .int a1]) ++ List.replicate (2 - (lg_sl ([ss_v (ss_b G) this, .int a1])).length) Slot.unset).toArray = ls at hl ⊢
  have hl : lv_has ls 2 [(0, ss_v (ss_b G) this), (1, .int a1)] := by simpa [lv_args, ss_v_cat, ss_cat_i, ss_cat_l, ss_cat_r] using hl
  refine ss_aload_n hx hb dd_M_strengthOf_0 rfl (lv_at hl 0 rfl) ?_
  obtain ⟨r1, qr1, hm⟩ := ss_bind hm
  refine ss_getr hC hK hR kf_M_39 rfl qr1 dd_M_strengthOf_1 ?_
  refine lv_bipush (v := 38) hx hb dd_M_strengthOf_4 (by decide) ?_
  refine lv_iconst (v := 2) hx hb dd_M_strengthOf_6 (by decide) ?_
  refine lv_iload_n hx hb dd_M_strengthOf_7 rfl (lv_at hl 1 rfl) ?_
  refine lv_imul hx hb dd_M_strengthOf_8 ?_
  refine lv_iadd hx hb dd_M_strengthOf_9 ?_
  refine lv_iconst (v := 1) hx hb dd_M_strengthOf_10 (by decide) ?_
  refine lv_iadd hx hb dd_M_strengthOf_11 ?_
  obtain ⟨v2, qv2, hm⟩ := ss_bind hm
  refine ss_iald hC hK hR qv2 dd_M_strengthOf_12 ?_
  exact ss_iret hC hr hlocks hR hS (ss_with _ hm) dd_M_strengthOf_13
theorem dd_M_house_0 : decode bb_M_house 0 = .ok (.aload_n 0, 1) := by decide +kernel
theorem dd_M_house_1 : decode bb_M_house 1 = .ok (.iload_n 1, 1) := by decide +kernel
theorem dd_M_house_2 : decode bb_M_house 2 = .ok (.invokevirtual 322, 3) := by decide +kernel
theorem dd_M_house_5 : decode bb_M_house 5 = .ok (.ifCond .eq 15, 3) := by decide +kernel
theorem dd_M_house_8 : decode bb_M_house 8 = .ok (.iload_n 2, 1) := by decide +kernel
theorem dd_M_house_9 : decode bb_M_house 9 = .ok (.i2l, 1) := by decide +kernel
theorem dd_M_house_10 : decode bb_M_house 10 = .ok (.lconst 0, 1) := by decide +kernel
theorem dd_M_house_11 : decode bb_M_house 11 = .ok (.ldc2_w 325, 3) := by decide +kernel
theorem dd_M_house_14 : decode bb_M_house 14 = .ok (.invokestatic 124, 3) := by decide +kernel
theorem dd_M_house_17 : decode bb_M_house 17 = .ok (.ifCond .ne 5, 3) := by decide +kernel
theorem dd_M_house_20 : decode bb_M_house 20 = .ok (.iconst (-1), 1) := by decide +kernel
theorem dd_M_house_21 : decode bb_M_house 21 = .ok (.ireturn, 1) := by decide +kernel
theorem dd_M_house_22 : decode bb_M_house 22 = .ok (.iload_n 2, 1) := by decide +kernel
theorem dd_M_house_23 : decode bb_M_house 23 = .ok (.ifCond .ne 11, 3) := by decide +kernel
theorem dd_M_house_26 : decode bb_M_house 26 = .ok (.aload_n 0, 1) := by decide +kernel
theorem dd_M_house_27 : decode bb_M_house 27 = .ok (.iload_n 1, 1) := by decide +kernel
theorem dd_M_house_28 : decode bb_M_house 28 = .ok (.invokevirtual 327, 3) := by decide +kernel
theorem dd_M_house_31 : decode bb_M_house 31 = .ok (.goto 35, 3) := by decide +kernel
theorem dd_M_house_34 : decode bb_M_house 34 = .ok (.iload_n 2, 1) := by decide +kernel
theorem dd_M_house_35 : decode bb_M_house 35 = .ok (.iconst 1, 1) := by decide +kernel
theorem dd_M_house_36 : decode bb_M_house 36 = .ok (.if_icmp .ne 11, 3) := by decide +kernel
theorem dd_M_house_39 : decode bb_M_house 39 = .ok (.aload_n 0, 1) := by decide +kernel
theorem dd_M_house_40 : decode bb_M_house 40 = .ok (.iload_n 1, 1) := by decide +kernel
theorem dd_M_house_41 : decode bb_M_house 41 = .ok (.invokevirtual 330, 3) := by decide +kernel
theorem dd_M_house_44 : decode bb_M_house 44 = .ok (.goto 22, 3) := by decide +kernel
theorem dd_M_house_47 : decode bb_M_house 47 = .ok (.aload_n 0, 1) := by decide +kernel
theorem dd_M_house_48 : decode bb_M_house 48 = .ok (.getfield 39, 3) := by decide +kernel
theorem dd_M_house_51 : decode bb_M_house 51 = .ok (.bipush 13, 2) := by decide +kernel
theorem dd_M_house_53 : decode bb_M_house 53 = .ok (.iaload, 1) := by decide +kernel
theorem dd_M_house_54 : decode bb_M_house 54 = .ok (.iload_n 1, 1) := by decide +kernel
theorem dd_M_house_55 : decode bb_M_house 55 = .ok (.invokestatic 316, 3) := by decide +kernel
theorem dd_M_house_58 : decode bb_M_house 58 = .ok (.ifCond .eq 7, 3) := by decide +kernel
theorem dd_M_house_61 : decode bb_M_house 61 = .ok (.iconst 1, 1) := by decide +kernel
theorem dd_M_house_62 : decode bb_M_house 62 = .ok (.goto 4, 3) := by decide +kernel
theorem dd_M_house_65 : decode bb_M_house 65 = .ok (.iconst 0, 1) := by decide +kernel
theorem dd_M_house_66 : decode bb_M_house 66 = .ok (.ireturn, 1) := by decide +kernel
def mm_M_house_j20 (N : Nat) (this : Option Nat) (a1 : Int32) (a2 : Int32) (h : ss_Hp) : Option Int32 :=
  some (-1 : Int32)
def mm_M_house_j66 (N : Nat) (this : Option Nat) (a1 : Int32) (a2 : Int32) (h : ss_Hp) (s0_66 : Int32) : Option Int32 :=
  some s0_66
def mm_M_house (N : Nat) (this : Option Nat) (a1 : Int32) (a2 : Int32) (h : ss_Hp) : Option Int32 :=
  if ss_is h this 12 = true then
    (mm_M_isHouse N this a1 h).bind fun v1 =>
    if v1 = 0 then
      mm_M_house_j20 N this a1 a2 h
    else
      (mm_M_in N ((a2).toInt64) (0 : Int64) (2 : Int64)).bind fun v3 =>
      if v3 = 0 then
        mm_M_house_j20 N this a1 a2 h
      else
        if a2 = 0 then
          (mm_M_ownOf N this a1 h).bind fun v12 =>
          mm_M_house_j66 N this a1 a2 h v12
        else
          if a2 = (1 : Int32) then
            (mm_M_strengthOf N this a1 h).bind fun v11 =>
            mm_M_house_j66 N this a1 a2 h v11
          else
            (ss_gr h this 12 9).bind fun r7 =>
            (ss_ai h r7 20 (13 : Int32)).bind fun v8 =>
            (mm_M_isOf N v8 a1).bind fun v9 =>
            if v9 = 0 then
              mm_M_house_j66 N this a1 a2 h (0 : Int32)
            else
              mm_M_house_j66 N this a1 a2 h (1 : Int32)
  else none
abbrev ww_M_house (p : Program) (l : Launch) (e : Env) (s : State) (m : MethodId) (below : List Frame) (meth : Method) (c : Code) (G : ss_G) (this : Option Nat) (a1 : Int32) (a2 : Int32) (h : ss_Hp) (rr : Int32) (H : Heap) (locs : List Loc) (k n : Nat) (g : JFrame) : Prop := W p l e (headSpec (ss_w yy_M_house bb_M_house 3 (some (.int))) ({ frames := 1, cells := 0, slots := 0, locals := 25 })).room s m ([ss_v (ss_b G) this, .int a1, .int a2] : List Value).toArray below meth c H locs k n (MQ below (ss_Qc G (some (.int rr)) h) ([ss_v (ss_b G) this, .int a1, .int a2] : List Value).toArray s 0 0 (ss_A G)) g
theorem ck_M_house {N : Nat} {this : Option Nat} {a1 : Int32} {a2 : Int32} {h : ss_Hp} {res : Int32} (hm : mm_M_house N this a1 a2 h = some res) : ss_is h this 12 = true := (ss_chk hm).1
set_option maxHeartbeats 4000000 in
set_option maxRecDepth 100000 in
theorem cc_M_house (l : Launch) (G : ss_G) (N : Nat) (this : Option Nat) (a1 : Int32) (a2 : Int32) (h : ss_Hp) (rr : Int32) (hm : mm_M_house N this a1 a2 h = some rr) : ss_Ct l G yy_M_house bb_M_house 3 (some (.int)) ({ frames := 1, cells := 0, slots := 0, locals := 25 }) [ss_v (ss_b G) this, .int a1, .int a2] h (some (.int rr)) h := by
  obtain ⟨hck, hm⟩ := ss_chk hm
  refine Met.ofW (cc := bb_M_house) (maxL := 3) (ret := (some (.int))) (by decide) rfl ?_
  intro p e s m args below meth c s₁ B hml hv
  obtain ⟨rfl, hR, hK⟩ := hv
  have hC : CallFix p m c bb_M_house 3 s _ lw_g sR_12 := ⟨B.exec, B.bytes, hml, findClass_of_methodNamed B.named, fun w hw => atoms_spec (ws := ss_w yy_M_house bb_M_house 3 (some (.int))) B.pre w (List.mem_cons_of_mem _ hw)⟩
  have hx := hC.1
  have hb := hC.2.1
  have hr := B.returns
  have hlocks := B.notSynchronized
  have hS : va_S (ss_A G) s.heap s.heap [] := va_S.rf
  have hl := lv_entry ([ss_v (ss_b G) this, .int a1, .int a2]) (n := 3) (by simp [lg_sl, ss_v_cat, ss_cat_i, ss_cat_l, ss_cat_r])
  rw [lg_entry_eq]
  generalize (lg_sl ([ss_v (ss_b G) this, .int a1, .int a2]) ++ List.replicate (3 - (lg_sl ([ss_v (ss_b G) this, .int a1, .int a2])).length) Slot.unset).toArray = ls at hl ⊢
  have hl : lv_has ls 3 [(0, ss_v (ss_b G) this), (1, .int a1), (2, .int a2)] := by simpa [lv_args, ss_v_cat, ss_cat_i, ss_cat_l, ss_cat_r] using hl
  have J_20 : ∀  (H : Heap) (locs : List Loc) (ls : Array Slot), mm_M_house_j20 N this a1 a2 h = some rr → ss_R G h H → va_S (ss_A G) s.heap H locs → lv_has ls 3 [] → ww_M_house p l e s m below meth c G this a1 a2 h rr  H locs 0 0 (F0 m 20 ls []) := by
    intro  H locs ls hm hR hS hl
    refine lv_iconst (v := -1) hx hb dd_M_house_20 (by decide) ?_
    exact ss_iret hC hr hlocks hR hS (ss_with _ hm) dd_M_house_21
  have J_66 : ∀ (s0_66 : Int32) (H : Heap) (locs : List Loc) (ls : Array Slot), mm_M_house_j66 N this a1 a2 h s0_66 = some rr → ss_R G h H → va_S (ss_A G) s.heap H locs → lv_has ls 3 [] → ww_M_house p l e s m below meth c G this a1 a2 h rr  H locs 0 0 (F0 m 66 ls [.int s0_66]) := by
    intro s0_66 H locs ls hm hR hS hl
    exact ss_iret hC hr hlocks hR hS (ss_with _ hm) dd_M_house_66
  refine ss_aload_n hx hb dd_M_house_0 rfl (lv_at hl 0 rfl) ?_
  refine lv_iload_n hx hb dd_M_house_1 rfl (lv_at hl 1 rfl) ?_
  obtain ⟨v1, qv1, hm⟩ := ss_bind hm
  refine ss_cV 0 0 (As := [.int a1]) hC hK hR hS hl.1 (cc_M_isHouse l G N _ _ _ _ qv1) km_M_322 (ck_M_isHouse qv1) ⟨Nat.le_of_ble_eq_true rfl, Nat.le_of_ble_eq_true rfl⟩ ⟨Nat.le_of_ble_eq_true rfl, Nat.le_of_ble_eq_true rfl, Nat.le_of_ble_eq_true rfl, Nat.le_of_ble_eq_true rfl⟩ rfl rfl (Nat.le_of_ble_eq_true rfl) dd_M_house_2 (fun H locs hR hS => ?_)
  refine lv_if_eq (tgt := 20) hx hb dd_M_house_5 (by decide) (fun c2 => ?_) (fun c2 => ?_)
  · have hm := ss_ift hm c2
    exact J_20  _ _ _ hm hR hS (lv_sub hl [] rfl)
  · have hm := ss_iff hm c2
    refine lv_iload_n hx hb dd_M_house_8 rfl (lv_at hl 2 rfl) ?_
    refine lv_i2l hx hb dd_M_house_9 rfl ?_
    refine lv_lconst (v := 0) hx hb dd_M_house_10 (by decide) ?_
    refine lv_ldc2 (v := 2) hx hb hC.2.2.2.1 (hC.2.2.2.2 _ kl_M_325) dd_M_house_11 ?_
    obtain ⟨v3, qv3, hm⟩ := ss_bind hm
    refine ss_cS 0 0 (As := [.long ((a2).toInt64), .long (0 : Int64), .long (2 : Int64)]) hC hK hR hS hl.1 (cc_M_in l G N _ _ _ _ _ qv3) km_M_124 ⟨Nat.le_of_ble_eq_true rfl, Nat.le_of_ble_eq_true rfl⟩ ⟨Nat.le_of_ble_eq_true rfl, Nat.le_of_ble_eq_true rfl, Nat.le_of_ble_eq_true rfl, Nat.le_of_ble_eq_true rfl⟩ rfl rfl (Nat.le_of_ble_eq_true rfl) dd_M_house_14 (fun H locs hR hS => ?_)
    refine lv_if_ne (tgt := 22) hx hb dd_M_house_17 (by decide) (fun c4 => ?_) (fun c4 => ?_)
    · have hm := ss_iff hm c4
      refine lv_iload_n hx hb dd_M_house_22 rfl (lv_at hl 2 rfl) ?_
      refine lv_if_ne (tgt := 34) hx hb dd_M_house_23 (by decide) (fun c5 => ?_) (fun c5 => ?_)
      · have hm := ss_iff hm c5
        refine lv_iload_n hx hb dd_M_house_34 rfl (lv_at hl 2 rfl) ?_
        refine lv_iconst (v := 1) hx hb dd_M_house_35 (by decide) ?_
        refine lv_icmp_ne (tgt := 47) hx hb dd_M_house_36 (by decide) (fun c6 => ?_) (fun c6 => ?_)
        · have hm := ss_iff hm c6
          refine ss_aload_n hx hb dd_M_house_47 rfl (lv_at hl 0 rfl) ?_
          obtain ⟨r7, qr7, hm⟩ := ss_bind hm
          refine ss_getr hC hK hR kf_M_39 rfl qr7 dd_M_house_48 ?_
          refine lv_bipush (v := 13) hx hb dd_M_house_51 (by decide) ?_
          obtain ⟨v8, qv8, hm⟩ := ss_bind hm
          refine ss_iald hC hK hR qv8 dd_M_house_53 ?_
          refine lv_iload_n hx hb dd_M_house_54 rfl (lv_at hl 1 rfl) ?_
          obtain ⟨v9, qv9, hm⟩ := ss_bind hm
          refine ss_cS 0 0 (As := [.int v8, .int a1]) hC hK hR hS hl.1 (cc_M_isOf l G N _ _ _ _ qv9) km_M_316 ⟨Nat.le_of_ble_eq_true rfl, Nat.le_of_ble_eq_true rfl⟩ ⟨Nat.le_of_ble_eq_true rfl, Nat.le_of_ble_eq_true rfl, Nat.le_of_ble_eq_true rfl, Nat.le_of_ble_eq_true rfl⟩ rfl rfl (Nat.le_of_ble_eq_true rfl) dd_M_house_55 (fun H locs hR hS => ?_)
          refine lv_if_eq (tgt := 65) hx hb dd_M_house_58 (by decide) (fun c10 => ?_) (fun c10 => ?_)
          · have hm := ss_ift hm c10
            refine lv_iconst (v := 0) hx hb dd_M_house_65 (by decide) ?_
            exact J_66 (0 : Int32)  _ _ _ hm hR hS (lv_sub hl [] rfl)
          · have hm := ss_iff hm c10
            refine lv_iconst (v := 1) hx hb dd_M_house_61 (by decide) ?_
            refine lv_goto (tgt := 66) hx hb dd_M_house_62 (by decide) ?_
            exact J_66 (1 : Int32)  _ _ _ hm hR hS (lv_sub hl [] rfl)
        · have hm := ss_ift hm c6
          refine ss_aload_n hx hb dd_M_house_39 rfl (lv_at hl 0 rfl) ?_
          refine lv_iload_n hx hb dd_M_house_40 rfl (lv_at hl 1 rfl) ?_
          obtain ⟨v11, qv11, hm⟩ := ss_bind hm
          refine ss_cV 0 0 (As := [.int a1]) hC hK hR hS hl.1 (cc_M_strengthOf l G N _ _ _ _ qv11) km_M_330 (ck_M_strengthOf qv11) ⟨Nat.le_of_ble_eq_true rfl, Nat.le_of_ble_eq_true rfl⟩ ⟨Nat.le_of_ble_eq_true rfl, Nat.le_of_ble_eq_true rfl, Nat.le_of_ble_eq_true rfl, Nat.le_of_ble_eq_true rfl⟩ rfl rfl (Nat.le_of_ble_eq_true rfl) dd_M_house_41 (fun H locs hR hS => ?_)
          refine lv_goto (tgt := 66) hx hb dd_M_house_44 (by decide) ?_
          exact J_66 v11  _ _ _ hm hR hS (lv_sub hl [] rfl)
      · have hm := ss_ift hm c5
        refine ss_aload_n hx hb dd_M_house_26 rfl (lv_at hl 0 rfl) ?_
        refine lv_iload_n hx hb dd_M_house_27 rfl (lv_at hl 1 rfl) ?_
        obtain ⟨v12, qv12, hm⟩ := ss_bind hm
        refine ss_cV 0 0 (As := [.int a1]) hC hK hR hS hl.1 (cc_M_ownOf l G N _ _ _ _ qv12) km_M_327 (ck_M_ownOf qv12) ⟨Nat.le_of_ble_eq_true rfl, Nat.le_of_ble_eq_true rfl⟩ ⟨Nat.le_of_ble_eq_true rfl, Nat.le_of_ble_eq_true rfl, Nat.le_of_ble_eq_true rfl, Nat.le_of_ble_eq_true rfl⟩ rfl rfl (Nat.le_of_ble_eq_true rfl) dd_M_house_28 (fun H locs hR hS => ?_)
        refine lv_goto (tgt := 66) hx hb dd_M_house_31 (by decide) ?_
        exact J_66 v12  _ _ _ hm hR hS (lv_sub hl [] rfl)
    · have hm := ss_ift hm c4
      exact J_20  _ _ _ hm hR hS (lv_sub hl [] rfl)
theorem dd_M_undo_0 : decode bb_M_undo 0 = .ok (.aload_n 0, 1) := by decide +kernel
theorem dd_M_undo_1 : decode bb_M_undo 1 = .ok (.getfield 289, 3) := by decide +kernel
theorem dd_M_undo_4 : decode bb_M_undo 4 = .ok (.ifCond .ne 5, 3) := by decide +kernel
theorem dd_M_undo_7 : decode bb_M_undo 7 = .ok (.iconst (-1), 1) := by decide +kernel
theorem dd_M_undo_8 : decode bb_M_undo 8 = .ok (.ireturn, 1) := by decide +kernel
theorem dd_M_undo_9 : decode bb_M_undo 9 = .ok (.aload_n 0, 1) := by decide +kernel
theorem dd_M_undo_10 : decode bb_M_undo 10 = .ok (.dup, 1) := by decide +kernel
theorem dd_M_undo_11 : decode bb_M_undo 11 = .ok (.getfield 289, 3) := by decide +kernel
theorem dd_M_undo_14 : decode bb_M_undo 14 = .ok (.iconst 1, 1) := by decide +kernel
theorem dd_M_undo_15 : decode bb_M_undo 15 = .ok (.isub, 1) := by decide +kernel
theorem dd_M_undo_16 : decode bb_M_undo 16 = .ok (.putfield 289, 3) := by decide +kernel
theorem dd_M_undo_19 : decode bb_M_undo 19 = .ok (.iconst 0, 1) := by decide +kernel
theorem dd_M_undo_20 : decode bb_M_undo 20 = .ok (.istore_n 1, 1) := by decide +kernel
theorem dd_M_undo_21 : decode bb_M_undo 21 = .ok (.iload_n 1, 1) := by decide +kernel
theorem dd_M_undo_22 : decode bb_M_undo 22 = .ok (.bipush 20, 2) := by decide +kernel
theorem dd_M_undo_24 : decode bb_M_undo 24 = .ok (.if_icmp .ge 32, 3) := by decide +kernel
theorem dd_M_undo_27 : decode bb_M_undo 27 = .ok (.aload_n 0, 1) := by decide +kernel
theorem dd_M_undo_28 : decode bb_M_undo 28 = .ok (.getfield 39, 3) := by decide +kernel
theorem dd_M_undo_31 : decode bb_M_undo 31 = .ok (.bipush 10, 2) := by decide +kernel
theorem dd_M_undo_33 : decode bb_M_undo 33 = .ok (.iload_n 1, 1) := by decide +kernel
theorem dd_M_undo_34 : decode bb_M_undo 34 = .ok (.iadd, 1) := by decide +kernel
theorem dd_M_undo_35 : decode bb_M_undo 35 = .ok (.aload_n 0, 1) := by decide +kernel
theorem dd_M_undo_36 : decode bb_M_undo 36 = .ok (.getfield 52, 3) := by decide +kernel
theorem dd_M_undo_39 : decode bb_M_undo 39 = .ok (.bipush 20, 2) := by decide +kernel
theorem dd_M_undo_41 : decode bb_M_undo 41 = .ok (.aload_n 0, 1) := by decide +kernel
theorem dd_M_undo_42 : decode bb_M_undo 42 = .ok (.getfield 289, 3) := by decide +kernel
theorem dd_M_undo_45 : decode bb_M_undo 45 = .ok (.imul, 1) := by decide +kernel
theorem dd_M_undo_46 : decode bb_M_undo 46 = .ok (.iload_n 1, 1) := by decide +kernel
theorem dd_M_undo_47 : decode bb_M_undo 47 = .ok (.iadd, 1) := by decide +kernel
theorem dd_M_undo_48 : decode bb_M_undo 48 = .ok (.iaload, 1) := by decide +kernel
theorem dd_M_undo_49 : decode bb_M_undo 49 = .ok (.iastore, 1) := by decide +kernel
theorem dd_M_undo_50 : decode bb_M_undo 50 = .ok (.iinc 1 1, 3) := by decide +kernel
theorem dd_M_undo_53 : decode bb_M_undo 53 = .ok (.goto (-32), 3) := by decide +kernel
theorem dd_M_undo_56 : decode bb_M_undo 56 = .ok (.aload_n 0, 1) := by decide +kernel
theorem dd_M_undo_57 : decode bb_M_undo 57 = .ok (.getfield 289, 3) := by decide +kernel
theorem dd_M_undo_60 : decode bb_M_undo 60 = .ok (.ireturn, 1) := by decide +kernel
def mm_M_undo_b21 (N : Nat) (this : Option Nat) (st : Int32 × ss_Hp) : Option ((Int32 × ss_Hp) ⊕ ss_Hp) :=
  match st with
  | (x1_21, h_21) =>
    if (20 : Int32) ≤ x1_21 then
      some (.inr h_21)
    else
      (ss_gr h_21 this 12 9).bind fun r7 =>
      (ss_gr h_21 this 12 12).bind fun r8 =>
      (ss_gi h_21 this 12 15).bind fun v9 =>
      (ss_ai h_21 r8 20 (((20 : Int32) * v9) + x1_21)).bind fun v10 =>
      (ss_ui h_21 r7 20 ((10 : Int32) + x1_21) v10).bind fun h11 =>
      (some (x1_21 + (1 : Int32))).bind fun v12 =>
      some (.inl (v12, h11))
def mm_M_undo (N : Nat) (this : Option Nat) (h : ss_Hp) : Option (Int32 × ss_Hp) :=
  if ss_is h this 12 = true then
    (ss_gi h this 12 15).bind fun v1 =>
    if v1 = 0 then
      some ((-1 : Int32), h)
    else
      (ss_gi h this 12 15).bind fun v3 =>
      (ss_pi h this 12 15 (v3 - (1 : Int32))).bind fun h4 =>
      (ss_lp (mm_M_undo_b21 N this) N ((0 : Int32), h4)).bind fun h_21_56 =>
      (ss_gi h_21_56 this 12 15).bind fun v5 =>
      some (v5, h_21_56)
  else none
abbrev ww_M_undo (p : Program) (l : Launch) (e : Env) (s : State) (m : MethodId) (below : List Frame) (meth : Method) (c : Code) (G : ss_G) (this : Option Nat) (h : ss_Hp) (rr : Int32) (hh : ss_Hp) (H : Heap) (locs : List Loc) (k n : Nat) (g : JFrame) : Prop := W p l e (headSpec (ss_w yy_M_undo bb_M_undo 2 (some (.int))) ({ frames := 0, cells := 0, slots := 0, locals := 0 })).room s m ([ss_v (ss_b G) this] : List Value).toArray below meth c H locs k n (MQ below (ss_Qc G (some (.int rr)) hh) ([ss_v (ss_b G) this] : List Value).toArray s 0 0 (ss_A G)) g
theorem ck_M_undo {N : Nat} {this : Option Nat} {h : ss_Hp} {res : Int32 × ss_Hp} (hm : mm_M_undo N this h = some res) : ss_is h this 12 = true := (ss_chk hm).1
set_option maxHeartbeats 4000000 in
set_option maxRecDepth 100000 in
theorem cc_M_undo (l : Launch) (G : ss_G) (N : Nat) (this : Option Nat) (h : ss_Hp) (rr : Int32) (hh : ss_Hp) (hm : mm_M_undo N this h = some (rr, hh)) : ss_Ct l G yy_M_undo bb_M_undo 2 (some (.int)) ({ frames := 0, cells := 0, slots := 0, locals := 0 }) [ss_v (ss_b G) this] h (some (.int rr)) hh := by
  obtain ⟨hck, hm⟩ := ss_chk hm
  refine Met.ofW (cc := bb_M_undo) (maxL := 2) (ret := (some (.int))) (by decide) rfl ?_
  intro p e s m args below meth c s₁ B hml hv
  obtain ⟨rfl, hR, hK⟩ := hv
  have hC : CallFix p m c bb_M_undo 2 s _ lw_g sR_12 := ⟨B.exec, B.bytes, hml, findClass_of_methodNamed B.named, fun w hw => atoms_spec (ws := ss_w yy_M_undo bb_M_undo 2 (some (.int))) B.pre w (List.mem_cons_of_mem _ hw)⟩
  have hx := hC.1
  have hb := hC.2.1
  have hr := B.returns
  have hlocks := B.notSynchronized
  have hS : va_S (ss_A G) s.heap s.heap [] := va_S.rf
  have hl := lv_entry ([ss_v (ss_b G) this]) (n := 2) (by simp [lg_sl, ss_v_cat, ss_cat_i, ss_cat_l, ss_cat_r])
  rw [lg_entry_eq]
  generalize (lg_sl ([ss_v (ss_b G) this]) ++ List.replicate (2 - (lg_sl ([ss_v (ss_b G) this])).length) Slot.unset).toArray = ls at hl ⊢
  have hl : lv_has ls 2 [(0, ss_v (ss_b G) this)] := by simpa [lv_args, ss_v_cat, ss_cat_i, ss_cat_l, ss_cat_r] using hl
  refine ss_aload_n hx hb dd_M_undo_0 rfl (lv_at hl 0 rfl) ?_
  obtain ⟨v1, qv1, hm⟩ := ss_bind hm
  refine ss_geti hC hK hR kf_M_289 qv1 dd_M_undo_1 ?_
  refine lv_if_ne (tgt := 9) hx hb dd_M_undo_4 (by decide) (fun c2 => ?_) (fun c2 => ?_)
  · have hm := ss_iff hm c2
    refine ss_aload_n hx hb dd_M_undo_9 rfl (lv_at hl 0 rfl) ?_
    refine ss_dupr hx hb dd_M_undo_10 ?_
    obtain ⟨v3, qv3, hm⟩ := ss_bind hm
    refine ss_geti hC hK hR kf_M_289 qv3 dd_M_undo_11 ?_
    refine lv_iconst (v := 1) hx hb dd_M_undo_14 (by decide) ?_
    refine lv_isub hx hb dd_M_undo_15 ?_
    obtain ⟨h4, qh4, hm⟩ := ss_bind hm
    refine ss_puti hC hK hR hS kp_M_289 qh4 dd_M_undo_16 (fun H locs hR hS => ?_)
    refine lv_iconst (v := 0) hx hb dd_M_undo_19 (by decide) ?_
    refine lv_istore_n (lv' := [(1, .int (0 : Int32)), (0, ss_v (ss_b G) this)]) hx hb dd_M_undo_20 rfl hl (by decide) (by simp only [List.filter_cons, ss_v_cat]; rfl) (fun ls hl => ?_)
    obtain ⟨e_21, he_21, hm⟩ := ss_bind hm
    have X_21_56 : ∀  (h_21_56 : ss_Hp) (H : Heap) (locs : List Loc) (ls : Array Slot), e_21 = h_21_56 → ss_R G h_21_56 H → va_S (ss_A G) s.heap H locs → lv_has ls 2 [(0, ss_v (ss_b G) this)] → ww_M_undo p l e s m below meth c G this h rr hh  H locs 0 0 (F0 m 56 ls []) := by
      intro h_21_56 H locs ls hq hR hS hl
      rw [hq] at hm
      refine ss_aload_n hx hb dd_M_undo_56 rfl (lv_at hl 0 rfl) ?_
      obtain ⟨v5, qv5, hm⟩ := ss_bind hm
      refine ss_geti hC hK hR kf_M_289 qv5 dd_M_undo_57 ?_
      exact ss_iret hC hr hlocks hR hS hm dd_M_undo_60
    have L_21 : ∀ (n : Nat) (x1_21 : Int32) (h_21 : ss_Hp) (H : Heap) (locs : List Loc) (ls : Array Slot), ss_lp (mm_M_undo_b21 N this) n (x1_21, h_21) = some e_21 → ss_R G h_21 H → va_S (ss_A G) s.heap H locs → lv_has ls 2 [(0, ss_v (ss_b G) this), (1, .int x1_21)] → ww_M_undo p l e s m below meth c G this h rr hh  H locs 0 0 (F0 m 21 ls []) := by
      intro n
      induction n with
      | zero => intro x1_21 h_21 H locs ls hm; cases hm
      | succ n ih_21 =>
        intro x1_21 h_21 H locs ls hm hR hS hl
        obtain ⟨z_21, hm, hz1_21, hz2_21⟩ := ss_lps hm
        refine lv_iload_n hx hb dd_M_undo_21 rfl (lv_at hl 1 rfl) ?_
        refine lv_bipush (v := 20) hx hb dd_M_undo_22 (by decide) ?_
        refine lv_icmp_ge (tgt := 56) hx hb dd_M_undo_24 (by decide) (fun c6 => ?_) (fun c6 => ?_)
        · have hm := ss_ift hm c6
          exact X_21_56 h_21 _ _ _ (hz2_21 _ (ss_some hm)) hR hS (lv_sub hl [0] rfl)
        · have hm := ss_iff hm c6
          refine ss_aload_n hx hb dd_M_undo_27 rfl (lv_at hl 0 rfl) ?_
          obtain ⟨r7, qr7, hm⟩ := ss_bind hm
          refine ss_getr hC hK hR kf_M_39 rfl qr7 dd_M_undo_28 ?_
          refine lv_bipush (v := 10) hx hb dd_M_undo_31 (by decide) ?_
          refine lv_iload_n hx hb dd_M_undo_33 rfl (lv_at hl 1 rfl) ?_
          refine lv_iadd hx hb dd_M_undo_34 ?_
          refine ss_aload_n hx hb dd_M_undo_35 rfl (lv_at hl 0 rfl) ?_
          obtain ⟨r8, qr8, hm⟩ := ss_bind hm
          refine ss_getr hC hK hR kf_M_52 rfl qr8 dd_M_undo_36 ?_
          refine lv_bipush (v := 20) hx hb dd_M_undo_39 (by decide) ?_
          refine ss_aload_n hx hb dd_M_undo_41 rfl (lv_at hl 0 rfl) ?_
          obtain ⟨v9, qv9, hm⟩ := ss_bind hm
          refine ss_geti hC hK hR kf_M_289 qv9 dd_M_undo_42 ?_
          refine lv_imul hx hb dd_M_undo_45 ?_
          refine lv_iload_n hx hb dd_M_undo_46 rfl (lv_at hl 1 rfl) ?_
          refine lv_iadd hx hb dd_M_undo_47 ?_
          obtain ⟨v10, qv10, hm⟩ := ss_bind hm
          refine ss_iald hC hK hR qv10 dd_M_undo_48 ?_
          obtain ⟨h11, qh11, hm⟩ := ss_bind hm
          refine ss_iast hC hK hR hS qh11 dd_M_undo_49 (fun H locs hR hS => ?_)
          obtain ⟨v12, qv12, hm⟩ := ss_bind hm
          refine lv_iinc (v := v12) (lv' := [(1, .int v12), (0, ss_v (ss_b G) this)]) hx hb dd_M_undo_50 hl (k := 1) rfl (ss_inc (by decide) qv12) (by decide) (by simp only [List.filter_cons, ss_v_cat]; rfl) (fun ls hl => ?_)
          refine lv_goto (tgt := 21) hx hb dd_M_undo_53 (by decide) ?_
          exact ih_21 v12 h11 _ _ _ (hz1_21 _ (ss_some hm)) hR hS (lv_sub hl [1, 0] rfl)
    exact L_21 N (0 : Int32) h4 _ _ _ he_21 hR hS (lv_sub hl [1, 0] rfl)
  · have hm := ss_ift hm c2
    refine lv_iconst (v := -1) hx hb dd_M_undo_7 (by decide) ?_
    exact ss_iret hC hr hlocks hR hS hm dd_M_undo_8
theorem dd_M_isValley_0 : decode bb_M_isValley 0 = .ok (.aload_n 0, 1) := by decide +kernel
theorem dd_M_isValley_1 : decode bb_M_isValley 1 = .ok (.getfield 39, 3) := by decide +kernel
theorem dd_M_isValley_4 : decode bb_M_isValley 4 = .ok (.iconst 0, 1) := by decide +kernel
theorem dd_M_isValley_5 : decode bb_M_isValley 5 = .ok (.iaload, 1) := by decide +kernel
theorem dd_M_isValley_6 : decode bb_M_isValley 6 = .ok (.ifCond .le 7, 3) := by decide +kernel
theorem dd_M_isValley_9 : decode bb_M_isValley 9 = .ok (.iconst 1, 1) := by decide +kernel
theorem dd_M_isValley_10 : decode bb_M_isValley 10 = .ok (.goto 4, 3) := by decide +kernel
theorem dd_M_isValley_13 : decode bb_M_isValley 13 = .ok (.iconst 0, 1) := by decide +kernel
theorem dd_M_isValley_14 : decode bb_M_isValley 14 = .ok (.ireturn, 1) := by decide +kernel
def mm_M_isValley_j14 (N : Nat) (this : Option Nat) (h : ss_Hp) (s0_14 : Int32) : Option Int32 :=
  (ss_bz s0_14).bind fun v1 =>
  some v1
def mm_M_isValley (N : Nat) (this : Option Nat) (h : ss_Hp) : Option Int32 :=
  if ss_is h this 12 = true then
    (ss_gr h this 12 9).bind fun r2 =>
    (ss_ai h r2 20 (0 : Int32)).bind fun v3 =>
    if v3 ≤ 0 then
      mm_M_isValley_j14 N this h (0 : Int32)
    else
      mm_M_isValley_j14 N this h (1 : Int32)
  else none
abbrev ww_M_isValley (p : Program) (l : Launch) (e : Env) (s : State) (m : MethodId) (below : List Frame) (meth : Method) (c : Code) (G : ss_G) (this : Option Nat) (h : ss_Hp) (rr : Int32) (H : Heap) (locs : List Loc) (k n : Nat) (g : JFrame) : Prop := W p l e (headSpec (ss_w yy_M_isValley bb_M_isValley 1 (some .boolean)) ({ frames := 0, cells := 0, slots := 0, locals := 0 })).room s m ([ss_v (ss_b G) this] : List Value).toArray below meth c H locs k n (MQ below (ss_Qc G (some (.int rr)) h) ([ss_v (ss_b G) this] : List Value).toArray s 0 0 (ss_A G)) g
theorem ck_M_isValley {N : Nat} {this : Option Nat} {h : ss_Hp} {res : Int32} (hm : mm_M_isValley N this h = some res) : ss_is h this 12 = true := (ss_chk hm).1
set_option maxHeartbeats 4000000 in
set_option maxRecDepth 100000 in
theorem cc_M_isValley (l : Launch) (G : ss_G) (N : Nat) (this : Option Nat) (h : ss_Hp) (rr : Int32) (hm : mm_M_isValley N this h = some rr) : ss_Ct l G yy_M_isValley bb_M_isValley 1 (some .boolean) ({ frames := 0, cells := 0, slots := 0, locals := 0 }) [ss_v (ss_b G) this] h (some (.int rr)) h := by
  obtain ⟨hck, hm⟩ := ss_chk hm
  refine Met.ofW (cc := bb_M_isValley) (maxL := 1) (ret := (some .boolean)) (by decide) rfl ?_
  intro p e s m args below meth c s₁ B hml hv
  obtain ⟨rfl, hR, hK⟩ := hv
  have hC : CallFix p m c bb_M_isValley 1 s _ lw_g sR_12 := ⟨B.exec, B.bytes, hml, findClass_of_methodNamed B.named, fun w hw => atoms_spec (ws := ss_w yy_M_isValley bb_M_isValley 1 (some .boolean)) B.pre w (List.mem_cons_of_mem _ hw)⟩
  have hx := hC.1
  have hb := hC.2.1
  have hr := B.returns
  have hlocks := B.notSynchronized
  have hS : va_S (ss_A G) s.heap s.heap [] := va_S.rf
  have hl := lv_entry ([ss_v (ss_b G) this]) (n := 1) (by simp [lg_sl, ss_v_cat, ss_cat_i, ss_cat_l, ss_cat_r])
  rw [lg_entry_eq]
  generalize (lg_sl ([ss_v (ss_b G) this]) ++ List.replicate (1 - (lg_sl ([ss_v (ss_b G) this])).length) Slot.unset).toArray = ls at hl ⊢
  have hl : lv_has ls 1 [(0, ss_v (ss_b G) this)] := by simpa [lv_args, ss_v_cat, ss_cat_i, ss_cat_l, ss_cat_r] using hl
  have J_14 : ∀ (s0_14 : Int32) (H : Heap) (locs : List Loc) (ls : Array Slot), mm_M_isValley_j14 N this h s0_14 = some rr → ss_R G h H → va_S (ss_A G) s.heap H locs → lv_has ls 1 [] → ww_M_isValley p l e s m below meth c G this h rr  H locs 0 0 (F0 m 14 ls [.int s0_14]) := by
    intro s0_14 H locs ls hm hR hS hl
    obtain ⟨v1, qv1, hm⟩ := ss_bind hm
    obtain ⟨hnb, rfl⟩ := ss_bzs qv1
    exact ss_zret hC hr hnb hlocks hR hS (ss_with _ hm) dd_M_isValley_14
  refine ss_aload_n hx hb dd_M_isValley_0 rfl (lv_at hl 0 rfl) ?_
  obtain ⟨r2, qr2, hm⟩ := ss_bind hm
  refine ss_getr hC hK hR kf_M_39 rfl qr2 dd_M_isValley_1 ?_
  refine lv_iconst (v := 0) hx hb dd_M_isValley_4 (by decide) ?_
  obtain ⟨v3, qv3, hm⟩ := ss_bind hm
  refine ss_iald hC hK hR qv3 dd_M_isValley_5 ?_
  refine lv_if_le (tgt := 13) hx hb dd_M_isValley_6 (by decide) (fun c4 => ?_) (fun c4 => ?_)
  · have hm := ss_ift hm c4
    refine lv_iconst (v := 0) hx hb dd_M_isValley_13 (by decide) ?_
    exact J_14 (0 : Int32)  _ _ _ hm hR hS (lv_sub hl [] rfl)
  · have hm := ss_iff hm c4
    refine lv_iconst (v := 1) hx hb dd_M_isValley_9 (by decide) ?_
    refine lv_goto (tgt := 14) hx hb dd_M_isValley_10 (by decide) ?_
    exact J_14 (1 : Int32)  _ _ _ hm hR hS (lv_sub hl [] rfl)
theorem dd_M_keepsAct_0 : decode bb_M_keepsAct 0 = .ok (.aload_n 0, 1) := by decide +kernel
theorem dd_M_keepsAct_1 : decode bb_M_keepsAct 1 = .ok (.getfield 289, 3) := by decide +kernel
theorem dd_M_keepsAct_4 : decode bb_M_keepsAct 4 = .ok (.bipush 20, 2) := by decide +kernel
theorem dd_M_keepsAct_6 : decode bb_M_keepsAct 6 = .ok (.if_icmp .ne 44, 3) := by decide +kernel
theorem dd_M_keepsAct_9 : decode bb_M_keepsAct 9 = .ok (.bipush 20, 2) := by decide +kernel
theorem dd_M_keepsAct_11 : decode bb_M_keepsAct 11 = .ok (.istore_n 1, 1) := by decide +kernel
theorem dd_M_keepsAct_12 : decode bb_M_keepsAct 12 = .ok (.iload_n 1, 1) := by decide +kernel
theorem dd_M_keepsAct_13 : decode bb_M_keepsAct 13 = .ok (.sipush 400, 3) := by decide +kernel
theorem dd_M_keepsAct_16 : decode bb_M_keepsAct 16 = .ok (.if_icmp .ge 24, 3) := by decide +kernel
theorem dd_M_keepsAct_19 : decode bb_M_keepsAct 19 = .ok (.aload_n 0, 1) := by decide +kernel
theorem dd_M_keepsAct_20 : decode bb_M_keepsAct 20 = .ok (.getfield 52, 3) := by decide +kernel
theorem dd_M_keepsAct_23 : decode bb_M_keepsAct 23 = .ok (.iload_n 1, 1) := by decide +kernel
theorem dd_M_keepsAct_24 : decode bb_M_keepsAct 24 = .ok (.bipush 20, 2) := by decide +kernel
theorem dd_M_keepsAct_26 : decode bb_M_keepsAct 26 = .ok (.isub, 1) := by decide +kernel
theorem dd_M_keepsAct_27 : decode bb_M_keepsAct 27 = .ok (.aload_n 0, 1) := by decide +kernel
theorem dd_M_keepsAct_28 : decode bb_M_keepsAct 28 = .ok (.getfield 52, 3) := by decide +kernel
theorem dd_M_keepsAct_31 : decode bb_M_keepsAct 31 = .ok (.iload_n 1, 1) := by decide +kernel
theorem dd_M_keepsAct_32 : decode bb_M_keepsAct 32 = .ok (.iaload, 1) := by decide +kernel
theorem dd_M_keepsAct_33 : decode bb_M_keepsAct 33 = .ok (.iastore, 1) := by decide +kernel
theorem dd_M_keepsAct_34 : decode bb_M_keepsAct 34 = .ok (.iinc 1 1, 3) := by decide +kernel
theorem dd_M_keepsAct_37 : decode bb_M_keepsAct 37 = .ok (.goto (-25), 3) := by decide +kernel
theorem dd_M_keepsAct_40 : decode bb_M_keepsAct 40 = .ok (.aload_n 0, 1) := by decide +kernel
theorem dd_M_keepsAct_41 : decode bb_M_keepsAct 41 = .ok (.dup, 1) := by decide +kernel
theorem dd_M_keepsAct_42 : decode bb_M_keepsAct 42 = .ok (.getfield 289, 3) := by decide +kernel
theorem dd_M_keepsAct_45 : decode bb_M_keepsAct 45 = .ok (.iconst 1, 1) := by decide +kernel
theorem dd_M_keepsAct_46 : decode bb_M_keepsAct 46 = .ok (.isub, 1) := by decide +kernel
theorem dd_M_keepsAct_47 : decode bb_M_keepsAct 47 = .ok (.putfield 289, 3) := by decide +kernel
theorem dd_M_keepsAct_50 : decode bb_M_keepsAct 50 = .ok (.iconst 0, 1) := by decide +kernel
theorem dd_M_keepsAct_51 : decode bb_M_keepsAct 51 = .ok (.istore_n 1, 1) := by decide +kernel
theorem dd_M_keepsAct_52 : decode bb_M_keepsAct 52 = .ok (.iload_n 1, 1) := by decide +kernel
theorem dd_M_keepsAct_53 : decode bb_M_keepsAct 53 = .ok (.bipush 20, 2) := by decide +kernel
theorem dd_M_keepsAct_55 : decode bb_M_keepsAct 55 = .ok (.if_icmp .ge 32, 3) := by decide +kernel
theorem dd_M_keepsAct_58 : decode bb_M_keepsAct 58 = .ok (.aload_n 0, 1) := by decide +kernel
theorem dd_M_keepsAct_59 : decode bb_M_keepsAct 59 = .ok (.getfield 52, 3) := by decide +kernel
theorem dd_M_keepsAct_62 : decode bb_M_keepsAct 62 = .ok (.bipush 20, 2) := by decide +kernel
theorem dd_M_keepsAct_64 : decode bb_M_keepsAct 64 = .ok (.aload_n 0, 1) := by decide +kernel
theorem dd_M_keepsAct_65 : decode bb_M_keepsAct 65 = .ok (.getfield 289, 3) := by decide +kernel
theorem dd_M_keepsAct_68 : decode bb_M_keepsAct 68 = .ok (.imul, 1) := by decide +kernel
theorem dd_M_keepsAct_69 : decode bb_M_keepsAct 69 = .ok (.iload_n 1, 1) := by decide +kernel
theorem dd_M_keepsAct_70 : decode bb_M_keepsAct 70 = .ok (.iadd, 1) := by decide +kernel
theorem dd_M_keepsAct_71 : decode bb_M_keepsAct 71 = .ok (.aload_n 0, 1) := by decide +kernel
theorem dd_M_keepsAct_72 : decode bb_M_keepsAct 72 = .ok (.getfield 39, 3) := by decide +kernel
theorem dd_M_keepsAct_75 : decode bb_M_keepsAct 75 = .ok (.bipush 10, 2) := by decide +kernel
theorem dd_M_keepsAct_77 : decode bb_M_keepsAct 77 = .ok (.iload_n 1, 1) := by decide +kernel
theorem dd_M_keepsAct_78 : decode bb_M_keepsAct 78 = .ok (.iadd, 1) := by decide +kernel
theorem dd_M_keepsAct_79 : decode bb_M_keepsAct 79 = .ok (.iaload, 1) := by decide +kernel
theorem dd_M_keepsAct_80 : decode bb_M_keepsAct 80 = .ok (.iastore, 1) := by decide +kernel
theorem dd_M_keepsAct_81 : decode bb_M_keepsAct 81 = .ok (.iinc 1 1, 3) := by decide +kernel
theorem dd_M_keepsAct_84 : decode bb_M_keepsAct 84 = .ok (.goto (-32), 3) := by decide +kernel
theorem dd_M_keepsAct_87 : decode bb_M_keepsAct 87 = .ok (.aload_n 0, 1) := by decide +kernel
theorem dd_M_keepsAct_88 : decode bb_M_keepsAct 88 = .ok (.dup, 1) := by decide +kernel
theorem dd_M_keepsAct_89 : decode bb_M_keepsAct 89 = .ok (.getfield 289, 3) := by decide +kernel
theorem dd_M_keepsAct_92 : decode bb_M_keepsAct 92 = .ok (.iconst 1, 1) := by decide +kernel
theorem dd_M_keepsAct_93 : decode bb_M_keepsAct 93 = .ok (.iadd, 1) := by decide +kernel
theorem dd_M_keepsAct_94 : decode bb_M_keepsAct 94 = .ok (.putfield 289, 3) := by decide +kernel
theorem dd_M_keepsAct_97 : decode bb_M_keepsAct 97 = .ok (.return_, 1) := by decide +kernel
def mm_M_keepsAct_b52 (N : Nat) (this : Option Nat) (st : Int32 × ss_Hp) : Option ((Int32 × ss_Hp) ⊕ ss_Hp) :=
  match st with
  | (x1_52, h_52) =>
    if (20 : Int32) ≤ x1_52 then
      some (.inr h_52)
    else
      (ss_gr h_52 this 12 12).bind fun r4 =>
      (ss_gi h_52 this 12 15).bind fun v5 =>
      (ss_gr h_52 this 12 9).bind fun r6 =>
      (ss_ai h_52 r6 20 ((10 : Int32) + x1_52)).bind fun v7 =>
      (ss_ui h_52 r4 20 (((20 : Int32) * v5) + x1_52) v7).bind fun h8 =>
      (some (x1_52 + (1 : Int32))).bind fun v9 =>
      some (.inl (v9, h8))
def mm_M_keepsAct_j50 (N : Nat) (this : Option Nat) (h_50 : ss_Hp) : Option ss_Hp :=
  (ss_lp (mm_M_keepsAct_b52 N this) N ((0 : Int32), h_50)).bind fun h_52_87 =>
  (ss_gi h_52_87 this 12 15).bind fun v1 =>
  (ss_pi h_52_87 this 12 15 (v1 + (1 : Int32))).bind fun h2 =>
  some h2
def mm_M_keepsAct_b12 (N : Nat) (this : Option Nat) (st : Int32 × ss_Hp) : Option ((Int32 × ss_Hp) ⊕ ss_Hp) :=
  match st with
  | (x1_12, h_12) =>
    if (400 : Int32) ≤ x1_12 then
      some (.inr h_12)
    else
      (ss_gr h_12 this 12 12).bind fun r15 =>
      (ss_gr h_12 this 12 12).bind fun r16 =>
      (ss_ai h_12 r16 20 x1_12).bind fun v17 =>
      (ss_ui h_12 r15 20 (x1_12 - (20 : Int32)) v17).bind fun h18 =>
      (some (x1_12 + (1 : Int32))).bind fun v19 =>
      some (.inl (v19, h18))
def mm_M_keepsAct (N : Nat) (this : Option Nat) (h : ss_Hp) : Option ss_Hp :=
  if ss_is h this 12 = true then
    (ss_gi h this 12 15).bind fun v10 =>
    if v10 = (20 : Int32) then
      (ss_lp (mm_M_keepsAct_b12 N this) N ((20 : Int32), h)).bind fun h_12_40 =>
      (ss_gi h_12_40 this 12 15).bind fun v12 =>
      (ss_pi h_12_40 this 12 15 (v12 - (1 : Int32))).bind fun h13 =>
      mm_M_keepsAct_j50 N this h13
    else
      mm_M_keepsAct_j50 N this h
  else none
abbrev ww_M_keepsAct (p : Program) (l : Launch) (e : Env) (s : State) (m : MethodId) (below : List Frame) (meth : Method) (c : Code) (G : ss_G) (this : Option Nat) (h : ss_Hp) (hh : ss_Hp) (H : Heap) (locs : List Loc) (k n : Nat) (g : JFrame) : Prop := W p l e (headSpec (ss_w yy_M_keepsAct bb_M_keepsAct 2 none) ({ frames := 0, cells := 0, slots := 0, locals := 0 })).room s m ([ss_v (ss_b G) this] : List Value).toArray below meth c H locs k n (MQ below (ss_Qc G none hh) ([ss_v (ss_b G) this] : List Value).toArray s 0 0 (ss_A G)) g
theorem ck_M_keepsAct {N : Nat} {this : Option Nat} {h : ss_Hp} {res : ss_Hp} (hm : mm_M_keepsAct N this h = some res) : ss_is h this 12 = true := (ss_chk hm).1
set_option maxHeartbeats 4000000 in
set_option maxRecDepth 100000 in
theorem cc_M_keepsAct (l : Launch) (G : ss_G) (N : Nat) (this : Option Nat) (h : ss_Hp) (hh : ss_Hp) (hm : mm_M_keepsAct N this h = some hh) : ss_Ct l G yy_M_keepsAct bb_M_keepsAct 2 none ({ frames := 0, cells := 0, slots := 0, locals := 0 }) [ss_v (ss_b G) this] h none hh := by
  obtain ⟨hck, hm⟩ := ss_chk hm
  refine Met.ofW (cc := bb_M_keepsAct) (maxL := 2) (ret := none) (by decide) rfl ?_
  intro p e s m args below meth c s₁ B hml hv
  obtain ⟨rfl, hR, hK⟩ := hv
  have hC : CallFix p m c bb_M_keepsAct 2 s _ lw_g sR_12 := ⟨B.exec, B.bytes, hml, findClass_of_methodNamed B.named, fun w hw => atoms_spec (ws := ss_w yy_M_keepsAct bb_M_keepsAct 2 none) B.pre w (List.mem_cons_of_mem _ hw)⟩
  have hx := hC.1
  have hb := hC.2.1
  have hr := B.returns
  have hlocks := B.notSynchronized
  have hS : va_S (ss_A G) s.heap s.heap [] := va_S.rf
  have hl := lv_entry ([ss_v (ss_b G) this]) (n := 2) (by simp [lg_sl, ss_v_cat, ss_cat_i, ss_cat_l, ss_cat_r])
  rw [lg_entry_eq]
  generalize (lg_sl ([ss_v (ss_b G) this]) ++ List.replicate (2 - (lg_sl ([ss_v (ss_b G) this])).length) Slot.unset).toArray = ls at hl ⊢
  have hl : lv_has ls 2 [(0, ss_v (ss_b G) this)] := by simpa [lv_args, ss_v_cat, ss_cat_i, ss_cat_l, ss_cat_r] using hl
  have J_50 : ∀ (h_50 : ss_Hp) (H : Heap) (locs : List Loc) (ls : Array Slot), mm_M_keepsAct_j50 N this h_50 = some hh → ss_R G h_50 H → va_S (ss_A G) s.heap H locs → lv_has ls 2 [(0, ss_v (ss_b G) this)] → ww_M_keepsAct p l e s m below meth c G this h hh  H locs 0 0 (F0 m 50 ls []) := by
    intro h_50 H locs ls hm hR hS hl
    refine lv_iconst (v := 0) hx hb dd_M_keepsAct_50 (by decide) ?_
    refine lv_istore_n (lv' := [(1, .int (0 : Int32)), (0, ss_v (ss_b G) this)]) hx hb dd_M_keepsAct_51 rfl hl (by decide) (by simp only [List.filter_cons, ss_v_cat]; rfl) (fun ls hl => ?_)
    obtain ⟨e_52, he_52, hm⟩ := ss_bind hm
    have X_52_87 : ∀  (h_52_87 : ss_Hp) (H : Heap) (locs : List Loc) (ls : Array Slot), e_52 = h_52_87 → ss_R G h_52_87 H → va_S (ss_A G) s.heap H locs → lv_has ls 2 [(0, ss_v (ss_b G) this)] → ww_M_keepsAct p l e s m below meth c G this h hh  H locs 0 0 (F0 m 87 ls []) := by
      intro h_52_87 H locs ls hq hR hS hl
      rw [hq] at hm
      refine ss_aload_n hx hb dd_M_keepsAct_87 rfl (lv_at hl 0 rfl) ?_
      refine ss_dupr hx hb dd_M_keepsAct_88 ?_
      obtain ⟨v1, qv1, hm⟩ := ss_bind hm
      refine ss_geti hC hK hR kf_M_289 qv1 dd_M_keepsAct_89 ?_
      refine lv_iconst (v := 1) hx hb dd_M_keepsAct_92 (by decide) ?_
      refine lv_iadd hx hb dd_M_keepsAct_93 ?_
      obtain ⟨h2, qh2, hm⟩ := ss_bind hm
      refine ss_puti hC hK hR hS kp_M_289 qh2 dd_M_keepsAct_94 (fun H locs hR hS => ?_)
      exact ss_vret hC hr hlocks hR hS hm dd_M_keepsAct_97
    have L_52 : ∀ (n : Nat) (x1_52 : Int32) (h_52 : ss_Hp) (H : Heap) (locs : List Loc) (ls : Array Slot), ss_lp (mm_M_keepsAct_b52 N this) n (x1_52, h_52) = some e_52 → ss_R G h_52 H → va_S (ss_A G) s.heap H locs → lv_has ls 2 [(0, ss_v (ss_b G) this), (1, .int x1_52)] → ww_M_keepsAct p l e s m below meth c G this h hh  H locs 0 0 (F0 m 52 ls []) := by
      intro n
      induction n with
      | zero => intro x1_52 h_52 H locs ls hm; cases hm
      | succ n ih_52 =>
        intro x1_52 h_52 H locs ls hm hR hS hl
        obtain ⟨z_52, hm, hz1_52, hz2_52⟩ := ss_lps hm
        refine lv_iload_n hx hb dd_M_keepsAct_52 rfl (lv_at hl 1 rfl) ?_
        refine lv_bipush (v := 20) hx hb dd_M_keepsAct_53 (by decide) ?_
        refine lv_icmp_ge (tgt := 87) hx hb dd_M_keepsAct_55 (by decide) (fun c3 => ?_) (fun c3 => ?_)
        · have hm := ss_ift hm c3
          exact X_52_87 h_52 _ _ _ (hz2_52 _ (ss_some hm)) hR hS (lv_sub hl [0] rfl)
        · have hm := ss_iff hm c3
          refine ss_aload_n hx hb dd_M_keepsAct_58 rfl (lv_at hl 0 rfl) ?_
          obtain ⟨r4, qr4, hm⟩ := ss_bind hm
          refine ss_getr hC hK hR kf_M_52 rfl qr4 dd_M_keepsAct_59 ?_
          refine lv_bipush (v := 20) hx hb dd_M_keepsAct_62 (by decide) ?_
          refine ss_aload_n hx hb dd_M_keepsAct_64 rfl (lv_at hl 0 rfl) ?_
          obtain ⟨v5, qv5, hm⟩ := ss_bind hm
          refine ss_geti hC hK hR kf_M_289 qv5 dd_M_keepsAct_65 ?_
          refine lv_imul hx hb dd_M_keepsAct_68 ?_
          refine lv_iload_n hx hb dd_M_keepsAct_69 rfl (lv_at hl 1 rfl) ?_
          refine lv_iadd hx hb dd_M_keepsAct_70 ?_
          refine ss_aload_n hx hb dd_M_keepsAct_71 rfl (lv_at hl 0 rfl) ?_
          obtain ⟨r6, qr6, hm⟩ := ss_bind hm
          refine ss_getr hC hK hR kf_M_39 rfl qr6 dd_M_keepsAct_72 ?_
          refine lv_bipush (v := 10) hx hb dd_M_keepsAct_75 (by decide) ?_
          refine lv_iload_n hx hb dd_M_keepsAct_77 rfl (lv_at hl 1 rfl) ?_
          refine lv_iadd hx hb dd_M_keepsAct_78 ?_
          obtain ⟨v7, qv7, hm⟩ := ss_bind hm
          refine ss_iald hC hK hR qv7 dd_M_keepsAct_79 ?_
          obtain ⟨h8, qh8, hm⟩ := ss_bind hm
          refine ss_iast hC hK hR hS qh8 dd_M_keepsAct_80 (fun H locs hR hS => ?_)
          obtain ⟨v9, qv9, hm⟩ := ss_bind hm
          refine lv_iinc (v := v9) (lv' := [(1, .int v9), (0, ss_v (ss_b G) this)]) hx hb dd_M_keepsAct_81 hl (k := 1) rfl (ss_inc (by decide) qv9) (by decide) (by simp only [List.filter_cons, ss_v_cat]; rfl) (fun ls hl => ?_)
          refine lv_goto (tgt := 52) hx hb dd_M_keepsAct_84 (by decide) ?_
          exact ih_52 v9 h8 _ _ _ (hz1_52 _ (ss_some hm)) hR hS (lv_sub hl [1, 0] rfl)
    exact L_52 N (0 : Int32) h_50 _ _ _ he_52 hR hS (lv_sub hl [1, 0] rfl)
  refine ss_aload_n hx hb dd_M_keepsAct_0 rfl (lv_at hl 0 rfl) ?_
  obtain ⟨v10, qv10, hm⟩ := ss_bind hm
  refine ss_geti hC hK hR kf_M_289 qv10 dd_M_keepsAct_1 ?_
  refine lv_bipush (v := 20) hx hb dd_M_keepsAct_4 (by decide) ?_
  refine lv_icmp_ne (tgt := 50) hx hb dd_M_keepsAct_6 (by decide) (fun c11 => ?_) (fun c11 => ?_)
  · have hm := ss_iff hm c11
    exact J_50 h _ _ _ hm hR hS hl
  · have hm := ss_ift hm c11
    refine lv_bipush (v := 20) hx hb dd_M_keepsAct_9 (by decide) ?_
    refine lv_istore_n (lv' := [(1, .int (20 : Int32)), (0, ss_v (ss_b G) this)]) hx hb dd_M_keepsAct_11 rfl hl (by decide) (by simp only [List.filter_cons, ss_v_cat]; rfl) (fun ls hl => ?_)
    obtain ⟨e_12, he_12, hm⟩ := ss_bind hm
    have X_12_40 : ∀  (h_12_40 : ss_Hp) (H : Heap) (locs : List Loc) (ls : Array Slot), e_12 = h_12_40 → ss_R G h_12_40 H → va_S (ss_A G) s.heap H locs → lv_has ls 2 [(0, ss_v (ss_b G) this)] → ww_M_keepsAct p l e s m below meth c G this h hh  H locs 0 0 (F0 m 40 ls []) := by
      intro h_12_40 H locs ls hq hR hS hl
      rw [hq] at hm
      refine ss_aload_n hx hb dd_M_keepsAct_40 rfl (lv_at hl 0 rfl) ?_
      refine ss_dupr hx hb dd_M_keepsAct_41 ?_
      obtain ⟨v12, qv12, hm⟩ := ss_bind hm
      refine ss_geti hC hK hR kf_M_289 qv12 dd_M_keepsAct_42 ?_
      refine lv_iconst (v := 1) hx hb dd_M_keepsAct_45 (by decide) ?_
      refine lv_isub hx hb dd_M_keepsAct_46 ?_
      obtain ⟨h13, qh13, hm⟩ := ss_bind hm
      refine ss_puti hC hK hR hS kp_M_289 qh13 dd_M_keepsAct_47 (fun H locs hR hS => ?_)
      exact J_50 h13 _ _ _ hm hR hS hl
    have L_12 : ∀ (n : Nat) (x1_12 : Int32) (h_12 : ss_Hp) (H : Heap) (locs : List Loc) (ls : Array Slot), ss_lp (mm_M_keepsAct_b12 N this) n (x1_12, h_12) = some e_12 → ss_R G h_12 H → va_S (ss_A G) s.heap H locs → lv_has ls 2 [(0, ss_v (ss_b G) this), (1, .int x1_12)] → ww_M_keepsAct p l e s m below meth c G this h hh  H locs 0 0 (F0 m 12 ls []) := by
      intro n
      induction n with
      | zero => intro x1_12 h_12 H locs ls hm; cases hm
      | succ n ih_12 =>
        intro x1_12 h_12 H locs ls hm hR hS hl
        obtain ⟨z_12, hm, hz1_12, hz2_12⟩ := ss_lps hm
        refine lv_iload_n hx hb dd_M_keepsAct_12 rfl (lv_at hl 1 rfl) ?_
        refine lv_sipush (v := 400) hx hb dd_M_keepsAct_13 (by decide) ?_
        refine lv_icmp_ge (tgt := 40) hx hb dd_M_keepsAct_16 (by decide) (fun c14 => ?_) (fun c14 => ?_)
        · have hm := ss_ift hm c14
          exact X_12_40 h_12 _ _ _ (hz2_12 _ (ss_some hm)) hR hS (lv_sub hl [0] rfl)
        · have hm := ss_iff hm c14
          refine ss_aload_n hx hb dd_M_keepsAct_19 rfl (lv_at hl 0 rfl) ?_
          obtain ⟨r15, qr15, hm⟩ := ss_bind hm
          refine ss_getr hC hK hR kf_M_52 rfl qr15 dd_M_keepsAct_20 ?_
          refine lv_iload_n hx hb dd_M_keepsAct_23 rfl (lv_at hl 1 rfl) ?_
          refine lv_bipush (v := 20) hx hb dd_M_keepsAct_24 (by decide) ?_
          refine lv_isub hx hb dd_M_keepsAct_26 ?_
          refine ss_aload_n hx hb dd_M_keepsAct_27 rfl (lv_at hl 0 rfl) ?_
          obtain ⟨r16, qr16, hm⟩ := ss_bind hm
          refine ss_getr hC hK hR kf_M_52 rfl qr16 dd_M_keepsAct_28 ?_
          refine lv_iload_n hx hb dd_M_keepsAct_31 rfl (lv_at hl 1 rfl) ?_
          obtain ⟨v17, qv17, hm⟩ := ss_bind hm
          refine ss_iald hC hK hR qv17 dd_M_keepsAct_32 ?_
          obtain ⟨h18, qh18, hm⟩ := ss_bind hm
          refine ss_iast hC hK hR hS qh18 dd_M_keepsAct_33 (fun H locs hR hS => ?_)
          obtain ⟨v19, qv19, hm⟩ := ss_bind hm
          refine lv_iinc (v := v19) (lv' := [(1, .int v19), (0, ss_v (ss_b G) this)]) hx hb dd_M_keepsAct_34 hl (k := 1) rfl (ss_inc (by decide) qv19) (by decide) (by simp only [List.filter_cons, ss_v_cat]; rfl) (fun ls hl => ?_)
          refine lv_goto (tgt := 12) hx hb dd_M_keepsAct_37 (by decide) ?_
          exact ih_12 v19 h18 _ _ _ (hz1_12 _ (ss_some hm)) hR hS (lv_sub hl [1, 0] rfl)
    exact L_12 N (20 : Int32) h _ _ _ he_12 hR hS (lv_sub hl [1, 0] rfl)
theorem dd_M_closed_0 : decode bb_M_closed 0 = .ok (.iconst 0, 1) := by decide +kernel
theorem dd_M_closed_1 : decode bb_M_closed 1 = .ok (.istore_n 1, 1) := by decide +kernel
theorem dd_M_closed_2 : decode bb_M_closed 2 = .ok (.iconst 0, 1) := by decide +kernel
theorem dd_M_closed_3 : decode bb_M_closed 3 = .ok (.istore_n 2, 1) := by decide +kernel
theorem dd_M_closed_4 : decode bb_M_closed 4 = .ok (.iload_n 2, 1) := by decide +kernel
theorem dd_M_closed_5 : decode bb_M_closed 5 = .ok (.aload_n 0, 1) := by decide +kernel
theorem dd_M_closed_6 : decode bb_M_closed 6 = .ok (.getfield 39, 3) := by decide +kernel
theorem dd_M_closed_9 : decode bb_M_closed 9 = .ok (.iconst 2, 1) := by decide +kernel
theorem dd_M_closed_10 : decode bb_M_closed 10 = .ok (.iaload, 1) := by decide +kernel
theorem dd_M_closed_11 : decode bb_M_closed 11 = .ok (.if_icmp .ge 27, 3) := by decide +kernel
theorem dd_M_closed_14 : decode bb_M_closed 14 = .ok (.iload_n 1, 1) := by decide +kernel
theorem dd_M_closed_15 : decode bb_M_closed 15 = .ok (.aload_n 0, 1) := by decide +kernel
theorem dd_M_closed_16 : decode bb_M_closed 16 = .ok (.iload_n 2, 1) := by decide +kernel
theorem dd_M_closed_17 : decode bb_M_closed 17 = .ok (.invokevirtual 307, 3) := by decide +kernel
theorem dd_M_closed_20 : decode bb_M_closed 20 = .ok (.ifCond .eq 9, 3) := by decide +kernel
theorem dd_M_closed_23 : decode bb_M_closed 23 = .ok (.iconst 1, 1) := by decide +kernel
theorem dd_M_closed_24 : decode bb_M_closed 24 = .ok (.iload_n 2, 1) := by decide +kernel
theorem dd_M_closed_25 : decode bb_M_closed 25 = .ok (.ishl, 1) := by decide +kernel
theorem dd_M_closed_26 : decode bb_M_closed 26 = .ok (.goto 4, 3) := by decide +kernel
theorem dd_M_closed_29 : decode bb_M_closed 29 = .ok (.iconst 0, 1) := by decide +kernel
theorem dd_M_closed_30 : decode bb_M_closed 30 = .ok (.ior, 1) := by decide +kernel
theorem dd_M_closed_31 : decode bb_M_closed 31 = .ok (.istore_n 1, 1) := by decide +kernel
theorem dd_M_closed_32 : decode bb_M_closed 32 = .ok (.iinc 2 1, 3) := by decide +kernel
theorem dd_M_closed_35 : decode bb_M_closed 35 = .ok (.goto (-31), 3) := by decide +kernel
theorem dd_M_closed_38 : decode bb_M_closed 38 = .ok (.iload_n 1, 1) := by decide +kernel
theorem dd_M_closed_39 : decode bb_M_closed 39 = .ok (.ireturn, 1) := by decide +kernel
def mm_M_closed_j30 (N : Nat) (this : Option Nat) (h : ss_Hp) (x2_30 : Int32) (s0_30 : Int32) (s1_30 : Int32) : Option ((Int32 × Int32) ⊕ Int32) :=
  (some (s0_30 ||| s1_30)).bind fun v1 =>
  (some (x2_30 + (1 : Int32))).bind fun v2 =>
  some (.inl (v1, v2))
def mm_M_closed_b4 (N : Nat) (this : Option Nat) (h : ss_Hp) (st : Int32 × Int32) : Option ((Int32 × Int32) ⊕ Int32) :=
  match st with
  | (x1_4, x2_4) =>
    (ss_gr h this 12 9).bind fun r3 =>
    (ss_ai h r3 20 (2 : Int32)).bind fun v4 =>
    if v4 ≤ x2_4 then
      some (.inr x1_4)
    else
      (mm_M_isClosed N this x2_4 h).bind fun v6 =>
      if v6 = 0 then
        mm_M_closed_j30 N this h x2_4 x1_4 (0 : Int32)
      else
        mm_M_closed_j30 N this h x2_4 x1_4 ((1 : Int32) <<< (x2_4 &&& 31))
def mm_M_closed (N : Nat) (this : Option Nat) (h : ss_Hp) : Option Int32 :=
  if ss_is h this 12 = true then
    (ss_lp (mm_M_closed_b4 N this h) N ((0 : Int32), (0 : Int32))).bind fun y1_4_38 =>
    some y1_4_38
  else none
abbrev ww_M_closed (p : Program) (l : Launch) (e : Env) (s : State) (m : MethodId) (below : List Frame) (meth : Method) (c : Code) (G : ss_G) (this : Option Nat) (h : ss_Hp) (rr : Int32) (H : Heap) (locs : List Loc) (k n : Nat) (g : JFrame) : Prop := W p l e (headSpec (ss_w yy_M_closed bb_M_closed 3 (some (.int))) ({ frames := 1, cells := 0, slots := 0, locals := 21 })).room s m ([ss_v (ss_b G) this] : List Value).toArray below meth c H locs k n (MQ below (ss_Qc G (some (.int rr)) h) ([ss_v (ss_b G) this] : List Value).toArray s 0 0 (ss_A G)) g
theorem ck_M_closed {N : Nat} {this : Option Nat} {h : ss_Hp} {res : Int32} (hm : mm_M_closed N this h = some res) : ss_is h this 12 = true := (ss_chk hm).1
set_option maxHeartbeats 4000000 in
set_option maxRecDepth 100000 in
theorem cc_M_closed (l : Launch) (G : ss_G) (N : Nat) (this : Option Nat) (h : ss_Hp) (rr : Int32) (hm : mm_M_closed N this h = some rr) : ss_Ct l G yy_M_closed bb_M_closed 3 (some (.int)) ({ frames := 1, cells := 0, slots := 0, locals := 21 }) [ss_v (ss_b G) this] h (some (.int rr)) h := by
  obtain ⟨hck, hm⟩ := ss_chk hm
  refine Met.ofW (cc := bb_M_closed) (maxL := 3) (ret := (some (.int))) (by decide) rfl ?_
  intro p e s m args below meth c s₁ B hml hv
  obtain ⟨rfl, hR, hK⟩ := hv
  have hC : CallFix p m c bb_M_closed 3 s _ lw_g sR_12 := ⟨B.exec, B.bytes, hml, findClass_of_methodNamed B.named, fun w hw => atoms_spec (ws := ss_w yy_M_closed bb_M_closed 3 (some (.int))) B.pre w (List.mem_cons_of_mem _ hw)⟩
  have hx := hC.1
  have hb := hC.2.1
  have hr := B.returns
  have hlocks := B.notSynchronized
  have hS : va_S (ss_A G) s.heap s.heap [] := va_S.rf
  have hl := lv_entry ([ss_v (ss_b G) this]) (n := 3) (by simp [lg_sl, ss_v_cat, ss_cat_i, ss_cat_l, ss_cat_r])
  rw [lg_entry_eq]
  generalize (lg_sl ([ss_v (ss_b G) this]) ++ List.replicate (3 - (lg_sl ([ss_v (ss_b G) this])).length) Slot.unset).toArray = ls at hl ⊢
  have hl : lv_has ls 3 [(0, ss_v (ss_b G) this)] := by simpa [lv_args, ss_v_cat, ss_cat_i, ss_cat_l, ss_cat_r] using hl
  refine lv_iconst (v := 0) hx hb dd_M_closed_0 (by decide) ?_
  refine lv_istore_n (lv' := [(1, .int (0 : Int32)), (0, ss_v (ss_b G) this)]) hx hb dd_M_closed_1 rfl hl (by decide) (by simp only [List.filter_cons, ss_v_cat]; rfl) (fun ls hl => ?_)
  refine lv_iconst (v := 0) hx hb dd_M_closed_2 (by decide) ?_
  refine lv_istore_n (lv' := [(2, .int (0 : Int32)), (1, .int (0 : Int32)), (0, ss_v (ss_b G) this)]) hx hb dd_M_closed_3 rfl hl (by decide) rfl (fun ls hl => ?_)
  obtain ⟨e_4, he_4, hm⟩ := ss_bind hm
  have X_4_38 : ∀ (y1_4_38 : Int32) (H : Heap) (locs : List Loc) (ls : Array Slot), e_4 = y1_4_38 → ss_R G h H → va_S (ss_A G) s.heap H locs → lv_has ls 3 [(1, .int y1_4_38)] → ww_M_closed p l e s m below meth c G this h rr  H locs 0 0 (F0 m 38 ls []) := by
    intro y1_4_38 H locs ls hq hR hS hl
    rw [hq] at hm
    refine lv_iload_n hx hb dd_M_closed_38 rfl (lv_at hl 0 rfl) ?_
    exact ss_iret hC hr hlocks hR hS (ss_with _ hm) dd_M_closed_39
  have L_4 : ∀ (n : Nat) (x1_4 : Int32) (x2_4 : Int32) (H : Heap) (locs : List Loc) (ls : Array Slot), ss_lp (mm_M_closed_b4 N this h) n (x1_4, x2_4) = some e_4 → ss_R G h H → va_S (ss_A G) s.heap H locs → lv_has ls 3 [(0, ss_v (ss_b G) this), (1, .int x1_4), (2, .int x2_4)] → ww_M_closed p l e s m below meth c G this h rr  H locs 0 0 (F0 m 4 ls []) := by
    intro n
    induction n with
    | zero => intro x1_4 x2_4 H locs ls hm; cases hm
    | succ n ih_4 =>
      intro x1_4 x2_4 H locs ls hm hR hS hl
      obtain ⟨z_4, hm, hz1_4, hz2_4⟩ := ss_lps hm
      have J_30 : ∀ (x2_30 : Int32) (s0_30 : Int32) (s1_30 : Int32) (H : Heap) (locs : List Loc) (ls : Array Slot), mm_M_closed_j30 N this h x2_30 s0_30 s1_30 = some z_4 → ss_R G h H → va_S (ss_A G) s.heap H locs → lv_has ls 3 [(0, ss_v (ss_b G) this), (2, .int x2_30)] → ww_M_closed p l e s m below meth c G this h rr  H locs 0 0 (F0 m 30 ls [.int s1_30, .int s0_30]) := by
        intro x2_30 s0_30 s1_30 H locs ls hm hR hS hl
        refine lv_ior hx hb dd_M_closed_30 ?_
        obtain ⟨v1, qv1, hm⟩ := ss_bind hm
        refine ss_topi qv1 ?_
        refine lv_istore_n (lv' := [(1, .int v1), (0, ss_v (ss_b G) this), (2, .int x2_30)]) hx hb dd_M_closed_31 rfl hl (by decide) (by simp only [List.filter_cons, ss_v_cat]; rfl) (fun ls hl => ?_)
        obtain ⟨v2, qv2, hm⟩ := ss_bind hm
        refine lv_iinc (v := v2) (lv' := [(2, .int v2), (1, .int v1), (0, ss_v (ss_b G) this)]) hx hb dd_M_closed_32 hl (k := 2) rfl (ss_inc (by decide) qv2) (by decide) rfl (fun ls hl => ?_)
        refine lv_goto (tgt := 4) hx hb dd_M_closed_35 (by decide) ?_
        exact ih_4 v1 v2  _ _ _ (hz1_4 _ (ss_some hm)) hR hS (lv_sub hl [2, 1, 0] rfl)
      refine lv_iload_n hx hb dd_M_closed_4 rfl (lv_at hl 2 rfl) ?_
      refine ss_aload_n hx hb dd_M_closed_5 rfl (lv_at hl 0 rfl) ?_
      obtain ⟨r3, qr3, hm⟩ := ss_bind hm
      refine ss_getr hC hK hR kf_M_39 rfl qr3 dd_M_closed_6 ?_
      refine lv_iconst (v := 2) hx hb dd_M_closed_9 (by decide) ?_
      obtain ⟨v4, qv4, hm⟩ := ss_bind hm
      refine ss_iald hC hK hR qv4 dd_M_closed_10 ?_
      refine lv_icmp_ge (tgt := 38) hx hb dd_M_closed_11 (by decide) (fun c5 => ?_) (fun c5 => ?_)
      · have hm := ss_ift hm c5
        exact X_4_38 x1_4  _ _ _ (hz2_4 _ (ss_some hm)) hR hS (lv_sub hl [1] rfl)
      · have hm := ss_iff hm c5
        refine lv_iload_n hx hb dd_M_closed_14 rfl (lv_at hl 1 rfl) ?_
        refine ss_aload_n hx hb dd_M_closed_15 rfl (lv_at hl 0 rfl) ?_
        refine lv_iload_n hx hb dd_M_closed_16 rfl (lv_at hl 2 rfl) ?_
        obtain ⟨v6, qv6, hm⟩ := ss_bind hm
        refine ss_cV 0 0 (As := [.int x2_4]) hC hK hR hS hl.1 (cc_M_isClosed l G N _ _ _ _ qv6) km_M_307 (ck_M_isClosed qv6) ⟨Nat.le_of_ble_eq_true rfl, Nat.le_of_ble_eq_true rfl⟩ ⟨Nat.le_of_ble_eq_true rfl, Nat.le_of_ble_eq_true rfl, Nat.le_of_ble_eq_true rfl, Nat.le_of_ble_eq_true rfl⟩ rfl rfl (Nat.le_of_ble_eq_true rfl) dd_M_closed_17 (fun H locs hR hS => ?_)
        refine lv_if_eq (tgt := 29) hx hb dd_M_closed_20 (by decide) (fun c7 => ?_) (fun c7 => ?_)
        · have hm := ss_ift hm c7
          refine lv_iconst (v := 0) hx hb dd_M_closed_29 (by decide) ?_
          exact J_30 x2_4 x1_4 (0 : Int32)  _ _ _ hm hR hS (lv_sub hl [0, 2] rfl)
        · have hm := ss_iff hm c7
          refine lv_iconst (v := 1) hx hb dd_M_closed_23 (by decide) ?_
          refine lv_iload_n hx hb dd_M_closed_24 rfl (lv_at hl 2 rfl) ?_
          refine lv_ishl hx hb dd_M_closed_25 ?_
          refine lv_goto (tgt := 30) hx hb dd_M_closed_26 (by decide) ?_
          exact J_30 x2_4 x1_4 ((1 : Int32) <<< (x2_4 &&& 31))  _ _ _ hm hR hS (lv_sub hl [0, 2] rfl)
  exact L_4 N (0 : Int32) (0 : Int32) _ _ _ he_4 hR hS (lv_sub hl [2, 1, 0] rfl)
theorem dd_M_bits_0 : decode bb_M_bits 0 = .ok (.iconst 0, 1) := by decide +kernel
theorem dd_M_bits_1 : decode bb_M_bits 1 = .ok (.istore_n 1, 1) := by decide +kernel
theorem dd_M_bits_2 : decode bb_M_bits 2 = .ok (.iload_n 0, 1) := by decide +kernel
theorem dd_M_bits_3 : decode bb_M_bits 3 = .ok (.istore_n 2, 1) := by decide +kernel
theorem dd_M_bits_4 : decode bb_M_bits 4 = .ok (.iload_n 2, 1) := by decide +kernel
theorem dd_M_bits_5 : decode bb_M_bits 5 = .ok (.ifCond .eq 15, 3) := by decide +kernel
theorem dd_M_bits_8 : decode bb_M_bits 8 = .ok (.iinc 1 1, 3) := by decide +kernel
theorem dd_M_bits_11 : decode bb_M_bits 11 = .ok (.iload_n 2, 1) := by decide +kernel
theorem dd_M_bits_12 : decode bb_M_bits 12 = .ok (.iload_n 2, 1) := by decide +kernel
theorem dd_M_bits_13 : decode bb_M_bits 13 = .ok (.iconst 1, 1) := by decide +kernel
theorem dd_M_bits_14 : decode bb_M_bits 14 = .ok (.isub, 1) := by decide +kernel
theorem dd_M_bits_15 : decode bb_M_bits 15 = .ok (.iand, 1) := by decide +kernel
theorem dd_M_bits_16 : decode bb_M_bits 16 = .ok (.istore_n 2, 1) := by decide +kernel
theorem dd_M_bits_17 : decode bb_M_bits 17 = .ok (.goto (-13), 3) := by decide +kernel
theorem dd_M_bits_20 : decode bb_M_bits 20 = .ok (.iload_n 1, 1) := by decide +kernel
theorem dd_M_bits_21 : decode bb_M_bits 21 = .ok (.ireturn, 1) := by decide +kernel
def mm_M_bits_b4 (N : Nat) (st : Int32 × Int32) : Option ((Int32 × Int32) ⊕ Int32) :=
  match st with
  | (x1_4, x2_4) =>
    if x2_4 = 0 then
      some (.inr x1_4)
    else
      (some (x1_4 + (1 : Int32))).bind fun v2 =>
      (some (x2_4 &&& (x2_4 - (1 : Int32)))).bind fun v3 =>
      some (.inl (v2, v3))
def mm_M_bits (N : Nat) (a1 : Int32) : Option Int32 :=
  (ss_lp (mm_M_bits_b4 N) N ((0 : Int32), a1)).bind fun y1_4_20 =>
  some y1_4_20
abbrev ww_M_bits (p : Program) (l : Launch) (e : Env) (s : State) (m : MethodId) (below : List Frame) (meth : Method) (c : Code) (G : ss_G) (a1 : Int32) (h : ss_Hp) (rr : Int32) (H : Heap) (locs : List Loc) (k n : Nat) (g : JFrame) : Prop := W p l e (headSpec (ss_w yy_M_bits bb_M_bits 3 (some (.int))) ({ frames := 0, cells := 0, slots := 0, locals := 0 })).room s m ([.int a1] : List Value).toArray below meth c H locs k n (MQ below (ss_Qc G (some (.int rr)) h) ([.int a1] : List Value).toArray s 0 0 (ss_A G)) g
set_option maxHeartbeats 4000000 in
set_option maxRecDepth 100000 in
theorem cc_M_bits (l : Launch) (G : ss_G) (N : Nat) (a1 : Int32) (h : ss_Hp) (rr : Int32) (hm : mm_M_bits N a1 = some rr) : ss_Ct l G yy_M_bits bb_M_bits 3 (some (.int)) ({ frames := 0, cells := 0, slots := 0, locals := 0 }) [.int a1] h (some (.int rr)) h := by
  refine Met.ofW (cc := bb_M_bits) (maxL := 3) (ret := (some (.int))) (by decide) rfl ?_
  intro p e s m args below meth c s₁ B hml hv
  obtain ⟨rfl, hR, hK⟩ := hv
  have hC : CallFix p m c bb_M_bits 3 s _ lw_g sR_12 := ⟨B.exec, B.bytes, hml, findClass_of_methodNamed B.named, fun w hw => atoms_spec (ws := ss_w yy_M_bits bb_M_bits 3 (some (.int))) B.pre w (List.mem_cons_of_mem _ hw)⟩
  have hx := hC.1
  have hb := hC.2.1
  have hr := B.returns
  have hlocks := B.notSynchronized
  have hS : va_S (ss_A G) s.heap s.heap [] := va_S.rf
  have hl := lv_entry ([.int a1]) (n := 3) (Nat.le_of_ble_eq_true rfl)
  rw [lg_entry_eq]
  generalize (lg_sl ([.int a1]) ++ List.replicate (3 - (lg_sl ([.int a1])).length) Slot.unset).toArray = ls at hl ⊢
  have hl : lv_has ls 3 [(0, .int a1)] := hl
  refine lv_iconst (v := 0) hx hb dd_M_bits_0 (by decide) ?_
  refine lv_istore_n (lv' := [(1, .int (0 : Int32)), (0, .int a1)]) hx hb dd_M_bits_1 rfl hl (by decide) rfl (fun ls hl => ?_)
  refine lv_iload_n hx hb dd_M_bits_2 rfl (lv_at hl 1 rfl) ?_
  refine lv_istore_n (lv' := [(2, .int a1), (1, .int (0 : Int32)), (0, .int a1)]) hx hb dd_M_bits_3 rfl hl (by decide) rfl (fun ls hl => ?_)
  obtain ⟨e_4, he_4, hm⟩ := ss_bind hm
  have X_4_20 : ∀ (y1_4_20 : Int32) (H : Heap) (locs : List Loc) (ls : Array Slot), e_4 = y1_4_20 → ss_R G h H → va_S (ss_A G) s.heap H locs → lv_has ls 3 [(1, .int y1_4_20)] → ww_M_bits p l e s m below meth c G a1 h rr  H locs 0 0 (F0 m 20 ls []) := by
    intro y1_4_20 H locs ls hq hR hS hl
    rw [hq] at hm
    refine lv_iload_n hx hb dd_M_bits_20 rfl (lv_at hl 0 rfl) ?_
    exact ss_iret hC hr hlocks hR hS (ss_with _ hm) dd_M_bits_21
  have L_4 : ∀ (n : Nat) (x1_4 : Int32) (x2_4 : Int32) (H : Heap) (locs : List Loc) (ls : Array Slot), ss_lp (mm_M_bits_b4 N) n (x1_4, x2_4) = some e_4 → ss_R G h H → va_S (ss_A G) s.heap H locs → lv_has ls 3 [(1, .int x1_4), (2, .int x2_4)] → ww_M_bits p l e s m below meth c G a1 h rr  H locs 0 0 (F0 m 4 ls []) := by
    intro n
    induction n with
    | zero => intro x1_4 x2_4 H locs ls hm; cases hm
    | succ n ih_4 =>
      intro x1_4 x2_4 H locs ls hm hR hS hl
      obtain ⟨z_4, hm, hz1_4, hz2_4⟩ := ss_lps hm
      refine lv_iload_n hx hb dd_M_bits_4 rfl (lv_at hl 1 rfl) ?_
      refine lv_if_eq (tgt := 20) hx hb dd_M_bits_5 (by decide) (fun c1 => ?_) (fun c1 => ?_)
      · have hm := ss_ift hm c1
        exact X_4_20 x1_4  _ _ _ (hz2_4 _ (ss_some hm)) hR hS (lv_sub hl [0] rfl)
      · have hm := ss_iff hm c1
        obtain ⟨v2, qv2, hm⟩ := ss_bind hm
        refine lv_iinc (v := v2) (lv' := [(1, .int v2), (2, .int x2_4)]) hx hb dd_M_bits_8 hl (k := 0) rfl (ss_inc (by decide) qv2) (by decide) rfl (fun ls hl => ?_)
        refine lv_iload_n hx hb dd_M_bits_11 rfl (lv_at hl 1 rfl) ?_
        refine lv_iload_n hx hb dd_M_bits_12 rfl (lv_at hl 1 rfl) ?_
        refine lv_iconst (v := 1) hx hb dd_M_bits_13 (by decide) ?_
        refine lv_isub hx hb dd_M_bits_14 ?_
        refine lv_iand hx hb dd_M_bits_15 ?_
        obtain ⟨v3, qv3, hm⟩ := ss_bind hm
        refine ss_topi qv3 ?_
        refine lv_istore_n (lv' := [(2, .int v3), (1, .int v2)]) hx hb dd_M_bits_16 rfl hl (by decide) rfl (fun ls hl => ?_)
        refine lv_goto (tgt := 4) hx hb dd_M_bits_17 (by decide) ?_
        exact ih_4 v2 v3  _ _ _ (hz1_4 _ (ss_some hm)) hR hS (lv_sub hl [1, 0] rfl)
  exact L_4 N (0 : Int32) a1 _ _ _ he_4 hR hS (lv_sub hl [1, 0] rfl)
theorem dd_M_nextNeed_0 : decode bb_M_nextNeed 0 = .ok (.aload_n 0, 1) := by decide +kernel
theorem dd_M_nextNeed_1 : decode bb_M_nextNeed 1 = .ok (.getfield 39, 3) := by decide +kernel
theorem dd_M_nextNeed_4 : decode bb_M_nextNeed 4 = .ok (.bipush 10, 2) := by decide +kernel
theorem dd_M_nextNeed_6 : decode bb_M_nextNeed 6 = .ok (.iaload, 1) := by decide +kernel
theorem dd_M_nextNeed_7 : decode bb_M_nextNeed 7 = .ok (.istore_n 2, 1) := by decide +kernel
theorem dd_M_nextNeed_8 : decode bb_M_nextNeed 8 = .ok (.iload_n 2, 1) := by decide +kernel
theorem dd_M_nextNeed_9 : decode bb_M_nextNeed 9 = .ok (.bipush 30, 2) := by decide +kernel
theorem dd_M_nextNeed_11 : decode bb_M_nextNeed 11 = .ok (.if_icmp .gt 35, 3) := by decide +kernel
theorem dd_M_nextNeed_14 : decode bb_M_nextNeed 14 = .ok (.aload_n 0, 1) := by decide +kernel
theorem dd_M_nextNeed_15 : decode bb_M_nextNeed 15 = .ok (.getfield 39, 3) := by decide +kernel
theorem dd_M_nextNeed_18 : decode bb_M_nextNeed 18 = .ok (.bipush 62, 2) := by decide +kernel
theorem dd_M_nextNeed_20 : decode bb_M_nextNeed 20 = .ok (.iload_n 2, 1) := by decide +kernel
theorem dd_M_nextNeed_21 : decode bb_M_nextNeed 21 = .ok (.iadd, 1) := by decide +kernel
theorem dd_M_nextNeed_22 : decode bb_M_nextNeed 22 = .ok (.iaload, 1) := by decide +kernel
theorem dd_M_nextNeed_23 : decode bb_M_nextNeed 23 = .ok (.iload_n 1, 1) := by decide +kernel
theorem dd_M_nextNeed_24 : decode bb_M_nextNeed 24 = .ok (.invokestatic 316, 3) := by decide +kernel
theorem dd_M_nextNeed_27 : decode bb_M_nextNeed 27 = .ok (.ifCond .eq 13, 3) := by decide +kernel
theorem dd_M_nextNeed_30 : decode bb_M_nextNeed 30 = .ok (.iload_n 2, 1) := by decide +kernel
theorem dd_M_nextNeed_31 : decode bb_M_nextNeed 31 = .ok (.aload_n 0, 1) := by decide +kernel
theorem dd_M_nextNeed_32 : decode bb_M_nextNeed 32 = .ok (.getfield 39, 3) := by decide +kernel
theorem dd_M_nextNeed_35 : decode bb_M_nextNeed 35 = .ok (.bipush 10, 2) := by decide +kernel
theorem dd_M_nextNeed_37 : decode bb_M_nextNeed 37 = .ok (.iaload, 1) := by decide +kernel
theorem dd_M_nextNeed_38 : decode bb_M_nextNeed 38 = .ok (.isub, 1) := by decide +kernel
theorem dd_M_nextNeed_39 : decode bb_M_nextNeed 39 = .ok (.ireturn, 1) := by decide +kernel
theorem dd_M_nextNeed_40 : decode bb_M_nextNeed 40 = .ok (.iinc 2 1, 3) := by decide +kernel
theorem dd_M_nextNeed_43 : decode bb_M_nextNeed 43 = .ok (.goto (-35), 3) := by decide +kernel
theorem dd_M_nextNeed_46 : decode bb_M_nextNeed 46 = .ok (.bipush 99, 2) := by decide +kernel
theorem dd_M_nextNeed_48 : decode bb_M_nextNeed 48 = .ok (.ireturn, 1) := by decide +kernel
def mm_M_nextNeed_b8 (N : Nat) (this : Option Nat) (a1 : Int32) (h : ss_Hp) (st : Int32) : Option (Int32 ⊕ (Unit ⊕ Int32)) :=
  match st with
  | x2_8 =>
    if (30 : Int32) < x2_8 then
      some (.inr (.inl ()))
    else
      (ss_gr h this 12 9).bind fun r6 =>
      (ss_ai h r6 20 ((62 : Int32) + x2_8)).bind fun v7 =>
      (mm_M_isOf N v7 a1).bind fun v8 =>
      if v8 = 0 then
        (some (x2_8 + (1 : Int32))).bind fun v10 =>
        some (.inl v10)
      else
        some (.inr (.inr x2_8))
def mm_M_nextNeed (N : Nat) (this : Option Nat) (a1 : Int32) (h : ss_Hp) : Option Int32 :=
  if ss_is h this 12 = true then
    (ss_gr h this 12 9).bind fun r1 =>
    (ss_ai h r1 20 (10 : Int32)).bind fun v2 =>
    (ss_lp (mm_M_nextNeed_b8 N this a1 h) N v2).bind fun e_8 =>
    match e_8 with
    | (.inl ()) =>
      some (99 : Int32)
    | (.inr y2_8_30) =>
      (ss_gr h this 12 9).bind fun r3 =>
      (ss_ai h r3 20 (10 : Int32)).bind fun v4 =>
      some (y2_8_30 - v4)
  else none
abbrev ww_M_nextNeed (p : Program) (l : Launch) (e : Env) (s : State) (m : MethodId) (below : List Frame) (meth : Method) (c : Code) (G : ss_G) (this : Option Nat) (a1 : Int32) (h : ss_Hp) (rr : Int32) (H : Heap) (locs : List Loc) (k n : Nat) (g : JFrame) : Prop := W p l e (headSpec (ss_w yy_M_nextNeed bb_M_nextNeed 3 (some (.int))) ({ frames := 1, cells := 0, slots := 0, locals := 21 })).room s m ([ss_v (ss_b G) this, .int a1] : List Value).toArray below meth c H locs k n (MQ below (ss_Qc G (some (.int rr)) h) ([ss_v (ss_b G) this, .int a1] : List Value).toArray s 0 0 (ss_A G)) g
theorem ck_M_nextNeed {N : Nat} {this : Option Nat} {a1 : Int32} {h : ss_Hp} {res : Int32} (hm : mm_M_nextNeed N this a1 h = some res) : ss_is h this 12 = true := (ss_chk hm).1
set_option maxHeartbeats 4000000 in
set_option maxRecDepth 100000 in
theorem cc_M_nextNeed (l : Launch) (G : ss_G) (N : Nat) (this : Option Nat) (a1 : Int32) (h : ss_Hp) (rr : Int32) (hm : mm_M_nextNeed N this a1 h = some rr) : ss_Ct l G yy_M_nextNeed bb_M_nextNeed 3 (some (.int)) ({ frames := 1, cells := 0, slots := 0, locals := 21 }) [ss_v (ss_b G) this, .int a1] h (some (.int rr)) h := by
  obtain ⟨hck, hm⟩ := ss_chk hm
  refine Met.ofW (cc := bb_M_nextNeed) (maxL := 3) (ret := (some (.int))) (by decide) rfl ?_
  intro p e s m args below meth c s₁ B hml hv
  obtain ⟨rfl, hR, hK⟩ := hv
  have hC : CallFix p m c bb_M_nextNeed 3 s _ lw_g sR_12 := ⟨B.exec, B.bytes, hml, findClass_of_methodNamed B.named, fun w hw => atoms_spec (ws := ss_w yy_M_nextNeed bb_M_nextNeed 3 (some (.int))) B.pre w (List.mem_cons_of_mem _ hw)⟩
  have hx := hC.1
  have hb := hC.2.1
  have hr := B.returns
  have hlocks := B.notSynchronized
  have hS : va_S (ss_A G) s.heap s.heap [] := va_S.rf
  have hl := lv_entry ([ss_v (ss_b G) this, .int a1]) (n := 3) (by simp [lg_sl, ss_v_cat, ss_cat_i, ss_cat_l, ss_cat_r])
  rw [lg_entry_eq]
  generalize (lg_sl ([ss_v (ss_b G) this, .int a1]) ++ List.replicate (3 - (lg_sl ([ss_v (ss_b G) this, .int a1])).length) Slot.unset).toArray = ls at hl ⊢
  have hl : lv_has ls 3 [(0, ss_v (ss_b G) this), (1, .int a1)] := by simpa [lv_args, ss_v_cat, ss_cat_i, ss_cat_l, ss_cat_r] using hl
  refine ss_aload_n hx hb dd_M_nextNeed_0 rfl (lv_at hl 0 rfl) ?_
  obtain ⟨r1, qr1, hm⟩ := ss_bind hm
  refine ss_getr hC hK hR kf_M_39 rfl qr1 dd_M_nextNeed_1 ?_
  refine lv_bipush (v := 10) hx hb dd_M_nextNeed_4 (by decide) ?_
  obtain ⟨v2, qv2, hm⟩ := ss_bind hm
  refine ss_iald hC hK hR qv2 dd_M_nextNeed_6 ?_
  refine lv_istore_n (lv' := [(2, .int v2), (0, ss_v (ss_b G) this), (1, .int a1)]) hx hb dd_M_nextNeed_7 rfl hl (by decide) rfl (fun ls hl => ?_)
  obtain ⟨e_8, he_8, hm⟩ := ss_bind hm
  have X_8_46 : ∀  (H : Heap) (locs : List Loc) (ls : Array Slot), e_8 = (.inl ()) → ss_R G h H → va_S (ss_A G) s.heap H locs → lv_has ls 3 [] → ww_M_nextNeed p l e s m below meth c G this a1 h rr  H locs 0 0 (F0 m 46 ls []) := by
    intro  H locs ls hq hR hS hl
    rw [hq] at hm
    refine lv_bipush (v := 99) hx hb dd_M_nextNeed_46 (by decide) ?_
    exact ss_iret hC hr hlocks hR hS (ss_with _ hm) dd_M_nextNeed_48
  have X_8_30 : ∀ (y2_8_30 : Int32) (H : Heap) (locs : List Loc) (ls : Array Slot), e_8 = (.inr y2_8_30) → ss_R G h H → va_S (ss_A G) s.heap H locs → lv_has ls 3 [(0, ss_v (ss_b G) this), (2, .int y2_8_30)] → ww_M_nextNeed p l e s m below meth c G this a1 h rr  H locs 0 0 (F0 m 30 ls []) := by
    intro y2_8_30 H locs ls hq hR hS hl
    rw [hq] at hm
    refine lv_iload_n hx hb dd_M_nextNeed_30 rfl (lv_at hl 1 rfl) ?_
    refine ss_aload_n hx hb dd_M_nextNeed_31 rfl (lv_at hl 0 rfl) ?_
    obtain ⟨r3, qr3, hm⟩ := ss_bind hm
    refine ss_getr hC hK hR kf_M_39 rfl qr3 dd_M_nextNeed_32 ?_
    refine lv_bipush (v := 10) hx hb dd_M_nextNeed_35 (by decide) ?_
    obtain ⟨v4, qv4, hm⟩ := ss_bind hm
    refine ss_iald hC hK hR qv4 dd_M_nextNeed_37 ?_
    refine lv_isub hx hb dd_M_nextNeed_38 ?_
    exact ss_iret hC hr hlocks hR hS (ss_with _ hm) dd_M_nextNeed_39
  have L_8 : ∀ (n : Nat) (x2_8 : Int32) (H : Heap) (locs : List Loc) (ls : Array Slot), ss_lp (mm_M_nextNeed_b8 N this a1 h) n x2_8 = some e_8 → ss_R G h H → va_S (ss_A G) s.heap H locs → lv_has ls 3 [(0, ss_v (ss_b G) this), (1, .int a1), (2, .int x2_8)] → ww_M_nextNeed p l e s m below meth c G this a1 h rr  H locs 0 0 (F0 m 8 ls []) := by
    intro n
    induction n with
    | zero => intro x2_8 H locs ls hm; cases hm
    | succ n ih_8 =>
      intro x2_8 H locs ls hm hR hS hl
      obtain ⟨z_8, hm, hz1_8, hz2_8⟩ := ss_lps hm
      refine lv_iload_n hx hb dd_M_nextNeed_8 rfl (lv_at hl 2 rfl) ?_
      refine lv_bipush (v := 30) hx hb dd_M_nextNeed_9 (by decide) ?_
      refine lv_icmp_gt (tgt := 46) hx hb dd_M_nextNeed_11 (by decide) (fun c5 => ?_) (fun c5 => ?_)
      · have hm := ss_ift hm c5
        exact X_8_46  _ _ _ (hz2_8 _ (ss_some hm)) hR hS (lv_sub hl [] rfl)
      · have hm := ss_iff hm c5
        refine ss_aload_n hx hb dd_M_nextNeed_14 rfl (lv_at hl 0 rfl) ?_
        obtain ⟨r6, qr6, hm⟩ := ss_bind hm
        refine ss_getr hC hK hR kf_M_39 rfl qr6 dd_M_nextNeed_15 ?_
        refine lv_bipush (v := 62) hx hb dd_M_nextNeed_18 (by decide) ?_
        refine lv_iload_n hx hb dd_M_nextNeed_20 rfl (lv_at hl 2 rfl) ?_
        refine lv_iadd hx hb dd_M_nextNeed_21 ?_
        obtain ⟨v7, qv7, hm⟩ := ss_bind hm
        refine ss_iald hC hK hR qv7 dd_M_nextNeed_22 ?_
        refine lv_iload_n hx hb dd_M_nextNeed_23 rfl (lv_at hl 1 rfl) ?_
        obtain ⟨v8, qv8, hm⟩ := ss_bind hm
        refine ss_cS 0 0 (As := [.int v7, .int a1]) hC hK hR hS hl.1 (cc_M_isOf l G N _ _ _ _ qv8) km_M_316 ⟨Nat.le_of_ble_eq_true rfl, Nat.le_of_ble_eq_true rfl⟩ ⟨Nat.le_of_ble_eq_true rfl, Nat.le_of_ble_eq_true rfl, Nat.le_of_ble_eq_true rfl, Nat.le_of_ble_eq_true rfl⟩ rfl rfl (Nat.le_of_ble_eq_true rfl) dd_M_nextNeed_24 (fun H locs hR hS => ?_)
        refine lv_if_eq (tgt := 40) hx hb dd_M_nextNeed_27 (by decide) (fun c9 => ?_) (fun c9 => ?_)
        · have hm := ss_ift hm c9
          obtain ⟨v10, qv10, hm⟩ := ss_bind hm
          refine lv_iinc (v := v10) (lv' := [(2, .int v10), (0, ss_v (ss_b G) this), (1, .int a1)]) hx hb dd_M_nextNeed_40 hl (k := 2) rfl (ss_inc (by decide) qv10) (by decide) rfl (fun ls hl => ?_)
          refine lv_goto (tgt := 8) hx hb dd_M_nextNeed_43 (by decide) ?_
          exact ih_8 v10  _ _ _ (hz1_8 _ (ss_some hm)) hR hS (lv_sub hl [1, 2, 0] rfl)
        · have hm := ss_iff hm c9
          exact X_8_30 x2_8  _ _ _ (hz2_8 _ (ss_some hm)) hR hS (lv_sub hl [0, 2] rfl)
  exact L_8 N v2 _ _ _ he_8 hR hS (lv_sub hl [1, 2, 0] rfl)
theorem dd_M_words_0 : decode bb_M_words 0 = .ok (.aload_n 0, 1) := by decide +kernel
theorem dd_M_words_1 : decode bb_M_words 1 = .ok (.getfield 36, 3) := by decide +kernel
theorem dd_M_words_4 : decode bb_M_words 4 = .ok (.iconst 0, 1) := by decide +kernel
theorem dd_M_words_5 : decode bb_M_words 5 = .ok (.iload_n 1, 1) := by decide +kernel
theorem dd_M_words_6 : decode bb_M_words 6 = .ok (.i2l, 1) := by decide +kernel
theorem dd_M_words_7 : decode bb_M_words 7 = .ok (.lastore, 1) := by decide +kernel
theorem dd_M_words_8 : decode bb_M_words 8 = .ok (.aload_n 0, 1) := by decide +kernel
theorem dd_M_words_9 : decode bb_M_words 9 = .ok (.getfield 36, 3) := by decide +kernel
theorem dd_M_words_12 : decode bb_M_words 12 = .ok (.iconst 1, 1) := by decide +kernel
theorem dd_M_words_13 : decode bb_M_words 13 = .ok (.iload_n 2, 1) := by decide +kernel
theorem dd_M_words_14 : decode bb_M_words 14 = .ok (.i2l, 1) := by decide +kernel
theorem dd_M_words_15 : decode bb_M_words 15 = .ok (.lastore, 1) := by decide +kernel
theorem dd_M_words_16 : decode bb_M_words 16 = .ok (.aload_n 0, 1) := by decide +kernel
theorem dd_M_words_17 : decode bb_M_words 17 = .ok (.getfield 36, 3) := by decide +kernel
theorem dd_M_words_20 : decode bb_M_words 20 = .ok (.iconst 2, 1) := by decide +kernel
theorem dd_M_words_21 : decode bb_M_words 21 = .ok (.aload_n 0, 1) := by decide +kernel
theorem dd_M_words_22 : decode bb_M_words 22 = .ok (.iload_n 1, 1) := by decide +kernel
theorem dd_M_words_23 : decode bb_M_words 23 = .ok (.invokevirtual 327, 3) := by decide +kernel
theorem dd_M_words_26 : decode bb_M_words 26 = .ok (.iload_n 2, 1) := by decide +kernel
theorem dd_M_words_27 : decode bb_M_words 27 = .ok (.if_icmp .ne 7, 3) := by decide +kernel
theorem dd_M_words_30 : decode bb_M_words 30 = .ok (.lconst 1, 1) := by decide +kernel
theorem dd_M_words_31 : decode bb_M_words 31 = .ok (.goto 4, 3) := by decide +kernel
theorem dd_M_words_34 : decode bb_M_words 34 = .ok (.lconst 0, 1) := by decide +kernel
theorem dd_M_words_35 : decode bb_M_words 35 = .ok (.lastore, 1) := by decide +kernel
theorem dd_M_words_36 : decode bb_M_words 36 = .ok (.aload_n 0, 1) := by decide +kernel
theorem dd_M_words_37 : decode bb_M_words 37 = .ok (.getfield 36, 3) := by decide +kernel
theorem dd_M_words_40 : decode bb_M_words 40 = .ok (.iconst 3, 1) := by decide +kernel
theorem dd_M_words_41 : decode bb_M_words 41 = .ok (.aload_n 0, 1) := by decide +kernel
theorem dd_M_words_42 : decode bb_M_words 42 = .ok (.getfield 39, 3) := by decide +kernel
theorem dd_M_words_45 : decode bb_M_words 45 = .ok (.bipush 14, 2) := by decide +kernel
theorem dd_M_words_47 : decode bb_M_words 47 = .ok (.iload_n 2, 1) := by decide +kernel
theorem dd_M_words_48 : decode bb_M_words 48 = .ok (.iadd, 1) := by decide +kernel
theorem dd_M_words_49 : decode bb_M_words 49 = .ok (.iaload, 1) := by decide +kernel
theorem dd_M_words_50 : decode bb_M_words 50 = .ok (.i2l, 1) := by decide +kernel
theorem dd_M_words_51 : decode bb_M_words 51 = .ok (.lastore, 1) := by decide +kernel
theorem dd_M_words_52 : decode bb_M_words 52 = .ok (.aload_n 0, 1) := by decide +kernel
theorem dd_M_words_53 : decode bb_M_words 53 = .ok (.getfield 36, 3) := by decide +kernel
theorem dd_M_words_56 : decode bb_M_words 56 = .ok (.iconst 4, 1) := by decide +kernel
theorem dd_M_words_57 : decode bb_M_words 57 = .ok (.aload_n 0, 1) := by decide +kernel
theorem dd_M_words_58 : decode bb_M_words 58 = .ok (.iload_n 1, 1) := by decide +kernel
theorem dd_M_words_59 : decode bb_M_words 59 = .ok (.invokevirtual 330, 3) := by decide +kernel
theorem dd_M_words_62 : decode bb_M_words 62 = .ok (.i2l, 1) := by decide +kernel
theorem dd_M_words_63 : decode bb_M_words 63 = .ok (.lastore, 1) := by decide +kernel
theorem dd_M_words_64 : decode bb_M_words 64 = .ok (.aload_n 0, 1) := by decide +kernel
theorem dd_M_words_65 : decode bb_M_words 65 = .ok (.getfield 36, 3) := by decide +kernel
theorem dd_M_words_68 : decode bb_M_words 68 = .ok (.iconst 5, 1) := by decide +kernel
theorem dd_M_words_69 : decode bb_M_words 69 = .ok (.aload_n 0, 1) := by decide +kernel
theorem dd_M_words_70 : decode bb_M_words 70 = .ok (.getfield 39, 3) := by decide +kernel
theorem dd_M_words_73 : decode bb_M_words 73 = .ok (.bipush 11, 2) := by decide +kernel
theorem dd_M_words_75 : decode bb_M_words 75 = .ok (.iaload, 1) := by decide +kernel
theorem dd_M_words_76 : decode bb_M_words 76 = .ok (.iload_n 2, 1) := by decide +kernel
theorem dd_M_words_77 : decode bb_M_words 77 = .ok (.invokestatic 316, 3) := by decide +kernel
theorem dd_M_words_80 : decode bb_M_words 80 = .ok (.ifCond .eq 7, 3) := by decide +kernel
theorem dd_M_words_83 : decode bb_M_words 83 = .ok (.lconst 1, 1) := by decide +kernel
theorem dd_M_words_84 : decode bb_M_words 84 = .ok (.goto 4, 3) := by decide +kernel
theorem dd_M_words_87 : decode bb_M_words 87 = .ok (.lconst 0, 1) := by decide +kernel
theorem dd_M_words_88 : decode bb_M_words 88 = .ok (.lastore, 1) := by decide +kernel
theorem dd_M_words_89 : decode bb_M_words 89 = .ok (.aload_n 0, 1) := by decide +kernel
theorem dd_M_words_90 : decode bb_M_words 90 = .ok (.getfield 36, 3) := by decide +kernel
theorem dd_M_words_93 : decode bb_M_words 93 = .ok (.bipush 6, 2) := by decide +kernel
theorem dd_M_words_95 : decode bb_M_words 95 = .ok (.aload_n 0, 1) := by decide +kernel
theorem dd_M_words_96 : decode bb_M_words 96 = .ok (.getfield 39, 3) := by decide +kernel
theorem dd_M_words_99 : decode bb_M_words 99 = .ok (.bipush 12, 2) := by decide +kernel
theorem dd_M_words_101 : decode bb_M_words 101 = .ok (.iaload, 1) := by decide +kernel
theorem dd_M_words_102 : decode bb_M_words 102 = .ok (.iload_n 2, 1) := by decide +kernel
theorem dd_M_words_103 : decode bb_M_words 103 = .ok (.invokestatic 316, 3) := by decide +kernel
theorem dd_M_words_106 : decode bb_M_words 106 = .ok (.ifCond .eq 7, 3) := by decide +kernel
theorem dd_M_words_109 : decode bb_M_words 109 = .ok (.lconst 1, 1) := by decide +kernel
theorem dd_M_words_110 : decode bb_M_words 110 = .ok (.goto 4, 3) := by decide +kernel
theorem dd_M_words_113 : decode bb_M_words 113 = .ok (.lconst 0, 1) := by decide +kernel
theorem dd_M_words_114 : decode bb_M_words 114 = .ok (.lastore, 1) := by decide +kernel
theorem dd_M_words_115 : decode bb_M_words 115 = .ok (.aload_n 0, 1) := by decide +kernel
theorem dd_M_words_116 : decode bb_M_words 116 = .ok (.getfield 36, 3) := by decide +kernel
theorem dd_M_words_119 : decode bb_M_words 119 = .ok (.bipush 7, 2) := by decide +kernel
theorem dd_M_words_121 : decode bb_M_words 121 = .ok (.aload_n 0, 1) := by decide +kernel
theorem dd_M_words_122 : decode bb_M_words 122 = .ok (.invokevirtual 340, 3) := by decide +kernel
theorem dd_M_words_125 : decode bb_M_words 125 = .ok (.invokestatic 343, 3) := by decide +kernel
theorem dd_M_words_128 : decode bb_M_words 128 = .ok (.i2l, 1) := by decide +kernel
theorem dd_M_words_129 : decode bb_M_words 129 = .ok (.lastore, 1) := by decide +kernel
theorem dd_M_words_130 : decode bb_M_words 130 = .ok (.aload_n 0, 1) := by decide +kernel
theorem dd_M_words_131 : decode bb_M_words 131 = .ok (.getfield 36, 3) := by decide +kernel
theorem dd_M_words_134 : decode bb_M_words 134 = .ok (.bipush 8, 2) := by decide +kernel
theorem dd_M_words_136 : decode bb_M_words 136 = .ok (.aload_n 0, 1) := by decide +kernel
theorem dd_M_words_137 : decode bb_M_words 137 = .ok (.aload_n 0, 1) := by decide +kernel
theorem dd_M_words_138 : decode bb_M_words 138 = .ok (.getfield 39, 3) := by decide +kernel
theorem dd_M_words_141 : decode bb_M_words 141 = .ok (.bipush 10, 2) := by decide +kernel
theorem dd_M_words_143 : decode bb_M_words 143 = .ok (.iaload, 1) := by decide +kernel
theorem dd_M_words_144 : decode bb_M_words 144 = .ok (.invokevirtual 319, 3) := by decide +kernel
theorem dd_M_words_147 : decode bb_M_words 147 = .ok (.iload_n 2, 1) := by decide +kernel
theorem dd_M_words_148 : decode bb_M_words 148 = .ok (.invokestatic 316, 3) := by decide +kernel
theorem dd_M_words_151 : decode bb_M_words 151 = .ok (.ifCond .eq 7, 3) := by decide +kernel
theorem dd_M_words_154 : decode bb_M_words 154 = .ok (.lconst 1, 1) := by decide +kernel
theorem dd_M_words_155 : decode bb_M_words 155 = .ok (.goto 4, 3) := by decide +kernel
theorem dd_M_words_158 : decode bb_M_words 158 = .ok (.lconst 0, 1) := by decide +kernel
theorem dd_M_words_159 : decode bb_M_words 159 = .ok (.lastore, 1) := by decide +kernel
theorem dd_M_words_160 : decode bb_M_words 160 = .ok (.aload_n 0, 1) := by decide +kernel
theorem dd_M_words_161 : decode bb_M_words 161 = .ok (.getfield 36, 3) := by decide +kernel
theorem dd_M_words_164 : decode bb_M_words 164 = .ok (.bipush 9, 2) := by decide +kernel
theorem dd_M_words_166 : decode bb_M_words 166 = .ok (.aload_n 0, 1) := by decide +kernel
theorem dd_M_words_167 : decode bb_M_words 167 = .ok (.iload_n 2, 1) := by decide +kernel
theorem dd_M_words_168 : decode bb_M_words 168 = .ok (.invokevirtual 346, 3) := by decide +kernel
theorem dd_M_words_171 : decode bb_M_words 171 = .ok (.i2l, 1) := by decide +kernel
theorem dd_M_words_172 : decode bb_M_words 172 = .ok (.lastore, 1) := by decide +kernel
theorem dd_M_words_173 : decode bb_M_words 173 = .ok (.aload_n 0, 1) := by decide +kernel
theorem dd_M_words_174 : decode bb_M_words 174 = .ok (.getfield 36, 3) := by decide +kernel
theorem dd_M_words_177 : decode bb_M_words 177 = .ok (.bipush 10, 2) := by decide +kernel
theorem dd_M_words_179 : decode bb_M_words 179 = .ok (.aload_n 0, 1) := by decide +kernel
theorem dd_M_words_180 : decode bb_M_words 180 = .ok (.getfield 39, 3) := by decide +kernel
theorem dd_M_words_183 : decode bb_M_words 183 = .ok (.bipush 30, 2) := by decide +kernel
theorem dd_M_words_185 : decode bb_M_words 185 = .ok (.iload_n 2, 1) := by decide +kernel
theorem dd_M_words_186 : decode bb_M_words 186 = .ok (.iadd, 1) := by decide +kernel
theorem dd_M_words_187 : decode bb_M_words 187 = .ok (.iaload, 1) := by decide +kernel
theorem dd_M_words_188 : decode bb_M_words 188 = .ok (.aload_n 0, 1) := by decide +kernel
theorem dd_M_words_189 : decode bb_M_words 189 = .ok (.invokevirtual 340, 3) := by decide +kernel
theorem dd_M_words_192 : decode bb_M_words 192 = .ok (.iand, 1) := by decide +kernel
theorem dd_M_words_193 : decode bb_M_words 193 = .ok (.invokestatic 343, 3) := by decide +kernel
theorem dd_M_words_196 : decode bb_M_words 196 = .ok (.i2l, 1) := by decide +kernel
theorem dd_M_words_197 : decode bb_M_words 197 = .ok (.lastore, 1) := by decide +kernel
theorem dd_M_words_198 : decode bb_M_words 198 = .ok (.aload_n 0, 1) := by decide +kernel
theorem dd_M_words_199 : decode bb_M_words 199 = .ok (.getfield 36, 3) := by decide +kernel
theorem dd_M_words_202 : decode bb_M_words 202 = .ok (.bipush 11, 2) := by decide +kernel
theorem dd_M_words_204 : decode bb_M_words 204 = .ok (.aload_n 0, 1) := by decide +kernel
theorem dd_M_words_205 : decode bb_M_words 205 = .ok (.getfield 39, 3) := by decide +kernel
theorem dd_M_words_208 : decode bb_M_words 208 = .ok (.bipush 10, 2) := by decide +kernel
theorem dd_M_words_210 : decode bb_M_words 210 = .ok (.iaload, 1) := by decide +kernel
theorem dd_M_words_211 : decode bb_M_words 211 = .ok (.i2l, 1) := by decide +kernel
theorem dd_M_words_212 : decode bb_M_words 212 = .ok (.lastore, 1) := by decide +kernel
theorem dd_M_words_213 : decode bb_M_words 213 = .ok (.return_, 1) := by decide +kernel
def mm_M_words_j159 (N : Nat) (this : Option Nat) (a1 : Int32) (a2 : Int32) (s0_159 : Option Nat) (s1_159 : Int32) (s2_159 : Int64) (h_159 : ss_Hp) : Option ss_Hp :=
  (ss_ul h_159 s0_159 23 s1_159 s2_159).bind fun h1 =>
  (ss_gr h1 this 12 8).bind fun r2 =>
  (mm_M_nextNeed N this a2 h1).bind fun v3 =>
  (ss_ul h1 r2 23 (9 : Int32) ((v3).toInt64)).bind fun h4 =>
  (ss_gr h4 this 12 8).bind fun r5 =>
  (ss_gr h4 this 12 9).bind fun r6 =>
  (ss_ai h4 r6 20 ((30 : Int32) + a2)).bind fun v7 =>
  (mm_M_closed N this h4).bind fun v8 =>
  (mm_M_bits N (v7 &&& v8)).bind fun v9 =>
  (ss_ul h4 r5 23 (10 : Int32) ((v9).toInt64)).bind fun h10 =>
  (ss_gr h10 this 12 8).bind fun r11 =>
  (ss_gr h10 this 12 9).bind fun r12 =>
  (ss_ai h10 r12 20 (10 : Int32)).bind fun v13 =>
  (ss_ul h10 r11 23 (11 : Int32) ((v13).toInt64)).bind fun h14 =>
  some h14
def mm_M_words_j114 (N : Nat) (this : Option Nat) (a1 : Int32) (a2 : Int32) (s0_114 : Option Nat) (s1_114 : Int32) (s2_114 : Int64) (h_114 : ss_Hp) : Option ss_Hp :=
  (ss_ul h_114 s0_114 23 s1_114 s2_114).bind fun h15 =>
  (ss_gr h15 this 12 8).bind fun r16 =>
  (mm_M_closed N this h15).bind fun v17 =>
  (mm_M_bits N v17).bind fun v18 =>
  (ss_ul h15 r16 23 (7 : Int32) ((v18).toInt64)).bind fun h19 =>
  (ss_gr h19 this 12 8).bind fun r20 =>
  (ss_gr h19 this 12 9).bind fun r21 =>
  (ss_ai h19 r21 20 (10 : Int32)).bind fun v22 =>
  (mm_M_neededOn N this v22 h19).bind fun v23 =>
  (mm_M_isOf N v23 a2).bind fun v24 =>
  if v24 = 0 then
    mm_M_words_j159 N this a1 a2 r20 (8 : Int32) (0 : Int64) h19
  else
    mm_M_words_j159 N this a1 a2 r20 (8 : Int32) (1 : Int64) h19
def mm_M_words_j88 (N : Nat) (this : Option Nat) (a1 : Int32) (a2 : Int32) (s0_88 : Option Nat) (s1_88 : Int32) (s2_88 : Int64) (h_88 : ss_Hp) : Option ss_Hp :=
  (ss_ul h_88 s0_88 23 s1_88 s2_88).bind fun h26 =>
  (ss_gr h26 this 12 8).bind fun r27 =>
  (ss_gr h26 this 12 9).bind fun r28 =>
  (ss_ai h26 r28 20 (12 : Int32)).bind fun v29 =>
  (mm_M_isOf N v29 a2).bind fun v30 =>
  if v30 = 0 then
    mm_M_words_j114 N this a1 a2 r27 (6 : Int32) (0 : Int64) h26
  else
    mm_M_words_j114 N this a1 a2 r27 (6 : Int32) (1 : Int64) h26
def mm_M_words_j35 (N : Nat) (this : Option Nat) (a1 : Int32) (a2 : Int32) (s0_35 : Option Nat) (s1_35 : Int32) (s2_35 : Int64) (h_35 : ss_Hp) : Option ss_Hp :=
  (ss_ul h_35 s0_35 23 s1_35 s2_35).bind fun h32 =>
  (ss_gr h32 this 12 8).bind fun r33 =>
  (ss_gr h32 this 12 9).bind fun r34 =>
  (ss_ai h32 r34 20 ((14 : Int32) + a2)).bind fun v35 =>
  (ss_ul h32 r33 23 (3 : Int32) ((v35).toInt64)).bind fun h36 =>
  (ss_gr h36 this 12 8).bind fun r37 =>
  (mm_M_strengthOf N this a1 h36).bind fun v38 =>
  (ss_ul h36 r37 23 (4 : Int32) ((v38).toInt64)).bind fun h39 =>
  (ss_gr h39 this 12 8).bind fun r40 =>
  (ss_gr h39 this 12 9).bind fun r41 =>
  (ss_ai h39 r41 20 (11 : Int32)).bind fun v42 =>
  (mm_M_isOf N v42 a2).bind fun v43 =>
  if v43 = 0 then
    mm_M_words_j88 N this a1 a2 r40 (5 : Int32) (0 : Int64) h39
  else
    mm_M_words_j88 N this a1 a2 r40 (5 : Int32) (1 : Int64) h39
def mm_M_words (N : Nat) (this : Option Nat) (a1 : Int32) (a2 : Int32) (h : ss_Hp) : Option ss_Hp :=
  if ss_is h this 12 = true then
    (ss_gr h this 12 8).bind fun r45 =>
    (ss_ul h r45 23 (0 : Int32) ((a1).toInt64)).bind fun h46 =>
    (ss_gr h46 this 12 8).bind fun r47 =>
    (ss_ul h46 r47 23 (1 : Int32) ((a2).toInt64)).bind fun h48 =>
    (ss_gr h48 this 12 8).bind fun r49 =>
    (mm_M_ownOf N this a1 h48).bind fun v50 =>
    if v50 = a2 then
      mm_M_words_j35 N this a1 a2 r49 (2 : Int32) (1 : Int64) h48
    else
      mm_M_words_j35 N this a1 a2 r49 (2 : Int32) (0 : Int64) h48
  else none
abbrev ww_M_words (p : Program) (l : Launch) (e : Env) (s : State) (m : MethodId) (below : List Frame) (meth : Method) (c : Code) (G : ss_G) (this : Option Nat) (a1 : Int32) (a2 : Int32) (h : ss_Hp) (hh : ss_Hp) (H : Heap) (locs : List Loc) (k n : Nat) (g : JFrame) : Prop := W p l e (headSpec (ss_w yy_M_words bb_M_words 3 none) ({ frames := 2, cells := 0, slots := 0, locals := 43 })).room s m ([ss_v (ss_b G) this, .int a1, .int a2] : List Value).toArray below meth c H locs k n (MQ below (ss_Qc G none hh) ([ss_v (ss_b G) this, .int a1, .int a2] : List Value).toArray s 0 0 (ss_A G)) g
theorem ck_M_words {N : Nat} {this : Option Nat} {a1 : Int32} {a2 : Int32} {h : ss_Hp} {res : ss_Hp} (hm : mm_M_words N this a1 a2 h = some res) : ss_is h this 12 = true := (ss_chk hm).1
set_option maxHeartbeats 4000000 in
set_option maxRecDepth 100000 in
theorem cc_M_words (l : Launch) (G : ss_G) (N : Nat) (this : Option Nat) (a1 : Int32) (a2 : Int32) (h : ss_Hp) (hh : ss_Hp) (hm : mm_M_words N this a1 a2 h = some hh) : ss_Ct l G yy_M_words bb_M_words 3 none ({ frames := 2, cells := 0, slots := 0, locals := 43 }) [ss_v (ss_b G) this, .int a1, .int a2] h none hh := by
  obtain ⟨hck, hm⟩ := ss_chk hm
  refine Met.ofW (cc := bb_M_words) (maxL := 3) (ret := none) (by decide) rfl ?_
  intro p e s m args below meth c s₁ B hml hv
  obtain ⟨rfl, hR, hK⟩ := hv
  have hC : CallFix p m c bb_M_words 3 s _ lw_g sR_12 := ⟨B.exec, B.bytes, hml, findClass_of_methodNamed B.named, fun w hw => atoms_spec (ws := ss_w yy_M_words bb_M_words 3 none) B.pre w (List.mem_cons_of_mem _ hw)⟩
  have hx := hC.1
  have hb := hC.2.1
  have hr := B.returns
  have hlocks := B.notSynchronized
  have hS : va_S (ss_A G) s.heap s.heap [] := va_S.rf
  have hl := lv_entry ([ss_v (ss_b G) this, .int a1, .int a2]) (n := 3) (by simp [lg_sl, ss_v_cat, ss_cat_i, ss_cat_l, ss_cat_r])
  rw [lg_entry_eq]
  generalize (lg_sl ([ss_v (ss_b G) this, .int a1, .int a2]) ++ List.replicate (3 - (lg_sl ([ss_v (ss_b G) this, .int a1, .int a2])).length) Slot.unset).toArray = ls at hl ⊢
  have hl : lv_has ls 3 [(0, ss_v (ss_b G) this), (1, .int a1), (2, .int a2)] := by simpa [lv_args, ss_v_cat, ss_cat_i, ss_cat_l, ss_cat_r] using hl
  have J_159 : ∀ (s0_159 : Option Nat) (s1_159 : Int32) (s2_159 : Int64) (h_159 : ss_Hp) (H : Heap) (locs : List Loc) (ls : Array Slot), mm_M_words_j159 N this a1 a2 s0_159 s1_159 s2_159 h_159 = some hh → ss_R G h_159 H → va_S (ss_A G) s.heap H locs → lv_has ls 3 [(0, ss_v (ss_b G) this), (2, .int a2)] → ww_M_words p l e s m below meth c G this a1 a2 h hh  H locs 0 0 (F0 m 159 ls [.long s2_159, .int s1_159, ss_v (ss_b G) s0_159]) := by
    intro s0_159 s1_159 s2_159 h_159 H locs ls hm hR hS hl
    obtain ⟨h1, qh1, hm⟩ := ss_bind hm
    refine ss_last hC hK hR hS qh1 dd_M_words_159 (fun H locs hR hS => ?_)
    refine ss_aload_n hx hb dd_M_words_160 rfl (lv_at hl 0 rfl) ?_
    obtain ⟨r2, qr2, hm⟩ := ss_bind hm
    refine ss_getr hC hK hR kf_M_36 rfl qr2 dd_M_words_161 ?_
    refine lv_bipush (v := 9) hx hb dd_M_words_164 (by decide) ?_
    refine ss_aload_n hx hb dd_M_words_166 rfl (lv_at hl 0 rfl) ?_
    refine lv_iload_n hx hb dd_M_words_167 rfl (lv_at hl 1 rfl) ?_
    obtain ⟨v3, qv3, hm⟩ := ss_bind hm
    refine ss_cV 0 0 (As := [.int a2]) hC hK hR hS hl.1 (cc_M_nextNeed l G N _ _ _ _ qv3) km_M_346 (ck_M_nextNeed qv3) ⟨Nat.le_of_ble_eq_true rfl, Nat.le_of_ble_eq_true rfl⟩ ⟨Nat.le_of_ble_eq_true rfl, Nat.le_of_ble_eq_true rfl, Nat.le_of_ble_eq_true rfl, Nat.le_of_ble_eq_true rfl⟩ rfl rfl (by simp [ss_v_cat, ss_cat_i, ss_cat_l, ss_cat_r]) dd_M_words_168 (fun H locs hR hS => ?_)
    refine lv_i2l hx hb dd_M_words_171 rfl ?_
    obtain ⟨h4, qh4, hm⟩ := ss_bind hm
    refine ss_last hC hK hR hS qh4 dd_M_words_172 (fun H locs hR hS => ?_)
    refine ss_aload_n hx hb dd_M_words_173 rfl (lv_at hl 0 rfl) ?_
    obtain ⟨r5, qr5, hm⟩ := ss_bind hm
    refine ss_getr hC hK hR kf_M_36 rfl qr5 dd_M_words_174 ?_
    refine lv_bipush (v := 10) hx hb dd_M_words_177 (by decide) ?_
    refine ss_aload_n hx hb dd_M_words_179 rfl (lv_at hl 0 rfl) ?_
    obtain ⟨r6, qr6, hm⟩ := ss_bind hm
    refine ss_getr hC hK hR kf_M_39 rfl qr6 dd_M_words_180 ?_
    refine lv_bipush (v := 30) hx hb dd_M_words_183 (by decide) ?_
    refine lv_iload_n hx hb dd_M_words_185 rfl (lv_at hl 1 rfl) ?_
    refine lv_iadd hx hb dd_M_words_186 ?_
    obtain ⟨v7, qv7, hm⟩ := ss_bind hm
    refine ss_iald hC hK hR qv7 dd_M_words_187 ?_
    refine ss_aload_n hx hb dd_M_words_188 rfl (lv_at hl 0 rfl) ?_
    obtain ⟨v8, qv8, hm⟩ := ss_bind hm
    refine ss_cV 0 0 (As := []) hC hK hR hS hl.1 (cc_M_closed l G N _ _ _ qv8) km_M_340 (ck_M_closed qv8) ⟨Nat.le_of_ble_eq_true rfl, Nat.le_of_ble_eq_true rfl⟩ ⟨Nat.le_of_ble_eq_true rfl, Nat.le_of_ble_eq_true rfl, Nat.le_of_ble_eq_true rfl, Nat.le_of_ble_eq_true rfl⟩ rfl rfl (by simp [ss_v_cat, ss_cat_i, ss_cat_l, ss_cat_r]) dd_M_words_189 (fun H locs hR hS => ?_)
    refine lv_iand hx hb dd_M_words_192 ?_
    obtain ⟨v9, qv9, hm⟩ := ss_bind hm
    refine ss_cS 0 0 (As := [.int (v7 &&& v8)]) hC hK hR hS hl.1 (cc_M_bits l G N _ _ _ qv9) km_M_343 ⟨Nat.le_of_ble_eq_true rfl, Nat.le_of_ble_eq_true rfl⟩ ⟨Nat.le_of_ble_eq_true rfl, Nat.le_of_ble_eq_true rfl, Nat.le_of_ble_eq_true rfl, Nat.le_of_ble_eq_true rfl⟩ rfl rfl (by simp [ss_v_cat, ss_cat_i, ss_cat_l, ss_cat_r]) dd_M_words_193 (fun H locs hR hS => ?_)
    refine lv_i2l hx hb dd_M_words_196 rfl ?_
    obtain ⟨h10, qh10, hm⟩ := ss_bind hm
    refine ss_last hC hK hR hS qh10 dd_M_words_197 (fun H locs hR hS => ?_)
    refine ss_aload_n hx hb dd_M_words_198 rfl (lv_at hl 0 rfl) ?_
    obtain ⟨r11, qr11, hm⟩ := ss_bind hm
    refine ss_getr hC hK hR kf_M_36 rfl qr11 dd_M_words_199 ?_
    refine lv_bipush (v := 11) hx hb dd_M_words_202 (by decide) ?_
    refine ss_aload_n hx hb dd_M_words_204 rfl (lv_at hl 0 rfl) ?_
    obtain ⟨r12, qr12, hm⟩ := ss_bind hm
    refine ss_getr hC hK hR kf_M_39 rfl qr12 dd_M_words_205 ?_
    refine lv_bipush (v := 10) hx hb dd_M_words_208 (by decide) ?_
    obtain ⟨v13, qv13, hm⟩ := ss_bind hm
    refine ss_iald hC hK hR qv13 dd_M_words_210 ?_
    refine lv_i2l hx hb dd_M_words_211 rfl ?_
    obtain ⟨h14, qh14, hm⟩ := ss_bind hm
    refine ss_last hC hK hR hS qh14 dd_M_words_212 (fun H locs hR hS => ?_)
    exact ss_vret hC hr hlocks hR hS hm dd_M_words_213
  have J_114 : ∀ (s0_114 : Option Nat) (s1_114 : Int32) (s2_114 : Int64) (h_114 : ss_Hp) (H : Heap) (locs : List Loc) (ls : Array Slot), mm_M_words_j114 N this a1 a2 s0_114 s1_114 s2_114 h_114 = some hh → ss_R G h_114 H → va_S (ss_A G) s.heap H locs → lv_has ls 3 [(0, ss_v (ss_b G) this), (2, .int a2)] → ww_M_words p l e s m below meth c G this a1 a2 h hh  H locs 0 0 (F0 m 114 ls [.long s2_114, .int s1_114, ss_v (ss_b G) s0_114]) := by
    intro s0_114 s1_114 s2_114 h_114 H locs ls hm hR hS hl
    obtain ⟨h15, qh15, hm⟩ := ss_bind hm
    refine ss_last hC hK hR hS qh15 dd_M_words_114 (fun H locs hR hS => ?_)
    refine ss_aload_n hx hb dd_M_words_115 rfl (lv_at hl 0 rfl) ?_
    obtain ⟨r16, qr16, hm⟩ := ss_bind hm
    refine ss_getr hC hK hR kf_M_36 rfl qr16 dd_M_words_116 ?_
    refine lv_bipush (v := 7) hx hb dd_M_words_119 (by decide) ?_
    refine ss_aload_n hx hb dd_M_words_121 rfl (lv_at hl 0 rfl) ?_
    obtain ⟨v17, qv17, hm⟩ := ss_bind hm
    refine ss_cV 0 0 (As := []) hC hK hR hS hl.1 (cc_M_closed l G N _ _ _ qv17) km_M_340 (ck_M_closed qv17) ⟨Nat.le_of_ble_eq_true rfl, Nat.le_of_ble_eq_true rfl⟩ ⟨Nat.le_of_ble_eq_true rfl, Nat.le_of_ble_eq_true rfl, Nat.le_of_ble_eq_true rfl, Nat.le_of_ble_eq_true rfl⟩ rfl rfl (by simp [ss_v_cat, ss_cat_i, ss_cat_l, ss_cat_r]) dd_M_words_122 (fun H locs hR hS => ?_)
    obtain ⟨v18, qv18, hm⟩ := ss_bind hm
    refine ss_cS 0 0 (As := [.int v17]) hC hK hR hS hl.1 (cc_M_bits l G N _ _ _ qv18) km_M_343 ⟨Nat.le_of_ble_eq_true rfl, Nat.le_of_ble_eq_true rfl⟩ ⟨Nat.le_of_ble_eq_true rfl, Nat.le_of_ble_eq_true rfl, Nat.le_of_ble_eq_true rfl, Nat.le_of_ble_eq_true rfl⟩ rfl rfl (by simp [ss_v_cat, ss_cat_i, ss_cat_l, ss_cat_r]) dd_M_words_125 (fun H locs hR hS => ?_)
    refine lv_i2l hx hb dd_M_words_128 rfl ?_
    obtain ⟨h19, qh19, hm⟩ := ss_bind hm
    refine ss_last hC hK hR hS qh19 dd_M_words_129 (fun H locs hR hS => ?_)
    refine ss_aload_n hx hb dd_M_words_130 rfl (lv_at hl 0 rfl) ?_
    obtain ⟨r20, qr20, hm⟩ := ss_bind hm
    refine ss_getr hC hK hR kf_M_36 rfl qr20 dd_M_words_131 ?_
    refine lv_bipush (v := 8) hx hb dd_M_words_134 (by decide) ?_
    refine ss_aload_n hx hb dd_M_words_136 rfl (lv_at hl 0 rfl) ?_
    refine ss_aload_n hx hb dd_M_words_137 rfl (lv_at hl 0 rfl) ?_
    obtain ⟨r21, qr21, hm⟩ := ss_bind hm
    refine ss_getr hC hK hR kf_M_39 rfl qr21 dd_M_words_138 ?_
    refine lv_bipush (v := 10) hx hb dd_M_words_141 (by decide) ?_
    obtain ⟨v22, qv22, hm⟩ := ss_bind hm
    refine ss_iald hC hK hR qv22 dd_M_words_143 ?_
    obtain ⟨v23, qv23, hm⟩ := ss_bind hm
    refine ss_cV 0 0 (As := [.int v22]) hC hK hR hS hl.1 (cc_M_neededOn l G N _ _ _ _ qv23) km_M_319 (ck_M_neededOn qv23) ⟨Nat.le_of_ble_eq_true rfl, Nat.le_of_ble_eq_true rfl⟩ ⟨Nat.le_of_ble_eq_true rfl, Nat.le_of_ble_eq_true rfl, Nat.le_of_ble_eq_true rfl, Nat.le_of_ble_eq_true rfl⟩ rfl rfl (by simp [ss_v_cat, ss_cat_i, ss_cat_l, ss_cat_r]) dd_M_words_144 (fun H locs hR hS => ?_)
    refine lv_iload_n hx hb dd_M_words_147 rfl (lv_at hl 1 rfl) ?_
    obtain ⟨v24, qv24, hm⟩ := ss_bind hm
    refine ss_cS 0 0 (As := [.int v23, .int a2]) hC hK hR hS hl.1 (cc_M_isOf l G N _ _ _ _ qv24) km_M_316 ⟨Nat.le_of_ble_eq_true rfl, Nat.le_of_ble_eq_true rfl⟩ ⟨Nat.le_of_ble_eq_true rfl, Nat.le_of_ble_eq_true rfl, Nat.le_of_ble_eq_true rfl, Nat.le_of_ble_eq_true rfl⟩ rfl rfl (by simp [ss_v_cat, ss_cat_i, ss_cat_l, ss_cat_r]) dd_M_words_148 (fun H locs hR hS => ?_)
    refine lv_if_eq (tgt := 158) hx hb dd_M_words_151 (by decide) (fun c25 => ?_) (fun c25 => ?_)
    · have hm := ss_ift hm c25
      refine lv_lconst (v := 0) hx hb dd_M_words_158 (by decide) ?_
      exact J_159 r20 (8 : Int32) (0 : Int64) h19 _ _ _ hm hR hS hl
    · have hm := ss_iff hm c25
      refine lv_lconst (v := 1) hx hb dd_M_words_154 (by decide) ?_
      refine lv_goto (tgt := 159) hx hb dd_M_words_155 (by decide) ?_
      exact J_159 r20 (8 : Int32) (1 : Int64) h19 _ _ _ hm hR hS hl
  have J_88 : ∀ (s0_88 : Option Nat) (s1_88 : Int32) (s2_88 : Int64) (h_88 : ss_Hp) (H : Heap) (locs : List Loc) (ls : Array Slot), mm_M_words_j88 N this a1 a2 s0_88 s1_88 s2_88 h_88 = some hh → ss_R G h_88 H → va_S (ss_A G) s.heap H locs → lv_has ls 3 [(0, ss_v (ss_b G) this), (2, .int a2)] → ww_M_words p l e s m below meth c G this a1 a2 h hh  H locs 0 0 (F0 m 88 ls [.long s2_88, .int s1_88, ss_v (ss_b G) s0_88]) := by
    intro s0_88 s1_88 s2_88 h_88 H locs ls hm hR hS hl
    obtain ⟨h26, qh26, hm⟩ := ss_bind hm
    refine ss_last hC hK hR hS qh26 dd_M_words_88 (fun H locs hR hS => ?_)
    refine ss_aload_n hx hb dd_M_words_89 rfl (lv_at hl 0 rfl) ?_
    obtain ⟨r27, qr27, hm⟩ := ss_bind hm
    refine ss_getr hC hK hR kf_M_36 rfl qr27 dd_M_words_90 ?_
    refine lv_bipush (v := 6) hx hb dd_M_words_93 (by decide) ?_
    refine ss_aload_n hx hb dd_M_words_95 rfl (lv_at hl 0 rfl) ?_
    obtain ⟨r28, qr28, hm⟩ := ss_bind hm
    refine ss_getr hC hK hR kf_M_39 rfl qr28 dd_M_words_96 ?_
    refine lv_bipush (v := 12) hx hb dd_M_words_99 (by decide) ?_
    obtain ⟨v29, qv29, hm⟩ := ss_bind hm
    refine ss_iald hC hK hR qv29 dd_M_words_101 ?_
    refine lv_iload_n hx hb dd_M_words_102 rfl (lv_at hl 1 rfl) ?_
    obtain ⟨v30, qv30, hm⟩ := ss_bind hm
    refine ss_cS 0 0 (As := [.int v29, .int a2]) hC hK hR hS hl.1 (cc_M_isOf l G N _ _ _ _ qv30) km_M_316 ⟨Nat.le_of_ble_eq_true rfl, Nat.le_of_ble_eq_true rfl⟩ ⟨Nat.le_of_ble_eq_true rfl, Nat.le_of_ble_eq_true rfl, Nat.le_of_ble_eq_true rfl, Nat.le_of_ble_eq_true rfl⟩ rfl rfl (by simp [ss_v_cat, ss_cat_i, ss_cat_l, ss_cat_r]) dd_M_words_103 (fun H locs hR hS => ?_)
    refine lv_if_eq (tgt := 113) hx hb dd_M_words_106 (by decide) (fun c31 => ?_) (fun c31 => ?_)
    · have hm := ss_ift hm c31
      refine lv_lconst (v := 0) hx hb dd_M_words_113 (by decide) ?_
      exact J_114 r27 (6 : Int32) (0 : Int64) h26 _ _ _ hm hR hS hl
    · have hm := ss_iff hm c31
      refine lv_lconst (v := 1) hx hb dd_M_words_109 (by decide) ?_
      refine lv_goto (tgt := 114) hx hb dd_M_words_110 (by decide) ?_
      exact J_114 r27 (6 : Int32) (1 : Int64) h26 _ _ _ hm hR hS hl
  have J_35 : ∀ (s0_35 : Option Nat) (s1_35 : Int32) (s2_35 : Int64) (h_35 : ss_Hp) (H : Heap) (locs : List Loc) (ls : Array Slot), mm_M_words_j35 N this a1 a2 s0_35 s1_35 s2_35 h_35 = some hh → ss_R G h_35 H → va_S (ss_A G) s.heap H locs → lv_has ls 3 [(0, ss_v (ss_b G) this), (1, .int a1), (2, .int a2)] → ww_M_words p l e s m below meth c G this a1 a2 h hh  H locs 0 0 (F0 m 35 ls [.long s2_35, .int s1_35, ss_v (ss_b G) s0_35]) := by
    intro s0_35 s1_35 s2_35 h_35 H locs ls hm hR hS hl
    obtain ⟨h32, qh32, hm⟩ := ss_bind hm
    refine ss_last hC hK hR hS qh32 dd_M_words_35 (fun H locs hR hS => ?_)
    refine ss_aload_n hx hb dd_M_words_36 rfl (lv_at hl 0 rfl) ?_
    obtain ⟨r33, qr33, hm⟩ := ss_bind hm
    refine ss_getr hC hK hR kf_M_36 rfl qr33 dd_M_words_37 ?_
    refine lv_iconst (v := 3) hx hb dd_M_words_40 (by decide) ?_
    refine ss_aload_n hx hb dd_M_words_41 rfl (lv_at hl 0 rfl) ?_
    obtain ⟨r34, qr34, hm⟩ := ss_bind hm
    refine ss_getr hC hK hR kf_M_39 rfl qr34 dd_M_words_42 ?_
    refine lv_bipush (v := 14) hx hb dd_M_words_45 (by decide) ?_
    refine lv_iload_n hx hb dd_M_words_47 rfl (lv_at hl 2 rfl) ?_
    refine lv_iadd hx hb dd_M_words_48 ?_
    obtain ⟨v35, qv35, hm⟩ := ss_bind hm
    refine ss_iald hC hK hR qv35 dd_M_words_49 ?_
    refine lv_i2l hx hb dd_M_words_50 rfl ?_
    obtain ⟨h36, qh36, hm⟩ := ss_bind hm
    refine ss_last hC hK hR hS qh36 dd_M_words_51 (fun H locs hR hS => ?_)
    refine ss_aload_n hx hb dd_M_words_52 rfl (lv_at hl 0 rfl) ?_
    obtain ⟨r37, qr37, hm⟩ := ss_bind hm
    refine ss_getr hC hK hR kf_M_36 rfl qr37 dd_M_words_53 ?_
    refine lv_iconst (v := 4) hx hb dd_M_words_56 (by decide) ?_
    refine ss_aload_n hx hb dd_M_words_57 rfl (lv_at hl 0 rfl) ?_
    refine lv_iload_n hx hb dd_M_words_58 rfl (lv_at hl 1 rfl) ?_
    obtain ⟨v38, qv38, hm⟩ := ss_bind hm
    refine ss_cV 0 0 (As := [.int a1]) hC hK hR hS hl.1 (cc_M_strengthOf l G N _ _ _ _ qv38) km_M_330 (ck_M_strengthOf qv38) ⟨Nat.le_of_ble_eq_true rfl, Nat.le_of_ble_eq_true rfl⟩ ⟨Nat.le_of_ble_eq_true rfl, Nat.le_of_ble_eq_true rfl, Nat.le_of_ble_eq_true rfl, Nat.le_of_ble_eq_true rfl⟩ rfl rfl (by simp [ss_v_cat, ss_cat_i, ss_cat_l, ss_cat_r]) dd_M_words_59 (fun H locs hR hS => ?_)
    refine lv_i2l hx hb dd_M_words_62 rfl ?_
    obtain ⟨h39, qh39, hm⟩ := ss_bind hm
    refine ss_last hC hK hR hS qh39 dd_M_words_63 (fun H locs hR hS => ?_)
    refine ss_aload_n hx hb dd_M_words_64 rfl (lv_at hl 0 rfl) ?_
    obtain ⟨r40, qr40, hm⟩ := ss_bind hm
    refine ss_getr hC hK hR kf_M_36 rfl qr40 dd_M_words_65 ?_
    refine lv_iconst (v := 5) hx hb dd_M_words_68 (by decide) ?_
    refine ss_aload_n hx hb dd_M_words_69 rfl (lv_at hl 0 rfl) ?_
    obtain ⟨r41, qr41, hm⟩ := ss_bind hm
    refine ss_getr hC hK hR kf_M_39 rfl qr41 dd_M_words_70 ?_
    refine lv_bipush (v := 11) hx hb dd_M_words_73 (by decide) ?_
    obtain ⟨v42, qv42, hm⟩ := ss_bind hm
    refine ss_iald hC hK hR qv42 dd_M_words_75 ?_
    refine lv_iload_n hx hb dd_M_words_76 rfl (lv_at hl 2 rfl) ?_
    obtain ⟨v43, qv43, hm⟩ := ss_bind hm
    refine ss_cS 0 0 (As := [.int v42, .int a2]) hC hK hR hS hl.1 (cc_M_isOf l G N _ _ _ _ qv43) km_M_316 ⟨Nat.le_of_ble_eq_true rfl, Nat.le_of_ble_eq_true rfl⟩ ⟨Nat.le_of_ble_eq_true rfl, Nat.le_of_ble_eq_true rfl, Nat.le_of_ble_eq_true rfl, Nat.le_of_ble_eq_true rfl⟩ rfl rfl (by simp [ss_v_cat, ss_cat_i, ss_cat_l, ss_cat_r]) dd_M_words_77 (fun H locs hR hS => ?_)
    refine lv_if_eq (tgt := 87) hx hb dd_M_words_80 (by decide) (fun c44 => ?_) (fun c44 => ?_)
    · have hm := ss_ift hm c44
      refine lv_lconst (v := 0) hx hb dd_M_words_87 (by decide) ?_
      exact J_88 r40 (5 : Int32) (0 : Int64) h39 _ _ _ hm hR hS (lv_sub hl [0, 2] rfl)
    · have hm := ss_iff hm c44
      refine lv_lconst (v := 1) hx hb dd_M_words_83 (by decide) ?_
      refine lv_goto (tgt := 88) hx hb dd_M_words_84 (by decide) ?_
      exact J_88 r40 (5 : Int32) (1 : Int64) h39 _ _ _ hm hR hS (lv_sub hl [0, 2] rfl)
  refine ss_aload_n hx hb dd_M_words_0 rfl (lv_at hl 0 rfl) ?_
  obtain ⟨r45, qr45, hm⟩ := ss_bind hm
  refine ss_getr hC hK hR kf_M_36 rfl qr45 dd_M_words_1 ?_
  refine lv_iconst (v := 0) hx hb dd_M_words_4 (by decide) ?_
  refine lv_iload_n hx hb dd_M_words_5 rfl (lv_at hl 1 rfl) ?_
  refine lv_i2l hx hb dd_M_words_6 rfl ?_
  obtain ⟨h46, qh46, hm⟩ := ss_bind hm
  refine ss_last hC hK hR hS qh46 dd_M_words_7 (fun H locs hR hS => ?_)
  refine ss_aload_n hx hb dd_M_words_8 rfl (lv_at hl 0 rfl) ?_
  obtain ⟨r47, qr47, hm⟩ := ss_bind hm
  refine ss_getr hC hK hR kf_M_36 rfl qr47 dd_M_words_9 ?_
  refine lv_iconst (v := 1) hx hb dd_M_words_12 (by decide) ?_
  refine lv_iload_n hx hb dd_M_words_13 rfl (lv_at hl 2 rfl) ?_
  refine lv_i2l hx hb dd_M_words_14 rfl ?_
  obtain ⟨h48, qh48, hm⟩ := ss_bind hm
  refine ss_last hC hK hR hS qh48 dd_M_words_15 (fun H locs hR hS => ?_)
  refine ss_aload_n hx hb dd_M_words_16 rfl (lv_at hl 0 rfl) ?_
  obtain ⟨r49, qr49, hm⟩ := ss_bind hm
  refine ss_getr hC hK hR kf_M_36 rfl qr49 dd_M_words_17 ?_
  refine lv_iconst (v := 2) hx hb dd_M_words_20 (by decide) ?_
  refine ss_aload_n hx hb dd_M_words_21 rfl (lv_at hl 0 rfl) ?_
  refine lv_iload_n hx hb dd_M_words_22 rfl (lv_at hl 1 rfl) ?_
  obtain ⟨v50, qv50, hm⟩ := ss_bind hm
  refine ss_cV 0 0 (As := [.int a1]) hC hK hR hS hl.1 (cc_M_ownOf l G N _ _ _ _ qv50) km_M_327 (ck_M_ownOf qv50) ⟨Nat.le_of_ble_eq_true rfl, Nat.le_of_ble_eq_true rfl⟩ ⟨Nat.le_of_ble_eq_true rfl, Nat.le_of_ble_eq_true rfl, Nat.le_of_ble_eq_true rfl, Nat.le_of_ble_eq_true rfl⟩ rfl rfl (by simp [ss_v_cat, ss_cat_i, ss_cat_l, ss_cat_r]) dd_M_words_23 (fun H locs hR hS => ?_)
  refine lv_iload_n hx hb dd_M_words_26 rfl (lv_at hl 2 rfl) ?_
  refine lv_icmp_ne (tgt := 34) hx hb dd_M_words_27 (by decide) (fun c51 => ?_) (fun c51 => ?_)
  · have hm := ss_iff hm c51
    refine lv_lconst (v := 0) hx hb dd_M_words_34 (by decide) ?_
    exact J_35 r49 (2 : Int32) (0 : Int64) h48 _ _ _ hm hR hS hl
  · have hm := ss_ift hm c51
    refine lv_lconst (v := 1) hx hb dd_M_words_30 (by decide) ?_
    refine lv_goto (tgt := 35) hx hb dd_M_words_31 (by decide) ?_
    exact J_35 r49 (2 : Int32) (1 : Int64) h48 _ _ _ hm hR hS hl
