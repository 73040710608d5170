theorem dd_S_step_0 : decode bb_S_step 0 = .ok (.aload_n 0, 1) := by decide +kernel
theorem dd_S_step_1 : decode bb_S_step 1 = .ok (.iload_n 1, 1) := by decide +kernel
theorem dd_S_step_2 : decode bb_S_step 2 = .ok (.invokevirtual 124, 3) := by decide +kernel
theorem dd_S_step_5 : decode bb_S_step 5 = .ok (.ifCond .ne 6, 3) := by decide +kernel
theorem dd_S_step_8 : decode bb_S_step 8 = .ok (.bipush (-2), 2) := by decide +kernel
theorem dd_S_step_10 : decode bb_S_step 10 = .ok (.ireturn, 1) := by decide +kernel
theorem dd_S_step_11 : decode bb_S_step 11 = .ok (.iload_n 2, 1) := by decide +kernel
theorem dd_S_step_12 : decode bb_S_step 12 = .ok (.tableswitch 131 0 5 #[40, 53, 65, 80, 93, 106], 40) := by decide +kernel
theorem dd_S_step_52 : decode bb_S_step 52 = .ok (.aload_n 0, 1) := by decide +kernel
theorem dd_S_step_53 : decode bb_S_step 53 = .ok (.getfield 46, 3) := by decide +kernel
theorem dd_S_step_56 : decode bb_S_step 56 = .ok (.getfield 128, 3) := by decide +kernel
theorem dd_S_step_59 : decode bb_S_step 59 = .ok (.getfield 132, 3) := by decide +kernel
theorem dd_S_step_62 : decode bb_S_step 62 = .ok (.iload_n 1, 1) := by decide +kernel
theorem dd_S_step_63 : decode bb_S_step 63 = .ok (.iaload, 1) := by decide +kernel
theorem dd_S_step_64 : decode bb_S_step 64 = .ok (.ireturn, 1) := by decide +kernel
theorem dd_S_step_65 : decode bb_S_step 65 = .ok (.aload_n 0, 1) := by decide +kernel
theorem dd_S_step_66 : decode bb_S_step 66 = .ok (.getfield 46, 3) := by decide +kernel
theorem dd_S_step_69 : decode bb_S_step 69 = .ok (.invokevirtual 138, 3) := by decide +kernel
theorem dd_S_step_72 : decode bb_S_step 72 = .ok (.iload_n 1, 1) := by decide +kernel
theorem dd_S_step_73 : decode bb_S_step 73 = .ok (.ishr, 1) := by decide +kernel
theorem dd_S_step_74 : decode bb_S_step 74 = .ok (.iconst 1, 1) := by decide +kernel
theorem dd_S_step_75 : decode bb_S_step 75 = .ok (.iand, 1) := by decide +kernel
theorem dd_S_step_76 : decode bb_S_step 76 = .ok (.ireturn, 1) := by decide +kernel
theorem dd_S_step_77 : decode bb_S_step 77 = .ok (.aload_n 0, 1) := by decide +kernel
theorem dd_S_step_78 : decode bb_S_step 78 = .ok (.getfield 46, 3) := by decide +kernel
theorem dd_S_step_81 : decode bb_S_step 81 = .ok (.getfield 128, 3) := by decide +kernel
theorem dd_S_step_84 : decode bb_S_step 84 = .ok (.getfield 142, 3) := by decide +kernel
theorem dd_S_step_87 : decode bb_S_step 87 = .ok (.iload_n 1, 1) := by decide +kernel
theorem dd_S_step_88 : decode bb_S_step 88 = .ok (.ishr, 1) := by decide +kernel
theorem dd_S_step_89 : decode bb_S_step 89 = .ok (.iconst 1, 1) := by decide +kernel
theorem dd_S_step_90 : decode bb_S_step 90 = .ok (.iand, 1) := by decide +kernel
theorem dd_S_step_91 : decode bb_S_step 91 = .ok (.ireturn, 1) := by decide +kernel
theorem dd_S_step_92 : decode bb_S_step 92 = .ok (.aload_n 0, 1) := by decide +kernel
theorem dd_S_step_93 : decode bb_S_step 93 = .ok (.getfield 46, 3) := by decide +kernel
theorem dd_S_step_96 : decode bb_S_step 96 = .ok (.getfield 128, 3) := by decide +kernel
theorem dd_S_step_99 : decode bb_S_step 99 = .ok (.getfield 145, 3) := by decide +kernel
theorem dd_S_step_102 : decode bb_S_step 102 = .ok (.iload_n 1, 1) := by decide +kernel
theorem dd_S_step_103 : decode bb_S_step 103 = .ok (.iaload, 1) := by decide +kernel
theorem dd_S_step_104 : decode bb_S_step 104 = .ok (.ireturn, 1) := by decide +kernel
theorem dd_S_step_105 : decode bb_S_step 105 = .ok (.aload_n 0, 1) := by decide +kernel
theorem dd_S_step_106 : decode bb_S_step 106 = .ok (.getfield 46, 3) := by decide +kernel
theorem dd_S_step_109 : decode bb_S_step 109 = .ok (.getfield 63, 3) := by decide +kernel
theorem dd_S_step_112 : decode bb_S_step 112 = .ok (.getfield 148, 3) := by decide +kernel
theorem dd_S_step_115 : decode bb_S_step 115 = .ok (.iload_n 1, 1) := by decide +kernel
theorem dd_S_step_116 : decode bb_S_step 116 = .ok (.iaload, 1) := by decide +kernel
theorem dd_S_step_117 : decode bb_S_step 117 = .ok (.ireturn, 1) := by decide +kernel
theorem dd_S_step_118 : decode bb_S_step 118 = .ok (.aload_n 0, 1) := by decide +kernel
theorem dd_S_step_119 : decode bb_S_step 119 = .ok (.getfield 46, 3) := by decide +kernel
theorem dd_S_step_122 : decode bb_S_step 122 = .ok (.getfield 63, 3) := by decide +kernel
theorem dd_S_step_125 : decode bb_S_step 125 = .ok (.aload_n 0, 1) := by decide +kernel
theorem dd_S_step_126 : decode bb_S_step 126 = .ok (.getfield 46, 3) := by decide +kernel
theorem dd_S_step_129 : decode bb_S_step 129 = .ok (.getfield 128, 3) := by decide +kernel
theorem dd_S_step_132 : decode bb_S_step 132 = .ok (.getfield 151, 3) := by decide +kernel
theorem dd_S_step_135 : decode bb_S_step 135 = .ok (.invokevirtual 154, 3) := by decide +kernel
theorem dd_S_step_138 : decode bb_S_step 138 = .ok (.iload_n 1, 1) := by decide +kernel
theorem dd_S_step_139 : decode bb_S_step 139 = .ok (.ishr, 1) := by decide +kernel
theorem dd_S_step_140 : decode bb_S_step 140 = .ok (.iconst 1, 1) := by decide +kernel
theorem dd_S_step_141 : decode bb_S_step 141 = .ok (.iand, 1) := by decide +kernel
theorem dd_S_step_142 : decode bb_S_step 142 = .ok (.ireturn, 1) := by decide +kernel
theorem dd_S_step_143 : decode bb_S_step 143 = .ok (.bipush (-2), 2) := by decide +kernel
theorem dd_S_step_145 : decode bb_S_step 145 = .ok (.ireturn, 1) := by decide +kernel
def mm_S_step (N : Nat) (this : Option Nat) (a1 : Int32) (a2 : Int32) (h : ss_Hp) : Option Int32 :=
  if ss_is h this 11 = true then
    (mm_S_isStep N this a1 h).bind fun v1 =>
    if v1 = 0 then
      some (-2 : Int32)
    else
      if a2 = (0 : Int32) then
        (ss_gr h this 11 4).bind fun r4 =>
        (ss_gr h r4 8 1).bind fun r5 =>
        (ss_gr h r5 0 0).bind fun r6 =>
        (ss_ai h r6 20 a1).bind fun v7 =>
        some v7
      else
      if a2 = (1 : Int32) then
        (ss_gr h this 11 4).bind fun r9 =>
        (mm_Wo_closedBits N r9 h).bind fun v10 =>
        some ((v10 >>> (a1 &&& 31)) &&& (1 : Int32))
      else
      if a2 = (2 : Int32) then
        (ss_gr h this 11 4).bind fun r12 =>
        (ss_gr h r12 8 1).bind fun r13 =>
        (ss_gi h r13 0 0).bind fun v14 =>
        some ((v14 >>> (a1 &&& 31)) &&& (1 : Int32))
      else
      if a2 = (3 : Int32) then
        (ss_gr h this 11 4).bind fun r16 =>
        (ss_gr h r16 8 1).bind fun r17 =>
        (ss_gr h r17 0 1).bind fun r18 =>
        (ss_ai h r18 20 a1).bind fun v19 =>
        some v19
      else
      if a2 = (4 : Int32) then
        (ss_gr h this 11 4).bind fun r21 =>
        (ss_gr h r21 8 0).bind fun r22 =>
        (ss_gr h r22 5 2).bind fun r23 =>
        (ss_ai h r23 20 a1).bind fun v24 =>
        some v24
      else
      if a2 = (5 : Int32) then
        (ss_gr h this 11 4).bind fun r26 =>
        (ss_gr h r26 8 0).bind fun r27 =>
        (ss_gr h this 11 4).bind fun r28 =>
        (ss_gr h r28 8 1).bind fun r29 =>
        (ss_gi h r29 0 3).bind fun v30 =>
        (mm_V_neededBits N r27 v30 h).bind fun v31 =>
        some ((v31 >>> (a1 &&& 31)) &&& (1 : Int32))
      else
      some (-2 : Int32)
  else none
abbrev ww_S_step (p : Program) (l : Launch) (e : Env) (s : State) (m : MethodId) (below : List Frame) (meth : Method) (c : Code) (G : ss_G) (this : Option Nat) (a1 : Int32) (a2 : Int32) (h : ss_Hp) (rr : Int32) (H : Heap) (locs : List Loc) (k n : Nat) (g : JFrame) : Prop := W p l e (headSpec (ss_w yy_S_step bb_S_step 3 (some (.int))) ({ frames := 2, cells := 0, slots := 0, locals := 45 })).room s m ([ss_v (ss_b G) this, .int a1, .int a2] : List Value).toArray below meth c H locs k n (MQ below (ss_Qc G (some (.int rr)) h) ([ss_v (ss_b G) this, .int a1, .int a2] : List Value).toArray s 0 0 (ss_A G)) g
theorem ck_S_step {N : Nat} {this : Option Nat} {a1 : Int32} {a2 : Int32} {h : ss_Hp} {res : Int32} (hm : mm_S_step N this a1 a2 h = some res) : ss_is h this 11 = true := (ss_chk hm).1
set_option maxHeartbeats 4000000 in
set_option maxRecDepth 100000 in
theorem cc_S_step (l : Launch) (G : ss_G) (N : Nat) (this : Option Nat) (a1 : Int32) (a2 : Int32) (h : ss_Hp) (rr : Int32) (hm : mm_S_step N this a1 a2 h = some rr) : ss_Ct l G yy_S_step bb_S_step 3 (some (.int)) ({ frames := 2, cells := 0, slots := 0, locals := 45 }) [ss_v (ss_b G) this, .int a1, .int a2] h (some (.int rr)) h := by
  obtain ⟨hck, hm⟩ := ss_chk hm
  refine Met.ofW (cc := bb_S_step) (maxL := 3) (ret := (some (.int))) (by decide) rfl ?_
  intro p e s m args below meth c s₁ B hml hv
  obtain ⟨rfl, hR, hK⟩ := hv
  have hC : CallFix p m c bb_S_step 3 s _ lw_g sR_11 := ⟨B.exec, B.bytes, hml, findClass_of_methodNamed B.named, fun w hw => atoms_spec (ws := ss_w yy_S_step bb_S_step 3 (some (.int))) B.pre w (List.mem_cons_of_mem _ hw)⟩
  have hx := hC.1
  have hb := hC.2.1
  have hr := B.returns
  have hlocks := B.notSynchronized
  have hS : va_S (ss_A G) s.heap s.heap [] := va_S.rf
  have hl := lv_entry ([ss_v (ss_b G) this, .int a1, .int a2]) (n := 3) (by simp [lg_sl, ss_v_cat, ss_cat_i, ss_cat_l, ss_cat_r])
  rw [lg_entry_eq]
  generalize (lg_sl ([ss_v (ss_b G) this, .int a1, .int a2]) ++ List.replicate (3 - (lg_sl ([ss_v (ss_b G) this, .int a1, .int a2])).length) Slot.unset).toArray = ls at hl ⊢
  have hl : lv_has ls 3 [(0, ss_v (ss_b G) this), (1, .int a1), (2, .int a2)] := by simpa [lv_args, ss_v_cat, ss_cat_i, ss_cat_l, ss_cat_r] using hl
  refine ss_aload_n hx hb dd_S_step_0 rfl (lv_at hl 0 rfl) ?_
  refine lv_iload_n hx hb dd_S_step_1 rfl (lv_at hl 1 rfl) ?_
  obtain ⟨v1, qv1, hm⟩ := ss_bind hm
  refine ss_cV 0 0 (As := [.int a1]) hC hK hR hS hl.1 (cc_S_isStep l G N _ _ _ _ qv1) km_S_124 (ck_S_isStep qv1) ⟨Nat.le_of_ble_eq_true rfl, Nat.le_of_ble_eq_true rfl⟩ ⟨Nat.le_of_ble_eq_true rfl, Nat.le_of_ble_eq_true rfl, Nat.le_of_ble_eq_true rfl, Nat.le_of_ble_eq_true rfl⟩ rfl rfl (Nat.le_of_ble_eq_true rfl) dd_S_step_2 (fun H locs hR hS => ?_)
  refine lv_if_ne (tgt := 11) hx hb dd_S_step_5 (by decide) (fun c2 => ?_) (fun c2 => ?_)
  · have hm := ss_iff hm c2
    refine lv_iload_n hx hb dd_S_step_11 rfl (lv_at hl 2 rfl) ?_
    by_cases c3 : a2 = (0 : Int32)
    · have hm := ss_ift hm c3
      refine lv_tableIn (tgt := 52) hx hb dd_S_step_12 (by rw [c3]; decide) (by rw [c3]; decide) (by rw [c3]; rfl) (by decide) ?_
      refine ss_aload_n hx hb dd_S_step_52 rfl (lv_at hl 0 rfl) ?_
      obtain ⟨r4, qr4, hm⟩ := ss_bind hm
      refine ss_getr hC hK hR kf_S_46 rfl qr4 dd_S_step_53 ?_
      obtain ⟨r5, qr5, hm⟩ := ss_bind hm
      refine ss_getr hC hK hR kf_S_128 rfl qr5 dd_S_step_56 ?_
      obtain ⟨r6, qr6, hm⟩ := ss_bind hm
      refine ss_getr hC hK hR kf_S_132 rfl qr6 dd_S_step_59 ?_
      refine lv_iload_n hx hb dd_S_step_62 rfl (lv_at hl 1 rfl) ?_
      obtain ⟨v7, qv7, hm⟩ := ss_bind hm
      refine ss_iald hC hK hR qv7 dd_S_step_63 ?_
      exact ss_iret hC hr hlocks hR hS (ss_with _ hm) dd_S_step_64
    have hm := ss_iff hm c3
    by_cases c8 : a2 = (1 : Int32)
    · have hm := ss_ift hm c8
      refine lv_tableIn (tgt := 65) hx hb dd_S_step_12 (by rw [c8]; decide) (by rw [c8]; decide) (by rw [c8]; rfl) (by decide) ?_
      refine ss_aload_n hx hb dd_S_step_65 rfl (lv_at hl 0 rfl) ?_
      obtain ⟨r9, qr9, hm⟩ := ss_bind hm
      refine ss_getr hC hK hR kf_S_46 rfl qr9 dd_S_step_66 ?_
      obtain ⟨v10, qv10, hm⟩ := ss_bind hm
      refine ss_cV 0 0 (As := []) hC hK hR hS hl.1 (cc_Wo_closedBits l G N _ _ _ qv10) km_S_138 (ck_Wo_closedBits qv10) ⟨Nat.le_of_ble_eq_true rfl, Nat.le_of_ble_eq_true rfl⟩ ⟨Nat.le_of_ble_eq_true rfl, Nat.le_of_ble_eq_true rfl, Nat.le_of_ble_eq_true rfl, Nat.le_of_ble_eq_true rfl⟩ rfl rfl (Nat.le_of_ble_eq_true rfl) dd_S_step_69 (fun H locs hR hS => ?_)
      refine lv_iload_n hx hb dd_S_step_72 rfl (lv_at hl 1 rfl) ?_
      refine lv_ishr hx hb dd_S_step_73 ?_
      refine lv_iconst (v := 1) hx hb dd_S_step_74 (by decide) ?_
      refine lv_iand hx hb dd_S_step_75 ?_
      exact ss_iret hC hr hlocks hR hS (ss_with _ hm) dd_S_step_76
    have hm := ss_iff hm c8
    by_cases c11 : a2 = (2 : Int32)
    · have hm := ss_ift hm c11
      refine lv_tableIn (tgt := 77) hx hb dd_S_step_12 (by rw [c11]; decide) (by rw [c11]; decide) (by rw [c11]; rfl) (by decide) ?_
      refine ss_aload_n hx hb dd_S_step_77 rfl (lv_at hl 0 rfl) ?_
      obtain ⟨r12, qr12, hm⟩ := ss_bind hm
      refine ss_getr hC hK hR kf_S_46 rfl qr12 dd_S_step_78 ?_
      obtain ⟨r13, qr13, hm⟩ := ss_bind hm
      refine ss_getr hC hK hR kf_S_128 rfl qr13 dd_S_step_81 ?_
      obtain ⟨v14, qv14, hm⟩ := ss_bind hm
      refine ss_geti hC hK hR kf_S_142 qv14 dd_S_step_84 ?_
      refine lv_iload_n hx hb dd_S_step_87 rfl (lv_at hl 1 rfl) ?_
      refine lv_ishr hx hb dd_S_step_88 ?_
      refine lv_iconst (v := 1) hx hb dd_S_step_89 (by decide) ?_
      refine lv_iand hx hb dd_S_step_90 ?_
      exact ss_iret hC hr hlocks hR hS (ss_with _ hm) dd_S_step_91
    have hm := ss_iff hm c11
    by_cases c15 : a2 = (3 : Int32)
    · have hm := ss_ift hm c15
      refine lv_tableIn (tgt := 92) hx hb dd_S_step_12 (by rw [c15]; decide) (by rw [c15]; decide) (by rw [c15]; rfl) (by decide) ?_
      refine ss_aload_n hx hb dd_S_step_92 rfl (lv_at hl 0 rfl) ?_
      obtain ⟨r16, qr16, hm⟩ := ss_bind hm
      refine ss_getr hC hK hR kf_S_46 rfl qr16 dd_S_step_93 ?_
      obtain ⟨r17, qr17, hm⟩ := ss_bind hm
      refine ss_getr hC hK hR kf_S_128 rfl qr17 dd_S_step_96 ?_
      obtain ⟨r18, qr18, hm⟩ := ss_bind hm
      refine ss_getr hC hK hR kf_S_145 rfl qr18 dd_S_step_99 ?_
      refine lv_iload_n hx hb dd_S_step_102 rfl (lv_at hl 1 rfl) ?_
      obtain ⟨v19, qv19, hm⟩ := ss_bind hm
      refine ss_iald hC hK hR qv19 dd_S_step_103 ?_
      exact ss_iret hC hr hlocks hR hS (ss_with _ hm) dd_S_step_104
    have hm := ss_iff hm c15
    by_cases c20 : a2 = (4 : Int32)
    · have hm := ss_ift hm c20
      refine lv_tableIn (tgt := 105) hx hb dd_S_step_12 (by rw [c20]; decide) (by rw [c20]; decide) (by rw [c20]; rfl) (by decide) ?_
      refine ss_aload_n hx hb dd_S_step_105 rfl (lv_at hl 0 rfl) ?_
      obtain ⟨r21, qr21, hm⟩ := ss_bind hm
      refine ss_getr hC hK hR kf_S_46 rfl qr21 dd_S_step_106 ?_
      obtain ⟨r22, qr22, hm⟩ := ss_bind hm
      refine ss_getr hC hK hR kf_S_63 rfl qr22 dd_S_step_109 ?_
      obtain ⟨r23, qr23, hm⟩ := ss_bind hm
      refine ss_getr hC hK hR kf_S_148 rfl qr23 dd_S_step_112 ?_
      refine lv_iload_n hx hb dd_S_step_115 rfl (lv_at hl 1 rfl) ?_
      obtain ⟨v24, qv24, hm⟩ := ss_bind hm
      refine ss_iald hC hK hR qv24 dd_S_step_116 ?_
      exact ss_iret hC hr hlocks hR hS (ss_with _ hm) dd_S_step_117
    have hm := ss_iff hm c20
    by_cases c25 : a2 = (5 : Int32)
    · have hm := ss_ift hm c25
      refine lv_tableIn (tgt := 118) hx hb dd_S_step_12 (by rw [c25]; decide) (by rw [c25]; decide) (by rw [c25]; rfl) (by decide) ?_
      refine ss_aload_n hx hb dd_S_step_118 rfl (lv_at hl 0 rfl) ?_
      obtain ⟨r26, qr26, hm⟩ := ss_bind hm
      refine ss_getr hC hK hR kf_S_46 rfl qr26 dd_S_step_119 ?_
      obtain ⟨r27, qr27, hm⟩ := ss_bind hm
      refine ss_getr hC hK hR kf_S_63 rfl qr27 dd_S_step_122 ?_
      refine ss_aload_n hx hb dd_S_step_125 rfl (lv_at hl 0 rfl) ?_
      obtain ⟨r28, qr28, hm⟩ := ss_bind hm
      refine ss_getr hC hK hR kf_S_46 rfl qr28 dd_S_step_126 ?_
      obtain ⟨r29, qr29, hm⟩ := ss_bind hm
      refine ss_getr hC hK hR kf_S_128 rfl qr29 dd_S_step_129 ?_
      obtain ⟨v30, qv30, hm⟩ := ss_bind hm
      refine ss_geti hC hK hR kf_S_151 qv30 dd_S_step_132 ?_
      obtain ⟨v31, qv31, hm⟩ := ss_bind hm
      refine ss_cV 0 0 (As := [.int v30]) hC hK hR hS hl.1 (cc_V_neededBits l G N _ _ _ _ qv31) km_S_154 (ck_V_neededBits qv31) ⟨Nat.le_of_ble_eq_true rfl, Nat.le_of_ble_eq_true rfl⟩ ⟨Nat.le_of_ble_eq_true rfl, Nat.le_of_ble_eq_true rfl, Nat.le_of_ble_eq_true rfl, Nat.le_of_ble_eq_true rfl⟩ rfl rfl (Nat.le_of_ble_eq_true rfl) dd_S_step_135 (fun H locs hR hS => ?_)
      refine lv_iload_n hx hb dd_S_step_138 rfl (lv_at hl 1 rfl) ?_
      refine lv_ishr hx hb dd_S_step_139 ?_
      refine lv_iconst (v := 1) hx hb dd_S_step_140 (by decide) ?_
      refine lv_iand hx hb dd_S_step_141 ?_
      exact ss_iret hC hr hlocks hR hS (ss_with _ hm) dd_S_step_142
    have hm := ss_iff hm c25
    have nc3 := lv_neT (a := 0) c3 (by decide)
    have nc8 := lv_neT (a := 1) c8 (by decide)
    have nc11 := lv_neT (a := 2) c11 (by decide)
    have nc15 := lv_neT (a := 3) c15 (by decide)
    have nc20 := lv_neT (a := 4) c20 (by decide)
    have nc25 := lv_neT (a := 5) c25 (by decide)
    refine lv_tableOut (tgt := 143) hx hb dd_S_step_12 (by omega) (by decide) ?_
    refine lv_bipush (v := -2) hx hb dd_S_step_143 (by decide) ?_
    exact ss_iret hC hr hlocks hR hS (ss_with _ hm) dd_S_step_145
  · have hm := ss_ift hm c2
    refine lv_bipush (v := -2) hx hb dd_S_step_8 (by decide) ?_
    exact ss_iret hC hr hlocks hR hS (ss_with _ hm) dd_S_step_10
theorem dd_S_isHouse_0 : decode bb_S_isHouse 0 = .ok (.iload_n 1, 1) := by decide +kernel
theorem dd_S_isHouse_1 : decode bb_S_isHouse 1 = .ok (.ifCond .lt 21, 3) := by decide +kernel
theorem dd_S_isHouse_4 : decode bb_S_isHouse 4 = .ok (.iload_n 1, 1) := by decide +kernel
theorem dd_S_isHouse_5 : decode bb_S_isHouse 5 = .ok (.aload_n 0, 1) := by decide +kernel
theorem dd_S_isHouse_6 : decode bb_S_isHouse 6 = .ok (.getfield 46, 3) := by decide +kernel
theorem dd_S_isHouse_9 : decode bb_S_isHouse 9 = .ok (.getfield 63, 3) := by decide +kernel
theorem dd_S_isHouse_12 : decode bb_S_isHouse 12 = .ok (.getfield 303, 3) := by decide +kernel
theorem dd_S_isHouse_15 : decode bb_S_isHouse 15 = .ok (.if_icmp .ge 7, 3) := by decide +kernel
theorem dd_S_isHouse_18 : decode bb_S_isHouse 18 = .ok (.iconst 1, 1) := by decide +kernel
theorem dd_S_isHouse_19 : decode bb_S_isHouse 19 = .ok (.goto 4, 3) := by decide +kernel
theorem dd_S_isHouse_22 : decode bb_S_isHouse 22 = .ok (.iconst 0, 1) := by decide +kernel
theorem dd_S_isHouse_23 : decode bb_S_isHouse 23 = .ok (.ireturn, 1) := by decide +kernel
def mm_S_isHouse_j23 (N : Nat) (this : Option Nat) (a1 : Int32) (h : ss_Hp) (s0_23 : Int32) : Option Int32 :=
  (ss_bz s0_23).bind fun v1 =>
  some v1
def mm_S_isHouse_j22 (N : Nat) (this : Option Nat) (a1 : Int32) (h : ss_Hp) : Option Int32 :=
  mm_S_isHouse_j23 N this a1 h (0 : Int32)
def mm_S_isHouse (N : Nat) (this : Option Nat) (a1 : Int32) (h : ss_Hp) : Option Int32 :=
  if ss_is h this 11 = true then
    if a1 < 0 then
      mm_S_isHouse_j22 N this a1 h
    else
      (ss_gr h this 11 4).bind fun r3 =>
      (ss_gr h r3 8 0).bind fun r4 =>
      (ss_gi h r4 5 4).bind fun v5 =>
      if v5 ≤ a1 then
        mm_S_isHouse_j22 N this a1 h
      else
        mm_S_isHouse_j23 N this a1 h (1 : Int32)
  else none
abbrev ww_S_isHouse (p : Program) (l : Launch) (e : Env) (s : State) (m : MethodId) (below : List Frame) (meth : Method) (c : Code) (G : ss_G) (this : Option Nat) (a1 : Int32) (h : ss_Hp) (rr : Int32) (H : Heap) (locs : List Loc) (k n : Nat) (g : JFrame) : Prop := W p l e (headSpec (ss_w yy_S_isHouse bb_S_isHouse 2 (some .boolean)) ({ frames := 0, cells := 0, slots := 0, locals := 0 })).room s m ([ss_v (ss_b G) this, .int a1] : List Value).toArray below meth c H locs k n (MQ below (ss_Qc G (some (.int rr)) h) ([ss_v (ss_b G) this, .int a1] : List Value).toArray s 0 0 (ss_A G)) g
theorem ck_S_isHouse {N : Nat} {this : Option Nat} {a1 : Int32} {h : ss_Hp} {res : Int32} (hm : mm_S_isHouse N this a1 h = some res) : ss_is h this 11 = true := (ss_chk hm).1
set_option maxHeartbeats 4000000 in
set_option maxRecDepth 100000 in
theorem cc_S_isHouse (l : Launch) (G : ss_G) (N : Nat) (this : Option Nat) (a1 : Int32) (h : ss_Hp) (rr : Int32) (hm : mm_S_isHouse N this a1 h = some rr) : ss_Ct l G yy_S_isHouse bb_S_isHouse 2 (some .boolean) ({ frames := 0, cells := 0, slots := 0, locals := 0 }) [ss_v (ss_b G) this, .int a1] h (some (.int rr)) h := by
  obtain ⟨hck, hm⟩ := ss_chk hm
  refine Met.ofW (cc := bb_S_isHouse) (maxL := 2) (ret := (some .boolean)) (by decide) rfl ?_
  intro p e s m args below meth c s₁ B hml hv
  obtain ⟨rfl, hR, hK⟩ := hv
  have hC : CallFix p m c bb_S_isHouse 2 s _ lw_g sR_11 := ⟨B.exec, B.bytes, hml, findClass_of_methodNamed B.named, fun w hw => atoms_spec (ws := ss_w yy_S_isHouse bb_S_isHouse 2 (some .boolean)) B.pre w (List.mem_cons_of_mem _ hw)⟩
  have hx := hC.1
  have hb := hC.2.1
  have hr := B.returns
  have hlocks := B.notSynchronized
  have hS : va_S (ss_A G) s.heap s.heap [] := va_S.rf
  have hl := lv_entry ([ss_v (ss_b G) this, .int a1]) (n := 2) (by simp [lg_sl, ss_v_cat, ss_cat_i, ss_cat_l, ss_cat_r])
  rw [lg_entry_eq]
  generalize (lg_sl ([ss_v (ss_b G) this, .int a1]) ++ List.replicate (2 - (lg_sl ([ss_v (ss_b G) this, .int a1])).length) Slot.unset).toArray = ls at hl ⊢
  have hl : lv_has ls 2 [(0, ss_v (ss_b G) this), (1, .int a1)] := by simpa [lv_args, ss_v_cat, ss_cat_i, ss_cat_l, ss_cat_r] using hl
  have J_23 : ∀ (s0_23 : Int32) (H : Heap) (locs : List Loc) (ls : Array Slot), mm_S_isHouse_j23 N this a1 h s0_23 = some rr → ss_R G h H → va_S (ss_A G) s.heap H locs → lv_has ls 2 [] → ww_S_isHouse p l e s m below meth c G this a1 h rr  H locs 0 0 (F0 m 23 ls [.int s0_23]) := by
    intro s0_23 H locs ls hm hR hS hl
    obtain ⟨v1, qv1, hm⟩ := ss_bind hm
    obtain ⟨hnb, rfl⟩ := ss_bzs qv1
    exact ss_zret hC hr hnb hlocks hR hS (ss_with _ hm) dd_S_isHouse_23
  have J_22 : ∀  (H : Heap) (locs : List Loc) (ls : Array Slot), mm_S_isHouse_j22 N this a1 h = some rr → ss_R G h H → va_S (ss_A G) s.heap H locs → lv_has ls 2 [] → ww_S_isHouse p l e s m below meth c G this a1 h rr  H locs 0 0 (F0 m 22 ls []) := by
    intro  H locs ls hm hR hS hl
    refine lv_iconst (v := 0) hx hb dd_S_isHouse_22 (by decide) ?_
    exact J_23 (0 : Int32)  _ _ _ hm hR hS hl
  refine lv_iload_n hx hb dd_S_isHouse_0 rfl (lv_at hl 1 rfl) ?_
  refine lv_if_lt (tgt := 22) hx hb dd_S_isHouse_1 (by decide) (fun c2 => ?_) (fun c2 => ?_)
  · have hm := ss_ift hm c2
    exact J_22  _ _ _ hm hR hS (lv_sub hl [] rfl)
  · have hm := ss_iff hm c2
    refine lv_iload_n hx hb dd_S_isHouse_4 rfl (lv_at hl 1 rfl) ?_
    refine ss_aload_n hx hb dd_S_isHouse_5 rfl (lv_at hl 0 rfl) ?_
    obtain ⟨r3, qr3, hm⟩ := ss_bind hm
    refine ss_getr hC hK hR kf_S_46 rfl qr3 dd_S_isHouse_6 ?_
    obtain ⟨r4, qr4, hm⟩ := ss_bind hm
    refine ss_getr hC hK hR kf_S_63 rfl qr4 dd_S_isHouse_9 ?_
    obtain ⟨v5, qv5, hm⟩ := ss_bind hm
    refine ss_geti hC hK hR kf_S_303 qv5 dd_S_isHouse_12 ?_
    refine lv_icmp_ge (tgt := 22) hx hb dd_S_isHouse_15 (by decide) (fun c6 => ?_) (fun c6 => ?_)
    · have hm := ss_ift hm c6
      exact J_22  _ _ _ hm hR hS (lv_sub hl [] rfl)
    · have hm := ss_iff hm c6
      refine lv_iconst (v := 1) hx hb dd_S_isHouse_18 (by decide) ?_
      refine lv_goto (tgt := 23) hx hb dd_S_isHouse_19 (by decide) ?_
      exact J_23 (1 : Int32)  _ _ _ hm hR hS (lv_sub hl [] rfl)
theorem dd_S_house_0 : decode bb_S_house 0 = .ok (.aload_n 0, 1) := by decide +kernel
theorem dd_S_house_1 : decode bb_S_house 1 = .ok (.iload_n 1, 1) := by decide +kernel
theorem dd_S_house_2 : decode bb_S_house 2 = .ok (.invokevirtual 158, 3) := by decide +kernel
theorem dd_S_house_5 : decode bb_S_house 5 = .ok (.ifCond .ne 5, 3) := by decide +kernel
theorem dd_S_house_8 : decode bb_S_house 8 = .ok (.iconst (-1), 1) := by decide +kernel
theorem dd_S_house_9 : decode bb_S_house 9 = .ok (.ireturn, 1) := by decide +kernel
theorem dd_S_house_10 : decode bb_S_house 10 = .ok (.iload_n 2, 1) := by decide +kernel
theorem dd_S_house_11 : decode bb_S_house 11 = .ok (.tableswitch 66 0 2 #[25, 38, 51], 25) := by decide +kernel
theorem dd_S_house_36 : decode bb_S_house 36 = .ok (.aload_n 0, 1) := by decide +kernel
theorem dd_S_house_37 : decode bb_S_house 37 = .ok (.getfield 46, 3) := by decide +kernel
theorem dd_S_house_40 : decode bb_S_house 40 = .ok (.getfield 63, 3) := by decide +kernel
theorem dd_S_house_43 : decode bb_S_house 43 = .ok (.getfield 161, 3) := by decide +kernel
theorem dd_S_house_46 : decode bb_S_house 46 = .ok (.iload_n 1, 1) := by decide +kernel
theorem dd_S_house_47 : decode bb_S_house 47 = .ok (.iaload, 1) := by decide +kernel
theorem dd_S_house_48 : decode bb_S_house 48 = .ok (.ireturn, 1) := by decide +kernel
theorem dd_S_house_49 : decode bb_S_house 49 = .ok (.aload_n 0, 1) := by decide +kernel
theorem dd_S_house_50 : decode bb_S_house 50 = .ok (.getfield 46, 3) := by decide +kernel
theorem dd_S_house_53 : decode bb_S_house 53 = .ok (.getfield 63, 3) := by decide +kernel
theorem dd_S_house_56 : decode bb_S_house 56 = .ok (.getfield 164, 3) := by decide +kernel
theorem dd_S_house_59 : decode bb_S_house 59 = .ok (.iload_n 1, 1) := by decide +kernel
theorem dd_S_house_60 : decode bb_S_house 60 = .ok (.iaload, 1) := by decide +kernel
theorem dd_S_house_61 : decode bb_S_house 61 = .ok (.ireturn, 1) := by decide +kernel
theorem dd_S_house_62 : decode bb_S_house 62 = .ok (.aload_n 0, 1) := by decide +kernel
theorem dd_S_house_63 : decode bb_S_house 63 = .ok (.getfield 46, 3) := by decide +kernel
theorem dd_S_house_66 : decode bb_S_house 66 = .ok (.getfield 128, 3) := by decide +kernel
theorem dd_S_house_69 : decode bb_S_house 69 = .ok (.getfield 167, 3) := by decide +kernel
theorem dd_S_house_72 : decode bb_S_house 72 = .ok (.iload_n 1, 1) := by decide +kernel
theorem dd_S_house_73 : decode bb_S_house 73 = .ok (.ishr, 1) := by decide +kernel
theorem dd_S_house_74 : decode bb_S_house 74 = .ok (.iconst 1, 1) := by decide +kernel
theorem dd_S_house_75 : decode bb_S_house 75 = .ok (.iand, 1) := by decide +kernel
theorem dd_S_house_76 : decode bb_S_house 76 = .ok (.ireturn, 1) := by decide +kernel
theorem dd_S_house_77 : decode bb_S_house 77 = .ok (.iconst (-1), 1) := by decide +kernel
theorem dd_S_house_78 : decode bb_S_house 78 = .ok (.ireturn, 1) := by decide +kernel
def mm_S_house (N : Nat) (this : Option Nat) (a1 : Int32) (a2 : Int32) (h : ss_Hp) : Option Int32 :=
  if ss_is h this 11 = true then
    (mm_S_isHouse N this a1 h).bind fun v1 =>
    if v1 = 0 then
      some (-1 : Int32)
    else
      if a2 = (0 : Int32) then
        (ss_gr h this 11 4).bind fun r4 =>
        (ss_gr h r4 8 0).bind fun r5 =>
        (ss_gr h r5 5 0).bind fun r6 =>
        (ss_ai h r6 20 a1).bind fun v7 =>
        some v7
      else
      if a2 = (1 : Int32) then
        (ss_gr h this 11 4).bind fun r9 =>
        (ss_gr h r9 8 0).bind fun r10 =>
        (ss_gr h r10 5 1).bind fun r11 =>
        (ss_ai h r11 20 a1).bind fun v12 =>
        some v12
      else
      if a2 = (2 : Int32) then
        (ss_gr h this 11 4).bind fun r14 =>
        (ss_gr h r14 8 1).bind fun r15 =>
        (ss_gi h r15 0 2).bind fun v16 =>
        some ((v16 >>> (a1 &&& 31)) &&& (1 : Int32))
      else
      some (-1 : Int32)
  else none
abbrev ww_S_house (p : Program) (l : Launch) (e : Env) (s : State) (m : MethodId) (below : List Frame) (meth : Method) (c : Code) (G : ss_G) (this : Option Nat) (a1 : Int32) (a2 : Int32) (h : ss_Hp) (rr : Int32) (H : Heap) (locs : List Loc) (k n : Nat) (g : JFrame) : Prop := W p l e (headSpec (ss_w yy_S_house bb_S_house 3 (some (.int))) ({ frames := 1, cells := 0, slots := 0, locals := 21 })).room s m ([ss_v (ss_b G) this, .int a1, .int a2] : List Value).toArray below meth c H locs k n (MQ below (ss_Qc G (some (.int rr)) h) ([ss_v (ss_b G) this, .int a1, .int a2] : List Value).toArray s 0 0 (ss_A G)) g
theorem ck_S_house {N : Nat} {this : Option Nat} {a1 : Int32} {a2 : Int32} {h : ss_Hp} {res : Int32} (hm : mm_S_house N this a1 a2 h = some res) : ss_is h this 11 = true := (ss_chk hm).1
set_option maxHeartbeats 4000000 in
set_option maxRecDepth 100000 in
theorem cc_S_house (l : Launch) (G : ss_G) (N : Nat) (this : Option Nat) (a1 : Int32) (a2 : Int32) (h : ss_Hp) (rr : Int32) (hm : mm_S_house N this a1 a2 h = some rr) : ss_Ct l G yy_S_house bb_S_house 3 (some (.int)) ({ frames := 1, cells := 0, slots := 0, locals := 21 }) [ss_v (ss_b G) this, .int a1, .int a2] h (some (.int rr)) h := by
  obtain ⟨hck, hm⟩ := ss_chk hm
  refine Met.ofW (cc := bb_S_house) (maxL := 3) (ret := (some (.int))) (by decide) rfl ?_
  intro p e s m args below meth c s₁ B hml hv
  obtain ⟨rfl, hR, hK⟩ := hv
  have hC : CallFix p m c bb_S_house 3 s _ lw_g sR_11 := ⟨B.exec, B.bytes, hml, findClass_of_methodNamed B.named, fun w hw => atoms_spec (ws := ss_w yy_S_house bb_S_house 3 (some (.int))) B.pre w (List.mem_cons_of_mem _ hw)⟩
  have hx := hC.1
  have hb := hC.2.1
  have hr := B.returns
  have hlocks := B.notSynchronized
  have hS : va_S (ss_A G) s.heap s.heap [] := va_S.rf
  have hl := lv_entry ([ss_v (ss_b G) this, .int a1, .int a2]) (n := 3) (by simp [lg_sl, ss_v_cat, ss_cat_i, ss_cat_l, ss_cat_r])
  rw [lg_entry_eq]
  generalize (lg_sl ([ss_v (ss_b G) this, .int a1, .int a2]) ++ List.replicate (3 - (lg_sl ([ss_v (ss_b G) this, .int a1, .int a2])).length) Slot.unset).toArray = ls at hl ⊢
  have hl : lv_has ls 3 [(0, ss_v (ss_b G) this), (1, .int a1), (2, .int a2)] := by simpa [lv_args, ss_v_cat, ss_cat_i, ss_cat_l, ss_cat_r] using hl
  refine ss_aload_n hx hb dd_S_house_0 rfl (lv_at hl 0 rfl) ?_
  refine lv_iload_n hx hb dd_S_house_1 rfl (lv_at hl 1 rfl) ?_
  obtain ⟨v1, qv1, hm⟩ := ss_bind hm
  refine ss_cV 0 0 (As := [.int a1]) hC hK hR hS hl.1 (cc_S_isHouse l G N _ _ _ _ qv1) km_S_158 (ck_S_isHouse qv1) ⟨Nat.le_of_ble_eq_true rfl, Nat.le_of_ble_eq_true rfl⟩ ⟨Nat.le_of_ble_eq_true rfl, Nat.le_of_ble_eq_true rfl, Nat.le_of_ble_eq_true rfl, Nat.le_of_ble_eq_true rfl⟩ rfl rfl (Nat.le_of_ble_eq_true rfl) dd_S_house_2 (fun H locs hR hS => ?_)
  refine lv_if_ne (tgt := 10) hx hb dd_S_house_5 (by decide) (fun c2 => ?_) (fun c2 => ?_)
  · have hm := ss_iff hm c2
    refine lv_iload_n hx hb dd_S_house_10 rfl (lv_at hl 2 rfl) ?_
    by_cases c3 : a2 = (0 : Int32)
    · have hm := ss_ift hm c3
      refine lv_tableIn (tgt := 36) hx hb dd_S_house_11 (by rw [c3]; decide) (by rw [c3]; decide) (by rw [c3]; rfl) (by decide) ?_
      refine ss_aload_n hx hb dd_S_house_36 rfl (lv_at hl 0 rfl) ?_
      obtain ⟨r4, qr4, hm⟩ := ss_bind hm
      refine ss_getr hC hK hR kf_S_46 rfl qr4 dd_S_house_37 ?_
      obtain ⟨r5, qr5, hm⟩ := ss_bind hm
      refine ss_getr hC hK hR kf_S_63 rfl qr5 dd_S_house_40 ?_
      obtain ⟨r6, qr6, hm⟩ := ss_bind hm
      refine ss_getr hC hK hR kf_S_161 rfl qr6 dd_S_house_43 ?_
      refine lv_iload_n hx hb dd_S_house_46 rfl (lv_at hl 1 rfl) ?_
      obtain ⟨v7, qv7, hm⟩ := ss_bind hm
      refine ss_iald hC hK hR qv7 dd_S_house_47 ?_
      exact ss_iret hC hr hlocks hR hS (ss_with _ hm) dd_S_house_48
    have hm := ss_iff hm c3
    by_cases c8 : a2 = (1 : Int32)
    · have hm := ss_ift hm c8
      refine lv_tableIn (tgt := 49) hx hb dd_S_house_11 (by rw [c8]; decide) (by rw [c8]; decide) (by rw [c8]; rfl) (by decide) ?_
      refine ss_aload_n hx hb dd_S_house_49 rfl (lv_at hl 0 rfl) ?_
      obtain ⟨r9, qr9, hm⟩ := ss_bind hm
      refine ss_getr hC hK hR kf_S_46 rfl qr9 dd_S_house_50 ?_
      obtain ⟨r10, qr10, hm⟩ := ss_bind hm
      refine ss_getr hC hK hR kf_S_63 rfl qr10 dd_S_house_53 ?_
      obtain ⟨r11, qr11, hm⟩ := ss_bind hm
      refine ss_getr hC hK hR kf_S_164 rfl qr11 dd_S_house_56 ?_
      refine lv_iload_n hx hb dd_S_house_59 rfl (lv_at hl 1 rfl) ?_
      obtain ⟨v12, qv12, hm⟩ := ss_bind hm
      refine ss_iald hC hK hR qv12 dd_S_house_60 ?_
      exact ss_iret hC hr hlocks hR hS (ss_with _ hm) dd_S_house_61
    have hm := ss_iff hm c8
    by_cases c13 : a2 = (2 : Int32)
    · have hm := ss_ift hm c13
      refine lv_tableIn (tgt := 62) hx hb dd_S_house_11 (by rw [c13]; decide) (by rw [c13]; decide) (by rw [c13]; rfl) (by decide) ?_
      refine ss_aload_n hx hb dd_S_house_62 rfl (lv_at hl 0 rfl) ?_
      obtain ⟨r14, qr14, hm⟩ := ss_bind hm
      refine ss_getr hC hK hR kf_S_46 rfl qr14 dd_S_house_63 ?_
      obtain ⟨r15, qr15, hm⟩ := ss_bind hm
      refine ss_getr hC hK hR kf_S_128 rfl qr15 dd_S_house_66 ?_
      obtain ⟨v16, qv16, hm⟩ := ss_bind hm
      refine ss_geti hC hK hR kf_S_167 qv16 dd_S_house_69 ?_
      refine lv_iload_n hx hb dd_S_house_72 rfl (lv_at hl 1 rfl) ?_
      refine lv_ishr hx hb dd_S_house_73 ?_
      refine lv_iconst (v := 1) hx hb dd_S_house_74 (by decide) ?_
      refine lv_iand hx hb dd_S_house_75 ?_
      exact ss_iret hC hr hlocks hR hS (ss_with _ hm) dd_S_house_76
    have hm := ss_iff hm c13
    have nc3 := lv_neT (a := 0) c3 (by decide)
    have nc8 := lv_neT (a := 1) c8 (by decide)
    have nc13 := lv_neT (a := 2) c13 (by decide)
    refine lv_tableOut (tgt := 77) hx hb dd_S_house_11 (by omega) (by decide) ?_
    refine lv_iconst (v := -1) hx hb dd_S_house_77 (by decide) ?_
    exact ss_iret hC hr hlocks hR hS (ss_with _ hm) dd_S_house_78
  · have hm := ss_ift hm c2
    refine lv_iconst (v := -1) hx hb dd_S_house_8 (by decide) ?_
    exact ss_iret hC hr hlocks hR hS (ss_with _ hm) dd_S_house_9
theorem dd_A_keep_0 : decode bb_A_keep 0 = .ok (.aload_n 0, 1) := by decide +kernel
theorem dd_A_keep_1 : decode bb_A_keep 1 = .ok (.getfield 13, 3) := by decide +kernel
theorem dd_A_keep_4 : decode bb_A_keep 4 = .ok (.aload_n 0, 1) := by decide +kernel
theorem dd_A_keep_5 : decode bb_A_keep 5 = .ok (.getfield 18, 3) := by decide +kernel
theorem dd_A_keep_8 : decode bb_A_keep 8 = .ok (.aaload, 1) := by decide +kernel
theorem dd_A_keep_9 : decode bb_A_keep 9 = .ok (.aload_n 1, 1) := by decide +kernel
theorem dd_A_keep_10 : decode bb_A_keep 10 = .ok (.invokevirtual 22, 3) := by decide +kernel
theorem dd_A_keep_13 : decode bb_A_keep 13 = .ok (.aload_n 0, 1) := by decide +kernel
theorem dd_A_keep_14 : decode bb_A_keep 14 = .ok (.aload_n 0, 1) := by decide +kernel
theorem dd_A_keep_15 : decode bb_A_keep 15 = .ok (.getfield 18, 3) := by decide +kernel
theorem dd_A_keep_18 : decode bb_A_keep 18 = .ok (.iconst 1, 1) := by decide +kernel
theorem dd_A_keep_19 : decode bb_A_keep 19 = .ok (.iadd, 1) := by decide +kernel
theorem dd_A_keep_20 : decode bb_A_keep 20 = .ok (.bipush 20, 2) := by decide +kernel
theorem dd_A_keep_22 : decode bb_A_keep 22 = .ok (.if_icmp .ge 12, 3) := by decide +kernel
theorem dd_A_keep_25 : decode bb_A_keep 25 = .ok (.aload_n 0, 1) := by decide +kernel
theorem dd_A_keep_26 : decode bb_A_keep 26 = .ok (.getfield 18, 3) := by decide +kernel
theorem dd_A_keep_29 : decode bb_A_keep 29 = .ok (.iconst 1, 1) := by decide +kernel
theorem dd_A_keep_30 : decode bb_A_keep 30 = .ok (.iadd, 1) := by decide +kernel
theorem dd_A_keep_31 : decode bb_A_keep 31 = .ok (.goto 4, 3) := by decide +kernel
theorem dd_A_keep_34 : decode bb_A_keep 34 = .ok (.iconst 0, 1) := by decide +kernel
theorem dd_A_keep_35 : decode bb_A_keep 35 = .ok (.putfield 18, 3) := by decide +kernel
theorem dd_A_keep_38 : decode bb_A_keep 38 = .ok (.aload_n 0, 1) := by decide +kernel
theorem dd_A_keep_39 : decode bb_A_keep 39 = .ok (.bipush 20, 2) := by decide +kernel
theorem dd_A_keep_41 : decode bb_A_keep 41 = .ok (.aload_n 0, 1) := by decide +kernel
theorem dd_A_keep_42 : decode bb_A_keep 42 = .ok (.getfield 26, 3) := by decide +kernel
theorem dd_A_keep_45 : decode bb_A_keep 45 = .ok (.iconst 1, 1) := by decide +kernel
theorem dd_A_keep_46 : decode bb_A_keep 46 = .ok (.iadd, 1) := by decide +kernel
theorem dd_A_keep_47 : decode bb_A_keep 47 = .ok (.invokestatic 29, 3) := by decide +kernel
theorem dd_A_keep_50 : decode bb_A_keep 50 = .ok (.putfield 26, 3) := by decide +kernel
theorem dd_A_keep_53 : decode bb_A_keep 53 = .ok (.return_, 1) := by decide +kernel
def mm_A_keep_j35 (N : Nat) (this : Option Nat) (a1 : Option Nat) (s0_35 : Option Nat) (s1_35 : Int32) (h_35 : ss_Hp) : Option ss_Hp :=
  (ss_pi h_35 s0_35 3 0 s1_35).bind fun h1 =>
  (ss_gi h1 this 3 1).bind fun v2 =>
  (ss_pi h1 this 3 1 (if (v2 + (1 : Int32)) < (20 : Int32) then (v2 + (1 : Int32)) else (20 : Int32))).bind fun h3 =>
  some h3
def mm_A_keep (N : Nat) (this : Option Nat) (a1 : Option Nat) (h : ss_Hp) : Option ss_Hp :=
  if ss_is h this 3 = true then
    (ss_gr h this 3 0).bind fun r4 =>
    (ss_gi h this 3 0).bind fun v5 =>
    (ss_ar h r4 24 v5).bind fun r6 =>
    (mm_G_copyFrom N r6 a1 h).bind fun h7 =>
    (ss_gi h7 this 3 0).bind fun v8 =>
    if (20 : Int32) ≤ (v8 + (1 : Int32)) then
      mm_A_keep_j35 N this a1 this (0 : Int32) h7
    else
      (ss_gi h7 this 3 0).bind fun v10 =>
      mm_A_keep_j35 N this a1 this (v10 + (1 : Int32)) h7
  else none
abbrev ww_A_keep (p : Program) (l : Launch) (e : Env) (s : State) (m : MethodId) (below : List Frame) (meth : Method) (c : Code) (G : ss_G) (this : Option Nat) (a1 : Option Nat) (h : ss_Hp) (hh : ss_Hp) (H : Heap) (locs : List Loc) (k n : Nat) (g : JFrame) : Prop := W p l e (headSpec (ss_w yy_A_keep bb_A_keep 2 none) ({ frames := 2, cells := 0, slots := 0, locals := 101 })).room s m ([ss_v (ss_b G) this, ss_v (ss_b G) a1] : List Value).toArray below meth c H locs k n (MQ below (ss_Qc G none hh) ([ss_v (ss_b G) this, ss_v (ss_b G) a1] : List Value).toArray s 0 0 (ss_A G)) g
theorem ck_A_keep {N : Nat} {this : Option Nat} {a1 : Option Nat} {h : ss_Hp} {res : ss_Hp} (hm : mm_A_keep N this a1 h = some res) : ss_is h this 3 = true := (ss_chk hm).1
set_option maxHeartbeats 4000000 in
set_option maxRecDepth 100000 in
theorem cc_A_keep (l : Launch) (G : ss_G) (N : Nat) (this : Option Nat) (a1 : Option Nat) (h : ss_Hp) (hh : ss_Hp) (hm : mm_A_keep N this a1 h = some hh) : ss_Ct l G yy_A_keep bb_A_keep 2 none ({ frames := 2, cells := 0, slots := 0, locals := 101 }) [ss_v (ss_b G) this, ss_v (ss_b G) a1] h none hh := by
  obtain ⟨hck, hm⟩ := ss_chk hm
  refine Met.ofW (cc := bb_A_keep) (maxL := 2) (ret := none) (by decide) rfl ?_
  intro p e s m args below meth c s₁ B hml hv
  obtain ⟨rfl, hR, hK⟩ := hv
  have hC : CallFix p m c bb_A_keep 2 s _ lw_g sR_3 := ⟨B.exec, B.bytes, hml, findClass_of_methodNamed B.named, fun w hw => atoms_spec (ws := ss_w yy_A_keep bb_A_keep 2 none) B.pre w (List.mem_cons_of_mem _ hw)⟩
  have hx := hC.1
  have hb := hC.2.1
  have hr := B.returns
  have hlocks := B.notSynchronized
  have hS : va_S (ss_A G) s.heap s.heap [] := va_S.rf
  have hl := lv_entry ([ss_v (ss_b G) this, ss_v (ss_b G) a1]) (n := 2) (by simp [lg_sl, ss_v_cat, ss_cat_i, ss_cat_l, ss_cat_r])
  rw [lg_entry_eq]
  generalize (lg_sl ([ss_v (ss_b G) this, ss_v (ss_b G) a1]) ++ List.replicate (2 - (lg_sl ([ss_v (ss_b G) this, ss_v (ss_b G) a1])).length) Slot.unset).toArray = ls at hl ⊢
  have hl : lv_has ls 2 [(0, ss_v (ss_b G) this), (1, ss_v (ss_b G) a1)] := by simpa [lv_args, ss_v_cat, ss_cat_i, ss_cat_l, ss_cat_r] using hl
  have J_35 : ∀ (s0_35 : Option Nat) (s1_35 : Int32) (h_35 : ss_Hp) (H : Heap) (locs : List Loc) (ls : Array Slot), mm_A_keep_j35 N this a1 s0_35 s1_35 h_35 = some hh → ss_R G h_35 H → va_S (ss_A G) s.heap H locs → lv_has ls 2 [(0, ss_v (ss_b G) this)] → ww_A_keep p l e s m below meth c G this a1 h hh  H locs 0 0 (F0 m 35 ls [.int s1_35, ss_v (ss_b G) s0_35]) := by
    intro s0_35 s1_35 h_35 H locs ls hm hR hS hl
    obtain ⟨h1, qh1, hm⟩ := ss_bind hm
    refine ss_puti hC hK hR hS kp_A_18 qh1 dd_A_keep_35 (fun H locs hR hS => ?_)
    refine ss_aload_n hx hb dd_A_keep_38 rfl (lv_at hl 0 rfl) ?_
    refine lv_bipush (v := 20) hx hb dd_A_keep_39 (by decide) ?_
    refine ss_aload_n hx hb dd_A_keep_41 rfl (lv_at hl 0 rfl) ?_
    obtain ⟨v2, qv2, hm⟩ := ss_bind hm
    refine ss_geti hC hK hR kf_A_26 qv2 dd_A_keep_42 ?_
    refine lv_iconst (v := 1) hx hb dd_A_keep_45 (by decide) ?_
    refine lv_iadd hx hb dd_A_keep_46 ?_
    refine ss_min hC hl.1 kj_A_29 kj_min_s kj_math kj_min_c (Nat.le_of_ble_eq_true rfl) (by simp [ss_v_cat, ss_cat_i, ss_cat_l, ss_cat_r]) (Nat.le_of_ble_eq_true rfl) ⟨Nat.le_of_ble_eq_true rfl, Nat.le_of_ble_eq_true rfl⟩ dd_A_keep_47 ?_
    obtain ⟨h3, qh3, hm⟩ := ss_bind hm
    refine ss_puti hC hK hR hS kp_A_26 qh3 dd_A_keep_50 (fun H locs hR hS => ?_)
    exact ss_vret hC hr hlocks hR hS hm dd_A_keep_53
  refine ss_aload_n hx hb dd_A_keep_0 rfl (lv_at hl 0 rfl) ?_
  obtain ⟨r4, qr4, hm⟩ := ss_bind hm
  refine ss_getr hC hK hR kf_A_13 rfl qr4 dd_A_keep_1 ?_
  refine ss_aload_n hx hb dd_A_keep_4 rfl (lv_at hl 0 rfl) ?_
  obtain ⟨v5, qv5, hm⟩ := ss_bind hm
  refine ss_geti hC hK hR kf_A_18 qv5 dd_A_keep_5 ?_
  obtain ⟨r6, qr6, hm⟩ := ss_bind hm
  refine ss_aald hC hK hR (t0 := 4) rfl (by decide) qr6 dd_A_keep_8 ?_
  refine ss_aload_n hx hb dd_A_keep_9 rfl (lv_at hl 1 rfl) ?_
  obtain ⟨h7, qh7, hm⟩ := ss_bind hm
  refine ss_cVv 0 0 (As := [ss_v (ss_b G) a1]) hC hK hR hS hl.1 (cc_G_copyFrom l G N _ _ _ _ qh7) km_A_22 (ck_G_copyFrom qh7) ⟨Nat.le_of_ble_eq_true rfl, Nat.le_of_ble_eq_true rfl⟩ ⟨Nat.le_of_ble_eq_true rfl, Nat.le_of_ble_eq_true rfl, Nat.le_of_ble_eq_true rfl, Nat.le_of_ble_eq_true rfl⟩ rfl rfl (Nat.le_of_ble_eq_true rfl) dd_A_keep_10 (fun H locs hR hS => ?_)
  refine ss_aload_n hx hb dd_A_keep_13 rfl (lv_at hl 0 rfl) ?_
  refine ss_aload_n hx hb dd_A_keep_14 rfl (lv_at hl 0 rfl) ?_
  obtain ⟨v8, qv8, hm⟩ := ss_bind hm
  refine ss_geti hC hK hR kf_A_18 qv8 dd_A_keep_15 ?_
  refine lv_iconst (v := 1) hx hb dd_A_keep_18 (by decide) ?_
  refine lv_iadd hx hb dd_A_keep_19 ?_
  refine lv_bipush (v := 20) hx hb dd_A_keep_20 (by decide) ?_
  refine lv_icmp_ge (tgt := 34) hx hb dd_A_keep_22 (by decide) (fun c9 => ?_) (fun c9 => ?_)
  · have hm := ss_ift hm c9
    refine lv_iconst (v := 0) hx hb dd_A_keep_34 (by decide) ?_
    exact J_35 this (0 : Int32) h7 _ _ _ hm hR hS (lv_sub hl [0] rfl)
  · have hm := ss_iff hm c9
    refine ss_aload_n hx hb dd_A_keep_25 rfl (lv_at hl 0 rfl) ?_
    obtain ⟨v10, qv10, hm⟩ := ss_bind hm
    refine ss_geti hC hK hR kf_A_18 qv10 dd_A_keep_26 ?_
    refine lv_iconst (v := 1) hx hb dd_A_keep_29 (by decide) ?_
    refine lv_iadd hx hb dd_A_keep_30 ?_
    refine lv_goto (tgt := 35) hx hb dd_A_keep_31 (by decide) ?_
    exact J_35 this (v10 + (1 : Int32)) h7 _ _ _ hm hR hS (lv_sub hl [0] rfl)
theorem dd_F_ruleAt_0 : decode bb_F_ruleAt 0 = .ok (.iload_n 1, 1) := by decide +kernel
theorem dd_F_ruleAt_1 : decode bb_F_ruleAt 1 = .ok (.ifCond .lt 21, 3) := by decide +kernel
theorem dd_F_ruleAt_4 : decode bb_F_ruleAt 4 = .ok (.iload_n 1, 1) := by decide +kernel
theorem dd_F_ruleAt_5 : decode bb_F_ruleAt 5 = .ok (.aload_n 0, 1) := by decide +kernel
theorem dd_F_ruleAt_6 : decode bb_F_ruleAt 6 = .ok (.getfield 23, 3) := by decide +kernel
theorem dd_F_ruleAt_9 : decode bb_F_ruleAt 9 = .ok (.arraylength, 1) := by decide +kernel
theorem dd_F_ruleAt_10 : decode bb_F_ruleAt 10 = .ok (.if_icmp .ge 12, 3) := by decide +kernel
theorem dd_F_ruleAt_13 : decode bb_F_ruleAt 13 = .ok (.aload_n 0, 1) := by decide +kernel
theorem dd_F_ruleAt_14 : decode bb_F_ruleAt 14 = .ok (.getfield 23, 3) := by decide +kernel
theorem dd_F_ruleAt_17 : decode bb_F_ruleAt 17 = .ok (.iload_n 1, 1) := by decide +kernel
theorem dd_F_ruleAt_18 : decode bb_F_ruleAt 18 = .ok (.aaload, 1) := by decide +kernel
theorem dd_F_ruleAt_19 : decode bb_F_ruleAt 19 = .ok (.goto 4, 3) := by decide +kernel
theorem dd_F_ruleAt_22 : decode bb_F_ruleAt 22 = .ok (.aconst_null, 1) := by decide +kernel
theorem dd_F_ruleAt_23 : decode bb_F_ruleAt 23 = .ok (.areturn, 1) := by decide +kernel
def mm_F_ruleAt_j23 (N : Nat) (this : Option Nat) (a1 : Int32) (h : ss_Hp) (s0_23 : Option Nat) : Option (Option Nat) :=
  some s0_23
def mm_F_ruleAt_j22 (N : Nat) (this : Option Nat) (a1 : Int32) (h : ss_Hp) : Option (Option Nat) :=
  mm_F_ruleAt_j23 N this a1 h none
def mm_F_ruleAt (N : Nat) (this : Option Nat) (a1 : Int32) (h : ss_Hp) : Option (Option Nat) :=
  if ss_is h this 9 = true then
    if a1 < 0 then
      mm_F_ruleAt_j22 N this a1 h
    else
      (ss_gr h this 9 1).bind fun r2 =>
      (ss_len h r2 25).bind fun v3 =>
      if v3 ≤ a1 then
        mm_F_ruleAt_j22 N this a1 h
      else
        (ss_gr h this 9 1).bind fun r5 =>
        (ss_ar h r5 25 a1).bind fun r6 =>
        mm_F_ruleAt_j23 N this a1 h r6
  else none
abbrev ww_F_ruleAt (p : Program) (l : Launch) (e : Env) (s : State) (m : MethodId) (below : List Frame) (meth : Method) (c : Code) (G : ss_G) (this : Option Nat) (a1 : Int32) (h : ss_Hp) (rr : Option Nat) (H : Heap) (locs : List Loc) (k n : Nat) (g : JFrame) : Prop := W p l e (headSpec (ss_w yy_F_ruleAt bb_F_ruleAt 2 (some (.object "SweptSnow$Rule"))) ({ frames := 0, cells := 0, slots := 0, locals := 0 })).room s m ([ss_v (ss_b G) this, .int a1] : List Value).toArray below meth c H locs k n (MQ below (ss_Qc G (some (ss_v (ss_b G) rr)) h) ([ss_v (ss_b G) this, .int a1] : List Value).toArray s 0 0 (ss_A G)) g
theorem ck_F_ruleAt {N : Nat} {this : Option Nat} {a1 : Int32} {h : ss_Hp} {res : Option Nat} (hm : mm_F_ruleAt N this a1 h = some res) : ss_is h this 9 = true := (ss_chk hm).1
set_option maxHeartbeats 4000000 in
set_option maxRecDepth 100000 in
theorem cc_F_ruleAt (l : Launch) (G : ss_G) (N : Nat) (this : Option Nat) (a1 : Int32) (h : ss_Hp) (rr : Option Nat) (hm : mm_F_ruleAt N this a1 h = some rr) : ss_Ct l G yy_F_ruleAt bb_F_ruleAt 2 (some (.object "SweptSnow$Rule")) ({ frames := 0, cells := 0, slots := 0, locals := 0 }) [ss_v (ss_b G) this, .int a1] h (some (ss_v (ss_b G) rr)) h := by
  obtain ⟨hck, hm⟩ := ss_chk hm
  refine Met.ofW (cc := bb_F_ruleAt) (maxL := 2) (ret := (some (.object "SweptSnow$Rule"))) (by decide) rfl ?_
  intro p e s m args below meth c s₁ B hml hv
  obtain ⟨rfl, hR, hK⟩ := hv
  have hC : CallFix p m c bb_F_ruleAt 2 s _ lw_g sR_9 := ⟨B.exec, B.bytes, hml, findClass_of_methodNamed B.named, fun w hw => atoms_spec (ws := ss_w yy_F_ruleAt bb_F_ruleAt 2 (some (.object "SweptSnow$Rule"))) B.pre w (List.mem_cons_of_mem _ hw)⟩
  have hx := hC.1
  have hb := hC.2.1
  have hr := B.returns
  have hlocks := B.notSynchronized
  have hS : va_S (ss_A G) s.heap s.heap [] := va_S.rf
  have hl := lv_entry ([ss_v (ss_b G) this, .int a1]) (n := 2) (by simp [lg_sl, ss_v_cat, ss_cat_i, ss_cat_l, ss_cat_r])
  rw [lg_entry_eq]
  generalize (lg_sl ([ss_v (ss_b G) this, .int a1]) ++ List.replicate (2 - (lg_sl ([ss_v (ss_b G) this, .int a1])).length) Slot.unset).toArray = ls at hl ⊢
  have hl : lv_has ls 2 [(0, ss_v (ss_b G) this), (1, .int a1)] := by simpa [lv_args, ss_v_cat, ss_cat_i, ss_cat_l, ss_cat_r] using hl
  have J_23 : ∀ (s0_23 : Option Nat) (H : Heap) (locs : List Loc) (ls : Array Slot), mm_F_ruleAt_j23 N this a1 h s0_23 = some rr → ss_R G h H → va_S (ss_A G) s.heap H locs → lv_has ls 2 [] → ww_F_ruleAt p l e s m below meth c G this a1 h rr  H locs 0 0 (F0 m 23 ls [ss_v (ss_b G) s0_23]) := by
    intro s0_23 H locs ls hm hR hS hl
    exact ss_aret hC hr (Or.inl ⟨_, rfl⟩) hlocks hR hS (ss_withr _ hm) dd_F_ruleAt_23
  have J_22 : ∀  (H : Heap) (locs : List Loc) (ls : Array Slot), mm_F_ruleAt_j22 N this a1 h = some rr → ss_R G h H → va_S (ss_A G) s.heap H locs → lv_has ls 2 [] → ww_F_ruleAt p l e s m below meth c G this a1 h rr  H locs 0 0 (F0 m 22 ls []) := by
    intro  H locs ls hm hR hS hl
    refine ss_null hx hb (ss_b G) dd_F_ruleAt_22 ?_
    exact J_23 none  _ _ _ hm hR hS hl
  refine lv_iload_n hx hb dd_F_ruleAt_0 rfl (lv_at hl 1 rfl) ?_
  refine lv_if_lt (tgt := 22) hx hb dd_F_ruleAt_1 (by decide) (fun c1 => ?_) (fun c1 => ?_)
  · have hm := ss_ift hm c1
    exact J_22  _ _ _ hm hR hS (lv_sub hl [] rfl)
  · have hm := ss_iff hm c1
    refine lv_iload_n hx hb dd_F_ruleAt_4 rfl (lv_at hl 1 rfl) ?_
    refine ss_aload_n hx hb dd_F_ruleAt_5 rfl (lv_at hl 0 rfl) ?_
    obtain ⟨r2, qr2, hm⟩ := ss_bind hm
    refine ss_getr hC hK hR kf_F_23 rfl qr2 dd_F_ruleAt_6 ?_
    obtain ⟨v3, qv3, hm⟩ := ss_bind hm
    refine ss_alenQ hC hK hR (t0 := 5) rfl (by decide) qv3 dd_F_ruleAt_9 ?_
    refine lv_icmp_ge (tgt := 22) hx hb dd_F_ruleAt_10 (by decide) (fun c4 => ?_) (fun c4 => ?_)
    · have hm := ss_ift hm c4
      exact J_22  _ _ _ hm hR hS (lv_sub hl [] rfl)
    · have hm := ss_iff hm c4
      refine ss_aload_n hx hb dd_F_ruleAt_13 rfl (lv_at hl 0 rfl) ?_
      obtain ⟨r5, qr5, hm⟩ := ss_bind hm
      refine ss_getr hC hK hR kf_F_23 rfl qr5 dd_F_ruleAt_14 ?_
      refine lv_iload_n hx hb dd_F_ruleAt_17 rfl (lv_at hl 1 rfl) ?_
      obtain ⟨r6, qr6, hm⟩ := ss_bind hm
      refine ss_aald hC hK hR (t0 := 5) rfl (by decide) qr6 dd_F_ruleAt_18 ?_
      refine lv_goto (tgt := 23) hx hb dd_F_ruleAt_19 (by decide) ?_
      exact J_23 r6  _ _ _ hm hR hS (lv_sub hl [] rfl)
theorem dd_Wi_begin_0 : decode bb_Wi_begin 0 = .ok (.aload_n 0, 1) := by decide +kernel
theorem dd_Wi_begin_1 : decode bb_Wi_begin 1 = .ok (.aload_n 1, 1) := by decide +kernel
theorem dd_Wi_begin_2 : decode bb_Wi_begin 2 = .ok (.putfield 37, 3) := by decide +kernel
theorem dd_Wi_begin_5 : decode bb_Wi_begin 5 = .ok (.aload_n 0, 1) := by decide +kernel
theorem dd_Wi_begin_6 : decode bb_Wi_begin 6 = .ok (.aload_n 2, 1) := by decide +kernel
theorem dd_Wi_begin_7 : decode bb_Wi_begin 7 = .ok (.putfield 41, 3) := by decide +kernel
theorem dd_Wi_begin_10 : decode bb_Wi_begin 10 = .ok (.aload_n 0, 1) := by decide +kernel
theorem dd_Wi_begin_11 : decode bb_Wi_begin 11 = .ok (.getfield 12, 3) := by decide +kernel
theorem dd_Wi_begin_14 : decode bb_Wi_begin 14 = .ok (.aload_n 3, 1) := by decide +kernel
theorem dd_Wi_begin_15 : decode bb_Wi_begin 15 = .ok (.invokevirtual 45, 3) := by decide +kernel
theorem dd_Wi_begin_18 : decode bb_Wi_begin 18 = .ok (.aload_n 1, 1) := by decide +kernel
theorem dd_Wi_begin_19 : decode bb_Wi_begin 19 = .ok (.getfield 49, 3) := by decide +kernel
theorem dd_Wi_begin_22 : decode bb_Wi_begin 22 = .ok (.iconst 0, 1) := by decide +kernel
theorem dd_Wi_begin_23 : decode bb_Wi_begin 23 = .ok (.aload_n 0, 1) := by decide +kernel
theorem dd_Wi_begin_24 : decode bb_Wi_begin 24 = .ok (.getfield 18, 3) := by decide +kernel
theorem dd_Wi_begin_27 : decode bb_Wi_begin 27 = .ok (.iconst 0, 1) := by decide +kernel
theorem dd_Wi_begin_28 : decode bb_Wi_begin 28 = .ok (.iconst 4, 1) := by decide +kernel
theorem dd_Wi_begin_29 : decode bb_Wi_begin 29 = .ok (.invokestatic 52, 3) := by decide +kernel
theorem dd_Wi_begin_32 : decode bb_Wi_begin 32 = .ok (.iconst 0, 1) := by decide +kernel
theorem dd_Wi_begin_33 : decode bb_Wi_begin 33 = .ok (.istore 4, 2) := by decide +kernel
theorem dd_Wi_begin_35 : decode bb_Wi_begin 35 = .ok (.iload 4, 2) := by decide +kernel
theorem dd_Wi_begin_37 : decode bb_Wi_begin 37 = .ok (.bipush 8, 2) := by decide +kernel
theorem dd_Wi_begin_39 : decode bb_Wi_begin 39 = .ok (.if_icmp .ge 25, 3) := by decide +kernel
theorem dd_Wi_begin_42 : decode bb_Wi_begin 42 = .ok (.aload_n 0, 1) := by decide +kernel
theorem dd_Wi_begin_43 : decode bb_Wi_begin 43 = .ok (.getfield 22, 3) := by decide +kernel
theorem dd_Wi_begin_46 : decode bb_Wi_begin 46 = .ok (.iload 4, 2) := by decide +kernel
theorem dd_Wi_begin_48 : decode bb_Wi_begin 48 = .ok (.iconst 0, 1) := by decide +kernel
theorem dd_Wi_begin_49 : decode bb_Wi_begin 49 = .ok (.iastore, 1) := by decide +kernel
theorem dd_Wi_begin_50 : decode bb_Wi_begin 50 = .ok (.aload_n 0, 1) := by decide +kernel
theorem dd_Wi_begin_51 : decode bb_Wi_begin 51 = .ok (.getfield 25, 3) := by decide +kernel
theorem dd_Wi_begin_54 : decode bb_Wi_begin 54 = .ok (.iload 4, 2) := by decide +kernel
theorem dd_Wi_begin_56 : decode bb_Wi_begin 56 = .ok (.iconst 0, 1) := by decide +kernel
theorem dd_Wi_begin_57 : decode bb_Wi_begin 57 = .ok (.iastore, 1) := by decide +kernel
theorem dd_Wi_begin_58 : decode bb_Wi_begin 58 = .ok (.iinc 4 1, 3) := by decide +kernel
theorem dd_Wi_begin_61 : decode bb_Wi_begin 61 = .ok (.goto (-26), 3) := by decide +kernel
theorem dd_Wi_begin_64 : decode bb_Wi_begin 64 = .ok (.return_, 1) := by decide +kernel
def mm_Wi_begin_b35 (N : Nat) (this : Option Nat) (st : Int32 × ss_Hp) : Option ((Int32 × ss_Hp) ⊕ ss_Hp) :=
  match st with
  | (x4_35, h_35) =>
    if (8 : Int32) ≤ x4_35 then
      some (.inr h_35)
    else
      (ss_gr h_35 this 7 2).bind fun r9 =>
      (ss_ui h_35 r9 20 x4_35 (0 : Int32)).bind fun h10 =>
      (ss_gr h10 this 7 3).bind fun r11 =>
      (ss_ui h10 r11 20 x4_35 (0 : Int32)).bind fun h12 =>
      (some (x4_35 + (1 : Int32))).bind fun v13 =>
      some (.inl (v13, h12))
def mm_Wi_begin (N : Nat) (this : Option Nat) (a1 : Option Nat) (a2 : Option Nat) (a3 : Option Nat) (h : ss_Hp) : Option ss_Hp :=
  if ss_is h this 7 = true then
    (ss_pr h this 7 6 a1).bind fun h1 =>
    (ss_pr h1 this 7 7 a2).bind fun h2 =>
    (ss_gr h2 this 7 0).bind fun r3 =>
    (mm_G_copyFrom N r3 a3 h2).bind fun h4 =>
    (ss_gr h4 a1 5 1).bind fun r5 =>
    (ss_gr h4 this 7 1).bind fun r6 =>
    (ss_cp h4 r5 (0 : Int32) r6 (0 : Int32) (4 : Int32)).bind fun h7 =>
    (ss_lp (mm_Wi_begin_b35 N this) N ((0 : Int32), h7)).bind fun h_35_64 =>
    some h_35_64
  else none
abbrev ww_Wi_begin (p : Program) (l : Launch) (e : Env) (s : State) (m : MethodId) (below : List Frame) (meth : Method) (c : Code) (G : ss_G) (this : Option Nat) (a1 : Option Nat) (a2 : Option Nat) (a3 : Option Nat) (h : ss_Hp) (hh : ss_Hp) (H : Heap) (locs : List Loc) (k n : Nat) (g : JFrame) : Prop := W p l e (headSpec (ss_w yy_Wi_begin bb_Wi_begin 5 none) ({ frames := 2, cells := 0, slots := 0, locals := 101 })).room s m ([ss_v (ss_b G) this, ss_v (ss_b G) a1, ss_v (ss_b G) a2, ss_v (ss_b G) a3] : List Value).toArray below meth c H locs k n (MQ below (ss_Qc G none hh) ([ss_v (ss_b G) this, ss_v (ss_b G) a1, ss_v (ss_b G) a2, ss_v (ss_b G) a3] : List Value).toArray s 0 0 (ss_A G)) g
theorem ck_Wi_begin {N : Nat} {this : Option Nat} {a1 : Option Nat} {a2 : Option Nat} {a3 : Option Nat} {h : ss_Hp} {res : ss_Hp} (hm : mm_Wi_begin N this a1 a2 a3 h = some res) : ss_is h this 7 = true := (ss_chk hm).1
set_option maxHeartbeats 4000000 in
set_option maxRecDepth 100000 in
theorem cc_Wi_begin (l : Launch) (G : ss_G) (N : Nat) (this : Option Nat) (a1 : Option Nat) (a2 : Option Nat) (a3 : Option Nat) (h : ss_Hp) (hh : ss_Hp) (hm : mm_Wi_begin N this a1 a2 a3 h = some hh) : ss_Ct l G yy_Wi_begin bb_Wi_begin 5 none ({ frames := 2, cells := 0, slots := 0, locals := 101 }) [ss_v (ss_b G) this, ss_v (ss_b G) a1, ss_v (ss_b G) a2, ss_v (ss_b G) a3] h none hh := by
  obtain ⟨hck, hm⟩ := ss_chk hm
  refine Met.ofW (cc := bb_Wi_begin) (maxL := 5) (ret := none) (by decide) rfl ?_
  intro p e s m args below meth c s₁ B hml hv
  obtain ⟨rfl, hR, hK⟩ := hv
  have hC : CallFix p m c bb_Wi_begin 5 s _ lw_g sR_7 := ⟨B.exec, B.bytes, hml, findClass_of_methodNamed B.named, fun w hw => atoms_spec (ws := ss_w yy_Wi_begin bb_Wi_begin 5 none) B.pre w (List.mem_cons_of_mem _ hw)⟩
  have hx := hC.1
  have hb := hC.2.1
  have hr := B.returns
  have hlocks := B.notSynchronized
  have hS : va_S (ss_A G) s.heap s.heap [] := va_S.rf
  have hl := lv_entry ([ss_v (ss_b G) this, ss_v (ss_b G) a1, ss_v (ss_b G) a2, ss_v (ss_b G) a3]) (n := 5) (by simp [lg_sl, ss_v_cat, ss_cat_i, ss_cat_l, ss_cat_r])
  rw [lg_entry_eq]
  generalize (lg_sl ([ss_v (ss_b G) this, ss_v (ss_b G) a1, ss_v (ss_b G) a2, ss_v (ss_b G) a3]) ++ List.replicate (5 - (lg_sl ([ss_v (ss_b G) this, ss_v (ss_b G) a1, ss_v (ss_b G) a2, ss_v (ss_b G) a3])).length) Slot.unset).toArray = ls at hl ⊢
  have hl : lv_has ls 5 [(0, ss_v (ss_b G) this), (1, ss_v (ss_b G) a1), (2, ss_v (ss_b G) a2), (3, ss_v (ss_b G) a3)] := by simpa [lv_args, ss_v_cat, ss_cat_i, ss_cat_l, ss_cat_r] using hl
  refine ss_aload_n hx hb dd_Wi_begin_0 rfl (lv_at hl 0 rfl) ?_
  refine ss_aload_n hx hb dd_Wi_begin_1 rfl (lv_at hl 1 rfl) ?_
  obtain ⟨h1, qh1, hm⟩ := ss_bind hm
  refine ss_putr hC hK hR hS kp_Wi_37 rfl (Or.inl ⟨_, rfl⟩) qh1 dd_Wi_begin_2 (fun H locs hR hS => ?_)
  refine ss_aload_n hx hb dd_Wi_begin_5 rfl (lv_at hl 0 rfl) ?_
  refine ss_aload_n hx hb dd_Wi_begin_6 rfl (lv_at hl 2 rfl) ?_
  obtain ⟨h2, qh2, hm⟩ := ss_bind hm
  refine ss_putr hC hK hR hS kp_Wi_41 rfl (Or.inl ⟨_, rfl⟩) qh2 dd_Wi_begin_7 (fun H locs hR hS => ?_)
  refine ss_aload_n hx hb dd_Wi_begin_10 rfl (lv_at hl 0 rfl) ?_
  obtain ⟨r3, qr3, hm⟩ := ss_bind hm
  refine ss_getr hC hK hR kf_Wi_12 rfl qr3 dd_Wi_begin_11 ?_
  refine ss_aload_n hx hb dd_Wi_begin_14 rfl (lv_at hl 3 rfl) ?_
  obtain ⟨h4, qh4, hm⟩ := ss_bind hm
  refine ss_cVv 0 0 (As := [ss_v (ss_b G) a3]) hC hK hR hS hl.1 (cc_G_copyFrom l G N _ _ _ _ qh4) km_Wi_45 (ck_G_copyFrom qh4) ⟨Nat.le_of_ble_eq_true rfl, Nat.le_of_ble_eq_true rfl⟩ ⟨Nat.le_of_ble_eq_true rfl, Nat.le_of_ble_eq_true rfl, Nat.le_of_ble_eq_true rfl, Nat.le_of_ble_eq_true rfl⟩ rfl rfl (Nat.le_of_ble_eq_true rfl) dd_Wi_begin_15 (fun H locs hR hS => ?_)
  refine ss_aload_n hx hb dd_Wi_begin_18 rfl (lv_at hl 1 rfl) ?_
  obtain ⟨r5, qr5, hm⟩ := ss_bind hm
  refine ss_getr hC hK hR kf_Wi_49 rfl qr5 dd_Wi_begin_19 ?_
  refine lv_iconst (v := 0) hx hb dd_Wi_begin_22 (by decide) ?_
  refine ss_aload_n hx hb dd_Wi_begin_23 rfl (lv_at hl 0 rfl) ?_
  obtain ⟨r6, qr6, hm⟩ := ss_bind hm
  refine ss_getr hC hK hR kf_Wi_18 rfl qr6 dd_Wi_begin_24 ?_
  refine lv_iconst (v := 0) hx hb dd_Wi_begin_27 (by decide) ?_
  refine lv_iconst (v := 4) hx hb dd_Wi_begin_28 (by decide) ?_
  obtain ⟨h7, qh7, hm⟩ := ss_bind hm
  refine ss_copy hC hK hR hS hl.1 kj_Wi_52 kj_ac_n kj_ac_s kj_sys qh7 (Nat.le_of_ble_eq_true rfl) (Nat.le_of_ble_eq_true rfl) (by decide) dd_Wi_begin_29 (fun H locs hR hS => ?_)
  refine lv_iconst (v := 0) hx hb dd_Wi_begin_32 (by decide) ?_
  refine lv_istore (lv' := [(4, .int (0 : Int32)), (0, ss_v (ss_b G) this), (1, ss_v (ss_b G) a1), (2, ss_v (ss_b G) a2), (3, ss_v (ss_b G) a3)]) hx hb dd_Wi_begin_33 hl (by decide) (by simp only [List.filter_cons, ss_v_cat]; rfl) (fun ls hl => ?_)
  obtain ⟨e_35, he_35, hm⟩ := ss_bind hm
  have X_35_64 : ∀  (h_35_64 : ss_Hp) (H : Heap) (locs : List Loc) (ls : Array Slot), e_35 = h_35_64 → ss_R G h_35_64 H → va_S (ss_A G) s.heap H locs → lv_has ls 5 [] → ww_Wi_begin p l e s m below meth c G this a1 a2 a3 h hh  H locs 0 0 (F0 m 64 ls []) := by
    intro h_35_64 H locs ls hq hR hS hl
    rw [hq] at hm
    exact ss_vret hC hr hlocks hR hS hm dd_Wi_begin_64
  have L_35 : ∀ (n : Nat) (x4_35 : Int32) (h_35 : ss_Hp) (H : Heap) (locs : List Loc) (ls : Array Slot), ss_lp (mm_Wi_begin_b35 N this) n (x4_35, h_35) = some e_35 → ss_R G h_35 H → va_S (ss_A G) s.heap H locs → lv_has ls 5 [(0, ss_v (ss_b G) this), (4, .int x4_35)] → ww_Wi_begin p l e s m below meth c G this a1 a2 a3 h hh  H locs 0 0 (F0 m 35 ls []) := by
    intro n
    induction n with
    | zero => intro x4_35 h_35 H locs ls hm; cases hm
    | succ n ih_35 =>
      intro x4_35 h_35 H locs ls hm hR hS hl
      obtain ⟨z_35, hm, hz1_35, hz2_35⟩ := ss_lps hm
      refine lv_iload hx hb dd_Wi_begin_35 (lv_at hl 1 rfl) ?_
      refine lv_bipush (v := 8) hx hb dd_Wi_begin_37 (by decide) ?_
      refine lv_icmp_ge (tgt := 64) hx hb dd_Wi_begin_39 (by decide) (fun c8 => ?_) (fun c8 => ?_)
      · have hm := ss_ift hm c8
        exact X_35_64 h_35 _ _ _ (hz2_35 _ (ss_some hm)) hR hS (lv_sub hl [] rfl)
      · have hm := ss_iff hm c8
        refine ss_aload_n hx hb dd_Wi_begin_42 rfl (lv_at hl 0 rfl) ?_
        obtain ⟨r9, qr9, hm⟩ := ss_bind hm
        refine ss_getr hC hK hR kf_Wi_22 rfl qr9 dd_Wi_begin_43 ?_
        refine lv_iload hx hb dd_Wi_begin_46 (lv_at hl 1 rfl) ?_
        refine lv_iconst (v := 0) hx hb dd_Wi_begin_48 (by decide) ?_
        obtain ⟨h10, qh10, hm⟩ := ss_bind hm
        refine ss_iast hC hK hR hS qh10 dd_Wi_begin_49 (fun H locs hR hS => ?_)
        refine ss_aload_n hx hb dd_Wi_begin_50 rfl (lv_at hl 0 rfl) ?_
        obtain ⟨r11, qr11, hm⟩ := ss_bind hm
        refine ss_getr hC hK hR kf_Wi_25 rfl qr11 dd_Wi_begin_51 ?_
        refine lv_iload hx hb dd_Wi_begin_54 (lv_at hl 1 rfl) ?_
        refine lv_iconst (v := 0) hx hb dd_Wi_begin_56 (by decide) ?_
        obtain ⟨h12, qh12, hm⟩ := ss_bind hm
        refine ss_iast hC hK hR hS qh12 dd_Wi_begin_57 (fun H locs hR hS => ?_)
        obtain ⟨v13, qv13, hm⟩ := ss_bind hm
        refine lv_iinc (v := v13) (lv' := [(4, .int v13), (0, ss_v (ss_b G) this)]) hx hb dd_Wi_begin_58 hl (k := 1) rfl (ss_inc (by decide) qv13) (by decide) rfl (fun ls hl => ?_)
        refine lv_goto (tgt := 35) hx hb dd_Wi_begin_61 (by decide) ?_
        exact ih_35 v13 h12 _ _ _ (hz1_35 _ (ss_some hm)) hR hS (lv_sub hl [1, 0] rfl)
  exact L_35 N (0 : Int32) h7 _ _ _ he_35 hR hS (lv_sub hl [1, 0] rfl)
theorem dd_F_start_0 : decode bb_F_start 0 = .ok (.aload_n 0, 1) := by decide +kernel
theorem dd_F_start_1 : decode bb_F_start 1 = .ok (.getfield 27, 3) := by decide +kernel
theorem dd_F_start_4 : decode bb_F_start 4 = .ok (.aload_n 0, 1) := by decide +kernel
theorem dd_F_start_5 : decode bb_F_start 5 = .ok (.getfield 19, 3) := by decide +kernel
theorem dd_F_start_8 : decode bb_F_start 8 = .ok (.getfield 31, 3) := by decide +kernel
theorem dd_F_start_11 : decode bb_F_start 11 = .ok (.aload_n 0, 1) := by decide +kernel
theorem dd_F_start_12 : decode bb_F_start 12 = .ok (.aload_n 0, 1) := by decide +kernel
theorem dd_F_start_13 : decode bb_F_start 13 = .ok (.getfield 19, 3) := by decide +kernel
theorem dd_F_start_16 : decode bb_F_start 16 = .ok (.getfield 37, 3) := by decide +kernel
theorem dd_F_start_19 : decode bb_F_start 19 = .ok (.invokevirtual 41, 3) := by decide +kernel
theorem dd_F_start_22 : decode bb_F_start 22 = .ok (.aload_n 0, 1) := by decide +kernel
theorem dd_F_start_23 : decode bb_F_start 23 = .ok (.getfield 19, 3) := by decide +kernel
theorem dd_F_start_26 : decode bb_F_start 26 = .ok (.getfield 45, 3) := by decide +kernel
theorem dd_F_start_29 : decode bb_F_start 29 = .ok (.invokevirtual 49, 3) := by decide +kernel
theorem dd_F_start_32 : decode bb_F_start 32 = .ok (.return_, 1) := by decide +kernel
def mm_F_start (N : Nat) (this : Option Nat) (h : ss_Hp) : Option ss_Hp :=
  if ss_is h this 9 = true then
    (ss_gr h this 9 2).bind fun r1 =>
    (ss_gr h this 9 0).bind fun r2 =>
    (ss_gr h r2 8 0).bind fun r3 =>
    (ss_gr h this 9 0).bind fun r4 =>
    (ss_gi h r4 8 0).bind fun v5 =>
    (mm_F_ruleAt N this v5 h).bind fun r6 =>
    (ss_gr h this 9 0).bind fun r7 =>
    (ss_gr h r7 8 1).bind fun r8 =>
    (mm_Wi_begin N r1 r3 r6 r8 h).bind fun h9 =>
    some h9
  else none
abbrev ww_F_start (p : Program) (l : Launch) (e : Env) (s : State) (m : MethodId) (below : List Frame) (meth : Method) (c : Code) (G : ss_G) (this : Option Nat) (h : ss_Hp) (hh : ss_Hp) (H : Heap) (locs : List Loc) (k n : Nat) (g : JFrame) : Prop := W p l e (headSpec (ss_w yy_F_start bb_F_start 1 none) ({ frames := 3, cells := 0, slots := 0, locals := 125 })).room s m ([ss_v (ss_b G) this] : List Value).toArray below meth c H locs k n (MQ below (ss_Qc G none hh) ([ss_v (ss_b G) this] : List Value).toArray s 0 0 (ss_A G)) g
theorem ck_F_start {N : Nat} {this : Option Nat} {h : ss_Hp} {res : ss_Hp} (hm : mm_F_start N this h = some res) : ss_is h this 9 = true := (ss_chk hm).1
set_option maxHeartbeats 4000000 in
set_option maxRecDepth 100000 in
theorem cc_F_start (l : Launch) (G : ss_G) (N : Nat) (this : Option Nat) (h : ss_Hp) (hh : ss_Hp) (hm : mm_F_start N this h = some hh) : ss_Ct l G yy_F_start bb_F_start 1 none ({ frames := 3, cells := 0, slots := 0, locals := 125 }) [ss_v (ss_b G) this] h none hh := by
  obtain ⟨hck, hm⟩ := ss_chk hm
  refine Met.ofW (cc := bb_F_start) (maxL := 1) (ret := none) (by decide) rfl ?_
  intro p e s m args below meth c s₁ B hml hv
  obtain ⟨rfl, hR, hK⟩ := hv
  have hC : CallFix p m c bb_F_start 1 s _ lw_g sR_9 := ⟨B.exec, B.bytes, hml, findClass_of_methodNamed B.named, fun w hw => atoms_spec (ws := ss_w yy_F_start bb_F_start 1 none) B.pre w (List.mem_cons_of_mem _ hw)⟩
  have hx := hC.1
  have hb := hC.2.1
  have hr := B.returns
  have hlocks := B.notSynchronized
  have hS : va_S (ss_A G) s.heap s.heap [] := va_S.rf
  have hl := lv_entry ([ss_v (ss_b G) this]) (n := 1) (by simp [lg_sl, ss_v_cat, ss_cat_i, ss_cat_l, ss_cat_r])
  rw [lg_entry_eq]
  generalize (lg_sl ([ss_v (ss_b G) this]) ++ List.replicate (1 - (lg_sl ([ss_v (ss_b G) this])).length) Slot.unset).toArray = ls at hl ⊢
  have hl : lv_has ls 1 [(0, ss_v (ss_b G) this)] := by simpa [lv_args, ss_v_cat, ss_cat_i, ss_cat_l, ss_cat_r] using hl
  refine ss_aload_n hx hb dd_F_start_0 rfl (lv_at hl 0 rfl) ?_
  obtain ⟨r1, qr1, hm⟩ := ss_bind hm
  refine ss_getr hC hK hR kf_F_27 rfl qr1 dd_F_start_1 ?_
  refine ss_aload_n hx hb dd_F_start_4 rfl (lv_at hl 0 rfl) ?_
  obtain ⟨r2, qr2, hm⟩ := ss_bind hm
  refine ss_getr hC hK hR kf_F_19 rfl qr2 dd_F_start_5 ?_
  obtain ⟨r3, qr3, hm⟩ := ss_bind hm
  refine ss_getr hC hK hR kf_F_31 rfl qr3 dd_F_start_8 ?_
  refine ss_aload_n hx hb dd_F_start_11 rfl (lv_at hl 0 rfl) ?_
  refine ss_aload_n hx hb dd_F_start_12 rfl (lv_at hl 0 rfl) ?_
  obtain ⟨r4, qr4, hm⟩ := ss_bind hm
  refine ss_getr hC hK hR kf_F_19 rfl qr4 dd_F_start_13 ?_
  obtain ⟨v5, qv5, hm⟩ := ss_bind hm
  refine ss_geti hC hK hR kf_F_37 qv5 dd_F_start_16 ?_
  obtain ⟨r6, qr6, hm⟩ := ss_bind hm
  refine ss_cV 0 0 (As := [.int v5]) hC hK hR hS hl.1 (cc_F_ruleAt l G N _ _ _ _ qr6) km_F_41 (ck_F_ruleAt qr6) ⟨Nat.le_of_ble_eq_true rfl, Nat.le_of_ble_eq_true rfl⟩ ⟨Nat.le_of_ble_eq_true rfl, Nat.le_of_ble_eq_true rfl, Nat.le_of_ble_eq_true rfl, Nat.le_of_ble_eq_true rfl⟩ rfl rfl (by simp [ss_v_cat, ss_cat_i, ss_cat_l, ss_cat_r]) dd_F_start_19 (fun H locs hR hS => ?_)
  refine ss_aload_n hx hb dd_F_start_22 rfl (lv_at hl 0 rfl) ?_
  obtain ⟨r7, qr7, hm⟩ := ss_bind hm
  refine ss_getr hC hK hR kf_F_19 rfl qr7 dd_F_start_23 ?_
  obtain ⟨r8, qr8, hm⟩ := ss_bind hm
  refine ss_getr hC hK hR kf_F_45 rfl qr8 dd_F_start_26 ?_
  obtain ⟨h9, qh9, hm⟩ := ss_bind hm
  refine ss_cVv 0 0 (As := [ss_v (ss_b G) r3, ss_v (ss_b G) r6, ss_v (ss_b G) r8]) hC hK hR hS hl.1 (cc_Wi_begin l G N _ _ _ _ _ _ qh9) km_F_49 (ck_Wi_begin qh9) ⟨Nat.le_of_ble_eq_true rfl, Nat.le_of_ble_eq_true rfl⟩ ⟨Nat.le_of_ble_eq_true rfl, Nat.le_of_ble_eq_true rfl, Nat.le_of_ble_eq_true rfl, Nat.le_of_ble_eq_true rfl⟩ rfl rfl (Nat.le_of_ble_eq_true rfl) dd_F_start_29 (fun H locs hR hS => ?_)
  exact ss_vret hC hr hlocks hR hS hm dd_F_start_32
theorem dd_Wi_closedBits_0 : decode bb_Wi_closedBits 0 = .ok (.aload_n 0, 1) := by decide +kernel
theorem dd_Wi_closedBits_1 : decode bb_Wi_closedBits 1 = .ok (.getfield 37, 3) := by decide +kernel
theorem dd_Wi_closedBits_4 : decode bb_Wi_closedBits 4 = .ok (.aload_n 0, 1) := by decide +kernel
theorem dd_Wi_closedBits_5 : decode bb_Wi_closedBits 5 = .ok (.getfield 12, 3) := by decide +kernel
theorem dd_Wi_closedBits_8 : decode bb_Wi_closedBits 8 = .ok (.invokevirtual 58, 3) := by decide +kernel
theorem dd_Wi_closedBits_11 : decode bb_Wi_closedBits 11 = .ok (.ireturn, 1) := by decide +kernel
def mm_Wi_closedBits (N : Nat) (this : Option Nat) (h : ss_Hp) : Option Int32 :=
  if ss_is h this 7 = true then
    (ss_gr h this 7 6).bind fun r1 =>
    (ss_gr h this 7 0).bind fun r2 =>
    (mm_V_closedBits N r1 r2 h).bind fun v3 =>
    some v3
  else none
abbrev ww_Wi_closedBits (p : Program) (l : Launch) (e : Env) (s : State) (m : MethodId) (below : List Frame) (meth : Method) (c : Code) (G : ss_G) (this : Option Nat) (h : ss_Hp) (rr : Int32) (H : Heap) (locs : List Loc) (k n : Nat) (g : JFrame) : Prop := W p l e (headSpec (ss_w yy_Wi_closedBits bb_Wi_closedBits 1 (some (.int))) ({ frames := 1, cells := 0, slots := 0, locals := 23 })).room s m ([ss_v (ss_b G) this] : List Value).toArray below meth c H locs k n (MQ below (ss_Qc G (some (.int rr)) h) ([ss_v (ss_b G) this] : List Value).toArray s 0 0 (ss_A G)) g
theorem ck_Wi_closedBits {N : Nat} {this : Option Nat} {h : ss_Hp} {res : Int32} (hm : mm_Wi_closedBits N this h = some res) : ss_is h this 7 = true := (ss_chk hm).1
set_option maxHeartbeats 4000000 in
set_option maxRecDepth 100000 in
theorem cc_Wi_closedBits (l : Launch) (G : ss_G) (N : Nat) (this : Option Nat) (h : ss_Hp) (rr : Int32) (hm : mm_Wi_closedBits N this h = some rr) : ss_Ct l G yy_Wi_closedBits bb_Wi_closedBits 1 (some (.int)) ({ frames := 1, cells := 0, slots := 0, locals := 23 }) [ss_v (ss_b G) this] h (some (.int rr)) h := by
  obtain ⟨hck, hm⟩ := ss_chk hm
  refine Met.ofW (cc := bb_Wi_closedBits) (maxL := 1) (ret := (some (.int))) (by decide) rfl ?_
  intro p e s m args below meth c s₁ B hml hv
  obtain ⟨rfl, hR, hK⟩ := hv
  have hC : CallFix p m c bb_Wi_closedBits 1 s _ lw_g sR_7 := ⟨B.exec, B.bytes, hml, findClass_of_methodNamed B.named, fun w hw => atoms_spec (ws := ss_w yy_Wi_closedBits bb_Wi_closedBits 1 (some (.int))) B.pre w (List.mem_cons_of_mem _ hw)⟩
  have hx := hC.1
  have hb := hC.2.1
  have hr := B.returns
  have hlocks := B.notSynchronized
  have hS : va_S (ss_A G) s.heap s.heap [] := va_S.rf
  have hl := lv_entry ([ss_v (ss_b G) this]) (n := 1) (by simp [lg_sl, ss_v_cat, ss_cat_i, ss_cat_l, ss_cat_r])
  rw [lg_entry_eq]
  generalize (lg_sl ([ss_v (ss_b G) this]) ++ List.replicate (1 - (lg_sl ([ss_v (ss_b G) this])).length) Slot.unset).toArray = ls at hl ⊢
  have hl : lv_has ls 1 [(0, ss_v (ss_b G) this)] := by simpa [lv_args, ss_v_cat, ss_cat_i, ss_cat_l, ss_cat_r] using hl
  refine ss_aload_n hx hb dd_Wi_closedBits_0 rfl (lv_at hl 0 rfl) ?_
  obtain ⟨r1, qr1, hm⟩ := ss_bind hm
  refine ss_getr hC hK hR kf_Wi_37 rfl qr1 dd_Wi_closedBits_1 ?_
  refine ss_aload_n hx hb dd_Wi_closedBits_4 rfl (lv_at hl 0 rfl) ?_
  obtain ⟨r2, qr2, hm⟩ := ss_bind hm
  refine ss_getr hC hK hR kf_Wi_12 rfl qr2 dd_Wi_closedBits_5 ?_
  obtain ⟨v3, qv3, hm⟩ := ss_bind hm
  refine ss_cV 0 0 (As := [ss_v (ss_b G) r2]) hC hK hR hS hl.1 (cc_V_closedBits l G N _ _ _ _ qv3) km_Wi_58 (ck_V_closedBits qv3) ⟨Nat.le_of_ble_eq_true rfl, Nat.le_of_ble_eq_true rfl⟩ ⟨Nat.le_of_ble_eq_true rfl, Nat.le_of_ble_eq_true rfl, Nat.le_of_ble_eq_true rfl, Nat.le_of_ble_eq_true rfl⟩ rfl rfl (Nat.le_of_ble_eq_true rfl) dd_Wi_closedBits_8 (fun H locs hR hS => ?_)
  exact ss_iret hC hr hlocks hR hS (ss_with _ hm) dd_Wi_closedBits_11
theorem dd_JI_bitCount_0 : decode bb_JI_bitCount 0 = .ok (.iload_n 0, 1) := by decide +kernel
theorem dd_JI_bitCount_1 : decode bb_JI_bitCount 1 = .ok (.iload_n 0, 1) := by decide +kernel
theorem dd_JI_bitCount_2 : decode bb_JI_bitCount 2 = .ok (.iconst 1, 1) := by decide +kernel
theorem dd_JI_bitCount_3 : decode bb_JI_bitCount 3 = .ok (.iushr, 1) := by decide +kernel
theorem dd_JI_bitCount_4 : decode bb_JI_bitCount 4 = .ok (.ldc_w 265, 3) := by decide +kernel
theorem dd_JI_bitCount_7 : decode bb_JI_bitCount 7 = .ok (.iand, 1) := by decide +kernel
theorem dd_JI_bitCount_8 : decode bb_JI_bitCount 8 = .ok (.isub, 1) := by decide +kernel
theorem dd_JI_bitCount_9 : decode bb_JI_bitCount 9 = .ok (.istore_n 0, 1) := by decide +kernel
theorem dd_JI_bitCount_10 : decode bb_JI_bitCount 10 = .ok (.iload_n 0, 1) := by decide +kernel
theorem dd_JI_bitCount_11 : decode bb_JI_bitCount 11 = .ok (.ldc_w 266, 3) := by decide +kernel
theorem dd_JI_bitCount_14 : decode bb_JI_bitCount 14 = .ok (.iand, 1) := by decide +kernel
theorem dd_JI_bitCount_15 : decode bb_JI_bitCount 15 = .ok (.iload_n 0, 1) := by decide +kernel
theorem dd_JI_bitCount_16 : decode bb_JI_bitCount 16 = .ok (.iconst 2, 1) := by decide +kernel
theorem dd_JI_bitCount_17 : decode bb_JI_bitCount 17 = .ok (.iushr, 1) := by decide +kernel
theorem dd_JI_bitCount_18 : decode bb_JI_bitCount 18 = .ok (.ldc_w 266, 3) := by decide +kernel
theorem dd_JI_bitCount_21 : decode bb_JI_bitCount 21 = .ok (.iand, 1) := by decide +kernel
theorem dd_JI_bitCount_22 : decode bb_JI_bitCount 22 = .ok (.iadd, 1) := by decide +kernel
theorem dd_JI_bitCount_23 : decode bb_JI_bitCount 23 = .ok (.istore_n 0, 1) := by decide +kernel
theorem dd_JI_bitCount_24 : decode bb_JI_bitCount 24 = .ok (.iload_n 0, 1) := by decide +kernel
theorem dd_JI_bitCount_25 : decode bb_JI_bitCount 25 = .ok (.iload_n 0, 1) := by decide +kernel
theorem dd_JI_bitCount_26 : decode bb_JI_bitCount 26 = .ok (.iconst 4, 1) := by decide +kernel
theorem dd_JI_bitCount_27 : decode bb_JI_bitCount 27 = .ok (.iushr, 1) := by decide +kernel
theorem dd_JI_bitCount_28 : decode bb_JI_bitCount 28 = .ok (.iadd, 1) := by decide +kernel
theorem dd_JI_bitCount_29 : decode bb_JI_bitCount 29 = .ok (.ldc_w 267, 3) := by decide +kernel
theorem dd_JI_bitCount_32 : decode bb_JI_bitCount 32 = .ok (.iand, 1) := by decide +kernel
theorem dd_JI_bitCount_33 : decode bb_JI_bitCount 33 = .ok (.istore_n 0, 1) := by decide +kernel
theorem dd_JI_bitCount_34 : decode bb_JI_bitCount 34 = .ok (.iload_n 0, 1) := by decide +kernel
theorem dd_JI_bitCount_35 : decode bb_JI_bitCount 35 = .ok (.iload_n 0, 1) := by decide +kernel
theorem dd_JI_bitCount_36 : decode bb_JI_bitCount 36 = .ok (.bipush 8, 2) := by decide +kernel
theorem dd_JI_bitCount_38 : decode bb_JI_bitCount 38 = .ok (.iushr, 1) := by decide +kernel
theorem dd_JI_bitCount_39 : decode bb_JI_bitCount 39 = .ok (.iadd, 1) := by decide +kernel
theorem dd_JI_bitCount_40 : decode bb_JI_bitCount 40 = .ok (.istore_n 0, 1) := by decide +kernel
theorem dd_JI_bitCount_41 : decode bb_JI_bitCount 41 = .ok (.iload_n 0, 1) := by decide +kernel
theorem dd_JI_bitCount_42 : decode bb_JI_bitCount 42 = .ok (.iload_n 0, 1) := by decide +kernel
theorem dd_JI_bitCount_43 : decode bb_JI_bitCount 43 = .ok (.bipush 16, 2) := by decide +kernel
theorem dd_JI_bitCount_45 : decode bb_JI_bitCount 45 = .ok (.iushr, 1) := by decide +kernel
theorem dd_JI_bitCount_46 : decode bb_JI_bitCount 46 = .ok (.iadd, 1) := by decide +kernel
theorem dd_JI_bitCount_47 : decode bb_JI_bitCount 47 = .ok (.istore_n 0, 1) := by decide +kernel
theorem dd_JI_bitCount_48 : decode bb_JI_bitCount 48 = .ok (.iload_n 0, 1) := by decide +kernel
theorem dd_JI_bitCount_49 : decode bb_JI_bitCount 49 = .ok (.bipush 63, 2) := by decide +kernel
theorem dd_JI_bitCount_51 : decode bb_JI_bitCount 51 = .ok (.iand, 1) := by decide +kernel
theorem dd_JI_bitCount_52 : decode bb_JI_bitCount 52 = .ok (.ireturn, 1) := by decide +kernel
def mm_JI_bitCount (N : Nat) (a1 : Int32) : Option Int32 :=
  (some (a1 - ((((a1).toUInt32 >>> (((1 : Int32)).toUInt32 &&& Int32.toUInt32 31)).toInt32) &&& (1431655765 : Int32)))).bind fun v1 =>
  (some ((v1 &&& (858993459 : Int32)) + ((((v1).toUInt32 >>> (((2 : Int32)).toUInt32 &&& Int32.toUInt32 31)).toInt32) &&& (858993459 : Int32)))).bind fun v2 =>
  (some ((v2 + (((v2).toUInt32 >>> (((4 : Int32)).toUInt32 &&& Int32.toUInt32 31)).toInt32)) &&& (252645135 : Int32))).bind fun v3 =>
  (some (v3 + (((v3).toUInt32 >>> (((8 : Int32)).toUInt32 &&& Int32.toUInt32 31)).toInt32))).bind fun v4 =>
  (some (v4 + (((v4).toUInt32 >>> (((16 : Int32)).toUInt32 &&& Int32.toUInt32 31)).toInt32))).bind fun v5 =>
  some (v5 &&& (63 : Int32))
abbrev ww_JI_bitCount (p : Program) (l : Launch) (e : Env) (s : State) (m : MethodId) (below : List Frame) (meth : Method) (c : Code) (G : ss_G) (a1 : Int32) (h : ss_Hp) (rr : Int32) (H : Heap) (locs : List Loc) (k n : Nat) (g : JFrame) : Prop := W p l e (headSpec (ss_w yy_JI_bitCount bb_JI_bitCount 1 (some (.int))) ({ frames := 0, cells := 0, slots := 0, locals := 0 })).room s m ([.int a1] : List Value).toArray below meth c H locs k n (MQ below (ss_Qc G (some (.int rr)) h) ([.int a1] : List Value).toArray s 0 0 (ss_A G)) g
set_option maxHeartbeats 4000000 in
set_option maxRecDepth 100000 in
theorem cc_JI_bitCount (l : Launch) (G : ss_G) (N : Nat) (a1 : Int32) (h : ss_Hp) (rr : Int32) (hm : mm_JI_bitCount N a1 = some rr) : ss_Ct l G yy_JI_bitCount bb_JI_bitCount 1 (some (.int)) ({ frames := 0, cells := 0, slots := 0, locals := 0 }) [.int a1] h (some (.int rr)) h := by
  refine Met.ofW (cc := bb_JI_bitCount) (maxL := 1) (ret := (some (.int))) (by decide) rfl ?_
  intro p e s m args below meth c s₁ B hml hv
  obtain ⟨rfl, hR, hK⟩ := hv
  have hC : CallFix p m c bb_JI_bitCount 1 s _ lw_g "java/lang/Integer" := ⟨B.exec, B.bytes, hml, findClass_of_methodNamed B.named, fun w hw => atoms_spec (ws := ss_w yy_JI_bitCount bb_JI_bitCount 1 (some (.int))) B.pre w (List.mem_cons_of_mem _ hw)⟩
  have hx := hC.1
  have hb := hC.2.1
  have hr := B.returns
  have hlocks := B.notSynchronized
  have hS : va_S (ss_A G) s.heap s.heap [] := va_S.rf
  have hl := lv_entry ([.int a1]) (n := 1) (Nat.le_of_ble_eq_true rfl)
  rw [lg_entry_eq]
  generalize (lg_sl ([.int a1]) ++ List.replicate (1 - (lg_sl ([.int a1])).length) Slot.unset).toArray = ls at hl ⊢
  have hl : lv_has ls 1 [(0, .int a1)] := hl
  refine lv_iload_n hx hb dd_JI_bitCount_0 rfl (lv_at hl 0 rfl) ?_
  refine lv_iload_n hx hb dd_JI_bitCount_1 rfl (lv_at hl 0 rfl) ?_
  refine lv_iconst (v := 1) hx hb dd_JI_bitCount_2 (by decide) ?_
  refine lv_iushr hx hb dd_JI_bitCount_3 rfl ?_
  refine lv_ldcw (v := 1431655765) hx hb hC.2.2.2.1 (hC.2.2.2.2 _ kc_JI_265) dd_JI_bitCount_4 ?_
  refine lv_iand hx hb dd_JI_bitCount_7 ?_
  refine lv_isub hx hb dd_JI_bitCount_8 ?_
  obtain ⟨v1, qv1, hm⟩ := ss_bind hm
  refine ss_topi qv1 ?_
  refine lv_istore_n (lv' := [(0, .int v1)]) hx hb dd_JI_bitCount_9 rfl hl (by decide) rfl (fun ls hl => ?_)
  refine lv_iload_n hx hb dd_JI_bitCount_10 rfl (lv_at hl 0 rfl) ?_
  refine lv_ldcw (v := 858993459) hx hb hC.2.2.2.1 (hC.2.2.2.2 _ kc_JI_266) dd_JI_bitCount_11 ?_
  refine lv_iand hx hb dd_JI_bitCount_14 ?_
  refine lv_iload_n hx hb dd_JI_bitCount_15 rfl (lv_at hl 0 rfl) ?_
  refine lv_iconst (v := 2) hx hb dd_JI_bitCount_16 (by decide) ?_
  refine lv_iushr hx hb dd_JI_bitCount_17 rfl ?_
  refine lv_ldcw (v := 858993459) hx hb hC.2.2.2.1 (hC.2.2.2.2 _ kc_JI_266) dd_JI_bitCount_18 ?_
  refine lv_iand hx hb dd_JI_bitCount_21 ?_
  refine lv_iadd hx hb dd_JI_bitCount_22 ?_
  obtain ⟨v2, qv2, hm⟩ := ss_bind hm
  refine ss_topi qv2 ?_
  refine lv_istore_n (lv' := [(0, .int v2)]) hx hb dd_JI_bitCount_23 rfl hl (by decide) rfl (fun ls hl => ?_)
  refine lv_iload_n hx hb dd_JI_bitCount_24 rfl (lv_at hl 0 rfl) ?_
  refine lv_iload_n hx hb dd_JI_bitCount_25 rfl (lv_at hl 0 rfl) ?_
  refine lv_iconst (v := 4) hx hb dd_JI_bitCount_26 (by decide) ?_
  refine lv_iushr hx hb dd_JI_bitCount_27 rfl ?_
  refine lv_iadd hx hb dd_JI_bitCount_28 ?_
  refine lv_ldcw (v := 252645135) hx hb hC.2.2.2.1 (hC.2.2.2.2 _ kc_JI_267) dd_JI_bitCount_29 ?_
  refine lv_iand hx hb dd_JI_bitCount_32 ?_
  obtain ⟨v3, qv3, hm⟩ := ss_bind hm
  refine ss_topi qv3 ?_
  refine lv_istore_n (lv' := [(0, .int v3)]) hx hb dd_JI_bitCount_33 rfl hl (by decide) rfl (fun ls hl => ?_)
  refine lv_iload_n hx hb dd_JI_bitCount_34 rfl (lv_at hl 0 rfl) ?_
  refine lv_iload_n hx hb dd_JI_bitCount_35 rfl (lv_at hl 0 rfl) ?_
  refine lv_bipush (v := 8) hx hb dd_JI_bitCount_36 (by decide) ?_
  refine lv_iushr hx hb dd_JI_bitCount_38 rfl ?_
  refine lv_iadd hx hb dd_JI_bitCount_39 ?_
  obtain ⟨v4, qv4, hm⟩ := ss_bind hm
  refine ss_topi qv4 ?_
  refine lv_istore_n (lv' := [(0, .int v4)]) hx hb dd_JI_bitCount_40 rfl hl (by decide) rfl (fun ls hl => ?_)
  refine lv_iload_n hx hb dd_JI_bitCount_41 rfl (lv_at hl 0 rfl) ?_
  refine lv_iload_n hx hb dd_JI_bitCount_42 rfl (lv_at hl 0 rfl) ?_
  refine lv_bipush (v := 16) hx hb dd_JI_bitCount_43 (by decide) ?_
  refine lv_iushr hx hb dd_JI_bitCount_45 rfl ?_
  refine lv_iadd hx hb dd_JI_bitCount_46 ?_
  obtain ⟨v5, qv5, hm⟩ := ss_bind hm
  refine ss_topi qv5 ?_
  refine lv_istore_n (lv' := [(0, .int v5)]) hx hb dd_JI_bitCount_47 rfl hl (by decide) rfl (fun ls hl => ?_)
  refine lv_iload_n hx hb dd_JI_bitCount_48 rfl (lv_at hl 0 rfl) ?_
  refine lv_bipush (v := 63) hx hb dd_JI_bitCount_49 (by decide) ?_
  refine lv_iand hx hb dd_JI_bitCount_51 ?_
  exact ss_iret hC hr hlocks hR hS (ss_with _ hm) dd_JI_bitCount_52
theorem dd_V_daysToNeed_0 : decode bb_V_daysToNeed 0 = .ok (.iload_n 2, 1) := by decide +kernel
theorem dd_V_daysToNeed_1 : decode bb_V_daysToNeed 1 = .ok (.bipush 30, 2) := by decide +kernel
theorem dd_V_daysToNeed_3 : decode bb_V_daysToNeed 3 = .ok (.if_icmp .gt 14, 3) := by decide +kernel
theorem dd_V_daysToNeed_6 : decode bb_V_daysToNeed 6 = .ok (.aload_n 0, 1) := by decide +kernel
theorem dd_V_daysToNeed_7 : decode bb_V_daysToNeed 7 = .ok (.getfield 21, 3) := by decide +kernel
theorem dd_V_daysToNeed_10 : decode bb_V_daysToNeed 10 = .ok (.iload_n 1, 1) := by decide +kernel
theorem dd_V_daysToNeed_11 : decode bb_V_daysToNeed 11 = .ok (.iaload, 1) := by decide +kernel
theorem dd_V_daysToNeed_12 : decode bb_V_daysToNeed 12 = .ok (.iload_n 2, 1) := by decide +kernel
theorem dd_V_daysToNeed_13 : decode bb_V_daysToNeed 13 = .ok (.ishr, 1) := by decide +kernel
theorem dd_V_daysToNeed_14 : decode bb_V_daysToNeed 14 = .ok (.goto 4, 3) := by decide +kernel
theorem dd_V_daysToNeed_17 : decode bb_V_daysToNeed 17 = .ok (.iconst 0, 1) := by decide +kernel
theorem dd_V_daysToNeed_18 : decode bb_V_daysToNeed 18 = .ok (.istore_n 3, 1) := by decide +kernel
theorem dd_V_daysToNeed_19 : decode bb_V_daysToNeed 19 = .ok (.iload_n 3, 1) := by decide +kernel
theorem dd_V_daysToNeed_20 : decode bb_V_daysToNeed 20 = .ok (.ifCond .ne 8, 3) := by decide +kernel
theorem dd_V_daysToNeed_23 : decode bb_V_daysToNeed 23 = .ok (.bipush 99, 2) := by decide +kernel
theorem dd_V_daysToNeed_25 : decode bb_V_daysToNeed 25 = .ok (.goto 12, 3) := by decide +kernel
theorem dd_V_daysToNeed_28 : decode bb_V_daysToNeed 28 = .ok (.iload_n 3, 1) := by decide +kernel
theorem dd_V_daysToNeed_29 : decode bb_V_daysToNeed 29 = .ok (.iload_n 3, 1) := by decide +kernel
theorem dd_V_daysToNeed_30 : decode bb_V_daysToNeed 30 = .ok (.ineg, 1) := by decide +kernel
theorem dd_V_daysToNeed_31 : decode bb_V_daysToNeed 31 = .ok (.iand, 1) := by decide +kernel
theorem dd_V_daysToNeed_32 : decode bb_V_daysToNeed 32 = .ok (.iconst 1, 1) := by decide +kernel
theorem dd_V_daysToNeed_33 : decode bb_V_daysToNeed 33 = .ok (.isub, 1) := by decide +kernel
theorem dd_V_daysToNeed_34 : decode bb_V_daysToNeed 34 = .ok (.invokestatic 39, 3) := by decide +kernel
theorem dd_V_daysToNeed_37 : decode bb_V_daysToNeed 37 = .ok (.ireturn, 1) := by decide +kernel
def mm_V_daysToNeed_j37 (N : Nat) (this : Option Nat) (a1 : Int32) (a2 : Int32) (h : ss_Hp) (s0_37 : Int32) : Option Int32 :=
  some s0_37
def mm_V_daysToNeed_j18 (N : Nat) (this : Option Nat) (a1 : Int32) (a2 : Int32) (h : ss_Hp) (s0_18 : Int32) : Option Int32 :=
  if s0_18 = 0 then
    mm_V_daysToNeed_j37 N this a1 a2 h (99 : Int32)
  else
    (mm_JI_bitCount N ((s0_18 &&& (-s0_18)) - (1 : Int32))).bind fun v2 =>
    mm_V_daysToNeed_j37 N this a1 a2 h v2
def mm_V_daysToNeed (N : Nat) (this : Option Nat) (a1 : Int32) (a2 : Int32) (h : ss_Hp) : Option Int32 :=
  if ss_is h this 5 = true then
    if (30 : Int32) < a2 then
      mm_V_daysToNeed_j18 N this a1 a2 h (0 : Int32)
    else
      (ss_gr h this 5 3).bind fun r4 =>
      (ss_ai h r4 20 a1).bind fun v5 =>
      mm_V_daysToNeed_j18 N this a1 a2 h (v5 >>> (a2 &&& 31))
  else none
abbrev ww_V_daysToNeed (p : Program) (l : Launch) (e : Env) (s : State) (m : MethodId) (below : List Frame) (meth : Method) (c : Code) (G : ss_G) (this : Option Nat) (a1 : Int32) (a2 : Int32) (h : ss_Hp) (rr : Int32) (H : Heap) (locs : List Loc) (k n : Nat) (g : JFrame) : Prop := W p l e (headSpec (ss_w yy_V_daysToNeed bb_V_daysToNeed 4 (some (.int))) ({ frames := 1, cells := 0, slots := 0, locals := 20 })).room s m ([ss_v (ss_b G) this, .int a1, .int a2] : List Value).toArray below meth c H locs k n (MQ below (ss_Qc G (some (.int rr)) h) ([ss_v (ss_b G) this, .int a1, .int a2] : List Value).toArray s 0 0 (ss_A G)) g
theorem ck_V_daysToNeed {N : Nat} {this : Option Nat} {a1 : Int32} {a2 : Int32} {h : ss_Hp} {res : Int32} (hm : mm_V_daysToNeed N this a1 a2 h = some res) : ss_is h this 5 = true := (ss_chk hm).1
set_option maxHeartbeats 4000000 in
set_option maxRecDepth 100000 in
theorem cc_V_daysToNeed (l : Launch) (G : ss_G) (N : Nat) (this : Option Nat) (a1 : Int32) (a2 : Int32) (h : ss_Hp) (rr : Int32) (hm : mm_V_daysToNeed N this a1 a2 h = some rr) : ss_Ct l G yy_V_daysToNeed bb_V_daysToNeed 4 (some (.int)) ({ frames := 1, cells := 0, slots := 0, locals := 20 }) [ss_v (ss_b G) this, .int a1, .int a2] h (some (.int rr)) h := by
  obtain ⟨hck, hm⟩ := ss_chk hm
  refine Met.ofW (cc := bb_V_daysToNeed) (maxL := 4) (ret := (some (.int))) (by decide) rfl ?_
  intro p e s m args below meth c s₁ B hml hv
  obtain ⟨rfl, hR, hK⟩ := hv
  have hC : CallFix p m c bb_V_daysToNeed 4 s _ lw_g sR_5 := ⟨B.exec, B.bytes, hml, findClass_of_methodNamed B.named, fun w hw => atoms_spec (ws := ss_w yy_V_daysToNeed bb_V_daysToNeed 4 (some (.int))) B.pre w (List.mem_cons_of_mem _ hw)⟩
  have hx := hC.1
  have hb := hC.2.1
  have hr := B.returns
  have hlocks := B.notSynchronized
  have hS : va_S (ss_A G) s.heap s.heap [] := va_S.rf
  have hl := lv_entry ([ss_v (ss_b G) this, .int a1, .int a2]) (n := 4) (by simp [lg_sl, ss_v_cat, ss_cat_i, ss_cat_l, ss_cat_r])
  rw [lg_entry_eq]
  generalize (lg_sl ([ss_v (ss_b G) this, .int a1, .int a2]) ++ List.replicate (4 - (lg_sl ([ss_v (ss_b G) this, .int a1, .int a2])).length) Slot.unset).toArray = ls at hl ⊢
  have hl : lv_has ls 4 [(0, ss_v (ss_b G) this), (1, .int a1), (2, .int a2)] := by simpa [lv_args, ss_v_cat, ss_cat_i, ss_cat_l, ss_cat_r] using hl
  have J_37 : ∀ (s0_37 : Int32) (H : Heap) (locs : List Loc) (ls : Array Slot), mm_V_daysToNeed_j37 N this a1 a2 h s0_37 = some rr → ss_R G h H → va_S (ss_A G) s.heap H locs → lv_has ls 4 [] → ww_V_daysToNeed p l e s m below meth c G this a1 a2 h rr  H locs 0 0 (F0 m 37 ls [.int s0_37]) := by
    intro s0_37 H locs ls hm hR hS hl
    exact ss_iret hC hr hlocks hR hS (ss_with _ hm) dd_V_daysToNeed_37
  have J_18 : ∀ (s0_18 : Int32) (H : Heap) (locs : List Loc) (ls : Array Slot), mm_V_daysToNeed_j18 N this a1 a2 h s0_18 = some rr → ss_R G h H → va_S (ss_A G) s.heap H locs → lv_has ls 4 [] → ww_V_daysToNeed p l e s m below meth c G this a1 a2 h rr  H locs 0 0 (F0 m 18 ls [.int s0_18]) := by
    intro s0_18 H locs ls hm hR hS hl
    refine lv_istore_n (lv' := [(3, .int s0_18)]) hx hb dd_V_daysToNeed_18 rfl hl (by decide) rfl (fun ls hl => ?_)
    refine lv_iload_n hx hb dd_V_daysToNeed_19 rfl (lv_at hl 0 rfl) ?_
    refine lv_if_ne (tgt := 28) hx hb dd_V_daysToNeed_20 (by decide) (fun c1 => ?_) (fun c1 => ?_)
    · have hm := ss_iff hm c1
      refine lv_iload_n hx hb dd_V_daysToNeed_28 rfl (lv_at hl 0 rfl) ?_
      refine lv_iload_n hx hb dd_V_daysToNeed_29 rfl (lv_at hl 0 rfl) ?_
      refine lv_ineg hx hb dd_V_daysToNeed_30 ?_
      refine lv_iand hx hb dd_V_daysToNeed_31 ?_
      refine lv_iconst (v := 1) hx hb dd_V_daysToNeed_32 (by decide) ?_
      refine lv_isub hx hb dd_V_daysToNeed_33 ?_
      obtain ⟨v2, qv2, hm⟩ := ss_bind hm
      refine ss_cS 0 0 (As := [.int ((s0_18 &&& (-s0_18)) - (1 : Int32))]) hC hK hR hS hl.1 (cc_JI_bitCount l G N _ _ _ qv2) km_V_39 ⟨Nat.le_of_ble_eq_true rfl, Nat.le_of_ble_eq_true rfl⟩ ⟨Nat.le_of_ble_eq_true rfl, Nat.le_of_ble_eq_true rfl, Nat.le_of_ble_eq_true rfl, Nat.le_of_ble_eq_true rfl⟩ rfl rfl (Nat.le_of_ble_eq_true rfl) dd_V_daysToNeed_34 (fun H locs hR hS => ?_)
      exact J_37 v2  _ _ _ hm hR hS (lv_sub hl [] rfl)
    · have hm := ss_ift hm c1
      refine lv_bipush (v := 99) hx hb dd_V_daysToNeed_23 (by decide) ?_
      refine lv_goto (tgt := 37) hx hb dd_V_daysToNeed_25 (by decide) ?_
      exact J_37 (99 : Int32)  _ _ _ hm hR hS (lv_sub hl [] rfl)
  refine lv_iload_n hx hb dd_V_daysToNeed_0 rfl (lv_at hl 2 rfl) ?_
  refine lv_bipush (v := 30) hx hb dd_V_daysToNeed_1 (by decide) ?_
  refine lv_icmp_gt (tgt := 17) hx hb dd_V_daysToNeed_3 (by decide) (fun c3 => ?_) (fun c3 => ?_)
  · have hm := ss_ift hm c3
    refine lv_iconst (v := 0) hx hb dd_V_daysToNeed_17 (by decide) ?_
    exact J_18 (0 : Int32)  _ _ _ hm hR hS (lv_sub hl [] rfl)
  · have hm := ss_iff hm c3
    refine ss_aload_n hx hb dd_V_daysToNeed_6 rfl (lv_at hl 0 rfl) ?_
    obtain ⟨r4, qr4, hm⟩ := ss_bind hm
    refine ss_getr hC hK hR kf_V_21 rfl qr4 dd_V_daysToNeed_7 ?_
    refine lv_iload_n hx hb dd_V_daysToNeed_10 rfl (lv_at hl 1 rfl) ?_
    obtain ⟨v5, qv5, hm⟩ := ss_bind hm
    refine ss_iald hC hK hR qv5 dd_V_daysToNeed_11 ?_
    refine lv_iload_n hx hb dd_V_daysToNeed_12 rfl (lv_at hl 2 rfl) ?_
    refine lv_ishr hx hb dd_V_daysToNeed_13 ?_
    refine lv_goto (tgt := 18) hx hb dd_V_daysToNeed_14 (by decide) ?_
    exact J_18 (v5 >>> (a2 &&& 31))  _ _ _ hm hR hS (lv_sub hl [] rfl)
theorem dd_Wi_lookAt_0 : decode bb_Wi_lookAt 0 = .ok (.aload_n 0, 1) := by decide +kernel
theorem dd_Wi_lookAt_1 : decode bb_Wi_lookAt 1 = .ok (.getfield 30, 3) := by decide +kernel
theorem dd_Wi_lookAt_4 : decode bb_Wi_lookAt 4 = .ok (.iconst 0, 1) := by decide +kernel
theorem dd_Wi_lookAt_5 : decode bb_Wi_lookAt 5 = .ok (.iload_n 1, 1) := by decide +kernel
theorem dd_Wi_lookAt_6 : decode bb_Wi_lookAt 6 = .ok (.i2l, 1) := by decide +kernel
theorem dd_Wi_lookAt_7 : decode bb_Wi_lookAt 7 = .ok (.lastore, 1) := by decide +kernel
theorem dd_Wi_lookAt_8 : decode bb_Wi_lookAt 8 = .ok (.aload_n 0, 1) := by decide +kernel
theorem dd_Wi_lookAt_9 : decode bb_Wi_lookAt 9 = .ok (.getfield 30, 3) := by decide +kernel
theorem dd_Wi_lookAt_12 : decode bb_Wi_lookAt 12 = .ok (.iconst 1, 1) := by decide +kernel
theorem dd_Wi_lookAt_13 : decode bb_Wi_lookAt 13 = .ok (.iload_n 2, 1) := by decide +kernel
theorem dd_Wi_lookAt_14 : decode bb_Wi_lookAt 14 = .ok (.i2l, 1) := by decide +kernel
theorem dd_Wi_lookAt_15 : decode bb_Wi_lookAt 15 = .ok (.lastore, 1) := by decide +kernel
theorem dd_Wi_lookAt_16 : decode bb_Wi_lookAt 16 = .ok (.aload_n 0, 1) := by decide +kernel
theorem dd_Wi_lookAt_17 : decode bb_Wi_lookAt 17 = .ok (.getfield 30, 3) := by decide +kernel
theorem dd_Wi_lookAt_20 : decode bb_Wi_lookAt 20 = .ok (.iconst 2, 1) := by decide +kernel
theorem dd_Wi_lookAt_21 : decode bb_Wi_lookAt 21 = .ok (.aload_n 0, 1) := by decide +kernel
theorem dd_Wi_lookAt_22 : decode bb_Wi_lookAt 22 = .ok (.getfield 37, 3) := by decide +kernel
theorem dd_Wi_lookAt_25 : decode bb_Wi_lookAt 25 = .ok (.getfield 113, 3) := by decide +kernel
theorem dd_Wi_lookAt_28 : decode bb_Wi_lookAt 28 = .ok (.iload_n 1, 1) := by decide +kernel
theorem dd_Wi_lookAt_29 : decode bb_Wi_lookAt 29 = .ok (.iaload, 1) := by decide +kernel
theorem dd_Wi_lookAt_30 : decode bb_Wi_lookAt 30 = .ok (.iload_n 2, 1) := by decide +kernel
theorem dd_Wi_lookAt_31 : decode bb_Wi_lookAt 31 = .ok (.if_icmp .ne 7, 3) := by decide +kernel
theorem dd_Wi_lookAt_34 : decode bb_Wi_lookAt 34 = .ok (.lconst 1, 1) := by decide +kernel
theorem dd_Wi_lookAt_35 : decode bb_Wi_lookAt 35 = .ok (.goto 4, 3) := by decide +kernel
theorem dd_Wi_lookAt_38 : decode bb_Wi_lookAt 38 = .ok (.lconst 0, 1) := by decide +kernel
theorem dd_Wi_lookAt_39 : decode bb_Wi_lookAt 39 = .ok (.lastore, 1) := by decide +kernel
theorem dd_Wi_lookAt_40 : decode bb_Wi_lookAt 40 = .ok (.aload_n 0, 1) := by decide +kernel
theorem dd_Wi_lookAt_41 : decode bb_Wi_lookAt 41 = .ok (.getfield 30, 3) := by decide +kernel
theorem dd_Wi_lookAt_44 : decode bb_Wi_lookAt 44 = .ok (.iconst 3, 1) := by decide +kernel
theorem dd_Wi_lookAt_45 : decode bb_Wi_lookAt 45 = .ok (.aload_n 0, 1) := by decide +kernel
theorem dd_Wi_lookAt_46 : decode bb_Wi_lookAt 46 = .ok (.getfield 12, 3) := by decide +kernel
theorem dd_Wi_lookAt_49 : decode bb_Wi_lookAt 49 = .ok (.getfield 62, 3) := by decide +kernel
theorem dd_Wi_lookAt_52 : decode bb_Wi_lookAt 52 = .ok (.iload_n 2, 1) := by decide +kernel
theorem dd_Wi_lookAt_53 : decode bb_Wi_lookAt 53 = .ok (.iaload, 1) := by decide +kernel
theorem dd_Wi_lookAt_54 : decode bb_Wi_lookAt 54 = .ok (.i2l, 1) := by decide +kernel
theorem dd_Wi_lookAt_55 : decode bb_Wi_lookAt 55 = .ok (.lastore, 1) := by decide +kernel
theorem dd_Wi_lookAt_56 : decode bb_Wi_lookAt 56 = .ok (.aload_n 0, 1) := by decide +kernel
theorem dd_Wi_lookAt_57 : decode bb_Wi_lookAt 57 = .ok (.getfield 30, 3) := by decide +kernel
theorem dd_Wi_lookAt_60 : decode bb_Wi_lookAt 60 = .ok (.iconst 4, 1) := by decide +kernel
theorem dd_Wi_lookAt_61 : decode bb_Wi_lookAt 61 = .ok (.aload_n 0, 1) := by decide +kernel
theorem dd_Wi_lookAt_62 : decode bb_Wi_lookAt 62 = .ok (.getfield 18, 3) := by decide +kernel
theorem dd_Wi_lookAt_65 : decode bb_Wi_lookAt 65 = .ok (.iload_n 1, 1) := by decide +kernel
theorem dd_Wi_lookAt_66 : decode bb_Wi_lookAt 66 = .ok (.iaload, 1) := by decide +kernel
theorem dd_Wi_lookAt_67 : decode bb_Wi_lookAt 67 = .ok (.i2l, 1) := by decide +kernel
theorem dd_Wi_lookAt_68 : decode bb_Wi_lookAt 68 = .ok (.lastore, 1) := by decide +kernel
theorem dd_Wi_lookAt_69 : decode bb_Wi_lookAt 69 = .ok (.aload_n 0, 1) := by decide +kernel
theorem dd_Wi_lookAt_70 : decode bb_Wi_lookAt 70 = .ok (.getfield 30, 3) := by decide +kernel
theorem dd_Wi_lookAt_73 : decode bb_Wi_lookAt 73 = .ok (.iconst 5, 1) := by decide +kernel
theorem dd_Wi_lookAt_74 : decode bb_Wi_lookAt 74 = .ok (.aload_n 0, 1) := by decide +kernel
theorem dd_Wi_lookAt_75 : decode bb_Wi_lookAt 75 = .ok (.getfield 12, 3) := by decide +kernel
theorem dd_Wi_lookAt_78 : decode bb_Wi_lookAt 78 = .ok (.getfield 71, 3) := by decide +kernel
theorem dd_Wi_lookAt_81 : decode bb_Wi_lookAt 81 = .ok (.iload_n 2, 1) := by decide +kernel
theorem dd_Wi_lookAt_82 : decode bb_Wi_lookAt 82 = .ok (.ishr, 1) := by decide +kernel
theorem dd_Wi_lookAt_83 : decode bb_Wi_lookAt 83 = .ok (.iconst 1, 1) := by decide +kernel
theorem dd_Wi_lookAt_84 : decode bb_Wi_lookAt 84 = .ok (.iand, 1) := by decide +kernel
theorem dd_Wi_lookAt_85 : decode bb_Wi_lookAt 85 = .ok (.i2l, 1) := by decide +kernel
theorem dd_Wi_lookAt_86 : decode bb_Wi_lookAt 86 = .ok (.lastore, 1) := by decide +kernel
theorem dd_Wi_lookAt_87 : decode bb_Wi_lookAt 87 = .ok (.aload_n 0, 1) := by decide +kernel
theorem dd_Wi_lookAt_88 : decode bb_Wi_lookAt 88 = .ok (.getfield 30, 3) := by decide +kernel
theorem dd_Wi_lookAt_91 : decode bb_Wi_lookAt 91 = .ok (.bipush 6, 2) := by decide +kernel
theorem dd_Wi_lookAt_93 : decode bb_Wi_lookAt 93 = .ok (.aload_n 0, 1) := by decide +kernel
theorem dd_Wi_lookAt_94 : decode bb_Wi_lookAt 94 = .ok (.getfield 12, 3) := by decide +kernel
theorem dd_Wi_lookAt_97 : decode bb_Wi_lookAt 97 = .ok (.getfield 105, 3) := by decide +kernel
theorem dd_Wi_lookAt_100 : decode bb_Wi_lookAt 100 = .ok (.iload_n 2, 1) := by decide +kernel
theorem dd_Wi_lookAt_101 : decode bb_Wi_lookAt 101 = .ok (.ishr, 1) := by decide +kernel
theorem dd_Wi_lookAt_102 : decode bb_Wi_lookAt 102 = .ok (.iconst 1, 1) := by decide +kernel
theorem dd_Wi_lookAt_103 : decode bb_Wi_lookAt 103 = .ok (.iand, 1) := by decide +kernel
theorem dd_Wi_lookAt_104 : decode bb_Wi_lookAt 104 = .ok (.i2l, 1) := by decide +kernel
theorem dd_Wi_lookAt_105 : decode bb_Wi_lookAt 105 = .ok (.lastore, 1) := by decide +kernel
theorem dd_Wi_lookAt_106 : decode bb_Wi_lookAt 106 = .ok (.aload_n 0, 1) := by decide +kernel
theorem dd_Wi_lookAt_107 : decode bb_Wi_lookAt 107 = .ok (.getfield 30, 3) := by decide +kernel
theorem dd_Wi_lookAt_110 : decode bb_Wi_lookAt 110 = .ok (.bipush 7, 2) := by decide +kernel
theorem dd_Wi_lookAt_112 : decode bb_Wi_lookAt 112 = .ok (.iload_n 3, 1) := by decide +kernel
theorem dd_Wi_lookAt_113 : decode bb_Wi_lookAt 113 = .ok (.invokestatic 124, 3) := by decide +kernel
theorem dd_Wi_lookAt_116 : decode bb_Wi_lookAt 116 = .ok (.i2l, 1) := by decide +kernel
theorem dd_Wi_lookAt_117 : decode bb_Wi_lookAt 117 = .ok (.lastore, 1) := by decide +kernel
theorem dd_Wi_lookAt_118 : decode bb_Wi_lookAt 118 = .ok (.aload_n 0, 1) := by decide +kernel
theorem dd_Wi_lookAt_119 : decode bb_Wi_lookAt 119 = .ok (.getfield 30, 3) := by decide +kernel
theorem dd_Wi_lookAt_122 : decode bb_Wi_lookAt 122 = .ok (.bipush 8, 2) := by decide +kernel
theorem dd_Wi_lookAt_124 : decode bb_Wi_lookAt 124 = .ok (.aload_n 0, 1) := by decide +kernel
theorem dd_Wi_lookAt_125 : decode bb_Wi_lookAt 125 = .ok (.getfield 37, 3) := by decide +kernel
theorem dd_Wi_lookAt_128 : decode bb_Wi_lookAt 128 = .ok (.iload_n 2, 1) := by decide +kernel
theorem dd_Wi_lookAt_129 : decode bb_Wi_lookAt 129 = .ok (.aload_n 0, 1) := by decide +kernel
theorem dd_Wi_lookAt_130 : decode bb_Wi_lookAt 130 = .ok (.getfield 12, 3) := by decide +kernel
theorem dd_Wi_lookAt_133 : decode bb_Wi_lookAt 133 = .ok (.getfield 108, 3) := by decide +kernel
theorem dd_Wi_lookAt_136 : decode bb_Wi_lookAt 136 = .ok (.invokevirtual 129, 3) := by decide +kernel
theorem dd_Wi_lookAt_139 : decode bb_Wi_lookAt 139 = .ok (.ifCond .eq 7, 3) := by decide +kernel
theorem dd_Wi_lookAt_142 : decode bb_Wi_lookAt 142 = .ok (.lconst 1, 1) := by decide +kernel
theorem dd_Wi_lookAt_143 : decode bb_Wi_lookAt 143 = .ok (.goto 4, 3) := by decide +kernel
theorem dd_Wi_lookAt_146 : decode bb_Wi_lookAt 146 = .ok (.lconst 0, 1) := by decide +kernel
theorem dd_Wi_lookAt_147 : decode bb_Wi_lookAt 147 = .ok (.lastore, 1) := by decide +kernel
theorem dd_Wi_lookAt_148 : decode bb_Wi_lookAt 148 = .ok (.aload_n 0, 1) := by decide +kernel
theorem dd_Wi_lookAt_149 : decode bb_Wi_lookAt 149 = .ok (.getfield 30, 3) := by decide +kernel
theorem dd_Wi_lookAt_152 : decode bb_Wi_lookAt 152 = .ok (.bipush 9, 2) := by decide +kernel
theorem dd_Wi_lookAt_154 : decode bb_Wi_lookAt 154 = .ok (.aload_n 0, 1) := by decide +kernel
theorem dd_Wi_lookAt_155 : decode bb_Wi_lookAt 155 = .ok (.getfield 37, 3) := by decide +kernel
theorem dd_Wi_lookAt_158 : decode bb_Wi_lookAt 158 = .ok (.iload_n 2, 1) := by decide +kernel
theorem dd_Wi_lookAt_159 : decode bb_Wi_lookAt 159 = .ok (.aload_n 0, 1) := by decide +kernel
theorem dd_Wi_lookAt_160 : decode bb_Wi_lookAt 160 = .ok (.getfield 12, 3) := by decide +kernel
theorem dd_Wi_lookAt_163 : decode bb_Wi_lookAt 163 = .ok (.getfield 108, 3) := by decide +kernel
theorem dd_Wi_lookAt_166 : decode bb_Wi_lookAt 166 = .ok (.invokevirtual 133, 3) := by decide +kernel
theorem dd_Wi_lookAt_169 : decode bb_Wi_lookAt 169 = .ok (.i2l, 1) := by decide +kernel
theorem dd_Wi_lookAt_170 : decode bb_Wi_lookAt 170 = .ok (.lastore, 1) := by decide +kernel
theorem dd_Wi_lookAt_171 : decode bb_Wi_lookAt 171 = .ok (.aload_n 0, 1) := by decide +kernel
theorem dd_Wi_lookAt_172 : decode bb_Wi_lookAt 172 = .ok (.getfield 30, 3) := by decide +kernel
theorem dd_Wi_lookAt_175 : decode bb_Wi_lookAt 175 = .ok (.bipush 10, 2) := by decide +kernel
theorem dd_Wi_lookAt_177 : decode bb_Wi_lookAt 177 = .ok (.iload_n 3, 1) := by decide +kernel
theorem dd_Wi_lookAt_178 : decode bb_Wi_lookAt 178 = .ok (.aload_n 0, 1) := by decide +kernel
theorem dd_Wi_lookAt_179 : decode bb_Wi_lookAt 179 = .ok (.getfield 37, 3) := by decide +kernel
theorem dd_Wi_lookAt_182 : decode bb_Wi_lookAt 182 = .ok (.getfield 136, 3) := by decide +kernel
theorem dd_Wi_lookAt_185 : decode bb_Wi_lookAt 185 = .ok (.iload_n 2, 1) := by decide +kernel
theorem dd_Wi_lookAt_186 : decode bb_Wi_lookAt 186 = .ok (.iaload, 1) := by decide +kernel
theorem dd_Wi_lookAt_187 : decode bb_Wi_lookAt 187 = .ok (.iand, 1) := by decide +kernel
theorem dd_Wi_lookAt_188 : decode bb_Wi_lookAt 188 = .ok (.invokestatic 124, 3) := by decide +kernel
theorem dd_Wi_lookAt_191 : decode bb_Wi_lookAt 191 = .ok (.i2l, 1) := by decide +kernel
theorem dd_Wi_lookAt_192 : decode bb_Wi_lookAt 192 = .ok (.lastore, 1) := by decide +kernel
theorem dd_Wi_lookAt_193 : decode bb_Wi_lookAt 193 = .ok (.aload_n 0, 1) := by decide +kernel
theorem dd_Wi_lookAt_194 : decode bb_Wi_lookAt 194 = .ok (.getfield 30, 3) := by decide +kernel
theorem dd_Wi_lookAt_197 : decode bb_Wi_lookAt 197 = .ok (.bipush 11, 2) := by decide +kernel
theorem dd_Wi_lookAt_199 : decode bb_Wi_lookAt 199 = .ok (.aload_n 0, 1) := by decide +kernel
theorem dd_Wi_lookAt_200 : decode bb_Wi_lookAt 200 = .ok (.getfield 12, 3) := by decide +kernel
theorem dd_Wi_lookAt_203 : decode bb_Wi_lookAt 203 = .ok (.getfield 108, 3) := by decide +kernel
theorem dd_Wi_lookAt_206 : decode bb_Wi_lookAt 206 = .ok (.i2l, 1) := by decide +kernel
theorem dd_Wi_lookAt_207 : decode bb_Wi_lookAt 207 = .ok (.lastore, 1) := by decide +kernel
theorem dd_Wi_lookAt_208 : decode bb_Wi_lookAt 208 = .ok (.return_, 1) := by decide +kernel
def mm_Wi_lookAt_j147 (N : Nat) (this : Option Nat) (a1 : Int32) (a2 : Int32) (a3 : Int32) (s0_147 : Option Nat) (s1_147 : Int32) (s2_147 : Int64) (h_147 : ss_Hp) : Option ss_Hp :=
  (ss_ul h_147 s0_147 23 s1_147 s2_147).bind fun h1 =>
  (ss_gr h1 this 7 4).bind fun r2 =>
  (ss_gr h1 this 7 6).bind fun r3 =>
  (ss_gr h1 this 7 0).bind fun r4 =>
  (ss_gi h1 r4 0 3).bind fun v5 =>
  (mm_V_daysToNeed N r3 a2 v5 h1).bind fun v6 =>
  (ss_ul h1 r2 23 (9 : Int32) ((v6).toInt64)).bind fun h7 =>
  (ss_gr h7 this 7 4).bind fun r8 =>
  (ss_gr h7 this 7 6).bind fun r9 =>
  (ss_gr h7 r9 5 2).bind fun r10 =>
  (ss_ai h7 r10 20 a2).bind fun v11 =>
  (mm_JI_bitCount N (a3 &&& v11)).bind fun v12 =>
  (ss_ul h7 r8 23 (10 : Int32) ((v12).toInt64)).bind fun h13 =>
  (ss_gr h13 this 7 4).bind fun r14 =>
  (ss_gr h13 this 7 0).bind fun r15 =>
  (ss_gi h13 r15 0 3).bind fun v16 =>
  (ss_ul h13 r14 23 (11 : Int32) ((v16).toInt64)).bind fun h17 =>
  some h17
def mm_Wi_lookAt_j39 (N : Nat) (this : Option Nat) (a1 : Int32) (a2 : Int32) (a3 : Int32) (s0_39 : Option Nat) (s1_39 : Int32) (s2_39 : Int64) (h_39 : ss_Hp) : Option ss_Hp :=
  (ss_ul h_39 s0_39 23 s1_39 s2_39).bind fun h18 =>
  (ss_gr h18 this 7 4).bind fun r19 =>
  (ss_gr h18 this 7 0).bind fun r20 =>
  (ss_gr h18 r20 0 0).bind fun r21 =>
  (ss_ai h18 r21 20 a2).bind fun v22 =>
  (ss_ul h18 r19 23 (3 : Int32) ((v22).toInt64)).bind fun h23 =>
  (ss_gr h23 this 7 4).bind fun r24 =>
  (ss_gr h23 this 7 1).bind fun r25 =>
  (ss_ai h23 r25 20 a1).bind fun v26 =>
  (ss_ul h23 r24 23 (4 : Int32) ((v26).toInt64)).bind fun h27 =>
  (ss_gr h27 this 7 4).bind fun r28 =>
  (ss_gr h27 this 7 0).bind fun r29 =>
  (ss_gi h27 r29 0 0).bind fun v30 =>
  (ss_ul h27 r28 23 (5 : Int32) ((((v30 >>> (a2 &&& 31)) &&& (1 : Int32))).toInt64)).bind fun h31 =>
  (ss_gr h31 this 7 4).bind fun r32 =>
  (ss_gr h31 this 7 0).bind fun r33 =>
  (ss_gi h31 r33 0 1).bind fun v34 =>
  (ss_ul h31 r32 23 (6 : Int32) ((((v34 >>> (a2 &&& 31)) &&& (1 : Int32))).toInt64)).bind fun h35 =>
  (ss_gr h35 this 7 4).bind fun r36 =>
  (mm_JI_bitCount N a3).bind fun v37 =>
  (ss_ul h35 r36 23 (7 : Int32) ((v37).toInt64)).bind fun h38 =>
  (ss_gr h38 this 7 4).bind fun r39 =>
  (ss_gr h38 this 7 6).bind fun r40 =>
  (ss_gr h38 this 7 0).bind fun r41 =>
  (ss_gi h38 r41 0 3).bind fun v42 =>
  (mm_V_isNeeded N r40 a2 v42 h38).bind fun v43 =>
  if v43 = 0 then
    mm_Wi_lookAt_j147 N this a1 a2 a3 r39 (8 : Int32) (0 : Int64) h38
  else
    mm_Wi_lookAt_j147 N this a1 a2 a3 r39 (8 : Int32) (1 : Int64) h38
def mm_Wi_lookAt (N : Nat) (this : Option Nat) (a1 : Int32) (a2 : Int32) (a3 : Int32) (h : ss_Hp) : Option ss_Hp :=
  if ss_is h this 7 = true then
    (ss_gr h this 7 4).bind fun r45 =>
    (ss_ul h r45 23 (0 : Int32) ((a1).toInt64)).bind fun h46 =>
    (ss_gr h46 this 7 4).bind fun r47 =>
    (ss_ul h46 r47 23 (1 : Int32) ((a2).toInt64)).bind fun h48 =>
    (ss_gr h48 this 7 4).bind fun r49 =>
    (ss_gr h48 this 7 6).bind fun r50 =>
    (ss_gr h48 r50 5 0).bind fun r51 =>
    (ss_ai h48 r51 20 a1).bind fun v52 =>
    if v52 = a2 then
      mm_Wi_lookAt_j39 N this a1 a2 a3 r49 (2 : Int32) (1 : Int64) h48
    else
      mm_Wi_lookAt_j39 N this a1 a2 a3 r49 (2 : Int32) (0 : Int64) h48
  else none
abbrev ww_Wi_lookAt (p : Program) (l : Launch) (e : Env) (s : State) (m : MethodId) (below : List Frame) (meth : Method) (c : Code) (G : ss_G) (this : Option Nat) (a1 : Int32) (a2 : Int32) (a3 : Int32) (h : ss_Hp) (hh : ss_Hp) (H : Heap) (locs : List Loc) (k n : Nat) (g : JFrame) : Prop := W p l e (headSpec (ss_w yy_Wi_lookAt bb_Wi_lookAt 4 none) ({ frames := 2, cells := 0, slots := 0, locals := 43 })).room s m ([ss_v (ss_b G) this, .int a1, .int a2, .int a3] : List Value).toArray below meth c H locs k n (MQ below (ss_Qc G none hh) ([ss_v (ss_b G) this, .int a1, .int a2, .int a3] : List Value).toArray s 0 0 (ss_A G)) g
theorem ck_Wi_lookAt {N : Nat} {this : Option Nat} {a1 : Int32} {a2 : Int32} {a3 : Int32} {h : ss_Hp} {res : ss_Hp} (hm : mm_Wi_lookAt N this a1 a2 a3 h = some res) : ss_is h this 7 = true := (ss_chk hm).1
set_option maxHeartbeats 4000000 in
set_option maxRecDepth 100000 in
theorem cc_Wi_lookAt (l : Launch) (G : ss_G) (N : Nat) (this : Option Nat) (a1 : Int32) (a2 : Int32) (a3 : Int32) (h : ss_Hp) (hh : ss_Hp) (hm : mm_Wi_lookAt N this a1 a2 a3 h = some hh) : ss_Ct l G yy_Wi_lookAt bb_Wi_lookAt 4 none ({ frames := 2, cells := 0, slots := 0, locals := 43 }) [ss_v (ss_b G) this, .int a1, .int a2, .int a3] h none hh := by
  obtain ⟨hck, hm⟩ := ss_chk hm
  refine Met.ofW (cc := bb_Wi_lookAt) (maxL := 4) (ret := none) (by decide) rfl ?_
  intro p e s m args below meth c s₁ B hml hv
  obtain ⟨rfl, hR, hK⟩ := hv
  have hC : CallFix p m c bb_Wi_lookAt 4 s _ lw_g sR_7 := ⟨B.exec, B.bytes, hml, findClass_of_methodNamed B.named, fun w hw => atoms_spec (ws := ss_w yy_Wi_lookAt bb_Wi_lookAt 4 none) B.pre w (List.mem_cons_of_mem _ hw)⟩
  have hx := hC.1
  have hb := hC.2.1
  have hr := B.returns
  have hlocks := B.notSynchronized
  have hS : va_S (ss_A G) s.heap s.heap [] := va_S.rf
  have hl := lv_entry ([ss_v (ss_b G) this, .int a1, .int a2, .int a3]) (n := 4) (by simp [lg_sl, ss_v_cat, ss_cat_i, ss_cat_l, ss_cat_r])
  rw [lg_entry_eq]
  generalize (lg_sl ([ss_v (ss_b G) this, .int a1, .int a2, .int a3]) ++ List.replicate (4 - (lg_sl ([ss_v (ss_b G) this, .int a1, .int a2, .int a3])).length) Slot.unset).toArray = ls at hl ⊢
  have hl : lv_has ls 4 [(0, ss_v (ss_b G) this), (1, .int a1), (2, .int a2), (3, .int a3)] := by simpa [lv_args, ss_v_cat, ss_cat_i, ss_cat_l, ss_cat_r] using hl
  have J_147 : ∀ (s0_147 : Option Nat) (s1_147 : Int32) (s2_147 : Int64) (h_147 : ss_Hp) (H : Heap) (locs : List Loc) (ls : Array Slot), mm_Wi_lookAt_j147 N this a1 a2 a3 s0_147 s1_147 s2_147 h_147 = some hh → ss_R G h_147 H → va_S (ss_A G) s.heap H locs → lv_has ls 4 [(0, ss_v (ss_b G) this), (2, .int a2), (3, .int a3)] → ww_Wi_lookAt p l e s m below meth c G this a1 a2 a3 h hh  H locs 0 0 (F0 m 147 ls [.long s2_147, .int s1_147, ss_v (ss_b G) s0_147]) := by
    intro s0_147 s1_147 s2_147 h_147 H locs ls hm hR hS hl
    obtain ⟨h1, qh1, hm⟩ := ss_bind hm
    refine ss_last hC hK hR hS qh1 dd_Wi_lookAt_147 (fun H locs hR hS => ?_)
    refine ss_aload_n hx hb dd_Wi_lookAt_148 rfl (lv_at hl 0 rfl) ?_
    obtain ⟨r2, qr2, hm⟩ := ss_bind hm
    refine ss_getr hC hK hR kf_Wi_30 rfl qr2 dd_Wi_lookAt_149 ?_
    refine lv_bipush (v := 9) hx hb dd_Wi_lookAt_152 (by decide) ?_
    refine ss_aload_n hx hb dd_Wi_lookAt_154 rfl (lv_at hl 0 rfl) ?_
    obtain ⟨r3, qr3, hm⟩ := ss_bind hm
    refine ss_getr hC hK hR kf_Wi_37 rfl qr3 dd_Wi_lookAt_155 ?_
    refine lv_iload_n hx hb dd_Wi_lookAt_158 rfl (lv_at hl 1 rfl) ?_
    refine ss_aload_n hx hb dd_Wi_lookAt_159 rfl (lv_at hl 0 rfl) ?_
    obtain ⟨r4, qr4, hm⟩ := ss_bind hm
    refine ss_getr hC hK hR kf_Wi_12 rfl qr4 dd_Wi_lookAt_160 ?_
    obtain ⟨v5, qv5, hm⟩ := ss_bind hm
    refine ss_geti hC hK hR kf_Wi_108 qv5 dd_Wi_lookAt_163 ?_
    obtain ⟨v6, qv6, hm⟩ := ss_bind hm
    refine ss_cV 0 0 (As := [.int a2, .int v5]) hC hK hR hS hl.1 (cc_V_daysToNeed l G N _ _ _ _ _ qv6) km_Wi_133 (ck_V_daysToNeed qv6) ⟨Nat.le_of_ble_eq_true rfl, Nat.le_of_ble_eq_true rfl⟩ ⟨Nat.le_of_ble_eq_true rfl, Nat.le_of_ble_eq_true rfl, Nat.le_of_ble_eq_true rfl, Nat.le_of_ble_eq_true rfl⟩ rfl rfl (by simp [ss_v_cat, ss_cat_i, ss_cat_l, ss_cat_r]) dd_Wi_lookAt_166 (fun H locs hR hS => ?_)
    refine lv_i2l hx hb dd_Wi_lookAt_169 rfl ?_
    obtain ⟨h7, qh7, hm⟩ := ss_bind hm
    refine ss_last hC hK hR hS qh7 dd_Wi_lookAt_170 (fun H locs hR hS => ?_)
    refine ss_aload_n hx hb dd_Wi_lookAt_171 rfl (lv_at hl 0 rfl) ?_
    obtain ⟨r8, qr8, hm⟩ := ss_bind hm
    refine ss_getr hC hK hR kf_Wi_30 rfl qr8 dd_Wi_lookAt_172 ?_
    refine lv_bipush (v := 10) hx hb dd_Wi_lookAt_175 (by decide) ?_
    refine lv_iload_n hx hb dd_Wi_lookAt_177 rfl (lv_at hl 2 rfl) ?_
    refine ss_aload_n hx hb dd_Wi_lookAt_178 rfl (lv_at hl 0 rfl) ?_
    obtain ⟨r9, qr9, hm⟩ := ss_bind hm
    refine ss_getr hC hK hR kf_Wi_37 rfl qr9 dd_Wi_lookAt_179 ?_
    obtain ⟨r10, qr10, hm⟩ := ss_bind hm
    refine ss_getr hC hK hR kf_Wi_136 rfl qr10 dd_Wi_lookAt_182 ?_
    refine lv_iload_n hx hb dd_Wi_lookAt_185 rfl (lv_at hl 1 rfl) ?_
    obtain ⟨v11, qv11, hm⟩ := ss_bind hm
    refine ss_iald hC hK hR qv11 dd_Wi_lookAt_186 ?_
    refine lv_iand hx hb dd_Wi_lookAt_187 ?_
    obtain ⟨v12, qv12, hm⟩ := ss_bind hm
    refine ss_cS 0 0 (As := [.int (a3 &&& v11)]) hC hK hR hS hl.1 (cc_JI_bitCount l G N _ _ _ qv12) km_Wi_124 ⟨Nat.le_of_ble_eq_true rfl, Nat.le_of_ble_eq_true rfl⟩ ⟨Nat.le_of_ble_eq_true rfl, Nat.le_of_ble_eq_true rfl, Nat.le_of_ble_eq_true rfl, Nat.le_of_ble_eq_true rfl⟩ rfl rfl (by simp [ss_v_cat, ss_cat_i, ss_cat_l, ss_cat_r]) dd_Wi_lookAt_188 (fun H locs hR hS => ?_)
    refine lv_i2l hx hb dd_Wi_lookAt_191 rfl ?_
    obtain ⟨h13, qh13, hm⟩ := ss_bind hm
    refine ss_last hC hK hR hS qh13 dd_Wi_lookAt_192 (fun H locs hR hS => ?_)
    refine ss_aload_n hx hb dd_Wi_lookAt_193 rfl (lv_at hl 0 rfl) ?_
    obtain ⟨r14, qr14, hm⟩ := ss_bind hm
    refine ss_getr hC hK hR kf_Wi_30 rfl qr14 dd_Wi_lookAt_194 ?_
    refine lv_bipush (v := 11) hx hb dd_Wi_lookAt_197 (by decide) ?_
    refine ss_aload_n hx hb dd_Wi_lookAt_199 rfl (lv_at hl 0 rfl) ?_
    obtain ⟨r15, qr15, hm⟩ := ss_bind hm
    refine ss_getr hC hK hR kf_Wi_12 rfl qr15 dd_Wi_lookAt_200 ?_
    obtain ⟨v16, qv16, hm⟩ := ss_bind hm
    refine ss_geti hC hK hR kf_Wi_108 qv16 dd_Wi_lookAt_203 ?_
    refine lv_i2l hx hb dd_Wi_lookAt_206 rfl ?_
    obtain ⟨h17, qh17, hm⟩ := ss_bind hm
    refine ss_last hC hK hR hS qh17 dd_Wi_lookAt_207 (fun H locs hR hS => ?_)
    exact ss_vret hC hr hlocks hR hS hm dd_Wi_lookAt_208
  have J_39 : ∀ (s0_39 : Option Nat) (s1_39 : Int32) (s2_39 : Int64) (h_39 : ss_Hp) (H : Heap) (locs : List Loc) (ls : Array Slot), mm_Wi_lookAt_j39 N this a1 a2 a3 s0_39 s1_39 s2_39 h_39 = some hh → ss_R G h_39 H → va_S (ss_A G) s.heap H locs → lv_has ls 4 [(0, ss_v (ss_b G) this), (1, .int a1), (2, .int a2), (3, .int a3)] → ww_Wi_lookAt p l e s m below meth c G this a1 a2 a3 h hh  H locs 0 0 (F0 m 39 ls [.long s2_39, .int s1_39, ss_v (ss_b G) s0_39]) := by
    intro s0_39 s1_39 s2_39 h_39 H locs ls hm hR hS hl
    obtain ⟨h18, qh18, hm⟩ := ss_bind hm
    refine ss_last hC hK hR hS qh18 dd_Wi_lookAt_39 (fun H locs hR hS => ?_)
    refine ss_aload_n hx hb dd_Wi_lookAt_40 rfl (lv_at hl 0 rfl) ?_
    obtain ⟨r19, qr19, hm⟩ := ss_bind hm
    refine ss_getr hC hK hR kf_Wi_30 rfl qr19 dd_Wi_lookAt_41 ?_
    refine lv_iconst (v := 3) hx hb dd_Wi_lookAt_44 (by decide) ?_
    refine ss_aload_n hx hb dd_Wi_lookAt_45 rfl (lv_at hl 0 rfl) ?_
    obtain ⟨r20, qr20, hm⟩ := ss_bind hm
    refine ss_getr hC hK hR kf_Wi_12 rfl qr20 dd_Wi_lookAt_46 ?_
    obtain ⟨r21, qr21, hm⟩ := ss_bind hm
    refine ss_getr hC hK hR kf_Wi_62 rfl qr21 dd_Wi_lookAt_49 ?_
    refine lv_iload_n hx hb dd_Wi_lookAt_52 rfl (lv_at hl 2 rfl) ?_
    obtain ⟨v22, qv22, hm⟩ := ss_bind hm
    refine ss_iald hC hK hR qv22 dd_Wi_lookAt_53 ?_
    refine lv_i2l hx hb dd_Wi_lookAt_54 rfl ?_
    obtain ⟨h23, qh23, hm⟩ := ss_bind hm
    refine ss_last hC hK hR hS qh23 dd_Wi_lookAt_55 (fun H locs hR hS => ?_)
    refine ss_aload_n hx hb dd_Wi_lookAt_56 rfl (lv_at hl 0 rfl) ?_
    obtain ⟨r24, qr24, hm⟩ := ss_bind hm
    refine ss_getr hC hK hR kf_Wi_30 rfl qr24 dd_Wi_lookAt_57 ?_
    refine lv_iconst (v := 4) hx hb dd_Wi_lookAt_60 (by decide) ?_
    refine ss_aload_n hx hb dd_Wi_lookAt_61 rfl (lv_at hl 0 rfl) ?_
    obtain ⟨r25, qr25, hm⟩ := ss_bind hm
    refine ss_getr hC hK hR kf_Wi_18 rfl qr25 dd_Wi_lookAt_62 ?_
    refine lv_iload_n hx hb dd_Wi_lookAt_65 rfl (lv_at hl 1 rfl) ?_
    obtain ⟨v26, qv26, hm⟩ := ss_bind hm
    refine ss_iald hC hK hR qv26 dd_Wi_lookAt_66 ?_
    refine lv_i2l hx hb dd_Wi_lookAt_67 rfl ?_
    obtain ⟨h27, qh27, hm⟩ := ss_bind hm
    refine ss_last hC hK hR hS qh27 dd_Wi_lookAt_68 (fun H locs hR hS => ?_)
    refine ss_aload_n hx hb dd_Wi_lookAt_69 rfl (lv_at hl 0 rfl) ?_
    obtain ⟨r28, qr28, hm⟩ := ss_bind hm
    refine ss_getr hC hK hR kf_Wi_30 rfl qr28 dd_Wi_lookAt_70 ?_
    refine lv_iconst (v := 5) hx hb dd_Wi_lookAt_73 (by decide) ?_
    refine ss_aload_n hx hb dd_Wi_lookAt_74 rfl (lv_at hl 0 rfl) ?_
    obtain ⟨r29, qr29, hm⟩ := ss_bind hm
    refine ss_getr hC hK hR kf_Wi_12 rfl qr29 dd_Wi_lookAt_75 ?_
    obtain ⟨v30, qv30, hm⟩ := ss_bind hm
    refine ss_geti hC hK hR kf_Wi_71 qv30 dd_Wi_lookAt_78 ?_
    refine lv_iload_n hx hb dd_Wi_lookAt_81 rfl (lv_at hl 2 rfl) ?_
    refine lv_ishr hx hb dd_Wi_lookAt_82 ?_
    refine lv_iconst (v := 1) hx hb dd_Wi_lookAt_83 (by decide) ?_
    refine lv_iand hx hb dd_Wi_lookAt_84 ?_
    refine lv_i2l hx hb dd_Wi_lookAt_85 rfl ?_
    obtain ⟨h31, qh31, hm⟩ := ss_bind hm
    refine ss_last hC hK hR hS qh31 dd_Wi_lookAt_86 (fun H locs hR hS => ?_)
    refine ss_aload_n hx hb dd_Wi_lookAt_87 rfl (lv_at hl 0 rfl) ?_
    obtain ⟨r32, qr32, hm⟩ := ss_bind hm
    refine ss_getr hC hK hR kf_Wi_30 rfl qr32 dd_Wi_lookAt_88 ?_
    refine lv_bipush (v := 6) hx hb dd_Wi_lookAt_91 (by decide) ?_
    refine ss_aload_n hx hb dd_Wi_lookAt_93 rfl (lv_at hl 0 rfl) ?_
    obtain ⟨r33, qr33, hm⟩ := ss_bind hm
    refine ss_getr hC hK hR kf_Wi_12 rfl qr33 dd_Wi_lookAt_94 ?_
    obtain ⟨v34, qv34, hm⟩ := ss_bind hm
    refine ss_geti hC hK hR kf_Wi_105 qv34 dd_Wi_lookAt_97 ?_
    refine lv_iload_n hx hb dd_Wi_lookAt_100 rfl (lv_at hl 2 rfl) ?_
    refine lv_ishr hx hb dd_Wi_lookAt_101 ?_
    refine lv_iconst (v := 1) hx hb dd_Wi_lookAt_102 (by decide) ?_
    refine lv_iand hx hb dd_Wi_lookAt_103 ?_
    refine lv_i2l hx hb dd_Wi_lookAt_104 rfl ?_
    obtain ⟨h35, qh35, hm⟩ := ss_bind hm
    refine ss_last hC hK hR hS qh35 dd_Wi_lookAt_105 (fun H locs hR hS => ?_)
    refine ss_aload_n hx hb dd_Wi_lookAt_106 rfl (lv_at hl 0 rfl) ?_
    obtain ⟨r36, qr36, hm⟩ := ss_bind hm
    refine ss_getr hC hK hR kf_Wi_30 rfl qr36 dd_Wi_lookAt_107 ?_
    refine lv_bipush (v := 7) hx hb dd_Wi_lookAt_110 (by decide) ?_
    refine lv_iload_n hx hb dd_Wi_lookAt_112 rfl (lv_at hl 3 rfl) ?_
    obtain ⟨v37, qv37, hm⟩ := ss_bind hm
    refine ss_cS 0 0 (As := [.int a3]) hC hK hR hS hl.1 (cc_JI_bitCount l G N _ _ _ qv37) km_Wi_124 ⟨Nat.le_of_ble_eq_true rfl, Nat.le_of_ble_eq_true rfl⟩ ⟨Nat.le_of_ble_eq_true rfl, Nat.le_of_ble_eq_true rfl, Nat.le_of_ble_eq_true rfl, Nat.le_of_ble_eq_true rfl⟩ rfl rfl (by simp [ss_v_cat, ss_cat_i, ss_cat_l, ss_cat_r]) dd_Wi_lookAt_113 (fun H locs hR hS => ?_)
    refine lv_i2l hx hb dd_Wi_lookAt_116 rfl ?_
    obtain ⟨h38, qh38, hm⟩ := ss_bind hm
    refine ss_last hC hK hR hS qh38 dd_Wi_lookAt_117 (fun H locs hR hS => ?_)
    refine ss_aload_n hx hb dd_Wi_lookAt_118 rfl (lv_at hl 0 rfl) ?_
    obtain ⟨r39, qr39, hm⟩ := ss_bind hm
    refine ss_getr hC hK hR kf_Wi_30 rfl qr39 dd_Wi_lookAt_119 ?_
    refine lv_bipush (v := 8) hx hb dd_Wi_lookAt_122 (by decide) ?_
    refine ss_aload_n hx hb dd_Wi_lookAt_124 rfl (lv_at hl 0 rfl) ?_
    obtain ⟨r40, qr40, hm⟩ := ss_bind hm
    refine ss_getr hC hK hR kf_Wi_37 rfl qr40 dd_Wi_lookAt_125 ?_
    refine lv_iload_n hx hb dd_Wi_lookAt_128 rfl (lv_at hl 2 rfl) ?_
    refine ss_aload_n hx hb dd_Wi_lookAt_129 rfl (lv_at hl 0 rfl) ?_
    obtain ⟨r41, qr41, hm⟩ := ss_bind hm
    refine ss_getr hC hK hR kf_Wi_12 rfl qr41 dd_Wi_lookAt_130 ?_
    obtain ⟨v42, qv42, hm⟩ := ss_bind hm
    refine ss_geti hC hK hR kf_Wi_108 qv42 dd_Wi_lookAt_133 ?_
    obtain ⟨v43, qv43, hm⟩ := ss_bind hm
    refine ss_cV 0 0 (As := [.int a2, .int v42]) hC hK hR hS hl.1 (cc_V_isNeeded l G N _ _ _ _ _ qv43) km_Wi_129 (ck_V_isNeeded qv43) ⟨Nat.le_of_ble_eq_true rfl, Nat.le_of_ble_eq_true rfl⟩ ⟨Nat.le_of_ble_eq_true rfl, Nat.le_of_ble_eq_true rfl, Nat.le_of_ble_eq_true rfl, Nat.le_of_ble_eq_true rfl⟩ rfl rfl (by simp [ss_v_cat, ss_cat_i, ss_cat_l, ss_cat_r]) dd_Wi_lookAt_136 (fun H locs hR hS => ?_)
    refine lv_if_eq (tgt := 146) hx hb dd_Wi_lookAt_139 (by decide) (fun c44 => ?_) (fun c44 => ?_)
    · have hm := ss_ift hm c44
      refine lv_lconst (v := 0) hx hb dd_Wi_lookAt_146 (by decide) ?_
      exact J_147 r39 (8 : Int32) (0 : Int64) h38 _ _ _ hm hR hS (lv_sub hl [0, 2, 3] rfl)
    · have hm := ss_iff hm c44
      refine lv_lconst (v := 1) hx hb dd_Wi_lookAt_142 (by decide) ?_
      refine lv_goto (tgt := 147) hx hb dd_Wi_lookAt_143 (by decide) ?_
      exact J_147 r39 (8 : Int32) (1 : Int64) h38 _ _ _ hm hR hS (lv_sub hl [0, 2, 3] rfl)
  refine ss_aload_n hx hb dd_Wi_lookAt_0 rfl (lv_at hl 0 rfl) ?_
  obtain ⟨r45, qr45, hm⟩ := ss_bind hm
  refine ss_getr hC hK hR kf_Wi_30 rfl qr45 dd_Wi_lookAt_1 ?_
  refine lv_iconst (v := 0) hx hb dd_Wi_lookAt_4 (by decide) ?_
  refine lv_iload_n hx hb dd_Wi_lookAt_5 rfl (lv_at hl 1 rfl) ?_
  refine lv_i2l hx hb dd_Wi_lookAt_6 rfl ?_
  obtain ⟨h46, qh46, hm⟩ := ss_bind hm
  refine ss_last hC hK hR hS qh46 dd_Wi_lookAt_7 (fun H locs hR hS => ?_)
  refine ss_aload_n hx hb dd_Wi_lookAt_8 rfl (lv_at hl 0 rfl) ?_
  obtain ⟨r47, qr47, hm⟩ := ss_bind hm
  refine ss_getr hC hK hR kf_Wi_30 rfl qr47 dd_Wi_lookAt_9 ?_
  refine lv_iconst (v := 1) hx hb dd_Wi_lookAt_12 (by decide) ?_
  refine lv_iload_n hx hb dd_Wi_lookAt_13 rfl (lv_at hl 2 rfl) ?_
  refine lv_i2l hx hb dd_Wi_lookAt_14 rfl ?_
  obtain ⟨h48, qh48, hm⟩ := ss_bind hm
  refine ss_last hC hK hR hS qh48 dd_Wi_lookAt_15 (fun H locs hR hS => ?_)
  refine ss_aload_n hx hb dd_Wi_lookAt_16 rfl (lv_at hl 0 rfl) ?_
  obtain ⟨r49, qr49, hm⟩ := ss_bind hm
  refine ss_getr hC hK hR kf_Wi_30 rfl qr49 dd_Wi_lookAt_17 ?_
  refine lv_iconst (v := 2) hx hb dd_Wi_lookAt_20 (by decide) ?_
  refine ss_aload_n hx hb dd_Wi_lookAt_21 rfl (lv_at hl 0 rfl) ?_
  obtain ⟨r50, qr50, hm⟩ := ss_bind hm
  refine ss_getr hC hK hR kf_Wi_37 rfl qr50 dd_Wi_lookAt_22 ?_
  obtain ⟨r51, qr51, hm⟩ := ss_bind hm
  refine ss_getr hC hK hR kf_Wi_113 rfl qr51 dd_Wi_lookAt_25 ?_
  refine lv_iload_n hx hb dd_Wi_lookAt_28 rfl (lv_at hl 1 rfl) ?_
  obtain ⟨v52, qv52, hm⟩ := ss_bind hm
  refine ss_iald hC hK hR qv52 dd_Wi_lookAt_29 ?_
  refine lv_iload_n hx hb dd_Wi_lookAt_30 rfl (lv_at hl 2 rfl) ?_
  refine lv_icmp_ne (tgt := 38) hx hb dd_Wi_lookAt_31 (by decide) (fun c53 => ?_) (fun c53 => ?_)
  · have hm := ss_iff hm c53
    refine lv_lconst (v := 0) hx hb dd_Wi_lookAt_38 (by decide) ?_
    exact J_39 r49 (2 : Int32) (0 : Int64) h48 _ _ _ hm hR hS hl
  · have hm := ss_ift hm c53
    refine lv_lconst (v := 1) hx hb dd_Wi_lookAt_34 (by decide) ?_
    refine lv_goto (tgt := 39) hx hb dd_Wi_lookAt_35 (by decide) ?_
    exact J_39 r49 (2 : Int32) (1 : Int64) h48 _ _ _ hm hR hS hl
theorem dd_Ru_join_0 : decode bb_Ru_join 0 = .ok (.iload_n 0, 1) := by decide +kernel
theorem dd_Ru_join_1 : decode bb_Ru_join 1 = .ok (.tableswitch 163 (-11) (-1) #[159, 147, 135, 123, 111, 99, 85, 71, 67, 63, 59], 59) := by decide +kernel
theorem dd_Ru_join_60 : decode bb_Ru_join 60 = .ok (.lload_n 1, 1) := by decide +kernel
theorem dd_Ru_join_61 : decode bb_Ru_join 61 = .ok (.lload_n 3, 1) := by decide +kernel
theorem dd_Ru_join_62 : decode bb_Ru_join 62 = .ok (.ladd, 1) := by decide +kernel
theorem dd_Ru_join_63 : decode bb_Ru_join 63 = .ok (.lreturn, 1) := by decide +kernel
theorem dd_Ru_join_64 : decode bb_Ru_join 64 = .ok (.lload_n 1, 1) := by decide +kernel
theorem dd_Ru_join_65 : decode bb_Ru_join 65 = .ok (.lload_n 3, 1) := by decide +kernel
theorem dd_Ru_join_66 : decode bb_Ru_join 66 = .ok (.lsub, 1) := by decide +kernel
theorem dd_Ru_join_67 : decode bb_Ru_join 67 = .ok (.lreturn, 1) := by decide +kernel
theorem dd_Ru_join_68 : decode bb_Ru_join 68 = .ok (.lload_n 1, 1) := by decide +kernel
theorem dd_Ru_join_69 : decode bb_Ru_join 69 = .ok (.lload_n 3, 1) := by decide +kernel
theorem dd_Ru_join_70 : decode bb_Ru_join 70 = .ok (.lmul, 1) := by decide +kernel
theorem dd_Ru_join_71 : decode bb_Ru_join 71 = .ok (.lreturn, 1) := by decide +kernel
theorem dd_Ru_join_72 : decode bb_Ru_join 72 = .ok (.lload_n 3, 1) := by decide +kernel
theorem dd_Ru_join_73 : decode bb_Ru_join 73 = .ok (.lconst 0, 1) := by decide +kernel
theorem dd_Ru_join_74 : decode bb_Ru_join 74 = .ok (.lcmp, 1) := by decide +kernel
theorem dd_Ru_join_75 : decode bb_Ru_join 75 = .ok (.ifCond .ne 7, 3) := by decide +kernel
theorem dd_Ru_join_78 : decode bb_Ru_join 78 = .ok (.lconst 0, 1) := by decide +kernel
theorem dd_Ru_join_79 : decode bb_Ru_join 79 = .ok (.goto 6, 3) := by decide +kernel
theorem dd_Ru_join_82 : decode bb_Ru_join 82 = .ok (.lload_n 1, 1) := by decide +kernel
theorem dd_Ru_join_83 : decode bb_Ru_join 83 = .ok (.lload_n 3, 1) := by decide +kernel
theorem dd_Ru_join_84 : decode bb_Ru_join 84 = .ok (.ldiv, 1) := by decide +kernel
theorem dd_Ru_join_85 : decode bb_Ru_join 85 = .ok (.lreturn, 1) := by decide +kernel
theorem dd_Ru_join_86 : decode bb_Ru_join 86 = .ok (.lload_n 3, 1) := by decide +kernel
theorem dd_Ru_join_87 : decode bb_Ru_join 87 = .ok (.lconst 0, 1) := by decide +kernel
theorem dd_Ru_join_88 : decode bb_Ru_join 88 = .ok (.lcmp, 1) := by decide +kernel
theorem dd_Ru_join_89 : decode bb_Ru_join 89 = .ok (.ifCond .ne 7, 3) := by decide +kernel
theorem dd_Ru_join_92 : decode bb_Ru_join 92 = .ok (.lconst 0, 1) := by decide +kernel
theorem dd_Ru_join_93 : decode bb_Ru_join 93 = .ok (.goto 6, 3) := by decide +kernel
theorem dd_Ru_join_96 : decode bb_Ru_join 96 = .ok (.lload_n 1, 1) := by decide +kernel
theorem dd_Ru_join_97 : decode bb_Ru_join 97 = .ok (.lload_n 3, 1) := by decide +kernel
theorem dd_Ru_join_98 : decode bb_Ru_join 98 = .ok (.lrem, 1) := by decide +kernel
theorem dd_Ru_join_99 : decode bb_Ru_join 99 = .ok (.lreturn, 1) := by decide +kernel
theorem dd_Ru_join_100 : decode bb_Ru_join 100 = .ok (.lload_n 1, 1) := by decide +kernel
theorem dd_Ru_join_101 : decode bb_Ru_join 101 = .ok (.lload_n 3, 1) := by decide +kernel
theorem dd_Ru_join_102 : decode bb_Ru_join 102 = .ok (.lcmp, 1) := by decide +kernel
theorem dd_Ru_join_103 : decode bb_Ru_join 103 = .ok (.ifCond .ge 7, 3) := by decide +kernel
theorem dd_Ru_join_106 : decode bb_Ru_join 106 = .ok (.lconst 1, 1) := by decide +kernel
theorem dd_Ru_join_107 : decode bb_Ru_join 107 = .ok (.goto 4, 3) := by decide +kernel
theorem dd_Ru_join_110 : decode bb_Ru_join 110 = .ok (.lconst 0, 1) := by decide +kernel
theorem dd_Ru_join_111 : decode bb_Ru_join 111 = .ok (.lreturn, 1) := by decide +kernel
theorem dd_Ru_join_112 : decode bb_Ru_join 112 = .ok (.lload_n 1, 1) := by decide +kernel
theorem dd_Ru_join_113 : decode bb_Ru_join 113 = .ok (.lload_n 3, 1) := by decide +kernel
theorem dd_Ru_join_114 : decode bb_Ru_join 114 = .ok (.lcmp, 1) := by decide +kernel
theorem dd_Ru_join_115 : decode bb_Ru_join 115 = .ok (.ifCond .gt 7, 3) := by decide +kernel
theorem dd_Ru_join_118 : decode bb_Ru_join 118 = .ok (.lconst 1, 1) := by decide +kernel
theorem dd_Ru_join_119 : decode bb_Ru_join 119 = .ok (.goto 4, 3) := by decide +kernel
theorem dd_Ru_join_122 : decode bb_Ru_join 122 = .ok (.lconst 0, 1) := by decide +kernel
theorem dd_Ru_join_123 : decode bb_Ru_join 123 = .ok (.lreturn, 1) := by decide +kernel
theorem dd_Ru_join_124 : decode bb_Ru_join 124 = .ok (.lload_n 1, 1) := by decide +kernel
theorem dd_Ru_join_125 : decode bb_Ru_join 125 = .ok (.lload_n 3, 1) := by decide +kernel
theorem dd_Ru_join_126 : decode bb_Ru_join 126 = .ok (.lcmp, 1) := by decide +kernel
theorem dd_Ru_join_127 : decode bb_Ru_join 127 = .ok (.ifCond .ne 7, 3) := by decide +kernel
theorem dd_Ru_join_130 : decode bb_Ru_join 130 = .ok (.lconst 1, 1) := by decide +kernel
theorem dd_Ru_join_131 : decode bb_Ru_join 131 = .ok (.goto 4, 3) := by decide +kernel
theorem dd_Ru_join_134 : decode bb_Ru_join 134 = .ok (.lconst 0, 1) := by decide +kernel
theorem dd_Ru_join_135 : decode bb_Ru_join 135 = .ok (.lreturn, 1) := by decide +kernel
theorem dd_Ru_join_136 : decode bb_Ru_join 136 = .ok (.lload_n 1, 1) := by decide +kernel
theorem dd_Ru_join_137 : decode bb_Ru_join 137 = .ok (.lload_n 3, 1) := by decide +kernel
theorem dd_Ru_join_138 : decode bb_Ru_join 138 = .ok (.lcmp, 1) := by decide +kernel
theorem dd_Ru_join_139 : decode bb_Ru_join 139 = .ok (.ifCond .lt 7, 3) := by decide +kernel
theorem dd_Ru_join_142 : decode bb_Ru_join 142 = .ok (.lconst 1, 1) := by decide +kernel
theorem dd_Ru_join_143 : decode bb_Ru_join 143 = .ok (.goto 4, 3) := by decide +kernel
theorem dd_Ru_join_146 : decode bb_Ru_join 146 = .ok (.lconst 0, 1) := by decide +kernel
theorem dd_Ru_join_147 : decode bb_Ru_join 147 = .ok (.lreturn, 1) := by decide +kernel
theorem dd_Ru_join_148 : decode bb_Ru_join 148 = .ok (.lload_n 1, 1) := by decide +kernel
theorem dd_Ru_join_149 : decode bb_Ru_join 149 = .ok (.lload_n 3, 1) := by decide +kernel
theorem dd_Ru_join_150 : decode bb_Ru_join 150 = .ok (.lcmp, 1) := by decide +kernel
theorem dd_Ru_join_151 : decode bb_Ru_join 151 = .ok (.ifCond .le 7, 3) := by decide +kernel
theorem dd_Ru_join_154 : decode bb_Ru_join 154 = .ok (.lconst 1, 1) := by decide +kernel
theorem dd_Ru_join_155 : decode bb_Ru_join 155 = .ok (.goto 4, 3) := by decide +kernel
theorem dd_Ru_join_158 : decode bb_Ru_join 158 = .ok (.lconst 0, 1) := by decide +kernel
theorem dd_Ru_join_159 : decode bb_Ru_join 159 = .ok (.lreturn, 1) := by decide +kernel
theorem dd_Ru_join_160 : decode bb_Ru_join 160 = .ok (.lload_n 1, 1) := by decide +kernel
theorem dd_Ru_join_161 : decode bb_Ru_join 161 = .ok (.lload_n 3, 1) := by decide +kernel
theorem dd_Ru_join_162 : decode bb_Ru_join 162 = .ok (.land, 1) := by decide +kernel
theorem dd_Ru_join_163 : decode bb_Ru_join 163 = .ok (.lreturn, 1) := by decide +kernel
theorem dd_Ru_join_164 : decode bb_Ru_join 164 = .ok (.lload_n 1, 1) := by decide +kernel
theorem dd_Ru_join_165 : decode bb_Ru_join 165 = .ok (.lload_n 3, 1) := by decide +kernel
theorem dd_Ru_join_166 : decode bb_Ru_join 166 = .ok (.lor, 1) := by decide +kernel
theorem dd_Ru_join_167 : decode bb_Ru_join 167 = .ok (.lreturn, 1) := by decide +kernel
def mm_Ru_join_j85 (N : Nat) (a1 : Int32) (a2 : Int64) (a3 : Int64) (s0_85 : Int64) : Option Int64 :=
  some s0_85
def mm_Ru_join_j99 (N : Nat) (a1 : Int32) (a2 : Int64) (a3 : Int64) (s0_99 : Int64) : Option Int64 :=
  some s0_99
def mm_Ru_join_j111 (N : Nat) (a1 : Int32) (a2 : Int64) (a3 : Int64) (s0_111 : Int64) : Option Int64 :=
  some s0_111
def mm_Ru_join_j123 (N : Nat) (a1 : Int32) (a2 : Int64) (a3 : Int64) (s0_123 : Int64) : Option Int64 :=
  some s0_123
def mm_Ru_join_j135 (N : Nat) (a1 : Int32) (a2 : Int64) (a3 : Int64) (s0_135 : Int64) : Option Int64 :=
  some s0_135
def mm_Ru_join_j147 (N : Nat) (a1 : Int32) (a2 : Int64) (a3 : Int64) (s0_147 : Int64) : Option Int64 :=
  some s0_147
def mm_Ru_join_j159 (N : Nat) (a1 : Int32) (a2 : Int64) (a3 : Int64) (s0_159 : Int64) : Option Int64 :=
  some s0_159
def mm_Ru_join (N : Nat) (a1 : Int32) (a2 : Int64) (a3 : Int64) : Option Int64 :=
  if a1 = (-11 : Int32) then
    some (a2 &&& a3)
  else
  if a1 = (-10 : Int32) then
    if (lg_cmp a2 a3) ≤ 0 then
      mm_Ru_join_j159 N a1 a2 a3 (0 : Int64)
    else
      mm_Ru_join_j159 N a1 a2 a3 (1 : Int64)
  else
  if a1 = (-9 : Int32) then
    if (lg_cmp a2 a3) < 0 then
      mm_Ru_join_j147 N a1 a2 a3 (0 : Int64)
    else
      mm_Ru_join_j147 N a1 a2 a3 (1 : Int64)
  else
  if a1 = (-8 : Int32) then
    if (lg_cmp a2 a3) = 0 then
      mm_Ru_join_j135 N a1 a2 a3 (1 : Int64)
    else
      mm_Ru_join_j135 N a1 a2 a3 (0 : Int64)
  else
  if a1 = (-7 : Int32) then
    if 0 < (lg_cmp a2 a3) then
      mm_Ru_join_j123 N a1 a2 a3 (0 : Int64)
    else
      mm_Ru_join_j123 N a1 a2 a3 (1 : Int64)
  else
  if a1 = (-6 : Int32) then
    if 0 ≤ (lg_cmp a2 a3) then
      mm_Ru_join_j111 N a1 a2 a3 (0 : Int64)
    else
      mm_Ru_join_j111 N a1 a2 a3 (1 : Int64)
  else
  if a1 = (-5 : Int32) then
    if (lg_cmp a3 (0 : Int64)) = 0 then
      mm_Ru_join_j99 N a1 a2 a3 (0 : Int64)
    else
      (ss_lrem a2 a3).bind fun v14 =>
      mm_Ru_join_j99 N a1 a2 a3 v14
  else
  if a1 = (-4 : Int32) then
    if (lg_cmp a3 (0 : Int64)) = 0 then
      mm_Ru_join_j85 N a1 a2 a3 (0 : Int64)
    else
      (ss_ldiv a2 a3).bind fun v17 =>
      mm_Ru_join_j85 N a1 a2 a3 v17
  else
  if a1 = (-3 : Int32) then
    some (a2 * a3)
  else
  if a1 = (-2 : Int32) then
    some (a2 - a3)
  else
  if a1 = (-1 : Int32) then
    some (a2 + a3)
  else
  some (a2 ||| a3)
abbrev ww_Ru_join (p : Program) (l : Launch) (e : Env) (s : State) (m : MethodId) (below : List Frame) (meth : Method) (c : Code) (G : ss_G) (a1 : Int32) (a2 : Int64) (a3 : Int64) (h : ss_Hp) (rr : Int64) (H : Heap) (locs : List Loc) (k n : Nat) (g : JFrame) : Prop := W p l e (headSpec (ss_w yy_Ru_join bb_Ru_join 5 (some .long)) ({ frames := 0, cells := 0, slots := 0, locals := 0 })).room s m ([.int a1, .long a2, .long a3] : List Value).toArray below meth c H locs k n (MQ below (ss_Qc G (some (.long rr)) h) ([.int a1, .long a2, .long a3] : List Value).toArray s 0 0 (ss_A G)) g
set_option maxHeartbeats 4000000 in
set_option maxRecDepth 100000 in
theorem cc_Ru_join (l : Launch) (G : ss_G) (N : Nat) (a1 : Int32) (a2 : Int64) (a3 : Int64) (h : ss_Hp) (rr : Int64) (hm : mm_Ru_join N a1 a2 a3 = some rr) : ss_Ct l G yy_Ru_join bb_Ru_join 5 (some .long) ({ frames := 0, cells := 0, slots := 0, locals := 0 }) [.int a1, .long a2, .long a3] h (some (.long rr)) h := by
  refine Met.ofW (cc := bb_Ru_join) (maxL := 5) (ret := (some .long)) (by decide) rfl ?_
  intro p e s m args below meth c s₁ B hml hv
  obtain ⟨rfl, hR, hK⟩ := hv
  have hC : CallFix p m c bb_Ru_join 5 s _ lw_g sR_1 := ⟨B.exec, B.bytes, hml, findClass_of_methodNamed B.named, fun w hw => atoms_spec (ws := ss_w yy_Ru_join bb_Ru_join 5 (some .long)) B.pre w (List.mem_cons_of_mem _ hw)⟩
  have hx := hC.1
  have hb := hC.2.1
  have hr := B.returns
  have hlocks := B.notSynchronized
  have hS : va_S (ss_A G) s.heap s.heap [] := va_S.rf
  have hl := lv_entry ([.int a1, .long a2, .long a3]) (n := 5) (Nat.le_of_ble_eq_true rfl)
  rw [lg_entry_eq]
  generalize (lg_sl ([.int a1, .long a2, .long a3]) ++ List.replicate (5 - (lg_sl ([.int a1, .long a2, .long a3])).length) Slot.unset).toArray = ls at hl ⊢
  have hl : lv_has ls 5 [(0, .int a1), (1, .long a2), (3, .long a3)] := hl
  have J_85 : ∀ (s0_85 : Int64) (H : Heap) (locs : List Loc) (ls : Array Slot), mm_Ru_join_j85 N a1 a2 a3 s0_85 = some rr → ss_R G h H → va_S (ss_A G) s.heap H locs → lv_has ls 5 [] → ww_Ru_join p l e s m below meth c G a1 a2 a3 h rr  H locs 0 0 (F0 m 85 ls [.long s0_85]) := by
    intro s0_85 H locs ls hm hR hS hl
    exact ss_lret hC hr hlocks hR hS (ss_withl _ hm) dd_Ru_join_85
  have J_99 : ∀ (s0_99 : Int64) (H : Heap) (locs : List Loc) (ls : Array Slot), mm_Ru_join_j99 N a1 a2 a3 s0_99 = some rr → ss_R G h H → va_S (ss_A G) s.heap H locs → lv_has ls 5 [] → ww_Ru_join p l e s m below meth c G a1 a2 a3 h rr  H locs 0 0 (F0 m 99 ls [.long s0_99]) := by
    intro s0_99 H locs ls hm hR hS hl
    exact ss_lret hC hr hlocks hR hS (ss_withl _ hm) dd_Ru_join_99
  have J_111 : ∀ (s0_111 : Int64) (H : Heap) (locs : List Loc) (ls : Array Slot), mm_Ru_join_j111 N a1 a2 a3 s0_111 = some rr → ss_R G h H → va_S (ss_A G) s.heap H locs → lv_has ls 5 [] → ww_Ru_join p l e s m below meth c G a1 a2 a3 h rr  H locs 0 0 (F0 m 111 ls [.long s0_111]) := by
    intro s0_111 H locs ls hm hR hS hl
    exact ss_lret hC hr hlocks hR hS (ss_withl _ hm) dd_Ru_join_111
  have J_123 : ∀ (s0_123 : Int64) (H : Heap) (locs : List Loc) (ls : Array Slot), mm_Ru_join_j123 N a1 a2 a3 s0_123 = some rr → ss_R G h H → va_S (ss_A G) s.heap H locs → lv_has ls 5 [] → ww_Ru_join p l e s m below meth c G a1 a2 a3 h rr  H locs 0 0 (F0 m 123 ls [.long s0_123]) := by
    intro s0_123 H locs ls hm hR hS hl
    exact ss_lret hC hr hlocks hR hS (ss_withl _ hm) dd_Ru_join_123
  have J_135 : ∀ (s0_135 : Int64) (H : Heap) (locs : List Loc) (ls : Array Slot), mm_Ru_join_j135 N a1 a2 a3 s0_135 = some rr → ss_R G h H → va_S (ss_A G) s.heap H locs → lv_has ls 5 [] → ww_Ru_join p l e s m below meth c G a1 a2 a3 h rr  H locs 0 0 (F0 m 135 ls [.long s0_135]) := by
    intro s0_135 H locs ls hm hR hS hl
    exact ss_lret hC hr hlocks hR hS (ss_withl _ hm) dd_Ru_join_135
  have J_147 : ∀ (s0_147 : Int64) (H : Heap) (locs : List Loc) (ls : Array Slot), mm_Ru_join_j147 N a1 a2 a3 s0_147 = some rr → ss_R G h H → va_S (ss_A G) s.heap H locs → lv_has ls 5 [] → ww_Ru_join p l e s m below meth c G a1 a2 a3 h rr  H locs 0 0 (F0 m 147 ls [.long s0_147]) := by
    intro s0_147 H locs ls hm hR hS hl
    exact ss_lret hC hr hlocks hR hS (ss_withl _ hm) dd_Ru_join_147
  have J_159 : ∀ (s0_159 : Int64) (H : Heap) (locs : List Loc) (ls : Array Slot), mm_Ru_join_j159 N a1 a2 a3 s0_159 = some rr → ss_R G h H → va_S (ss_A G) s.heap H locs → lv_has ls 5 [] → ww_Ru_join p l e s m below meth c G a1 a2 a3 h rr  H locs 0 0 (F0 m 159 ls [.long s0_159]) := by
    intro s0_159 H locs ls hm hR hS hl
    exact ss_lret hC hr hlocks hR hS (ss_withl _ hm) dd_Ru_join_159
  refine lv_iload_n hx hb dd_Ru_join_0 rfl (lv_at hl 0 rfl) ?_
  by_cases c1 : a1 = (-11 : Int32)
  · have hm := ss_ift hm c1
    refine lv_tableIn (tgt := 160) hx hb dd_Ru_join_1 (by rw [c1]; decide) (by rw [c1]; decide) (by rw [c1]; rfl) (by decide) ?_
    refine lv_lload_n hx hb dd_Ru_join_160 rfl (lv_at hl 1 rfl) ?_
    refine lv_lload_n hx hb dd_Ru_join_161 rfl (lv_at hl 2 rfl) ?_
    refine lv_land hx hb dd_Ru_join_162 ?_
    exact ss_lret hC hr hlocks hR hS (ss_withl _ hm) dd_Ru_join_163
  have hm := ss_iff hm c1
  by_cases c2 : a1 = (-10 : Int32)
  · have hm := ss_ift hm c2
    refine lv_tableIn (tgt := 148) hx hb dd_Ru_join_1 (by rw [c2]; decide) (by rw [c2]; decide) (by rw [c2]; rfl) (by decide) ?_
    refine lv_lload_n hx hb dd_Ru_join_148 rfl (lv_at hl 1 rfl) ?_
    refine lv_lload_n hx hb dd_Ru_join_149 rfl (lv_at hl 2 rfl) ?_
    refine W.lcmp hx hb dd_Ru_join_150 ?_
    refine lv_if_le (tgt := 158) hx hb dd_Ru_join_151 (by decide) (fun c3 => ?_) (fun c3 => ?_)
    · have hm := ss_ift hm c3
      refine lv_lconst (v := 0) hx hb dd_Ru_join_158 (by decide) ?_
      exact J_159 (0 : Int64)  _ _ _ hm hR hS (lv_sub hl [] rfl)
    · have hm := ss_iff hm c3
      refine lv_lconst (v := 1) hx hb dd_Ru_join_154 (by decide) ?_
      refine lv_goto (tgt := 159) hx hb dd_Ru_join_155 (by decide) ?_
      exact J_159 (1 : Int64)  _ _ _ hm hR hS (lv_sub hl [] rfl)
  have hm := ss_iff hm c2
  by_cases c4 : a1 = (-9 : Int32)
  · have hm := ss_ift hm c4
    refine lv_tableIn (tgt := 136) hx hb dd_Ru_join_1 (by rw [c4]; decide) (by rw [c4]; decide) (by rw [c4]; rfl) (by decide) ?_
    refine lv_lload_n hx hb dd_Ru_join_136 rfl (lv_at hl 1 rfl) ?_
    refine lv_lload_n hx hb dd_Ru_join_137 rfl (lv_at hl 2 rfl) ?_
    refine W.lcmp hx hb dd_Ru_join_138 ?_
    refine lv_if_lt (tgt := 146) hx hb dd_Ru_join_139 (by decide) (fun c5 => ?_) (fun c5 => ?_)
    · have hm := ss_ift hm c5
      refine lv_lconst (v := 0) hx hb dd_Ru_join_146 (by decide) ?_
      exact J_147 (0 : Int64)  _ _ _ hm hR hS (lv_sub hl [] rfl)
    · have hm := ss_iff hm c5
      refine lv_lconst (v := 1) hx hb dd_Ru_join_142 (by decide) ?_
      refine lv_goto (tgt := 147) hx hb dd_Ru_join_143 (by decide) ?_
      exact J_147 (1 : Int64)  _ _ _ hm hR hS (lv_sub hl [] rfl)
  have hm := ss_iff hm c4
  by_cases c6 : a1 = (-8 : Int32)
  · have hm := ss_ift hm c6
    refine lv_tableIn (tgt := 124) hx hb dd_Ru_join_1 (by rw [c6]; decide) (by rw [c6]; decide) (by rw [c6]; rfl) (by decide) ?_
    refine lv_lload_n hx hb dd_Ru_join_124 rfl (lv_at hl 1 rfl) ?_
    refine lv_lload_n hx hb dd_Ru_join_125 rfl (lv_at hl 2 rfl) ?_
    refine W.lcmp hx hb dd_Ru_join_126 ?_
    refine lv_if_ne (tgt := 134) hx hb dd_Ru_join_127 (by decide) (fun c7 => ?_) (fun c7 => ?_)
    · have hm := ss_iff hm c7
      refine lv_lconst (v := 0) hx hb dd_Ru_join_134 (by decide) ?_
      exact J_135 (0 : Int64)  _ _ _ hm hR hS (lv_sub hl [] rfl)
    · have hm := ss_ift hm c7
      refine lv_lconst (v := 1) hx hb dd_Ru_join_130 (by decide) ?_
      refine lv_goto (tgt := 135) hx hb dd_Ru_join_131 (by decide) ?_
      exact J_135 (1 : Int64)  _ _ _ hm hR hS (lv_sub hl [] rfl)
  have hm := ss_iff hm c6
  by_cases c8 : a1 = (-7 : Int32)
  · have hm := ss_ift hm c8
    refine lv_tableIn (tgt := 112) hx hb dd_Ru_join_1 (by rw [c8]; decide) (by rw [c8]; decide) (by rw [c8]; rfl) (by decide) ?_
    refine lv_lload_n hx hb dd_Ru_join_112 rfl (lv_at hl 1 rfl) ?_
    refine lv_lload_n hx hb dd_Ru_join_113 rfl (lv_at hl 2 rfl) ?_
    refine W.lcmp hx hb dd_Ru_join_114 ?_
    refine lv_if_gt (tgt := 122) hx hb dd_Ru_join_115 (by decide) (fun c9 => ?_) (fun c9 => ?_)
    · have hm := ss_ift hm c9
      refine lv_lconst (v := 0) hx hb dd_Ru_join_122 (by decide) ?_
      exact J_123 (0 : Int64)  _ _ _ hm hR hS (lv_sub hl [] rfl)
    · have hm := ss_iff hm c9
      refine lv_lconst (v := 1) hx hb dd_Ru_join_118 (by decide) ?_
      refine lv_goto (tgt := 123) hx hb dd_Ru_join_119 (by decide) ?_
      exact J_123 (1 : Int64)  _ _ _ hm hR hS (lv_sub hl [] rfl)
  have hm := ss_iff hm c8
  by_cases c10 : a1 = (-6 : Int32)
  · have hm := ss_ift hm c10
    refine lv_tableIn (tgt := 100) hx hb dd_Ru_join_1 (by rw [c10]; decide) (by rw [c10]; decide) (by rw [c10]; rfl) (by decide) ?_
    refine lv_lload_n hx hb dd_Ru_join_100 rfl (lv_at hl 1 rfl) ?_
    refine lv_lload_n hx hb dd_Ru_join_101 rfl (lv_at hl 2 rfl) ?_
    refine W.lcmp hx hb dd_Ru_join_102 ?_
    refine lv_if_ge (tgt := 110) hx hb dd_Ru_join_103 (by decide) (fun c11 => ?_) (fun c11 => ?_)
    · have hm := ss_ift hm c11
      refine lv_lconst (v := 0) hx hb dd_Ru_join_110 (by decide) ?_
      exact J_111 (0 : Int64)  _ _ _ hm hR hS (lv_sub hl [] rfl)
    · have hm := ss_iff hm c11
      refine lv_lconst (v := 1) hx hb dd_Ru_join_106 (by decide) ?_
      refine lv_goto (tgt := 111) hx hb dd_Ru_join_107 (by decide) ?_
      exact J_111 (1 : Int64)  _ _ _ hm hR hS (lv_sub hl [] rfl)
  have hm := ss_iff hm c10
  by_cases c12 : a1 = (-5 : Int32)
  · have hm := ss_ift hm c12
    refine lv_tableIn (tgt := 86) hx hb dd_Ru_join_1 (by rw [c12]; decide) (by rw [c12]; decide) (by rw [c12]; rfl) (by decide) ?_
    refine lv_lload_n hx hb dd_Ru_join_86 rfl (lv_at hl 2 rfl) ?_
    refine lv_lconst (v := 0) hx hb dd_Ru_join_87 (by decide) ?_
    refine W.lcmp hx hb dd_Ru_join_88 ?_
    refine lv_if_ne (tgt := 96) hx hb dd_Ru_join_89 (by decide) (fun c13 => ?_) (fun c13 => ?_)
    · have hm := ss_iff hm c13
      refine lv_lload_n hx hb dd_Ru_join_96 rfl (lv_at hl 1 rfl) ?_
      refine lv_lload_n hx hb dd_Ru_join_97 rfl (lv_at hl 2 rfl) ?_
      obtain ⟨v14, qv14, hm⟩ := ss_bind hm
      refine ss_lrm hx hb qv14 dd_Ru_join_98 ?_
      exact J_99 v14  _ _ _ hm hR hS (lv_sub hl [] rfl)
    · have hm := ss_ift hm c13
      refine lv_lconst (v := 0) hx hb dd_Ru_join_92 (by decide) ?_
      refine lv_goto (tgt := 99) hx hb dd_Ru_join_93 (by decide) ?_
      exact J_99 (0 : Int64)  _ _ _ hm hR hS (lv_sub hl [] rfl)
  have hm := ss_iff hm c12
  by_cases c15 : a1 = (-4 : Int32)
  · have hm := ss_ift hm c15
    refine lv_tableIn (tgt := 72) hx hb dd_Ru_join_1 (by rw [c15]; decide) (by rw [c15]; decide) (by rw [c15]; rfl) (by decide) ?_
    refine lv_lload_n hx hb dd_Ru_join_72 rfl (lv_at hl 2 rfl) ?_
    refine lv_lconst (v := 0) hx hb dd_Ru_join_73 (by decide) ?_
    refine W.lcmp hx hb dd_Ru_join_74 ?_
    refine lv_if_ne (tgt := 82) hx hb dd_Ru_join_75 (by decide) (fun c16 => ?_) (fun c16 => ?_)
    · have hm := ss_iff hm c16
      refine lv_lload_n hx hb dd_Ru_join_82 rfl (lv_at hl 1 rfl) ?_
      refine lv_lload_n hx hb dd_Ru_join_83 rfl (lv_at hl 2 rfl) ?_
      obtain ⟨v17, qv17, hm⟩ := ss_bind hm
      refine ss_ldv hx hb qv17 dd_Ru_join_84 ?_
      exact J_85 v17  _ _ _ hm hR hS (lv_sub hl [] rfl)
    · have hm := ss_ift hm c16
      refine lv_lconst (v := 0) hx hb dd_Ru_join_78 (by decide) ?_
      refine lv_goto (tgt := 85) hx hb dd_Ru_join_79 (by decide) ?_
      exact J_85 (0 : Int64)  _ _ _ hm hR hS (lv_sub hl [] rfl)
  have hm := ss_iff hm c15
  by_cases c18 : a1 = (-3 : Int32)
  · have hm := ss_ift hm c18
    refine lv_tableIn (tgt := 68) hx hb dd_Ru_join_1 (by rw [c18]; decide) (by rw [c18]; decide) (by rw [c18]; rfl) (by decide) ?_
    refine lv_lload_n hx hb dd_Ru_join_68 rfl (lv_at hl 1 rfl) ?_
    refine lv_lload_n hx hb dd_Ru_join_69 rfl (lv_at hl 2 rfl) ?_
    refine lv_lmul hx hb dd_Ru_join_70 ?_
    exact ss_lret hC hr hlocks hR hS (ss_withl _ hm) dd_Ru_join_71
  have hm := ss_iff hm c18
  by_cases c19 : a1 = (-2 : Int32)
  · have hm := ss_ift hm c19
    refine lv_tableIn (tgt := 64) hx hb dd_Ru_join_1 (by rw [c19]; decide) (by rw [c19]; decide) (by rw [c19]; rfl) (by decide) ?_
    refine lv_lload_n hx hb dd_Ru_join_64 rfl (lv_at hl 1 rfl) ?_
    refine lv_lload_n hx hb dd_Ru_join_65 rfl (lv_at hl 2 rfl) ?_
    refine lv_lsub hx hb dd_Ru_join_66 ?_
    exact ss_lret hC hr hlocks hR hS (ss_withl _ hm) dd_Ru_join_67
  have hm := ss_iff hm c19
  by_cases c20 : a1 = (-1 : Int32)
  · have hm := ss_ift hm c20
    refine lv_tableIn (tgt := 60) hx hb dd_Ru_join_1 (by rw [c20]; decide) (by rw [c20]; decide) (by rw [c20]; rfl) (by decide) ?_
    refine lv_lload_n hx hb dd_Ru_join_60 rfl (lv_at hl 1 rfl) ?_
    refine lv_lload_n hx hb dd_Ru_join_61 rfl (lv_at hl 2 rfl) ?_
    refine lv_ladd hx hb dd_Ru_join_62 ?_
    exact ss_lret hC hr hlocks hR hS (ss_withl _ hm) dd_Ru_join_63
  have hm := ss_iff hm c20
  have nc1 := lv_neT (a := (-11)) c1 (by decide)
  have nc2 := lv_neT (a := (-10)) c2 (by decide)
  have nc4 := lv_neT (a := (-9)) c4 (by decide)
  have nc6 := lv_neT (a := (-8)) c6 (by decide)
  have nc8 := lv_neT (a := (-7)) c8 (by decide)
  have nc10 := lv_neT (a := (-6)) c10 (by decide)
  have nc12 := lv_neT (a := (-5)) c12 (by decide)
  have nc15 := lv_neT (a := (-4)) c15 (by decide)
  have nc18 := lv_neT (a := (-3)) c18 (by decide)
  have nc19 := lv_neT (a := (-2)) c19 (by decide)
  have nc20 := lv_neT (a := (-1)) c20 (by decide)
  refine lv_tableOut (tgt := 164) hx hb dd_Ru_join_1 (by omega) (by decide) ?_
  refine lv_lload_n hx hb dd_Ru_join_164 rfl (lv_at hl 1 rfl) ?_
  refine lv_lload_n hx hb dd_Ru_join_165 rfl (lv_at hl 2 rfl) ?_
  refine lv_lor hx hb dd_Ru_join_166 ?_
  exact ss_lret hC hr hlocks hR hS (ss_withl _ hm) dd_Ru_join_167
