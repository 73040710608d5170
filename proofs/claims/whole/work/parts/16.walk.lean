theorem dd_S_isFree_0 : decode bb_S_isFree 0 = .ok (.aload_n 0, 1) := by decide +kernel
theorem dd_S_isFree_1 : decode bb_S_isFree 1 = .ok (.iload_n 1, 1) := by decide +kernel
theorem dd_S_isFree_2 : decode bb_S_isFree 2 = .ok (.invokevirtual 158, 3) := by decide +kernel
theorem dd_S_isFree_5 : decode bb_S_isFree 5 = .ok (.ifCond .eq 24, 3) := by decide +kernel
theorem dd_S_isFree_8 : decode bb_S_isFree 8 = .ok (.aload_n 0, 1) := by decide +kernel
theorem dd_S_isFree_9 : decode bb_S_isFree 9 = .ok (.getfield 46, 3) := by decide +kernel
theorem dd_S_isFree_12 : decode bb_S_isFree 12 = .ok (.getfield 128, 3) := by decide +kernel
theorem dd_S_isFree_15 : decode bb_S_isFree 15 = .ok (.getfield 167, 3) := by decide +kernel
theorem dd_S_isFree_18 : decode bb_S_isFree 18 = .ok (.iload_n 1, 1) := by decide +kernel
theorem dd_S_isFree_19 : decode bb_S_isFree 19 = .ok (.ishr, 1) := by decide +kernel
theorem dd_S_isFree_20 : decode bb_S_isFree 20 = .ok (.iconst 1, 1) := by decide +kernel
theorem dd_S_isFree_21 : decode bb_S_isFree 21 = .ok (.iand, 1) := by decide +kernel
theorem dd_S_isFree_22 : decode bb_S_isFree 22 = .ok (.ifCond .ne 7, 3) := by decide +kernel
theorem dd_S_isFree_25 : decode bb_S_isFree 25 = .ok (.iconst 1, 1) := by decide +kernel
theorem dd_S_isFree_26 : decode bb_S_isFree 26 = .ok (.goto 4, 3) := by decide +kernel
theorem dd_S_isFree_29 : decode bb_S_isFree 29 = .ok (.iconst 0, 1) := by decide +kernel
theorem dd_S_isFree_30 : decode bb_S_isFree 30 = .ok (.ireturn, 1) := by decide +kernel
def mm_S_isFree_j30 (N : Nat) (this : Option Nat) (a1 : Int32) (h : ss_Hp) (s0_30 : Int32) : Option Int32 :=
  (ss_bz s0_30).bind fun v1 =>
  some v1
def mm_S_isFree_j29 (N : Nat) (this : Option Nat) (a1 : Int32) (h : ss_Hp) : Option Int32 :=
  mm_S_isFree_j30 N this a1 h (0 : Int32)
def mm_S_isFree (N : Nat) (this : Option Nat) (a1 : Int32) (h : ss_Hp) : Option Int32 :=
  if ss_is h this 11 = true then
    (mm_S_isHouse N this a1 h).bind fun v2 =>
    if v2 = 0 then
      mm_S_isFree_j29 N this a1 h
    else
      (ss_gr h this 11 4).bind fun r4 =>
      (ss_gr h r4 8 1).bind fun r5 =>
      (ss_gi h r5 0 2).bind fun v6 =>
      if ((v6 >>> (a1 &&& 31)) &&& (1 : Int32)) = 0 then
        mm_S_isFree_j30 N this a1 h (1 : Int32)
      else
        mm_S_isFree_j29 N this a1 h
  else none
abbrev ww_S_isFree (p : Program) (l : Launch) (e : Env) (s : State) (m : MethodId) (below : List Frame) (meth : Method) (c : Code) (G : ss_G) (this : Option Nat) (a1 : Int32) (h : ss_Hp) (rr : Int32) (H : Heap) (locs : List Loc) (k n : Nat) (g : JFrame) : Prop := W p l e (headSpec (ss_w yy_S_isFree bb_S_isFree 2 (some .boolean)) ({ frames := 1, cells := 0, slots := 0, locals := 21 })).room s m ([ss_v (ss_b G) this, .int a1] : List Value).toArray below meth c H locs k n (MQ below (ss_Qc G (some (.int rr)) h) ([ss_v (ss_b G) this, .int a1] : List Value).toArray s 0 0 (ss_A G)) g
theorem ck_S_isFree {N : Nat} {this : Option Nat} {a1 : Int32} {h : ss_Hp} {res : Int32} (hm : mm_S_isFree N this a1 h = some res) : ss_is h this 11 = true := (ss_chk hm).1
set_option maxHeartbeats 4000000 in
set_option maxRecDepth 100000 in
theorem cc_S_isFree (l : Launch) (G : ss_G) (N : Nat) (this : Option Nat) (a1 : Int32) (h : ss_Hp) (rr : Int32) (hm : mm_S_isFree N this a1 h = some rr) : ss_Ct l G yy_S_isFree bb_S_isFree 2 (some .boolean) ({ frames := 1, cells := 0, slots := 0, locals := 21 }) [ss_v (ss_b G) this, .int a1] h (some (.int rr)) h := by
  obtain ⟨hck, hm⟩ := ss_chk hm
  refine Met.ofW (cc := bb_S_isFree) (maxL := 2) (ret := (some .boolean)) (by decide) rfl ?_
  intro p e s m args below meth c s₁ B hml hv
  obtain ⟨rfl, hR, hK⟩ := hv
  have hC : CallFix p m c bb_S_isFree 2 s _ lw_g sR_11 := ⟨B.exec, B.bytes, hml, findClass_of_methodNamed B.named, fun w hw => atoms_spec (ws := ss_w yy_S_isFree bb_S_isFree 2 (some .boolean)) B.pre w (List.mem_cons_of_mem _ hw)⟩
  have hx := hC.1
  have hb := hC.2.1
  have hr := B.returns
  have hlocks := B.notSynchronized
  have hS : va_S (ss_A G) s.heap s.heap [] := va_S.rf
  have hl := lv_entry ([ss_v (ss_b G) this, .int a1]) (n := 2) (by simp [lg_sl, ss_v_cat, ss_cat_i, ss_cat_l, ss_cat_r])
  rw [lg_entry_eq]
  generalize (lg_sl ([ss_v (ss_b G) this, .int a1]) ++ List.replicate (2 - (lg_sl ([ss_v (ss_b G) this, .int a1])).length) Slot.unset).toArray = ls at hl ⊢
  have hl : lv_has ls 2 [(0, ss_v (ss_b G) this), (1, .int a1)] := by simpa [lv_args, ss_v_cat, ss_cat_i, ss_cat_l, ss_cat_r] using hl
  have J_30 : ∀ (s0_30 : Int32) (H : Heap) (locs : List Loc) (ls : Array Slot), mm_S_isFree_j30 N this a1 h s0_30 = some rr → ss_R G h H → va_S (ss_A G) s.heap H locs → lv_has ls 2 [] → ww_S_isFree p l e s m below meth c G this a1 h rr  H locs 0 0 (F0 m 30 ls [.int s0_30]) := by
    intro s0_30 H locs ls hm hR hS hl
    obtain ⟨v1, qv1, hm⟩ := ss_bind hm
    obtain ⟨hnb, rfl⟩ := ss_bzs qv1
    exact ss_zret hC hr hnb hlocks hR hS (ss_with _ hm) dd_S_isFree_30
  have J_29 : ∀  (H : Heap) (locs : List Loc) (ls : Array Slot), mm_S_isFree_j29 N this a1 h = some rr → ss_R G h H → va_S (ss_A G) s.heap H locs → lv_has ls 2 [] → ww_S_isFree p l e s m below meth c G this a1 h rr  H locs 0 0 (F0 m 29 ls []) := by
    intro  H locs ls hm hR hS hl
    refine lv_iconst (v := 0) hx hb dd_S_isFree_29 (by decide) ?_
    exact J_30 (0 : Int32)  _ _ _ hm hR hS hl
  refine ss_aload_n hx hb dd_S_isFree_0 rfl (lv_at hl 0 rfl) ?_
  refine lv_iload_n hx hb dd_S_isFree_1 rfl (lv_at hl 1 rfl) ?_
  obtain ⟨v2, qv2, hm⟩ := ss_bind hm
  refine ss_cV 0 0 (As := [.int a1]) hC hK hR hS hl.1 (cc_S_isHouse l G N _ _ _ _ qv2) km_S_158 (ck_S_isHouse qv2) ⟨Nat.le_of_ble_eq_true rfl, Nat.le_of_ble_eq_true rfl⟩ ⟨Nat.le_of_ble_eq_true rfl, Nat.le_of_ble_eq_true rfl, Nat.le_of_ble_eq_true rfl, Nat.le_of_ble_eq_true rfl⟩ rfl rfl (Nat.le_of_ble_eq_true rfl) dd_S_isFree_2 (fun H locs hR hS => ?_)
  refine lv_if_eq (tgt := 29) hx hb dd_S_isFree_5 (by decide) (fun c3 => ?_) (fun c3 => ?_)
  · have hm := ss_ift hm c3
    exact J_29  _ _ _ hm hR hS (lv_sub hl [] rfl)
  · have hm := ss_iff hm c3
    refine ss_aload_n hx hb dd_S_isFree_8 rfl (lv_at hl 0 rfl) ?_
    obtain ⟨r4, qr4, hm⟩ := ss_bind hm
    refine ss_getr hC hK hR kf_S_46 rfl qr4 dd_S_isFree_9 ?_
    obtain ⟨r5, qr5, hm⟩ := ss_bind hm
    refine ss_getr hC hK hR kf_S_128 rfl qr5 dd_S_isFree_12 ?_
    obtain ⟨v6, qv6, hm⟩ := ss_bind hm
    refine ss_geti hC hK hR kf_S_167 qv6 dd_S_isFree_15 ?_
    refine lv_iload_n hx hb dd_S_isFree_18 rfl (lv_at hl 1 rfl) ?_
    refine lv_ishr hx hb dd_S_isFree_19 ?_
    refine lv_iconst (v := 1) hx hb dd_S_isFree_20 (by decide) ?_
    refine lv_iand hx hb dd_S_isFree_21 ?_
    refine lv_if_ne (tgt := 29) hx hb dd_S_isFree_22 (by decide) (fun c7 => ?_) (fun c7 => ?_)
    · have hm := ss_iff hm c7
      exact J_29  _ _ _ hm hR hS (lv_sub hl [] rfl)
    · have hm := ss_ift hm c7
      refine lv_iconst (v := 1) hx hb dd_S_isFree_25 (by decide) ?_
      refine lv_goto (tgt := 30) hx hb dd_S_isFree_26 (by decide) ?_
      exact J_30 (1 : Int32)  _ _ _ hm hR hS (lv_sub hl [] rfl)
theorem dd_S_sweep_0 : decode bb_S_sweep 0 = .ok (.aload_n 0, 1) := by decide +kernel
theorem dd_S_sweep_1 : decode bb_S_sweep 1 = .ok (.iload_n 1, 1) := by decide +kernel
theorem dd_S_sweep_2 : decode bb_S_sweep 2 = .ok (.invokevirtual 188, 3) := by decide +kernel
theorem dd_S_sweep_5 : decode bb_S_sweep 5 = .ok (.ifCond .eq 26, 3) := by decide +kernel
theorem dd_S_sweep_8 : decode bb_S_sweep 8 = .ok (.aload_n 0, 1) := by decide +kernel
theorem dd_S_sweep_9 : decode bb_S_sweep 9 = .ok (.iload_n 2, 1) := by decide +kernel
theorem dd_S_sweep_10 : decode bb_S_sweep 10 = .ok (.invokevirtual 124, 3) := by decide +kernel
theorem dd_S_sweep_13 : decode bb_S_sweep 13 = .ok (.ifCond .eq 18, 3) := by decide +kernel
theorem dd_S_sweep_16 : decode bb_S_sweep 16 = .ok (.aload_n 0, 1) := by decide +kernel
theorem dd_S_sweep_17 : decode bb_S_sweep 17 = .ok (.getfield 46, 3) := by decide +kernel
theorem dd_S_sweep_20 : decode bb_S_sweep 20 = .ok (.getfield 128, 3) := by decide +kernel
theorem dd_S_sweep_23 : decode bb_S_sweep 23 = .ok (.getfield 132, 3) := by decide +kernel
theorem dd_S_sweep_26 : decode bb_S_sweep 26 = .ok (.iload_n 2, 1) := by decide +kernel
theorem dd_S_sweep_27 : decode bb_S_sweep 27 = .ok (.iaload, 1) := by decide +kernel
theorem dd_S_sweep_28 : decode bb_S_sweep 28 = .ok (.ifCond .ne 5, 3) := by decide +kernel
theorem dd_S_sweep_31 : decode bb_S_sweep 31 = .ok (.iconst (-1), 1) := by decide +kernel
theorem dd_S_sweep_32 : decode bb_S_sweep 32 = .ok (.ireturn, 1) := by decide +kernel
theorem dd_S_sweep_33 : decode bb_S_sweep 33 = .ok (.aload_n 0, 1) := by decide +kernel
theorem dd_S_sweep_34 : decode bb_S_sweep 34 = .ok (.getfield 57, 3) := by decide +kernel
theorem dd_S_sweep_37 : decode bb_S_sweep 37 = .ok (.aload_n 0, 1) := by decide +kernel
theorem dd_S_sweep_38 : decode bb_S_sweep 38 = .ok (.getfield 46, 3) := by decide +kernel
theorem dd_S_sweep_41 : decode bb_S_sweep 41 = .ok (.getfield 128, 3) := by decide +kernel
theorem dd_S_sweep_44 : decode bb_S_sweep 44 = .ok (.invokevirtual 174, 3) := by decide +kernel
theorem dd_S_sweep_47 : decode bb_S_sweep 47 = .ok (.aload_n 0, 1) := by decide +kernel
theorem dd_S_sweep_48 : decode bb_S_sweep 48 = .ok (.getfield 77, 3) := by decide +kernel
theorem dd_S_sweep_51 : decode bb_S_sweep 51 = .ok (.invokevirtual 178, 3) := by decide +kernel
theorem dd_S_sweep_54 : decode bb_S_sweep 54 = .ok (.aload_n 0, 1) := by decide +kernel
theorem dd_S_sweep_55 : decode bb_S_sweep 55 = .ok (.getfield 68, 3) := by decide +kernel
theorem dd_S_sweep_58 : decode bb_S_sweep 58 = .ok (.iload_n 1, 1) := by decide +kernel
theorem dd_S_sweep_59 : decode bb_S_sweep 59 = .ok (.iload_n 2, 1) := by decide +kernel
theorem dd_S_sweep_60 : decode bb_S_sweep 60 = .ok (.invokevirtual 191, 3) := by decide +kernel
theorem dd_S_sweep_63 : decode bb_S_sweep 63 = .ok (.istore_n 3, 1) := by decide +kernel
theorem dd_S_sweep_64 : decode bb_S_sweep 64 = .ok (.aload_n 0, 1) := by decide +kernel
theorem dd_S_sweep_65 : decode bb_S_sweep 65 = .ok (.getfield 46, 3) := by decide +kernel
theorem dd_S_sweep_68 : decode bb_S_sweep 68 = .ok (.getfield 128, 3) := by decide +kernel
theorem dd_S_sweep_71 : decode bb_S_sweep 71 = .ok (.aload_n 0, 1) := by decide +kernel
theorem dd_S_sweep_72 : decode bb_S_sweep 72 = .ok (.getfield 68, 3) := by decide +kernel
theorem dd_S_sweep_75 : decode bb_S_sweep 75 = .ok (.getfield 184, 3) := by decide +kernel
theorem dd_S_sweep_78 : decode bb_S_sweep 78 = .ok (.invokevirtual 185, 3) := by decide +kernel
theorem dd_S_sweep_81 : decode bb_S_sweep 81 = .ok (.iload_n 3, 1) := by decide +kernel
theorem dd_S_sweep_82 : decode bb_S_sweep 82 = .ok (.ireturn, 1) := by decide +kernel
def mm_S_sweep_j31 (N : Nat) (this : Option Nat) (a1 : Int32) (a2 : Int32) (h_31 : ss_Hp) : Option (Int32 × ss_Hp) :=
  some ((-1 : Int32), h_31)
def mm_S_sweep (N : Nat) (this : Option Nat) (a1 : Int32) (a2 : Int32) (h : ss_Hp) : Option (Int32 × ss_Hp) :=
  if ss_is h this 11 = true then
    (mm_S_isFree N this a1 h).bind fun v1 =>
    if v1 = 0 then
      mm_S_sweep_j31 N this a1 a2 h
    else
      (mm_S_isStep N this a2 h).bind fun v3 =>
      if v3 = 0 then
        mm_S_sweep_j31 N this a1 a2 h
      else
        (ss_gr h this 11 4).bind fun r5 =>
        (ss_gr h r5 8 1).bind fun r6 =>
        (ss_gr h r6 0 0).bind fun r7 =>
        (ss_ai h r7 20 a2).bind fun v8 =>
        if v8 = 0 then
          mm_S_sweep_j31 N this a1 a2 h
        else
          (ss_gr h this 11 6).bind fun r10 =>
          (ss_gr h this 11 4).bind fun r11 =>
          (ss_gr h r11 8 1).bind fun r12 =>
          (mm_A_keep N r10 r12 h).bind fun h13 =>
          (ss_gr h13 this 11 8).bind fun r14 =>
          (mm_F_start N r14 h13).bind fun h15 =>
          (ss_gr h15 this 11 7).bind fun r16 =>
          ss_b2 (mm_Wi_sweepBy N r16 a1 a2 h15) fun v17 h18 =>
          (ss_gr h18 this 11 4).bind fun r19 =>
          (ss_gr h18 r19 8 1).bind fun r20 =>
          (ss_gr h18 this 11 7).bind fun r21 =>
          (ss_gr h18 r21 7 0).bind fun r22 =>
          (mm_G_copyFrom N r20 r22 h18).bind fun h23 =>
          some (v17, h23)
  else none
abbrev ww_S_sweep (p : Program) (l : Launch) (e : Env) (s : State) (m : MethodId) (below : List Frame) (meth : Method) (c : Code) (G : ss_G) (this : Option Nat) (a1 : Int32) (a2 : Int32) (h : ss_Hp) (rr : Int32) (hh : ss_Hp) (H : Heap) (locs : List Loc) (k n : Nat) (g : JFrame) : Prop := W p l e (headSpec (ss_w yy_S_sweep bb_S_sweep 4 (some (.int))) ({ frames := 4, cells := 0, slots := 0, locals := 145 })).room s m ([ss_v (ss_b G) this, .int a1, .int a2] : List Value).toArray below meth c H locs k n (MQ below (ss_Qc G (some (.int rr)) hh) ([ss_v (ss_b G) this, .int a1, .int a2] : List Value).toArray s 0 0 (ss_A G)) g
theorem ck_S_sweep {N : Nat} {this : Option Nat} {a1 : Int32} {a2 : Int32} {h : ss_Hp} {res : Int32 × ss_Hp} (hm : mm_S_sweep N this a1 a2 h = some res) : ss_is h this 11 = true := (ss_chk hm).1
set_option maxHeartbeats 4000000 in
set_option maxRecDepth 100000 in
theorem cc_S_sweep (l : Launch) (G : ss_G) (N : Nat) (this : Option Nat) (a1 : Int32) (a2 : Int32) (h : ss_Hp) (rr : Int32) (hh : ss_Hp) (hm : mm_S_sweep N this a1 a2 h = some (rr, hh)) : ss_Ct l G yy_S_sweep bb_S_sweep 4 (some (.int)) ({ frames := 4, cells := 0, slots := 0, locals := 145 }) [ss_v (ss_b G) this, .int a1, .int a2] h (some (.int rr)) hh := by
  obtain ⟨hck, hm⟩ := ss_chk hm
  refine Met.ofW (cc := bb_S_sweep) (maxL := 4) (ret := (some (.int))) (by decide) rfl ?_
  intro p e s m args below meth c s₁ B hml hv
  obtain ⟨rfl, hR, hK⟩ := hv
  have hC : CallFix p m c bb_S_sweep 4 s _ lw_g sR_11 := ⟨B.exec, B.bytes, hml, findClass_of_methodNamed B.named, fun w hw => atoms_spec (ws := ss_w yy_S_sweep bb_S_sweep 4 (some (.int))) B.pre w (List.mem_cons_of_mem _ hw)⟩
  have hx := hC.1
  have hb := hC.2.1
  have hr := B.returns
  have hlocks := B.notSynchronized
  have hS : va_S (ss_A G) s.heap s.heap [] := va_S.rf
  have hl := lv_entry ([ss_v (ss_b G) this, .int a1, .int a2]) (n := 4) (by simp [lg_sl, ss_v_cat, ss_cat_i, ss_cat_l, ss_cat_r])
  rw [lg_entry_eq]
  generalize (lg_sl ([ss_v (ss_b G) this, .int a1, .int a2]) ++ List.replicate (4 - (lg_sl ([ss_v (ss_b G) this, .int a1, .int a2])).length) Slot.unset).toArray = ls at hl ⊢
  have hl : lv_has ls 4 [(0, ss_v (ss_b G) this), (1, .int a1), (2, .int a2)] := by simpa [lv_args, ss_v_cat, ss_cat_i, ss_cat_l, ss_cat_r] using hl
  have J_31 : ∀ (h_31 : ss_Hp) (H : Heap) (locs : List Loc) (ls : Array Slot), mm_S_sweep_j31 N this a1 a2 h_31 = some (rr, hh) → ss_R G h_31 H → va_S (ss_A G) s.heap H locs → lv_has ls 4 [] → ww_S_sweep p l e s m below meth c G this a1 a2 h rr hh  H locs 0 0 (F0 m 31 ls []) := by
    intro h_31 H locs ls hm hR hS hl
    refine lv_iconst (v := -1) hx hb dd_S_sweep_31 (by decide) ?_
    exact ss_iret hC hr hlocks hR hS hm dd_S_sweep_32
  refine ss_aload_n hx hb dd_S_sweep_0 rfl (lv_at hl 0 rfl) ?_
  refine lv_iload_n hx hb dd_S_sweep_1 rfl (lv_at hl 1 rfl) ?_
  obtain ⟨v1, qv1, hm⟩ := ss_bind hm
  refine ss_cV 0 0 (As := [.int a1]) hC hK hR hS hl.1 (cc_S_isFree l G N _ _ _ _ qv1) km_S_188 (ck_S_isFree qv1) ⟨Nat.le_of_ble_eq_true rfl, Nat.le_of_ble_eq_true rfl⟩ ⟨Nat.le_of_ble_eq_true rfl, Nat.le_of_ble_eq_true rfl, Nat.le_of_ble_eq_true rfl, Nat.le_of_ble_eq_true rfl⟩ rfl rfl (Nat.le_of_ble_eq_true rfl) dd_S_sweep_2 (fun H locs hR hS => ?_)
  refine lv_if_eq (tgt := 31) hx hb dd_S_sweep_5 (by decide) (fun c2 => ?_) (fun c2 => ?_)
  · have hm := ss_ift hm c2
    exact J_31 h _ _ _ hm hR hS (lv_sub hl [] rfl)
  · have hm := ss_iff hm c2
    refine ss_aload_n hx hb dd_S_sweep_8 rfl (lv_at hl 0 rfl) ?_
    refine lv_iload_n hx hb dd_S_sweep_9 rfl (lv_at hl 2 rfl) ?_
    obtain ⟨v3, qv3, hm⟩ := ss_bind hm
    refine ss_cV 0 0 (As := [.int a2]) hC hK hR hS hl.1 (cc_S_isStep l G N _ _ _ _ qv3) km_S_124 (ck_S_isStep qv3) ⟨Nat.le_of_ble_eq_true rfl, Nat.le_of_ble_eq_true rfl⟩ ⟨Nat.le_of_ble_eq_true rfl, Nat.le_of_ble_eq_true rfl, Nat.le_of_ble_eq_true rfl, Nat.le_of_ble_eq_true rfl⟩ rfl rfl (Nat.le_of_ble_eq_true rfl) dd_S_sweep_10 (fun H locs hR hS => ?_)
    refine lv_if_eq (tgt := 31) hx hb dd_S_sweep_13 (by decide) (fun c4 => ?_) (fun c4 => ?_)
    · have hm := ss_ift hm c4
      exact J_31 h _ _ _ hm hR hS (lv_sub hl [] rfl)
    · have hm := ss_iff hm c4
      refine ss_aload_n hx hb dd_S_sweep_16 rfl (lv_at hl 0 rfl) ?_
      obtain ⟨r5, qr5, hm⟩ := ss_bind hm
      refine ss_getr hC hK hR kf_S_46 rfl qr5 dd_S_sweep_17 ?_
      obtain ⟨r6, qr6, hm⟩ := ss_bind hm
      refine ss_getr hC hK hR kf_S_128 rfl qr6 dd_S_sweep_20 ?_
      obtain ⟨r7, qr7, hm⟩ := ss_bind hm
      refine ss_getr hC hK hR kf_S_132 rfl qr7 dd_S_sweep_23 ?_
      refine lv_iload_n hx hb dd_S_sweep_26 rfl (lv_at hl 2 rfl) ?_
      obtain ⟨v8, qv8, hm⟩ := ss_bind hm
      refine ss_iald hC hK hR qv8 dd_S_sweep_27 ?_
      refine lv_if_ne (tgt := 33) hx hb dd_S_sweep_28 (by decide) (fun c9 => ?_) (fun c9 => ?_)
      · have hm := ss_iff hm c9
        refine ss_aload_n hx hb dd_S_sweep_33 rfl (lv_at hl 0 rfl) ?_
        obtain ⟨r10, qr10, hm⟩ := ss_bind hm
        refine ss_getr hC hK hR kf_S_57 rfl qr10 dd_S_sweep_34 ?_
        refine ss_aload_n hx hb dd_S_sweep_37 rfl (lv_at hl 0 rfl) ?_
        obtain ⟨r11, qr11, hm⟩ := ss_bind hm
        refine ss_getr hC hK hR kf_S_46 rfl qr11 dd_S_sweep_38 ?_
        obtain ⟨r12, qr12, hm⟩ := ss_bind hm
        refine ss_getr hC hK hR kf_S_128 rfl qr12 dd_S_sweep_41 ?_
        obtain ⟨h13, qh13, hm⟩ := ss_bind hm
        refine ss_cVv 0 0 (As := [ss_v (ss_b G) r12]) hC hK hR hS hl.1 (cc_A_keep l G N _ _ _ _ qh13) km_S_174 (ck_A_keep qh13) ⟨Nat.le_of_ble_eq_true rfl, Nat.le_of_ble_eq_true rfl⟩ ⟨Nat.le_of_ble_eq_true rfl, Nat.le_of_ble_eq_true rfl, Nat.le_of_ble_eq_true rfl, Nat.le_of_ble_eq_true rfl⟩ rfl rfl (Nat.le_of_ble_eq_true rfl) dd_S_sweep_44 (fun H locs hR hS => ?_)
        refine ss_aload_n hx hb dd_S_sweep_47 rfl (lv_at hl 0 rfl) ?_
        obtain ⟨r14, qr14, hm⟩ := ss_bind hm
        refine ss_getr hC hK hR kf_S_77 rfl qr14 dd_S_sweep_48 ?_
        obtain ⟨h15, qh15, hm⟩ := ss_bind hm
        refine ss_cVv 0 0 (As := []) hC hK hR hS hl.1 (cc_F_start l G N _ _ _ qh15) km_S_178 (ck_F_start qh15) ⟨Nat.le_of_ble_eq_true rfl, Nat.le_of_ble_eq_true rfl⟩ ⟨Nat.le_of_ble_eq_true rfl, Nat.le_of_ble_eq_true rfl, Nat.le_of_ble_eq_true rfl, Nat.le_of_ble_eq_true rfl⟩ rfl rfl (Nat.le_of_ble_eq_true rfl) dd_S_sweep_51 (fun H locs hR hS => ?_)
        refine ss_aload_n hx hb dd_S_sweep_54 rfl (lv_at hl 0 rfl) ?_
        obtain ⟨r16, qr16, hm⟩ := ss_bind hm
        refine ss_getr hC hK hR kf_S_68 rfl qr16 dd_S_sweep_55 ?_
        refine lv_iload_n hx hb dd_S_sweep_58 rfl (lv_at hl 1 rfl) ?_
        refine lv_iload_n hx hb dd_S_sweep_59 rfl (lv_at hl 2 rfl) ?_
        obtain ⟨v17, h18, qh18, hm⟩ := ss_bind2 hm
        refine ss_cV 0 0 (As := [.int a1, .int a2]) hC hK hR hS hl.1 (cc_Wi_sweepBy l G N _ _ _ _ _ _ qh18) km_S_191 (ck_Wi_sweepBy qh18) ⟨Nat.le_of_ble_eq_true rfl, Nat.le_of_ble_eq_true rfl⟩ ⟨Nat.le_of_ble_eq_true rfl, Nat.le_of_ble_eq_true rfl, Nat.le_of_ble_eq_true rfl, Nat.le_of_ble_eq_true rfl⟩ rfl rfl (Nat.le_of_ble_eq_true rfl) dd_S_sweep_60 (fun H locs hR hS => ?_)
        refine lv_istore_n (lv' := [(3, .int v17), (0, ss_v (ss_b G) this), (1, .int a1), (2, .int a2)]) hx hb dd_S_sweep_63 rfl hl (by decide) rfl (fun ls hl => ?_)
        refine ss_aload_n hx hb dd_S_sweep_64 rfl (lv_at hl 1 rfl) ?_
        obtain ⟨r19, qr19, hm⟩ := ss_bind hm
        refine ss_getr hC hK hR kf_S_46 rfl qr19 dd_S_sweep_65 ?_
        obtain ⟨r20, qr20, hm⟩ := ss_bind hm
        refine ss_getr hC hK hR kf_S_128 rfl qr20 dd_S_sweep_68 ?_
        refine ss_aload_n hx hb dd_S_sweep_71 rfl (lv_at hl 1 rfl) ?_
        obtain ⟨r21, qr21, hm⟩ := ss_bind hm
        refine ss_getr hC hK hR kf_S_68 rfl qr21 dd_S_sweep_72 ?_
        obtain ⟨r22, qr22, hm⟩ := ss_bind hm
        refine ss_getr hC hK hR kf_S_184 rfl qr22 dd_S_sweep_75 ?_
        obtain ⟨h23, qh23, hm⟩ := ss_bind hm
        refine ss_cVv 0 0 (As := [ss_v (ss_b G) r22]) hC hK hR hS hl.1 (cc_G_copyFrom l G N _ _ _ _ qh23) km_S_185 (ck_G_copyFrom qh23) ⟨Nat.le_of_ble_eq_true rfl, Nat.le_of_ble_eq_true rfl⟩ ⟨Nat.le_of_ble_eq_true rfl, Nat.le_of_ble_eq_true rfl, Nat.le_of_ble_eq_true rfl, Nat.le_of_ble_eq_true rfl⟩ rfl rfl (Nat.le_of_ble_eq_true rfl) dd_S_sweep_78 (fun H locs hR hS => ?_)
        refine lv_iload_n hx hb dd_S_sweep_81 rfl (lv_at hl 0 rfl) ?_
        exact ss_iret hC hr hlocks hR hS hm dd_S_sweep_82
      · have hm := ss_ift hm c9
        exact J_31 h _ _ _ hm hR hS (lv_sub hl [] rfl)
theorem dd_S_isWithin_0 : decode bb_S_isWithin 0 = .ok (.iload_n 0, 1) := by decide +kernel
theorem dd_S_isWithin_1 : decode bb_S_isWithin 1 = .ok (.iload_n 1, 1) := by decide +kernel
theorem dd_S_isWithin_2 : decode bb_S_isWithin 2 = .ok (.if_icmp .lt 12, 3) := by decide +kernel
theorem dd_S_isWithin_5 : decode bb_S_isWithin 5 = .ok (.iload_n 0, 1) := by decide +kernel
theorem dd_S_isWithin_6 : decode bb_S_isWithin 6 = .ok (.iload_n 2, 1) := by decide +kernel
theorem dd_S_isWithin_7 : decode bb_S_isWithin 7 = .ok (.if_icmp .gt 7, 3) := by decide +kernel
theorem dd_S_isWithin_10 : decode bb_S_isWithin 10 = .ok (.iconst 1, 1) := by decide +kernel
theorem dd_S_isWithin_11 : decode bb_S_isWithin 11 = .ok (.goto 4, 3) := by decide +kernel
theorem dd_S_isWithin_14 : decode bb_S_isWithin 14 = .ok (.iconst 0, 1) := by decide +kernel
theorem dd_S_isWithin_15 : decode bb_S_isWithin 15 = .ok (.ireturn, 1) := by decide +kernel
def mm_S_isWithin_j15 (N : Nat) (a1 : Int32) (a2 : Int32) (a3 : Int32) (s0_15 : Int32) : Option Int32 :=
  (ss_bz s0_15).bind fun v1 =>
  some v1
def mm_S_isWithin_j14 (N : Nat) (a1 : Int32) (a2 : Int32) (a3 : Int32) : Option Int32 :=
  mm_S_isWithin_j15 N a1 a2 a3 (0 : Int32)
def mm_S_isWithin (N : Nat) (a1 : Int32) (a2 : Int32) (a3 : Int32) : Option Int32 :=
  if a1 < a2 then
    mm_S_isWithin_j14 N a1 a2 a3
  else
    if a3 < a1 then
      mm_S_isWithin_j14 N a1 a2 a3
    else
      mm_S_isWithin_j15 N a1 a2 a3 (1 : Int32)
abbrev ww_S_isWithin (p : Program) (l : Launch) (e : Env) (s : State) (m : MethodId) (below : List Frame) (meth : Method) (c : Code) (G : ss_G) (a1 : Int32) (a2 : Int32) (a3 : Int32) (h : ss_Hp) (rr : Int32) (H : Heap) (locs : List Loc) (k n : Nat) (g : JFrame) : Prop := W p l e (headSpec (ss_w yy_S_isWithin bb_S_isWithin 3 (some .boolean)) ({ frames := 0, cells := 0, slots := 0, locals := 0 })).room s m ([.int a1, .int a2, .int a3] : List Value).toArray below meth c H locs k n (MQ below (ss_Qc G (some (.int rr)) h) ([.int a1, .int a2, .int a3] : List Value).toArray s 0 0 (ss_A G)) g
set_option maxHeartbeats 4000000 in
set_option maxRecDepth 100000 in
theorem cc_S_isWithin (l : Launch) (G : ss_G) (N : Nat) (a1 : Int32) (a2 : Int32) (a3 : Int32) (h : ss_Hp) (rr : Int32) (hm : mm_S_isWithin N a1 a2 a3 = some rr) : ss_Ct l G yy_S_isWithin bb_S_isWithin 3 (some .boolean) ({ frames := 0, cells := 0, slots := 0, locals := 0 }) [.int a1, .int a2, .int a3] h (some (.int rr)) h := by
  refine Met.ofW (cc := bb_S_isWithin) (maxL := 3) (ret := (some .boolean)) (by decide) rfl ?_
  intro p e s m args below meth c s₁ B hml hv
  obtain ⟨rfl, hR, hK⟩ := hv
  have hC : CallFix p m c bb_S_isWithin 3 s _ lw_g sR_11 := ⟨B.exec, B.bytes, hml, findClass_of_methodNamed B.named, fun w hw => atoms_spec (ws := ss_w yy_S_isWithin bb_S_isWithin 3 (some .boolean)) B.pre w (List.mem_cons_of_mem _ hw)⟩
  have hx := hC.1
  have hb := hC.2.1
  have hr := B.returns
  have hlocks := B.notSynchronized
  have hS : va_S (ss_A G) s.heap s.heap [] := va_S.rf
  have hl := lv_entry ([.int a1, .int a2, .int a3]) (n := 3) (Nat.le_of_ble_eq_true rfl)
  rw [lg_entry_eq]
  generalize (lg_sl ([.int a1, .int a2, .int a3]) ++ List.replicate (3 - (lg_sl ([.int a1, .int a2, .int a3])).length) Slot.unset).toArray = ls at hl ⊢
  have hl : lv_has ls 3 [(0, .int a1), (1, .int a2), (2, .int a3)] := hl
  have J_15 : ∀ (s0_15 : Int32) (H : Heap) (locs : List Loc) (ls : Array Slot), mm_S_isWithin_j15 N a1 a2 a3 s0_15 = some rr → ss_R G h H → va_S (ss_A G) s.heap H locs → lv_has ls 3 [] → ww_S_isWithin p l e s m below meth c G a1 a2 a3 h rr  H locs 0 0 (F0 m 15 ls [.int s0_15]) := by
    intro s0_15 H locs ls hm hR hS hl
    obtain ⟨v1, qv1, hm⟩ := ss_bind hm
    obtain ⟨hnb, rfl⟩ := ss_bzs qv1
    exact ss_zret hC hr hnb hlocks hR hS (ss_with _ hm) dd_S_isWithin_15
  have J_14 : ∀  (H : Heap) (locs : List Loc) (ls : Array Slot), mm_S_isWithin_j14 N a1 a2 a3 = some rr → ss_R G h H → va_S (ss_A G) s.heap H locs → lv_has ls 3 [] → ww_S_isWithin p l e s m below meth c G a1 a2 a3 h rr  H locs 0 0 (F0 m 14 ls []) := by
    intro  H locs ls hm hR hS hl
    refine lv_iconst (v := 0) hx hb dd_S_isWithin_14 (by decide) ?_
    exact J_15 (0 : Int32)  _ _ _ hm hR hS hl
  refine lv_iload_n hx hb dd_S_isWithin_0 rfl (lv_at hl 0 rfl) ?_
  refine lv_iload_n hx hb dd_S_isWithin_1 rfl (lv_at hl 1 rfl) ?_
  refine lv_icmp_lt (tgt := 14) hx hb dd_S_isWithin_2 (by decide) (fun c2 => ?_) (fun c2 => ?_)
  · have hm := ss_ift hm c2
    exact J_14  _ _ _ hm hR hS (lv_sub hl [] rfl)
  · have hm := ss_iff hm c2
    refine lv_iload_n hx hb dd_S_isWithin_5 rfl (lv_at hl 0 rfl) ?_
    refine lv_iload_n hx hb dd_S_isWithin_6 rfl (lv_at hl 2 rfl) ?_
    refine lv_icmp_gt (tgt := 14) hx hb dd_S_isWithin_7 (by decide) (fun c3 => ?_) (fun c3 => ?_)
    · have hm := ss_ift hm c3
      exact J_14  _ _ _ hm hR hS (lv_sub hl [] rfl)
    · have hm := ss_iff hm c3
      refine lv_iconst (v := 1) hx hb dd_S_isWithin_10 (by decide) ?_
      refine lv_goto (tgt := 15) hx hb dd_S_isWithin_11 (by decide) ?_
      exact J_15 (1 : Int32)  _ _ _ hm hR hS (lv_sub hl [] rfl)
theorem dd_S_toss_0 : decode bb_S_toss 0 = .ok (.aload_n 0, 1) := by decide +kernel
theorem dd_S_toss_1 : decode bb_S_toss 1 = .ok (.iload_n 1, 1) := by decide +kernel
theorem dd_S_toss_2 : decode bb_S_toss 2 = .ok (.invokevirtual 124, 3) := by decide +kernel
theorem dd_S_toss_5 : decode bb_S_toss 5 = .ok (.ifCond .eq 13, 3) := by decide +kernel
theorem dd_S_toss_8 : decode bb_S_toss 8 = .ok (.iload_n 2, 1) := by decide +kernel
theorem dd_S_toss_9 : decode bb_S_toss 9 = .ok (.iconst 1, 1) := by decide +kernel
theorem dd_S_toss_10 : decode bb_S_toss 10 = .ok (.bipush 99, 2) := by decide +kernel
theorem dd_S_toss_12 : decode bb_S_toss 12 = .ok (.invokestatic 195, 3) := by decide +kernel
theorem dd_S_toss_15 : decode bb_S_toss 15 = .ok (.ifCond .ne 5, 3) := by decide +kernel
theorem dd_S_toss_18 : decode bb_S_toss 18 = .ok (.iconst (-1), 1) := by decide +kernel
theorem dd_S_toss_19 : decode bb_S_toss 19 = .ok (.ireturn, 1) := by decide +kernel
theorem dd_S_toss_20 : decode bb_S_toss 20 = .ok (.aload_n 0, 1) := by decide +kernel
theorem dd_S_toss_21 : decode bb_S_toss 21 = .ok (.getfield 57, 3) := by decide +kernel
theorem dd_S_toss_24 : decode bb_S_toss 24 = .ok (.aload_n 0, 1) := by decide +kernel
theorem dd_S_toss_25 : decode bb_S_toss 25 = .ok (.getfield 46, 3) := by decide +kernel
theorem dd_S_toss_28 : decode bb_S_toss 28 = .ok (.getfield 128, 3) := by decide +kernel
theorem dd_S_toss_31 : decode bb_S_toss 31 = .ok (.invokevirtual 174, 3) := by decide +kernel
theorem dd_S_toss_34 : decode bb_S_toss 34 = .ok (.aload_n 0, 1) := by decide +kernel
theorem dd_S_toss_35 : decode bb_S_toss 35 = .ok (.getfield 46, 3) := by decide +kernel
theorem dd_S_toss_38 : decode bb_S_toss 38 = .ok (.getfield 128, 3) := by decide +kernel
theorem dd_S_toss_41 : decode bb_S_toss 41 = .ok (.iload_n 1, 1) := by decide +kernel
theorem dd_S_toss_42 : decode bb_S_toss 42 = .ok (.iload_n 2, 1) := by decide +kernel
theorem dd_S_toss_43 : decode bb_S_toss 43 = .ok (.invokevirtual 199, 3) := by decide +kernel
theorem dd_S_toss_46 : decode bb_S_toss 46 = .ok (.aload_n 0, 1) := by decide +kernel
theorem dd_S_toss_47 : decode bb_S_toss 47 = .ok (.getfield 46, 3) := by decide +kernel
theorem dd_S_toss_50 : decode bb_S_toss 50 = .ok (.getfield 128, 3) := by decide +kernel
theorem dd_S_toss_53 : decode bb_S_toss 53 = .ok (.getfield 132, 3) := by decide +kernel
theorem dd_S_toss_56 : decode bb_S_toss 56 = .ok (.iload_n 1, 1) := by decide +kernel
theorem dd_S_toss_57 : decode bb_S_toss 57 = .ok (.iaload, 1) := by decide +kernel
theorem dd_S_toss_58 : decode bb_S_toss 58 = .ok (.ireturn, 1) := by decide +kernel
def mm_S_toss_j18 (N : Nat) (this : Option Nat) (a1 : Int32) (a2 : Int32) (h_18 : ss_Hp) : Option (Int32 × ss_Hp) :=
  some ((-1 : Int32), h_18)
def mm_S_toss (N : Nat) (this : Option Nat) (a1 : Int32) (a2 : Int32) (h : ss_Hp) : Option (Int32 × ss_Hp) :=
  if ss_is h this 11 = true then
    (mm_S_isStep N this a1 h).bind fun v1 =>
    if v1 = 0 then
      mm_S_toss_j18 N this a1 a2 h
    else
      (mm_S_isWithin N a2 (1 : Int32) (99 : Int32)).bind fun v3 =>
      if v3 = 0 then
        mm_S_toss_j18 N this a1 a2 h
      else
        (ss_gr h this 11 6).bind fun r5 =>
        (ss_gr h this 11 4).bind fun r6 =>
        (ss_gr h r6 8 1).bind fun r7 =>
        (mm_A_keep N r5 r7 h).bind fun h8 =>
        (ss_gr h8 this 11 4).bind fun r9 =>
        (ss_gr h8 r9 8 1).bind fun r10 =>
        (mm_G_lay N r10 a1 a2 h8).bind fun h11 =>
        (ss_gr h11 this 11 4).bind fun r12 =>
        (ss_gr h11 r12 8 1).bind fun r13 =>
        (ss_gr h11 r13 0 0).bind fun r14 =>
        (ss_ai h11 r14 20 a1).bind fun v15 =>
        some (v15, h11)
  else none
abbrev ww_S_toss (p : Program) (l : Launch) (e : Env) (s : State) (m : MethodId) (below : List Frame) (meth : Method) (c : Code) (G : ss_G) (this : Option Nat) (a1 : Int32) (a2 : Int32) (h : ss_Hp) (rr : Int32) (hh : ss_Hp) (H : Heap) (locs : List Loc) (k n : Nat) (g : JFrame) : Prop := W p l e (headSpec (ss_w yy_S_toss bb_S_toss 3 (some (.int))) ({ frames := 3, cells := 0, slots := 0, locals := 122 })).room s m ([ss_v (ss_b G) this, .int a1, .int a2] : List Value).toArray below meth c H locs k n (MQ below (ss_Qc G (some (.int rr)) hh) ([ss_v (ss_b G) this, .int a1, .int a2] : List Value).toArray s 0 0 (ss_A G)) g
theorem ck_S_toss {N : Nat} {this : Option Nat} {a1 : Int32} {a2 : Int32} {h : ss_Hp} {res : Int32 × ss_Hp} (hm : mm_S_toss N this a1 a2 h = some res) : ss_is h this 11 = true := (ss_chk hm).1
set_option maxHeartbeats 4000000 in
set_option maxRecDepth 100000 in
theorem cc_S_toss (l : Launch) (G : ss_G) (N : Nat) (this : Option Nat) (a1 : Int32) (a2 : Int32) (h : ss_Hp) (rr : Int32) (hh : ss_Hp) (hm : mm_S_toss N this a1 a2 h = some (rr, hh)) : ss_Ct l G yy_S_toss bb_S_toss 3 (some (.int)) ({ frames := 3, cells := 0, slots := 0, locals := 122 }) [ss_v (ss_b G) this, .int a1, .int a2] h (some (.int rr)) hh := by
  obtain ⟨hck, hm⟩ := ss_chk hm
  refine Met.ofW (cc := bb_S_toss) (maxL := 3) (ret := (some (.int))) (by decide) rfl ?_
  intro p e s m args below meth c s₁ B hml hv
  obtain ⟨rfl, hR, hK⟩ := hv
  have hC : CallFix p m c bb_S_toss 3 s _ lw_g sR_11 := ⟨B.exec, B.bytes, hml, findClass_of_methodNamed B.named, fun w hw => atoms_spec (ws := ss_w yy_S_toss bb_S_toss 3 (some (.int))) B.pre w (List.mem_cons_of_mem _ hw)⟩
  have hx := hC.1
  have hb := hC.2.1
  have hr := B.returns
  have hlocks := B.notSynchronized
  have hS : va_S (ss_A G) s.heap s.heap [] := va_S.rf
  have hl := lv_entry ([ss_v (ss_b G) this, .int a1, .int a2]) (n := 3) (by simp [lg_sl, ss_v_cat, ss_cat_i, ss_cat_l, ss_cat_r])
  rw [lg_entry_eq]
  generalize (lg_sl ([ss_v (ss_b G) this, .int a1, .int a2]) ++ List.replicate (3 - (lg_sl ([ss_v (ss_b G) this, .int a1, .int a2])).length) Slot.unset).toArray = ls at hl ⊢
  have hl : lv_has ls 3 [(0, ss_v (ss_b G) this), (1, .int a1), (2, .int a2)] := by simpa [lv_args, ss_v_cat, ss_cat_i, ss_cat_l, ss_cat_r] using hl
  have J_18 : ∀ (h_18 : ss_Hp) (H : Heap) (locs : List Loc) (ls : Array Slot), mm_S_toss_j18 N this a1 a2 h_18 = some (rr, hh) → ss_R G h_18 H → va_S (ss_A G) s.heap H locs → lv_has ls 3 [] → ww_S_toss p l e s m below meth c G this a1 a2 h rr hh  H locs 0 0 (F0 m 18 ls []) := by
    intro h_18 H locs ls hm hR hS hl
    refine lv_iconst (v := -1) hx hb dd_S_toss_18 (by decide) ?_
    exact ss_iret hC hr hlocks hR hS hm dd_S_toss_19
  refine ss_aload_n hx hb dd_S_toss_0 rfl (lv_at hl 0 rfl) ?_
  refine lv_iload_n hx hb dd_S_toss_1 rfl (lv_at hl 1 rfl) ?_
  obtain ⟨v1, qv1, hm⟩ := ss_bind hm
  refine ss_cV 0 0 (As := [.int a1]) hC hK hR hS hl.1 (cc_S_isStep l G N _ _ _ _ qv1) km_S_124 (ck_S_isStep qv1) ⟨Nat.le_of_ble_eq_true rfl, Nat.le_of_ble_eq_true rfl⟩ ⟨Nat.le_of_ble_eq_true rfl, Nat.le_of_ble_eq_true rfl, Nat.le_of_ble_eq_true rfl, Nat.le_of_ble_eq_true rfl⟩ rfl rfl (Nat.le_of_ble_eq_true rfl) dd_S_toss_2 (fun H locs hR hS => ?_)
  refine lv_if_eq (tgt := 18) hx hb dd_S_toss_5 (by decide) (fun c2 => ?_) (fun c2 => ?_)
  · have hm := ss_ift hm c2
    exact J_18 h _ _ _ hm hR hS (lv_sub hl [] rfl)
  · have hm := ss_iff hm c2
    refine lv_iload_n hx hb dd_S_toss_8 rfl (lv_at hl 2 rfl) ?_
    refine lv_iconst (v := 1) hx hb dd_S_toss_9 (by decide) ?_
    refine lv_bipush (v := 99) hx hb dd_S_toss_10 (by decide) ?_
    obtain ⟨v3, qv3, hm⟩ := ss_bind hm
    refine ss_cS 0 0 (As := [.int a2, .int (1 : Int32), .int (99 : Int32)]) hC hK hR hS hl.1 (cc_S_isWithin l G N _ _ _ _ _ qv3) km_S_195 ⟨Nat.le_of_ble_eq_true rfl, Nat.le_of_ble_eq_true rfl⟩ ⟨Nat.le_of_ble_eq_true rfl, Nat.le_of_ble_eq_true rfl, Nat.le_of_ble_eq_true rfl, Nat.le_of_ble_eq_true rfl⟩ rfl rfl (Nat.le_of_ble_eq_true rfl) dd_S_toss_12 (fun H locs hR hS => ?_)
    refine lv_if_ne (tgt := 20) hx hb dd_S_toss_15 (by decide) (fun c4 => ?_) (fun c4 => ?_)
    · have hm := ss_iff hm c4
      refine ss_aload_n hx hb dd_S_toss_20 rfl (lv_at hl 0 rfl) ?_
      obtain ⟨r5, qr5, hm⟩ := ss_bind hm
      refine ss_getr hC hK hR kf_S_57 rfl qr5 dd_S_toss_21 ?_
      refine ss_aload_n hx hb dd_S_toss_24 rfl (lv_at hl 0 rfl) ?_
      obtain ⟨r6, qr6, hm⟩ := ss_bind hm
      refine ss_getr hC hK hR kf_S_46 rfl qr6 dd_S_toss_25 ?_
      obtain ⟨r7, qr7, hm⟩ := ss_bind hm
      refine ss_getr hC hK hR kf_S_128 rfl qr7 dd_S_toss_28 ?_
      obtain ⟨h8, qh8, hm⟩ := ss_bind hm
      refine ss_cVv 0 0 (As := [ss_v (ss_b G) r7]) hC hK hR hS hl.1 (cc_A_keep l G N _ _ _ _ qh8) km_S_174 (ck_A_keep qh8) ⟨Nat.le_of_ble_eq_true rfl, Nat.le_of_ble_eq_true rfl⟩ ⟨Nat.le_of_ble_eq_true rfl, Nat.le_of_ble_eq_true rfl, Nat.le_of_ble_eq_true rfl, Nat.le_of_ble_eq_true rfl⟩ rfl rfl (Nat.le_of_ble_eq_true rfl) dd_S_toss_31 (fun H locs hR hS => ?_)
      refine ss_aload_n hx hb dd_S_toss_34 rfl (lv_at hl 0 rfl) ?_
      obtain ⟨r9, qr9, hm⟩ := ss_bind hm
      refine ss_getr hC hK hR kf_S_46 rfl qr9 dd_S_toss_35 ?_
      obtain ⟨r10, qr10, hm⟩ := ss_bind hm
      refine ss_getr hC hK hR kf_S_128 rfl qr10 dd_S_toss_38 ?_
      refine lv_iload_n hx hb dd_S_toss_41 rfl (lv_at hl 1 rfl) ?_
      refine lv_iload_n hx hb dd_S_toss_42 rfl (lv_at hl 2 rfl) ?_
      obtain ⟨h11, qh11, hm⟩ := ss_bind hm
      refine ss_cVv 0 0 (As := [.int a1, .int a2]) hC hK hR hS hl.1 (cc_G_lay l G N _ _ _ _ _ qh11) km_S_199 (ck_G_lay qh11) ⟨Nat.le_of_ble_eq_true rfl, Nat.le_of_ble_eq_true rfl⟩ ⟨Nat.le_of_ble_eq_true rfl, Nat.le_of_ble_eq_true rfl, Nat.le_of_ble_eq_true rfl, Nat.le_of_ble_eq_true rfl⟩ rfl rfl (Nat.le_of_ble_eq_true rfl) dd_S_toss_43 (fun H locs hR hS => ?_)
      refine ss_aload_n hx hb dd_S_toss_46 rfl (lv_at hl 0 rfl) ?_
      obtain ⟨r12, qr12, hm⟩ := ss_bind hm
      refine ss_getr hC hK hR kf_S_46 rfl qr12 dd_S_toss_47 ?_
      obtain ⟨r13, qr13, hm⟩ := ss_bind hm
      refine ss_getr hC hK hR kf_S_128 rfl qr13 dd_S_toss_50 ?_
      obtain ⟨r14, qr14, hm⟩ := ss_bind hm
      refine ss_getr hC hK hR kf_S_132 rfl qr14 dd_S_toss_53 ?_
      refine lv_iload_n hx hb dd_S_toss_56 rfl (lv_at hl 1 rfl) ?_
      obtain ⟨v15, qv15, hm⟩ := ss_bind hm
      refine ss_iald hC hK hR qv15 dd_S_toss_57 ?_
      exact ss_iret hC hr hlocks hR hS hm dd_S_toss_58
    · have hm := ss_ift hm c4
      exact J_18 h _ _ _ hm hR hS (lv_sub hl [] rfl)
theorem dd_S_pull_0 : decode bb_S_pull 0 = .ok (.aload_n 0, 1) := by decide +kernel
theorem dd_S_pull_1 : decode bb_S_pull 1 = .ok (.iload_n 1, 1) := by decide +kernel
theorem dd_S_pull_2 : decode bb_S_pull 2 = .ok (.invokevirtual 124, 3) := by decide +kernel
theorem dd_S_pull_5 : decode bb_S_pull 5 = .ok (.ifCond .eq 19, 3) := by decide +kernel
theorem dd_S_pull_8 : decode bb_S_pull 8 = .ok (.aload_n 0, 1) := by decide +kernel
theorem dd_S_pull_9 : decode bb_S_pull 9 = .ok (.getfield 46, 3) := by decide +kernel
theorem dd_S_pull_12 : decode bb_S_pull 12 = .ok (.getfield 128, 3) := by decide +kernel
theorem dd_S_pull_15 : decode bb_S_pull 15 = .ok (.getfield 145, 3) := by decide +kernel
theorem dd_S_pull_18 : decode bb_S_pull 18 = .ok (.iload_n 1, 1) := by decide +kernel
theorem dd_S_pull_19 : decode bb_S_pull 19 = .ok (.iaload, 1) := by decide +kernel
theorem dd_S_pull_20 : decode bb_S_pull 20 = .ok (.iconst (-1), 1) := by decide +kernel
theorem dd_S_pull_21 : decode bb_S_pull 21 = .ok (.if_icmp .ne 5, 3) := by decide +kernel
theorem dd_S_pull_24 : decode bb_S_pull 24 = .ok (.iconst (-1), 1) := by decide +kernel
theorem dd_S_pull_25 : decode bb_S_pull 25 = .ok (.ireturn, 1) := by decide +kernel
theorem dd_S_pull_26 : decode bb_S_pull 26 = .ok (.aload_n 0, 1) := by decide +kernel
theorem dd_S_pull_27 : decode bb_S_pull 27 = .ok (.getfield 57, 3) := by decide +kernel
theorem dd_S_pull_30 : decode bb_S_pull 30 = .ok (.aload_n 0, 1) := by decide +kernel
theorem dd_S_pull_31 : decode bb_S_pull 31 = .ok (.getfield 46, 3) := by decide +kernel
theorem dd_S_pull_34 : decode bb_S_pull 34 = .ok (.getfield 128, 3) := by decide +kernel
theorem dd_S_pull_37 : decode bb_S_pull 37 = .ok (.invokevirtual 174, 3) := by decide +kernel
theorem dd_S_pull_40 : decode bb_S_pull 40 = .ok (.aload_n 0, 1) := by decide +kernel
theorem dd_S_pull_41 : decode bb_S_pull 41 = .ok (.getfield 46, 3) := by decide +kernel
theorem dd_S_pull_44 : decode bb_S_pull 44 = .ok (.getfield 128, 3) := by decide +kernel
theorem dd_S_pull_47 : decode bb_S_pull 47 = .ok (.getfield 145, 3) := by decide +kernel
theorem dd_S_pull_50 : decode bb_S_pull 50 = .ok (.iload_n 1, 1) := by decide +kernel
theorem dd_S_pull_51 : decode bb_S_pull 51 = .ok (.iaload, 1) := by decide +kernel
theorem dd_S_pull_52 : decode bb_S_pull 52 = .ok (.istore_n 2, 1) := by decide +kernel
theorem dd_S_pull_53 : decode bb_S_pull 53 = .ok (.aload_n 0, 1) := by decide +kernel
theorem dd_S_pull_54 : decode bb_S_pull 54 = .ok (.getfield 46, 3) := by decide +kernel
theorem dd_S_pull_57 : decode bb_S_pull 57 = .ok (.getfield 128, 3) := by decide +kernel
theorem dd_S_pull_60 : decode bb_S_pull 60 = .ok (.getfield 145, 3) := by decide +kernel
theorem dd_S_pull_63 : decode bb_S_pull 63 = .ok (.iload_n 1, 1) := by decide +kernel
theorem dd_S_pull_64 : decode bb_S_pull 64 = .ok (.iconst (-1), 1) := by decide +kernel
theorem dd_S_pull_65 : decode bb_S_pull 65 = .ok (.iastore, 1) := by decide +kernel
theorem dd_S_pull_66 : decode bb_S_pull 66 = .ok (.iload_n 2, 1) := by decide +kernel
theorem dd_S_pull_67 : decode bb_S_pull 67 = .ok (.ireturn, 1) := by decide +kernel
def mm_S_pull_j24 (N : Nat) (this : Option Nat) (a1 : Int32) (h_24 : ss_Hp) : Option (Int32 × ss_Hp) :=
  some ((-1 : Int32), h_24)
def mm_S_pull (N : Nat) (this : Option Nat) (a1 : Int32) (h : ss_Hp) : Option (Int32 × ss_Hp) :=
  if ss_is h this 11 = true then
    (mm_S_isStep N this a1 h).bind fun v1 =>
    if v1 = 0 then
      mm_S_pull_j24 N this a1 h
    else
      (ss_gr h this 11 4).bind fun r3 =>
      (ss_gr h r3 8 1).bind fun r4 =>
      (ss_gr h r4 0 1).bind fun r5 =>
      (ss_ai h r5 20 a1).bind fun v6 =>
      if v6 = (-1 : Int32) then
        mm_S_pull_j24 N this a1 h
      else
        (ss_gr h this 11 6).bind fun r8 =>
        (ss_gr h this 11 4).bind fun r9 =>
        (ss_gr h r9 8 1).bind fun r10 =>
        (mm_A_keep N r8 r10 h).bind fun h11 =>
        (ss_gr h11 this 11 4).bind fun r12 =>
        (ss_gr h11 r12 8 1).bind fun r13 =>
        (ss_gr h11 r13 0 1).bind fun r14 =>
        (ss_ai h11 r14 20 a1).bind fun v15 =>
        (ss_gr h11 this 11 4).bind fun r16 =>
        (ss_gr h11 r16 8 1).bind fun r17 =>
        (ss_gr h11 r17 0 1).bind fun r18 =>
        (ss_ui h11 r18 20 a1 (-1 : Int32)).bind fun h19 =>
        some (v15, h19)
  else none
abbrev ww_S_pull (p : Program) (l : Launch) (e : Env) (s : State) (m : MethodId) (below : List Frame) (meth : Method) (c : Code) (G : ss_G) (this : Option Nat) (a1 : Int32) (h : ss_Hp) (rr : Int32) (hh : ss_Hp) (H : Heap) (locs : List Loc) (k n : Nat) (g : JFrame) : Prop := W p l e (headSpec (ss_w yy_S_pull bb_S_pull 3 (some (.int))) ({ frames := 3, cells := 0, slots := 0, locals := 122 })).room s m ([ss_v (ss_b G) this, .int a1] : List Value).toArray below meth c H locs k n (MQ below (ss_Qc G (some (.int rr)) hh) ([ss_v (ss_b G) this, .int a1] : List Value).toArray s 0 0 (ss_A G)) g
theorem ck_S_pull {N : Nat} {this : Option Nat} {a1 : Int32} {h : ss_Hp} {res : Int32 × ss_Hp} (hm : mm_S_pull N this a1 h = some res) : ss_is h this 11 = true := (ss_chk hm).1
set_option maxHeartbeats 4000000 in
set_option maxRecDepth 100000 in
theorem cc_S_pull (l : Launch) (G : ss_G) (N : Nat) (this : Option Nat) (a1 : Int32) (h : ss_Hp) (rr : Int32) (hh : ss_Hp) (hm : mm_S_pull N this a1 h = some (rr, hh)) : ss_Ct l G yy_S_pull bb_S_pull 3 (some (.int)) ({ frames := 3, cells := 0, slots := 0, locals := 122 }) [ss_v (ss_b G) this, .int a1] h (some (.int rr)) hh := by
  obtain ⟨hck, hm⟩ := ss_chk hm
  refine Met.ofW (cc := bb_S_pull) (maxL := 3) (ret := (some (.int))) (by decide) rfl ?_
  intro p e s m args below meth c s₁ B hml hv
  obtain ⟨rfl, hR, hK⟩ := hv
  have hC : CallFix p m c bb_S_pull 3 s _ lw_g sR_11 := ⟨B.exec, B.bytes, hml, findClass_of_methodNamed B.named, fun w hw => atoms_spec (ws := ss_w yy_S_pull bb_S_pull 3 (some (.int))) B.pre w (List.mem_cons_of_mem _ hw)⟩
  have hx := hC.1
  have hb := hC.2.1
  have hr := B.returns
  have hlocks := B.notSynchronized
  have hS : va_S (ss_A G) s.heap s.heap [] := va_S.rf
  have hl := lv_entry ([ss_v (ss_b G) this, .int a1]) (n := 3) (by simp [lg_sl, ss_v_cat, ss_cat_i, ss_cat_l, ss_cat_r])
  rw [lg_entry_eq]
  generalize (lg_sl ([ss_v (ss_b G) this, .int a1]) ++ List.replicate (3 - (lg_sl ([ss_v (ss_b G) this, .int a1])).length) Slot.unset).toArray = ls at hl ⊢
  have hl : lv_has ls 3 [(0, ss_v (ss_b G) this), (1, .int a1)] := by simpa [lv_args, ss_v_cat, ss_cat_i, ss_cat_l, ss_cat_r] using hl
  have J_24 : ∀ (h_24 : ss_Hp) (H : Heap) (locs : List Loc) (ls : Array Slot), mm_S_pull_j24 N this a1 h_24 = some (rr, hh) → ss_R G h_24 H → va_S (ss_A G) s.heap H locs → lv_has ls 3 [] → ww_S_pull p l e s m below meth c G this a1 h rr hh  H locs 0 0 (F0 m 24 ls []) := by
    intro h_24 H locs ls hm hR hS hl
    refine lv_iconst (v := -1) hx hb dd_S_pull_24 (by decide) ?_
    exact ss_iret hC hr hlocks hR hS hm dd_S_pull_25
  refine ss_aload_n hx hb dd_S_pull_0 rfl (lv_at hl 0 rfl) ?_
  refine lv_iload_n hx hb dd_S_pull_1 rfl (lv_at hl 1 rfl) ?_
  obtain ⟨v1, qv1, hm⟩ := ss_bind hm
  refine ss_cV 0 0 (As := [.int a1]) hC hK hR hS hl.1 (cc_S_isStep l G N _ _ _ _ qv1) km_S_124 (ck_S_isStep qv1) ⟨Nat.le_of_ble_eq_true rfl, Nat.le_of_ble_eq_true rfl⟩ ⟨Nat.le_of_ble_eq_true rfl, Nat.le_of_ble_eq_true rfl, Nat.le_of_ble_eq_true rfl, Nat.le_of_ble_eq_true rfl⟩ rfl rfl (Nat.le_of_ble_eq_true rfl) dd_S_pull_2 (fun H locs hR hS => ?_)
  refine lv_if_eq (tgt := 24) hx hb dd_S_pull_5 (by decide) (fun c2 => ?_) (fun c2 => ?_)
  · have hm := ss_ift hm c2
    exact J_24 h _ _ _ hm hR hS (lv_sub hl [] rfl)
  · have hm := ss_iff hm c2
    refine ss_aload_n hx hb dd_S_pull_8 rfl (lv_at hl 0 rfl) ?_
    obtain ⟨r3, qr3, hm⟩ := ss_bind hm
    refine ss_getr hC hK hR kf_S_46 rfl qr3 dd_S_pull_9 ?_
    obtain ⟨r4, qr4, hm⟩ := ss_bind hm
    refine ss_getr hC hK hR kf_S_128 rfl qr4 dd_S_pull_12 ?_
    obtain ⟨r5, qr5, hm⟩ := ss_bind hm
    refine ss_getr hC hK hR kf_S_145 rfl qr5 dd_S_pull_15 ?_
    refine lv_iload_n hx hb dd_S_pull_18 rfl (lv_at hl 1 rfl) ?_
    obtain ⟨v6, qv6, hm⟩ := ss_bind hm
    refine ss_iald hC hK hR qv6 dd_S_pull_19 ?_
    refine lv_iconst (v := -1) hx hb dd_S_pull_20 (by decide) ?_
    refine lv_icmp_ne (tgt := 26) hx hb dd_S_pull_21 (by decide) (fun c7 => ?_) (fun c7 => ?_)
    · have hm := ss_iff hm c7
      refine ss_aload_n hx hb dd_S_pull_26 rfl (lv_at hl 0 rfl) ?_
      obtain ⟨r8, qr8, hm⟩ := ss_bind hm
      refine ss_getr hC hK hR kf_S_57 rfl qr8 dd_S_pull_27 ?_
      refine ss_aload_n hx hb dd_S_pull_30 rfl (lv_at hl 0 rfl) ?_
      obtain ⟨r9, qr9, hm⟩ := ss_bind hm
      refine ss_getr hC hK hR kf_S_46 rfl qr9 dd_S_pull_31 ?_
      obtain ⟨r10, qr10, hm⟩ := ss_bind hm
      refine ss_getr hC hK hR kf_S_128 rfl qr10 dd_S_pull_34 ?_
      obtain ⟨h11, qh11, hm⟩ := ss_bind hm
      refine ss_cVv 0 0 (As := [ss_v (ss_b G) r10]) hC hK hR hS hl.1 (cc_A_keep l G N _ _ _ _ qh11) km_S_174 (ck_A_keep qh11) ⟨Nat.le_of_ble_eq_true rfl, Nat.le_of_ble_eq_true rfl⟩ ⟨Nat.le_of_ble_eq_true rfl, Nat.le_of_ble_eq_true rfl, Nat.le_of_ble_eq_true rfl, Nat.le_of_ble_eq_true rfl⟩ rfl rfl (Nat.le_of_ble_eq_true rfl) dd_S_pull_37 (fun H locs hR hS => ?_)
      refine ss_aload_n hx hb dd_S_pull_40 rfl (lv_at hl 0 rfl) ?_
      obtain ⟨r12, qr12, hm⟩ := ss_bind hm
      refine ss_getr hC hK hR kf_S_46 rfl qr12 dd_S_pull_41 ?_
      obtain ⟨r13, qr13, hm⟩ := ss_bind hm
      refine ss_getr hC hK hR kf_S_128 rfl qr13 dd_S_pull_44 ?_
      obtain ⟨r14, qr14, hm⟩ := ss_bind hm
      refine ss_getr hC hK hR kf_S_145 rfl qr14 dd_S_pull_47 ?_
      refine lv_iload_n hx hb dd_S_pull_50 rfl (lv_at hl 1 rfl) ?_
      obtain ⟨v15, qv15, hm⟩ := ss_bind hm
      refine ss_iald hC hK hR qv15 dd_S_pull_51 ?_
      refine lv_istore_n (lv' := [(2, .int v15), (0, ss_v (ss_b G) this), (1, .int a1)]) hx hb dd_S_pull_52 rfl hl (by decide) rfl (fun ls hl => ?_)
      refine ss_aload_n hx hb dd_S_pull_53 rfl (lv_at hl 1 rfl) ?_
      obtain ⟨r16, qr16, hm⟩ := ss_bind hm
      refine ss_getr hC hK hR kf_S_46 rfl qr16 dd_S_pull_54 ?_
      obtain ⟨r17, qr17, hm⟩ := ss_bind hm
      refine ss_getr hC hK hR kf_S_128 rfl qr17 dd_S_pull_57 ?_
      obtain ⟨r18, qr18, hm⟩ := ss_bind hm
      refine ss_getr hC hK hR kf_S_145 rfl qr18 dd_S_pull_60 ?_
      refine lv_iload_n hx hb dd_S_pull_63 rfl (lv_at hl 2 rfl) ?_
      refine lv_iconst (v := -1) hx hb dd_S_pull_64 (by decide) ?_
      obtain ⟨h19, qh19, hm⟩ := ss_bind hm
      refine ss_iast hC hK hR hS qh19 dd_S_pull_65 (fun H locs hR hS => ?_)
      refine lv_iload_n hx hb dd_S_pull_66 rfl (lv_at hl 0 rfl) ?_
      exact ss_iret hC hr hlocks hR hS hm dd_S_pull_67
    · have hm := ss_ift hm c7
      exact J_24 h _ _ _ hm hR hS (lv_sub hl [] rfl)
theorem dd_G_snowOfAll_0 : decode bb_G_snowOfAll 0 = .ok (.iconst 0, 1) := by decide +kernel
theorem dd_G_snowOfAll_1 : decode bb_G_snowOfAll 1 = .ok (.istore_n 1, 1) := by decide +kernel
theorem dd_G_snowOfAll_2 : decode bb_G_snowOfAll 2 = .ok (.iconst 0, 1) := by decide +kernel
theorem dd_G_snowOfAll_3 : decode bb_G_snowOfAll 3 = .ok (.istore_n 2, 1) := by decide +kernel
theorem dd_G_snowOfAll_4 : decode bb_G_snowOfAll 4 = .ok (.iload_n 2, 1) := by decide +kernel
theorem dd_G_snowOfAll_5 : decode bb_G_snowOfAll 5 = .ok (.bipush 8, 2) := by decide +kernel
theorem dd_G_snowOfAll_7 : decode bb_G_snowOfAll 7 = .ok (.if_icmp .ge 18, 3) := by decide +kernel
theorem dd_G_snowOfAll_10 : decode bb_G_snowOfAll 10 = .ok (.iload_n 1, 1) := by decide +kernel
theorem dd_G_snowOfAll_11 : decode bb_G_snowOfAll 11 = .ok (.aload_n 0, 1) := by decide +kernel
theorem dd_G_snowOfAll_12 : decode bb_G_snowOfAll 12 = .ok (.getfield 9, 3) := by decide +kernel
theorem dd_G_snowOfAll_15 : decode bb_G_snowOfAll 15 = .ok (.iload_n 2, 1) := by decide +kernel
theorem dd_G_snowOfAll_16 : decode bb_G_snowOfAll 16 = .ok (.iaload, 1) := by decide +kernel
theorem dd_G_snowOfAll_17 : decode bb_G_snowOfAll 17 = .ok (.iadd, 1) := by decide +kernel
theorem dd_G_snowOfAll_18 : decode bb_G_snowOfAll 18 = .ok (.istore_n 1, 1) := by decide +kernel
theorem dd_G_snowOfAll_19 : decode bb_G_snowOfAll 19 = .ok (.iinc 2 1, 3) := by decide +kernel
theorem dd_G_snowOfAll_22 : decode bb_G_snowOfAll 22 = .ok (.goto (-18), 3) := by decide +kernel
theorem dd_G_snowOfAll_25 : decode bb_G_snowOfAll 25 = .ok (.iload_n 1, 1) := by decide +kernel
theorem dd_G_snowOfAll_26 : decode bb_G_snowOfAll 26 = .ok (.ireturn, 1) := by decide +kernel
def mm_G_snowOfAll_b4 (N : Nat) (this : Option Nat) (h : ss_Hp) (st : Int32 × Int32) : Option ((Int32 × Int32) ⊕ Int32) :=
  match st with
  | (x1_4, x2_4) =>
    if (8 : Int32) ≤ x2_4 then
      some (.inr x1_4)
    else
      (ss_gr h this 0 0).bind fun r2 =>
      (ss_ai h r2 20 x2_4).bind fun v3 =>
      (some (x1_4 + v3)).bind fun v4 =>
      (some (x2_4 + (1 : Int32))).bind fun v5 =>
      some (.inl (v4, v5))
def mm_G_snowOfAll (N : Nat) (this : Option Nat) (h : ss_Hp) : Option Int32 :=
  if ss_is h this 0 = true then
    (ss_lp (mm_G_snowOfAll_b4 N this h) N ((0 : Int32), (0 : Int32))).bind fun y1_4_25 =>
    some y1_4_25
  else none
abbrev ww_G_snowOfAll (p : Program) (l : Launch) (e : Env) (s : State) (m : MethodId) (below : List Frame) (meth : Method) (c : Code) (G : ss_G) (this : Option Nat) (h : ss_Hp) (rr : Int32) (H : Heap) (locs : List Loc) (k n : Nat) (g : JFrame) : Prop := W p l e (headSpec (ss_w yy_G_snowOfAll bb_G_snowOfAll 3 (some (.int))) ({ frames := 0, cells := 0, slots := 0, locals := 0 })).room s m ([ss_v (ss_b G) this] : List Value).toArray below meth c H locs k n (MQ below (ss_Qc G (some (.int rr)) h) ([ss_v (ss_b G) this] : List Value).toArray s 0 0 (ss_A G)) g
theorem ck_G_snowOfAll {N : Nat} {this : Option Nat} {h : ss_Hp} {res : Int32} (hm : mm_G_snowOfAll N this h = some res) : ss_is h this 0 = true := (ss_chk hm).1
set_option maxHeartbeats 4000000 in
set_option maxRecDepth 100000 in
theorem cc_G_snowOfAll (l : Launch) (G : ss_G) (N : Nat) (this : Option Nat) (h : ss_Hp) (rr : Int32) (hm : mm_G_snowOfAll N this h = some rr) : ss_Ct l G yy_G_snowOfAll bb_G_snowOfAll 3 (some (.int)) ({ frames := 0, cells := 0, slots := 0, locals := 0 }) [ss_v (ss_b G) this] h (some (.int rr)) h := by
  obtain ⟨hck, hm⟩ := ss_chk hm
  refine Met.ofW (cc := bb_G_snowOfAll) (maxL := 3) (ret := (some (.int))) (by decide) rfl ?_
  intro p e s m args below meth c s₁ B hml hv
  obtain ⟨rfl, hR, hK⟩ := hv
  have hC : CallFix p m c bb_G_snowOfAll 3 s _ lw_g sR_0 := ⟨B.exec, B.bytes, hml, findClass_of_methodNamed B.named, fun w hw => atoms_spec (ws := ss_w yy_G_snowOfAll bb_G_snowOfAll 3 (some (.int))) B.pre w (List.mem_cons_of_mem _ hw)⟩
  have hx := hC.1
  have hb := hC.2.1
  have hr := B.returns
  have hlocks := B.notSynchronized
  have hS : va_S (ss_A G) s.heap s.heap [] := va_S.rf
  have hl := lv_entry ([ss_v (ss_b G) this]) (n := 3) (by simp [lg_sl, ss_v_cat, ss_cat_i, ss_cat_l, ss_cat_r])
  rw [lg_entry_eq]
  generalize (lg_sl ([ss_v (ss_b G) this]) ++ List.replicate (3 - (lg_sl ([ss_v (ss_b G) this])).length) Slot.unset).toArray = ls at hl ⊢
  have hl : lv_has ls 3 [(0, ss_v (ss_b G) this)] := by simpa [lv_args, ss_v_cat, ss_cat_i, ss_cat_l, ss_cat_r] using hl
  refine lv_iconst (v := 0) hx hb dd_G_snowOfAll_0 (by decide) ?_
  refine lv_istore_n (lv' := [(1, .int (0 : Int32)), (0, ss_v (ss_b G) this)]) hx hb dd_G_snowOfAll_1 rfl hl (by decide) (by simp only [List.filter_cons, ss_v_cat]; rfl) (fun ls hl => ?_)
  refine lv_iconst (v := 0) hx hb dd_G_snowOfAll_2 (by decide) ?_
  refine lv_istore_n (lv' := [(2, .int (0 : Int32)), (1, .int (0 : Int32)), (0, ss_v (ss_b G) this)]) hx hb dd_G_snowOfAll_3 rfl hl (by decide) rfl (fun ls hl => ?_)
  obtain ⟨e_4, he_4, hm⟩ := ss_bind hm
  have X_4_25 : ∀ (y1_4_25 : Int32) (H : Heap) (locs : List Loc) (ls : Array Slot), e_4 = y1_4_25 → ss_R G h H → va_S (ss_A G) s.heap H locs → lv_has ls 3 [(1, .int y1_4_25)] → ww_G_snowOfAll p l e s m below meth c G this h rr  H locs 0 0 (F0 m 25 ls []) := by
    intro y1_4_25 H locs ls hq hR hS hl
    rw [hq] at hm
    refine lv_iload_n hx hb dd_G_snowOfAll_25 rfl (lv_at hl 0 rfl) ?_
    exact ss_iret hC hr hlocks hR hS (ss_with _ hm) dd_G_snowOfAll_26
  have L_4 : ∀ (n : Nat) (x1_4 : Int32) (x2_4 : Int32) (H : Heap) (locs : List Loc) (ls : Array Slot), ss_lp (mm_G_snowOfAll_b4 N this h) n (x1_4, x2_4) = some e_4 → ss_R G h H → va_S (ss_A G) s.heap H locs → lv_has ls 3 [(0, ss_v (ss_b G) this), (1, .int x1_4), (2, .int x2_4)] → ww_G_snowOfAll p l e s m below meth c G this h rr  H locs 0 0 (F0 m 4 ls []) := by
    intro n
    induction n with
    | zero => intro x1_4 x2_4 H locs ls hm; cases hm
    | succ n ih_4 =>
      intro x1_4 x2_4 H locs ls hm hR hS hl
      obtain ⟨z_4, hm, hz1_4, hz2_4⟩ := ss_lps hm
      refine lv_iload_n hx hb dd_G_snowOfAll_4 rfl (lv_at hl 2 rfl) ?_
      refine lv_bipush (v := 8) hx hb dd_G_snowOfAll_5 (by decide) ?_
      refine lv_icmp_ge (tgt := 25) hx hb dd_G_snowOfAll_7 (by decide) (fun c1 => ?_) (fun c1 => ?_)
      · have hm := ss_ift hm c1
        exact X_4_25 x1_4  _ _ _ (hz2_4 _ (ss_some hm)) hR hS (lv_sub hl [1] rfl)
      · have hm := ss_iff hm c1
        refine lv_iload_n hx hb dd_G_snowOfAll_10 rfl (lv_at hl 1 rfl) ?_
        refine ss_aload_n hx hb dd_G_snowOfAll_11 rfl (lv_at hl 0 rfl) ?_
        obtain ⟨r2, qr2, hm⟩ := ss_bind hm
        refine ss_getr hC hK hR kf_G_9 rfl qr2 dd_G_snowOfAll_12 ?_
        refine lv_iload_n hx hb dd_G_snowOfAll_15 rfl (lv_at hl 2 rfl) ?_
        obtain ⟨v3, qv3, hm⟩ := ss_bind hm
        refine ss_iald hC hK hR qv3 dd_G_snowOfAll_16 ?_
        refine lv_iadd hx hb dd_G_snowOfAll_17 ?_
        obtain ⟨v4, qv4, hm⟩ := ss_bind hm
        refine ss_topi qv4 ?_
        refine lv_istore_n (lv' := [(1, .int v4), (0, ss_v (ss_b G) this), (2, .int x2_4)]) hx hb dd_G_snowOfAll_18 rfl hl (by decide) (by simp only [List.filter_cons, ss_v_cat]; rfl) (fun ls hl => ?_)
        obtain ⟨v5, qv5, hm⟩ := ss_bind hm
        refine lv_iinc (v := v5) (lv' := [(2, .int v5), (1, .int v4), (0, ss_v (ss_b G) this)]) hx hb dd_G_snowOfAll_19 hl (k := 2) rfl (ss_inc (by decide) qv5) (by decide) rfl (fun ls hl => ?_)
        refine lv_goto (tgt := 4) hx hb dd_G_snowOfAll_22 (by decide) ?_
        exact ih_4 v4 v5  _ _ _ (hz1_4 _ (ss_some hm)) hR hS (lv_sub hl [2, 1, 0] rfl)
  exact L_4 N (0 : Int32) (0 : Int32) _ _ _ he_4 hR hS (lv_sub hl [2, 1, 0] rfl)
theorem dd_G_halve_0 : decode bb_G_halve 0 = .ok (.iconst 0, 1) := by decide +kernel
theorem dd_G_halve_1 : decode bb_G_halve 1 = .ok (.istore_n 1, 1) := by decide +kernel
theorem dd_G_halve_2 : decode bb_G_halve 2 = .ok (.iload_n 1, 1) := by decide +kernel
theorem dd_G_halve_3 : decode bb_G_halve 3 = .ok (.bipush 8, 2) := by decide +kernel
theorem dd_G_halve_5 : decode bb_G_halve 5 = .ok (.if_icmp .ge 19, 3) := by decide +kernel
theorem dd_G_halve_8 : decode bb_G_halve 8 = .ok (.aload_n 0, 1) := by decide +kernel
theorem dd_G_halve_9 : decode bb_G_halve 9 = .ok (.getfield 9, 3) := by decide +kernel
theorem dd_G_halve_12 : decode bb_G_halve 12 = .ok (.iload_n 1, 1) := by decide +kernel
theorem dd_G_halve_13 : decode bb_G_halve 13 = .ok (.dup2, 1) := by decide +kernel
theorem dd_G_halve_14 : decode bb_G_halve 14 = .ok (.iaload, 1) := by decide +kernel
theorem dd_G_halve_15 : decode bb_G_halve 15 = .ok (.iconst 2, 1) := by decide +kernel
theorem dd_G_halve_16 : decode bb_G_halve 16 = .ok (.idiv, 1) := by decide +kernel
theorem dd_G_halve_17 : decode bb_G_halve 17 = .ok (.iastore, 1) := by decide +kernel
theorem dd_G_halve_18 : decode bb_G_halve 18 = .ok (.iinc 1 1, 3) := by decide +kernel
theorem dd_G_halve_21 : decode bb_G_halve 21 = .ok (.goto (-19), 3) := by decide +kernel
theorem dd_G_halve_24 : decode bb_G_halve 24 = .ok (.return_, 1) := by decide +kernel
def mm_G_halve_b2 (N : Nat) (this : Option Nat) (st : Int32 × ss_Hp) : Option ((Int32 × ss_Hp) ⊕ ss_Hp) :=
  match st with
  | (x1_2, h_2) =>
    if (8 : Int32) ≤ x1_2 then
      some (.inr h_2)
    else
      (ss_gr h_2 this 0 0).bind fun r2 =>
      (ss_ai h_2 r2 20 x1_2).bind fun v3 =>
      (ss_div v3 (2 : Int32)).bind fun v4 =>
      (ss_ui h_2 r2 20 x1_2 v4).bind fun h5 =>
      (some (x1_2 + (1 : Int32))).bind fun v6 =>
      some (.inl (v6, h5))
def mm_G_halve (N : Nat) (this : Option Nat) (h : ss_Hp) : Option ss_Hp :=
  if ss_is h this 0 = true then
    (ss_lp (mm_G_halve_b2 N this) N ((0 : Int32), h)).bind fun h_2_24 =>
    some h_2_24
  else none
abbrev ww_G_halve (p : Program) (l : Launch) (e : Env) (s : State) (m : MethodId) (below : List Frame) (meth : Method) (c : Code) (G : ss_G) (this : Option Nat) (h : ss_Hp) (hh : ss_Hp) (H : Heap) (locs : List Loc) (k n : Nat) (g : JFrame) : Prop := W p l e (headSpec (ss_w yy_G_halve bb_G_halve 2 none) ({ frames := 0, cells := 0, slots := 0, locals := 0 })).room s m ([ss_v (ss_b G) this] : List Value).toArray below meth c H locs k n (MQ below (ss_Qc G none hh) ([ss_v (ss_b G) this] : List Value).toArray s 0 0 (ss_A G)) g
theorem ck_G_halve {N : Nat} {this : Option Nat} {h : ss_Hp} {res : ss_Hp} (hm : mm_G_halve N this h = some res) : ss_is h this 0 = true := (ss_chk hm).1
set_option maxHeartbeats 4000000 in
set_option maxRecDepth 100000 in
theorem cc_G_halve (l : Launch) (G : ss_G) (N : Nat) (this : Option Nat) (h : ss_Hp) (hh : ss_Hp) (hm : mm_G_halve N this h = some hh) : ss_Ct l G yy_G_halve bb_G_halve 2 none ({ frames := 0, cells := 0, slots := 0, locals := 0 }) [ss_v (ss_b G) this] h none hh := by
  obtain ⟨hck, hm⟩ := ss_chk hm
  refine Met.ofW (cc := bb_G_halve) (maxL := 2) (ret := none) (by decide) rfl ?_
  intro p e s m args below meth c s₁ B hml hv
  obtain ⟨rfl, hR, hK⟩ := hv
  have hC : CallFix p m c bb_G_halve 2 s _ lw_g sR_0 := ⟨B.exec, B.bytes, hml, findClass_of_methodNamed B.named, fun w hw => atoms_spec (ws := ss_w yy_G_halve bb_G_halve 2 none) B.pre w (List.mem_cons_of_mem _ hw)⟩
  have hx := hC.1
  have hb := hC.2.1
  have hr := B.returns
  have hlocks := B.notSynchronized
  have hS : va_S (ss_A G) s.heap s.heap [] := va_S.rf
  have hl := lv_entry ([ss_v (ss_b G) this]) (n := 2) (by simp [lg_sl, ss_v_cat, ss_cat_i, ss_cat_l, ss_cat_r])
  rw [lg_entry_eq]
  generalize (lg_sl ([ss_v (ss_b G) this]) ++ List.replicate (2 - (lg_sl ([ss_v (ss_b G) this])).length) Slot.unset).toArray = ls at hl ⊢
  have hl : lv_has ls 2 [(0, ss_v (ss_b G) this)] := by simpa [lv_args, ss_v_cat, ss_cat_i, ss_cat_l, ss_cat_r] using hl
  refine lv_iconst (v := 0) hx hb dd_G_halve_0 (by decide) ?_
  refine lv_istore_n (lv' := [(1, .int (0 : Int32)), (0, ss_v (ss_b G) this)]) hx hb dd_G_halve_1 rfl hl (by decide) (by simp only [List.filter_cons, ss_v_cat]; rfl) (fun ls hl => ?_)
  obtain ⟨e_2, he_2, hm⟩ := ss_bind hm
  have X_2_24 : ∀  (h_2_24 : ss_Hp) (H : Heap) (locs : List Loc) (ls : Array Slot), e_2 = h_2_24 → ss_R G h_2_24 H → va_S (ss_A G) s.heap H locs → lv_has ls 2 [] → ww_G_halve p l e s m below meth c G this h hh  H locs 0 0 (F0 m 24 ls []) := by
    intro h_2_24 H locs ls hq hR hS hl
    rw [hq] at hm
    exact ss_vret hC hr hlocks hR hS hm dd_G_halve_24
  have L_2 : ∀ (n : Nat) (x1_2 : Int32) (h_2 : ss_Hp) (H : Heap) (locs : List Loc) (ls : Array Slot), ss_lp (mm_G_halve_b2 N this) n (x1_2, h_2) = some e_2 → ss_R G h_2 H → va_S (ss_A G) s.heap H locs → lv_has ls 2 [(0, ss_v (ss_b G) this), (1, .int x1_2)] → ww_G_halve p l e s m below meth c G this h hh  H locs 0 0 (F0 m 2 ls []) := by
    intro n
    induction n with
    | zero => intro x1_2 h_2 H locs ls hm; cases hm
    | succ n ih_2 =>
      intro x1_2 h_2 H locs ls hm hR hS hl
      obtain ⟨z_2, hm, hz1_2, hz2_2⟩ := ss_lps hm
      refine lv_iload_n hx hb dd_G_halve_2 rfl (lv_at hl 1 rfl) ?_
      refine lv_bipush (v := 8) hx hb dd_G_halve_3 (by decide) ?_
      refine lv_icmp_ge (tgt := 24) hx hb dd_G_halve_5 (by decide) (fun c1 => ?_) (fun c1 => ?_)
      · have hm := ss_ift hm c1
        exact X_2_24 h_2 _ _ _ (hz2_2 _ (ss_some hm)) hR hS (lv_sub hl [] rfl)
      · have hm := ss_iff hm c1
        refine ss_aload_n hx hb dd_G_halve_8 rfl (lv_at hl 0 rfl) ?_
        obtain ⟨r2, qr2, hm⟩ := ss_bind hm
        refine ss_getr hC hK hR kf_G_9 rfl qr2 dd_G_halve_9 ?_
        refine lv_iload_n hx hb dd_G_halve_12 rfl (lv_at hl 1 rfl) ?_
        refine ss_dup2ir hx hb dd_G_halve_13 ?_
        obtain ⟨v3, qv3, hm⟩ := ss_bind hm
        refine ss_iald hC hK hR qv3 dd_G_halve_14 ?_
        refine lv_iconst (v := 2) hx hb dd_G_halve_15 (by decide) ?_
        obtain ⟨v4, qv4, hm⟩ := ss_bind hm
        refine ss_idiv hx hb qv4 dd_G_halve_16 ?_
        obtain ⟨h5, qh5, hm⟩ := ss_bind hm
        refine ss_iast hC hK hR hS qh5 dd_G_halve_17 (fun H locs hR hS => ?_)
        obtain ⟨v6, qv6, hm⟩ := ss_bind hm
        refine lv_iinc (v := v6) (lv' := [(1, .int v6), (0, ss_v (ss_b G) this)]) hx hb dd_G_halve_18 hl (k := 1) rfl (ss_inc (by decide) qv6) (by decide) (by simp only [List.filter_cons, ss_v_cat]; rfl) (fun ls hl => ?_)
        refine lv_goto (tgt := 2) hx hb dd_G_halve_21 (by decide) ?_
        exact ih_2 v6 h5 _ _ _ (hz1_2 _ (ss_some hm)) hR hS (lv_sub hl [1, 0] rfl)
  exact L_2 N (0 : Int32) h _ _ _ he_2 hR hS (lv_sub hl [1, 0] rfl)
theorem dd_S_thaw_0 : decode bb_S_thaw 0 = .ok (.aload_n 0, 1) := by decide +kernel
theorem dd_S_thaw_1 : decode bb_S_thaw 1 = .ok (.getfield 46, 3) := by decide +kernel
theorem dd_S_thaw_4 : decode bb_S_thaw 4 = .ok (.getfield 128, 3) := by decide +kernel
theorem dd_S_thaw_7 : decode bb_S_thaw 7 = .ok (.invokevirtual 203, 3) := by decide +kernel
theorem dd_S_thaw_10 : decode bb_S_thaw 10 = .ok (.ifCond .ne 5, 3) := by decide +kernel
theorem dd_S_thaw_13 : decode bb_S_thaw 13 = .ok (.iconst (-1), 1) := by decide +kernel
theorem dd_S_thaw_14 : decode bb_S_thaw 14 = .ok (.ireturn, 1) := by decide +kernel
theorem dd_S_thaw_15 : decode bb_S_thaw 15 = .ok (.aload_n 0, 1) := by decide +kernel
theorem dd_S_thaw_16 : decode bb_S_thaw 16 = .ok (.getfield 57, 3) := by decide +kernel
theorem dd_S_thaw_19 : decode bb_S_thaw 19 = .ok (.aload_n 0, 1) := by decide +kernel
theorem dd_S_thaw_20 : decode bb_S_thaw 20 = .ok (.getfield 46, 3) := by decide +kernel
theorem dd_S_thaw_23 : decode bb_S_thaw 23 = .ok (.getfield 128, 3) := by decide +kernel
theorem dd_S_thaw_26 : decode bb_S_thaw 26 = .ok (.invokevirtual 174, 3) := by decide +kernel
theorem dd_S_thaw_29 : decode bb_S_thaw 29 = .ok (.aload_n 0, 1) := by decide +kernel
theorem dd_S_thaw_30 : decode bb_S_thaw 30 = .ok (.getfield 46, 3) := by decide +kernel
theorem dd_S_thaw_33 : decode bb_S_thaw 33 = .ok (.getfield 128, 3) := by decide +kernel
theorem dd_S_thaw_36 : decode bb_S_thaw 36 = .ok (.invokevirtual 206, 3) := by decide +kernel
theorem dd_S_thaw_39 : decode bb_S_thaw 39 = .ok (.aload_n 0, 1) := by decide +kernel
theorem dd_S_thaw_40 : decode bb_S_thaw 40 = .ok (.getfield 46, 3) := by decide +kernel
theorem dd_S_thaw_43 : decode bb_S_thaw 43 = .ok (.getfield 128, 3) := by decide +kernel
theorem dd_S_thaw_46 : decode bb_S_thaw 46 = .ok (.invokevirtual 203, 3) := by decide +kernel
theorem dd_S_thaw_49 : decode bb_S_thaw 49 = .ok (.ireturn, 1) := by decide +kernel
def mm_S_thaw (N : Nat) (this : Option Nat) (h : ss_Hp) : Option (Int32 × ss_Hp) :=
  if ss_is h this 11 = true then
    (ss_gr h this 11 4).bind fun r1 =>
    (ss_gr h r1 8 1).bind fun r2 =>
    (mm_G_snowOfAll N r2 h).bind fun v3 =>
    if v3 = 0 then
      some ((-1 : Int32), h)
    else
      (ss_gr h this 11 6).bind fun r5 =>
      (ss_gr h this 11 4).bind fun r6 =>
      (ss_gr h r6 8 1).bind fun r7 =>
      (mm_A_keep N r5 r7 h).bind fun h8 =>
      (ss_gr h8 this 11 4).bind fun r9 =>
      (ss_gr h8 r9 8 1).bind fun r10 =>
      (mm_G_halve N r10 h8).bind fun h11 =>
      (ss_gr h11 this 11 4).bind fun r12 =>
      (ss_gr h11 r12 8 1).bind fun r13 =>
      (mm_G_snowOfAll N r13 h11).bind fun v14 =>
      some (v14, h11)
  else none
abbrev ww_S_thaw (p : Program) (l : Launch) (e : Env) (s : State) (m : MethodId) (below : List Frame) (meth : Method) (c : Code) (G : ss_G) (this : Option Nat) (h : ss_Hp) (rr : Int32) (hh : ss_Hp) (H : Heap) (locs : List Loc) (k n : Nat) (g : JFrame) : Prop := W p l e (headSpec (ss_w yy_S_thaw bb_S_thaw 1 (some (.int))) ({ frames := 3, cells := 0, slots := 0, locals := 122 })).room s m ([ss_v (ss_b G) this] : List Value).toArray below meth c H locs k n (MQ below (ss_Qc G (some (.int rr)) hh) ([ss_v (ss_b G) this] : List Value).toArray s 0 0 (ss_A G)) g
theorem ck_S_thaw {N : Nat} {this : Option Nat} {h : ss_Hp} {res : Int32 × ss_Hp} (hm : mm_S_thaw N this h = some res) : ss_is h this 11 = true := (ss_chk hm).1
set_option maxHeartbeats 4000000 in
set_option maxRecDepth 100000 in
theorem cc_S_thaw (l : Launch) (G : ss_G) (N : Nat) (this : Option Nat) (h : ss_Hp) (rr : Int32) (hh : ss_Hp) (hm : mm_S_thaw N this h = some (rr, hh)) : ss_Ct l G yy_S_thaw bb_S_thaw 1 (some (.int)) ({ frames := 3, cells := 0, slots := 0, locals := 122 }) [ss_v (ss_b G) this] h (some (.int rr)) hh := by
  obtain ⟨hck, hm⟩ := ss_chk hm
  refine Met.ofW (cc := bb_S_thaw) (maxL := 1) (ret := (some (.int))) (by decide) rfl ?_
  intro p e s m args below meth c s₁ B hml hv
  obtain ⟨rfl, hR, hK⟩ := hv
  have hC : CallFix p m c bb_S_thaw 1 s _ lw_g sR_11 := ⟨B.exec, B.bytes, hml, findClass_of_methodNamed B.named, fun w hw => atoms_spec (ws := ss_w yy_S_thaw bb_S_thaw 1 (some (.int))) B.pre w (List.mem_cons_of_mem _ hw)⟩
  have hx := hC.1
  have hb := hC.2.1
  have hr := B.returns
  have hlocks := B.notSynchronized
  have hS : va_S (ss_A G) s.heap s.heap [] := va_S.rf
  have hl := lv_entry ([ss_v (ss_b G) this]) (n := 1) (by simp [lg_sl, ss_v_cat, ss_cat_i, ss_cat_l, ss_cat_r])
  rw [lg_entry_eq]
  generalize (lg_sl ([ss_v (ss_b G) this]) ++ List.replicate (1 - (lg_sl ([ss_v (ss_b G) this])).length) Slot.unset).toArray = ls at hl ⊢
  have hl : lv_has ls 1 [(0, ss_v (ss_b G) this)] := by simpa [lv_args, ss_v_cat, ss_cat_i, ss_cat_l, ss_cat_r] using hl
  refine ss_aload_n hx hb dd_S_thaw_0 rfl (lv_at hl 0 rfl) ?_
  obtain ⟨r1, qr1, hm⟩ := ss_bind hm
  refine ss_getr hC hK hR kf_S_46 rfl qr1 dd_S_thaw_1 ?_
  obtain ⟨r2, qr2, hm⟩ := ss_bind hm
  refine ss_getr hC hK hR kf_S_128 rfl qr2 dd_S_thaw_4 ?_
  obtain ⟨v3, qv3, hm⟩ := ss_bind hm
  refine ss_cV 0 0 (As := []) hC hK hR hS hl.1 (cc_G_snowOfAll l G N _ _ _ qv3) km_S_203 (ck_G_snowOfAll qv3) ⟨Nat.le_of_ble_eq_true rfl, Nat.le_of_ble_eq_true rfl⟩ ⟨Nat.le_of_ble_eq_true rfl, Nat.le_of_ble_eq_true rfl, Nat.le_of_ble_eq_true rfl, Nat.le_of_ble_eq_true rfl⟩ rfl rfl (Nat.le_of_ble_eq_true rfl) dd_S_thaw_7 (fun H locs hR hS => ?_)
  refine lv_if_ne (tgt := 15) hx hb dd_S_thaw_10 (by decide) (fun c4 => ?_) (fun c4 => ?_)
  · have hm := ss_iff hm c4
    refine ss_aload_n hx hb dd_S_thaw_15 rfl (lv_at hl 0 rfl) ?_
    obtain ⟨r5, qr5, hm⟩ := ss_bind hm
    refine ss_getr hC hK hR kf_S_57 rfl qr5 dd_S_thaw_16 ?_
    refine ss_aload_n hx hb dd_S_thaw_19 rfl (lv_at hl 0 rfl) ?_
    obtain ⟨r6, qr6, hm⟩ := ss_bind hm
    refine ss_getr hC hK hR kf_S_46 rfl qr6 dd_S_thaw_20 ?_
    obtain ⟨r7, qr7, hm⟩ := ss_bind hm
    refine ss_getr hC hK hR kf_S_128 rfl qr7 dd_S_thaw_23 ?_
    obtain ⟨h8, qh8, hm⟩ := ss_bind hm
    refine ss_cVv 0 0 (As := [ss_v (ss_b G) r7]) hC hK hR hS hl.1 (cc_A_keep l G N _ _ _ _ qh8) km_S_174 (ck_A_keep qh8) ⟨Nat.le_of_ble_eq_true rfl, Nat.le_of_ble_eq_true rfl⟩ ⟨Nat.le_of_ble_eq_true rfl, Nat.le_of_ble_eq_true rfl, Nat.le_of_ble_eq_true rfl, Nat.le_of_ble_eq_true rfl⟩ rfl rfl (Nat.le_of_ble_eq_true rfl) dd_S_thaw_26 (fun H locs hR hS => ?_)
    refine ss_aload_n hx hb dd_S_thaw_29 rfl (lv_at hl 0 rfl) ?_
    obtain ⟨r9, qr9, hm⟩ := ss_bind hm
    refine ss_getr hC hK hR kf_S_46 rfl qr9 dd_S_thaw_30 ?_
    obtain ⟨r10, qr10, hm⟩ := ss_bind hm
    refine ss_getr hC hK hR kf_S_128 rfl qr10 dd_S_thaw_33 ?_
    obtain ⟨h11, qh11, hm⟩ := ss_bind hm
    refine ss_cVv 0 0 (As := []) hC hK hR hS hl.1 (cc_G_halve l G N _ _ _ qh11) km_S_206 (ck_G_halve qh11) ⟨Nat.le_of_ble_eq_true rfl, Nat.le_of_ble_eq_true rfl⟩ ⟨Nat.le_of_ble_eq_true rfl, Nat.le_of_ble_eq_true rfl, Nat.le_of_ble_eq_true rfl, Nat.le_of_ble_eq_true rfl⟩ rfl rfl (Nat.le_of_ble_eq_true rfl) dd_S_thaw_36 (fun H locs hR hS => ?_)
    refine ss_aload_n hx hb dd_S_thaw_39 rfl (lv_at hl 0 rfl) ?_
    obtain ⟨r12, qr12, hm⟩ := ss_bind hm
    refine ss_getr hC hK hR kf_S_46 rfl qr12 dd_S_thaw_40 ?_
    obtain ⟨r13, qr13, hm⟩ := ss_bind hm
    refine ss_getr hC hK hR kf_S_128 rfl qr13 dd_S_thaw_43 ?_
    obtain ⟨v14, qv14, hm⟩ := ss_bind hm
    refine ss_cV 0 0 (As := []) hC hK hR hS hl.1 (cc_G_snowOfAll l G N _ _ _ qv14) km_S_203 (ck_G_snowOfAll qv14) ⟨Nat.le_of_ble_eq_true rfl, Nat.le_of_ble_eq_true rfl⟩ ⟨Nat.le_of_ble_eq_true rfl, Nat.le_of_ble_eq_true rfl, Nat.le_of_ble_eq_true rfl, Nat.le_of_ble_eq_true rfl⟩ rfl rfl (Nat.le_of_ble_eq_true rfl) dd_S_thaw_46 (fun H locs hR hS => ?_)
    exact ss_iret hC hr hlocks hR hS hm dd_S_thaw_49
  · have hm := ss_ift hm c4
    refine lv_iconst (v := -1) hx hb dd_S_thaw_13 (by decide) ?_
    exact ss_iret hC hr hlocks hR hS hm dd_S_thaw_14
theorem dd_A_takeBack_0 : decode bb_A_takeBack 0 = .ok (.aload_n 0, 1) := by decide +kernel
theorem dd_A_takeBack_1 : decode bb_A_takeBack 1 = .ok (.getfield 26, 3) := by decide +kernel
theorem dd_A_takeBack_4 : decode bb_A_takeBack 4 = .ok (.ifCond .ne 5, 3) := by decide +kernel
theorem dd_A_takeBack_7 : decode bb_A_takeBack 7 = .ok (.iconst (-1), 1) := by decide +kernel
theorem dd_A_takeBack_8 : decode bb_A_takeBack 8 = .ok (.ireturn, 1) := by decide +kernel
theorem dd_A_takeBack_9 : decode bb_A_takeBack 9 = .ok (.aload_n 0, 1) := by decide +kernel
theorem dd_A_takeBack_10 : decode bb_A_takeBack 10 = .ok (.aload_n 0, 1) := by decide +kernel
theorem dd_A_takeBack_11 : decode bb_A_takeBack 11 = .ok (.getfield 18, 3) := by decide +kernel
theorem dd_A_takeBack_14 : decode bb_A_takeBack 14 = .ok (.ifCond .le 12, 3) := by decide +kernel
theorem dd_A_takeBack_17 : decode bb_A_takeBack 17 = .ok (.aload_n 0, 1) := by decide +kernel
theorem dd_A_takeBack_18 : decode bb_A_takeBack 18 = .ok (.getfield 18, 3) := by decide +kernel
theorem dd_A_takeBack_21 : decode bb_A_takeBack 21 = .ok (.iconst 1, 1) := by decide +kernel
theorem dd_A_takeBack_22 : decode bb_A_takeBack 22 = .ok (.isub, 1) := by decide +kernel
theorem dd_A_takeBack_23 : decode bb_A_takeBack 23 = .ok (.goto 5, 3) := by decide +kernel
theorem dd_A_takeBack_26 : decode bb_A_takeBack 26 = .ok (.bipush 19, 2) := by decide +kernel
theorem dd_A_takeBack_28 : decode bb_A_takeBack 28 = .ok (.putfield 18, 3) := by decide +kernel
theorem dd_A_takeBack_31 : decode bb_A_takeBack 31 = .ok (.aload_n 1, 1) := by decide +kernel
theorem dd_A_takeBack_32 : decode bb_A_takeBack 32 = .ok (.aload_n 0, 1) := by decide +kernel
theorem dd_A_takeBack_33 : decode bb_A_takeBack 33 = .ok (.getfield 13, 3) := by decide +kernel
theorem dd_A_takeBack_36 : decode bb_A_takeBack 36 = .ok (.aload_n 0, 1) := by decide +kernel
theorem dd_A_takeBack_37 : decode bb_A_takeBack 37 = .ok (.getfield 18, 3) := by decide +kernel
theorem dd_A_takeBack_40 : decode bb_A_takeBack 40 = .ok (.aaload, 1) := by decide +kernel
theorem dd_A_takeBack_41 : decode bb_A_takeBack 41 = .ok (.invokevirtual 22, 3) := by decide +kernel
theorem dd_A_takeBack_44 : decode bb_A_takeBack 44 = .ok (.aload_n 0, 1) := by decide +kernel
theorem dd_A_takeBack_45 : decode bb_A_takeBack 45 = .ok (.dup, 1) := by decide +kernel
theorem dd_A_takeBack_46 : decode bb_A_takeBack 46 = .ok (.getfield 26, 3) := by decide +kernel
theorem dd_A_takeBack_49 : decode bb_A_takeBack 49 = .ok (.iconst 1, 1) := by decide +kernel
theorem dd_A_takeBack_50 : decode bb_A_takeBack 50 = .ok (.isub, 1) := by decide +kernel
theorem dd_A_takeBack_51 : decode bb_A_takeBack 51 = .ok (.putfield 26, 3) := by decide +kernel
theorem dd_A_takeBack_54 : decode bb_A_takeBack 54 = .ok (.aload_n 0, 1) := by decide +kernel
theorem dd_A_takeBack_55 : decode bb_A_takeBack 55 = .ok (.getfield 26, 3) := by decide +kernel
theorem dd_A_takeBack_58 : decode bb_A_takeBack 58 = .ok (.ireturn, 1) := by decide +kernel
def mm_A_takeBack_j28 (N : Nat) (this : Option Nat) (a1 : Option Nat) (s0_28 : Option Nat) (s1_28 : Int32) (h_28 : ss_Hp) : Option (Int32 × ss_Hp) :=
  (ss_pi h_28 s0_28 3 0 s1_28).bind fun h1 =>
  (ss_gr h1 this 3 0).bind fun r2 =>
  (ss_gi h1 this 3 0).bind fun v3 =>
  (ss_ar h1 r2 24 v3).bind fun r4 =>
  (mm_G_copyFrom N a1 r4 h1).bind fun h5 =>
  (ss_gi h5 this 3 1).bind fun v6 =>
  (ss_pi h5 this 3 1 (v6 - (1 : Int32))).bind fun h7 =>
  (ss_gi h7 this 3 1).bind fun v8 =>
  some (v8, h7)
def mm_A_takeBack (N : Nat) (this : Option Nat) (a1 : Option Nat) (h : ss_Hp) : Option (Int32 × ss_Hp) :=
  if ss_is h this 3 = true then
    (ss_gi h this 3 1).bind fun v9 =>
    if v9 = 0 then
      some ((-1 : Int32), h)
    else
      (ss_gi h this 3 0).bind fun v11 =>
      if v11 ≤ 0 then
        mm_A_takeBack_j28 N this a1 this (19 : Int32) h
      else
        (ss_gi h this 3 0).bind fun v13 =>
        mm_A_takeBack_j28 N this a1 this (v13 - (1 : Int32)) h
  else none
abbrev ww_A_takeBack (p : Program) (l : Launch) (e : Env) (s : State) (m : MethodId) (below : List Frame) (meth : Method) (c : Code) (G : ss_G) (this : Option Nat) (a1 : Option Nat) (h : ss_Hp) (rr : Int32) (hh : ss_Hp) (H : Heap) (locs : List Loc) (k n : Nat) (g : JFrame) : Prop := W p l e (headSpec (ss_w yy_A_takeBack bb_A_takeBack 2 (some (.int))) ({ frames := 2, cells := 0, slots := 0, locals := 101 })).room s m ([ss_v (ss_b G) this, ss_v (ss_b G) a1] : List Value).toArray below meth c H locs k n (MQ below (ss_Qc G (some (.int rr)) hh) ([ss_v (ss_b G) this, ss_v (ss_b G) a1] : List Value).toArray s 0 0 (ss_A G)) g
theorem ck_A_takeBack {N : Nat} {this : Option Nat} {a1 : Option Nat} {h : ss_Hp} {res : Int32 × ss_Hp} (hm : mm_A_takeBack N this a1 h = some res) : ss_is h this 3 = true := (ss_chk hm).1
set_option maxHeartbeats 4000000 in
set_option maxRecDepth 100000 in
theorem cc_A_takeBack (l : Launch) (G : ss_G) (N : Nat) (this : Option Nat) (a1 : Option Nat) (h : ss_Hp) (rr : Int32) (hh : ss_Hp) (hm : mm_A_takeBack N this a1 h = some (rr, hh)) : ss_Ct l G yy_A_takeBack bb_A_takeBack 2 (some (.int)) ({ frames := 2, cells := 0, slots := 0, locals := 101 }) [ss_v (ss_b G) this, ss_v (ss_b G) a1] h (some (.int rr)) hh := by
  obtain ⟨hck, hm⟩ := ss_chk hm
  refine Met.ofW (cc := bb_A_takeBack) (maxL := 2) (ret := (some (.int))) (by decide) rfl ?_
  intro p e s m args below meth c s₁ B hml hv
  obtain ⟨rfl, hR, hK⟩ := hv
  have hC : CallFix p m c bb_A_takeBack 2 s _ lw_g sR_3 := ⟨B.exec, B.bytes, hml, findClass_of_methodNamed B.named, fun w hw => atoms_spec (ws := ss_w yy_A_takeBack bb_A_takeBack 2 (some (.int))) B.pre w (List.mem_cons_of_mem _ hw)⟩
  have hx := hC.1
  have hb := hC.2.1
  have hr := B.returns
  have hlocks := B.notSynchronized
  have hS : va_S (ss_A G) s.heap s.heap [] := va_S.rf
  have hl := lv_entry ([ss_v (ss_b G) this, ss_v (ss_b G) a1]) (n := 2) (by simp [lg_sl, ss_v_cat, ss_cat_i, ss_cat_l, ss_cat_r])
  rw [lg_entry_eq]
  generalize (lg_sl ([ss_v (ss_b G) this, ss_v (ss_b G) a1]) ++ List.replicate (2 - (lg_sl ([ss_v (ss_b G) this, ss_v (ss_b G) a1])).length) Slot.unset).toArray = ls at hl ⊢
  have hl : lv_has ls 2 [(0, ss_v (ss_b G) this), (1, ss_v (ss_b G) a1)] := by simpa [lv_args, ss_v_cat, ss_cat_i, ss_cat_l, ss_cat_r] using hl
  have J_28 : ∀ (s0_28 : Option Nat) (s1_28 : Int32) (h_28 : ss_Hp) (H : Heap) (locs : List Loc) (ls : Array Slot), mm_A_takeBack_j28 N this a1 s0_28 s1_28 h_28 = some (rr, hh) → ss_R G h_28 H → va_S (ss_A G) s.heap H locs → lv_has ls 2 [(0, ss_v (ss_b G) this), (1, ss_v (ss_b G) a1)] → ww_A_takeBack p l e s m below meth c G this a1 h rr hh  H locs 0 0 (F0 m 28 ls [.int s1_28, ss_v (ss_b G) s0_28]) := by
    intro s0_28 s1_28 h_28 H locs ls hm hR hS hl
    obtain ⟨h1, qh1, hm⟩ := ss_bind hm
    refine ss_puti hC hK hR hS kp_A_18 qh1 dd_A_takeBack_28 (fun H locs hR hS => ?_)
    refine ss_aload_n hx hb dd_A_takeBack_31 rfl (lv_at hl 1 rfl) ?_
    refine ss_aload_n hx hb dd_A_takeBack_32 rfl (lv_at hl 0 rfl) ?_
    obtain ⟨r2, qr2, hm⟩ := ss_bind hm
    refine ss_getr hC hK hR kf_A_13 rfl qr2 dd_A_takeBack_33 ?_
    refine ss_aload_n hx hb dd_A_takeBack_36 rfl (lv_at hl 0 rfl) ?_
    obtain ⟨v3, qv3, hm⟩ := ss_bind hm
    refine ss_geti hC hK hR kf_A_18 qv3 dd_A_takeBack_37 ?_
    obtain ⟨r4, qr4, hm⟩ := ss_bind hm
    refine ss_aald hC hK hR (t0 := 4) rfl (by decide) qr4 dd_A_takeBack_40 ?_
    obtain ⟨h5, qh5, hm⟩ := ss_bind hm
    refine ss_cVv 0 0 (As := [ss_v (ss_b G) r4]) hC hK hR hS hl.1 (cc_G_copyFrom l G N _ _ _ _ qh5) km_A_22 (ck_G_copyFrom qh5) ⟨Nat.le_of_ble_eq_true rfl, Nat.le_of_ble_eq_true rfl⟩ ⟨Nat.le_of_ble_eq_true rfl, Nat.le_of_ble_eq_true rfl, Nat.le_of_ble_eq_true rfl, Nat.le_of_ble_eq_true rfl⟩ rfl rfl (Nat.le_of_ble_eq_true rfl) dd_A_takeBack_41 (fun H locs hR hS => ?_)
    refine ss_aload_n hx hb dd_A_takeBack_44 rfl (lv_at hl 0 rfl) ?_
    refine ss_dupr hx hb dd_A_takeBack_45 ?_
    obtain ⟨v6, qv6, hm⟩ := ss_bind hm
    refine ss_geti hC hK hR kf_A_26 qv6 dd_A_takeBack_46 ?_
    refine lv_iconst (v := 1) hx hb dd_A_takeBack_49 (by decide) ?_
    refine lv_isub hx hb dd_A_takeBack_50 ?_
    obtain ⟨h7, qh7, hm⟩ := ss_bind hm
    refine ss_puti hC hK hR hS kp_A_26 qh7 dd_A_takeBack_51 (fun H locs hR hS => ?_)
    refine ss_aload_n hx hb dd_A_takeBack_54 rfl (lv_at hl 0 rfl) ?_
    obtain ⟨v8, qv8, hm⟩ := ss_bind hm
    refine ss_geti hC hK hR kf_A_26 qv8 dd_A_takeBack_55 ?_
    exact ss_iret hC hr hlocks hR hS hm dd_A_takeBack_58
  refine ss_aload_n hx hb dd_A_takeBack_0 rfl (lv_at hl 0 rfl) ?_
  obtain ⟨v9, qv9, hm⟩ := ss_bind hm
  refine ss_geti hC hK hR kf_A_26 qv9 dd_A_takeBack_1 ?_
  refine lv_if_ne (tgt := 9) hx hb dd_A_takeBack_4 (by decide) (fun c10 => ?_) (fun c10 => ?_)
  · have hm := ss_iff hm c10
    refine ss_aload_n hx hb dd_A_takeBack_9 rfl (lv_at hl 0 rfl) ?_
    refine ss_aload_n hx hb dd_A_takeBack_10 rfl (lv_at hl 0 rfl) ?_
    obtain ⟨v11, qv11, hm⟩ := ss_bind hm
    refine ss_geti hC hK hR kf_A_18 qv11 dd_A_takeBack_11 ?_
    refine lv_if_le (tgt := 26) hx hb dd_A_takeBack_14 (by decide) (fun c12 => ?_) (fun c12 => ?_)
    · have hm := ss_ift hm c12
      refine lv_bipush (v := 19) hx hb dd_A_takeBack_26 (by decide) ?_
      exact J_28 this (19 : Int32) h _ _ _ hm hR hS hl
    · have hm := ss_iff hm c12
      refine ss_aload_n hx hb dd_A_takeBack_17 rfl (lv_at hl 0 rfl) ?_
      obtain ⟨v13, qv13, hm⟩ := ss_bind hm
      refine ss_geti hC hK hR kf_A_18 qv13 dd_A_takeBack_18 ?_
      refine lv_iconst (v := 1) hx hb dd_A_takeBack_21 (by decide) ?_
      refine lv_isub hx hb dd_A_takeBack_22 ?_
      refine lv_goto (tgt := 28) hx hb dd_A_takeBack_23 (by decide) ?_
      exact J_28 this (v13 - (1 : Int32)) h _ _ _ hm hR hS hl
  · have hm := ss_ift hm c10
    refine lv_iconst (v := -1) hx hb dd_A_takeBack_7 (by decide) ?_
    exact ss_iret hC hr hlocks hR hS hm dd_A_takeBack_8
theorem dd_S_undo_0 : decode bb_S_undo 0 = .ok (.aload_n 0, 1) := by decide +kernel
theorem dd_S_undo_1 : decode bb_S_undo 1 = .ok (.getfield 57, 3) := by decide +kernel
theorem dd_S_undo_4 : decode bb_S_undo 4 = .ok (.aload_n 0, 1) := by decide +kernel
theorem dd_S_undo_5 : decode bb_S_undo 5 = .ok (.getfield 46, 3) := by decide +kernel
theorem dd_S_undo_8 : decode bb_S_undo 8 = .ok (.getfield 128, 3) := by decide +kernel
theorem dd_S_undo_11 : decode bb_S_undo 11 = .ok (.invokevirtual 209, 3) := by decide +kernel
theorem dd_S_undo_14 : decode bb_S_undo 14 = .ok (.ireturn, 1) := by decide +kernel
def mm_S_undo (N : Nat) (this : Option Nat) (h : ss_Hp) : Option (Int32 × ss_Hp) :=
  if ss_is h this 11 = true then
    (ss_gr h this 11 6).bind fun r1 =>
    (ss_gr h this 11 4).bind fun r2 =>
    (ss_gr h r2 8 1).bind fun r3 =>
    ss_b2 (mm_A_takeBack N r1 r3 h) fun v4 h5 =>
    some (v4, h5)
  else none
abbrev ww_S_undo (p : Program) (l : Launch) (e : Env) (s : State) (m : MethodId) (below : List Frame) (meth : Method) (c : Code) (G : ss_G) (this : Option Nat) (h : ss_Hp) (rr : Int32) (hh : ss_Hp) (H : Heap) (locs : List Loc) (k n : Nat) (g : JFrame) : Prop := W p l e (headSpec (ss_w yy_S_undo bb_S_undo 1 (some (.int))) ({ frames := 3, cells := 0, slots := 0, locals := 122 })).room s m ([ss_v (ss_b G) this] : List Value).toArray below meth c H locs k n (MQ below (ss_Qc G (some (.int rr)) hh) ([ss_v (ss_b G) this] : List Value).toArray s 0 0 (ss_A G)) g
theorem ck_S_undo {N : Nat} {this : Option Nat} {h : ss_Hp} {res : Int32 × ss_Hp} (hm : mm_S_undo N this h = some res) : ss_is h this 11 = true := (ss_chk hm).1
set_option maxHeartbeats 4000000 in
set_option maxRecDepth 100000 in
theorem cc_S_undo (l : Launch) (G : ss_G) (N : Nat) (this : Option Nat) (h : ss_Hp) (rr : Int32) (hh : ss_Hp) (hm : mm_S_undo N this h = some (rr, hh)) : ss_Ct l G yy_S_undo bb_S_undo 1 (some (.int)) ({ frames := 3, cells := 0, slots := 0, locals := 122 }) [ss_v (ss_b G) this] h (some (.int rr)) hh := by
  obtain ⟨hck, hm⟩ := ss_chk hm
  refine Met.ofW (cc := bb_S_undo) (maxL := 1) (ret := (some (.int))) (by decide) rfl ?_
  intro p e s m args below meth c s₁ B hml hv
  obtain ⟨rfl, hR, hK⟩ := hv
  have hC : CallFix p m c bb_S_undo 1 s _ lw_g sR_11 := ⟨B.exec, B.bytes, hml, findClass_of_methodNamed B.named, fun w hw => atoms_spec (ws := ss_w yy_S_undo bb_S_undo 1 (some (.int))) B.pre w (List.mem_cons_of_mem _ hw)⟩
  have hx := hC.1
  have hb := hC.2.1
  have hr := B.returns
  have hlocks := B.notSynchronized
  have hS : va_S (ss_A G) s.heap s.heap [] := va_S.rf
  have hl := lv_entry ([ss_v (ss_b G) this]) (n := 1) (by simp [lg_sl, ss_v_cat, ss_cat_i, ss_cat_l, ss_cat_r])
  rw [lg_entry_eq]
  generalize (lg_sl ([ss_v (ss_b G) this]) ++ List.replicate (1 - (lg_sl ([ss_v (ss_b G) this])).length) Slot.unset).toArray = ls at hl ⊢
  have hl : lv_has ls 1 [(0, ss_v (ss_b G) this)] := by simpa [lv_args, ss_v_cat, ss_cat_i, ss_cat_l, ss_cat_r] using hl
  refine ss_aload_n hx hb dd_S_undo_0 rfl (lv_at hl 0 rfl) ?_
  obtain ⟨r1, qr1, hm⟩ := ss_bind hm
  refine ss_getr hC hK hR kf_S_57 rfl qr1 dd_S_undo_1 ?_
  refine ss_aload_n hx hb dd_S_undo_4 rfl (lv_at hl 0 rfl) ?_
  obtain ⟨r2, qr2, hm⟩ := ss_bind hm
  refine ss_getr hC hK hR kf_S_46 rfl qr2 dd_S_undo_5 ?_
  obtain ⟨r3, qr3, hm⟩ := ss_bind hm
  refine ss_getr hC hK hR kf_S_128 rfl qr3 dd_S_undo_8 ?_
  obtain ⟨v4, h5, qh5, hm⟩ := ss_bind2 hm
  refine ss_cV 0 0 (As := [ss_v (ss_b G) r3]) hC hK hR hS hl.1 (cc_A_takeBack l G N _ _ _ _ _ qh5) km_S_209 (ck_A_takeBack qh5) ⟨Nat.le_of_ble_eq_true rfl, Nat.le_of_ble_eq_true rfl⟩ ⟨Nat.le_of_ble_eq_true rfl, Nat.le_of_ble_eq_true rfl, Nat.le_of_ble_eq_true rfl, Nat.le_of_ble_eq_true rfl⟩ rfl rfl (Nat.le_of_ble_eq_true rfl) dd_S_undo_11 (fun H locs hR hS => ?_)
  exact ss_iret hC hr hlocks hR hS hm dd_S_undo_14
theorem dd_F_go_0 : decode bb_F_go 0 = .ok (.aload_n 0, 1) := by decide +kernel
theorem dd_F_go_1 : decode bb_F_go 1 = .ok (.invokevirtual 55, 3) := by decide +kernel
theorem dd_F_go_4 : decode bb_F_go 4 = .ok (.iconst 0, 1) := by decide +kernel
theorem dd_F_go_5 : decode bb_F_go 5 = .ok (.istore_n 2, 1) := by decide +kernel
theorem dd_F_go_6 : decode bb_F_go 6 = .ok (.iload_n 2, 1) := by decide +kernel
theorem dd_F_go_7 : decode bb_F_go 7 = .ok (.iload_n 1, 1) := by decide +kernel
theorem dd_F_go_8 : decode bb_F_go 8 = .ok (.if_icmp .ge 17, 3) := by decide +kernel
theorem dd_F_go_11 : decode bb_F_go 11 = .ok (.aload_n 0, 1) := by decide +kernel
theorem dd_F_go_12 : decode bb_F_go 12 = .ok (.getfield 27, 3) := by decide +kernel
theorem dd_F_go_15 : decode bb_F_go 15 = .ok (.invokevirtual 58, 3) := by decide +kernel
theorem dd_F_go_18 : decode bb_F_go 18 = .ok (.pop, 1) := by decide +kernel
theorem dd_F_go_19 : decode bb_F_go 19 = .ok (.iinc 2 1, 3) := by decide +kernel
theorem dd_F_go_22 : decode bb_F_go 22 = .ok (.goto (-16), 3) := by decide +kernel
theorem dd_F_go_25 : decode bb_F_go 25 = .ok (.return_, 1) := by decide +kernel
def mm_F_go_b6 (N : Nat) (this : Option Nat) (a1 : Int32) (st : Int32 × ss_Hp) : Option ((Int32 × ss_Hp) ⊕ ss_Hp) :=
  match st with
  | (x2_6, h_6) =>
    if a1 ≤ x2_6 then
      some (.inr h_6)
    else
      (ss_gr h_6 this 9 2).bind fun r3 =>
      ss_b2 (mm_Wi_passDay N r3 h_6) fun v4 h5 =>
      (some (x2_6 + (1 : Int32))).bind fun v6 =>
      some (.inl (v6, h5))
def mm_F_go (N : Nat) (this : Option Nat) (a1 : Int32) (h : ss_Hp) : Option ss_Hp :=
  if ss_is h this 9 = true then
    (mm_F_start N this h).bind fun h1 =>
    (ss_lp (mm_F_go_b6 N this a1) N ((0 : Int32), h1)).bind fun h_6_25 =>
    some h_6_25
  else none
abbrev ww_F_go (p : Program) (l : Launch) (e : Env) (s : State) (m : MethodId) (below : List Frame) (meth : Method) (c : Code) (G : ss_G) (this : Option Nat) (a1 : Int32) (h : ss_Hp) (hh : ss_Hp) (H : Heap) (locs : List Loc) (k n : Nat) (g : JFrame) : Prop := W p l e (headSpec (ss_w yy_F_go bb_F_go 3 none) ({ frames := 5, cells := 0, slots := 0, locals := 148 })).room s m ([ss_v (ss_b G) this, .int a1] : List Value).toArray below meth c H locs k n (MQ below (ss_Qc G none hh) ([ss_v (ss_b G) this, .int a1] : List Value).toArray s 0 0 (ss_A G)) g
theorem ck_F_go {N : Nat} {this : Option Nat} {a1 : Int32} {h : ss_Hp} {res : ss_Hp} (hm : mm_F_go N this a1 h = some res) : ss_is h this 9 = true := (ss_chk hm).1
set_option maxHeartbeats 4000000 in
set_option maxRecDepth 100000 in
theorem cc_F_go (l : Launch) (G : ss_G) (N : Nat) (this : Option Nat) (a1 : Int32) (h : ss_Hp) (hh : ss_Hp) (hm : mm_F_go N this a1 h = some hh) : ss_Ct l G yy_F_go bb_F_go 3 none ({ frames := 5, cells := 0, slots := 0, locals := 148 }) [ss_v (ss_b G) this, .int a1] h none hh := by
  obtain ⟨hck, hm⟩ := ss_chk hm
  refine Met.ofW (cc := bb_F_go) (maxL := 3) (ret := none) (by decide) rfl ?_
  intro p e s m args below meth c s₁ B hml hv
  obtain ⟨rfl, hR, hK⟩ := hv
  have hC : CallFix p m c bb_F_go 3 s _ lw_g sR_9 := ⟨B.exec, B.bytes, hml, findClass_of_methodNamed B.named, fun w hw => atoms_spec (ws := ss_w yy_F_go bb_F_go 3 none) B.pre w (List.mem_cons_of_mem _ hw)⟩
  have hx := hC.1
  have hb := hC.2.1
  have hr := B.returns
  have hlocks := B.notSynchronized
  have hS : va_S (ss_A G) s.heap s.heap [] := va_S.rf
  have hl := lv_entry ([ss_v (ss_b G) this, .int a1]) (n := 3) (by simp [lg_sl, ss_v_cat, ss_cat_i, ss_cat_l, ss_cat_r])
  rw [lg_entry_eq]
  generalize (lg_sl ([ss_v (ss_b G) this, .int a1]) ++ List.replicate (3 - (lg_sl ([ss_v (ss_b G) this, .int a1])).length) Slot.unset).toArray = ls at hl ⊢
  have hl : lv_has ls 3 [(0, ss_v (ss_b G) this), (1, .int a1)] := by simpa [lv_args, ss_v_cat, ss_cat_i, ss_cat_l, ss_cat_r] using hl
  refine ss_aload_n hx hb dd_F_go_0 rfl (lv_at hl 0 rfl) ?_
  obtain ⟨h1, qh1, hm⟩ := ss_bind hm
  refine ss_cVv 0 0 (As := []) hC hK hR hS hl.1 (cc_F_start l G N _ _ _ qh1) km_F_55 (ck_F_start qh1) ⟨Nat.le_of_ble_eq_true rfl, Nat.le_of_ble_eq_true rfl⟩ ⟨Nat.le_of_ble_eq_true rfl, Nat.le_of_ble_eq_true rfl, Nat.le_of_ble_eq_true rfl, Nat.le_of_ble_eq_true rfl⟩ rfl rfl (Nat.le_of_ble_eq_true rfl) dd_F_go_1 (fun H locs hR hS => ?_)
  refine lv_iconst (v := 0) hx hb dd_F_go_4 (by decide) ?_
  refine lv_istore_n (lv' := [(2, .int (0 : Int32)), (0, ss_v (ss_b G) this), (1, .int a1)]) hx hb dd_F_go_5 rfl hl (by decide) rfl (fun ls hl => ?_)
  obtain ⟨e_6, he_6, hm⟩ := ss_bind hm
  have X_6_25 : ∀  (h_6_25 : ss_Hp) (H : Heap) (locs : List Loc) (ls : Array Slot), e_6 = h_6_25 → ss_R G h_6_25 H → va_S (ss_A G) s.heap H locs → lv_has ls 3 [] → ww_F_go p l e s m below meth c G this a1 h hh  H locs 0 0 (F0 m 25 ls []) := by
    intro h_6_25 H locs ls hq hR hS hl
    rw [hq] at hm
    exact ss_vret hC hr hlocks hR hS hm dd_F_go_25
  have L_6 : ∀ (n : Nat) (x2_6 : Int32) (h_6 : ss_Hp) (H : Heap) (locs : List Loc) (ls : Array Slot), ss_lp (mm_F_go_b6 N this a1) n (x2_6, h_6) = some e_6 → ss_R G h_6 H → va_S (ss_A G) s.heap H locs → lv_has ls 3 [(0, ss_v (ss_b G) this), (1, .int a1), (2, .int x2_6)] → ww_F_go p l e s m below meth c G this a1 h hh  H locs 0 0 (F0 m 6 ls []) := by
    intro n
    induction n with
    | zero => intro x2_6 h_6 H locs ls hm; cases hm
    | succ n ih_6 =>
      intro x2_6 h_6 H locs ls hm hR hS hl
      obtain ⟨z_6, hm, hz1_6, hz2_6⟩ := ss_lps hm
      refine lv_iload_n hx hb dd_F_go_6 rfl (lv_at hl 2 rfl) ?_
      refine lv_iload_n hx hb dd_F_go_7 rfl (lv_at hl 1 rfl) ?_
      refine lv_icmp_ge (tgt := 25) hx hb dd_F_go_8 (by decide) (fun c2 => ?_) (fun c2 => ?_)
      · have hm := ss_ift hm c2
        exact X_6_25 h_6 _ _ _ (hz2_6 _ (ss_some hm)) hR hS (lv_sub hl [] rfl)
      · have hm := ss_iff hm c2
        refine ss_aload_n hx hb dd_F_go_11 rfl (lv_at hl 0 rfl) ?_
        obtain ⟨r3, qr3, hm⟩ := ss_bind hm
        refine ss_getr hC hK hR kf_F_27 rfl qr3 dd_F_go_12 ?_
        obtain ⟨v4, h5, qh5, hm⟩ := ss_bind2 hm
        refine ss_cV 0 0 (As := []) hC hK hR hS hl.1 (cc_Wi_passDay l G N _ _ _ _ qh5) km_F_58 (ck_Wi_passDay qh5) ⟨Nat.le_of_ble_eq_true rfl, Nat.le_of_ble_eq_true rfl⟩ ⟨Nat.le_of_ble_eq_true rfl, Nat.le_of_ble_eq_true rfl, Nat.le_of_ble_eq_true rfl, Nat.le_of_ble_eq_true rfl⟩ rfl rfl (Nat.le_of_ble_eq_true rfl) dd_F_go_15 (fun H locs hR hS => ?_)
        refine lv_pop hx hb dd_F_go_18 rfl ?_
        obtain ⟨v6, qv6, hm⟩ := ss_bind hm
        refine lv_iinc (v := v6) (lv' := [(2, .int v6), (0, ss_v (ss_b G) this), (1, .int a1)]) hx hb dd_F_go_19 hl (k := 2) rfl (ss_inc (by decide) qv6) (by decide) rfl (fun ls hl => ?_)
        refine lv_goto (tgt := 6) hx hb dd_F_go_22 (by decide) ?_
        exact ih_6 v6 h5 _ _ _ (hz1_6 _ (ss_some hm)) hR hS (lv_sub hl [1, 2, 0] rfl)
  exact L_6 N (0 : Int32) h1 _ _ _ he_6 hR hS (lv_sub hl [1, 2, 0] rfl)
theorem dd_F_closedAfter_0 : decode bb_F_closedAfter 0 = .ok (.aload_n 0, 1) := by decide +kernel
theorem dd_F_closedAfter_1 : decode bb_F_closedAfter 1 = .ok (.iload_n 1, 1) := by decide +kernel
theorem dd_F_closedAfter_2 : decode bb_F_closedAfter 2 = .ok (.invokevirtual 62, 3) := by decide +kernel
theorem dd_F_closedAfter_5 : decode bb_F_closedAfter 5 = .ok (.aload_n 0, 1) := by decide +kernel
theorem dd_F_closedAfter_6 : decode bb_F_closedAfter 6 = .ok (.getfield 27, 3) := by decide +kernel
theorem dd_F_closedAfter_9 : decode bb_F_closedAfter 9 = .ok (.invokevirtual 72, 3) := by decide +kernel
theorem dd_F_closedAfter_12 : decode bb_F_closedAfter 12 = .ok (.invokestatic 75, 3) := by decide +kernel
theorem dd_F_closedAfter_15 : decode bb_F_closedAfter 15 = .ok (.ireturn, 1) := by decide +kernel
def mm_F_closedAfter (N : Nat) (this : Option Nat) (a1 : Int32) (h : ss_Hp) : Option (Int32 × ss_Hp) :=
  if ss_is h this 9 = true then
    (mm_F_go N this a1 h).bind fun h1 =>
    (ss_gr h1 this 9 2).bind fun r2 =>
    (mm_Wi_closedBits N r2 h1).bind fun v3 =>
    (mm_JI_bitCount N v3).bind fun v4 =>
    some (v4, h1)
  else none
abbrev ww_F_closedAfter (p : Program) (l : Launch) (e : Env) (s : State) (m : MethodId) (below : List Frame) (meth : Method) (c : Code) (G : ss_G) (this : Option Nat) (a1 : Int32) (h : ss_Hp) (rr : Int32) (hh : ss_Hp) (H : Heap) (locs : List Loc) (k n : Nat) (g : JFrame) : Prop := W p l e (headSpec (ss_w yy_F_closedAfter bb_F_closedAfter 2 (some (.int))) ({ frames := 6, cells := 0, slots := 0, locals := 170 })).room s m ([ss_v (ss_b G) this, .int a1] : List Value).toArray below meth c H locs k n (MQ below (ss_Qc G (some (.int rr)) hh) ([ss_v (ss_b G) this, .int a1] : List Value).toArray s 0 0 (ss_A G)) g
theorem ck_F_closedAfter {N : Nat} {this : Option Nat} {a1 : Int32} {h : ss_Hp} {res : Int32 × ss_Hp} (hm : mm_F_closedAfter N this a1 h = some res) : ss_is h this 9 = true := (ss_chk hm).1
set_option maxHeartbeats 4000000 in
set_option maxRecDepth 100000 in
theorem cc_F_closedAfter (l : Launch) (G : ss_G) (N : Nat) (this : Option Nat) (a1 : Int32) (h : ss_Hp) (rr : Int32) (hh : ss_Hp) (hm : mm_F_closedAfter N this a1 h = some (rr, hh)) : ss_Ct l G yy_F_closedAfter bb_F_closedAfter 2 (some (.int)) ({ frames := 6, cells := 0, slots := 0, locals := 170 }) [ss_v (ss_b G) this, .int a1] h (some (.int rr)) hh := by
  obtain ⟨hck, hm⟩ := ss_chk hm
  refine Met.ofW (cc := bb_F_closedAfter) (maxL := 2) (ret := (some (.int))) (by decide) rfl ?_
  intro p e s m args below meth c s₁ B hml hv
  obtain ⟨rfl, hR, hK⟩ := hv
  have hC : CallFix p m c bb_F_closedAfter 2 s _ lw_g sR_9 := ⟨B.exec, B.bytes, hml, findClass_of_methodNamed B.named, fun w hw => atoms_spec (ws := ss_w yy_F_closedAfter bb_F_closedAfter 2 (some (.int))) B.pre w (List.mem_cons_of_mem _ hw)⟩
  have hx := hC.1
  have hb := hC.2.1
  have hr := B.returns
  have hlocks := B.notSynchronized
  have hS : va_S (ss_A G) s.heap s.heap [] := va_S.rf
  have hl := lv_entry ([ss_v (ss_b G) this, .int a1]) (n := 2) (by simp [lg_sl, ss_v_cat, ss_cat_i, ss_cat_l, ss_cat_r])
  rw [lg_entry_eq]
  generalize (lg_sl ([ss_v (ss_b G) this, .int a1]) ++ List.replicate (2 - (lg_sl ([ss_v (ss_b G) this, .int a1])).length) Slot.unset).toArray = ls at hl ⊢
  have hl : lv_has ls 2 [(0, ss_v (ss_b G) this), (1, .int a1)] := by simpa [lv_args, ss_v_cat, ss_cat_i, ss_cat_l, ss_cat_r] using hl
  refine ss_aload_n hx hb dd_F_closedAfter_0 rfl (lv_at hl 0 rfl) ?_
  refine lv_iload_n hx hb dd_F_closedAfter_1 rfl (lv_at hl 1 rfl) ?_
  obtain ⟨h1, qh1, hm⟩ := ss_bind hm
  refine ss_cVv 0 0 (As := [.int a1]) hC hK hR hS hl.1 (cc_F_go l G N _ _ _ _ qh1) km_F_62 (ck_F_go qh1) ⟨Nat.le_of_ble_eq_true rfl, Nat.le_of_ble_eq_true rfl⟩ ⟨Nat.le_of_ble_eq_true rfl, Nat.le_of_ble_eq_true rfl, Nat.le_of_ble_eq_true rfl, Nat.le_of_ble_eq_true rfl⟩ rfl rfl (Nat.le_of_ble_eq_true rfl) dd_F_closedAfter_2 (fun H locs hR hS => ?_)
  refine ss_aload_n hx hb dd_F_closedAfter_5 rfl (lv_at hl 0 rfl) ?_
  obtain ⟨r2, qr2, hm⟩ := ss_bind hm
  refine ss_getr hC hK hR kf_F_27 rfl qr2 dd_F_closedAfter_6 ?_
  obtain ⟨v3, qv3, hm⟩ := ss_bind hm
  refine ss_cV 0 0 (As := []) hC hK hR hS hl.1 (cc_Wi_closedBits l G N _ _ _ qv3) km_F_72 (ck_Wi_closedBits qv3) ⟨Nat.le_of_ble_eq_true rfl, Nat.le_of_ble_eq_true rfl⟩ ⟨Nat.le_of_ble_eq_true rfl, Nat.le_of_ble_eq_true rfl, Nat.le_of_ble_eq_true rfl, Nat.le_of_ble_eq_true rfl⟩ rfl rfl (Nat.le_of_ble_eq_true rfl) dd_F_closedAfter_9 (fun H locs hR hS => ?_)
  obtain ⟨v4, qv4, hm⟩ := ss_bind hm
  refine ss_cS 0 0 (As := [.int v3]) hC hK hR hS hl.1 (cc_JI_bitCount l G N _ _ _ qv4) km_F_75 ⟨Nat.le_of_ble_eq_true rfl, Nat.le_of_ble_eq_true rfl⟩ ⟨Nat.le_of_ble_eq_true rfl, Nat.le_of_ble_eq_true rfl, Nat.le_of_ble_eq_true rfl, Nat.le_of_ble_eq_true rfl⟩ rfl rfl (Nat.le_of_ble_eq_true rfl) dd_F_closedAfter_12 (fun H locs hR hS => ?_)
  exact ss_iret hC hr hlocks hR hS hm dd_F_closedAfter_15
theorem dd_F_snowAfter_0 : decode bb_F_snowAfter 0 = .ok (.aload_n 0, 1) := by decide +kernel
theorem dd_F_snowAfter_1 : decode bb_F_snowAfter 1 = .ok (.iload_n 2, 1) := by decide +kernel
theorem dd_F_snowAfter_2 : decode bb_F_snowAfter 2 = .ok (.invokevirtual 62, 3) := by decide +kernel
theorem dd_F_snowAfter_5 : decode bb_F_snowAfter 5 = .ok (.aload_n 0, 1) := by decide +kernel
theorem dd_F_snowAfter_6 : decode bb_F_snowAfter 6 = .ok (.getfield 27, 3) := by decide +kernel
theorem dd_F_snowAfter_9 : decode bb_F_snowAfter 9 = .ok (.getfield 66, 3) := by decide +kernel
theorem dd_F_snowAfter_12 : decode bb_F_snowAfter 12 = .ok (.getfield 67, 3) := by decide +kernel
theorem dd_F_snowAfter_15 : decode bb_F_snowAfter 15 = .ok (.iload_n 1, 1) := by decide +kernel
theorem dd_F_snowAfter_16 : decode bb_F_snowAfter 16 = .ok (.iaload, 1) := by decide +kernel
theorem dd_F_snowAfter_17 : decode bb_F_snowAfter 17 = .ok (.ireturn, 1) := by decide +kernel
def mm_F_snowAfter (N : Nat) (this : Option Nat) (a1 : Int32) (a2 : Int32) (h : ss_Hp) : Option (Int32 × ss_Hp) :=
  if ss_is h this 9 = true then
    (mm_F_go N this a2 h).bind fun h1 =>
    (ss_gr h1 this 9 2).bind fun r2 =>
    (ss_gr h1 r2 7 0).bind fun r3 =>
    (ss_gr h1 r3 0 0).bind fun r4 =>
    (ss_ai h1 r4 20 a1).bind fun v5 =>
    some (v5, h1)
  else none
abbrev ww_F_snowAfter (p : Program) (l : Launch) (e : Env) (s : State) (m : MethodId) (below : List Frame) (meth : Method) (c : Code) (G : ss_G) (this : Option Nat) (a1 : Int32) (a2 : Int32) (h : ss_Hp) (rr : Int32) (hh : ss_Hp) (H : Heap) (locs : List Loc) (k n : Nat) (g : JFrame) : Prop := W p l e (headSpec (ss_w yy_F_snowAfter bb_F_snowAfter 3 (some (.int))) ({ frames := 6, cells := 0, slots := 0, locals := 170 })).room s m ([ss_v (ss_b G) this, .int a1, .int a2] : List Value).toArray below meth c H locs k n (MQ below (ss_Qc G (some (.int rr)) hh) ([ss_v (ss_b G) this, .int a1, .int a2] : List Value).toArray s 0 0 (ss_A G)) g
theorem ck_F_snowAfter {N : Nat} {this : Option Nat} {a1 : Int32} {a2 : Int32} {h : ss_Hp} {res : Int32 × ss_Hp} (hm : mm_F_snowAfter N this a1 a2 h = some res) : ss_is h this 9 = true := (ss_chk hm).1
set_option maxHeartbeats 4000000 in
set_option maxRecDepth 100000 in
theorem cc_F_snowAfter (l : Launch) (G : ss_G) (N : Nat) (this : Option Nat) (a1 : Int32) (a2 : Int32) (h : ss_Hp) (rr : Int32) (hh : ss_Hp) (hm : mm_F_snowAfter N this a1 a2 h = some (rr, hh)) : ss_Ct l G yy_F_snowAfter bb_F_snowAfter 3 (some (.int)) ({ frames := 6, cells := 0, slots := 0, locals := 170 }) [ss_v (ss_b G) this, .int a1, .int a2] h (some (.int rr)) hh := by
  obtain ⟨hck, hm⟩ := ss_chk hm
  refine Met.ofW (cc := bb_F_snowAfter) (maxL := 3) (ret := (some (.int))) (by decide) rfl ?_
  intro p e s m args below meth c s₁ B hml hv
  obtain ⟨rfl, hR, hK⟩ := hv
  have hC : CallFix p m c bb_F_snowAfter 3 s _ lw_g sR_9 := ⟨B.exec, B.bytes, hml, findClass_of_methodNamed B.named, fun w hw => atoms_spec (ws := ss_w yy_F_snowAfter bb_F_snowAfter 3 (some (.int))) B.pre w (List.mem_cons_of_mem _ hw)⟩
  have hx := hC.1
  have hb := hC.2.1
  have hr := B.returns
  have hlocks := B.notSynchronized
  have hS : va_S (ss_A G) s.heap s.heap [] := va_S.rf
  have hl := lv_entry ([ss_v (ss_b G) this, .int a1, .int a2]) (n := 3) (by simp [lg_sl, ss_v_cat, ss_cat_i, ss_cat_l, ss_cat_r])
  rw [lg_entry_eq]
  generalize (lg_sl ([ss_v (ss_b G) this, .int a1, .int a2]) ++ List.replicate (3 - (lg_sl ([ss_v (ss_b G) this, .int a1, .int a2])).length) Slot.unset).toArray = ls at hl ⊢
  have hl : lv_has ls 3 [(0, ss_v (ss_b G) this), (1, .int a1), (2, .int a2)] := by simpa [lv_args, ss_v_cat, ss_cat_i, ss_cat_l, ss_cat_r] using hl
  refine ss_aload_n hx hb dd_F_snowAfter_0 rfl (lv_at hl 0 rfl) ?_
  refine lv_iload_n hx hb dd_F_snowAfter_1 rfl (lv_at hl 2 rfl) ?_
  obtain ⟨h1, qh1, hm⟩ := ss_bind hm
  refine ss_cVv 0 0 (As := [.int a2]) hC hK hR hS hl.1 (cc_F_go l G N _ _ _ _ qh1) km_F_62 (ck_F_go qh1) ⟨Nat.le_of_ble_eq_true rfl, Nat.le_of_ble_eq_true rfl⟩ ⟨Nat.le_of_ble_eq_true rfl, Nat.le_of_ble_eq_true rfl, Nat.le_of_ble_eq_true rfl, Nat.le_of_ble_eq_true rfl⟩ rfl rfl (Nat.le_of_ble_eq_true rfl) dd_F_snowAfter_2 (fun H locs hR hS => ?_)
  refine ss_aload_n hx hb dd_F_snowAfter_5 rfl (lv_at hl 0 rfl) ?_
  obtain ⟨r2, qr2, hm⟩ := ss_bind hm
  refine ss_getr hC hK hR kf_F_27 rfl qr2 dd_F_snowAfter_6 ?_
  obtain ⟨r3, qr3, hm⟩ := ss_bind hm
  refine ss_getr hC hK hR kf_F_66 rfl qr3 dd_F_snowAfter_9 ?_
  obtain ⟨r4, qr4, hm⟩ := ss_bind hm
  refine ss_getr hC hK hR kf_F_67 rfl qr4 dd_F_snowAfter_12 ?_
  refine lv_iload_n hx hb dd_F_snowAfter_15 rfl (lv_at hl 1 rfl) ?_
  obtain ⟨v5, qv5, hm⟩ := ss_bind hm
  refine ss_iald hC hK hR qv5 dd_F_snowAfter_16 ?_
  exact ss_iret hC hr hlocks hR hS hm dd_F_snowAfter_17
theorem dd_S_ahead_0 : decode bb_S_ahead 0 = .ok (.aload_n 0, 1) := by decide +kernel
theorem dd_S_ahead_1 : decode bb_S_ahead 1 = .ok (.getfield 46, 3) := by decide +kernel
theorem dd_S_ahead_4 : decode bb_S_ahead 4 = .ok (.getfield 63, 3) := by decide +kernel
theorem dd_S_ahead_7 : decode bb_S_ahead 7 = .ok (.getfield 170, 3) := by decide +kernel
theorem dd_S_ahead_10 : decode bb_S_ahead 10 = .ok (.ifCond .eq 13, 3) := by decide +kernel
theorem dd_S_ahead_13 : decode bb_S_ahead 13 = .ok (.iload_n 2, 1) := by decide +kernel
theorem dd_S_ahead_14 : decode bb_S_ahead 14 = .ok (.iconst 0, 1) := by decide +kernel
theorem dd_S_ahead_15 : decode bb_S_ahead 15 = .ok (.bipush 100, 2) := by decide +kernel
theorem dd_S_ahead_17 : decode bb_S_ahead 17 = .ok (.invokestatic 195, 3) := by decide +kernel
theorem dd_S_ahead_20 : decode bb_S_ahead 20 = .ok (.ifCond .ne 5, 3) := by decide +kernel
theorem dd_S_ahead_23 : decode bb_S_ahead 23 = .ok (.iconst (-1), 1) := by decide +kernel
theorem dd_S_ahead_24 : decode bb_S_ahead 24 = .ok (.ireturn, 1) := by decide +kernel
theorem dd_S_ahead_25 : decode bb_S_ahead 25 = .ok (.iload_n 3, 1) := by decide +kernel
theorem dd_S_ahead_26 : decode bb_S_ahead 26 = .ok (.iconst 1, 1) := by decide +kernel
theorem dd_S_ahead_27 : decode bb_S_ahead 27 = .ok (.if_icmp .ne 12, 3) := by decide +kernel
theorem dd_S_ahead_30 : decode bb_S_ahead 30 = .ok (.aload_n 0, 1) := by decide +kernel
theorem dd_S_ahead_31 : decode bb_S_ahead 31 = .ok (.getfield 77, 3) := by decide +kernel
theorem dd_S_ahead_34 : decode bb_S_ahead 34 = .ok (.iload_n 2, 1) := by decide +kernel
theorem dd_S_ahead_35 : decode bb_S_ahead 35 = .ok (.invokevirtual 213, 3) := by decide +kernel
theorem dd_S_ahead_38 : decode bb_S_ahead 38 = .ok (.ireturn, 1) := by decide +kernel
theorem dd_S_ahead_39 : decode bb_S_ahead 39 = .ok (.iload_n 3, 1) := by decide +kernel
theorem dd_S_ahead_40 : decode bb_S_ahead 40 = .ok (.ifCond .ne 23, 3) := by decide +kernel
theorem dd_S_ahead_43 : decode bb_S_ahead 43 = .ok (.aload_n 0, 1) := by decide +kernel
theorem dd_S_ahead_44 : decode bb_S_ahead 44 = .ok (.iload_n 1, 1) := by decide +kernel
theorem dd_S_ahead_45 : decode bb_S_ahead 45 = .ok (.invokevirtual 124, 3) := by decide +kernel
theorem dd_S_ahead_48 : decode bb_S_ahead 48 = .ok (.ifCond .eq 15, 3) := by decide +kernel
theorem dd_S_ahead_51 : decode bb_S_ahead 51 = .ok (.aload_n 0, 1) := by decide +kernel
theorem dd_S_ahead_52 : decode bb_S_ahead 52 = .ok (.getfield 77, 3) := by decide +kernel
theorem dd_S_ahead_55 : decode bb_S_ahead 55 = .ok (.iload_n 1, 1) := by decide +kernel
theorem dd_S_ahead_56 : decode bb_S_ahead 56 = .ok (.iload_n 2, 1) := by decide +kernel
theorem dd_S_ahead_57 : decode bb_S_ahead 57 = .ok (.invokevirtual 216, 3) := by decide +kernel
theorem dd_S_ahead_60 : decode bb_S_ahead 60 = .ok (.goto 4, 3) := by decide +kernel
theorem dd_S_ahead_63 : decode bb_S_ahead 63 = .ok (.iconst (-1), 1) := by decide +kernel
theorem dd_S_ahead_64 : decode bb_S_ahead 64 = .ok (.ireturn, 1) := by decide +kernel
def mm_S_ahead_j23 (N : Nat) (this : Option Nat) (a1 : Int32) (a2 : Int32) (a3 : Int32) (h_23 : ss_Hp) : Option (Int32 × ss_Hp) :=
  some ((-1 : Int32), h_23)
def mm_S_ahead_j64 (N : Nat) (this : Option Nat) (a1 : Int32) (a2 : Int32) (a3 : Int32) (s0_64 : Int32) (h_64 : ss_Hp) : Option (Int32 × ss_Hp) :=
  some (s0_64, h_64)
def mm_S_ahead_j63 (N : Nat) (this : Option Nat) (a1 : Int32) (a2 : Int32) (a3 : Int32) (h_63 : ss_Hp) : Option (Int32 × ss_Hp) :=
  mm_S_ahead_j64 N this a1 a2 a3 (-1 : Int32) h_63
def mm_S_ahead (N : Nat) (this : Option Nat) (a1 : Int32) (a2 : Int32) (a3 : Int32) (h : ss_Hp) : Option (Int32 × ss_Hp) :=
  if ss_is h this 11 = true then
    (ss_gr h this 11 4).bind fun r1 =>
    (ss_gr h r1 8 0).bind fun r2 =>
    (ss_gi h r2 5 0).bind fun v3 =>
    if v3 = 0 then
      mm_S_ahead_j23 N this a1 a2 a3 h
    else
      (mm_S_isWithin N a2 (0 : Int32) (100 : Int32)).bind fun v5 =>
      if v5 = 0 then
        mm_S_ahead_j23 N this a1 a2 a3 h
      else
        if a3 = (1 : Int32) then
          (ss_gr h this 11 8).bind fun r14 =>
          ss_b2 (mm_F_closedAfter N r14 a2 h) fun v15 h16 =>
          some (v15, h16)
        else
          if a3 = 0 then
            (mm_S_isStep N this a1 h).bind fun v9 =>
            if v9 = 0 then
              mm_S_ahead_j63 N this a1 a2 a3 h
            else
              (ss_gr h this 11 8).bind fun r11 =>
              ss_b2 (mm_F_snowAfter N r11 a1 a2 h) fun v12 h13 =>
              mm_S_ahead_j64 N this a1 a2 a3 v12 h13
          else
            mm_S_ahead_j63 N this a1 a2 a3 h
  else none
abbrev ww_S_ahead (p : Program) (l : Launch) (e : Env) (s : State) (m : MethodId) (below : List Frame) (meth : Method) (c : Code) (G : ss_G) (this : Option Nat) (a1 : Int32) (a2 : Int32) (a3 : Int32) (h : ss_Hp) (rr : Int32) (hh : ss_Hp) (H : Heap) (locs : List Loc) (k n : Nat) (g : JFrame) : Prop := W p l e (headSpec (ss_w yy_S_ahead bb_S_ahead 4 (some (.int))) ({ frames := 7, cells := 0, slots := 0, locals := 192 })).room s m ([ss_v (ss_b G) this, .int a1, .int a2, .int a3] : List Value).toArray below meth c H locs k n (MQ below (ss_Qc G (some (.int rr)) hh) ([ss_v (ss_b G) this, .int a1, .int a2, .int a3] : List Value).toArray s 0 0 (ss_A G)) g
theorem ck_S_ahead {N : Nat} {this : Option Nat} {a1 : Int32} {a2 : Int32} {a3 : Int32} {h : ss_Hp} {res : Int32 × ss_Hp} (hm : mm_S_ahead N this a1 a2 a3 h = some res) : ss_is h this 11 = true := (ss_chk hm).1
set_option maxHeartbeats 4000000 in
set_option maxRecDepth 100000 in
theorem cc_S_ahead (l : Launch) (G : ss_G) (N : Nat) (this : Option Nat) (a1 : Int32) (a2 : Int32) (a3 : Int32) (h : ss_Hp) (rr : Int32) (hh : ss_Hp) (hm : mm_S_ahead N this a1 a2 a3 h = some (rr, hh)) : ss_Ct l G yy_S_ahead bb_S_ahead 4 (some (.int)) ({ frames := 7, cells := 0, slots := 0, locals := 192 }) [ss_v (ss_b G) this, .int a1, .int a2, .int a3] h (some (.int rr)) hh := by
  obtain ⟨hck, hm⟩ := ss_chk hm
  refine Met.ofW (cc := bb_S_ahead) (maxL := 4) (ret := (some (.int))) (by decide) rfl ?_
  intro p e s m args below meth c s₁ B hml hv
  obtain ⟨rfl, hR, hK⟩ := hv
  have hC : CallFix p m c bb_S_ahead 4 s _ lw_g sR_11 := ⟨B.exec, B.bytes, hml, findClass_of_methodNamed B.named, fun w hw => atoms_spec (ws := ss_w yy_S_ahead bb_S_ahead 4 (some (.int))) B.pre w (List.mem_cons_of_mem _ hw)⟩
  have hx := hC.1
  have hb := hC.2.1
  have hr := B.returns
  have hlocks := B.notSynchronized
  have hS : va_S (ss_A G) s.heap s.heap [] := va_S.rf
  have hl := lv_entry ([ss_v (ss_b G) this, .int a1, .int a2, .int a3]) (n := 4) (by simp [lg_sl, ss_v_cat, ss_cat_i, ss_cat_l, ss_cat_r])
  rw [lg_entry_eq]
  generalize (lg_sl ([ss_v (ss_b G) this, .int a1, .int a2, .int a3]) ++ List.replicate (4 - (lg_sl ([ss_v (ss_b G) this, .int a1, .int a2, .int a3])).length) Slot.unset).toArray = ls at hl ⊢
  have hl : lv_has ls 4 [(0, ss_v (ss_b G) this), (1, .int a1), (2, .int a2), (3, .int a3)] := by simpa [lv_args, ss_v_cat, ss_cat_i, ss_cat_l, ss_cat_r] using hl
  have J_23 : ∀ (h_23 : ss_Hp) (H : Heap) (locs : List Loc) (ls : Array Slot), mm_S_ahead_j23 N this a1 a2 a3 h_23 = some (rr, hh) → ss_R G h_23 H → va_S (ss_A G) s.heap H locs → lv_has ls 4 [] → ww_S_ahead p l e s m below meth c G this a1 a2 a3 h rr hh  H locs 0 0 (F0 m 23 ls []) := by
    intro h_23 H locs ls hm hR hS hl
    refine lv_iconst (v := -1) hx hb dd_S_ahead_23 (by decide) ?_
    exact ss_iret hC hr hlocks hR hS hm dd_S_ahead_24
  have J_64 : ∀ (s0_64 : Int32) (h_64 : ss_Hp) (H : Heap) (locs : List Loc) (ls : Array Slot), mm_S_ahead_j64 N this a1 a2 a3 s0_64 h_64 = some (rr, hh) → ss_R G h_64 H → va_S (ss_A G) s.heap H locs → lv_has ls 4 [] → ww_S_ahead p l e s m below meth c G this a1 a2 a3 h rr hh  H locs 0 0 (F0 m 64 ls [.int s0_64]) := by
    intro s0_64 h_64 H locs ls hm hR hS hl
    exact ss_iret hC hr hlocks hR hS hm dd_S_ahead_64
  have J_63 : ∀ (h_63 : ss_Hp) (H : Heap) (locs : List Loc) (ls : Array Slot), mm_S_ahead_j63 N this a1 a2 a3 h_63 = some (rr, hh) → ss_R G h_63 H → va_S (ss_A G) s.heap H locs → lv_has ls 4 [] → ww_S_ahead p l e s m below meth c G this a1 a2 a3 h rr hh  H locs 0 0 (F0 m 63 ls []) := by
    intro h_63 H locs ls hm hR hS hl
    refine lv_iconst (v := -1) hx hb dd_S_ahead_63 (by decide) ?_
    exact J_64 (-1 : Int32) h_63 _ _ _ hm hR hS hl
  refine ss_aload_n hx hb dd_S_ahead_0 rfl (lv_at hl 0 rfl) ?_
  obtain ⟨r1, qr1, hm⟩ := ss_bind hm
  refine ss_getr hC hK hR kf_S_46 rfl qr1 dd_S_ahead_1 ?_
  obtain ⟨r2, qr2, hm⟩ := ss_bind hm
  refine ss_getr hC hK hR kf_S_63 rfl qr2 dd_S_ahead_4 ?_
  obtain ⟨v3, qv3, hm⟩ := ss_bind hm
  refine ss_geti hC hK hR kf_S_170 qv3 dd_S_ahead_7 ?_
  refine lv_if_eq (tgt := 23) hx hb dd_S_ahead_10 (by decide) (fun c4 => ?_) (fun c4 => ?_)
  · have hm := ss_ift hm c4
    exact J_23 h _ _ _ hm hR hS (lv_sub hl [] rfl)
  · have hm := ss_iff hm c4
    refine lv_iload_n hx hb dd_S_ahead_13 rfl (lv_at hl 2 rfl) ?_
    refine lv_iconst (v := 0) hx hb dd_S_ahead_14 (by decide) ?_
    refine lv_bipush (v := 100) hx hb dd_S_ahead_15 (by decide) ?_
    obtain ⟨v5, qv5, hm⟩ := ss_bind hm
    refine ss_cS 0 0 (As := [.int a2, .int (0 : Int32), .int (100 : Int32)]) hC hK hR hS hl.1 (cc_S_isWithin l G N _ _ _ _ _ qv5) km_S_195 ⟨Nat.le_of_ble_eq_true rfl, Nat.le_of_ble_eq_true rfl⟩ ⟨Nat.le_of_ble_eq_true rfl, Nat.le_of_ble_eq_true rfl, Nat.le_of_ble_eq_true rfl, Nat.le_of_ble_eq_true rfl⟩ rfl rfl (Nat.le_of_ble_eq_true rfl) dd_S_ahead_17 (fun H locs hR hS => ?_)
    refine lv_if_ne (tgt := 25) hx hb dd_S_ahead_20 (by decide) (fun c6 => ?_) (fun c6 => ?_)
    · have hm := ss_iff hm c6
      refine lv_iload_n hx hb dd_S_ahead_25 rfl (lv_at hl 3 rfl) ?_
      refine lv_iconst (v := 1) hx hb dd_S_ahead_26 (by decide) ?_
      refine lv_icmp_ne (tgt := 39) hx hb dd_S_ahead_27 (by decide) (fun c7 => ?_) (fun c7 => ?_)
      · have hm := ss_iff hm c7
        refine lv_iload_n hx hb dd_S_ahead_39 rfl (lv_at hl 3 rfl) ?_
        refine lv_if_ne (tgt := 63) hx hb dd_S_ahead_40 (by decide) (fun c8 => ?_) (fun c8 => ?_)
        · have hm := ss_iff hm c8
          exact J_63 h _ _ _ hm hR hS (lv_sub hl [] rfl)
        · have hm := ss_ift hm c8
          refine ss_aload_n hx hb dd_S_ahead_43 rfl (lv_at hl 0 rfl) ?_
          refine lv_iload_n hx hb dd_S_ahead_44 rfl (lv_at hl 1 rfl) ?_
          obtain ⟨v9, qv9, hm⟩ := ss_bind hm
          refine ss_cV 0 0 (As := [.int a1]) hC hK hR hS hl.1 (cc_S_isStep l G N _ _ _ _ qv9) km_S_124 (ck_S_isStep qv9) ⟨Nat.le_of_ble_eq_true rfl, Nat.le_of_ble_eq_true rfl⟩ ⟨Nat.le_of_ble_eq_true rfl, Nat.le_of_ble_eq_true rfl, Nat.le_of_ble_eq_true rfl, Nat.le_of_ble_eq_true rfl⟩ rfl rfl (Nat.le_of_ble_eq_true rfl) dd_S_ahead_45 (fun H locs hR hS => ?_)
          refine lv_if_eq (tgt := 63) hx hb dd_S_ahead_48 (by decide) (fun c10 => ?_) (fun c10 => ?_)
          · have hm := ss_ift hm c10
            exact J_63 h _ _ _ hm hR hS (lv_sub hl [] rfl)
          · have hm := ss_iff hm c10
            refine ss_aload_n hx hb dd_S_ahead_51 rfl (lv_at hl 0 rfl) ?_
            obtain ⟨r11, qr11, hm⟩ := ss_bind hm
            refine ss_getr hC hK hR kf_S_77 rfl qr11 dd_S_ahead_52 ?_
            refine lv_iload_n hx hb dd_S_ahead_55 rfl (lv_at hl 1 rfl) ?_
            refine lv_iload_n hx hb dd_S_ahead_56 rfl (lv_at hl 2 rfl) ?_
            obtain ⟨v12, h13, qh13, hm⟩ := ss_bind2 hm
            refine ss_cV 0 0 (As := [.int a1, .int a2]) hC hK hR hS hl.1 (cc_F_snowAfter l G N _ _ _ _ _ _ qh13) km_S_216 (ck_F_snowAfter qh13) ⟨Nat.le_of_ble_eq_true rfl, Nat.le_of_ble_eq_true rfl⟩ ⟨Nat.le_of_ble_eq_true rfl, Nat.le_of_ble_eq_true rfl, Nat.le_of_ble_eq_true rfl, Nat.le_of_ble_eq_true rfl⟩ rfl rfl (Nat.le_of_ble_eq_true rfl) dd_S_ahead_57 (fun H locs hR hS => ?_)
            refine lv_goto (tgt := 64) hx hb dd_S_ahead_60 (by decide) ?_
            exact J_64 v12 h13 _ _ _ hm hR hS (lv_sub hl [] rfl)
      · have hm := ss_ift hm c7
        refine ss_aload_n hx hb dd_S_ahead_30 rfl (lv_at hl 0 rfl) ?_
        obtain ⟨r14, qr14, hm⟩ := ss_bind hm
        refine ss_getr hC hK hR kf_S_77 rfl qr14 dd_S_ahead_31 ?_
        refine lv_iload_n hx hb dd_S_ahead_34 rfl (lv_at hl 2 rfl) ?_
        obtain ⟨v15, h16, qh16, hm⟩ := ss_bind2 hm
        refine ss_cV 0 0 (As := [.int a2]) hC hK hR hS hl.1 (cc_F_closedAfter l G N _ _ _ _ _ qh16) km_S_213 (ck_F_closedAfter qh16) ⟨Nat.le_of_ble_eq_true rfl, Nat.le_of_ble_eq_true rfl⟩ ⟨Nat.le_of_ble_eq_true rfl, Nat.le_of_ble_eq_true rfl, Nat.le_of_ble_eq_true rfl, Nat.le_of_ble_eq_true rfl⟩ rfl rfl (Nat.le_of_ble_eq_true rfl) dd_S_ahead_35 (fun H locs hR hS => ?_)
        exact ss_iret hC hr hlocks hR hS hm dd_S_ahead_38
    · have hm := ss_ift hm c6
      exact J_23 h _ _ _ hm hR hS (lv_sub hl [] rfl)
theorem dd_F_openThrough_0 : decode bb_F_openThrough 0 = .ok (.aload_n 0, 1) := by decide +kernel
theorem dd_F_openThrough_1 : decode bb_F_openThrough 1 = .ok (.invokevirtual 55, 3) := by decide +kernel
theorem dd_F_openThrough_4 : decode bb_F_openThrough 4 = .ok (.aload_n 0, 1) := by decide +kernel
theorem dd_F_openThrough_5 : decode bb_F_openThrough 5 = .ok (.getfield 27, 3) := by decide +kernel
theorem dd_F_openThrough_8 : decode bb_F_openThrough 8 = .ok (.invokevirtual 72, 3) := by decide +kernel
theorem dd_F_openThrough_11 : decode bb_F_openThrough 11 = .ok (.istore_n 2, 1) := by decide +kernel
theorem dd_F_openThrough_12 : decode bb_F_openThrough 12 = .ok (.iconst 0, 1) := by decide +kernel
theorem dd_F_openThrough_13 : decode bb_F_openThrough 13 = .ok (.istore_n 3, 1) := by decide +kernel
theorem dd_F_openThrough_14 : decode bb_F_openThrough 14 = .ok (.iload_n 3, 1) := by decide +kernel
theorem dd_F_openThrough_15 : decode bb_F_openThrough 15 = .ok (.iload_n 1, 1) := by decide +kernel
theorem dd_F_openThrough_16 : decode bb_F_openThrough 16 = .ok (.if_icmp .ge 27, 3) := by decide +kernel
theorem dd_F_openThrough_19 : decode bb_F_openThrough 19 = .ok (.aload_n 0, 1) := by decide +kernel
theorem dd_F_openThrough_20 : decode bb_F_openThrough 20 = .ok (.getfield 27, 3) := by decide +kernel
theorem dd_F_openThrough_23 : decode bb_F_openThrough 23 = .ok (.invokevirtual 58, 3) := by decide +kernel
theorem dd_F_openThrough_26 : decode bb_F_openThrough 26 = .ok (.pop, 1) := by decide +kernel
theorem dd_F_openThrough_27 : decode bb_F_openThrough 27 = .ok (.iload_n 2, 1) := by decide +kernel
theorem dd_F_openThrough_28 : decode bb_F_openThrough 28 = .ok (.aload_n 0, 1) := by decide +kernel
theorem dd_F_openThrough_29 : decode bb_F_openThrough 29 = .ok (.getfield 27, 3) := by decide +kernel
theorem dd_F_openThrough_32 : decode bb_F_openThrough 32 = .ok (.invokevirtual 72, 3) := by decide +kernel
theorem dd_F_openThrough_35 : decode bb_F_openThrough 35 = .ok (.ior, 1) := by decide +kernel
theorem dd_F_openThrough_36 : decode bb_F_openThrough 36 = .ok (.istore_n 2, 1) := by decide +kernel
theorem dd_F_openThrough_37 : decode bb_F_openThrough 37 = .ok (.iinc 3 1, 3) := by decide +kernel
theorem dd_F_openThrough_40 : decode bb_F_openThrough 40 = .ok (.goto (-26), 3) := by decide +kernel
theorem dd_F_openThrough_43 : decode bb_F_openThrough 43 = .ok (.iconst 1, 1) := by decide +kernel
theorem dd_F_openThrough_44 : decode bb_F_openThrough 44 = .ok (.aload_n 0, 1) := by decide +kernel
theorem dd_F_openThrough_45 : decode bb_F_openThrough 45 = .ok (.getfield 19, 3) := by decide +kernel
theorem dd_F_openThrough_48 : decode bb_F_openThrough 48 = .ok (.getfield 31, 3) := by decide +kernel
theorem dd_F_openThrough_51 : decode bb_F_openThrough 51 = .ok (.getfield 81, 3) := by decide +kernel
theorem dd_F_openThrough_54 : decode bb_F_openThrough 54 = .ok (.ishl, 1) := by decide +kernel
theorem dd_F_openThrough_55 : decode bb_F_openThrough 55 = .ok (.iconst 1, 1) := by decide +kernel
theorem dd_F_openThrough_56 : decode bb_F_openThrough 56 = .ok (.isub, 1) := by decide +kernel
theorem dd_F_openThrough_57 : decode bb_F_openThrough 57 = .ok (.iload_n 2, 1) := by decide +kernel
theorem dd_F_openThrough_58 : decode bb_F_openThrough 58 = .ok (.iconst (-1), 1) := by decide +kernel
theorem dd_F_openThrough_59 : decode bb_F_openThrough 59 = .ok (.ixor, 1) := by decide +kernel
theorem dd_F_openThrough_60 : decode bb_F_openThrough 60 = .ok (.iand, 1) := by decide +kernel
theorem dd_F_openThrough_61 : decode bb_F_openThrough 61 = .ok (.ireturn, 1) := by decide +kernel
def mm_F_openThrough_b14 (N : Nat) (this : Option Nat) (a1 : Int32) (st : Int32 × Int32 × ss_Hp) : Option ((Int32 × Int32 × ss_Hp) ⊕ (Int32 × ss_Hp)) :=
  match st with
  | (x2_14, x3_14, h_14) =>
    if a1 ≤ x3_14 then
      some (.inr (x2_14, h_14))
    else
      (ss_gr h_14 this 9 2).bind fun r8 =>
      ss_b2 (mm_Wi_passDay N r8 h_14) fun v9 h10 =>
      (ss_gr h10 this 9 2).bind fun r11 =>
      (mm_Wi_closedBits N r11 h10).bind fun v12 =>
      (some (x2_14 ||| v12)).bind fun v13 =>
      (some (x3_14 + (1 : Int32))).bind fun v14 =>
      some (.inl (v13, v14, h10))
def mm_F_openThrough (N : Nat) (this : Option Nat) (a1 : Int32) (h : ss_Hp) : Option (Int32 × ss_Hp) :=
  if ss_is h this 9 = true then
    (mm_F_start N this h).bind fun h1 =>
    (ss_gr h1 this 9 2).bind fun r2 =>
    (mm_Wi_closedBits N r2 h1).bind fun v3 =>
    (ss_lp (mm_F_openThrough_b14 N this a1) N (v3, (0 : Int32), h1)).bind fun e_14 =>
    match e_14 with
    | (y2_14_43, h_14_43) =>
      (ss_gr h_14_43 this 9 0).bind fun r4 =>
      (ss_gr h_14_43 r4 8 0).bind fun r5 =>
      (ss_gi h_14_43 r5 5 3).bind fun v6 =>
      some (((((1 : Int32) <<< (v6 &&& 31)) - (1 : Int32)) &&& (y2_14_43 ^^^ (-1 : Int32))), h_14_43)
  else none
abbrev ww_F_openThrough (p : Program) (l : Launch) (e : Env) (s : State) (m : MethodId) (below : List Frame) (meth : Method) (c : Code) (G : ss_G) (this : Option Nat) (a1 : Int32) (h : ss_Hp) (rr : Int32) (hh : ss_Hp) (H : Heap) (locs : List Loc) (k n : Nat) (g : JFrame) : Prop := W p l e (headSpec (ss_w yy_F_openThrough bb_F_openThrough 4 (some (.int))) ({ frames := 5, cells := 0, slots := 0, locals := 148 })).room s m ([ss_v (ss_b G) this, .int a1] : List Value).toArray below meth c H locs k n (MQ below (ss_Qc G (some (.int rr)) hh) ([ss_v (ss_b G) this, .int a1] : List Value).toArray s 0 0 (ss_A G)) g
theorem ck_F_openThrough {N : Nat} {this : Option Nat} {a1 : Int32} {h : ss_Hp} {res : Int32 × ss_Hp} (hm : mm_F_openThrough N this a1 h = some res) : ss_is h this 9 = true := (ss_chk hm).1
set_option maxHeartbeats 4000000 in
set_option maxRecDepth 100000 in
theorem cc_F_openThrough (l : Launch) (G : ss_G) (N : Nat) (this : Option Nat) (a1 : Int32) (h : ss_Hp) (rr : Int32) (hh : ss_Hp) (hm : mm_F_openThrough N this a1 h = some (rr, hh)) : ss_Ct l G yy_F_openThrough bb_F_openThrough 4 (some (.int)) ({ frames := 5, cells := 0, slots := 0, locals := 148 }) [ss_v (ss_b G) this, .int a1] h (some (.int rr)) hh := by
  obtain ⟨hck, hm⟩ := ss_chk hm
  refine Met.ofW (cc := bb_F_openThrough) (maxL := 4) (ret := (some (.int))) (by decide) rfl ?_
  intro p e s m args below meth c s₁ B hml hv
  obtain ⟨rfl, hR, hK⟩ := hv
  have hC : CallFix p m c bb_F_openThrough 4 s _ lw_g sR_9 := ⟨B.exec, B.bytes, hml, findClass_of_methodNamed B.named, fun w hw => atoms_spec (ws := ss_w yy_F_openThrough bb_F_openThrough 4 (some (.int))) B.pre w (List.mem_cons_of_mem _ hw)⟩
  have hx := hC.1
  have hb := hC.2.1
  have hr := B.returns
  have hlocks := B.notSynchronized
  have hS : va_S (ss_A G) s.heap s.heap [] := va_S.rf
  have hl := lv_entry ([ss_v (ss_b G) this, .int a1]) (n := 4) (by simp [lg_sl, ss_v_cat, ss_cat_i, ss_cat_l, ss_cat_r])
  rw [lg_entry_eq]
  generalize (lg_sl ([ss_v (ss_b G) this, .int a1]) ++ List.replicate (4 - (lg_sl ([ss_v (ss_b G) this, .int a1])).length) Slot.unset).toArray = ls at hl ⊢
  have hl : lv_has ls 4 [(0, ss_v (ss_b G) this), (1, .int a1)] := by simpa [lv_args, ss_v_cat, ss_cat_i, ss_cat_l, ss_cat_r] using hl
  refine ss_aload_n hx hb dd_F_openThrough_0 rfl (lv_at hl 0 rfl) ?_
  obtain ⟨h1, qh1, hm⟩ := ss_bind hm
  refine ss_cVv 0 0 (As := []) hC hK hR hS hl.1 (cc_F_start l G N _ _ _ qh1) km_F_55 (ck_F_start qh1) ⟨Nat.le_of_ble_eq_true rfl, Nat.le_of_ble_eq_true rfl⟩ ⟨Nat.le_of_ble_eq_true rfl, Nat.le_of_ble_eq_true rfl, Nat.le_of_ble_eq_true rfl, Nat.le_of_ble_eq_true rfl⟩ rfl rfl (Nat.le_of_ble_eq_true rfl) dd_F_openThrough_1 (fun H locs hR hS => ?_)
  refine ss_aload_n hx hb dd_F_openThrough_4 rfl (lv_at hl 0 rfl) ?_
  obtain ⟨r2, qr2, hm⟩ := ss_bind hm
  refine ss_getr hC hK hR kf_F_27 rfl qr2 dd_F_openThrough_5 ?_
  obtain ⟨v3, qv3, hm⟩ := ss_bind hm
  refine ss_cV 0 0 (As := []) hC hK hR hS hl.1 (cc_Wi_closedBits l G N _ _ _ qv3) km_F_72 (ck_Wi_closedBits qv3) ⟨Nat.le_of_ble_eq_true rfl, Nat.le_of_ble_eq_true rfl⟩ ⟨Nat.le_of_ble_eq_true rfl, Nat.le_of_ble_eq_true rfl, Nat.le_of_ble_eq_true rfl, Nat.le_of_ble_eq_true rfl⟩ rfl rfl (Nat.le_of_ble_eq_true rfl) dd_F_openThrough_8 (fun H locs hR hS => ?_)
  refine lv_istore_n (lv' := [(2, .int v3), (0, ss_v (ss_b G) this), (1, .int a1)]) hx hb dd_F_openThrough_11 rfl hl (by decide) rfl (fun ls hl => ?_)
  refine lv_iconst (v := 0) hx hb dd_F_openThrough_12 (by decide) ?_
  refine lv_istore_n (lv' := [(3, .int (0 : Int32)), (2, .int v3), (0, ss_v (ss_b G) this), (1, .int a1)]) hx hb dd_F_openThrough_13 rfl hl (by decide) rfl (fun ls hl => ?_)
  obtain ⟨e_14, he_14, hm⟩ := ss_bind hm
  have X_14_43 : ∀ (y2_14_43 : Int32) (h_14_43 : ss_Hp) (H : Heap) (locs : List Loc) (ls : Array Slot), e_14 = (y2_14_43, h_14_43) → ss_R G h_14_43 H → va_S (ss_A G) s.heap H locs → lv_has ls 4 [(0, ss_v (ss_b G) this), (2, .int y2_14_43)] → ww_F_openThrough p l e s m below meth c G this a1 h rr hh  H locs 0 0 (F0 m 43 ls []) := by
    intro y2_14_43 h_14_43 H locs ls hq hR hS hl
    rw [hq] at hm
    refine lv_iconst (v := 1) hx hb dd_F_openThrough_43 (by decide) ?_
    refine ss_aload_n hx hb dd_F_openThrough_44 rfl (lv_at hl 0 rfl) ?_
    obtain ⟨r4, qr4, hm⟩ := ss_bind hm
    refine ss_getr hC hK hR kf_F_19 rfl qr4 dd_F_openThrough_45 ?_
    obtain ⟨r5, qr5, hm⟩ := ss_bind hm
    refine ss_getr hC hK hR kf_F_31 rfl qr5 dd_F_openThrough_48 ?_
    obtain ⟨v6, qv6, hm⟩ := ss_bind hm
    refine ss_geti hC hK hR kf_F_81 qv6 dd_F_openThrough_51 ?_
    refine lv_ishl hx hb dd_F_openThrough_54 ?_
    refine lv_iconst (v := 1) hx hb dd_F_openThrough_55 (by decide) ?_
    refine lv_isub hx hb dd_F_openThrough_56 ?_
    refine lv_iload_n hx hb dd_F_openThrough_57 rfl (lv_at hl 1 rfl) ?_
    refine lv_iconst (v := -1) hx hb dd_F_openThrough_58 (by decide) ?_
    refine lv_ixor hx hb dd_F_openThrough_59 ?_
    refine lv_iand hx hb dd_F_openThrough_60 ?_
    exact ss_iret hC hr hlocks hR hS hm dd_F_openThrough_61
  have L_14 : ∀ (n : Nat) (x2_14 : Int32) (x3_14 : Int32) (h_14 : ss_Hp) (H : Heap) (locs : List Loc) (ls : Array Slot), ss_lp (mm_F_openThrough_b14 N this a1) n (x2_14, x3_14, h_14) = some e_14 → ss_R G h_14 H → va_S (ss_A G) s.heap H locs → lv_has ls 4 [(0, ss_v (ss_b G) this), (1, .int a1), (2, .int x2_14), (3, .int x3_14)] → ww_F_openThrough p l e s m below meth c G this a1 h rr hh  H locs 0 0 (F0 m 14 ls []) := by
    intro n
    induction n with
    | zero => intro x2_14 x3_14 h_14 H locs ls hm; cases hm
    | succ n ih_14 =>
      intro x2_14 x3_14 h_14 H locs ls hm hR hS hl
      obtain ⟨z_14, hm, hz1_14, hz2_14⟩ := ss_lps hm
      refine lv_iload_n hx hb dd_F_openThrough_14 rfl (lv_at hl 3 rfl) ?_
      refine lv_iload_n hx hb dd_F_openThrough_15 rfl (lv_at hl 1 rfl) ?_
      refine lv_icmp_ge (tgt := 43) hx hb dd_F_openThrough_16 (by decide) (fun c7 => ?_) (fun c7 => ?_)
      · have hm := ss_ift hm c7
        exact X_14_43 x2_14 h_14 _ _ _ (hz2_14 _ (ss_some hm)) hR hS (lv_sub hl [0, 2] rfl)
      · have hm := ss_iff hm c7
        refine ss_aload_n hx hb dd_F_openThrough_19 rfl (lv_at hl 0 rfl) ?_
        obtain ⟨r8, qr8, hm⟩ := ss_bind hm
        refine ss_getr hC hK hR kf_F_27 rfl qr8 dd_F_openThrough_20 ?_
        obtain ⟨v9, h10, qh10, hm⟩ := ss_bind2 hm
        refine ss_cV 0 0 (As := []) hC hK hR hS hl.1 (cc_Wi_passDay l G N _ _ _ _ qh10) km_F_58 (ck_Wi_passDay qh10) ⟨Nat.le_of_ble_eq_true rfl, Nat.le_of_ble_eq_true rfl⟩ ⟨Nat.le_of_ble_eq_true rfl, Nat.le_of_ble_eq_true rfl, Nat.le_of_ble_eq_true rfl, Nat.le_of_ble_eq_true rfl⟩ rfl rfl (Nat.le_of_ble_eq_true rfl) dd_F_openThrough_23 (fun H locs hR hS => ?_)
        refine lv_pop hx hb dd_F_openThrough_26 rfl ?_
        refine lv_iload_n hx hb dd_F_openThrough_27 rfl (lv_at hl 2 rfl) ?_
        refine ss_aload_n hx hb dd_F_openThrough_28 rfl (lv_at hl 0 rfl) ?_
        obtain ⟨r11, qr11, hm⟩ := ss_bind hm
        refine ss_getr hC hK hR kf_F_27 rfl qr11 dd_F_openThrough_29 ?_
        obtain ⟨v12, qv12, hm⟩ := ss_bind hm
        refine ss_cV 0 0 (As := []) hC hK hR hS hl.1 (cc_Wi_closedBits l G N _ _ _ qv12) km_F_72 (ck_Wi_closedBits qv12) ⟨Nat.le_of_ble_eq_true rfl, Nat.le_of_ble_eq_true rfl⟩ ⟨Nat.le_of_ble_eq_true rfl, Nat.le_of_ble_eq_true rfl, Nat.le_of_ble_eq_true rfl, Nat.le_of_ble_eq_true rfl⟩ rfl rfl (Nat.le_of_ble_eq_true rfl) dd_F_openThrough_32 (fun H locs hR hS => ?_)
        refine lv_ior hx hb dd_F_openThrough_35 ?_
        obtain ⟨v13, qv13, hm⟩ := ss_bind hm
        refine ss_topi qv13 ?_
        refine lv_istore_n (lv' := [(2, .int v13), (0, ss_v (ss_b G) this), (1, .int a1), (3, .int x3_14)]) hx hb dd_F_openThrough_36 rfl hl (by decide) rfl (fun ls hl => ?_)
        obtain ⟨v14, qv14, hm⟩ := ss_bind hm
        refine lv_iinc (v := v14) (lv' := [(3, .int v14), (2, .int v13), (0, ss_v (ss_b G) this), (1, .int a1)]) hx hb dd_F_openThrough_37 hl (k := 3) rfl (ss_inc (by decide) qv14) (by decide) rfl (fun ls hl => ?_)
        refine lv_goto (tgt := 14) hx hb dd_F_openThrough_40 (by decide) ?_
        exact ih_14 v13 v14 h10 _ _ _ (hz1_14 _ (ss_some hm)) hR hS (lv_sub hl [2, 3, 1, 0] rfl)
  exact L_14 N v3 (0 : Int32) h1 _ _ _ he_14 hR hS (lv_sub hl [2, 3, 1, 0] rfl)
theorem dd_S_stays_0 : decode bb_S_stays 0 = .ok (.aload_n 0, 1) := by decide +kernel
theorem dd_S_stays_1 : decode bb_S_stays 1 = .ok (.getfield 46, 3) := by decide +kernel
theorem dd_S_stays_4 : decode bb_S_stays 4 = .ok (.getfield 63, 3) := by decide +kernel
theorem dd_S_stays_7 : decode bb_S_stays 7 = .ok (.getfield 170, 3) := by decide +kernel
theorem dd_S_stays_10 : decode bb_S_stays 10 = .ok (.ifCond .eq 24, 3) := by decide +kernel
theorem dd_S_stays_13 : decode bb_S_stays 13 = .ok (.iload_n 1, 1) := by decide +kernel
theorem dd_S_stays_14 : decode bb_S_stays 14 = .ok (.iconst 1, 1) := by decide +kernel
theorem dd_S_stays_15 : decode bb_S_stays 15 = .ok (.bipush 60, 2) := by decide +kernel
theorem dd_S_stays_17 : decode bb_S_stays 17 = .ok (.invokestatic 195, 3) := by decide +kernel
theorem dd_S_stays_20 : decode bb_S_stays 20 = .ok (.ifCond .eq 14, 3) := by decide +kernel
theorem dd_S_stays_23 : decode bb_S_stays 23 = .ok (.aload_n 0, 1) := by decide +kernel
theorem dd_S_stays_24 : decode bb_S_stays 24 = .ok (.getfield 77, 3) := by decide +kernel
theorem dd_S_stays_27 : decode bb_S_stays 27 = .ok (.iload_n 1, 1) := by decide +kernel
theorem dd_S_stays_28 : decode bb_S_stays 28 = .ok (.invokevirtual 219, 3) := by decide +kernel
theorem dd_S_stays_31 : decode bb_S_stays 31 = .ok (.goto 4, 3) := by decide +kernel
theorem dd_S_stays_34 : decode bb_S_stays 34 = .ok (.iconst (-1), 1) := by decide +kernel
theorem dd_S_stays_35 : decode bb_S_stays 35 = .ok (.ireturn, 1) := by decide +kernel
def mm_S_stays_j35 (N : Nat) (this : Option Nat) (a1 : Int32) (s0_35 : Int32) (h_35 : ss_Hp) : Option (Int32 × ss_Hp) :=
  some (s0_35, h_35)
def mm_S_stays_j34 (N : Nat) (this : Option Nat) (a1 : Int32) (h_34 : ss_Hp) : Option (Int32 × ss_Hp) :=
  mm_S_stays_j35 N this a1 (-1 : Int32) h_34
def mm_S_stays (N : Nat) (this : Option Nat) (a1 : Int32) (h : ss_Hp) : Option (Int32 × ss_Hp) :=
  if ss_is h this 11 = true then
    (ss_gr h this 11 4).bind fun r1 =>
    (ss_gr h r1 8 0).bind fun r2 =>
    (ss_gi h r2 5 0).bind fun v3 =>
    if v3 = 0 then
      mm_S_stays_j34 N this a1 h
    else
      (mm_S_isWithin N a1 (1 : Int32) (60 : Int32)).bind fun v5 =>
      if v5 = 0 then
        mm_S_stays_j34 N this a1 h
      else
        (ss_gr h this 11 8).bind fun r7 =>
        ss_b2 (mm_F_openThrough N r7 a1 h) fun v8 h9 =>
        mm_S_stays_j35 N this a1 v8 h9
  else none
abbrev ww_S_stays (p : Program) (l : Launch) (e : Env) (s : State) (m : MethodId) (below : List Frame) (meth : Method) (c : Code) (G : ss_G) (this : Option Nat) (a1 : Int32) (h : ss_Hp) (rr : Int32) (hh : ss_Hp) (H : Heap) (locs : List Loc) (k n : Nat) (g : JFrame) : Prop := W p l e (headSpec (ss_w yy_S_stays bb_S_stays 2 (some (.int))) ({ frames := 6, cells := 0, slots := 0, locals := 171 })).room s m ([ss_v (ss_b G) this, .int a1] : List Value).toArray below meth c H locs k n (MQ below (ss_Qc G (some (.int rr)) hh) ([ss_v (ss_b G) this, .int a1] : List Value).toArray s 0 0 (ss_A G)) g
theorem ck_S_stays {N : Nat} {this : Option Nat} {a1 : Int32} {h : ss_Hp} {res : Int32 × ss_Hp} (hm : mm_S_stays N this a1 h = some res) : ss_is h this 11 = true := (ss_chk hm).1
set_option maxHeartbeats 4000000 in
set_option maxRecDepth 100000 in
theorem cc_S_stays (l : Launch) (G : ss_G) (N : Nat) (this : Option Nat) (a1 : Int32) (h : ss_Hp) (rr : Int32) (hh : ss_Hp) (hm : mm_S_stays N this a1 h = some (rr, hh)) : ss_Ct l G yy_S_stays bb_S_stays 2 (some (.int)) ({ frames := 6, cells := 0, slots := 0, locals := 171 }) [ss_v (ss_b G) this, .int a1] h (some (.int rr)) hh := by
  obtain ⟨hck, hm⟩ := ss_chk hm
  refine Met.ofW (cc := bb_S_stays) (maxL := 2) (ret := (some (.int))) (by decide) rfl ?_
  intro p e s m args below meth c s₁ B hml hv
  obtain ⟨rfl, hR, hK⟩ := hv
  have hC : CallFix p m c bb_S_stays 2 s _ lw_g sR_11 := ⟨B.exec, B.bytes, hml, findClass_of_methodNamed B.named, fun w hw => atoms_spec (ws := ss_w yy_S_stays bb_S_stays 2 (some (.int))) B.pre w (List.mem_cons_of_mem _ hw)⟩
  have hx := hC.1
  have hb := hC.2.1
  have hr := B.returns
  have hlocks := B.notSynchronized
  have hS : va_S (ss_A G) s.heap s.heap [] := va_S.rf
  have hl := lv_entry ([ss_v (ss_b G) this, .int a1]) (n := 2) (by simp [lg_sl, ss_v_cat, ss_cat_i, ss_cat_l, ss_cat_r])
  rw [lg_entry_eq]
  generalize (lg_sl ([ss_v (ss_b G) this, .int a1]) ++ List.replicate (2 - (lg_sl ([ss_v (ss_b G) this, .int a1])).length) Slot.unset).toArray = ls at hl ⊢
  have hl : lv_has ls 2 [(0, ss_v (ss_b G) this), (1, .int a1)] := by simpa [lv_args, ss_v_cat, ss_cat_i, ss_cat_l, ss_cat_r] using hl
  have J_35 : ∀ (s0_35 : Int32) (h_35 : ss_Hp) (H : Heap) (locs : List Loc) (ls : Array Slot), mm_S_stays_j35 N this a1 s0_35 h_35 = some (rr, hh) → ss_R G h_35 H → va_S (ss_A G) s.heap H locs → lv_has ls 2 [] → ww_S_stays p l e s m below meth c G this a1 h rr hh  H locs 0 0 (F0 m 35 ls [.int s0_35]) := by
    intro s0_35 h_35 H locs ls hm hR hS hl
    exact ss_iret hC hr hlocks hR hS hm dd_S_stays_35
  have J_34 : ∀ (h_34 : ss_Hp) (H : Heap) (locs : List Loc) (ls : Array Slot), mm_S_stays_j34 N this a1 h_34 = some (rr, hh) → ss_R G h_34 H → va_S (ss_A G) s.heap H locs → lv_has ls 2 [] → ww_S_stays p l e s m below meth c G this a1 h rr hh  H locs 0 0 (F0 m 34 ls []) := by
    intro h_34 H locs ls hm hR hS hl
    refine lv_iconst (v := -1) hx hb dd_S_stays_34 (by decide) ?_
    exact J_35 (-1 : Int32) h_34 _ _ _ hm hR hS hl
  refine ss_aload_n hx hb dd_S_stays_0 rfl (lv_at hl 0 rfl) ?_
  obtain ⟨r1, qr1, hm⟩ := ss_bind hm
  refine ss_getr hC hK hR kf_S_46 rfl qr1 dd_S_stays_1 ?_
  obtain ⟨r2, qr2, hm⟩ := ss_bind hm
  refine ss_getr hC hK hR kf_S_63 rfl qr2 dd_S_stays_4 ?_
  obtain ⟨v3, qv3, hm⟩ := ss_bind hm
  refine ss_geti hC hK hR kf_S_170 qv3 dd_S_stays_7 ?_
  refine lv_if_eq (tgt := 34) hx hb dd_S_stays_10 (by decide) (fun c4 => ?_) (fun c4 => ?_)
  · have hm := ss_ift hm c4
    exact J_34 h _ _ _ hm hR hS (lv_sub hl [] rfl)
  · have hm := ss_iff hm c4
    refine lv_iload_n hx hb dd_S_stays_13 rfl (lv_at hl 1 rfl) ?_
    refine lv_iconst (v := 1) hx hb dd_S_stays_14 (by decide) ?_
    refine lv_bipush (v := 60) hx hb dd_S_stays_15 (by decide) ?_
    obtain ⟨v5, qv5, hm⟩ := ss_bind hm
    refine ss_cS 0 0 (As := [.int a1, .int (1 : Int32), .int (60 : Int32)]) hC hK hR hS hl.1 (cc_S_isWithin l G N _ _ _ _ _ qv5) km_S_195 ⟨Nat.le_of_ble_eq_true rfl, Nat.le_of_ble_eq_true rfl⟩ ⟨Nat.le_of_ble_eq_true rfl, Nat.le_of_ble_eq_true rfl, Nat.le_of_ble_eq_true rfl, Nat.le_of_ble_eq_true rfl⟩ rfl rfl (Nat.le_of_ble_eq_true rfl) dd_S_stays_17 (fun H locs hR hS => ?_)
    refine lv_if_eq (tgt := 34) hx hb dd_S_stays_20 (by decide) (fun c6 => ?_) (fun c6 => ?_)
    · have hm := ss_ift hm c6
      exact J_34 h _ _ _ hm hR hS (lv_sub hl [] rfl)
    · have hm := ss_iff hm c6
      refine ss_aload_n hx hb dd_S_stays_23 rfl (lv_at hl 0 rfl) ?_
      obtain ⟨r7, qr7, hm⟩ := ss_bind hm
      refine ss_getr hC hK hR kf_S_77 rfl qr7 dd_S_stays_24 ?_
      refine lv_iload_n hx hb dd_S_stays_27 rfl (lv_at hl 1 rfl) ?_
      obtain ⟨v8, h9, qh9, hm⟩ := ss_bind2 hm
      refine ss_cV 0 0 (As := [.int a1]) hC hK hR hS hl.1 (cc_F_openThrough l G N _ _ _ _ _ qh9) km_S_219 (ck_F_openThrough qh9) ⟨Nat.le_of_ble_eq_true rfl, Nat.le_of_ble_eq_true rfl⟩ ⟨Nat.le_of_ble_eq_true rfl, Nat.le_of_ble_eq_true rfl, Nat.le_of_ble_eq_true rfl, Nat.le_of_ble_eq_true rfl⟩ rfl rfl (Nat.le_of_ble_eq_true rfl) dd_S_stays_28 (fun H locs hR hS => ?_)
      refine lv_goto (tgt := 35) hx hb dd_S_stays_31 (by decide) ?_
      exact J_35 v8 h9 _ _ _ hm hR hS (lv_sub hl [] rfl)
theorem dd_F_firstClosed_0 : decode bb_F_firstClosed 0 = .ok (.aload_n 0, 1) := by decide +kernel
theorem dd_F_firstClosed_1 : decode bb_F_firstClosed 1 = .ok (.invokevirtual 55, 3) := by decide +kernel
theorem dd_F_firstClosed_4 : decode bb_F_firstClosed 4 = .ok (.iconst 0, 1) := by decide +kernel
theorem dd_F_firstClosed_5 : decode bb_F_firstClosed 5 = .ok (.istore_n 2, 1) := by decide +kernel
theorem dd_F_firstClosed_6 : decode bb_F_firstClosed 6 = .ok (.iload_n 2, 1) := by decide +kernel
theorem dd_F_firstClosed_7 : decode bb_F_firstClosed 7 = .ok (.bipush 100, 2) := by decide +kernel
theorem dd_F_firstClosed_9 : decode bb_F_firstClosed 9 = .ok (.if_icmp .ge 43, 3) := by decide +kernel
theorem dd_F_firstClosed_12 : decode bb_F_firstClosed 12 = .ok (.aload_n 0, 1) := by decide +kernel
theorem dd_F_firstClosed_13 : decode bb_F_firstClosed 13 = .ok (.getfield 27, 3) := by decide +kernel
theorem dd_F_firstClosed_16 : decode bb_F_firstClosed 16 = .ok (.invokevirtual 72, 3) := by decide +kernel
theorem dd_F_firstClosed_19 : decode bb_F_firstClosed 19 = .ok (.iload_n 1, 1) := by decide +kernel
theorem dd_F_firstClosed_20 : decode bb_F_firstClosed 20 = .ok (.ishr, 1) := by decide +kernel
theorem dd_F_firstClosed_21 : decode bb_F_firstClosed 21 = .ok (.iconst 1, 1) := by decide +kernel
theorem dd_F_firstClosed_22 : decode bb_F_firstClosed 22 = .ok (.iand, 1) := by decide +kernel
theorem dd_F_firstClosed_23 : decode bb_F_firstClosed 23 = .ok (.iconst 1, 1) := by decide +kernel
theorem dd_F_firstClosed_24 : decode bb_F_firstClosed 24 = .ok (.if_icmp .ne 14, 3) := by decide +kernel
theorem dd_F_firstClosed_27 : decode bb_F_firstClosed 27 = .ok (.aload_n 0, 1) := by decide +kernel
theorem dd_F_firstClosed_28 : decode bb_F_firstClosed 28 = .ok (.getfield 27, 3) := by decide +kernel
theorem dd_F_firstClosed_31 : decode bb_F_firstClosed 31 = .ok (.getfield 66, 3) := by decide +kernel
theorem dd_F_firstClosed_34 : decode bb_F_firstClosed 34 = .ok (.getfield 86, 3) := by decide +kernel
theorem dd_F_firstClosed_37 : decode bb_F_firstClosed 37 = .ok (.ireturn, 1) := by decide +kernel
theorem dd_F_firstClosed_38 : decode bb_F_firstClosed 38 = .ok (.aload_n 0, 1) := by decide +kernel
theorem dd_F_firstClosed_39 : decode bb_F_firstClosed 39 = .ok (.getfield 27, 3) := by decide +kernel
theorem dd_F_firstClosed_42 : decode bb_F_firstClosed 42 = .ok (.invokevirtual 58, 3) := by decide +kernel
theorem dd_F_firstClosed_45 : decode bb_F_firstClosed 45 = .ok (.pop, 1) := by decide +kernel
theorem dd_F_firstClosed_46 : decode bb_F_firstClosed 46 = .ok (.iinc 2 1, 3) := by decide +kernel
theorem dd_F_firstClosed_49 : decode bb_F_firstClosed 49 = .ok (.goto (-43), 3) := by decide +kernel
theorem dd_F_firstClosed_52 : decode bb_F_firstClosed 52 = .ok (.bipush (-2), 2) := by decide +kernel
theorem dd_F_firstClosed_54 : decode bb_F_firstClosed 54 = .ok (.ireturn, 1) := by decide +kernel
def mm_F_firstClosed_b6 (N : Nat) (this : Option Nat) (a1 : Int32) (st : Int32 × ss_Hp) : Option ((Int32 × ss_Hp) ⊕ (ss_Hp ⊕ ss_Hp)) :=
  match st with
  | (x2_6, h_6) =>
    if (100 : Int32) ≤ x2_6 then
      some (.inr (.inl h_6))
    else
      (ss_gr h_6 this 9 2).bind fun r6 =>
      (mm_Wi_closedBits N r6 h_6).bind fun v7 =>
      if ((v7 >>> (a1 &&& 31)) &&& (1 : Int32)) = (1 : Int32) then
        some (.inr (.inr h_6))
      else
        (ss_gr h_6 this 9 2).bind fun r9 =>
        ss_b2 (mm_Wi_passDay N r9 h_6) fun v10 h11 =>
        (some (x2_6 + (1 : Int32))).bind fun v12 =>
        some (.inl (v12, h11))
def mm_F_firstClosed (N : Nat) (this : Option Nat) (a1 : Int32) (h : ss_Hp) : Option (Int32 × ss_Hp) :=
  if ss_is h this 9 = true then
    (mm_F_start N this h).bind fun h1 =>
    (ss_lp (mm_F_firstClosed_b6 N this a1) N ((0 : Int32), h1)).bind fun e_6 =>
    match e_6 with
    | (.inl h_6_52) =>
      some ((-2 : Int32), h_6_52)
    | (.inr h_6_27) =>
      (ss_gr h_6_27 this 9 2).bind fun r2 =>
      (ss_gr h_6_27 r2 7 0).bind fun r3 =>
      (ss_gi h_6_27 r3 0 3).bind fun v4 =>
      some (v4, h_6_27)
  else none
abbrev ww_F_firstClosed (p : Program) (l : Launch) (e : Env) (s : State) (m : MethodId) (below : List Frame) (meth : Method) (c : Code) (G : ss_G) (this : Option Nat) (a1 : Int32) (h : ss_Hp) (rr : Int32) (hh : ss_Hp) (H : Heap) (locs : List Loc) (k n : Nat) (g : JFrame) : Prop := W p l e (headSpec (ss_w yy_F_firstClosed bb_F_firstClosed 3 (some (.int))) ({ frames := 5, cells := 0, slots := 0, locals := 148 })).room s m ([ss_v (ss_b G) this, .int a1] : List Value).toArray below meth c H locs k n (MQ below (ss_Qc G (some (.int rr)) hh) ([ss_v (ss_b G) this, .int a1] : List Value).toArray s 0 0 (ss_A G)) g
theorem ck_F_firstClosed {N : Nat} {this : Option Nat} {a1 : Int32} {h : ss_Hp} {res : Int32 × ss_Hp} (hm : mm_F_firstClosed N this a1 h = some res) : ss_is h this 9 = true := (ss_chk hm).1
set_option maxHeartbeats 4000000 in
set_option maxRecDepth 100000 in
theorem cc_F_firstClosed (l : Launch) (G : ss_G) (N : Nat) (this : Option Nat) (a1 : Int32) (h : ss_Hp) (rr : Int32) (hh : ss_Hp) (hm : mm_F_firstClosed N this a1 h = some (rr, hh)) : ss_Ct l G yy_F_firstClosed bb_F_firstClosed 3 (some (.int)) ({ frames := 5, cells := 0, slots := 0, locals := 148 }) [ss_v (ss_b G) this, .int a1] h (some (.int rr)) hh := by
  obtain ⟨hck, hm⟩ := ss_chk hm
  refine Met.ofW (cc := bb_F_firstClosed) (maxL := 3) (ret := (some (.int))) (by decide) rfl ?_
  intro p e s m args below meth c s₁ B hml hv
  obtain ⟨rfl, hR, hK⟩ := hv
  have hC : CallFix p m c bb_F_firstClosed 3 s _ lw_g sR_9 := ⟨B.exec, B.bytes, hml, findClass_of_methodNamed B.named, fun w hw => atoms_spec (ws := ss_w yy_F_firstClosed bb_F_firstClosed 3 (some (.int))) B.pre w (List.mem_cons_of_mem _ hw)⟩
  have hx := hC.1
  have hb := hC.2.1
  have hr := B.returns
  have hlocks := B.notSynchronized
  have hS : va_S (ss_A G) s.heap s.heap [] := va_S.rf
  have hl := lv_entry ([ss_v (ss_b G) this, .int a1]) (n := 3) (by simp [lg_sl, ss_v_cat, ss_cat_i, ss_cat_l, ss_cat_r])
  rw [lg_entry_eq]
  generalize (lg_sl ([ss_v (ss_b G) this, .int a1]) ++ List.replicate (3 - (lg_sl ([ss_v (ss_b G) this, .int a1])).length) Slot.unset).toArray = ls at hl ⊢
  have hl : lv_has ls 3 [(0, ss_v (ss_b G) this), (1, .int a1)] := by simpa [lv_args, ss_v_cat, ss_cat_i, ss_cat_l, ss_cat_r] using hl
  refine ss_aload_n hx hb dd_F_firstClosed_0 rfl (lv_at hl 0 rfl) ?_
  obtain ⟨h1, qh1, hm⟩ := ss_bind hm
  refine ss_cVv 0 0 (As := []) hC hK hR hS hl.1 (cc_F_start l G N _ _ _ qh1) km_F_55 (ck_F_start qh1) ⟨Nat.le_of_ble_eq_true rfl, Nat.le_of_ble_eq_true rfl⟩ ⟨Nat.le_of_ble_eq_true rfl, Nat.le_of_ble_eq_true rfl, Nat.le_of_ble_eq_true rfl, Nat.le_of_ble_eq_true rfl⟩ rfl rfl (Nat.le_of_ble_eq_true rfl) dd_F_firstClosed_1 (fun H locs hR hS => ?_)
  refine lv_iconst (v := 0) hx hb dd_F_firstClosed_4 (by decide) ?_
  refine lv_istore_n (lv' := [(2, .int (0 : Int32)), (0, ss_v (ss_b G) this), (1, .int a1)]) hx hb dd_F_firstClosed_5 rfl hl (by decide) rfl (fun ls hl => ?_)
  obtain ⟨e_6, he_6, hm⟩ := ss_bind hm
  have X_6_52 : ∀  (h_6_52 : ss_Hp) (H : Heap) (locs : List Loc) (ls : Array Slot), e_6 = (.inl h_6_52) → ss_R G h_6_52 H → va_S (ss_A G) s.heap H locs → lv_has ls 3 [] → ww_F_firstClosed p l e s m below meth c G this a1 h rr hh  H locs 0 0 (F0 m 52 ls []) := by
    intro h_6_52 H locs ls hq hR hS hl
    rw [hq] at hm
    refine lv_bipush (v := -2) hx hb dd_F_firstClosed_52 (by decide) ?_
    exact ss_iret hC hr hlocks hR hS hm dd_F_firstClosed_54
  have X_6_27 : ∀  (h_6_27 : ss_Hp) (H : Heap) (locs : List Loc) (ls : Array Slot), e_6 = (.inr h_6_27) → ss_R G h_6_27 H → va_S (ss_A G) s.heap H locs → lv_has ls 3 [(0, ss_v (ss_b G) this)] → ww_F_firstClosed p l e s m below meth c G this a1 h rr hh  H locs 0 0 (F0 m 27 ls []) := by
    intro h_6_27 H locs ls hq hR hS hl
    rw [hq] at hm
    refine ss_aload_n hx hb dd_F_firstClosed_27 rfl (lv_at hl 0 rfl) ?_
    obtain ⟨r2, qr2, hm⟩ := ss_bind hm
    refine ss_getr hC hK hR kf_F_27 rfl qr2 dd_F_firstClosed_28 ?_
    obtain ⟨r3, qr3, hm⟩ := ss_bind hm
    refine ss_getr hC hK hR kf_F_66 rfl qr3 dd_F_firstClosed_31 ?_
    obtain ⟨v4, qv4, hm⟩ := ss_bind hm
    refine ss_geti hC hK hR kf_F_86 qv4 dd_F_firstClosed_34 ?_
    exact ss_iret hC hr hlocks hR hS hm dd_F_firstClosed_37
  have L_6 : ∀ (n : Nat) (x2_6 : Int32) (h_6 : ss_Hp) (H : Heap) (locs : List Loc) (ls : Array Slot), ss_lp (mm_F_firstClosed_b6 N this a1) n (x2_6, h_6) = some e_6 → ss_R G h_6 H → va_S (ss_A G) s.heap H locs → lv_has ls 3 [(0, ss_v (ss_b G) this), (1, .int a1), (2, .int x2_6)] → ww_F_firstClosed p l e s m below meth c G this a1 h rr hh  H locs 0 0 (F0 m 6 ls []) := by
    intro n
    induction n with
    | zero => intro x2_6 h_6 H locs ls hm; cases hm
    | succ n ih_6 =>
      intro x2_6 h_6 H locs ls hm hR hS hl
      obtain ⟨z_6, hm, hz1_6, hz2_6⟩ := ss_lps hm
      refine lv_iload_n hx hb dd_F_firstClosed_6 rfl (lv_at hl 2 rfl) ?_
      refine lv_bipush (v := 100) hx hb dd_F_firstClosed_7 (by decide) ?_
      refine lv_icmp_ge (tgt := 52) hx hb dd_F_firstClosed_9 (by decide) (fun c5 => ?_) (fun c5 => ?_)
      · have hm := ss_ift hm c5
        exact X_6_52 h_6 _ _ _ (hz2_6 _ (ss_some hm)) hR hS (lv_sub hl [] rfl)
      · have hm := ss_iff hm c5
        refine ss_aload_n hx hb dd_F_firstClosed_12 rfl (lv_at hl 0 rfl) ?_
        obtain ⟨r6, qr6, hm⟩ := ss_bind hm
        refine ss_getr hC hK hR kf_F_27 rfl qr6 dd_F_firstClosed_13 ?_
        obtain ⟨v7, qv7, hm⟩ := ss_bind hm
        refine ss_cV 0 0 (As := []) hC hK hR hS hl.1 (cc_Wi_closedBits l G N _ _ _ qv7) km_F_72 (ck_Wi_closedBits qv7) ⟨Nat.le_of_ble_eq_true rfl, Nat.le_of_ble_eq_true rfl⟩ ⟨Nat.le_of_ble_eq_true rfl, Nat.le_of_ble_eq_true rfl, Nat.le_of_ble_eq_true rfl, Nat.le_of_ble_eq_true rfl⟩ rfl rfl (Nat.le_of_ble_eq_true rfl) dd_F_firstClosed_16 (fun H locs hR hS => ?_)
        refine lv_iload_n hx hb dd_F_firstClosed_19 rfl (lv_at hl 1 rfl) ?_
        refine lv_ishr hx hb dd_F_firstClosed_20 ?_
        refine lv_iconst (v := 1) hx hb dd_F_firstClosed_21 (by decide) ?_
        refine lv_iand hx hb dd_F_firstClosed_22 ?_
        refine lv_iconst (v := 1) hx hb dd_F_firstClosed_23 (by decide) ?_
        refine lv_icmp_ne (tgt := 38) hx hb dd_F_firstClosed_24 (by decide) (fun c8 => ?_) (fun c8 => ?_)
        · have hm := ss_iff hm c8
          refine ss_aload_n hx hb dd_F_firstClosed_38 rfl (lv_at hl 0 rfl) ?_
          obtain ⟨r9, qr9, hm⟩ := ss_bind hm
          refine ss_getr hC hK hR kf_F_27 rfl qr9 dd_F_firstClosed_39 ?_
          obtain ⟨v10, h11, qh11, hm⟩ := ss_bind2 hm
          refine ss_cV 0 0 (As := []) hC hK hR hS hl.1 (cc_Wi_passDay l G N _ _ _ _ qh11) km_F_58 (ck_Wi_passDay qh11) ⟨Nat.le_of_ble_eq_true rfl, Nat.le_of_ble_eq_true rfl⟩ ⟨Nat.le_of_ble_eq_true rfl, Nat.le_of_ble_eq_true rfl, Nat.le_of_ble_eq_true rfl, Nat.le_of_ble_eq_true rfl⟩ rfl rfl (Nat.le_of_ble_eq_true rfl) dd_F_firstClosed_42 (fun H locs hR hS => ?_)
          refine lv_pop hx hb dd_F_firstClosed_45 rfl ?_
          obtain ⟨v12, qv12, hm⟩ := ss_bind hm
          refine lv_iinc (v := v12) (lv' := [(2, .int v12), (0, ss_v (ss_b G) this), (1, .int a1)]) hx hb dd_F_firstClosed_46 hl (k := 2) rfl (ss_inc (by decide) qv12) (by decide) rfl (fun ls hl => ?_)
          refine lv_goto (tgt := 6) hx hb dd_F_firstClosed_49 (by decide) ?_
          exact ih_6 v12 h11 _ _ _ (hz1_6 _ (ss_some hm)) hR hS (lv_sub hl [1, 2, 0] rfl)
        · have hm := ss_ift hm c8
          exact X_6_27 h_6 _ _ _ (hz2_6 _ (ss_some hm)) hR hS (lv_sub hl [0] rfl)
  exact L_6 N (0 : Int32) h1 _ _ _ he_6 hR hS (lv_sub hl [1, 2, 0] rfl)
theorem dd_S_closes_0 : decode bb_S_closes 0 = .ok (.aload_n 0, 1) := by decide +kernel
theorem dd_S_closes_1 : decode bb_S_closes 1 = .ok (.iload_n 1, 1) := by decide +kernel
theorem dd_S_closes_2 : decode bb_S_closes 2 = .ok (.invokevirtual 124, 3) := by decide +kernel
theorem dd_S_closes_5 : decode bb_S_closes 5 = .ok (.ifCond .eq 14, 3) := by decide +kernel
theorem dd_S_closes_8 : decode bb_S_closes 8 = .ok (.aload_n 0, 1) := by decide +kernel
theorem dd_S_closes_9 : decode bb_S_closes 9 = .ok (.getfield 77, 3) := by decide +kernel
theorem dd_S_closes_12 : decode bb_S_closes 12 = .ok (.iload_n 1, 1) := by decide +kernel
theorem dd_S_closes_13 : decode bb_S_closes 13 = .ok (.invokevirtual 222, 3) := by decide +kernel
theorem dd_S_closes_16 : decode bb_S_closes 16 = .ok (.goto 4, 3) := by decide +kernel
theorem dd_S_closes_19 : decode bb_S_closes 19 = .ok (.iconst (-1), 1) := by decide +kernel
theorem dd_S_closes_20 : decode bb_S_closes 20 = .ok (.ireturn, 1) := by decide +kernel
def mm_S_closes_j20 (N : Nat) (this : Option Nat) (a1 : Int32) (s0_20 : Int32) (h_20 : ss_Hp) : Option (Int32 × ss_Hp) :=
  some (s0_20, h_20)
def mm_S_closes (N : Nat) (this : Option Nat) (a1 : Int32) (h : ss_Hp) : Option (Int32 × ss_Hp) :=
  if ss_is h this 11 = true then
    (mm_S_isStep N this a1 h).bind fun v1 =>
    if v1 = 0 then
      mm_S_closes_j20 N this a1 (-1 : Int32) h
    else
      (ss_gr h this 11 8).bind fun r3 =>
      ss_b2 (mm_F_firstClosed N r3 a1 h) fun v4 h5 =>
      mm_S_closes_j20 N this a1 v4 h5
  else none
abbrev ww_S_closes (p : Program) (l : Launch) (e : Env) (s : State) (m : MethodId) (below : List Frame) (meth : Method) (c : Code) (G : ss_G) (this : Option Nat) (a1 : Int32) (h : ss_Hp) (rr : Int32) (hh : ss_Hp) (H : Heap) (locs : List Loc) (k n : Nat) (g : JFrame) : Prop := W p l e (headSpec (ss_w yy_S_closes bb_S_closes 2 (some (.int))) ({ frames := 6, cells := 0, slots := 0, locals := 170 })).room s m ([ss_v (ss_b G) this, .int a1] : List Value).toArray below meth c H locs k n (MQ below (ss_Qc G (some (.int rr)) hh) ([ss_v (ss_b G) this, .int a1] : List Value).toArray s 0 0 (ss_A G)) g
theorem ck_S_closes {N : Nat} {this : Option Nat} {a1 : Int32} {h : ss_Hp} {res : Int32 × ss_Hp} (hm : mm_S_closes N this a1 h = some res) : ss_is h this 11 = true := (ss_chk hm).1
set_option maxHeartbeats 4000000 in
set_option maxRecDepth 100000 in
theorem cc_S_closes (l : Launch) (G : ss_G) (N : Nat) (this : Option Nat) (a1 : Int32) (h : ss_Hp) (rr : Int32) (hh : ss_Hp) (hm : mm_S_closes N this a1 h = some (rr, hh)) : ss_Ct l G yy_S_closes bb_S_closes 2 (some (.int)) ({ frames := 6, cells := 0, slots := 0, locals := 170 }) [ss_v (ss_b G) this, .int a1] h (some (.int rr)) hh := by
  obtain ⟨hck, hm⟩ := ss_chk hm
  refine Met.ofW (cc := bb_S_closes) (maxL := 2) (ret := (some (.int))) (by decide) rfl ?_
  intro p e s m args below meth c s₁ B hml hv
  obtain ⟨rfl, hR, hK⟩ := hv
  have hC : CallFix p m c bb_S_closes 2 s _ lw_g sR_11 := ⟨B.exec, B.bytes, hml, findClass_of_methodNamed B.named, fun w hw => atoms_spec (ws := ss_w yy_S_closes bb_S_closes 2 (some (.int))) B.pre w (List.mem_cons_of_mem _ hw)⟩
  have hx := hC.1
  have hb := hC.2.1
  have hr := B.returns
  have hlocks := B.notSynchronized
  have hS : va_S (ss_A G) s.heap s.heap [] := va_S.rf
  have hl := lv_entry ([ss_v (ss_b G) this, .int a1]) (n := 2) (by simp [lg_sl, ss_v_cat, ss_cat_i, ss_cat_l, ss_cat_r])
  rw [lg_entry_eq]
  generalize (lg_sl ([ss_v (ss_b G) this, .int a1]) ++ List.replicate (2 - (lg_sl ([ss_v (ss_b G) this, .int a1])).length) Slot.unset).toArray = ls at hl ⊢
  have hl : lv_has ls 2 [(0, ss_v (ss_b G) this), (1, .int a1)] := by simpa [lv_args, ss_v_cat, ss_cat_i, ss_cat_l, ss_cat_r] using hl
  have J_20 : ∀ (s0_20 : Int32) (h_20 : ss_Hp) (H : Heap) (locs : List Loc) (ls : Array Slot), mm_S_closes_j20 N this a1 s0_20 h_20 = some (rr, hh) → ss_R G h_20 H → va_S (ss_A G) s.heap H locs → lv_has ls 2 [] → ww_S_closes p l e s m below meth c G this a1 h rr hh  H locs 0 0 (F0 m 20 ls [.int s0_20]) := by
    intro s0_20 h_20 H locs ls hm hR hS hl
    exact ss_iret hC hr hlocks hR hS hm dd_S_closes_20
  refine ss_aload_n hx hb dd_S_closes_0 rfl (lv_at hl 0 rfl) ?_
  refine lv_iload_n hx hb dd_S_closes_1 rfl (lv_at hl 1 rfl) ?_
  obtain ⟨v1, qv1, hm⟩ := ss_bind hm
  refine ss_cV 0 0 (As := [.int a1]) hC hK hR hS hl.1 (cc_S_isStep l G N _ _ _ _ qv1) km_S_124 (ck_S_isStep qv1) ⟨Nat.le_of_ble_eq_true rfl, Nat.le_of_ble_eq_true rfl⟩ ⟨Nat.le_of_ble_eq_true rfl, Nat.le_of_ble_eq_true rfl, Nat.le_of_ble_eq_true rfl, Nat.le_of_ble_eq_true rfl⟩ rfl rfl (Nat.le_of_ble_eq_true rfl) dd_S_closes_2 (fun H locs hR hS => ?_)
  refine lv_if_eq (tgt := 19) hx hb dd_S_closes_5 (by decide) (fun c2 => ?_) (fun c2 => ?_)
  · have hm := ss_ift hm c2
    refine lv_iconst (v := -1) hx hb dd_S_closes_19 (by decide) ?_
    exact J_20 (-1 : Int32) h _ _ _ hm hR hS (lv_sub hl [] rfl)
  · have hm := ss_iff hm c2
    refine ss_aload_n hx hb dd_S_closes_8 rfl (lv_at hl 0 rfl) ?_
    obtain ⟨r3, qr3, hm⟩ := ss_bind hm
    refine ss_getr hC hK hR kf_S_77 rfl qr3 dd_S_closes_9 ?_
    refine lv_iload_n hx hb dd_S_closes_12 rfl (lv_at hl 1 rfl) ?_
    obtain ⟨v4, h5, qh5, hm⟩ := ss_bind2 hm
    refine ss_cV 0 0 (As := [.int a1]) hC hK hR hS hl.1 (cc_F_firstClosed l G N _ _ _ _ _ qh5) km_S_222 (ck_F_firstClosed qh5) ⟨Nat.le_of_ble_eq_true rfl, Nat.le_of_ble_eq_true rfl⟩ ⟨Nat.le_of_ble_eq_true rfl, Nat.le_of_ble_eq_true rfl, Nat.le_of_ble_eq_true rfl, Nat.le_of_ble_eq_true rfl⟩ rfl rfl (Nat.le_of_ble_eq_true rfl) dd_S_closes_13 (fun H locs hR hS => ?_)
    refine lv_goto (tgt := 20) hx hb dd_S_closes_16 (by decide) ?_
    exact J_20 v4 h5 _ _ _ hm hR hS (lv_sub hl [] rfl)
theorem dd_F_isSameRow_0 : decode bb_F_isSameRow 0 = .ok (.iconst 0, 1) := by decide +kernel
theorem dd_F_isSameRow_1 : decode bb_F_isSameRow 1 = .ok (.istore_n 3, 1) := by decide +kernel
theorem dd_F_isSameRow_2 : decode bb_F_isSameRow 2 = .ok (.iload_n 3, 1) := by decide +kernel
theorem dd_F_isSameRow_3 : decode bb_F_isSameRow 3 = .ok (.aload_n 0, 1) := by decide +kernel
theorem dd_F_isSameRow_4 : decode bb_F_isSameRow 4 = .ok (.getfield 19, 3) := by decide +kernel
theorem dd_F_isSameRow_7 : decode bb_F_isSameRow 7 = .ok (.getfield 31, 3) := by decide +kernel
theorem dd_F_isSameRow_10 : decode bb_F_isSameRow 10 = .ok (.getfield 81, 3) := by decide +kernel
theorem dd_F_isSameRow_13 : decode bb_F_isSameRow 13 = .ok (.if_icmp .ge 36, 3) := by decide +kernel
theorem dd_F_isSameRow_16 : decode bb_F_isSameRow 16 = .ok (.aload_n 0, 1) := by decide +kernel
theorem dd_F_isSameRow_17 : decode bb_F_isSameRow 17 = .ok (.getfield 11, 3) := by decide +kernel
theorem dd_F_isSameRow_20 : decode bb_F_isSameRow 20 = .ok (.iload_n 1, 1) := by decide +kernel
theorem dd_F_isSameRow_21 : decode bb_F_isSameRow 21 = .ok (.bipush 8, 2) := by decide +kernel
theorem dd_F_isSameRow_23 : decode bb_F_isSameRow 23 = .ok (.imul, 1) := by decide +kernel
theorem dd_F_isSameRow_24 : decode bb_F_isSameRow 24 = .ok (.iload_n 3, 1) := by decide +kernel
theorem dd_F_isSameRow_25 : decode bb_F_isSameRow 25 = .ok (.iadd, 1) := by decide +kernel
theorem dd_F_isSameRow_26 : decode bb_F_isSameRow 26 = .ok (.iaload, 1) := by decide +kernel
theorem dd_F_isSameRow_27 : decode bb_F_isSameRow 27 = .ok (.aload_n 0, 1) := by decide +kernel
theorem dd_F_isSameRow_28 : decode bb_F_isSameRow 28 = .ok (.getfield 11, 3) := by decide +kernel
theorem dd_F_isSameRow_31 : decode bb_F_isSameRow 31 = .ok (.iload_n 2, 1) := by decide +kernel
theorem dd_F_isSameRow_32 : decode bb_F_isSameRow 32 = .ok (.bipush 8, 2) := by decide +kernel
theorem dd_F_isSameRow_34 : decode bb_F_isSameRow 34 = .ok (.imul, 1) := by decide +kernel
theorem dd_F_isSameRow_35 : decode bb_F_isSameRow 35 = .ok (.iload_n 3, 1) := by decide +kernel
theorem dd_F_isSameRow_36 : decode bb_F_isSameRow 36 = .ok (.iadd, 1) := by decide +kernel
theorem dd_F_isSameRow_37 : decode bb_F_isSameRow 37 = .ok (.iaload, 1) := by decide +kernel
theorem dd_F_isSameRow_38 : decode bb_F_isSameRow 38 = .ok (.if_icmp .eq 5, 3) := by decide +kernel
theorem dd_F_isSameRow_41 : decode bb_F_isSameRow 41 = .ok (.iconst 0, 1) := by decide +kernel
theorem dd_F_isSameRow_42 : decode bb_F_isSameRow 42 = .ok (.ireturn, 1) := by decide +kernel
theorem dd_F_isSameRow_43 : decode bb_F_isSameRow 43 = .ok (.iinc 3 1, 3) := by decide +kernel
theorem dd_F_isSameRow_46 : decode bb_F_isSameRow 46 = .ok (.goto (-44), 3) := by decide +kernel
theorem dd_F_isSameRow_49 : decode bb_F_isSameRow 49 = .ok (.iconst 1, 1) := by decide +kernel
theorem dd_F_isSameRow_50 : decode bb_F_isSameRow 50 = .ok (.ireturn, 1) := by decide +kernel
def mm_F_isSameRow_b2 (N : Nat) (this : Option Nat) (a1 : Int32) (a2 : Int32) (h : ss_Hp) (st : Int32) : Option (Int32 ⊕ (Unit ⊕ Unit)) :=
  match st with
  | x3_2 =>
    (ss_gr h this 9 0).bind fun r1 =>
    (ss_gr h r1 8 0).bind fun r2 =>
    (ss_gi h r2 5 3).bind fun v3 =>
    if v3 ≤ x3_2 then
      some (.inr (.inl ()))
    else
      (ss_gr h this 9 3).bind fun r5 =>
      (ss_ai h r5 20 ((a1 * (8 : Int32)) + x3_2)).bind fun v6 =>
      (ss_gr h this 9 3).bind fun r7 =>
      (ss_ai h r7 20 ((a2 * (8 : Int32)) + x3_2)).bind fun v8 =>
      if v6 = v8 then
        (some (x3_2 + (1 : Int32))).bind fun v10 =>
        some (.inl v10)
      else
        some (.inr (.inr ()))
def mm_F_isSameRow (N : Nat) (this : Option Nat) (a1 : Int32) (a2 : Int32) (h : ss_Hp) : Option Int32 :=
  if ss_is h this 9 = true then
    (ss_lp (mm_F_isSameRow_b2 N this a1 a2 h) N (0 : Int32)).bind fun e_2 =>
    match e_2 with
    | (.inl ()) =>
      some (1 : Int32)
    | (.inr ()) =>
      some (0 : Int32)
  else none
abbrev ww_F_isSameRow (p : Program) (l : Launch) (e : Env) (s : State) (m : MethodId) (below : List Frame) (meth : Method) (c : Code) (G : ss_G) (this : Option Nat) (a1 : Int32) (a2 : Int32) (h : ss_Hp) (rr : Int32) (H : Heap) (locs : List Loc) (k n : Nat) (g : JFrame) : Prop := W p l e (headSpec (ss_w yy_F_isSameRow bb_F_isSameRow 4 (some .boolean)) ({ frames := 0, cells := 0, slots := 0, locals := 0 })).room s m ([ss_v (ss_b G) this, .int a1, .int a2] : List Value).toArray below meth c H locs k n (MQ below (ss_Qc G (some (.int rr)) h) ([ss_v (ss_b G) this, .int a1, .int a2] : List Value).toArray s 0 0 (ss_A G)) g
theorem ck_F_isSameRow {N : Nat} {this : Option Nat} {a1 : Int32} {a2 : Int32} {h : ss_Hp} {res : Int32} (hm : mm_F_isSameRow N this a1 a2 h = some res) : ss_is h this 9 = true := (ss_chk hm).1
set_option maxHeartbeats 4000000 in
set_option maxRecDepth 100000 in
theorem cc_F_isSameRow (l : Launch) (G : ss_G) (N : Nat) (this : Option Nat) (a1 : Int32) (a2 : Int32) (h : ss_Hp) (rr : Int32) (hm : mm_F_isSameRow N this a1 a2 h = some rr) : ss_Ct l G yy_F_isSameRow bb_F_isSameRow 4 (some .boolean) ({ frames := 0, cells := 0, slots := 0, locals := 0 }) [ss_v (ss_b G) this, .int a1, .int a2] h (some (.int rr)) h := by
  obtain ⟨hck, hm⟩ := ss_chk hm
  refine Met.ofW (cc := bb_F_isSameRow) (maxL := 4) (ret := (some .boolean)) (by decide) rfl ?_
  intro p e s m args below meth c s₁ B hml hv
  obtain ⟨rfl, hR, hK⟩ := hv
  have hC : CallFix p m c bb_F_isSameRow 4 s _ lw_g sR_9 := ⟨B.exec, B.bytes, hml, findClass_of_methodNamed B.named, fun w hw => atoms_spec (ws := ss_w yy_F_isSameRow bb_F_isSameRow 4 (some .boolean)) B.pre w (List.mem_cons_of_mem _ hw)⟩
  have hx := hC.1
  have hb := hC.2.1
  have hr := B.returns
  have hlocks := B.notSynchronized
  have hS : va_S (ss_A G) s.heap s.heap [] := va_S.rf
  have hl := lv_entry ([ss_v (ss_b G) this, .int a1, .int a2]) (n := 4) (by simp [lg_sl, ss_v_cat, ss_cat_i, ss_cat_l, ss_cat_r])
  rw [lg_entry_eq]
  generalize (lg_sl ([ss_v (ss_b G) this, .int a1, .int a2]) ++ List.replicate (4 - (lg_sl ([ss_v (ss_b G) this, .int a1, .int a2])).length) Slot.unset).toArray = ls at hl ⊢
  have hl : lv_has ls 4 [(0, ss_v (ss_b G) this), (1, .int a1), (2, .int a2)] := by simpa [lv_args, ss_v_cat, ss_cat_i, ss_cat_l, ss_cat_r] using hl
  refine lv_iconst (v := 0) hx hb dd_F_isSameRow_0 (by decide) ?_
  refine lv_istore_n (lv' := [(3, .int (0 : Int32)), (0, ss_v (ss_b G) this), (1, .int a1), (2, .int a2)]) hx hb dd_F_isSameRow_1 rfl hl (by decide) rfl (fun ls hl => ?_)
  obtain ⟨e_2, he_2, hm⟩ := ss_bind hm
  have X_2_49 : ∀  (H : Heap) (locs : List Loc) (ls : Array Slot), e_2 = (.inl ()) → ss_R G h H → va_S (ss_A G) s.heap H locs → lv_has ls 4 [] → ww_F_isSameRow p l e s m below meth c G this a1 a2 h rr  H locs 0 0 (F0 m 49 ls []) := by
    intro  H locs ls hq hR hS hl
    rw [hq] at hm
    refine lv_iconst (v := 1) hx hb dd_F_isSameRow_49 (by decide) ?_
    exact ss_zret hC hr (by decide) hlocks hR hS (ss_with _ hm) dd_F_isSameRow_50
  have X_2_41 : ∀  (H : Heap) (locs : List Loc) (ls : Array Slot), e_2 = (.inr ()) → ss_R G h H → va_S (ss_A G) s.heap H locs → lv_has ls 4 [] → ww_F_isSameRow p l e s m below meth c G this a1 a2 h rr  H locs 0 0 (F0 m 41 ls []) := by
    intro  H locs ls hq hR hS hl
    rw [hq] at hm
    refine lv_iconst (v := 0) hx hb dd_F_isSameRow_41 (by decide) ?_
    exact ss_zret hC hr (by decide) hlocks hR hS (ss_with _ hm) dd_F_isSameRow_42
  have L_2 : ∀ (n : Nat) (x3_2 : Int32) (H : Heap) (locs : List Loc) (ls : Array Slot), ss_lp (mm_F_isSameRow_b2 N this a1 a2 h) n x3_2 = some e_2 → ss_R G h H → va_S (ss_A G) s.heap H locs → lv_has ls 4 [(0, ss_v (ss_b G) this), (1, .int a1), (2, .int a2), (3, .int x3_2)] → ww_F_isSameRow p l e s m below meth c G this a1 a2 h rr  H locs 0 0 (F0 m 2 ls []) := by
    intro n
    induction n with
    | zero => intro x3_2 H locs ls hm; cases hm
    | succ n ih_2 =>
      intro x3_2 H locs ls hm hR hS hl
      obtain ⟨z_2, hm, hz1_2, hz2_2⟩ := ss_lps hm
      refine lv_iload_n hx hb dd_F_isSameRow_2 rfl (lv_at hl 3 rfl) ?_
      refine ss_aload_n hx hb dd_F_isSameRow_3 rfl (lv_at hl 0 rfl) ?_
      obtain ⟨r1, qr1, hm⟩ := ss_bind hm
      refine ss_getr hC hK hR kf_F_19 rfl qr1 dd_F_isSameRow_4 ?_
      obtain ⟨r2, qr2, hm⟩ := ss_bind hm
      refine ss_getr hC hK hR kf_F_31 rfl qr2 dd_F_isSameRow_7 ?_
      obtain ⟨v3, qv3, hm⟩ := ss_bind hm
      refine ss_geti hC hK hR kf_F_81 qv3 dd_F_isSameRow_10 ?_
      refine lv_icmp_ge (tgt := 49) hx hb dd_F_isSameRow_13 (by decide) (fun c4 => ?_) (fun c4 => ?_)
      · have hm := ss_ift hm c4
        exact X_2_49  _ _ _ (hz2_2 _ (ss_some hm)) hR hS (lv_sub hl [] rfl)
      · have hm := ss_iff hm c4
        refine ss_aload_n hx hb dd_F_isSameRow_16 rfl (lv_at hl 0 rfl) ?_
        obtain ⟨r5, qr5, hm⟩ := ss_bind hm
        refine ss_getr hC hK hR kf_F_11 rfl qr5 dd_F_isSameRow_17 ?_
        refine lv_iload_n hx hb dd_F_isSameRow_20 rfl (lv_at hl 1 rfl) ?_
        refine lv_bipush (v := 8) hx hb dd_F_isSameRow_21 (by decide) ?_
        refine lv_imul hx hb dd_F_isSameRow_23 ?_
        refine lv_iload_n hx hb dd_F_isSameRow_24 rfl (lv_at hl 3 rfl) ?_
        refine lv_iadd hx hb dd_F_isSameRow_25 ?_
        obtain ⟨v6, qv6, hm⟩ := ss_bind hm
        refine ss_iald hC hK hR qv6 dd_F_isSameRow_26 ?_
        refine ss_aload_n hx hb dd_F_isSameRow_27 rfl (lv_at hl 0 rfl) ?_
        obtain ⟨r7, qr7, hm⟩ := ss_bind hm
        refine ss_getr hC hK hR kf_F_11 rfl qr7 dd_F_isSameRow_28 ?_
        refine lv_iload_n hx hb dd_F_isSameRow_31 rfl (lv_at hl 2 rfl) ?_
        refine lv_bipush (v := 8) hx hb dd_F_isSameRow_32 (by decide) ?_
        refine lv_imul hx hb dd_F_isSameRow_34 ?_
        refine lv_iload_n hx hb dd_F_isSameRow_35 rfl (lv_at hl 3 rfl) ?_
        refine lv_iadd hx hb dd_F_isSameRow_36 ?_
        obtain ⟨v8, qv8, hm⟩ := ss_bind hm
        refine ss_iald hC hK hR qv8 dd_F_isSameRow_37 ?_
        refine lv_icmp_eq (tgt := 43) hx hb dd_F_isSameRow_38 (by decide) (fun c9 => ?_) (fun c9 => ?_)
        · have hm := ss_ift hm c9
          obtain ⟨v10, qv10, hm⟩ := ss_bind hm
          refine lv_iinc (v := v10) (lv' := [(3, .int v10), (0, ss_v (ss_b G) this), (1, .int a1), (2, .int a2)]) hx hb dd_F_isSameRow_43 hl (k := 3) rfl (ss_inc (by decide) qv10) (by decide) rfl (fun ls hl => ?_)
          refine lv_goto (tgt := 2) hx hb dd_F_isSameRow_46 (by decide) ?_
          exact ih_2 v10  _ _ _ (hz1_2 _ (ss_some hm)) hR hS (lv_sub hl [1, 2, 3, 0] rfl)
        · have hm := ss_iff hm c9
          exact X_2_41  _ _ _ (hz2_2 _ (ss_some hm)) hR hS (lv_sub hl [] rfl)
  exact L_2 N (0 : Int32) _ _ _ he_2 hR hS (lv_sub hl [1, 2, 3, 0] rfl)
