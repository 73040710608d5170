theorem dd_VR_readStep_0 : decode bb_VR_readStep 0 = .ok (.aload_n 0, 1) := by decide +kernel
theorem dd_VR_readStep_1 : decode bb_VR_readStep 1 = .ok (.getfield 21, 3) := by decide +kernel
theorem dd_VR_readStep_4 : decode bb_VR_readStep 4 = .ok (.iconst 0, 1) := by decide +kernel
theorem dd_VR_readStep_5 : decode bb_VR_readStep 5 = .ok (.bipush 99, 2) := by decide +kernel
theorem dd_VR_readStep_7 : decode bb_VR_readStep 7 = .ok (.iconst (-1), 1) := by decide +kernel
theorem dd_VR_readStep_8 : decode bb_VR_readStep 8 = .ok (.invokevirtual 89, 3) := by decide +kernel
theorem dd_VR_readStep_11 : decode bb_VR_readStep 11 = .ok (.istore_n 1, 1) := by decide +kernel
theorem dd_VR_readStep_12 : decode bb_VR_readStep 12 = .ok (.aload_n 0, 1) := by decide +kernel
theorem dd_VR_readStep_13 : decode bb_VR_readStep 13 = .ok (.getfield 21, 3) := by decide +kernel
theorem dd_VR_readStep_16 : decode bb_VR_readStep 16 = .ok (.invokevirtual 45, 3) := by decide +kernel
theorem dd_VR_readStep_19 : decode bb_VR_readStep 19 = .ok (.ifCond .eq 47, 3) := by decide +kernel
theorem dd_VR_readStep_22 : decode bb_VR_readStep 22 = .ok (.aload_n 0, 1) := by decide +kernel
theorem dd_VR_readStep_23 : decode bb_VR_readStep 23 = .ok (.getfield 18, 3) := by decide +kernel
theorem dd_VR_readStep_26 : decode bb_VR_readStep 26 = .ok (.getfield 82, 3) := by decide +kernel
theorem dd_VR_readStep_29 : decode bb_VR_readStep 29 = .ok (.bipush 8, 2) := by decide +kernel
theorem dd_VR_readStep_31 : decode bb_VR_readStep 31 = .ok (.if_icmp .ge 35, 3) := by decide +kernel
theorem dd_VR_readStep_34 : decode bb_VR_readStep 34 = .ok (.aload_n 0, 1) := by decide +kernel
theorem dd_VR_readStep_35 : decode bb_VR_readStep 35 = .ok (.getfield 18, 3) := by decide +kernel
theorem dd_VR_readStep_38 : decode bb_VR_readStep 38 = .ok (.getfield 99, 3) := by decide +kernel
theorem dd_VR_readStep_41 : decode bb_VR_readStep 41 = .ok (.getfield 103, 3) := by decide +kernel
theorem dd_VR_readStep_44 : decode bb_VR_readStep 44 = .ok (.aload_n 0, 1) := by decide +kernel
theorem dd_VR_readStep_45 : decode bb_VR_readStep 45 = .ok (.getfield 18, 3) := by decide +kernel
theorem dd_VR_readStep_48 : decode bb_VR_readStep 48 = .ok (.getfield 82, 3) := by decide +kernel
theorem dd_VR_readStep_51 : decode bb_VR_readStep 51 = .ok (.iload_n 1, 1) := by decide +kernel
theorem dd_VR_readStep_52 : decode bb_VR_readStep 52 = .ok (.iastore, 1) := by decide +kernel
theorem dd_VR_readStep_53 : decode bb_VR_readStep 53 = .ok (.aload_n 0, 1) := by decide +kernel
theorem dd_VR_readStep_54 : decode bb_VR_readStep 54 = .ok (.getfield 18, 3) := by decide +kernel
theorem dd_VR_readStep_57 : decode bb_VR_readStep 57 = .ok (.dup, 1) := by decide +kernel
theorem dd_VR_readStep_58 : decode bb_VR_readStep 58 = .ok (.getfield 82, 3) := by decide +kernel
theorem dd_VR_readStep_61 : decode bb_VR_readStep 61 = .ok (.iconst 1, 1) := by decide +kernel
theorem dd_VR_readStep_62 : decode bb_VR_readStep 62 = .ok (.iadd, 1) := by decide +kernel
theorem dd_VR_readStep_63 : decode bb_VR_readStep 63 = .ok (.putfield 82, 3) := by decide +kernel
theorem dd_VR_readStep_66 : decode bb_VR_readStep 66 = .ok (.return_, 1) := by decide +kernel
def mm_VR_readStep_j66 (N : Nat) (this : Option Nat) (h_66 : ss_Hp) : Option ss_Hp :=
  some h_66
def mm_VR_readStep (N : Nat) (this : Option Nat) (h : ss_Hp) : Option ss_Hp :=
  if ss_is h this 6 = true then
    (ss_gr h this 6 0).bind fun r1 =>
    ss_b2 (mm_T_number N r1 (0 : Int32) (99 : Int32) (-1 : Int32) h) fun v2 h3 =>
    (ss_gr h3 this 6 0).bind fun r4 =>
    (mm_T_isWell N r4 h3).bind fun v5 =>
    if v5 = 0 then
      mm_VR_readStep_j66 N this h3
    else
      (ss_gr h3 this 6 2).bind fun r7 =>
      (ss_gi h3 r7 5 3).bind fun v8 =>
      if (8 : Int32) ≤ v8 then
        mm_VR_readStep_j66 N this h3
      else
        (ss_gr h3 this 6 2).bind fun r10 =>
        (ss_gr h3 r10 5 4).bind fun r11 =>
        (ss_gr h3 r11 0 0).bind fun r12 =>
        (ss_gr h3 this 6 2).bind fun r13 =>
        (ss_gi h3 r13 5 3).bind fun v14 =>
        (ss_ui h3 r12 20 v14 v2).bind fun h15 =>
        (ss_gr h15 this 6 2).bind fun r16 =>
        (ss_gi h15 r16 5 3).bind fun v17 =>
        (ss_pi h15 r16 5 3 (v17 + (1 : Int32))).bind fun h18 =>
        mm_VR_readStep_j66 N this h18
  else none
abbrev ww_VR_readStep (p : Program) (l : Launch) (e : Env) (s : State) (m : MethodId) (below : List Frame) (meth : Method) (c : Code) (G : ss_G) (this : Option Nat) (h : ss_Hp) (hh : ss_Hp) (H : Heap) (locs : List Loc) (k n : Nat) (g : JFrame) : Prop := W p l e (headSpec (ss_w yy_VR_readStep bb_VR_readStep 2 none) ({ frames := 3, cells := 0, slots := 0, locals := 66 })).room s m ([ss_v (ss_b G) this] : List Value).toArray below meth c H locs k n (MQ below (ss_Qc G none hh) ([ss_v (ss_b G) this] : List Value).toArray s 0 0 (ss_A G)) g
theorem ck_VR_readStep {N : Nat} {this : Option Nat} {h : ss_Hp} {res : ss_Hp} (hm : mm_VR_readStep N this h = some res) : ss_is h this 6 = true := (ss_chk hm).1
set_option maxHeartbeats 4000000 in
set_option maxRecDepth 100000 in
theorem cc_VR_readStep (l : Launch) (G : ss_G) (N : Nat) (this : Option Nat) (h : ss_Hp) (hh : ss_Hp) (hm : mm_VR_readStep N this h = some hh) : ss_Ct l G yy_VR_readStep bb_VR_readStep 2 none ({ frames := 3, cells := 0, slots := 0, locals := 66 }) [ss_v (ss_b G) this] h none hh := by
  obtain ⟨hck, hm⟩ := ss_chk hm
  refine Met.ofW (cc := bb_VR_readStep) (maxL := 2) (ret := none) (by decide) rfl ?_
  intro p e s m args below meth c s₁ B hml hv
  obtain ⟨rfl, hR, hK⟩ := hv
  have hC : CallFix p m c bb_VR_readStep 2 s _ lw_g sR_6 := ⟨B.exec, B.bytes, hml, findClass_of_methodNamed B.named, fun w hw => atoms_spec (ws := ss_w yy_VR_readStep bb_VR_readStep 2 none) B.pre w (List.mem_cons_of_mem _ hw)⟩
  have hx := hC.1
  have hb := hC.2.1
  have hr := B.returns
  have hlocks := B.notSynchronized
  have hS : va_S (ss_A G) s.heap s.heap [] := va_S.rf
  have hl := lv_entry ([ss_v (ss_b G) this]) (n := 2) (by simp [lg_sl, ss_v_cat, ss_cat_i, ss_cat_l, ss_cat_r])
  rw [lg_entry_eq]
  generalize (lg_sl ([ss_v (ss_b G) this]) ++ List.replicate (2 - (lg_sl ([ss_v (ss_b G) this])).length) Slot.unset).toArray = ls at hl ⊢
  have hl : lv_has ls 2 [(0, ss_v (ss_b G) this)] := by simpa [lv_args, ss_v_cat, ss_cat_i, ss_cat_l, ss_cat_r] using hl
  have J_66 : ∀ (h_66 : ss_Hp) (H : Heap) (locs : List Loc) (ls : Array Slot), mm_VR_readStep_j66 N this h_66 = some hh → ss_R G h_66 H → va_S (ss_A G) s.heap H locs → lv_has ls 2 [] → ww_VR_readStep p l e s m below meth c G this h hh  H locs 0 0 (F0 m 66 ls []) := by
    intro h_66 H locs ls hm hR hS hl
    exact ss_vret hC hr hlocks hR hS hm dd_VR_readStep_66
  refine ss_aload_n hx hb dd_VR_readStep_0 rfl (lv_at hl 0 rfl) ?_
  obtain ⟨r1, qr1, hm⟩ := ss_bind hm
  refine ss_getr hC hK hR kf_VR_21 rfl qr1 dd_VR_readStep_1 ?_
  refine lv_iconst (v := 0) hx hb dd_VR_readStep_4 (by decide) ?_
  refine lv_bipush (v := 99) hx hb dd_VR_readStep_5 (by decide) ?_
  refine lv_iconst (v := -1) hx hb dd_VR_readStep_7 (by decide) ?_
  obtain ⟨v2, h3, qh3, hm⟩ := ss_bind2 hm
  refine ss_cV 0 0 (As := [.int (0 : Int32), .int (99 : Int32), .int (-1 : Int32)]) hC hK hR hS hl.1 (cc_T_number l G N _ _ _ _ _ _ _ qh3) km_VR_89 (ck_T_number qh3) ⟨Nat.le_of_ble_eq_true rfl, Nat.le_of_ble_eq_true rfl⟩ ⟨Nat.le_of_ble_eq_true rfl, Nat.le_of_ble_eq_true rfl, Nat.le_of_ble_eq_true rfl, Nat.le_of_ble_eq_true rfl⟩ rfl rfl (Nat.le_of_ble_eq_true rfl) dd_VR_readStep_8 (fun H locs hR hS => ?_)
  refine lv_istore_n (lv' := [(1, .int v2), (0, ss_v (ss_b G) this)]) hx hb dd_VR_readStep_11 rfl hl (by decide) (by simp only [List.filter_cons, ss_v_cat]; rfl) (fun ls hl => ?_)
  refine ss_aload_n hx hb dd_VR_readStep_12 rfl (lv_at hl 1 rfl) ?_
  obtain ⟨r4, qr4, hm⟩ := ss_bind hm
  refine ss_getr hC hK hR kf_VR_21 rfl qr4 dd_VR_readStep_13 ?_
  obtain ⟨v5, qv5, hm⟩ := ss_bind hm
  refine ss_cV 0 0 (As := []) hC hK hR hS hl.1 (cc_T_isWell l G N _ _ _ qv5) km_VR_45 (ck_T_isWell qv5) ⟨Nat.le_of_ble_eq_true rfl, Nat.le_of_ble_eq_true rfl⟩ ⟨Nat.le_of_ble_eq_true rfl, Nat.le_of_ble_eq_true rfl, Nat.le_of_ble_eq_true rfl, Nat.le_of_ble_eq_true rfl⟩ rfl rfl (Nat.le_of_ble_eq_true rfl) dd_VR_readStep_16 (fun H locs hR hS => ?_)
  refine lv_if_eq (tgt := 66) hx hb dd_VR_readStep_19 (by decide) (fun c6 => ?_) (fun c6 => ?_)
  · have hm := ss_ift hm c6
    exact J_66 h3 _ _ _ hm hR hS (lv_sub hl [] rfl)
  · have hm := ss_iff hm c6
    refine ss_aload_n hx hb dd_VR_readStep_22 rfl (lv_at hl 1 rfl) ?_
    obtain ⟨r7, qr7, hm⟩ := ss_bind hm
    refine ss_getr hC hK hR kf_VR_18 rfl qr7 dd_VR_readStep_23 ?_
    obtain ⟨v8, qv8, hm⟩ := ss_bind hm
    refine ss_geti hC hK hR kf_VR_82 qv8 dd_VR_readStep_26 ?_
    refine lv_bipush (v := 8) hx hb dd_VR_readStep_29 (by decide) ?_
    refine lv_icmp_ge (tgt := 66) hx hb dd_VR_readStep_31 (by decide) (fun c9 => ?_) (fun c9 => ?_)
    · have hm := ss_ift hm c9
      exact J_66 h3 _ _ _ hm hR hS (lv_sub hl [] rfl)
    · have hm := ss_iff hm c9
      refine ss_aload_n hx hb dd_VR_readStep_34 rfl (lv_at hl 1 rfl) ?_
      obtain ⟨r10, qr10, hm⟩ := ss_bind hm
      refine ss_getr hC hK hR kf_VR_18 rfl qr10 dd_VR_readStep_35 ?_
      obtain ⟨r11, qr11, hm⟩ := ss_bind hm
      refine ss_getr hC hK hR kf_VR_99 rfl qr11 dd_VR_readStep_38 ?_
      obtain ⟨r12, qr12, hm⟩ := ss_bind hm
      refine ss_getr hC hK hR kf_VR_103 rfl qr12 dd_VR_readStep_41 ?_
      refine ss_aload_n hx hb dd_VR_readStep_44 rfl (lv_at hl 1 rfl) ?_
      obtain ⟨r13, qr13, hm⟩ := ss_bind hm
      refine ss_getr hC hK hR kf_VR_18 rfl qr13 dd_VR_readStep_45 ?_
      obtain ⟨v14, qv14, hm⟩ := ss_bind hm
      refine ss_geti hC hK hR kf_VR_82 qv14 dd_VR_readStep_48 ?_
      refine lv_iload_n hx hb dd_VR_readStep_51 rfl (lv_at hl 0 rfl) ?_
      obtain ⟨h15, qh15, hm⟩ := ss_bind hm
      refine ss_iast hC hK hR hS qh15 dd_VR_readStep_52 (fun H locs hR hS => ?_)
      refine ss_aload_n hx hb dd_VR_readStep_53 rfl (lv_at hl 1 rfl) ?_
      obtain ⟨r16, qr16, hm⟩ := ss_bind hm
      refine ss_getr hC hK hR kf_VR_18 rfl qr16 dd_VR_readStep_54 ?_
      refine ss_dupr hx hb dd_VR_readStep_57 ?_
      obtain ⟨v17, qv17, hm⟩ := ss_bind hm
      refine ss_geti hC hK hR kf_VR_82 qv17 dd_VR_readStep_58 ?_
      refine lv_iconst (v := 1) hx hb dd_VR_readStep_61 (by decide) ?_
      refine lv_iadd hx hb dd_VR_readStep_62 ?_
      obtain ⟨h18, qh18, hm⟩ := ss_bind hm
      refine ss_puti hC hK hR hS kp_VR_82 qh18 dd_VR_readStep_63 (fun H locs hR hS => ?_)
      exact J_66 h18 _ _ _ hm hR hS (lv_sub hl [] rfl)
theorem dd_VR_readToldStep_0 : decode bb_VR_readToldStep 0 = .ok (.aload_n 0, 1) := by decide +kernel
theorem dd_VR_readToldStep_1 : decode bb_VR_readToldStep 1 = .ok (.getfield 21, 3) := by decide +kernel
theorem dd_VR_readToldStep_4 : decode bb_VR_readToldStep 4 = .ok (.iconst 0, 1) := by decide +kernel
theorem dd_VR_readToldStep_5 : decode bb_VR_readToldStep 5 = .ok (.aload_n 0, 1) := by decide +kernel
theorem dd_VR_readToldStep_6 : decode bb_VR_readToldStep 6 = .ok (.getfield 18, 3) := by decide +kernel
theorem dd_VR_readToldStep_9 : decode bb_VR_readToldStep 9 = .ok (.getfield 82, 3) := by decide +kernel
theorem dd_VR_readToldStep_12 : decode bb_VR_readToldStep 12 = .ok (.iconst 1, 1) := by decide +kernel
theorem dd_VR_readToldStep_13 : decode bb_VR_readToldStep 13 = .ok (.isub, 1) := by decide +kernel
theorem dd_VR_readToldStep_14 : decode bb_VR_readToldStep 14 = .ok (.iload_n 1, 1) := by decide +kernel
theorem dd_VR_readToldStep_15 : decode bb_VR_readToldStep 15 = .ok (.invokevirtual 89, 3) := by decide +kernel
theorem dd_VR_readToldStep_18 : decode bb_VR_readToldStep 18 = .ok (.ireturn, 1) := by decide +kernel
def mm_VR_readToldStep (N : Nat) (this : Option Nat) (a1 : Int32) (h : ss_Hp) : Option (Int32 × ss_Hp) :=
  if ss_is h this 6 = true then
    (ss_gr h this 6 0).bind fun r1 =>
    (ss_gr h this 6 2).bind fun r2 =>
    (ss_gi h r2 5 3).bind fun v3 =>
    ss_b2 (mm_T_number N r1 (0 : Int32) (v3 - (1 : Int32)) a1 h) fun v4 h5 =>
    some (v4, h5)
  else none
abbrev ww_VR_readToldStep (p : Program) (l : Launch) (e : Env) (s : State) (m : MethodId) (below : List Frame) (meth : Method) (c : Code) (G : ss_G) (this : Option Nat) (a1 : Int32) (h : ss_Hp) (rr : Int32) (hh : ss_Hp) (H : Heap) (locs : List Loc) (k n : Nat) (g : JFrame) : Prop := W p l e (headSpec (ss_w yy_VR_readToldStep bb_VR_readToldStep 2 (some (.int))) ({ frames := 3, cells := 0, slots := 0, locals := 66 })).room s m ([ss_v (ss_b G) this, .int a1] : List Value).toArray below meth c H locs k n (MQ below (ss_Qc G (some (.int rr)) hh) ([ss_v (ss_b G) this, .int a1] : List Value).toArray s 0 0 (ss_A G)) g
theorem ck_VR_readToldStep {N : Nat} {this : Option Nat} {a1 : Int32} {h : ss_Hp} {res : Int32 × ss_Hp} (hm : mm_VR_readToldStep N this a1 h = some res) : ss_is h this 6 = true := (ss_chk hm).1
set_option maxHeartbeats 4000000 in
set_option maxRecDepth 100000 in
theorem cc_VR_readToldStep (l : Launch) (G : ss_G) (N : Nat) (this : Option Nat) (a1 : Int32) (h : ss_Hp) (rr : Int32) (hh : ss_Hp) (hm : mm_VR_readToldStep N this a1 h = some (rr, hh)) : ss_Ct l G yy_VR_readToldStep bb_VR_readToldStep 2 (some (.int)) ({ frames := 3, cells := 0, slots := 0, locals := 66 }) [ss_v (ss_b G) this, .int a1] h (some (.int rr)) hh := by
  obtain ⟨hck, hm⟩ := ss_chk hm
  refine Met.ofW (cc := bb_VR_readToldStep) (maxL := 2) (ret := (some (.int))) (by decide) rfl ?_
  intro p e s m args below meth c s₁ B hml hv
  obtain ⟨rfl, hR, hK⟩ := hv
  have hC : CallFix p m c bb_VR_readToldStep 2 s _ lw_g sR_6 := ⟨B.exec, B.bytes, hml, findClass_of_methodNamed B.named, fun w hw => atoms_spec (ws := ss_w yy_VR_readToldStep bb_VR_readToldStep 2 (some (.int))) B.pre w (List.mem_cons_of_mem _ hw)⟩
  have hx := hC.1
  have hb := hC.2.1
  have hr := B.returns
  have hlocks := B.notSynchronized
  have hS : va_S (ss_A G) s.heap s.heap [] := va_S.rf
  have hl := lv_entry ([ss_v (ss_b G) this, .int a1]) (n := 2) (by simp [lg_sl, ss_v_cat, ss_cat_i, ss_cat_l, ss_cat_r])
  rw [lg_entry_eq]
  generalize (lg_sl ([ss_v (ss_b G) this, .int a1]) ++ List.replicate (2 - (lg_sl ([ss_v (ss_b G) this, .int a1])).length) Slot.unset).toArray = ls at hl ⊢
  have hl : lv_has ls 2 [(0, ss_v (ss_b G) this), (1, .int a1)] := by simpa [lv_args, ss_v_cat, ss_cat_i, ss_cat_l, ss_cat_r] using hl
  refine ss_aload_n hx hb dd_VR_readToldStep_0 rfl (lv_at hl 0 rfl) ?_
  obtain ⟨r1, qr1, hm⟩ := ss_bind hm
  refine ss_getr hC hK hR kf_VR_21 rfl qr1 dd_VR_readToldStep_1 ?_
  refine lv_iconst (v := 0) hx hb dd_VR_readToldStep_4 (by decide) ?_
  refine ss_aload_n hx hb dd_VR_readToldStep_5 rfl (lv_at hl 0 rfl) ?_
  obtain ⟨r2, qr2, hm⟩ := ss_bind hm
  refine ss_getr hC hK hR kf_VR_18 rfl qr2 dd_VR_readToldStep_6 ?_
  obtain ⟨v3, qv3, hm⟩ := ss_bind hm
  refine ss_geti hC hK hR kf_VR_82 qv3 dd_VR_readToldStep_9 ?_
  refine lv_iconst (v := 1) hx hb dd_VR_readToldStep_12 (by decide) ?_
  refine lv_isub hx hb dd_VR_readToldStep_13 ?_
  refine lv_iload_n hx hb dd_VR_readToldStep_14 rfl (lv_at hl 1 rfl) ?_
  obtain ⟨v4, h5, qh5, hm⟩ := ss_bind2 hm
  refine ss_cV 0 0 (As := [.int (0 : Int32), .int (v3 - (1 : Int32)), .int a1]) hC hK hR hS hl.1 (cc_T_number l G N _ _ _ _ _ _ _ qh5) km_VR_89 (ck_T_number qh5) ⟨Nat.le_of_ble_eq_true rfl, Nat.le_of_ble_eq_true rfl⟩ ⟨Nat.le_of_ble_eq_true rfl, Nat.le_of_ble_eq_true rfl, Nat.le_of_ble_eq_true rfl, Nat.le_of_ble_eq_true rfl⟩ rfl rfl (Nat.le_of_ble_eq_true rfl) dd_VR_readToldStep_15 (fun H locs hR hS => ?_)
  exact ss_iret hC hr hlocks hR hS hm dd_VR_readToldStep_18
theorem dd_VR_readHouse_0 : decode bb_VR_readHouse 0 = .ok (.aload_n 0, 1) := by decide +kernel
theorem dd_VR_readHouse_1 : decode bb_VR_readHouse 1 = .ok (.iconst (-1), 1) := by decide +kernel
theorem dd_VR_readHouse_2 : decode bb_VR_readHouse 2 = .ok (.invokevirtual 109, 3) := by decide +kernel
theorem dd_VR_readHouse_5 : decode bb_VR_readHouse 5 = .ok (.istore_n 1, 1) := by decide +kernel
theorem dd_VR_readHouse_6 : decode bb_VR_readHouse 6 = .ok (.aload_n 0, 1) := by decide +kernel
theorem dd_VR_readHouse_7 : decode bb_VR_readHouse 7 = .ok (.getfield 21, 3) := by decide +kernel
theorem dd_VR_readHouse_10 : decode bb_VR_readHouse 10 = .ok (.invokevirtual 45, 3) := by decide +kernel
theorem dd_VR_readHouse_13 : decode bb_VR_readHouse 13 = .ok (.ifCond .ne 4, 3) := by decide +kernel
theorem dd_VR_readHouse_16 : decode bb_VR_readHouse 16 = .ok (.return_, 1) := by decide +kernel
theorem dd_VR_readHouse_17 : decode bb_VR_readHouse 17 = .ok (.aload_n 0, 1) := by decide +kernel
theorem dd_VR_readHouse_18 : decode bb_VR_readHouse 18 = .ok (.getfield 21, 3) := by decide +kernel
theorem dd_VR_readHouse_21 : decode bb_VR_readHouse 21 = .ok (.iconst 1, 1) := by decide +kernel
theorem dd_VR_readHouse_22 : decode bb_VR_readHouse 22 = .ok (.bipush 99, 2) := by decide +kernel
theorem dd_VR_readHouse_24 : decode bb_VR_readHouse 24 = .ok (.iconst (-1), 1) := by decide +kernel
theorem dd_VR_readHouse_25 : decode bb_VR_readHouse 25 = .ok (.invokevirtual 89, 3) := by decide +kernel
theorem dd_VR_readHouse_28 : decode bb_VR_readHouse 28 = .ok (.istore_n 2, 1) := by decide +kernel
theorem dd_VR_readHouse_29 : decode bb_VR_readHouse 29 = .ok (.aload_n 0, 1) := by decide +kernel
theorem dd_VR_readHouse_30 : decode bb_VR_readHouse 30 = .ok (.getfield 21, 3) := by decide +kernel
theorem dd_VR_readHouse_33 : decode bb_VR_readHouse 33 = .ok (.invokevirtual 45, 3) := by decide +kernel
theorem dd_VR_readHouse_36 : decode bb_VR_readHouse 36 = .ok (.ifCond .eq 59, 3) := by decide +kernel
theorem dd_VR_readHouse_39 : decode bb_VR_readHouse 39 = .ok (.aload_n 0, 1) := by decide +kernel
theorem dd_VR_readHouse_40 : decode bb_VR_readHouse 40 = .ok (.getfield 18, 3) := by decide +kernel
theorem dd_VR_readHouse_43 : decode bb_VR_readHouse 43 = .ok (.getfield 86, 3) := by decide +kernel
theorem dd_VR_readHouse_46 : decode bb_VR_readHouse 46 = .ok (.iconst 4, 1) := by decide +kernel
theorem dd_VR_readHouse_47 : decode bb_VR_readHouse 47 = .ok (.if_icmp .ge 48, 3) := by decide +kernel
theorem dd_VR_readHouse_50 : decode bb_VR_readHouse 50 = .ok (.aload_n 0, 1) := by decide +kernel
theorem dd_VR_readHouse_51 : decode bb_VR_readHouse 51 = .ok (.getfield 18, 3) := by decide +kernel
theorem dd_VR_readHouse_54 : decode bb_VR_readHouse 54 = .ok (.getfield 113, 3) := by decide +kernel
theorem dd_VR_readHouse_57 : decode bb_VR_readHouse 57 = .ok (.aload_n 0, 1) := by decide +kernel
theorem dd_VR_readHouse_58 : decode bb_VR_readHouse 58 = .ok (.getfield 18, 3) := by decide +kernel
theorem dd_VR_readHouse_61 : decode bb_VR_readHouse 61 = .ok (.getfield 86, 3) := by decide +kernel
theorem dd_VR_readHouse_64 : decode bb_VR_readHouse 64 = .ok (.iload_n 1, 1) := by decide +kernel
theorem dd_VR_readHouse_65 : decode bb_VR_readHouse 65 = .ok (.iastore, 1) := by decide +kernel
theorem dd_VR_readHouse_66 : decode bb_VR_readHouse 66 = .ok (.aload_n 0, 1) := by decide +kernel
theorem dd_VR_readHouse_67 : decode bb_VR_readHouse 67 = .ok (.getfield 18, 3) := by decide +kernel
theorem dd_VR_readHouse_70 : decode bb_VR_readHouse 70 = .ok (.getfield 116, 3) := by decide +kernel
theorem dd_VR_readHouse_73 : decode bb_VR_readHouse 73 = .ok (.aload_n 0, 1) := by decide +kernel
theorem dd_VR_readHouse_74 : decode bb_VR_readHouse 74 = .ok (.getfield 18, 3) := by decide +kernel
theorem dd_VR_readHouse_77 : decode bb_VR_readHouse 77 = .ok (.getfield 86, 3) := by decide +kernel
theorem dd_VR_readHouse_80 : decode bb_VR_readHouse 80 = .ok (.iload_n 2, 1) := by decide +kernel
theorem dd_VR_readHouse_81 : decode bb_VR_readHouse 81 = .ok (.iastore, 1) := by decide +kernel
theorem dd_VR_readHouse_82 : decode bb_VR_readHouse 82 = .ok (.aload_n 0, 1) := by decide +kernel
theorem dd_VR_readHouse_83 : decode bb_VR_readHouse 83 = .ok (.getfield 18, 3) := by decide +kernel
theorem dd_VR_readHouse_86 : decode bb_VR_readHouse 86 = .ok (.dup, 1) := by decide +kernel
theorem dd_VR_readHouse_87 : decode bb_VR_readHouse 87 = .ok (.getfield 86, 3) := by decide +kernel
theorem dd_VR_readHouse_90 : decode bb_VR_readHouse 90 = .ok (.iconst 1, 1) := by decide +kernel
theorem dd_VR_readHouse_91 : decode bb_VR_readHouse 91 = .ok (.iadd, 1) := by decide +kernel
theorem dd_VR_readHouse_92 : decode bb_VR_readHouse 92 = .ok (.putfield 86, 3) := by decide +kernel
theorem dd_VR_readHouse_95 : decode bb_VR_readHouse 95 = .ok (.return_, 1) := by decide +kernel
def mm_VR_readHouse_j95 (N : Nat) (this : Option Nat) (h_95 : ss_Hp) : Option ss_Hp :=
  some h_95
def mm_VR_readHouse (N : Nat) (this : Option Nat) (h : ss_Hp) : Option ss_Hp :=
  if ss_is h this 6 = true then
    ss_b2 (mm_VR_readToldStep N this (-1 : Int32) h) fun v1 h2 =>
    (ss_gr h2 this 6 0).bind fun r3 =>
    (mm_T_isWell N r3 h2).bind fun v4 =>
    if v4 = 0 then
      some h2
    else
      (ss_gr h2 this 6 0).bind fun r6 =>
      ss_b2 (mm_T_number N r6 (1 : Int32) (99 : Int32) (-1 : Int32) h2) fun v7 h8 =>
      (ss_gr h8 this 6 0).bind fun r9 =>
      (mm_T_isWell N r9 h8).bind fun v10 =>
      if v10 = 0 then
        mm_VR_readHouse_j95 N this h8
      else
        (ss_gr h8 this 6 2).bind fun r12 =>
        (ss_gi h8 r12 5 4).bind fun v13 =>
        if (4 : Int32) ≤ v13 then
          mm_VR_readHouse_j95 N this h8
        else
          (ss_gr h8 this 6 2).bind fun r15 =>
          (ss_gr h8 r15 5 0).bind fun r16 =>
          (ss_gr h8 this 6 2).bind fun r17 =>
          (ss_gi h8 r17 5 4).bind fun v18 =>
          (ss_ui h8 r16 20 v18 v1).bind fun h19 =>
          (ss_gr h19 this 6 2).bind fun r20 =>
          (ss_gr h19 r20 5 1).bind fun r21 =>
          (ss_gr h19 this 6 2).bind fun r22 =>
          (ss_gi h19 r22 5 4).bind fun v23 =>
          (ss_ui h19 r21 20 v23 v7).bind fun h24 =>
          (ss_gr h24 this 6 2).bind fun r25 =>
          (ss_gi h24 r25 5 4).bind fun v26 =>
          (ss_pi h24 r25 5 4 (v26 + (1 : Int32))).bind fun h27 =>
          mm_VR_readHouse_j95 N this h27
  else none
abbrev ww_VR_readHouse (p : Program) (l : Launch) (e : Env) (s : State) (m : MethodId) (below : List Frame) (meth : Method) (c : Code) (G : ss_G) (this : Option Nat) (h : ss_Hp) (hh : ss_Hp) (H : Heap) (locs : List Loc) (k n : Nat) (g : JFrame) : Prop := W p l e (headSpec (ss_w yy_VR_readHouse bb_VR_readHouse 3 none) ({ frames := 4, cells := 0, slots := 0, locals := 87 })).room s m ([ss_v (ss_b G) this] : List Value).toArray below meth c H locs k n (MQ below (ss_Qc G none hh) ([ss_v (ss_b G) this] : List Value).toArray s 0 0 (ss_A G)) g
theorem ck_VR_readHouse {N : Nat} {this : Option Nat} {h : ss_Hp} {res : ss_Hp} (hm : mm_VR_readHouse N this h = some res) : ss_is h this 6 = true := (ss_chk hm).1
set_option maxHeartbeats 4000000 in
set_option maxRecDepth 100000 in
theorem cc_VR_readHouse (l : Launch) (G : ss_G) (N : Nat) (this : Option Nat) (h : ss_Hp) (hh : ss_Hp) (hm : mm_VR_readHouse N this h = some hh) : ss_Ct l G yy_VR_readHouse bb_VR_readHouse 3 none ({ frames := 4, cells := 0, slots := 0, locals := 87 }) [ss_v (ss_b G) this] h none hh := by
  obtain ⟨hck, hm⟩ := ss_chk hm
  refine Met.ofW (cc := bb_VR_readHouse) (maxL := 3) (ret := none) (by decide) rfl ?_
  intro p e s m args below meth c s₁ B hml hv
  obtain ⟨rfl, hR, hK⟩ := hv
  have hC : CallFix p m c bb_VR_readHouse 3 s _ lw_g sR_6 := ⟨B.exec, B.bytes, hml, findClass_of_methodNamed B.named, fun w hw => atoms_spec (ws := ss_w yy_VR_readHouse bb_VR_readHouse 3 none) B.pre w (List.mem_cons_of_mem _ hw)⟩
  have hx := hC.1
  have hb := hC.2.1
  have hr := B.returns
  have hlocks := B.notSynchronized
  have hS : va_S (ss_A G) s.heap s.heap [] := va_S.rf
  have hl := lv_entry ([ss_v (ss_b G) this]) (n := 3) (by simp [lg_sl, ss_v_cat, ss_cat_i, ss_cat_l, ss_cat_r])
  rw [lg_entry_eq]
  generalize (lg_sl ([ss_v (ss_b G) this]) ++ List.replicate (3 - (lg_sl ([ss_v (ss_b G) this])).length) Slot.unset).toArray = ls at hl ⊢
  have hl : lv_has ls 3 [(0, ss_v (ss_b G) this)] := by simpa [lv_args, ss_v_cat, ss_cat_i, ss_cat_l, ss_cat_r] using hl
  have J_95 : ∀ (h_95 : ss_Hp) (H : Heap) (locs : List Loc) (ls : Array Slot), mm_VR_readHouse_j95 N this h_95 = some hh → ss_R G h_95 H → va_S (ss_A G) s.heap H locs → lv_has ls 3 [] → ww_VR_readHouse p l e s m below meth c G this h hh  H locs 0 0 (F0 m 95 ls []) := by
    intro h_95 H locs ls hm hR hS hl
    exact ss_vret hC hr hlocks hR hS hm dd_VR_readHouse_95
  refine ss_aload_n hx hb dd_VR_readHouse_0 rfl (lv_at hl 0 rfl) ?_
  refine lv_iconst (v := -1) hx hb dd_VR_readHouse_1 (by decide) ?_
  obtain ⟨v1, h2, qh2, hm⟩ := ss_bind2 hm
  refine ss_cV 0 0 (As := [.int (-1 : Int32)]) hC hK hR hS hl.1 (cc_VR_readToldStep l G N _ _ _ _ _ qh2) km_VR_109 (ck_VR_readToldStep qh2) ⟨Nat.le_of_ble_eq_true rfl, Nat.le_of_ble_eq_true rfl⟩ ⟨Nat.le_of_ble_eq_true rfl, Nat.le_of_ble_eq_true rfl, Nat.le_of_ble_eq_true rfl, Nat.le_of_ble_eq_true rfl⟩ rfl rfl (Nat.le_of_ble_eq_true rfl) dd_VR_readHouse_2 (fun H locs hR hS => ?_)
  refine lv_istore_n (lv' := [(1, .int v1), (0, ss_v (ss_b G) this)]) hx hb dd_VR_readHouse_5 rfl hl (by decide) (by simp only [List.filter_cons, ss_v_cat]; rfl) (fun ls hl => ?_)
  refine ss_aload_n hx hb dd_VR_readHouse_6 rfl (lv_at hl 1 rfl) ?_
  obtain ⟨r3, qr3, hm⟩ := ss_bind hm
  refine ss_getr hC hK hR kf_VR_21 rfl qr3 dd_VR_readHouse_7 ?_
  obtain ⟨v4, qv4, hm⟩ := ss_bind hm
  refine ss_cV 0 0 (As := []) hC hK hR hS hl.1 (cc_T_isWell l G N _ _ _ qv4) km_VR_45 (ck_T_isWell qv4) ⟨Nat.le_of_ble_eq_true rfl, Nat.le_of_ble_eq_true rfl⟩ ⟨Nat.le_of_ble_eq_true rfl, Nat.le_of_ble_eq_true rfl, Nat.le_of_ble_eq_true rfl, Nat.le_of_ble_eq_true rfl⟩ rfl rfl (Nat.le_of_ble_eq_true rfl) dd_VR_readHouse_10 (fun H locs hR hS => ?_)
  refine lv_if_ne (tgt := 17) hx hb dd_VR_readHouse_13 (by decide) (fun c5 => ?_) (fun c5 => ?_)
  · have hm := ss_iff hm c5
    refine ss_aload_n hx hb dd_VR_readHouse_17 rfl (lv_at hl 1 rfl) ?_
    obtain ⟨r6, qr6, hm⟩ := ss_bind hm
    refine ss_getr hC hK hR kf_VR_21 rfl qr6 dd_VR_readHouse_18 ?_
    refine lv_iconst (v := 1) hx hb dd_VR_readHouse_21 (by decide) ?_
    refine lv_bipush (v := 99) hx hb dd_VR_readHouse_22 (by decide) ?_
    refine lv_iconst (v := -1) hx hb dd_VR_readHouse_24 (by decide) ?_
    obtain ⟨v7, h8, qh8, hm⟩ := ss_bind2 hm
    refine ss_cV 0 0 (As := [.int (1 : Int32), .int (99 : Int32), .int (-1 : Int32)]) hC hK hR hS hl.1 (cc_T_number l G N _ _ _ _ _ _ _ qh8) km_VR_89 (ck_T_number qh8) ⟨Nat.le_of_ble_eq_true rfl, Nat.le_of_ble_eq_true rfl⟩ ⟨Nat.le_of_ble_eq_true rfl, Nat.le_of_ble_eq_true rfl, Nat.le_of_ble_eq_true rfl, Nat.le_of_ble_eq_true rfl⟩ rfl rfl (Nat.le_of_ble_eq_true rfl) dd_VR_readHouse_25 (fun H locs hR hS => ?_)
    refine lv_istore_n (lv' := [(2, .int v7), (1, .int v1), (0, ss_v (ss_b G) this)]) hx hb dd_VR_readHouse_28 rfl hl (by decide) rfl (fun ls hl => ?_)
    refine ss_aload_n hx hb dd_VR_readHouse_29 rfl (lv_at hl 2 rfl) ?_
    obtain ⟨r9, qr9, hm⟩ := ss_bind hm
    refine ss_getr hC hK hR kf_VR_21 rfl qr9 dd_VR_readHouse_30 ?_
    obtain ⟨v10, qv10, hm⟩ := ss_bind hm
    refine ss_cV 0 0 (As := []) hC hK hR hS hl.1 (cc_T_isWell l G N _ _ _ qv10) km_VR_45 (ck_T_isWell qv10) ⟨Nat.le_of_ble_eq_true rfl, Nat.le_of_ble_eq_true rfl⟩ ⟨Nat.le_of_ble_eq_true rfl, Nat.le_of_ble_eq_true rfl, Nat.le_of_ble_eq_true rfl, Nat.le_of_ble_eq_true rfl⟩ rfl rfl (Nat.le_of_ble_eq_true rfl) dd_VR_readHouse_33 (fun H locs hR hS => ?_)
    refine lv_if_eq (tgt := 95) hx hb dd_VR_readHouse_36 (by decide) (fun c11 => ?_) (fun c11 => ?_)
    · have hm := ss_ift hm c11
      exact J_95 h8 _ _ _ hm hR hS (lv_sub hl [] rfl)
    · have hm := ss_iff hm c11
      refine ss_aload_n hx hb dd_VR_readHouse_39 rfl (lv_at hl 2 rfl) ?_
      obtain ⟨r12, qr12, hm⟩ := ss_bind hm
      refine ss_getr hC hK hR kf_VR_18 rfl qr12 dd_VR_readHouse_40 ?_
      obtain ⟨v13, qv13, hm⟩ := ss_bind hm
      refine ss_geti hC hK hR kf_VR_86 qv13 dd_VR_readHouse_43 ?_
      refine lv_iconst (v := 4) hx hb dd_VR_readHouse_46 (by decide) ?_
      refine lv_icmp_ge (tgt := 95) hx hb dd_VR_readHouse_47 (by decide) (fun c14 => ?_) (fun c14 => ?_)
      · have hm := ss_ift hm c14
        exact J_95 h8 _ _ _ hm hR hS (lv_sub hl [] rfl)
      · have hm := ss_iff hm c14
        refine ss_aload_n hx hb dd_VR_readHouse_50 rfl (lv_at hl 2 rfl) ?_
        obtain ⟨r15, qr15, hm⟩ := ss_bind hm
        refine ss_getr hC hK hR kf_VR_18 rfl qr15 dd_VR_readHouse_51 ?_
        obtain ⟨r16, qr16, hm⟩ := ss_bind hm
        refine ss_getr hC hK hR kf_VR_113 rfl qr16 dd_VR_readHouse_54 ?_
        refine ss_aload_n hx hb dd_VR_readHouse_57 rfl (lv_at hl 2 rfl) ?_
        obtain ⟨r17, qr17, hm⟩ := ss_bind hm
        refine ss_getr hC hK hR kf_VR_18 rfl qr17 dd_VR_readHouse_58 ?_
        obtain ⟨v18, qv18, hm⟩ := ss_bind hm
        refine ss_geti hC hK hR kf_VR_86 qv18 dd_VR_readHouse_61 ?_
        refine lv_iload_n hx hb dd_VR_readHouse_64 rfl (lv_at hl 1 rfl) ?_
        obtain ⟨h19, qh19, hm⟩ := ss_bind hm
        refine ss_iast hC hK hR hS qh19 dd_VR_readHouse_65 (fun H locs hR hS => ?_)
        refine ss_aload_n hx hb dd_VR_readHouse_66 rfl (lv_at hl 2 rfl) ?_
        obtain ⟨r20, qr20, hm⟩ := ss_bind hm
        refine ss_getr hC hK hR kf_VR_18 rfl qr20 dd_VR_readHouse_67 ?_
        obtain ⟨r21, qr21, hm⟩ := ss_bind hm
        refine ss_getr hC hK hR kf_VR_116 rfl qr21 dd_VR_readHouse_70 ?_
        refine ss_aload_n hx hb dd_VR_readHouse_73 rfl (lv_at hl 2 rfl) ?_
        obtain ⟨r22, qr22, hm⟩ := ss_bind hm
        refine ss_getr hC hK hR kf_VR_18 rfl qr22 dd_VR_readHouse_74 ?_
        obtain ⟨v23, qv23, hm⟩ := ss_bind hm
        refine ss_geti hC hK hR kf_VR_86 qv23 dd_VR_readHouse_77 ?_
        refine lv_iload_n hx hb dd_VR_readHouse_80 rfl (lv_at hl 0 rfl) ?_
        obtain ⟨h24, qh24, hm⟩ := ss_bind hm
        refine ss_iast hC hK hR hS qh24 dd_VR_readHouse_81 (fun H locs hR hS => ?_)
        refine ss_aload_n hx hb dd_VR_readHouse_82 rfl (lv_at hl 2 rfl) ?_
        obtain ⟨r25, qr25, hm⟩ := ss_bind hm
        refine ss_getr hC hK hR kf_VR_18 rfl qr25 dd_VR_readHouse_83 ?_
        refine ss_dupr hx hb dd_VR_readHouse_86 ?_
        obtain ⟨v26, qv26, hm⟩ := ss_bind hm
        refine ss_geti hC hK hR kf_VR_86 qv26 dd_VR_readHouse_87 ?_
        refine lv_iconst (v := 1) hx hb dd_VR_readHouse_90 (by decide) ?_
        refine lv_iadd hx hb dd_VR_readHouse_91 ?_
        obtain ⟨h27, qh27, hm⟩ := ss_bind hm
        refine ss_puti hC hK hR hS kp_VR_86 qh27 dd_VR_readHouse_92 (fun H locs hR hS => ?_)
        exact J_95 h27 _ _ _ hm hR hS (lv_sub hl [] rfl)
  · have hm := ss_ift hm c5
    exact ss_vret hC hr hlocks hR hS hm dd_VR_readHouse_16
theorem dd_VR_readPath_0 : decode bb_VR_readPath 0 = .ok (.aload_n 0, 1) := by decide +kernel
theorem dd_VR_readPath_1 : decode bb_VR_readPath 1 = .ok (.iconst (-1), 1) := by decide +kernel
theorem dd_VR_readPath_2 : decode bb_VR_readPath 2 = .ok (.invokevirtual 109, 3) := by decide +kernel
theorem dd_VR_readPath_5 : decode bb_VR_readPath 5 = .ok (.istore_n 1, 1) := by decide +kernel
theorem dd_VR_readPath_6 : decode bb_VR_readPath 6 = .ok (.aload_n 0, 1) := by decide +kernel
theorem dd_VR_readPath_7 : decode bb_VR_readPath 7 = .ok (.getfield 21, 3) := by decide +kernel
theorem dd_VR_readPath_10 : decode bb_VR_readPath 10 = .ok (.invokevirtual 45, 3) := by decide +kernel
theorem dd_VR_readPath_13 : decode bb_VR_readPath 13 = .ok (.ifCond .ne 4, 3) := by decide +kernel
theorem dd_VR_readPath_16 : decode bb_VR_readPath 16 = .ok (.return_, 1) := by decide +kernel
theorem dd_VR_readPath_17 : decode bb_VR_readPath 17 = .ok (.aload_n 0, 1) := by decide +kernel
theorem dd_VR_readPath_18 : decode bb_VR_readPath 18 = .ok (.iload_n 1, 1) := by decide +kernel
theorem dd_VR_readPath_19 : decode bb_VR_readPath 19 = .ok (.invokevirtual 109, 3) := by decide +kernel
theorem dd_VR_readPath_22 : decode bb_VR_readPath 22 = .ok (.istore_n 2, 1) := by decide +kernel
theorem dd_VR_readPath_23 : decode bb_VR_readPath 23 = .ok (.aload_n 0, 1) := by decide +kernel
theorem dd_VR_readPath_24 : decode bb_VR_readPath 24 = .ok (.getfield 21, 3) := by decide +kernel
theorem dd_VR_readPath_27 : decode bb_VR_readPath 27 = .ok (.invokevirtual 45, 3) := by decide +kernel
theorem dd_VR_readPath_30 : decode bb_VR_readPath 30 = .ok (.ifCond .eq 33, 3) := by decide +kernel
theorem dd_VR_readPath_33 : decode bb_VR_readPath 33 = .ok (.aload_n 0, 1) := by decide +kernel
theorem dd_VR_readPath_34 : decode bb_VR_readPath 34 = .ok (.getfield 18, 3) := by decide +kernel
theorem dd_VR_readPath_37 : decode bb_VR_readPath 37 = .ok (.getfield 119, 3) := by decide +kernel
theorem dd_VR_readPath_40 : decode bb_VR_readPath 40 = .ok (.iload_n 1, 1) := by decide +kernel
theorem dd_VR_readPath_41 : decode bb_VR_readPath 41 = .ok (.dup2, 1) := by decide +kernel
theorem dd_VR_readPath_42 : decode bb_VR_readPath 42 = .ok (.iaload, 1) := by decide +kernel
theorem dd_VR_readPath_43 : decode bb_VR_readPath 43 = .ok (.iconst 1, 1) := by decide +kernel
theorem dd_VR_readPath_44 : decode bb_VR_readPath 44 = .ok (.iload_n 2, 1) := by decide +kernel
theorem dd_VR_readPath_45 : decode bb_VR_readPath 45 = .ok (.ishl, 1) := by decide +kernel
theorem dd_VR_readPath_46 : decode bb_VR_readPath 46 = .ok (.ior, 1) := by decide +kernel
theorem dd_VR_readPath_47 : decode bb_VR_readPath 47 = .ok (.iastore, 1) := by decide +kernel
theorem dd_VR_readPath_48 : decode bb_VR_readPath 48 = .ok (.aload_n 0, 1) := by decide +kernel
theorem dd_VR_readPath_49 : decode bb_VR_readPath 49 = .ok (.getfield 18, 3) := by decide +kernel
theorem dd_VR_readPath_52 : decode bb_VR_readPath 52 = .ok (.getfield 119, 3) := by decide +kernel
theorem dd_VR_readPath_55 : decode bb_VR_readPath 55 = .ok (.iload_n 2, 1) := by decide +kernel
theorem dd_VR_readPath_56 : decode bb_VR_readPath 56 = .ok (.dup2, 1) := by decide +kernel
theorem dd_VR_readPath_57 : decode bb_VR_readPath 57 = .ok (.iaload, 1) := by decide +kernel
theorem dd_VR_readPath_58 : decode bb_VR_readPath 58 = .ok (.iconst 1, 1) := by decide +kernel
theorem dd_VR_readPath_59 : decode bb_VR_readPath 59 = .ok (.iload_n 1, 1) := by decide +kernel
theorem dd_VR_readPath_60 : decode bb_VR_readPath 60 = .ok (.ishl, 1) := by decide +kernel
theorem dd_VR_readPath_61 : decode bb_VR_readPath 61 = .ok (.ior, 1) := by decide +kernel
theorem dd_VR_readPath_62 : decode bb_VR_readPath 62 = .ok (.iastore, 1) := by decide +kernel
theorem dd_VR_readPath_63 : decode bb_VR_readPath 63 = .ok (.return_, 1) := by decide +kernel
def mm_VR_readPath_j63 (N : Nat) (this : Option Nat) (h_63 : ss_Hp) : Option ss_Hp :=
  some h_63
def mm_VR_readPath (N : Nat) (this : Option Nat) (h : ss_Hp) : Option ss_Hp :=
  if ss_is h this 6 = true then
    ss_b2 (mm_VR_readToldStep N this (-1 : Int32) h) fun v1 h2 =>
    (ss_gr h2 this 6 0).bind fun r3 =>
    (mm_T_isWell N r3 h2).bind fun v4 =>
    if v4 = 0 then
      some h2
    else
      ss_b2 (mm_VR_readToldStep N this v1 h2) fun v6 h7 =>
      (ss_gr h7 this 6 0).bind fun r8 =>
      (mm_T_isWell N r8 h7).bind fun v9 =>
      if v9 = 0 then
        mm_VR_readPath_j63 N this h7
      else
        (ss_gr h7 this 6 2).bind fun r11 =>
        (ss_gr h7 r11 5 2).bind fun r12 =>
        (ss_ai h7 r12 20 v1).bind fun v13 =>
        (ss_ui h7 r12 20 v1 (v13 ||| ((1 : Int32) <<< (v6 &&& 31)))).bind fun h14 =>
        (ss_gr h14 this 6 2).bind fun r15 =>
        (ss_gr h14 r15 5 2).bind fun r16 =>
        (ss_ai h14 r16 20 v6).bind fun v17 =>
        (ss_ui h14 r16 20 v6 (v17 ||| ((1 : Int32) <<< (v1 &&& 31)))).bind fun h18 =>
        mm_VR_readPath_j63 N this h18
  else none
abbrev ww_VR_readPath (p : Program) (l : Launch) (e : Env) (s : State) (m : MethodId) (below : List Frame) (meth : Method) (c : Code) (G : ss_G) (this : Option Nat) (h : ss_Hp) (hh : ss_Hp) (H : Heap) (locs : List Loc) (k n : Nat) (g : JFrame) : Prop := W p l e (headSpec (ss_w yy_VR_readPath bb_VR_readPath 3 none) ({ frames := 4, cells := 0, slots := 0, locals := 87 })).room s m ([ss_v (ss_b G) this] : List Value).toArray below meth c H locs k n (MQ below (ss_Qc G none hh) ([ss_v (ss_b G) this] : List Value).toArray s 0 0 (ss_A G)) g
theorem ck_VR_readPath {N : Nat} {this : Option Nat} {h : ss_Hp} {res : ss_Hp} (hm : mm_VR_readPath N this h = some res) : ss_is h this 6 = true := (ss_chk hm).1
set_option maxHeartbeats 4000000 in
set_option maxRecDepth 100000 in
theorem cc_VR_readPath (l : Launch) (G : ss_G) (N : Nat) (this : Option Nat) (h : ss_Hp) (hh : ss_Hp) (hm : mm_VR_readPath N this h = some hh) : ss_Ct l G yy_VR_readPath bb_VR_readPath 3 none ({ frames := 4, cells := 0, slots := 0, locals := 87 }) [ss_v (ss_b G) this] h none hh := by
  obtain ⟨hck, hm⟩ := ss_chk hm
  refine Met.ofW (cc := bb_VR_readPath) (maxL := 3) (ret := none) (by decide) rfl ?_
  intro p e s m args below meth c s₁ B hml hv
  obtain ⟨rfl, hR, hK⟩ := hv
  have hC : CallFix p m c bb_VR_readPath 3 s _ lw_g sR_6 := ⟨B.exec, B.bytes, hml, findClass_of_methodNamed B.named, fun w hw => atoms_spec (ws := ss_w yy_VR_readPath bb_VR_readPath 3 none) B.pre w (List.mem_cons_of_mem _ hw)⟩
  have hx := hC.1
  have hb := hC.2.1
  have hr := B.returns
  have hlocks := B.notSynchronized
  have hS : va_S (ss_A G) s.heap s.heap [] := va_S.rf
  have hl := lv_entry ([ss_v (ss_b G) this]) (n := 3) (by simp [lg_sl, ss_v_cat, ss_cat_i, ss_cat_l, ss_cat_r])
  rw [lg_entry_eq]
  generalize (lg_sl ([ss_v (ss_b G) this]) ++ List.replicate (3 - (lg_sl ([ss_v (ss_b G) this])).length) Slot.unset).toArray = ls at hl ⊢
  have hl : lv_has ls 3 [(0, ss_v (ss_b G) this)] := by simpa [lv_args, ss_v_cat, ss_cat_i, ss_cat_l, ss_cat_r] using hl
  have J_63 : ∀ (h_63 : ss_Hp) (H : Heap) (locs : List Loc) (ls : Array Slot), mm_VR_readPath_j63 N this h_63 = some hh → ss_R G h_63 H → va_S (ss_A G) s.heap H locs → lv_has ls 3 [] → ww_VR_readPath p l e s m below meth c G this h hh  H locs 0 0 (F0 m 63 ls []) := by
    intro h_63 H locs ls hm hR hS hl
    exact ss_vret hC hr hlocks hR hS hm dd_VR_readPath_63
  refine ss_aload_n hx hb dd_VR_readPath_0 rfl (lv_at hl 0 rfl) ?_
  refine lv_iconst (v := -1) hx hb dd_VR_readPath_1 (by decide) ?_
  obtain ⟨v1, h2, qh2, hm⟩ := ss_bind2 hm
  refine ss_cV 0 0 (As := [.int (-1 : Int32)]) hC hK hR hS hl.1 (cc_VR_readToldStep l G N _ _ _ _ _ qh2) km_VR_109 (ck_VR_readToldStep qh2) ⟨Nat.le_of_ble_eq_true rfl, Nat.le_of_ble_eq_true rfl⟩ ⟨Nat.le_of_ble_eq_true rfl, Nat.le_of_ble_eq_true rfl, Nat.le_of_ble_eq_true rfl, Nat.le_of_ble_eq_true rfl⟩ rfl rfl (Nat.le_of_ble_eq_true rfl) dd_VR_readPath_2 (fun H locs hR hS => ?_)
  refine lv_istore_n (lv' := [(1, .int v1), (0, ss_v (ss_b G) this)]) hx hb dd_VR_readPath_5 rfl hl (by decide) (by simp only [List.filter_cons, ss_v_cat]; rfl) (fun ls hl => ?_)
  refine ss_aload_n hx hb dd_VR_readPath_6 rfl (lv_at hl 1 rfl) ?_
  obtain ⟨r3, qr3, hm⟩ := ss_bind hm
  refine ss_getr hC hK hR kf_VR_21 rfl qr3 dd_VR_readPath_7 ?_
  obtain ⟨v4, qv4, hm⟩ := ss_bind hm
  refine ss_cV 0 0 (As := []) hC hK hR hS hl.1 (cc_T_isWell l G N _ _ _ qv4) km_VR_45 (ck_T_isWell qv4) ⟨Nat.le_of_ble_eq_true rfl, Nat.le_of_ble_eq_true rfl⟩ ⟨Nat.le_of_ble_eq_true rfl, Nat.le_of_ble_eq_true rfl, Nat.le_of_ble_eq_true rfl, Nat.le_of_ble_eq_true rfl⟩ rfl rfl (Nat.le_of_ble_eq_true rfl) dd_VR_readPath_10 (fun H locs hR hS => ?_)
  refine lv_if_ne (tgt := 17) hx hb dd_VR_readPath_13 (by decide) (fun c5 => ?_) (fun c5 => ?_)
  · have hm := ss_iff hm c5
    refine ss_aload_n hx hb dd_VR_readPath_17 rfl (lv_at hl 1 rfl) ?_
    refine lv_iload_n hx hb dd_VR_readPath_18 rfl (lv_at hl 0 rfl) ?_
    obtain ⟨v6, h7, qh7, hm⟩ := ss_bind2 hm
    refine ss_cV 0 0 (As := [.int v1]) hC hK hR hS hl.1 (cc_VR_readToldStep l G N _ _ _ _ _ qh7) km_VR_109 (ck_VR_readToldStep qh7) ⟨Nat.le_of_ble_eq_true rfl, Nat.le_of_ble_eq_true rfl⟩ ⟨Nat.le_of_ble_eq_true rfl, Nat.le_of_ble_eq_true rfl, Nat.le_of_ble_eq_true rfl, Nat.le_of_ble_eq_true rfl⟩ rfl rfl (Nat.le_of_ble_eq_true rfl) dd_VR_readPath_19 (fun H locs hR hS => ?_)
    refine lv_istore_n (lv' := [(2, .int v6), (1, .int v1), (0, ss_v (ss_b G) this)]) hx hb dd_VR_readPath_22 rfl hl (by decide) rfl (fun ls hl => ?_)
    refine ss_aload_n hx hb dd_VR_readPath_23 rfl (lv_at hl 2 rfl) ?_
    obtain ⟨r8, qr8, hm⟩ := ss_bind hm
    refine ss_getr hC hK hR kf_VR_21 rfl qr8 dd_VR_readPath_24 ?_
    obtain ⟨v9, qv9, hm⟩ := ss_bind hm
    refine ss_cV 0 0 (As := []) hC hK hR hS hl.1 (cc_T_isWell l G N _ _ _ qv9) km_VR_45 (ck_T_isWell qv9) ⟨Nat.le_of_ble_eq_true rfl, Nat.le_of_ble_eq_true rfl⟩ ⟨Nat.le_of_ble_eq_true rfl, Nat.le_of_ble_eq_true rfl, Nat.le_of_ble_eq_true rfl, Nat.le_of_ble_eq_true rfl⟩ rfl rfl (Nat.le_of_ble_eq_true rfl) dd_VR_readPath_27 (fun H locs hR hS => ?_)
    refine lv_if_eq (tgt := 63) hx hb dd_VR_readPath_30 (by decide) (fun c10 => ?_) (fun c10 => ?_)
    · have hm := ss_ift hm c10
      exact J_63 h7 _ _ _ hm hR hS (lv_sub hl [] rfl)
    · have hm := ss_iff hm c10
      refine ss_aload_n hx hb dd_VR_readPath_33 rfl (lv_at hl 2 rfl) ?_
      obtain ⟨r11, qr11, hm⟩ := ss_bind hm
      refine ss_getr hC hK hR kf_VR_18 rfl qr11 dd_VR_readPath_34 ?_
      obtain ⟨r12, qr12, hm⟩ := ss_bind hm
      refine ss_getr hC hK hR kf_VR_119 rfl qr12 dd_VR_readPath_37 ?_
      refine lv_iload_n hx hb dd_VR_readPath_40 rfl (lv_at hl 1 rfl) ?_
      refine ss_dup2ir hx hb dd_VR_readPath_41 ?_
      obtain ⟨v13, qv13, hm⟩ := ss_bind hm
      refine ss_iald hC hK hR qv13 dd_VR_readPath_42 ?_
      refine lv_iconst (v := 1) hx hb dd_VR_readPath_43 (by decide) ?_
      refine lv_iload_n hx hb dd_VR_readPath_44 rfl (lv_at hl 0 rfl) ?_
      refine lv_ishl hx hb dd_VR_readPath_45 ?_
      refine lv_ior hx hb dd_VR_readPath_46 ?_
      obtain ⟨h14, qh14, hm⟩ := ss_bind hm
      refine ss_iast hC hK hR hS qh14 dd_VR_readPath_47 (fun H locs hR hS => ?_)
      refine ss_aload_n hx hb dd_VR_readPath_48 rfl (lv_at hl 2 rfl) ?_
      obtain ⟨r15, qr15, hm⟩ := ss_bind hm
      refine ss_getr hC hK hR kf_VR_18 rfl qr15 dd_VR_readPath_49 ?_
      obtain ⟨r16, qr16, hm⟩ := ss_bind hm
      refine ss_getr hC hK hR kf_VR_119 rfl qr16 dd_VR_readPath_52 ?_
      refine lv_iload_n hx hb dd_VR_readPath_55 rfl (lv_at hl 0 rfl) ?_
      refine ss_dup2ir hx hb dd_VR_readPath_56 ?_
      obtain ⟨v17, qv17, hm⟩ := ss_bind hm
      refine ss_iald hC hK hR qv17 dd_VR_readPath_57 ?_
      refine lv_iconst (v := 1) hx hb dd_VR_readPath_58 (by decide) ?_
      refine lv_iload_n hx hb dd_VR_readPath_59 rfl (lv_at hl 1 rfl) ?_
      refine lv_ishl hx hb dd_VR_readPath_60 ?_
      refine lv_ior hx hb dd_VR_readPath_61 ?_
      obtain ⟨h18, qh18, hm⟩ := ss_bind hm
      refine ss_iast hC hK hR hS qh18 dd_VR_readPath_62 (fun H locs hR hS => ?_)
      exact J_63 h18 _ _ _ hm hR hS (lv_sub hl [] rfl)
  · have hm := ss_ift hm c5
    exact ss_vret hC hr hlocks hR hS hm dd_VR_readPath_16
theorem dd_VR_readWall_0 : decode bb_VR_readWall 0 = .ok (.aload_n 0, 1) := by decide +kernel
theorem dd_VR_readWall_1 : decode bb_VR_readWall 1 = .ok (.iconst (-1), 1) := by decide +kernel
theorem dd_VR_readWall_2 : decode bb_VR_readWall 2 = .ok (.invokevirtual 109, 3) := by decide +kernel
theorem dd_VR_readWall_5 : decode bb_VR_readWall 5 = .ok (.istore_n 1, 1) := by decide +kernel
theorem dd_VR_readWall_6 : decode bb_VR_readWall 6 = .ok (.aload_n 0, 1) := by decide +kernel
theorem dd_VR_readWall_7 : decode bb_VR_readWall 7 = .ok (.getfield 21, 3) := by decide +kernel
theorem dd_VR_readWall_10 : decode bb_VR_readWall 10 = .ok (.invokevirtual 45, 3) := by decide +kernel
theorem dd_VR_readWall_13 : decode bb_VR_readWall 13 = .ok (.ifCond .ne 4, 3) := by decide +kernel
theorem dd_VR_readWall_16 : decode bb_VR_readWall 16 = .ok (.return_, 1) := by decide +kernel
theorem dd_VR_readWall_17 : decode bb_VR_readWall 17 = .ok (.aload_n 0, 1) := by decide +kernel
theorem dd_VR_readWall_18 : decode bb_VR_readWall 18 = .ok (.iload_n 1, 1) := by decide +kernel
theorem dd_VR_readWall_19 : decode bb_VR_readWall 19 = .ok (.invokevirtual 109, 3) := by decide +kernel
theorem dd_VR_readWall_22 : decode bb_VR_readWall 22 = .ok (.istore_n 2, 1) := by decide +kernel
theorem dd_VR_readWall_23 : decode bb_VR_readWall 23 = .ok (.aload_n 0, 1) := by decide +kernel
theorem dd_VR_readWall_24 : decode bb_VR_readWall 24 = .ok (.getfield 21, 3) := by decide +kernel
theorem dd_VR_readWall_27 : decode bb_VR_readWall 27 = .ok (.invokevirtual 45, 3) := by decide +kernel
theorem dd_VR_readWall_30 : decode bb_VR_readWall 30 = .ok (.ifCond .eq 16, 3) := by decide +kernel
theorem dd_VR_readWall_33 : decode bb_VR_readWall 33 = .ok (.aload_n 0, 1) := by decide +kernel
theorem dd_VR_readWall_34 : decode bb_VR_readWall 34 = .ok (.getfield 18, 3) := by decide +kernel
theorem dd_VR_readWall_37 : decode bb_VR_readWall 37 = .ok (.getfield 99, 3) := by decide +kernel
theorem dd_VR_readWall_40 : decode bb_VR_readWall 40 = .ok (.getfield 122, 3) := by decide +kernel
theorem dd_VR_readWall_43 : decode bb_VR_readWall 43 = .ok (.iload_n 1, 1) := by decide +kernel
theorem dd_VR_readWall_44 : decode bb_VR_readWall 44 = .ok (.iload_n 2, 1) := by decide +kernel
theorem dd_VR_readWall_45 : decode bb_VR_readWall 45 = .ok (.iastore, 1) := by decide +kernel
theorem dd_VR_readWall_46 : decode bb_VR_readWall 46 = .ok (.return_, 1) := by decide +kernel
def mm_VR_readWall_j46 (N : Nat) (this : Option Nat) (h_46 : ss_Hp) : Option ss_Hp :=
  some h_46
def mm_VR_readWall (N : Nat) (this : Option Nat) (h : ss_Hp) : Option ss_Hp :=
  if ss_is h this 6 = true then
    ss_b2 (mm_VR_readToldStep N this (-1 : Int32) h) fun v1 h2 =>
    (ss_gr h2 this 6 0).bind fun r3 =>
    (mm_T_isWell N r3 h2).bind fun v4 =>
    if v4 = 0 then
      some h2
    else
      ss_b2 (mm_VR_readToldStep N this v1 h2) fun v6 h7 =>
      (ss_gr h7 this 6 0).bind fun r8 =>
      (mm_T_isWell N r8 h7).bind fun v9 =>
      if v9 = 0 then
        mm_VR_readWall_j46 N this h7
      else
        (ss_gr h7 this 6 2).bind fun r11 =>
        (ss_gr h7 r11 5 4).bind fun r12 =>
        (ss_gr h7 r12 0 1).bind fun r13 =>
        (ss_ui h7 r13 20 v1 v6).bind fun h14 =>
        mm_VR_readWall_j46 N this h14
  else none
abbrev ww_VR_readWall (p : Program) (l : Launch) (e : Env) (s : State) (m : MethodId) (below : List Frame) (meth : Method) (c : Code) (G : ss_G) (this : Option Nat) (h : ss_Hp) (hh : ss_Hp) (H : Heap) (locs : List Loc) (k n : Nat) (g : JFrame) : Prop := W p l e (headSpec (ss_w yy_VR_readWall bb_VR_readWall 3 none) ({ frames := 4, cells := 0, slots := 0, locals := 87 })).room s m ([ss_v (ss_b G) this] : List Value).toArray below meth c H locs k n (MQ below (ss_Qc G none hh) ([ss_v (ss_b G) this] : List Value).toArray s 0 0 (ss_A G)) g
theorem ck_VR_readWall {N : Nat} {this : Option Nat} {h : ss_Hp} {res : ss_Hp} (hm : mm_VR_readWall N this h = some res) : ss_is h this 6 = true := (ss_chk hm).1
set_option maxHeartbeats 4000000 in
set_option maxRecDepth 100000 in
theorem cc_VR_readWall (l : Launch) (G : ss_G) (N : Nat) (this : Option Nat) (h : ss_Hp) (hh : ss_Hp) (hm : mm_VR_readWall N this h = some hh) : ss_Ct l G yy_VR_readWall bb_VR_readWall 3 none ({ frames := 4, cells := 0, slots := 0, locals := 87 }) [ss_v (ss_b G) this] h none hh := by
  obtain ⟨hck, hm⟩ := ss_chk hm
  refine Met.ofW (cc := bb_VR_readWall) (maxL := 3) (ret := none) (by decide) rfl ?_
  intro p e s m args below meth c s₁ B hml hv
  obtain ⟨rfl, hR, hK⟩ := hv
  have hC : CallFix p m c bb_VR_readWall 3 s _ lw_g sR_6 := ⟨B.exec, B.bytes, hml, findClass_of_methodNamed B.named, fun w hw => atoms_spec (ws := ss_w yy_VR_readWall bb_VR_readWall 3 none) B.pre w (List.mem_cons_of_mem _ hw)⟩
  have hx := hC.1
  have hb := hC.2.1
  have hr := B.returns
  have hlocks := B.notSynchronized
  have hS : va_S (ss_A G) s.heap s.heap [] := va_S.rf
  have hl := lv_entry ([ss_v (ss_b G) this]) (n := 3) (by simp [lg_sl, ss_v_cat, ss_cat_i, ss_cat_l, ss_cat_r])
  rw [lg_entry_eq]
  generalize (lg_sl ([ss_v (ss_b G) this]) ++ List.replicate (3 - (lg_sl ([ss_v (ss_b G) this])).length) Slot.unset).toArray = ls at hl ⊢
  have hl : lv_has ls 3 [(0, ss_v (ss_b G) this)] := by simpa [lv_args, ss_v_cat, ss_cat_i, ss_cat_l, ss_cat_r] using hl
  have J_46 : ∀ (h_46 : ss_Hp) (H : Heap) (locs : List Loc) (ls : Array Slot), mm_VR_readWall_j46 N this h_46 = some hh → ss_R G h_46 H → va_S (ss_A G) s.heap H locs → lv_has ls 3 [] → ww_VR_readWall p l e s m below meth c G this h hh  H locs 0 0 (F0 m 46 ls []) := by
    intro h_46 H locs ls hm hR hS hl
    exact ss_vret hC hr hlocks hR hS hm dd_VR_readWall_46
  refine ss_aload_n hx hb dd_VR_readWall_0 rfl (lv_at hl 0 rfl) ?_
  refine lv_iconst (v := -1) hx hb dd_VR_readWall_1 (by decide) ?_
  obtain ⟨v1, h2, qh2, hm⟩ := ss_bind2 hm
  refine ss_cV 0 0 (As := [.int (-1 : Int32)]) hC hK hR hS hl.1 (cc_VR_readToldStep l G N _ _ _ _ _ qh2) km_VR_109 (ck_VR_readToldStep qh2) ⟨Nat.le_of_ble_eq_true rfl, Nat.le_of_ble_eq_true rfl⟩ ⟨Nat.le_of_ble_eq_true rfl, Nat.le_of_ble_eq_true rfl, Nat.le_of_ble_eq_true rfl, Nat.le_of_ble_eq_true rfl⟩ rfl rfl (Nat.le_of_ble_eq_true rfl) dd_VR_readWall_2 (fun H locs hR hS => ?_)
  refine lv_istore_n (lv' := [(1, .int v1), (0, ss_v (ss_b G) this)]) hx hb dd_VR_readWall_5 rfl hl (by decide) (by simp only [List.filter_cons, ss_v_cat]; rfl) (fun ls hl => ?_)
  refine ss_aload_n hx hb dd_VR_readWall_6 rfl (lv_at hl 1 rfl) ?_
  obtain ⟨r3, qr3, hm⟩ := ss_bind hm
  refine ss_getr hC hK hR kf_VR_21 rfl qr3 dd_VR_readWall_7 ?_
  obtain ⟨v4, qv4, hm⟩ := ss_bind hm
  refine ss_cV 0 0 (As := []) hC hK hR hS hl.1 (cc_T_isWell l G N _ _ _ qv4) km_VR_45 (ck_T_isWell qv4) ⟨Nat.le_of_ble_eq_true rfl, Nat.le_of_ble_eq_true rfl⟩ ⟨Nat.le_of_ble_eq_true rfl, Nat.le_of_ble_eq_true rfl, Nat.le_of_ble_eq_true rfl, Nat.le_of_ble_eq_true rfl⟩ rfl rfl (Nat.le_of_ble_eq_true rfl) dd_VR_readWall_10 (fun H locs hR hS => ?_)
  refine lv_if_ne (tgt := 17) hx hb dd_VR_readWall_13 (by decide) (fun c5 => ?_) (fun c5 => ?_)
  · have hm := ss_iff hm c5
    refine ss_aload_n hx hb dd_VR_readWall_17 rfl (lv_at hl 1 rfl) ?_
    refine lv_iload_n hx hb dd_VR_readWall_18 rfl (lv_at hl 0 rfl) ?_
    obtain ⟨v6, h7, qh7, hm⟩ := ss_bind2 hm
    refine ss_cV 0 0 (As := [.int v1]) hC hK hR hS hl.1 (cc_VR_readToldStep l G N _ _ _ _ _ qh7) km_VR_109 (ck_VR_readToldStep qh7) ⟨Nat.le_of_ble_eq_true rfl, Nat.le_of_ble_eq_true rfl⟩ ⟨Nat.le_of_ble_eq_true rfl, Nat.le_of_ble_eq_true rfl, Nat.le_of_ble_eq_true rfl, Nat.le_of_ble_eq_true rfl⟩ rfl rfl (Nat.le_of_ble_eq_true rfl) dd_VR_readWall_19 (fun H locs hR hS => ?_)
    refine lv_istore_n (lv' := [(2, .int v6), (1, .int v1), (0, ss_v (ss_b G) this)]) hx hb dd_VR_readWall_22 rfl hl (by decide) rfl (fun ls hl => ?_)
    refine ss_aload_n hx hb dd_VR_readWall_23 rfl (lv_at hl 2 rfl) ?_
    obtain ⟨r8, qr8, hm⟩ := ss_bind hm
    refine ss_getr hC hK hR kf_VR_21 rfl qr8 dd_VR_readWall_24 ?_
    obtain ⟨v9, qv9, hm⟩ := ss_bind hm
    refine ss_cV 0 0 (As := []) hC hK hR hS hl.1 (cc_T_isWell l G N _ _ _ qv9) km_VR_45 (ck_T_isWell qv9) ⟨Nat.le_of_ble_eq_true rfl, Nat.le_of_ble_eq_true rfl⟩ ⟨Nat.le_of_ble_eq_true rfl, Nat.le_of_ble_eq_true rfl, Nat.le_of_ble_eq_true rfl, Nat.le_of_ble_eq_true rfl⟩ rfl rfl (Nat.le_of_ble_eq_true rfl) dd_VR_readWall_27 (fun H locs hR hS => ?_)
    refine lv_if_eq (tgt := 46) hx hb dd_VR_readWall_30 (by decide) (fun c10 => ?_) (fun c10 => ?_)
    · have hm := ss_ift hm c10
      exact J_46 h7 _ _ _ hm hR hS (lv_sub hl [] rfl)
    · have hm := ss_iff hm c10
      refine ss_aload_n hx hb dd_VR_readWall_33 rfl (lv_at hl 2 rfl) ?_
      obtain ⟨r11, qr11, hm⟩ := ss_bind hm
      refine ss_getr hC hK hR kf_VR_18 rfl qr11 dd_VR_readWall_34 ?_
      obtain ⟨r12, qr12, hm⟩ := ss_bind hm
      refine ss_getr hC hK hR kf_VR_99 rfl qr12 dd_VR_readWall_37 ?_
      obtain ⟨r13, qr13, hm⟩ := ss_bind hm
      refine ss_getr hC hK hR kf_VR_122 rfl qr13 dd_VR_readWall_40 ?_
      refine lv_iload_n hx hb dd_VR_readWall_43 rfl (lv_at hl 1 rfl) ?_
      refine lv_iload_n hx hb dd_VR_readWall_44 rfl (lv_at hl 0 rfl) ?_
      obtain ⟨h14, qh14, hm⟩ := ss_bind hm
      refine ss_iast hC hK hR hS qh14 dd_VR_readWall_45 (fun H locs hR hS => ?_)
      exact J_46 h14 _ _ _ hm hR hS (lv_sub hl [] rfl)
  · have hm := ss_ift hm c5
    exact ss_vret hC hr hlocks hR hS hm dd_VR_readWall_16
theorem dd_VR_readNeed_0 : decode bb_VR_readNeed 0 = .ok (.aload_n 0, 1) := by decide +kernel
theorem dd_VR_readNeed_1 : decode bb_VR_readNeed 1 = .ok (.getfield 21, 3) := by decide +kernel
theorem dd_VR_readNeed_4 : decode bb_VR_readNeed 4 = .ok (.iconst 0, 1) := by decide +kernel
theorem dd_VR_readNeed_5 : decode bb_VR_readNeed 5 = .ok (.bipush 30, 2) := by decide +kernel
theorem dd_VR_readNeed_7 : decode bb_VR_readNeed 7 = .ok (.iconst (-1), 1) := by decide +kernel
theorem dd_VR_readNeed_8 : decode bb_VR_readNeed 8 = .ok (.invokevirtual 89, 3) := by decide +kernel
theorem dd_VR_readNeed_11 : decode bb_VR_readNeed 11 = .ok (.istore_n 1, 1) := by decide +kernel
theorem dd_VR_readNeed_12 : decode bb_VR_readNeed 12 = .ok (.aload_n 0, 1) := by decide +kernel
theorem dd_VR_readNeed_13 : decode bb_VR_readNeed 13 = .ok (.getfield 21, 3) := by decide +kernel
theorem dd_VR_readNeed_16 : decode bb_VR_readNeed 16 = .ok (.invokevirtual 45, 3) := by decide +kernel
theorem dd_VR_readNeed_19 : decode bb_VR_readNeed 19 = .ok (.ifCond .ne 4, 3) := by decide +kernel
theorem dd_VR_readNeed_22 : decode bb_VR_readNeed 22 = .ok (.return_, 1) := by decide +kernel
theorem dd_VR_readNeed_23 : decode bb_VR_readNeed 23 = .ok (.aload_n 0, 1) := by decide +kernel
theorem dd_VR_readNeed_24 : decode bb_VR_readNeed 24 = .ok (.iconst (-1), 1) := by decide +kernel
theorem dd_VR_readNeed_25 : decode bb_VR_readNeed 25 = .ok (.invokevirtual 109, 3) := by decide +kernel
theorem dd_VR_readNeed_28 : decode bb_VR_readNeed 28 = .ok (.istore_n 2, 1) := by decide +kernel
theorem dd_VR_readNeed_29 : decode bb_VR_readNeed 29 = .ok (.aload_n 0, 1) := by decide +kernel
theorem dd_VR_readNeed_30 : decode bb_VR_readNeed 30 = .ok (.getfield 21, 3) := by decide +kernel
theorem dd_VR_readNeed_33 : decode bb_VR_readNeed 33 = .ok (.invokevirtual 45, 3) := by decide +kernel
theorem dd_VR_readNeed_36 : decode bb_VR_readNeed 36 = .ok (.ifCond .eq 18, 3) := by decide +kernel
theorem dd_VR_readNeed_39 : decode bb_VR_readNeed 39 = .ok (.aload_n 0, 1) := by decide +kernel
theorem dd_VR_readNeed_40 : decode bb_VR_readNeed 40 = .ok (.getfield 18, 3) := by decide +kernel
theorem dd_VR_readNeed_43 : decode bb_VR_readNeed 43 = .ok (.getfield 125, 3) := by decide +kernel
theorem dd_VR_readNeed_46 : decode bb_VR_readNeed 46 = .ok (.iload_n 2, 1) := by decide +kernel
theorem dd_VR_readNeed_47 : decode bb_VR_readNeed 47 = .ok (.dup2, 1) := by decide +kernel
theorem dd_VR_readNeed_48 : decode bb_VR_readNeed 48 = .ok (.iaload, 1) := by decide +kernel
theorem dd_VR_readNeed_49 : decode bb_VR_readNeed 49 = .ok (.iconst 1, 1) := by decide +kernel
theorem dd_VR_readNeed_50 : decode bb_VR_readNeed 50 = .ok (.iload_n 1, 1) := by decide +kernel
theorem dd_VR_readNeed_51 : decode bb_VR_readNeed 51 = .ok (.ishl, 1) := by decide +kernel
theorem dd_VR_readNeed_52 : decode bb_VR_readNeed 52 = .ok (.ior, 1) := by decide +kernel
theorem dd_VR_readNeed_53 : decode bb_VR_readNeed 53 = .ok (.iastore, 1) := by decide +kernel
theorem dd_VR_readNeed_54 : decode bb_VR_readNeed 54 = .ok (.return_, 1) := by decide +kernel
def mm_VR_readNeed_j54 (N : Nat) (this : Option Nat) (h_54 : ss_Hp) : Option ss_Hp :=
  some h_54
def mm_VR_readNeed (N : Nat) (this : Option Nat) (h : ss_Hp) : Option ss_Hp :=
  if ss_is h this 6 = true then
    (ss_gr h this 6 0).bind fun r1 =>
    ss_b2 (mm_T_number N r1 (0 : Int32) (30 : Int32) (-1 : Int32) h) fun v2 h3 =>
    (ss_gr h3 this 6 0).bind fun r4 =>
    (mm_T_isWell N r4 h3).bind fun v5 =>
    if v5 = 0 then
      some h3
    else
      ss_b2 (mm_VR_readToldStep N this (-1 : Int32) h3) fun v7 h8 =>
      (ss_gr h8 this 6 0).bind fun r9 =>
      (mm_T_isWell N r9 h8).bind fun v10 =>
      if v10 = 0 then
        mm_VR_readNeed_j54 N this h8
      else
        (ss_gr h8 this 6 2).bind fun r12 =>
        (ss_gr h8 r12 5 3).bind fun r13 =>
        (ss_ai h8 r13 20 v7).bind fun v14 =>
        (ss_ui h8 r13 20 v7 (v14 ||| ((1 : Int32) <<< (v2 &&& 31)))).bind fun h15 =>
        mm_VR_readNeed_j54 N this h15
  else none
abbrev ww_VR_readNeed (p : Program) (l : Launch) (e : Env) (s : State) (m : MethodId) (below : List Frame) (meth : Method) (c : Code) (G : ss_G) (this : Option Nat) (h : ss_Hp) (hh : ss_Hp) (H : Heap) (locs : List Loc) (k n : Nat) (g : JFrame) : Prop := W p l e (headSpec (ss_w yy_VR_readNeed bb_VR_readNeed 3 none) ({ frames := 4, cells := 0, slots := 0, locals := 87 })).room s m ([ss_v (ss_b G) this] : List Value).toArray below meth c H locs k n (MQ below (ss_Qc G none hh) ([ss_v (ss_b G) this] : List Value).toArray s 0 0 (ss_A G)) g
theorem ck_VR_readNeed {N : Nat} {this : Option Nat} {h : ss_Hp} {res : ss_Hp} (hm : mm_VR_readNeed N this h = some res) : ss_is h this 6 = true := (ss_chk hm).1
set_option maxHeartbeats 4000000 in
set_option maxRecDepth 100000 in
theorem cc_VR_readNeed (l : Launch) (G : ss_G) (N : Nat) (this : Option Nat) (h : ss_Hp) (hh : ss_Hp) (hm : mm_VR_readNeed N this h = some hh) : ss_Ct l G yy_VR_readNeed bb_VR_readNeed 3 none ({ frames := 4, cells := 0, slots := 0, locals := 87 }) [ss_v (ss_b G) this] h none hh := by
  obtain ⟨hck, hm⟩ := ss_chk hm
  refine Met.ofW (cc := bb_VR_readNeed) (maxL := 3) (ret := none) (by decide) rfl ?_
  intro p e s m args below meth c s₁ B hml hv
  obtain ⟨rfl, hR, hK⟩ := hv
  have hC : CallFix p m c bb_VR_readNeed 3 s _ lw_g sR_6 := ⟨B.exec, B.bytes, hml, findClass_of_methodNamed B.named, fun w hw => atoms_spec (ws := ss_w yy_VR_readNeed bb_VR_readNeed 3 none) B.pre w (List.mem_cons_of_mem _ hw)⟩
  have hx := hC.1
  have hb := hC.2.1
  have hr := B.returns
  have hlocks := B.notSynchronized
  have hS : va_S (ss_A G) s.heap s.heap [] := va_S.rf
  have hl := lv_entry ([ss_v (ss_b G) this]) (n := 3) (by simp [lg_sl, ss_v_cat, ss_cat_i, ss_cat_l, ss_cat_r])
  rw [lg_entry_eq]
  generalize (lg_sl ([ss_v (ss_b G) this]) ++ List.replicate (3 - (lg_sl ([ss_v (ss_b G) this])).length) Slot.unset).toArray = ls at hl ⊢
  have hl : lv_has ls 3 [(0, ss_v (ss_b G) this)] := by simpa [lv_args, ss_v_cat, ss_cat_i, ss_cat_l, ss_cat_r] using hl
  have J_54 : ∀ (h_54 : ss_Hp) (H : Heap) (locs : List Loc) (ls : Array Slot), mm_VR_readNeed_j54 N this h_54 = some hh → ss_R G h_54 H → va_S (ss_A G) s.heap H locs → lv_has ls 3 [] → ww_VR_readNeed p l e s m below meth c G this h hh  H locs 0 0 (F0 m 54 ls []) := by
    intro h_54 H locs ls hm hR hS hl
    exact ss_vret hC hr hlocks hR hS hm dd_VR_readNeed_54
  refine ss_aload_n hx hb dd_VR_readNeed_0 rfl (lv_at hl 0 rfl) ?_
  obtain ⟨r1, qr1, hm⟩ := ss_bind hm
  refine ss_getr hC hK hR kf_VR_21 rfl qr1 dd_VR_readNeed_1 ?_
  refine lv_iconst (v := 0) hx hb dd_VR_readNeed_4 (by decide) ?_
  refine lv_bipush (v := 30) hx hb dd_VR_readNeed_5 (by decide) ?_
  refine lv_iconst (v := -1) hx hb dd_VR_readNeed_7 (by decide) ?_
  obtain ⟨v2, h3, qh3, hm⟩ := ss_bind2 hm
  refine ss_cV 0 0 (As := [.int (0 : Int32), .int (30 : Int32), .int (-1 : Int32)]) hC hK hR hS hl.1 (cc_T_number l G N _ _ _ _ _ _ _ qh3) km_VR_89 (ck_T_number qh3) ⟨Nat.le_of_ble_eq_true rfl, Nat.le_of_ble_eq_true rfl⟩ ⟨Nat.le_of_ble_eq_true rfl, Nat.le_of_ble_eq_true rfl, Nat.le_of_ble_eq_true rfl, Nat.le_of_ble_eq_true rfl⟩ rfl rfl (Nat.le_of_ble_eq_true rfl) dd_VR_readNeed_8 (fun H locs hR hS => ?_)
  refine lv_istore_n (lv' := [(1, .int v2), (0, ss_v (ss_b G) this)]) hx hb dd_VR_readNeed_11 rfl hl (by decide) (by simp only [List.filter_cons, ss_v_cat]; rfl) (fun ls hl => ?_)
  refine ss_aload_n hx hb dd_VR_readNeed_12 rfl (lv_at hl 1 rfl) ?_
  obtain ⟨r4, qr4, hm⟩ := ss_bind hm
  refine ss_getr hC hK hR kf_VR_21 rfl qr4 dd_VR_readNeed_13 ?_
  obtain ⟨v5, qv5, hm⟩ := ss_bind hm
  refine ss_cV 0 0 (As := []) hC hK hR hS hl.1 (cc_T_isWell l G N _ _ _ qv5) km_VR_45 (ck_T_isWell qv5) ⟨Nat.le_of_ble_eq_true rfl, Nat.le_of_ble_eq_true rfl⟩ ⟨Nat.le_of_ble_eq_true rfl, Nat.le_of_ble_eq_true rfl, Nat.le_of_ble_eq_true rfl, Nat.le_of_ble_eq_true rfl⟩ rfl rfl (Nat.le_of_ble_eq_true rfl) dd_VR_readNeed_16 (fun H locs hR hS => ?_)
  refine lv_if_ne (tgt := 23) hx hb dd_VR_readNeed_19 (by decide) (fun c6 => ?_) (fun c6 => ?_)
  · have hm := ss_iff hm c6
    refine ss_aload_n hx hb dd_VR_readNeed_23 rfl (lv_at hl 1 rfl) ?_
    refine lv_iconst (v := -1) hx hb dd_VR_readNeed_24 (by decide) ?_
    obtain ⟨v7, h8, qh8, hm⟩ := ss_bind2 hm
    refine ss_cV 0 0 (As := [.int (-1 : Int32)]) hC hK hR hS hl.1 (cc_VR_readToldStep l G N _ _ _ _ _ qh8) km_VR_109 (ck_VR_readToldStep qh8) ⟨Nat.le_of_ble_eq_true rfl, Nat.le_of_ble_eq_true rfl⟩ ⟨Nat.le_of_ble_eq_true rfl, Nat.le_of_ble_eq_true rfl, Nat.le_of_ble_eq_true rfl, Nat.le_of_ble_eq_true rfl⟩ rfl rfl (Nat.le_of_ble_eq_true rfl) dd_VR_readNeed_25 (fun H locs hR hS => ?_)
    refine lv_istore_n (lv' := [(2, .int v7), (1, .int v2), (0, ss_v (ss_b G) this)]) hx hb dd_VR_readNeed_28 rfl hl (by decide) rfl (fun ls hl => ?_)
    refine ss_aload_n hx hb dd_VR_readNeed_29 rfl (lv_at hl 2 rfl) ?_
    obtain ⟨r9, qr9, hm⟩ := ss_bind hm
    refine ss_getr hC hK hR kf_VR_21 rfl qr9 dd_VR_readNeed_30 ?_
    obtain ⟨v10, qv10, hm⟩ := ss_bind hm
    refine ss_cV 0 0 (As := []) hC hK hR hS hl.1 (cc_T_isWell l G N _ _ _ qv10) km_VR_45 (ck_T_isWell qv10) ⟨Nat.le_of_ble_eq_true rfl, Nat.le_of_ble_eq_true rfl⟩ ⟨Nat.le_of_ble_eq_true rfl, Nat.le_of_ble_eq_true rfl, Nat.le_of_ble_eq_true rfl, Nat.le_of_ble_eq_true rfl⟩ rfl rfl (Nat.le_of_ble_eq_true rfl) dd_VR_readNeed_33 (fun H locs hR hS => ?_)
    refine lv_if_eq (tgt := 54) hx hb dd_VR_readNeed_36 (by decide) (fun c11 => ?_) (fun c11 => ?_)
    · have hm := ss_ift hm c11
      exact J_54 h8 _ _ _ hm hR hS (lv_sub hl [] rfl)
    · have hm := ss_iff hm c11
      refine ss_aload_n hx hb dd_VR_readNeed_39 rfl (lv_at hl 2 rfl) ?_
      obtain ⟨r12, qr12, hm⟩ := ss_bind hm
      refine ss_getr hC hK hR kf_VR_18 rfl qr12 dd_VR_readNeed_40 ?_
      obtain ⟨r13, qr13, hm⟩ := ss_bind hm
      refine ss_getr hC hK hR kf_VR_125 rfl qr13 dd_VR_readNeed_43 ?_
      refine lv_iload_n hx hb dd_VR_readNeed_46 rfl (lv_at hl 0 rfl) ?_
      refine ss_dup2ir hx hb dd_VR_readNeed_47 ?_
      obtain ⟨v14, qv14, hm⟩ := ss_bind hm
      refine ss_iald hC hK hR qv14 dd_VR_readNeed_48 ?_
      refine lv_iconst (v := 1) hx hb dd_VR_readNeed_49 (by decide) ?_
      refine lv_iload_n hx hb dd_VR_readNeed_50 rfl (lv_at hl 1 rfl) ?_
      refine lv_ishl hx hb dd_VR_readNeed_51 ?_
      refine lv_ior hx hb dd_VR_readNeed_52 ?_
      obtain ⟨h15, qh15, hm⟩ := ss_bind hm
      refine ss_iast hC hK hR hS qh15 dd_VR_readNeed_53 (fun H locs hR hS => ?_)
      exact J_54 h15 _ _ _ hm hR hS (lv_sub hl [] rfl)
  · have hm := ss_ift hm c6
    exact ss_vret hC hr hlocks hR hS hm dd_VR_readNeed_22
theorem dd_VR_readClause_0 : decode bb_VR_readClause 0 = .ok (.aload_n 0, 1) := by decide +kernel
theorem dd_VR_readClause_1 : decode bb_VR_readClause 1 = .ok (.getfield 21, 3) := by decide +kernel
theorem dd_VR_readClause_4 : decode bb_VR_readClause 4 = .ok (.ldc 48, 2) := by decide +kernel
theorem dd_VR_readClause_6 : decode bb_VR_readClause 6 = .ok (.invokevirtual 50, 3) := by decide +kernel
theorem dd_VR_readClause_9 : decode bb_VR_readClause 9 = .ok (.istore_n 2, 1) := by decide +kernel
theorem dd_VR_readClause_10 : decode bb_VR_readClause 10 = .ok (.iload_n 2, 1) := by decide +kernel
theorem dd_VR_readClause_11 : decode bb_VR_readClause 11 = .ok (.iconst (-1), 1) := by decide +kernel
theorem dd_VR_readClause_12 : decode bb_VR_readClause 12 = .ok (.if_icmp .ne 12, 3) := by decide +kernel
theorem dd_VR_readClause_15 : decode bb_VR_readClause 15 = .ok (.aload_n 0, 1) := by decide +kernel
theorem dd_VR_readClause_16 : decode bb_VR_readClause 16 = .ok (.getfield 21, 3) := by decide +kernel
theorem dd_VR_readClause_19 : decode bb_VR_readClause 19 = .ok (.iconst 0, 1) := by decide +kernel
theorem dd_VR_readClause_20 : decode bb_VR_readClause 20 = .ok (.invokevirtual 54, 3) := by decide +kernel
theorem dd_VR_readClause_23 : decode bb_VR_readClause 23 = .ok (.return_, 1) := by decide +kernel
theorem dd_VR_readClause_24 : decode bb_VR_readClause 24 = .ok (.aload_n 0, 1) := by decide +kernel
theorem dd_VR_readClause_25 : decode bb_VR_readClause 25 = .ok (.iload_n 2, 1) := by decide +kernel
theorem dd_VR_readClause_26 : decode bb_VR_readClause 26 = .ok (.iload_n 1, 1) := by decide +kernel
theorem dd_VR_readClause_27 : decode bb_VR_readClause 27 = .ok (.invokevirtual 57, 3) := by decide +kernel
theorem dd_VR_readClause_30 : decode bb_VR_readClause 30 = .ok (.ifCond .ne 12, 3) := by decide +kernel
theorem dd_VR_readClause_33 : decode bb_VR_readClause 33 = .ok (.aload_n 0, 1) := by decide +kernel
theorem dd_VR_readClause_34 : decode bb_VR_readClause 34 = .ok (.getfield 21, 3) := by decide +kernel
theorem dd_VR_readClause_37 : decode bb_VR_readClause 37 = .ok (.iconst 4, 1) := by decide +kernel
theorem dd_VR_readClause_38 : decode bb_VR_readClause 38 = .ok (.invokevirtual 54, 3) := by decide +kernel
theorem dd_VR_readClause_41 : decode bb_VR_readClause 41 = .ok (.return_, 1) := by decide +kernel
theorem dd_VR_readClause_42 : decode bb_VR_readClause 42 = .ok (.aload_n 0, 1) := by decide +kernel
theorem dd_VR_readClause_43 : decode bb_VR_readClause 43 = .ok (.getfield 21, 3) := by decide +kernel
theorem dd_VR_readClause_46 : decode bb_VR_readClause 46 = .ok (.invokevirtual 61, 3) := by decide +kernel
theorem dd_VR_readClause_49 : decode bb_VR_readClause 49 = .ok (.iload_n 2, 1) := by decide +kernel
theorem dd_VR_readClause_50 : decode bb_VR_readClause 50 = .ok (.tableswitch 69 0 4 #[34, 41, 48, 55, 62], 34) := by decide +kernel
theorem dd_VR_readClause_84 : decode bb_VR_readClause 84 = .ok (.aload_n 0, 1) := by decide +kernel
theorem dd_VR_readClause_85 : decode bb_VR_readClause 85 = .ok (.invokevirtual 64, 3) := by decide +kernel
theorem dd_VR_readClause_88 : decode bb_VR_readClause 88 = .ok (.goto 35, 3) := by decide +kernel
theorem dd_VR_readClause_91 : decode bb_VR_readClause 91 = .ok (.aload_n 0, 1) := by decide +kernel
theorem dd_VR_readClause_92 : decode bb_VR_readClause 92 = .ok (.invokevirtual 67, 3) := by decide +kernel
theorem dd_VR_readClause_95 : decode bb_VR_readClause 95 = .ok (.goto 28, 3) := by decide +kernel
theorem dd_VR_readClause_98 : decode bb_VR_readClause 98 = .ok (.aload_n 0, 1) := by decide +kernel
theorem dd_VR_readClause_99 : decode bb_VR_readClause 99 = .ok (.invokevirtual 70, 3) := by decide +kernel
theorem dd_VR_readClause_102 : decode bb_VR_readClause 102 = .ok (.goto 21, 3) := by decide +kernel
theorem dd_VR_readClause_105 : decode bb_VR_readClause 105 = .ok (.aload_n 0, 1) := by decide +kernel
theorem dd_VR_readClause_106 : decode bb_VR_readClause 106 = .ok (.invokevirtual 73, 3) := by decide +kernel
theorem dd_VR_readClause_109 : decode bb_VR_readClause 109 = .ok (.goto 14, 3) := by decide +kernel
theorem dd_VR_readClause_112 : decode bb_VR_readClause 112 = .ok (.aload_n 0, 1) := by decide +kernel
theorem dd_VR_readClause_113 : decode bb_VR_readClause 113 = .ok (.invokevirtual 76, 3) := by decide +kernel
theorem dd_VR_readClause_116 : decode bb_VR_readClause 116 = .ok (.goto 7, 3) := by decide +kernel
theorem dd_VR_readClause_119 : decode bb_VR_readClause 119 = .ok (.aload_n 0, 1) := by decide +kernel
theorem dd_VR_readClause_120 : decode bb_VR_readClause 120 = .ok (.invokevirtual 79, 3) := by decide +kernel
theorem dd_VR_readClause_123 : decode bb_VR_readClause 123 = .ok (.return_, 1) := by decide +kernel
def mm_VR_readClause_j123 (N : Nat) (this : Option Nat) (a1 : Int32) (h_123 : ss_Hp) : Option ss_Hp :=
  some h_123
def mm_VR_readClause (N : Nat) (this : Option Nat) (a1 : Int32) (h : ss_Hp) : Option ss_Hp :=
  if ss_is h this 6 = true then
    (ss_gr h this 6 0).bind fun r1 =>
    (mm_T_wordIn N r1 0 h).bind fun v2 =>
    if v2 = (-1 : Int32) then
      (ss_gr h this 6 0).bind fun r21 =>
      (mm_T_fail N r21 (0 : Int32) h).bind fun h22 =>
      some h22
    else
      (mm_VR_mayStand N this v2 a1 h).bind fun v4 =>
      if v4 = 0 then
        (ss_gr h this 6 0).bind fun r19 =>
        (mm_T_fail N r19 (4 : Int32) h).bind fun h20 =>
        some h20
      else
        (ss_gr h this 6 0).bind fun r6 =>
        (mm_T_advance N r6 h).bind fun h7 =>
        if v2 = (0 : Int32) then
          (mm_VR_readMeasures N this h7).bind fun h9 =>
          mm_VR_readClause_j123 N this a1 h9
        else
        if v2 = (1 : Int32) then
          (mm_VR_readStep N this h7).bind fun h11 =>
          mm_VR_readClause_j123 N this a1 h11
        else
        if v2 = (2 : Int32) then
          (mm_VR_readHouse N this h7).bind fun h13 =>
          mm_VR_readClause_j123 N this a1 h13
        else
        if v2 = (3 : Int32) then
          (mm_VR_readPath N this h7).bind fun h15 =>
          mm_VR_readClause_j123 N this a1 h15
        else
        if v2 = (4 : Int32) then
          (mm_VR_readWall N this h7).bind fun h17 =>
          mm_VR_readClause_j123 N this a1 h17
        else
        (mm_VR_readNeed N this h7).bind fun h18 =>
        mm_VR_readClause_j123 N this a1 h18
  else none
abbrev ww_VR_readClause (p : Program) (l : Launch) (e : Env) (s : State) (m : MethodId) (below : List Frame) (meth : Method) (c : Code) (G : ss_G) (this : Option Nat) (a1 : Int32) (h : ss_Hp) (hh : ss_Hp) (H : Heap) (locs : List Loc) (k n : Nat) (g : JFrame) : Prop := W p l e (headSpec (ss_w yy_VR_readClause bb_VR_readClause 3 none) ({ frames := 9, cells := 0, slots := 0, locals := 226 })).room s m ([ss_v (ss_b G) this, .int a1] : List Value).toArray below meth c H locs k n (MQ below (ss_Qc G none hh) ([ss_v (ss_b G) this, .int a1] : List Value).toArray s 0 0 (ss_A G)) g
theorem ck_VR_readClause {N : Nat} {this : Option Nat} {a1 : Int32} {h : ss_Hp} {res : ss_Hp} (hm : mm_VR_readClause N this a1 h = some res) : ss_is h this 6 = true := (ss_chk hm).1
set_option maxHeartbeats 4000000 in
set_option maxRecDepth 100000 in
theorem cc_VR_readClause (l : Launch) (G : ss_G) (N : Nat) (this : Option Nat) (a1 : Int32) (h : ss_Hp) (hh : ss_Hp) (hm : mm_VR_readClause N this a1 h = some hh) : ss_Ct l G yy_VR_readClause bb_VR_readClause 3 none ({ frames := 9, cells := 0, slots := 0, locals := 226 }) [ss_v (ss_b G) this, .int a1] h none hh := by
  obtain ⟨hck, hm⟩ := ss_chk hm
  refine Met.ofW (cc := bb_VR_readClause) (maxL := 3) (ret := none) (by decide) rfl ?_
  intro p e s m args below meth c s₁ B hml hv
  obtain ⟨rfl, hR, hK⟩ := hv
  have hC : CallFix p m c bb_VR_readClause 3 s _ lw_g sR_6 := ⟨B.exec, B.bytes, hml, findClass_of_methodNamed B.named, fun w hw => atoms_spec (ws := ss_w yy_VR_readClause bb_VR_readClause 3 none) B.pre w (List.mem_cons_of_mem _ hw)⟩
  have hx := hC.1
  have hb := hC.2.1
  have hr := B.returns
  have hlocks := B.notSynchronized
  have hS : va_S (ss_A G) s.heap s.heap [] := va_S.rf
  have hl := lv_entry ([ss_v (ss_b G) this, .int a1]) (n := 3) (by simp [lg_sl, ss_v_cat, ss_cat_i, ss_cat_l, ss_cat_r])
  rw [lg_entry_eq]
  generalize (lg_sl ([ss_v (ss_b G) this, .int a1]) ++ List.replicate (3 - (lg_sl ([ss_v (ss_b G) this, .int a1])).length) Slot.unset).toArray = ls at hl ⊢
  have hl : lv_has ls 3 [(0, ss_v (ss_b G) this), (1, .int a1)] := by simpa [lv_args, ss_v_cat, ss_cat_i, ss_cat_l, ss_cat_r] using hl
  have J_123 : ∀ (h_123 : ss_Hp) (H : Heap) (locs : List Loc) (ls : Array Slot), mm_VR_readClause_j123 N this a1 h_123 = some hh → ss_R G h_123 H → va_S (ss_A G) s.heap H locs → lv_has ls 3 [] → ww_VR_readClause p l e s m below meth c G this a1 h hh  H locs 0 0 (F0 m 123 ls []) := by
    intro h_123 H locs ls hm hR hS hl
    exact ss_vret hC hr hlocks hR hS hm dd_VR_readClause_123
  refine ss_aload_n hx hb dd_VR_readClause_0 rfl (lv_at hl 0 rfl) ?_
  obtain ⟨r1, qr1, hm⟩ := ss_bind hm
  refine ss_getr hC hK hR kf_VR_21 rfl qr1 dd_VR_readClause_1 ?_
  refine va_ldcS hx hb hC.2.2.2.1 (ss_sr_0 hK) dd_VR_readClause_4 ?_
  obtain ⟨v2, qv2, hm⟩ := ss_bind hm
  refine ss_cV 0 0 (As := [.ref (G.2.2.2.1 0)]) hC hK hR hS hl.1 (cc_T_wordIn l G N _ _ _ _ qv2) km_VR_50 (ck_T_wordIn qv2) ⟨Nat.le_of_ble_eq_true rfl, Nat.le_of_ble_eq_true rfl⟩ ⟨Nat.le_of_ble_eq_true rfl, Nat.le_of_ble_eq_true rfl, Nat.le_of_ble_eq_true rfl, Nat.le_of_ble_eq_true rfl⟩ rfl rfl (Nat.le_of_ble_eq_true rfl) dd_VR_readClause_6 (fun H locs hR hS => ?_)
  refine lv_istore_n (lv' := [(2, .int v2), (0, ss_v (ss_b G) this), (1, .int a1)]) hx hb dd_VR_readClause_9 rfl hl (by decide) rfl (fun ls hl => ?_)
  refine lv_iload_n hx hb dd_VR_readClause_10 rfl (lv_at hl 0 rfl) ?_
  refine lv_iconst (v := -1) hx hb dd_VR_readClause_11 (by decide) ?_
  refine lv_icmp_ne (tgt := 24) hx hb dd_VR_readClause_12 (by decide) (fun c3 => ?_) (fun c3 => ?_)
  · have hm := ss_iff hm c3
    refine ss_aload_n hx hb dd_VR_readClause_24 rfl (lv_at hl 1 rfl) ?_
    refine lv_iload_n hx hb dd_VR_readClause_25 rfl (lv_at hl 0 rfl) ?_
    refine lv_iload_n hx hb dd_VR_readClause_26 rfl (lv_at hl 2 rfl) ?_
    obtain ⟨v4, qv4, hm⟩ := ss_bind hm
    refine ss_cV 0 0 (As := [.int v2, .int a1]) hC hK hR hS hl.1 (cc_VR_mayStand l G N _ _ _ _ _ qv4) km_VR_57 (ck_VR_mayStand qv4) ⟨Nat.le_of_ble_eq_true rfl, Nat.le_of_ble_eq_true rfl⟩ ⟨Nat.le_of_ble_eq_true rfl, Nat.le_of_ble_eq_true rfl, Nat.le_of_ble_eq_true rfl, Nat.le_of_ble_eq_true rfl⟩ rfl rfl (Nat.le_of_ble_eq_true rfl) dd_VR_readClause_27 (fun H locs hR hS => ?_)
    refine lv_if_ne (tgt := 42) hx hb dd_VR_readClause_30 (by decide) (fun c5 => ?_) (fun c5 => ?_)
    · have hm := ss_iff hm c5
      refine ss_aload_n hx hb dd_VR_readClause_42 rfl (lv_at hl 1 rfl) ?_
      obtain ⟨r6, qr6, hm⟩ := ss_bind hm
      refine ss_getr hC hK hR kf_VR_21 rfl qr6 dd_VR_readClause_43 ?_
      obtain ⟨h7, qh7, hm⟩ := ss_bind hm
      refine ss_cVv 0 0 (As := []) hC hK hR hS hl.1 (cc_T_advance l G N _ _ _ qh7) km_VR_61 (ck_T_advance qh7) ⟨Nat.le_of_ble_eq_true rfl, Nat.le_of_ble_eq_true rfl⟩ ⟨Nat.le_of_ble_eq_true rfl, Nat.le_of_ble_eq_true rfl, Nat.le_of_ble_eq_true rfl, Nat.le_of_ble_eq_true rfl⟩ rfl rfl (Nat.le_of_ble_eq_true rfl) dd_VR_readClause_46 (fun H locs hR hS => ?_)
      refine lv_iload_n hx hb dd_VR_readClause_49 rfl (lv_at hl 0 rfl) ?_
      by_cases c8 : v2 = (0 : Int32)
      · have hm := ss_ift hm c8
        refine lv_tableIn (tgt := 84) hx hb dd_VR_readClause_50 (by rw [c8]; decide) (by rw [c8]; decide) (by rw [c8]; rfl) (by decide) ?_
        refine ss_aload_n hx hb dd_VR_readClause_84 rfl (lv_at hl 1 rfl) ?_
        obtain ⟨h9, qh9, hm⟩ := ss_bind hm
        refine ss_cVv 0 0 (As := []) hC hK hR hS hl.1 (cc_VR_readMeasures l G N _ _ _ qh9) km_VR_64 (ck_VR_readMeasures qh9) ⟨Nat.le_of_ble_eq_true rfl, Nat.le_of_ble_eq_true rfl⟩ ⟨Nat.le_of_ble_eq_true rfl, Nat.le_of_ble_eq_true rfl, Nat.le_of_ble_eq_true rfl, Nat.le_of_ble_eq_true rfl⟩ rfl rfl (Nat.le_of_ble_eq_true rfl) dd_VR_readClause_85 (fun H locs hR hS => ?_)
        refine lv_goto (tgt := 123) hx hb dd_VR_readClause_88 (by decide) ?_
        exact J_123 h9 _ _ _ hm hR hS (lv_sub hl [] rfl)
      have hm := ss_iff hm c8
      by_cases c10 : v2 = (1 : Int32)
      · have hm := ss_ift hm c10
        refine lv_tableIn (tgt := 91) hx hb dd_VR_readClause_50 (by rw [c10]; decide) (by rw [c10]; decide) (by rw [c10]; rfl) (by decide) ?_
        refine ss_aload_n hx hb dd_VR_readClause_91 rfl (lv_at hl 1 rfl) ?_
        obtain ⟨h11, qh11, hm⟩ := ss_bind hm
        refine ss_cVv 0 0 (As := []) hC hK hR hS hl.1 (cc_VR_readStep l G N _ _ _ qh11) km_VR_67 (ck_VR_readStep qh11) ⟨Nat.le_of_ble_eq_true rfl, Nat.le_of_ble_eq_true rfl⟩ ⟨Nat.le_of_ble_eq_true rfl, Nat.le_of_ble_eq_true rfl, Nat.le_of_ble_eq_true rfl, Nat.le_of_ble_eq_true rfl⟩ rfl rfl (Nat.le_of_ble_eq_true rfl) dd_VR_readClause_92 (fun H locs hR hS => ?_)
        refine lv_goto (tgt := 123) hx hb dd_VR_readClause_95 (by decide) ?_
        exact J_123 h11 _ _ _ hm hR hS (lv_sub hl [] rfl)
      have hm := ss_iff hm c10
      by_cases c12 : v2 = (2 : Int32)
      · have hm := ss_ift hm c12
        refine lv_tableIn (tgt := 98) hx hb dd_VR_readClause_50 (by rw [c12]; decide) (by rw [c12]; decide) (by rw [c12]; rfl) (by decide) ?_
        refine ss_aload_n hx hb dd_VR_readClause_98 rfl (lv_at hl 1 rfl) ?_
        obtain ⟨h13, qh13, hm⟩ := ss_bind hm
        refine ss_cVv 0 0 (As := []) hC hK hR hS hl.1 (cc_VR_readHouse l G N _ _ _ qh13) km_VR_70 (ck_VR_readHouse qh13) ⟨Nat.le_of_ble_eq_true rfl, Nat.le_of_ble_eq_true rfl⟩ ⟨Nat.le_of_ble_eq_true rfl, Nat.le_of_ble_eq_true rfl, Nat.le_of_ble_eq_true rfl, Nat.le_of_ble_eq_true rfl⟩ rfl rfl (Nat.le_of_ble_eq_true rfl) dd_VR_readClause_99 (fun H locs hR hS => ?_)
        refine lv_goto (tgt := 123) hx hb dd_VR_readClause_102 (by decide) ?_
        exact J_123 h13 _ _ _ hm hR hS (lv_sub hl [] rfl)
      have hm := ss_iff hm c12
      by_cases c14 : v2 = (3 : Int32)
      · have hm := ss_ift hm c14
        refine lv_tableIn (tgt := 105) hx hb dd_VR_readClause_50 (by rw [c14]; decide) (by rw [c14]; decide) (by rw [c14]; rfl) (by decide) ?_
        refine ss_aload_n hx hb dd_VR_readClause_105 rfl (lv_at hl 1 rfl) ?_
        obtain ⟨h15, qh15, hm⟩ := ss_bind hm
        refine ss_cVv 0 0 (As := []) hC hK hR hS hl.1 (cc_VR_readPath l G N _ _ _ qh15) km_VR_73 (ck_VR_readPath qh15) ⟨Nat.le_of_ble_eq_true rfl, Nat.le_of_ble_eq_true rfl⟩ ⟨Nat.le_of_ble_eq_true rfl, Nat.le_of_ble_eq_true rfl, Nat.le_of_ble_eq_true rfl, Nat.le_of_ble_eq_true rfl⟩ rfl rfl (Nat.le_of_ble_eq_true rfl) dd_VR_readClause_106 (fun H locs hR hS => ?_)
        refine lv_goto (tgt := 123) hx hb dd_VR_readClause_109 (by decide) ?_
        exact J_123 h15 _ _ _ hm hR hS (lv_sub hl [] rfl)
      have hm := ss_iff hm c14
      by_cases c16 : v2 = (4 : Int32)
      · have hm := ss_ift hm c16
        refine lv_tableIn (tgt := 112) hx hb dd_VR_readClause_50 (by rw [c16]; decide) (by rw [c16]; decide) (by rw [c16]; rfl) (by decide) ?_
        refine ss_aload_n hx hb dd_VR_readClause_112 rfl (lv_at hl 1 rfl) ?_
        obtain ⟨h17, qh17, hm⟩ := ss_bind hm
        refine ss_cVv 0 0 (As := []) hC hK hR hS hl.1 (cc_VR_readWall l G N _ _ _ qh17) km_VR_76 (ck_VR_readWall qh17) ⟨Nat.le_of_ble_eq_true rfl, Nat.le_of_ble_eq_true rfl⟩ ⟨Nat.le_of_ble_eq_true rfl, Nat.le_of_ble_eq_true rfl, Nat.le_of_ble_eq_true rfl, Nat.le_of_ble_eq_true rfl⟩ rfl rfl (Nat.le_of_ble_eq_true rfl) dd_VR_readClause_113 (fun H locs hR hS => ?_)
        refine lv_goto (tgt := 123) hx hb dd_VR_readClause_116 (by decide) ?_
        exact J_123 h17 _ _ _ hm hR hS (lv_sub hl [] rfl)
      have hm := ss_iff hm c16
      have nc8 := lv_neT (a := 0) c8 (by decide)
      have nc10 := lv_neT (a := 1) c10 (by decide)
      have nc12 := lv_neT (a := 2) c12 (by decide)
      have nc14 := lv_neT (a := 3) c14 (by decide)
      have nc16 := lv_neT (a := 4) c16 (by decide)
      refine lv_tableOut (tgt := 119) hx hb dd_VR_readClause_50 (by omega) (by decide) ?_
      refine ss_aload_n hx hb dd_VR_readClause_119 rfl (lv_at hl 1 rfl) ?_
      obtain ⟨h18, qh18, hm⟩ := ss_bind hm
      refine ss_cVv 0 0 (As := []) hC hK hR hS hl.1 (cc_VR_readNeed l G N _ _ _ qh18) km_VR_79 (ck_VR_readNeed qh18) ⟨Nat.le_of_ble_eq_true rfl, Nat.le_of_ble_eq_true rfl⟩ ⟨Nat.le_of_ble_eq_true rfl, Nat.le_of_ble_eq_true rfl, Nat.le_of_ble_eq_true rfl, Nat.le_of_ble_eq_true rfl⟩ rfl rfl (Nat.le_of_ble_eq_true rfl) dd_VR_readClause_120 (fun H locs hR hS => ?_)
      exact J_123 h18 _ _ _ hm hR hS (lv_sub hl [] rfl)
    · have hm := ss_ift hm c5
      refine ss_aload_n hx hb dd_VR_readClause_33 rfl (lv_at hl 1 rfl) ?_
      obtain ⟨r19, qr19, hm⟩ := ss_bind hm
      refine ss_getr hC hK hR kf_VR_21 rfl qr19 dd_VR_readClause_34 ?_
      refine lv_iconst (v := 4) hx hb dd_VR_readClause_37 (by decide) ?_
      obtain ⟨h20, qh20, hm⟩ := ss_bind hm
      refine ss_cVv 0 0 (As := [.int (4 : Int32)]) hC hK hR hS hl.1 (cc_T_fail l G N _ _ _ _ qh20) km_VR_54 (ck_T_fail qh20) ⟨Nat.le_of_ble_eq_true rfl, Nat.le_of_ble_eq_true rfl⟩ ⟨Nat.le_of_ble_eq_true rfl, Nat.le_of_ble_eq_true rfl, Nat.le_of_ble_eq_true rfl, Nat.le_of_ble_eq_true rfl⟩ rfl rfl (Nat.le_of_ble_eq_true rfl) dd_VR_readClause_38 (fun H locs hR hS => ?_)
      exact ss_vret hC hr hlocks hR hS hm dd_VR_readClause_41
  · have hm := ss_ift hm c3
    refine ss_aload_n hx hb dd_VR_readClause_15 rfl (lv_at hl 1 rfl) ?_
    obtain ⟨r21, qr21, hm⟩ := ss_bind hm
    refine ss_getr hC hK hR kf_VR_21 rfl qr21 dd_VR_readClause_16 ?_
    refine lv_iconst (v := 0) hx hb dd_VR_readClause_19 (by decide) ?_
    obtain ⟨h22, qh22, hm⟩ := ss_bind hm
    refine ss_cVv 0 0 (As := [.int (0 : Int32)]) hC hK hR hS hl.1 (cc_T_fail l G N _ _ _ _ qh22) km_VR_54 (ck_T_fail qh22) ⟨Nat.le_of_ble_eq_true rfl, Nat.le_of_ble_eq_true rfl⟩ ⟨Nat.le_of_ble_eq_true rfl, Nat.le_of_ble_eq_true rfl, Nat.le_of_ble_eq_true rfl, Nat.le_of_ble_eq_true rfl⟩ rfl rfl (Nat.le_of_ble_eq_true rfl) dd_VR_readClause_20 (fun H locs hR hS => ?_)
    exact ss_vret hC hr hlocks hR hS hm dd_VR_readClause_23
theorem dd_T_isSign_0 : decode bb_T_isSign 0 = .ok (.aload_n 0, 1) := by decide +kernel
theorem dd_T_isSign_1 : decode bb_T_isSign 1 = .ok (.getfield 31, 3) := by decide +kernel
theorem dd_T_isSign_4 : decode bb_T_isSign 4 = .ok (.iconst 3, 1) := by decide +kernel
theorem dd_T_isSign_5 : decode bb_T_isSign 5 = .ok (.if_icmp .ne 33, 3) := by decide +kernel
theorem dd_T_isSign_8 : decode bb_T_isSign 8 = .ok (.aload_n 0, 1) := by decide +kernel
theorem dd_T_isSign_9 : decode bb_T_isSign 9 = .ok (.getfield 22, 3) := by decide +kernel
theorem dd_T_isSign_12 : decode bb_T_isSign 12 = .ok (.aload_n 0, 1) := by decide +kernel
theorem dd_T_isSign_13 : decode bb_T_isSign 13 = .ok (.getfield 28, 3) := by decide +kernel
theorem dd_T_isSign_16 : decode bb_T_isSign 16 = .ok (.iconst 1, 1) := by decide +kernel
theorem dd_T_isSign_17 : decode bb_T_isSign 17 = .ok (.iadd, 1) := by decide +kernel
theorem dd_T_isSign_18 : decode bb_T_isSign 18 = .ok (.if_icmp .ne 20, 3) := by decide +kernel
theorem dd_T_isSign_21 : decode bb_T_isSign 21 = .ok (.aload_n 0, 1) := by decide +kernel
theorem dd_T_isSign_22 : decode bb_T_isSign 22 = .ok (.getfield 11, 3) := by decide +kernel
theorem dd_T_isSign_25 : decode bb_T_isSign 25 = .ok (.aload_n 0, 1) := by decide +kernel
theorem dd_T_isSign_26 : decode bb_T_isSign 26 = .ok (.getfield 28, 3) := by decide +kernel
theorem dd_T_isSign_29 : decode bb_T_isSign 29 = .ok (.iaload, 1) := by decide +kernel
theorem dd_T_isSign_30 : decode bb_T_isSign 30 = .ok (.iload_n 1, 1) := by decide +kernel
theorem dd_T_isSign_31 : decode bb_T_isSign 31 = .ok (.if_icmp .ne 7, 3) := by decide +kernel
theorem dd_T_isSign_34 : decode bb_T_isSign 34 = .ok (.iconst 1, 1) := by decide +kernel
theorem dd_T_isSign_35 : decode bb_T_isSign 35 = .ok (.goto 4, 3) := by decide +kernel
theorem dd_T_isSign_38 : decode bb_T_isSign 38 = .ok (.iconst 0, 1) := by decide +kernel
theorem dd_T_isSign_39 : decode bb_T_isSign 39 = .ok (.ireturn, 1) := by decide +kernel
def mm_T_isSign_j39 (N : Nat) (this : Option Nat) (a1 : Int32) (h : ss_Hp) (s0_39 : Int32) : Option Int32 :=
  (ss_bz s0_39).bind fun v1 =>
  some v1
def mm_T_isSign_j38 (N : Nat) (this : Option Nat) (a1 : Int32) (h : ss_Hp) : Option Int32 :=
  mm_T_isSign_j39 N this a1 h (0 : Int32)
def mm_T_isSign (N : Nat) (this : Option Nat) (a1 : Int32) (h : ss_Hp) : Option Int32 :=
  if ss_is h this 2 = true then
    (ss_gi h this 2 2).bind fun v2 =>
    if v2 = (3 : Int32) then
      (ss_gi h this 2 4).bind fun v4 =>
      (ss_gi h this 2 3).bind fun v5 =>
      if v4 = (v5 + (1 : Int32)) then
        (ss_gr h this 2 0).bind fun r7 =>
        (ss_gi h this 2 3).bind fun v8 =>
        (ss_ai h r7 20 v8).bind fun v9 =>
        if v9 = a1 then
          mm_T_isSign_j39 N this a1 h (1 : Int32)
        else
          mm_T_isSign_j38 N this a1 h
      else
        mm_T_isSign_j38 N this a1 h
    else
      mm_T_isSign_j38 N this a1 h
  else none
abbrev ww_T_isSign (p : Program) (l : Launch) (e : Env) (s : State) (m : MethodId) (below : List Frame) (meth : Method) (c : Code) (G : ss_G) (this : Option Nat) (a1 : Int32) (h : ss_Hp) (rr : Int32) (H : Heap) (locs : List Loc) (k n : Nat) (g : JFrame) : Prop := W p l e (headSpec (ss_w yy_T_isSign bb_T_isSign 2 (some .boolean)) ({ frames := 0, cells := 0, slots := 0, locals := 0 })).room s m ([ss_v (ss_b G) this, .int a1] : List Value).toArray below meth c H locs k n (MQ below (ss_Qc G (some (.int rr)) h) ([ss_v (ss_b G) this, .int a1] : List Value).toArray s 0 0 (ss_A G)) g
theorem ck_T_isSign {N : Nat} {this : Option Nat} {a1 : Int32} {h : ss_Hp} {res : Int32} (hm : mm_T_isSign N this a1 h = some res) : ss_is h this 2 = true := (ss_chk hm).1
set_option maxHeartbeats 4000000 in
set_option maxRecDepth 100000 in
theorem cc_T_isSign (l : Launch) (G : ss_G) (N : Nat) (this : Option Nat) (a1 : Int32) (h : ss_Hp) (rr : Int32) (hm : mm_T_isSign N this a1 h = some rr) : ss_Ct l G yy_T_isSign bb_T_isSign 2 (some .boolean) ({ frames := 0, cells := 0, slots := 0, locals := 0 }) [ss_v (ss_b G) this, .int a1] h (some (.int rr)) h := by
  obtain ⟨hck, hm⟩ := ss_chk hm
  refine Met.ofW (cc := bb_T_isSign) (maxL := 2) (ret := (some .boolean)) (by decide) rfl ?_
  intro p e s m args below meth c s₁ B hml hv
  obtain ⟨rfl, hR, hK⟩ := hv
  have hC : CallFix p m c bb_T_isSign 2 s _ lw_g sR_2 := ⟨B.exec, B.bytes, hml, findClass_of_methodNamed B.named, fun w hw => atoms_spec (ws := ss_w yy_T_isSign bb_T_isSign 2 (some .boolean)) B.pre w (List.mem_cons_of_mem _ hw)⟩
  have hx := hC.1
  have hb := hC.2.1
  have hr := B.returns
  have hlocks := B.notSynchronized
  have hS : va_S (ss_A G) s.heap s.heap [] := va_S.rf
  have hl := lv_entry ([ss_v (ss_b G) this, .int a1]) (n := 2) (by simp [lg_sl, ss_v_cat, ss_cat_i, ss_cat_l, ss_cat_r])
  rw [lg_entry_eq]
  generalize (lg_sl ([ss_v (ss_b G) this, .int a1]) ++ List.replicate (2 - (lg_sl ([ss_v (ss_b G) this, .int a1])).length) Slot.unset).toArray = ls at hl ⊢
  have hl : lv_has ls 2 [(0, ss_v (ss_b G) this), (1, .int a1)] := by simpa [lv_args, ss_v_cat, ss_cat_i, ss_cat_l, ss_cat_r] using hl
  have J_39 : ∀ (s0_39 : Int32) (H : Heap) (locs : List Loc) (ls : Array Slot), mm_T_isSign_j39 N this a1 h s0_39 = some rr → ss_R G h H → va_S (ss_A G) s.heap H locs → lv_has ls 2 [] → ww_T_isSign p l e s m below meth c G this a1 h rr  H locs 0 0 (F0 m 39 ls [.int s0_39]) := by
    intro s0_39 H locs ls hm hR hS hl
    obtain ⟨v1, qv1, hm⟩ := ss_bind hm
    obtain ⟨hnb, rfl⟩ := ss_bzs qv1
    exact ss_zret hC hr hnb hlocks hR hS (ss_with _ hm) dd_T_isSign_39
  have J_38 : ∀  (H : Heap) (locs : List Loc) (ls : Array Slot), mm_T_isSign_j38 N this a1 h = some rr → ss_R G h H → va_S (ss_A G) s.heap H locs → lv_has ls 2 [] → ww_T_isSign p l e s m below meth c G this a1 h rr  H locs 0 0 (F0 m 38 ls []) := by
    intro  H locs ls hm hR hS hl
    refine lv_iconst (v := 0) hx hb dd_T_isSign_38 (by decide) ?_
    exact J_39 (0 : Int32)  _ _ _ hm hR hS hl
  refine ss_aload_n hx hb dd_T_isSign_0 rfl (lv_at hl 0 rfl) ?_
  obtain ⟨v2, qv2, hm⟩ := ss_bind hm
  refine ss_geti hC hK hR kf_T_31 qv2 dd_T_isSign_1 ?_
  refine lv_iconst (v := 3) hx hb dd_T_isSign_4 (by decide) ?_
  refine lv_icmp_ne (tgt := 38) hx hb dd_T_isSign_5 (by decide) (fun c3 => ?_) (fun c3 => ?_)
  · have hm := ss_iff hm c3
    exact J_38  _ _ _ hm hR hS (lv_sub hl [] rfl)
  · have hm := ss_ift hm c3
    refine ss_aload_n hx hb dd_T_isSign_8 rfl (lv_at hl 0 rfl) ?_
    obtain ⟨v4, qv4, hm⟩ := ss_bind hm
    refine ss_geti hC hK hR kf_T_22 qv4 dd_T_isSign_9 ?_
    refine ss_aload_n hx hb dd_T_isSign_12 rfl (lv_at hl 0 rfl) ?_
    obtain ⟨v5, qv5, hm⟩ := ss_bind hm
    refine ss_geti hC hK hR kf_T_28 qv5 dd_T_isSign_13 ?_
    refine lv_iconst (v := 1) hx hb dd_T_isSign_16 (by decide) ?_
    refine lv_iadd hx hb dd_T_isSign_17 ?_
    refine lv_icmp_ne (tgt := 38) hx hb dd_T_isSign_18 (by decide) (fun c6 => ?_) (fun c6 => ?_)
    · have hm := ss_iff hm c6
      exact J_38  _ _ _ hm hR hS (lv_sub hl [] rfl)
    · have hm := ss_ift hm c6
      refine ss_aload_n hx hb dd_T_isSign_21 rfl (lv_at hl 0 rfl) ?_
      obtain ⟨r7, qr7, hm⟩ := ss_bind hm
      refine ss_getr hC hK hR kf_T_11 rfl qr7 dd_T_isSign_22 ?_
      refine ss_aload_n hx hb dd_T_isSign_25 rfl (lv_at hl 0 rfl) ?_
      obtain ⟨v8, qv8, hm⟩ := ss_bind hm
      refine ss_geti hC hK hR kf_T_28 qv8 dd_T_isSign_26 ?_
      obtain ⟨v9, qv9, hm⟩ := ss_bind hm
      refine ss_iald hC hK hR qv9 dd_T_isSign_29 ?_
      refine lv_iload_n hx hb dd_T_isSign_30 rfl (lv_at hl 1 rfl) ?_
      refine lv_icmp_ne (tgt := 38) hx hb dd_T_isSign_31 (by decide) (fun c10 => ?_) (fun c10 => ?_)
      · have hm := ss_iff hm c10
        exact J_38  _ _ _ hm hR hS (lv_sub hl [] rfl)
      · have hm := ss_ift hm c10
        refine lv_iconst (v := 1) hx hb dd_T_isSign_34 (by decide) ?_
        refine lv_goto (tgt := 39) hx hb dd_T_isSign_35 (by decide) ?_
        exact J_39 (1 : Int32)  _ _ _ hm hR hS (lv_sub hl [] rfl)
theorem dd_T_goesOn_0 : decode bb_T_goesOn 0 = .ok (.aload_n 0, 1) := by decide +kernel
theorem dd_T_goesOn_1 : decode bb_T_goesOn 1 = .ok (.invokevirtual 74, 3) := by decide +kernel
theorem dd_T_goesOn_4 : decode bb_T_goesOn 4 = .ok (.ifCond .eq 10, 3) := by decide +kernel
theorem dd_T_goesOn_7 : decode bb_T_goesOn 7 = .ok (.aload_n 0, 1) := by decide +kernel
theorem dd_T_goesOn_8 : decode bb_T_goesOn 8 = .ok (.getfield 31, 3) := by decide +kernel
theorem dd_T_goesOn_11 : decode bb_T_goesOn 11 = .ok (.ifCond .ne 5, 3) := by decide +kernel
theorem dd_T_goesOn_14 : decode bb_T_goesOn 14 = .ok (.iconst 0, 1) := by decide +kernel
theorem dd_T_goesOn_15 : decode bb_T_goesOn 15 = .ok (.ireturn, 1) := by decide +kernel
theorem dd_T_goesOn_16 : decode bb_T_goesOn 16 = .ok (.aload_n 0, 1) := by decide +kernel
theorem dd_T_goesOn_17 : decode bb_T_goesOn 17 = .ok (.bipush 59, 2) := by decide +kernel
theorem dd_T_goesOn_19 : decode bb_T_goesOn 19 = .ok (.invokevirtual 50, 3) := by decide +kernel
theorem dd_T_goesOn_22 : decode bb_T_goesOn 22 = .ok (.ifCond .ne 10, 3) := by decide +kernel
theorem dd_T_goesOn_25 : decode bb_T_goesOn 25 = .ok (.aload_n 0, 1) := by decide +kernel
theorem dd_T_goesOn_26 : decode bb_T_goesOn 26 = .ok (.iconst 0, 1) := by decide +kernel
theorem dd_T_goesOn_27 : decode bb_T_goesOn 27 = .ok (.invokevirtual 67, 3) := by decide +kernel
theorem dd_T_goesOn_30 : decode bb_T_goesOn 30 = .ok (.iconst 0, 1) := by decide +kernel
theorem dd_T_goesOn_31 : decode bb_T_goesOn 31 = .ok (.ireturn, 1) := by decide +kernel
theorem dd_T_goesOn_32 : decode bb_T_goesOn 32 = .ok (.aload_n 0, 1) := by decide +kernel
theorem dd_T_goesOn_33 : decode bb_T_goesOn 33 = .ok (.invokevirtual 25, 3) := by decide +kernel
theorem dd_T_goesOn_36 : decode bb_T_goesOn 36 = .ok (.iconst 1, 1) := by decide +kernel
theorem dd_T_goesOn_37 : decode bb_T_goesOn 37 = .ok (.ireturn, 1) := by decide +kernel
def mm_T_goesOn_j14 (N : Nat) (this : Option Nat) (h_14 : ss_Hp) : Option (Int32 × ss_Hp) :=
  some ((0 : Int32), h_14)
def mm_T_goesOn (N : Nat) (this : Option Nat) (h : ss_Hp) : Option (Int32 × ss_Hp) :=
  if ss_is h this 2 = true then
    (mm_T_isWell N this h).bind fun v1 =>
    if v1 = 0 then
      mm_T_goesOn_j14 N this h
    else
      (ss_gi h this 2 2).bind fun v3 =>
      if v3 = 0 then
        mm_T_goesOn_j14 N this h
      else
        (mm_T_isSign N this (59 : Int32) h).bind fun v5 =>
        if v5 = 0 then
          (mm_T_fail N this (0 : Int32) h).bind fun h8 =>
          some ((0 : Int32), h8)
        else
          (mm_T_advance N this h).bind fun h7 =>
          some ((1 : Int32), h7)
  else none
abbrev ww_T_goesOn (p : Program) (l : Launch) (e : Env) (s : State) (m : MethodId) (below : List Frame) (meth : Method) (c : Code) (G : ss_G) (this : Option Nat) (h : ss_Hp) (rr : Int32) (hh : ss_Hp) (H : Heap) (locs : List Loc) (k n : Nat) (g : JFrame) : Prop := W p l e (headSpec (ss_w yy_T_goesOn bb_T_goesOn 1 (some .boolean)) ({ frames := 2, cells := 0, slots := 0, locals := 42 })).room s m ([ss_v (ss_b G) this] : List Value).toArray below meth c H locs k n (MQ below (ss_Qc G (some (.int rr)) hh) ([ss_v (ss_b G) this] : List Value).toArray s 0 0 (ss_A G)) g
theorem ck_T_goesOn {N : Nat} {this : Option Nat} {h : ss_Hp} {res : Int32 × ss_Hp} (hm : mm_T_goesOn N this h = some res) : ss_is h this 2 = true := (ss_chk hm).1
set_option maxHeartbeats 4000000 in
set_option maxRecDepth 100000 in
theorem cc_T_goesOn (l : Launch) (G : ss_G) (N : Nat) (this : Option Nat) (h : ss_Hp) (rr : Int32) (hh : ss_Hp) (hm : mm_T_goesOn N this h = some (rr, hh)) : ss_Ct l G yy_T_goesOn bb_T_goesOn 1 (some .boolean) ({ frames := 2, cells := 0, slots := 0, locals := 42 }) [ss_v (ss_b G) this] h (some (.int rr)) hh := by
  obtain ⟨hck, hm⟩ := ss_chk hm
  refine Met.ofW (cc := bb_T_goesOn) (maxL := 1) (ret := (some .boolean)) (by decide) rfl ?_
  intro p e s m args below meth c s₁ B hml hv
  obtain ⟨rfl, hR, hK⟩ := hv
  have hC : CallFix p m c bb_T_goesOn 1 s _ lw_g sR_2 := ⟨B.exec, B.bytes, hml, findClass_of_methodNamed B.named, fun w hw => atoms_spec (ws := ss_w yy_T_goesOn bb_T_goesOn 1 (some .boolean)) B.pre w (List.mem_cons_of_mem _ hw)⟩
  have hx := hC.1
  have hb := hC.2.1
  have hr := B.returns
  have hlocks := B.notSynchronized
  have hS : va_S (ss_A G) s.heap s.heap [] := va_S.rf
  have hl := lv_entry ([ss_v (ss_b G) this]) (n := 1) (by simp [lg_sl, ss_v_cat, ss_cat_i, ss_cat_l, ss_cat_r])
  rw [lg_entry_eq]
  generalize (lg_sl ([ss_v (ss_b G) this]) ++ List.replicate (1 - (lg_sl ([ss_v (ss_b G) this])).length) Slot.unset).toArray = ls at hl ⊢
  have hl : lv_has ls 1 [(0, ss_v (ss_b G) this)] := by simpa [lv_args, ss_v_cat, ss_cat_i, ss_cat_l, ss_cat_r] using hl
  have J_14 : ∀ (h_14 : ss_Hp) (H : Heap) (locs : List Loc) (ls : Array Slot), mm_T_goesOn_j14 N this h_14 = some (rr, hh) → ss_R G h_14 H → va_S (ss_A G) s.heap H locs → lv_has ls 1 [] → ww_T_goesOn p l e s m below meth c G this h rr hh  H locs 0 0 (F0 m 14 ls []) := by
    intro h_14 H locs ls hm hR hS hl
    refine lv_iconst (v := 0) hx hb dd_T_goesOn_14 (by decide) ?_
    exact ss_zret hC hr (by decide) hlocks hR hS hm dd_T_goesOn_15
  refine ss_aload_n hx hb dd_T_goesOn_0 rfl (lv_at hl 0 rfl) ?_
  obtain ⟨v1, qv1, hm⟩ := ss_bind hm
  refine ss_cV 0 0 (As := []) hC hK hR hS hl.1 (cc_T_isWell l G N _ _ _ qv1) km_T_74 (ck_T_isWell qv1) ⟨Nat.le_of_ble_eq_true rfl, Nat.le_of_ble_eq_true rfl⟩ ⟨Nat.le_of_ble_eq_true rfl, Nat.le_of_ble_eq_true rfl, Nat.le_of_ble_eq_true rfl, Nat.le_of_ble_eq_true rfl⟩ rfl rfl (Nat.le_of_ble_eq_true rfl) dd_T_goesOn_1 (fun H locs hR hS => ?_)
  refine lv_if_eq (tgt := 14) hx hb dd_T_goesOn_4 (by decide) (fun c2 => ?_) (fun c2 => ?_)
  · have hm := ss_ift hm c2
    exact J_14 h _ _ _ hm hR hS (lv_sub hl [] rfl)
  · have hm := ss_iff hm c2
    refine ss_aload_n hx hb dd_T_goesOn_7 rfl (lv_at hl 0 rfl) ?_
    obtain ⟨v3, qv3, hm⟩ := ss_bind hm
    refine ss_geti hC hK hR kf_T_31 qv3 dd_T_goesOn_8 ?_
    refine lv_if_ne (tgt := 16) hx hb dd_T_goesOn_11 (by decide) (fun c4 => ?_) (fun c4 => ?_)
    · have hm := ss_iff hm c4
      refine ss_aload_n hx hb dd_T_goesOn_16 rfl (lv_at hl 0 rfl) ?_
      refine lv_bipush (v := 59) hx hb dd_T_goesOn_17 (by decide) ?_
      obtain ⟨v5, qv5, hm⟩ := ss_bind hm
      refine ss_cV 0 0 (As := [.int (59 : Int32)]) hC hK hR hS hl.1 (cc_T_isSign l G N _ _ _ _ qv5) km_T_50 (ck_T_isSign qv5) ⟨Nat.le_of_ble_eq_true rfl, Nat.le_of_ble_eq_true rfl⟩ ⟨Nat.le_of_ble_eq_true rfl, Nat.le_of_ble_eq_true rfl, Nat.le_of_ble_eq_true rfl, Nat.le_of_ble_eq_true rfl⟩ rfl rfl (Nat.le_of_ble_eq_true rfl) dd_T_goesOn_19 (fun H locs hR hS => ?_)
      refine lv_if_ne (tgt := 32) hx hb dd_T_goesOn_22 (by decide) (fun c6 => ?_) (fun c6 => ?_)
      · have hm := ss_iff hm c6
        refine ss_aload_n hx hb dd_T_goesOn_32 rfl (lv_at hl 0 rfl) ?_
        obtain ⟨h7, qh7, hm⟩ := ss_bind hm
        refine ss_cVv 0 0 (As := []) hC hK hR hS hl.1 (cc_T_advance l G N _ _ _ qh7) km_T_25 (ck_T_advance qh7) ⟨Nat.le_of_ble_eq_true rfl, Nat.le_of_ble_eq_true rfl⟩ ⟨Nat.le_of_ble_eq_true rfl, Nat.le_of_ble_eq_true rfl, Nat.le_of_ble_eq_true rfl, Nat.le_of_ble_eq_true rfl⟩ rfl rfl (Nat.le_of_ble_eq_true rfl) dd_T_goesOn_33 (fun H locs hR hS => ?_)
        refine lv_iconst (v := 1) hx hb dd_T_goesOn_36 (by decide) ?_
        exact ss_zret hC hr (by decide) hlocks hR hS hm dd_T_goesOn_37
      · have hm := ss_ift hm c6
        refine ss_aload_n hx hb dd_T_goesOn_25 rfl (lv_at hl 0 rfl) ?_
        refine lv_iconst (v := 0) hx hb dd_T_goesOn_26 (by decide) ?_
        obtain ⟨h8, qh8, hm⟩ := ss_bind hm
        refine ss_cVv 0 0 (As := [.int (0 : Int32)]) hC hK hR hS hl.1 (cc_T_fail l G N _ _ _ _ qh8) km_T_67 (ck_T_fail qh8) ⟨Nat.le_of_ble_eq_true rfl, Nat.le_of_ble_eq_true rfl⟩ ⟨Nat.le_of_ble_eq_true rfl, Nat.le_of_ble_eq_true rfl, Nat.le_of_ble_eq_true rfl, Nat.le_of_ble_eq_true rfl⟩ rfl rfl (Nat.le_of_ble_eq_true rfl) dd_T_goesOn_27 (fun H locs hR hS => ?_)
        refine lv_iconst (v := 0) hx hb dd_T_goesOn_30 (by decide) ?_
        exact ss_zret hC hr (by decide) hlocks hR hS hm dd_T_goesOn_31
    · have hm := ss_ift hm c4
      exact J_14 h _ _ _ hm hR hS (lv_sub hl [] rfl)
theorem dd_VR_readValley_0 : decode bb_VR_readValley 0 = .ok (.aload_n 0, 1) := by decide +kernel
theorem dd_VR_readValley_1 : decode bb_VR_readValley 1 = .ok (.getfield 18, 3) := by decide +kernel
theorem dd_VR_readValley_4 : decode bb_VR_readValley 4 = .ok (.aload_n 0, 1) := by decide +kernel
theorem dd_VR_readValley_5 : decode bb_VR_readValley 5 = .ok (.getfield 12, 3) := by decide +kernel
theorem dd_VR_readValley_8 : decode bb_VR_readValley 8 = .ok (.invokevirtual 25, 3) := by decide +kernel
theorem dd_VR_readValley_11 : decode bb_VR_readValley 11 = .ok (.aload_n 0, 1) := by decide +kernel
theorem dd_VR_readValley_12 : decode bb_VR_readValley 12 = .ok (.getfield 18, 3) := by decide +kernel
theorem dd_VR_readValley_15 : decode bb_VR_readValley 15 = .ok (.iconst 1, 1) := by decide +kernel
theorem dd_VR_readValley_16 : decode bb_VR_readValley 16 = .ok (.putfield 29, 3) := by decide +kernel
theorem dd_VR_readValley_19 : decode bb_VR_readValley 19 = .ok (.aload_n 0, 1) := by decide +kernel
theorem dd_VR_readValley_20 : decode bb_VR_readValley 20 = .ok (.getfield 21, 3) := by decide +kernel
theorem dd_VR_readValley_23 : decode bb_VR_readValley 23 = .ok (.invokevirtual 32, 3) := by decide +kernel
theorem dd_VR_readValley_26 : decode bb_VR_readValley 26 = .ok (.iconst 1, 1) := by decide +kernel
theorem dd_VR_readValley_27 : decode bb_VR_readValley 27 = .ok (.istore_n 1, 1) := by decide +kernel
theorem dd_VR_readValley_28 : decode bb_VR_readValley 28 = .ok (.iconst 0, 1) := by decide +kernel
theorem dd_VR_readValley_29 : decode bb_VR_readValley 29 = .ok (.istore_n 2, 1) := by decide +kernel
theorem dd_VR_readValley_30 : decode bb_VR_readValley 30 = .ok (.iload_n 1, 1) := by decide +kernel
theorem dd_VR_readValley_31 : decode bb_VR_readValley 31 = .ok (.ifCond .eq 28, 3) := by decide +kernel
theorem dd_VR_readValley_34 : decode bb_VR_readValley 34 = .ok (.iload_n 2, 1) := by decide +kernel
theorem dd_VR_readValley_35 : decode bb_VR_readValley 35 = .ok (.bipush 40, 2) := by decide +kernel
theorem dd_VR_readValley_37 : decode bb_VR_readValley 37 = .ok (.if_icmp .gt 22, 3) := by decide +kernel
theorem dd_VR_readValley_40 : decode bb_VR_readValley 40 = .ok (.aload_n 0, 1) := by decide +kernel
theorem dd_VR_readValley_41 : decode bb_VR_readValley 41 = .ok (.iload_n 2, 1) := by decide +kernel
theorem dd_VR_readValley_42 : decode bb_VR_readValley 42 = .ok (.invokevirtual 37, 3) := by decide +kernel
theorem dd_VR_readValley_45 : decode bb_VR_readValley 45 = .ok (.aload_n 0, 1) := by decide +kernel
theorem dd_VR_readValley_46 : decode bb_VR_readValley 46 = .ok (.getfield 21, 3) := by decide +kernel
theorem dd_VR_readValley_49 : decode bb_VR_readValley 49 = .ok (.invokevirtual 41, 3) := by decide +kernel
theorem dd_VR_readValley_52 : decode bb_VR_readValley 52 = .ok (.istore_n 1, 1) := by decide +kernel
theorem dd_VR_readValley_53 : decode bb_VR_readValley 53 = .ok (.iinc 2 1, 3) := by decide +kernel
theorem dd_VR_readValley_56 : decode bb_VR_readValley 56 = .ok (.goto (-26), 3) := by decide +kernel
theorem dd_VR_readValley_59 : decode bb_VR_readValley 59 = .ok (.aload_n 0, 1) := by decide +kernel
theorem dd_VR_readValley_60 : decode bb_VR_readValley 60 = .ok (.getfield 21, 3) := by decide +kernel
theorem dd_VR_readValley_63 : decode bb_VR_readValley 63 = .ok (.invokevirtual 45, 3) := by decide +kernel
theorem dd_VR_readValley_66 : decode bb_VR_readValley 66 = .ok (.ifCond .eq 10, 3) := by decide +kernel
theorem dd_VR_readValley_69 : decode bb_VR_readValley 69 = .ok (.aload_n 0, 1) := by decide +kernel
theorem dd_VR_readValley_70 : decode bb_VR_readValley 70 = .ok (.getfield 18, 3) := by decide +kernel
theorem dd_VR_readValley_73 : decode bb_VR_readValley 73 = .ok (.goto 4, 3) := by decide +kernel
theorem dd_VR_readValley_76 : decode bb_VR_readValley 76 = .ok (.aconst_null, 1) := by decide +kernel
theorem dd_VR_readValley_77 : decode bb_VR_readValley 77 = .ok (.areturn, 1) := by decide +kernel
def mm_VR_readValley_j77 (N : Nat) (this : Option Nat) (s0_77 : Option Nat) (h_77 : ss_Hp) : Option ((Option Nat) × ss_Hp) :=
  some (s0_77, h_77)
def mm_VR_readValley_b30 (N : Nat) (this : Option Nat) (st : Int32 × Int32 × ss_Hp) : Option ((Int32 × Int32 × ss_Hp) ⊕ ss_Hp) :=
  match st with
  | (x1_30, x2_30, h_30) =>
    if x1_30 = 0 then
      some (.inr h_30)
    else
      if (40 : Int32) < x2_30 then
        some (.inr h_30)
      else
        (mm_VR_readClause N this x2_30 h_30).bind fun h14 =>
        (ss_gr h14 this 6 0).bind fun r15 =>
        ss_b2 (mm_T_goesOn N r15 h14) fun v16 h17 =>
        (some (x2_30 + (1 : Int32))).bind fun v18 =>
        some (.inl (v16, v18, h17))
def mm_VR_readValley (N : Nat) (this : Option Nat) (h : ss_Hp) : Option ((Option Nat) × ss_Hp) :=
  if ss_is h this 6 = true then
    (ss_gr h this 6 2).bind fun r1 =>
    (ss_gr h this 6 1).bind fun r2 =>
    (mm_V_copyFrom N r1 r2 h).bind fun h3 =>
    (ss_gr h3 this 6 2).bind fun r4 =>
    (ss_pz h3 r4 5 0 (1 : Int32)).bind fun h5 =>
    (ss_gr h5 this 6 0).bind fun r6 =>
    (mm_T_open N r6 h5).bind fun h7 =>
    (ss_lp (mm_VR_readValley_b30 N this) N ((1 : Int32), (0 : Int32), h7)).bind fun h_30_59 =>
    (ss_gr h_30_59 this 6 0).bind fun r8 =>
    (mm_T_isWell N r8 h_30_59).bind fun v9 =>
    if v9 = 0 then
      mm_VR_readValley_j77 N this none h_30_59
    else
      (ss_gr h_30_59 this 6 2).bind fun r11 =>
      mm_VR_readValley_j77 N this r11 h_30_59
  else none
abbrev ww_VR_readValley (p : Program) (l : Launch) (e : Env) (s : State) (m : MethodId) (below : List Frame) (meth : Method) (c : Code) (G : ss_G) (this : Option Nat) (h : ss_Hp) (rr : Option Nat) (hh : ss_Hp) (H : Heap) (locs : List Loc) (k n : Nat) (g : JFrame) : Prop := W p l e (headSpec (ss_w yy_VR_readValley bb_VR_readValley 3 (some (.object "SweptSnow$Valley"))) ({ frames := 10, cells := 0, slots := 0, locals := 248 })).room s m ([ss_v (ss_b G) this] : List Value).toArray below meth c H locs k n (MQ below (ss_Qc G (some (ss_v (ss_b G) rr)) hh) ([ss_v (ss_b G) this] : List Value).toArray s 0 0 (ss_A G)) g
theorem ck_VR_readValley {N : Nat} {this : Option Nat} {h : ss_Hp} {res : (Option Nat) × ss_Hp} (hm : mm_VR_readValley N this h = some res) : ss_is h this 6 = true := (ss_chk hm).1
set_option maxHeartbeats 4000000 in
set_option maxRecDepth 100000 in
theorem cc_VR_readValley (l : Launch) (G : ss_G) (N : Nat) (this : Option Nat) (h : ss_Hp) (rr : Option Nat) (hh : ss_Hp) (hm : mm_VR_readValley N this h = some (rr, hh)) : ss_Ct l G yy_VR_readValley bb_VR_readValley 3 (some (.object "SweptSnow$Valley")) ({ frames := 10, cells := 0, slots := 0, locals := 248 }) [ss_v (ss_b G) this] h (some (ss_v (ss_b G) rr)) hh := by
  obtain ⟨hck, hm⟩ := ss_chk hm
  refine Met.ofW (cc := bb_VR_readValley) (maxL := 3) (ret := (some (.object "SweptSnow$Valley"))) (by decide) rfl ?_
  intro p e s m args below meth c s₁ B hml hv
  obtain ⟨rfl, hR, hK⟩ := hv
  have hC : CallFix p m c bb_VR_readValley 3 s _ lw_g sR_6 := ⟨B.exec, B.bytes, hml, findClass_of_methodNamed B.named, fun w hw => atoms_spec (ws := ss_w yy_VR_readValley bb_VR_readValley 3 (some (.object "SweptSnow$Valley"))) B.pre w (List.mem_cons_of_mem _ hw)⟩
  have hx := hC.1
  have hb := hC.2.1
  have hr := B.returns
  have hlocks := B.notSynchronized
  have hS : va_S (ss_A G) s.heap s.heap [] := va_S.rf
  have hl := lv_entry ([ss_v (ss_b G) this]) (n := 3) (by simp [lg_sl, ss_v_cat, ss_cat_i, ss_cat_l, ss_cat_r])
  rw [lg_entry_eq]
  generalize (lg_sl ([ss_v (ss_b G) this]) ++ List.replicate (3 - (lg_sl ([ss_v (ss_b G) this])).length) Slot.unset).toArray = ls at hl ⊢
  have hl : lv_has ls 3 [(0, ss_v (ss_b G) this)] := by simpa [lv_args, ss_v_cat, ss_cat_i, ss_cat_l, ss_cat_r] using hl
  have J_77 : ∀ (s0_77 : Option Nat) (h_77 : ss_Hp) (H : Heap) (locs : List Loc) (ls : Array Slot), mm_VR_readValley_j77 N this s0_77 h_77 = some (rr, hh) → ss_R G h_77 H → va_S (ss_A G) s.heap H locs → lv_has ls 3 [] → ww_VR_readValley p l e s m below meth c G this h rr hh  H locs 0 0 (F0 m 77 ls [ss_v (ss_b G) s0_77]) := by
    intro s0_77 h_77 H locs ls hm hR hS hl
    exact ss_aret hC hr (Or.inl ⟨_, rfl⟩) hlocks hR hS hm dd_VR_readValley_77
  refine ss_aload_n hx hb dd_VR_readValley_0 rfl (lv_at hl 0 rfl) ?_
  obtain ⟨r1, qr1, hm⟩ := ss_bind hm
  refine ss_getr hC hK hR kf_VR_18 rfl qr1 dd_VR_readValley_1 ?_
  refine ss_aload_n hx hb dd_VR_readValley_4 rfl (lv_at hl 0 rfl) ?_
  obtain ⟨r2, qr2, hm⟩ := ss_bind hm
  refine ss_getr hC hK hR kf_VR_12 rfl qr2 dd_VR_readValley_5 ?_
  obtain ⟨h3, qh3, hm⟩ := ss_bind hm
  refine ss_cVv 0 0 (As := [ss_v (ss_b G) r2]) hC hK hR hS hl.1 (cc_V_copyFrom l G N _ _ _ _ qh3) km_VR_25 (ck_V_copyFrom qh3) ⟨Nat.le_of_ble_eq_true rfl, Nat.le_of_ble_eq_true rfl⟩ ⟨Nat.le_of_ble_eq_true rfl, Nat.le_of_ble_eq_true rfl, Nat.le_of_ble_eq_true rfl, Nat.le_of_ble_eq_true rfl⟩ rfl rfl (Nat.le_of_ble_eq_true rfl) dd_VR_readValley_8 (fun H locs hR hS => ?_)
  refine ss_aload_n hx hb dd_VR_readValley_11 rfl (lv_at hl 0 rfl) ?_
  obtain ⟨r4, qr4, hm⟩ := ss_bind hm
  refine ss_getr hC hK hR kf_VR_18 rfl qr4 dd_VR_readValley_12 ?_
  refine lv_iconst (v := 1) hx hb dd_VR_readValley_15 (by decide) ?_
  obtain ⟨h5, qh5, hm⟩ := ss_bind hm
  refine ss_putz hC hK hR hS kp_VR_29 qh5 dd_VR_readValley_16 (fun H locs hR hS => ?_)
  refine ss_aload_n hx hb dd_VR_readValley_19 rfl (lv_at hl 0 rfl) ?_
  obtain ⟨r6, qr6, hm⟩ := ss_bind hm
  refine ss_getr hC hK hR kf_VR_21 rfl qr6 dd_VR_readValley_20 ?_
  obtain ⟨h7, qh7, hm⟩ := ss_bind hm
  refine ss_cVv 0 0 (As := []) hC hK hR hS hl.1 (cc_T_open l G N _ _ _ qh7) km_VR_32 (ck_T_open qh7) ⟨Nat.le_of_ble_eq_true rfl, Nat.le_of_ble_eq_true rfl⟩ ⟨Nat.le_of_ble_eq_true rfl, Nat.le_of_ble_eq_true rfl, Nat.le_of_ble_eq_true rfl, Nat.le_of_ble_eq_true rfl⟩ rfl rfl (Nat.le_of_ble_eq_true rfl) dd_VR_readValley_23 (fun H locs hR hS => ?_)
  refine lv_iconst (v := 1) hx hb dd_VR_readValley_26 (by decide) ?_
  refine lv_istore_n (lv' := [(1, .int (1 : Int32)), (0, ss_v (ss_b G) this)]) hx hb dd_VR_readValley_27 rfl hl (by decide) (by simp only [List.filter_cons, ss_v_cat]; rfl) (fun ls hl => ?_)
  refine lv_iconst (v := 0) hx hb dd_VR_readValley_28 (by decide) ?_
  refine lv_istore_n (lv' := [(2, .int (0 : Int32)), (1, .int (1 : Int32)), (0, ss_v (ss_b G) this)]) hx hb dd_VR_readValley_29 rfl hl (by decide) rfl (fun ls hl => ?_)
  obtain ⟨e_30, he_30, hm⟩ := ss_bind hm
  have X_30_59 : ∀  (h_30_59 : ss_Hp) (H : Heap) (locs : List Loc) (ls : Array Slot), e_30 = h_30_59 → ss_R G h_30_59 H → va_S (ss_A G) s.heap H locs → lv_has ls 3 [(0, ss_v (ss_b G) this)] → ww_VR_readValley p l e s m below meth c G this h rr hh  H locs 0 0 (F0 m 59 ls []) := by
    intro h_30_59 H locs ls hq hR hS hl
    rw [hq] at hm
    refine ss_aload_n hx hb dd_VR_readValley_59 rfl (lv_at hl 0 rfl) ?_
    obtain ⟨r8, qr8, hm⟩ := ss_bind hm
    refine ss_getr hC hK hR kf_VR_21 rfl qr8 dd_VR_readValley_60 ?_
    obtain ⟨v9, qv9, hm⟩ := ss_bind hm
    refine ss_cV 0 0 (As := []) hC hK hR hS hl.1 (cc_T_isWell l G N _ _ _ qv9) km_VR_45 (ck_T_isWell qv9) ⟨Nat.le_of_ble_eq_true rfl, Nat.le_of_ble_eq_true rfl⟩ ⟨Nat.le_of_ble_eq_true rfl, Nat.le_of_ble_eq_true rfl, Nat.le_of_ble_eq_true rfl, Nat.le_of_ble_eq_true rfl⟩ rfl rfl (Nat.le_of_ble_eq_true rfl) dd_VR_readValley_63 (fun H locs hR hS => ?_)
    refine lv_if_eq (tgt := 76) hx hb dd_VR_readValley_66 (by decide) (fun c10 => ?_) (fun c10 => ?_)
    · have hm := ss_ift hm c10
      refine ss_null hx hb (ss_b G) dd_VR_readValley_76 ?_
      exact J_77 none h_30_59 _ _ _ hm hR hS (lv_sub hl [] rfl)
    · have hm := ss_iff hm c10
      refine ss_aload_n hx hb dd_VR_readValley_69 rfl (lv_at hl 0 rfl) ?_
      obtain ⟨r11, qr11, hm⟩ := ss_bind hm
      refine ss_getr hC hK hR kf_VR_18 rfl qr11 dd_VR_readValley_70 ?_
      refine lv_goto (tgt := 77) hx hb dd_VR_readValley_73 (by decide) ?_
      exact J_77 r11 h_30_59 _ _ _ hm hR hS (lv_sub hl [] rfl)
  have L_30 : ∀ (n : Nat) (x1_30 : Int32) (x2_30 : Int32) (h_30 : ss_Hp) (H : Heap) (locs : List Loc) (ls : Array Slot), ss_lp (mm_VR_readValley_b30 N this) n (x1_30, x2_30, h_30) = some e_30 → ss_R G h_30 H → va_S (ss_A G) s.heap H locs → lv_has ls 3 [(0, ss_v (ss_b G) this), (1, .int x1_30), (2, .int x2_30)] → ww_VR_readValley p l e s m below meth c G this h rr hh  H locs 0 0 (F0 m 30 ls []) := by
    intro n
    induction n with
    | zero => intro x1_30 x2_30 h_30 H locs ls hm; cases hm
    | succ n ih_30 =>
      intro x1_30 x2_30 h_30 H locs ls hm hR hS hl
      obtain ⟨z_30, hm, hz1_30, hz2_30⟩ := ss_lps hm
      refine lv_iload_n hx hb dd_VR_readValley_30 rfl (lv_at hl 1 rfl) ?_
      refine lv_if_eq (tgt := 59) hx hb dd_VR_readValley_31 (by decide) (fun c12 => ?_) (fun c12 => ?_)
      · have hm := ss_ift hm c12
        exact X_30_59 h_30 _ _ _ (hz2_30 _ (ss_some hm)) hR hS (lv_sub hl [0] rfl)
      · have hm := ss_iff hm c12
        refine lv_iload_n hx hb dd_VR_readValley_34 rfl (lv_at hl 2 rfl) ?_
        refine lv_bipush (v := 40) hx hb dd_VR_readValley_35 (by decide) ?_
        refine lv_icmp_gt (tgt := 59) hx hb dd_VR_readValley_37 (by decide) (fun c13 => ?_) (fun c13 => ?_)
        · have hm := ss_ift hm c13
          exact X_30_59 h_30 _ _ _ (hz2_30 _ (ss_some hm)) hR hS (lv_sub hl [0] rfl)
        · have hm := ss_iff hm c13
          refine ss_aload_n hx hb dd_VR_readValley_40 rfl (lv_at hl 0 rfl) ?_
          refine lv_iload_n hx hb dd_VR_readValley_41 rfl (lv_at hl 2 rfl) ?_
          obtain ⟨h14, qh14, hm⟩ := ss_bind hm
          refine ss_cVv 0 0 (As := [.int x2_30]) hC hK hR hS hl.1 (cc_VR_readClause l G N _ _ _ _ qh14) km_VR_37 (ck_VR_readClause qh14) ⟨Nat.le_of_ble_eq_true rfl, Nat.le_of_ble_eq_true rfl⟩ ⟨Nat.le_of_ble_eq_true rfl, Nat.le_of_ble_eq_true rfl, Nat.le_of_ble_eq_true rfl, Nat.le_of_ble_eq_true rfl⟩ rfl rfl (Nat.le_of_ble_eq_true rfl) dd_VR_readValley_42 (fun H locs hR hS => ?_)
          refine ss_aload_n hx hb dd_VR_readValley_45 rfl (lv_at hl 0 rfl) ?_
          obtain ⟨r15, qr15, hm⟩ := ss_bind hm
          refine ss_getr hC hK hR kf_VR_21 rfl qr15 dd_VR_readValley_46 ?_
          obtain ⟨v16, h17, qh17, hm⟩ := ss_bind2 hm
          refine ss_cV 0 0 (As := []) hC hK hR hS hl.1 (cc_T_goesOn l G N _ _ _ _ qh17) km_VR_41 (ck_T_goesOn qh17) ⟨Nat.le_of_ble_eq_true rfl, Nat.le_of_ble_eq_true rfl⟩ ⟨Nat.le_of_ble_eq_true rfl, Nat.le_of_ble_eq_true rfl, Nat.le_of_ble_eq_true rfl, Nat.le_of_ble_eq_true rfl⟩ rfl rfl (Nat.le_of_ble_eq_true rfl) dd_VR_readValley_49 (fun H locs hR hS => ?_)
          refine lv_istore_n (lv' := [(1, .int v16), (0, ss_v (ss_b G) this), (2, .int x2_30)]) hx hb dd_VR_readValley_52 rfl hl (by decide) (by simp only [List.filter_cons, ss_v_cat]; rfl) (fun ls hl => ?_)
          obtain ⟨v18, qv18, hm⟩ := ss_bind hm
          refine lv_iinc (v := v18) (lv' := [(2, .int v18), (1, .int v16), (0, ss_v (ss_b G) this)]) hx hb dd_VR_readValley_53 hl (k := 2) rfl (ss_inc (by decide) qv18) (by decide) rfl (fun ls hl => ?_)
          refine lv_goto (tgt := 30) hx hb dd_VR_readValley_56 (by decide) ?_
          exact ih_30 v16 v18 h17 _ _ _ (hz1_30 _ (ss_some hm)) hR hS (lv_sub hl [2, 1, 0] rfl)
  exact L_30 N (1 : Int32) (0 : Int32) h7 _ _ _ he_30 hR hS (lv_sub hl [2, 1, 0] rfl)
theorem dd_Wo_settle_0 : decode bb_Wo_settle 0 = .ok (.aload_n 0, 1) := by decide +kernel
theorem dd_Wo_settle_1 : decode bb_Wo_settle 1 = .ok (.getfield 12, 3) := by decide +kernel
theorem dd_Wo_settle_4 : decode bb_Wo_settle 4 = .ok (.aload_n 1, 1) := by decide +kernel
theorem dd_Wo_settle_5 : decode bb_Wo_settle 5 = .ok (.invokevirtual 39, 3) := by decide +kernel
theorem dd_Wo_settle_8 : decode bb_Wo_settle 8 = .ok (.aload_n 0, 1) := by decide +kernel
theorem dd_Wo_settle_9 : decode bb_Wo_settle 9 = .ok (.getfield 21, 3) := by decide +kernel
theorem dd_Wo_settle_12 : decode bb_Wo_settle 12 = .ok (.aload_n 1, 1) := by decide +kernel
theorem dd_Wo_settle_13 : decode bb_Wo_settle 13 = .ok (.getfield 43, 3) := by decide +kernel
theorem dd_Wo_settle_16 : decode bb_Wo_settle 16 = .ok (.invokevirtual 46, 3) := by decide +kernel
theorem dd_Wo_settle_19 : decode bb_Wo_settle 19 = .ok (.aload_n 0, 1) := by decide +kernel
theorem dd_Wo_settle_20 : decode bb_Wo_settle 20 = .ok (.iconst 0, 1) := by decide +kernel
theorem dd_Wo_settle_21 : decode bb_Wo_settle 21 = .ok (.putfield 49, 3) := by decide +kernel
theorem dd_Wo_settle_24 : decode bb_Wo_settle 24 = .ok (.return_, 1) := by decide +kernel
def mm_Wo_settle (N : Nat) (this : Option Nat) (a1 : Option Nat) (h : ss_Hp) : Option ss_Hp :=
  if ss_is h this 8 = true then
    (ss_gr h this 8 0).bind fun r1 =>
    (mm_V_copyFrom N r1 a1 h).bind fun h2 =>
    (ss_gr h2 this 8 1).bind fun r3 =>
    (ss_gr h2 a1 5 4).bind fun r4 =>
    (mm_G_copyFrom N r3 r4 h2).bind fun h5 =>
    (ss_pi h5 this 8 2 (0 : Int32)).bind fun h6 =>
    some h6
  else none
abbrev ww_Wo_settle (p : Program) (l : Launch) (e : Env) (s : State) (m : MethodId) (below : List Frame) (meth : Method) (c : Code) (G : ss_G) (this : Option Nat) (a1 : Option Nat) (h : ss_Hp) (hh : ss_Hp) (H : Heap) (locs : List Loc) (k n : Nat) (g : JFrame) : Prop := W p l e (headSpec (ss_w yy_Wo_settle bb_Wo_settle 2 none) ({ frames := 3, cells := 0, slots := 0, locals := 122 })).room s m ([ss_v (ss_b G) this, ss_v (ss_b G) a1] : List Value).toArray below meth c H locs k n (MQ below (ss_Qc G none hh) ([ss_v (ss_b G) this, ss_v (ss_b G) a1] : List Value).toArray s 0 0 (ss_A G)) g
theorem ck_Wo_settle {N : Nat} {this : Option Nat} {a1 : Option Nat} {h : ss_Hp} {res : ss_Hp} (hm : mm_Wo_settle N this a1 h = some res) : ss_is h this 8 = true := (ss_chk hm).1
set_option maxHeartbeats 4000000 in
set_option maxRecDepth 100000 in
theorem cc_Wo_settle (l : Launch) (G : ss_G) (N : Nat) (this : Option Nat) (a1 : Option Nat) (h : ss_Hp) (hh : ss_Hp) (hm : mm_Wo_settle N this a1 h = some hh) : ss_Ct l G yy_Wo_settle bb_Wo_settle 2 none ({ frames := 3, cells := 0, slots := 0, locals := 122 }) [ss_v (ss_b G) this, ss_v (ss_b G) a1] h none hh := by
  obtain ⟨hck, hm⟩ := ss_chk hm
  refine Met.ofW (cc := bb_Wo_settle) (maxL := 2) (ret := none) (by decide) rfl ?_
  intro p e s m args below meth c s₁ B hml hv
  obtain ⟨rfl, hR, hK⟩ := hv
  have hC : CallFix p m c bb_Wo_settle 2 s _ lw_g sR_8 := ⟨B.exec, B.bytes, hml, findClass_of_methodNamed B.named, fun w hw => atoms_spec (ws := ss_w yy_Wo_settle bb_Wo_settle 2 none) B.pre w (List.mem_cons_of_mem _ hw)⟩
  have hx := hC.1
  have hb := hC.2.1
  have hr := B.returns
  have hlocks := B.notSynchronized
  have hS : va_S (ss_A G) s.heap s.heap [] := va_S.rf
  have hl := lv_entry ([ss_v (ss_b G) this, ss_v (ss_b G) a1]) (n := 2) (by simp [lg_sl, ss_v_cat, ss_cat_i, ss_cat_l, ss_cat_r])
  rw [lg_entry_eq]
  generalize (lg_sl ([ss_v (ss_b G) this, ss_v (ss_b G) a1]) ++ List.replicate (2 - (lg_sl ([ss_v (ss_b G) this, ss_v (ss_b G) a1])).length) Slot.unset).toArray = ls at hl ⊢
  have hl : lv_has ls 2 [(0, ss_v (ss_b G) this), (1, ss_v (ss_b G) a1)] := by simpa [lv_args, ss_v_cat, ss_cat_i, ss_cat_l, ss_cat_r] using hl
  refine ss_aload_n hx hb dd_Wo_settle_0 rfl (lv_at hl 0 rfl) ?_
  obtain ⟨r1, qr1, hm⟩ := ss_bind hm
  refine ss_getr hC hK hR kf_Wo_12 rfl qr1 dd_Wo_settle_1 ?_
  refine ss_aload_n hx hb dd_Wo_settle_4 rfl (lv_at hl 1 rfl) ?_
  obtain ⟨h2, qh2, hm⟩ := ss_bind hm
  refine ss_cVv 0 0 (As := [ss_v (ss_b G) a1]) hC hK hR hS hl.1 (cc_V_copyFrom l G N _ _ _ _ qh2) km_Wo_39 (ck_V_copyFrom qh2) ⟨Nat.le_of_ble_eq_true rfl, Nat.le_of_ble_eq_true rfl⟩ ⟨Nat.le_of_ble_eq_true rfl, Nat.le_of_ble_eq_true rfl, Nat.le_of_ble_eq_true rfl, Nat.le_of_ble_eq_true rfl⟩ rfl rfl (Nat.le_of_ble_eq_true rfl) dd_Wo_settle_5 (fun H locs hR hS => ?_)
  refine ss_aload_n hx hb dd_Wo_settle_8 rfl (lv_at hl 0 rfl) ?_
  obtain ⟨r3, qr3, hm⟩ := ss_bind hm
  refine ss_getr hC hK hR kf_Wo_21 rfl qr3 dd_Wo_settle_9 ?_
  refine ss_aload_n hx hb dd_Wo_settle_12 rfl (lv_at hl 1 rfl) ?_
  obtain ⟨r4, qr4, hm⟩ := ss_bind hm
  refine ss_getr hC hK hR kf_Wo_43 rfl qr4 dd_Wo_settle_13 ?_
  obtain ⟨h5, qh5, hm⟩ := ss_bind hm
  refine ss_cVv 0 0 (As := [ss_v (ss_b G) r4]) hC hK hR hS hl.1 (cc_G_copyFrom l G N _ _ _ _ qh5) km_Wo_46 (ck_G_copyFrom qh5) ⟨Nat.le_of_ble_eq_true rfl, Nat.le_of_ble_eq_true rfl⟩ ⟨Nat.le_of_ble_eq_true rfl, Nat.le_of_ble_eq_true rfl, Nat.le_of_ble_eq_true rfl, Nat.le_of_ble_eq_true rfl⟩ rfl rfl (Nat.le_of_ble_eq_true rfl) dd_Wo_settle_16 (fun H locs hR hS => ?_)
  refine ss_aload_n hx hb dd_Wo_settle_19 rfl (lv_at hl 0 rfl) ?_
  refine lv_iconst (v := 0) hx hb dd_Wo_settle_20 (by decide) ?_
  obtain ⟨h6, qh6, hm⟩ := ss_bind hm
  refine ss_puti hC hK hR hS kp_Wo_49 qh6 dd_Wo_settle_21 (fun H locs hR hS => ?_)
  exact ss_vret hC hr hlocks hR hS hm dd_Wo_settle_24
theorem dd_A_forget_0 : decode bb_A_forget 0 = .ok (.aload_n 0, 1) := by decide +kernel
theorem dd_A_forget_1 : decode bb_A_forget 1 = .ok (.iconst 0, 1) := by decide +kernel
theorem dd_A_forget_2 : decode bb_A_forget 2 = .ok (.putfield 26, 3) := by decide +kernel
theorem dd_A_forget_5 : decode bb_A_forget 5 = .ok (.return_, 1) := by decide +kernel
def mm_A_forget (N : Nat) (this : Option Nat) (h : ss_Hp) : Option ss_Hp :=
  if ss_is h this 3 = true then
    (ss_pi h this 3 1 (0 : Int32)).bind fun h1 =>
    some h1
  else none
abbrev ww_A_forget (p : Program) (l : Launch) (e : Env) (s : State) (m : MethodId) (below : List Frame) (meth : Method) (c : Code) (G : ss_G) (this : Option Nat) (h : ss_Hp) (hh : ss_Hp) (H : Heap) (locs : List Loc) (k n : Nat) (g : JFrame) : Prop := W p l e (headSpec (ss_w yy_A_forget bb_A_forget 1 none) ({ frames := 0, cells := 0, slots := 0, locals := 0 })).room s m ([ss_v (ss_b G) this] : List Value).toArray below meth c H locs k n (MQ below (ss_Qc G none hh) ([ss_v (ss_b G) this] : List Value).toArray s 0 0 (ss_A G)) g
theorem ck_A_forget {N : Nat} {this : Option Nat} {h : ss_Hp} {res : ss_Hp} (hm : mm_A_forget N this h = some res) : ss_is h this 3 = true := (ss_chk hm).1
set_option maxHeartbeats 4000000 in
set_option maxRecDepth 100000 in
theorem cc_A_forget (l : Launch) (G : ss_G) (N : Nat) (this : Option Nat) (h : ss_Hp) (hh : ss_Hp) (hm : mm_A_forget N this h = some hh) : ss_Ct l G yy_A_forget bb_A_forget 1 none ({ frames := 0, cells := 0, slots := 0, locals := 0 }) [ss_v (ss_b G) this] h none hh := by
  obtain ⟨hck, hm⟩ := ss_chk hm
  refine Met.ofW (cc := bb_A_forget) (maxL := 1) (ret := none) (by decide) rfl ?_
  intro p e s m args below meth c s₁ B hml hv
  obtain ⟨rfl, hR, hK⟩ := hv
  have hC : CallFix p m c bb_A_forget 1 s _ lw_g sR_3 := ⟨B.exec, B.bytes, hml, findClass_of_methodNamed B.named, fun w hw => atoms_spec (ws := ss_w yy_A_forget bb_A_forget 1 none) B.pre w (List.mem_cons_of_mem _ hw)⟩
  have hx := hC.1
  have hb := hC.2.1
  have hr := B.returns
  have hlocks := B.notSynchronized
  have hS : va_S (ss_A G) s.heap s.heap [] := va_S.rf
  have hl := lv_entry ([ss_v (ss_b G) this]) (n := 1) (by simp [lg_sl, ss_v_cat, ss_cat_i, ss_cat_l, ss_cat_r])
  rw [lg_entry_eq]
  generalize (lg_sl ([ss_v (ss_b G) this]) ++ List.replicate (1 - (lg_sl ([ss_v (ss_b G) this])).length) Slot.unset).toArray = ls at hl ⊢
  have hl : lv_has ls 1 [(0, ss_v (ss_b G) this)] := by simpa [lv_args, ss_v_cat, ss_cat_i, ss_cat_l, ss_cat_r] using hl
  refine ss_aload_n hx hb dd_A_forget_0 rfl (lv_at hl 0 rfl) ?_
  refine lv_iconst (v := 0) hx hb dd_A_forget_1 (by decide) ?_
  obtain ⟨h1, qh1, hm⟩ := ss_bind hm
  refine ss_puti hC hK hR hS kp_A_26 qh1 dd_A_forget_2 (fun H locs hR hS => ?_)
  exact ss_vret hC hr hlocks hR hS hm dd_A_forget_5
theorem dd_S_valley_0 : decode bb_S_valley 0 = .ok (.aload_n 0, 1) := by decide +kernel
theorem dd_S_valley_1 : decode bb_S_valley 1 = .ok (.getfield 21, 3) := by decide +kernel
theorem dd_S_valley_4 : decode bb_S_valley 4 = .ok (.invokevirtual 95, 3) := by decide +kernel
theorem dd_S_valley_7 : decode bb_S_valley 7 = .ok (.astore_n 1, 1) := by decide +kernel
theorem dd_S_valley_8 : decode bb_S_valley 8 = .ok (.aload_n 0, 1) := by decide +kernel
theorem dd_S_valley_9 : decode bb_S_valley 9 = .ok (.getfield 10, 3) := by decide +kernel
theorem dd_S_valley_12 : decode bb_S_valley 12 = .ok (.iconst 0, 1) := by decide +kernel
theorem dd_S_valley_13 : decode bb_S_valley 13 = .ok (.putfield 87, 3) := by decide +kernel
theorem dd_S_valley_16 : decode bb_S_valley 16 = .ok (.aload_n 1, 1) := by decide +kernel
theorem dd_S_valley_17 : decode bb_S_valley 17 = .ok (.ifnonnull 14, 3) := by decide +kernel
theorem dd_S_valley_20 : decode bb_S_valley 20 = .ok (.bipush (-2), 2) := by decide +kernel
theorem dd_S_valley_22 : decode bb_S_valley 22 = .ok (.aload_n 0, 1) := by decide +kernel
theorem dd_S_valley_23 : decode bb_S_valley 23 = .ok (.getfield 10, 3) := by decide +kernel
theorem dd_S_valley_26 : decode bb_S_valley 26 = .ok (.getfield 99, 3) := by decide +kernel
theorem dd_S_valley_29 : decode bb_S_valley 29 = .ok (.isub, 1) := by decide +kernel
theorem dd_S_valley_30 : decode bb_S_valley 30 = .ok (.ireturn, 1) := by decide +kernel
theorem dd_S_valley_31 : decode bb_S_valley 31 = .ok (.aload_n 0, 1) := by decide +kernel
theorem dd_S_valley_32 : decode bb_S_valley 32 = .ok (.getfield 41, 3) := by decide +kernel
theorem dd_S_valley_35 : decode bb_S_valley 35 = .ok (.aload_n 1, 1) := by decide +kernel
theorem dd_S_valley_36 : decode bb_S_valley 36 = .ok (.invokevirtual 102, 3) := by decide +kernel
theorem dd_S_valley_39 : decode bb_S_valley 39 = .ok (.aload_n 0, 1) := by decide +kernel
theorem dd_S_valley_40 : decode bb_S_valley 40 = .ok (.getfield 52, 3) := by decide +kernel
theorem dd_S_valley_43 : decode bb_S_valley 43 = .ok (.invokevirtual 105, 3) := by decide +kernel
theorem dd_S_valley_46 : decode bb_S_valley 46 = .ok (.aload_n 1, 1) := by decide +kernel
theorem dd_S_valley_47 : decode bb_S_valley 47 = .ok (.getfield 108, 3) := by decide +kernel
theorem dd_S_valley_50 : decode bb_S_valley 50 = .ok (.ireturn, 1) := by decide +kernel
def mm_S_valley (N : Nat) (this : Option Nat) (h : ss_Hp) : Option (Int32 × ss_Hp) :=
  if ss_is h this 11 = true then
    (ss_gr h this 11 1).bind fun r1 =>
    ss_b2 (mm_VR_readValley N r1 h) fun r2 h3 =>
    (ss_gr h3 this 11 0).bind fun r4 =>
    (ss_pi h3 r4 2 0 (0 : Int32)).bind fun h5 =>
    if r2.isSome = true then
      (ss_gr h5 this 11 4).bind fun r7 =>
      (mm_Wo_settle N r7 r2 h5).bind fun h8 =>
      (ss_gr h8 this 11 6).bind fun r9 =>
      (mm_A_forget N r9 h8).bind fun h10 =>
      (ss_gi h10 r2 5 3).bind fun v11 =>
      some (v11, h10)
    else
      (ss_gr h5 this 11 0).bind fun r12 =>
      (ss_gi h5 r12 2 1).bind fun v13 =>
      some (((-2 : Int32) - v13), h5)
  else none
abbrev ww_S_valley (p : Program) (l : Launch) (e : Env) (s : State) (m : MethodId) (below : List Frame) (meth : Method) (c : Code) (G : ss_G) (this : Option Nat) (h : ss_Hp) (rr : Int32) (hh : ss_Hp) (H : Heap) (locs : List Loc) (k n : Nat) (g : JFrame) : Prop := W p l e (headSpec (ss_w yy_S_valley bb_S_valley 2 (some (.int))) ({ frames := 11, cells := 0, slots := 0, locals := 270 })).room s m ([ss_v (ss_b G) this] : List Value).toArray below meth c H locs k n (MQ below (ss_Qc G (some (.int rr)) hh) ([ss_v (ss_b G) this] : List Value).toArray s 0 0 (ss_A G)) g
theorem ck_S_valley {N : Nat} {this : Option Nat} {h : ss_Hp} {res : Int32 × ss_Hp} (hm : mm_S_valley N this h = some res) : ss_is h this 11 = true := (ss_chk hm).1
set_option maxHeartbeats 4000000 in
set_option maxRecDepth 100000 in
theorem cc_S_valley (l : Launch) (G : ss_G) (N : Nat) (this : Option Nat) (h : ss_Hp) (rr : Int32) (hh : ss_Hp) (hm : mm_S_valley N this h = some (rr, hh)) : ss_Ct l G yy_S_valley bb_S_valley 2 (some (.int)) ({ frames := 11, cells := 0, slots := 0, locals := 270 }) [ss_v (ss_b G) this] h (some (.int rr)) hh := by
  obtain ⟨hck, hm⟩ := ss_chk hm
  refine Met.ofW (cc := bb_S_valley) (maxL := 2) (ret := (some (.int))) (by decide) rfl ?_
  intro p e s m args below meth c s₁ B hml hv
  obtain ⟨rfl, hR, hK⟩ := hv
  have hC : CallFix p m c bb_S_valley 2 s _ lw_g sR_11 := ⟨B.exec, B.bytes, hml, findClass_of_methodNamed B.named, fun w hw => atoms_spec (ws := ss_w yy_S_valley bb_S_valley 2 (some (.int))) B.pre w (List.mem_cons_of_mem _ hw)⟩
  have hx := hC.1
  have hb := hC.2.1
  have hr := B.returns
  have hlocks := B.notSynchronized
  have hS : va_S (ss_A G) s.heap s.heap [] := va_S.rf
  have hl := lv_entry ([ss_v (ss_b G) this]) (n := 2) (by simp [lg_sl, ss_v_cat, ss_cat_i, ss_cat_l, ss_cat_r])
  rw [lg_entry_eq]
  generalize (lg_sl ([ss_v (ss_b G) this]) ++ List.replicate (2 - (lg_sl ([ss_v (ss_b G) this])).length) Slot.unset).toArray = ls at hl ⊢
  have hl : lv_has ls 2 [(0, ss_v (ss_b G) this)] := by simpa [lv_args, ss_v_cat, ss_cat_i, ss_cat_l, ss_cat_r] using hl
  refine ss_aload_n hx hb dd_S_valley_0 rfl (lv_at hl 0 rfl) ?_
  obtain ⟨r1, qr1, hm⟩ := ss_bind hm
  refine ss_getr hC hK hR kf_S_21 rfl qr1 dd_S_valley_1 ?_
  obtain ⟨r2, h3, qh3, hm⟩ := ss_bind2 hm
  refine ss_cV 0 0 (As := []) hC hK hR hS hl.1 (cc_VR_readValley l G N _ _ _ _ qh3) km_S_95 (ck_VR_readValley qh3) ⟨Nat.le_of_ble_eq_true rfl, Nat.le_of_ble_eq_true rfl⟩ ⟨Nat.le_of_ble_eq_true rfl, Nat.le_of_ble_eq_true rfl, Nat.le_of_ble_eq_true rfl, Nat.le_of_ble_eq_true rfl⟩ rfl rfl (Nat.le_of_ble_eq_true rfl) dd_S_valley_4 (fun H locs hR hS => ?_)
  refine ss_astore_n (lv' := [(1, ss_v (ss_b G) r2), (0, ss_v (ss_b G) this)]) hx hb dd_S_valley_7 rfl hl (by decide) (by simp only [List.filter_cons, ss_v_cat]; rfl) (fun ls hl => ?_)
  refine ss_aload_n hx hb dd_S_valley_8 rfl (lv_at hl 1 rfl) ?_
  obtain ⟨r4, qr4, hm⟩ := ss_bind hm
  refine ss_getr hC hK hR kf_S_10 rfl qr4 dd_S_valley_9 ?_
  refine lv_iconst (v := 0) hx hb dd_S_valley_12 (by decide) ?_
  obtain ⟨h5, qh5, hm⟩ := ss_bind hm
  refine ss_puti hC hK hR hS kp_S_87 qh5 dd_S_valley_13 (fun H locs hR hS => ?_)
  refine ss_aload_n hx hb dd_S_valley_16 rfl (lv_at hl 0 rfl) ?_
  refine ss_ifnonnull (tgt := 31) hx hb dd_S_valley_17 (by decide) (fun c6 => ?_) (fun c6 => ?_)
  · have hm := ss_ift hm c6
    refine ss_aload_n hx hb dd_S_valley_31 rfl (lv_at hl 1 rfl) ?_
    obtain ⟨r7, qr7, hm⟩ := ss_bind hm
    refine ss_getr hC hK hR kf_S_41 rfl qr7 dd_S_valley_32 ?_
    refine ss_aload_n hx hb dd_S_valley_35 rfl (lv_at hl 0 rfl) ?_
    obtain ⟨h8, qh8, hm⟩ := ss_bind hm
    refine ss_cVv 0 0 (As := [ss_v (ss_b G) r2]) hC hK hR hS hl.1 (cc_Wo_settle l G N _ _ _ _ qh8) km_S_102 (ck_Wo_settle qh8) ⟨Nat.le_of_ble_eq_true rfl, Nat.le_of_ble_eq_true rfl⟩ ⟨Nat.le_of_ble_eq_true rfl, Nat.le_of_ble_eq_true rfl, Nat.le_of_ble_eq_true rfl, Nat.le_of_ble_eq_true rfl⟩ rfl rfl (Nat.le_of_ble_eq_true rfl) dd_S_valley_36 (fun H locs hR hS => ?_)
    refine ss_aload_n hx hb dd_S_valley_39 rfl (lv_at hl 1 rfl) ?_
    obtain ⟨r9, qr9, hm⟩ := ss_bind hm
    refine ss_getr hC hK hR kf_S_52 rfl qr9 dd_S_valley_40 ?_
    obtain ⟨h10, qh10, hm⟩ := ss_bind hm
    refine ss_cVv 0 0 (As := []) hC hK hR hS hl.1 (cc_A_forget l G N _ _ _ qh10) km_S_105 (ck_A_forget qh10) ⟨Nat.le_of_ble_eq_true rfl, Nat.le_of_ble_eq_true rfl⟩ ⟨Nat.le_of_ble_eq_true rfl, Nat.le_of_ble_eq_true rfl, Nat.le_of_ble_eq_true rfl, Nat.le_of_ble_eq_true rfl⟩ rfl rfl (Nat.le_of_ble_eq_true rfl) dd_S_valley_43 (fun H locs hR hS => ?_)
    refine ss_aload_n hx hb dd_S_valley_46 rfl (lv_at hl 0 rfl) ?_
    obtain ⟨v11, qv11, hm⟩ := ss_bind hm
    refine ss_geti hC hK hR kf_S_108 qv11 dd_S_valley_47 ?_
    exact ss_iret hC hr hlocks hR hS hm dd_S_valley_50
  · have hm := ss_iff hm c6
    refine lv_bipush (v := -2) hx hb dd_S_valley_20 (by decide) ?_
    refine ss_aload_n hx hb dd_S_valley_22 rfl (lv_at hl 1 rfl) ?_
    obtain ⟨r12, qr12, hm⟩ := ss_bind hm
    refine ss_getr hC hK hR kf_S_10 rfl qr12 dd_S_valley_23 ?_
    obtain ⟨v13, qv13, hm⟩ := ss_bind hm
    refine ss_geti hC hK hR kf_S_99 qv13 dd_S_valley_26 ?_
    refine lv_isub hx hb dd_S_valley_29 ?_
    exact ss_iret hC hr hlocks hR hS hm dd_S_valley_30
theorem dd_T_isWord_0 : decode bb_T_isWord 0 = .ok (.aload_n 0, 1) := by decide +kernel
theorem dd_T_isWord_1 : decode bb_T_isWord 1 = .ok (.aload_n 1, 1) := by decide +kernel
theorem dd_T_isWord_2 : decode bb_T_isWord 2 = .ok (.invokevirtual 60, 3) := by decide +kernel
theorem dd_T_isWord_5 : decode bb_T_isWord 5 = .ok (.ifCond .ne 7, 3) := by decide +kernel
theorem dd_T_isWord_8 : decode bb_T_isWord 8 = .ok (.iconst 1, 1) := by decide +kernel
theorem dd_T_isWord_9 : decode bb_T_isWord 9 = .ok (.goto 4, 3) := by decide +kernel
theorem dd_T_isWord_12 : decode bb_T_isWord 12 = .ok (.iconst 0, 1) := by decide +kernel
theorem dd_T_isWord_13 : decode bb_T_isWord 13 = .ok (.ireturn, 1) := by decide +kernel
def mm_T_isWord_j13 (N : Nat) (this : Option Nat) (a1 : Nat) (h : ss_Hp) (s0_13 : Int32) : Option Int32 :=
  (ss_bz s0_13).bind fun v1 =>
  some v1
def mm_T_isWord (N : Nat) (this : Option Nat) (a1 : Nat) (h : ss_Hp) : Option Int32 :=
  if ss_is h this 2 = true then
    (mm_T_wordIn N this a1 h).bind fun v2 =>
    if v2 = 0 then
      mm_T_isWord_j13 N this a1 h (1 : Int32)
    else
      mm_T_isWord_j13 N this a1 h (0 : Int32)
  else none
abbrev ww_T_isWord (p : Program) (l : Launch) (e : Env) (s : State) (m : MethodId) (below : List Frame) (meth : Method) (c : Code) (G : ss_G) (this : Option Nat) (a1 : Nat) (h : ss_Hp) (rr : Int32) (H : Heap) (locs : List Loc) (k n : Nat) (g : JFrame) : Prop := W p l e (headSpec (ss_w yy_T_isWord bb_T_isWord 2 (some .boolean)) ({ frames := 9, cells := 0, slots := 0, locals := 226 })).room s m ([ss_v (ss_b G) this, .ref (G.2.2.2.1 a1)] : List Value).toArray below meth c H locs k n (MQ below (ss_Qc G (some (.int rr)) h) ([ss_v (ss_b G) this, .ref (G.2.2.2.1 a1)] : List Value).toArray s 0 0 (ss_A G)) g
theorem ck_T_isWord {N : Nat} {this : Option Nat} {a1 : Nat} {h : ss_Hp} {res : Int32} (hm : mm_T_isWord N this a1 h = some res) : ss_is h this 2 = true := (ss_chk hm).1
set_option maxHeartbeats 4000000 in
set_option maxRecDepth 100000 in
theorem cc_T_isWord (l : Launch) (G : ss_G) (N : Nat) (this : Option Nat) (a1 : Nat) (h : ss_Hp) (rr : Int32) (hm : mm_T_isWord N this a1 h = some rr) : ss_Ct l G yy_T_isWord bb_T_isWord 2 (some .boolean) ({ frames := 9, cells := 0, slots := 0, locals := 226 }) [ss_v (ss_b G) this, .ref (G.2.2.2.1 a1)] h (some (.int rr)) h := by
  obtain ⟨hck, hm⟩ := ss_chk hm
  refine Met.ofW (cc := bb_T_isWord) (maxL := 2) (ret := (some .boolean)) (by decide) rfl ?_
  intro p e s m args below meth c s₁ B hml hv
  obtain ⟨rfl, hR, hK⟩ := hv
  have hC : CallFix p m c bb_T_isWord 2 s _ lw_g sR_2 := ⟨B.exec, B.bytes, hml, findClass_of_methodNamed B.named, fun w hw => atoms_spec (ws := ss_w yy_T_isWord bb_T_isWord 2 (some .boolean)) B.pre w (List.mem_cons_of_mem _ hw)⟩
  have hx := hC.1
  have hb := hC.2.1
  have hr := B.returns
  have hlocks := B.notSynchronized
  have hS : va_S (ss_A G) s.heap s.heap [] := va_S.rf
  have hl := lv_entry ([ss_v (ss_b G) this, .ref (G.2.2.2.1 a1)]) (n := 2) (by simp [lg_sl, ss_v_cat, ss_cat_i, ss_cat_l, ss_cat_r])
  rw [lg_entry_eq]
  generalize (lg_sl ([ss_v (ss_b G) this, .ref (G.2.2.2.1 a1)]) ++ List.replicate (2 - (lg_sl ([ss_v (ss_b G) this, .ref (G.2.2.2.1 a1)])).length) Slot.unset).toArray = ls at hl ⊢
  have hl : lv_has ls 2 [(0, ss_v (ss_b G) this), (1, .ref (G.2.2.2.1 a1))] := by simpa [lv_args, ss_v_cat, ss_cat_i, ss_cat_l, ss_cat_r] using hl
  have J_13 : ∀ (s0_13 : Int32) (H : Heap) (locs : List Loc) (ls : Array Slot), mm_T_isWord_j13 N this a1 h s0_13 = some rr → ss_R G h H → va_S (ss_A G) s.heap H locs → lv_has ls 2 [] → ww_T_isWord p l e s m below meth c G this a1 h rr  H locs 0 0 (F0 m 13 ls [.int s0_13]) := by
    intro s0_13 H locs ls hm hR hS hl
    obtain ⟨v1, qv1, hm⟩ := ss_bind hm
    obtain ⟨hnb, rfl⟩ := ss_bzs qv1
    exact ss_zret hC hr hnb hlocks hR hS (ss_with _ hm) dd_T_isWord_13
  refine ss_aload_n hx hb dd_T_isWord_0 rfl (lv_at hl 0 rfl) ?_
  refine lv_aload_n hx hb dd_T_isWord_1 rfl (lv_at hl 1 rfl) ?_
  obtain ⟨v2, qv2, hm⟩ := ss_bind hm
  refine ss_cV 0 0 (As := [.ref (G.2.2.2.1 a1)]) hC hK hR hS hl.1 (cc_T_wordIn l G N _ _ _ _ qv2) km_T_60 (ck_T_wordIn qv2) ⟨Nat.le_of_ble_eq_true rfl, Nat.le_of_ble_eq_true rfl⟩ ⟨Nat.le_of_ble_eq_true rfl, Nat.le_of_ble_eq_true rfl, Nat.le_of_ble_eq_true rfl, Nat.le_of_ble_eq_true rfl⟩ rfl rfl (Nat.le_of_ble_eq_true rfl) dd_T_isWord_2 (fun H locs hR hS => ?_)
  refine lv_if_ne (tgt := 12) hx hb dd_T_isWord_5 (by decide) (fun c3 => ?_) (fun c3 => ?_)
  · have hm := ss_iff hm c3
    refine lv_iconst (v := 0) hx hb dd_T_isWord_12 (by decide) ?_
    exact J_13 (0 : Int32)  _ _ _ hm hR hS (lv_sub hl [] rfl)
  · have hm := ss_ift hm c3
    refine lv_iconst (v := 1) hx hb dd_T_isWord_8 (by decide) ?_
    refine lv_goto (tgt := 13) hx hb dd_T_isWord_9 (by decide) ?_
    exact J_13 (1 : Int32)  _ _ _ hm hR hS (lv_sub hl [] rfl)
theorem dd_RR_begins_0 : decode bb_RR_begins 0 = .ok (.aload_n 0, 1) := by decide +kernel
theorem dd_RR_begins_1 : decode bb_RR_begins 1 = .ok (.getfield 20, 3) := by decide +kernel
theorem dd_RR_begins_4 : decode bb_RR_begins 4 = .ok (.ldc 68, 2) := by decide +kernel
theorem dd_RR_begins_6 : decode bb_RR_begins 6 = .ok (.invokevirtual 52, 3) := by decide +kernel
theorem dd_RR_begins_9 : decode bb_RR_begins 9 = .ok (.ifCond .ne 14, 3) := by decide +kernel
theorem dd_RR_begins_12 : decode bb_RR_begins 12 = .ok (.aload_n 0, 1) := by decide +kernel
theorem dd_RR_begins_13 : decode bb_RR_begins 13 = .ok (.getfield 20, 3) := by decide +kernel
theorem dd_RR_begins_16 : decode bb_RR_begins 16 = .ok (.iconst 0, 1) := by decide +kernel
theorem dd_RR_begins_17 : decode bb_RR_begins 17 = .ok (.invokevirtual 70, 3) := by decide +kernel
theorem dd_RR_begins_20 : decode bb_RR_begins 20 = .ok (.goto 20, 3) := by decide +kernel
theorem dd_RR_begins_23 : decode bb_RR_begins 23 = .ok (.aload_n 0, 1) := by decide +kernel
theorem dd_RR_begins_24 : decode bb_RR_begins 24 = .ok (.getfield 28, 3) := by decide +kernel
theorem dd_RR_begins_27 : decode bb_RR_begins 27 = .ok (.bipush 12, 2) := by decide +kernel
theorem dd_RR_begins_29 : decode bb_RR_begins 29 = .ok (.if_icmp .lt 11, 3) := by decide +kernel
theorem dd_RR_begins_32 : decode bb_RR_begins 32 = .ok (.aload_n 0, 1) := by decide +kernel
theorem dd_RR_begins_33 : decode bb_RR_begins 33 = .ok (.getfield 20, 3) := by decide +kernel
theorem dd_RR_begins_36 : decode bb_RR_begins 36 = .ok (.iconst 4, 1) := by decide +kernel
theorem dd_RR_begins_37 : decode bb_RR_begins 37 = .ok (.invokevirtual 70, 3) := by decide +kernel
theorem dd_RR_begins_40 : decode bb_RR_begins 40 = .ok (.aload_n 0, 1) := by decide +kernel
theorem dd_RR_begins_41 : decode bb_RR_begins 41 = .ok (.getfield 20, 3) := by decide +kernel
theorem dd_RR_begins_44 : decode bb_RR_begins 44 = .ok (.invokevirtual 47, 3) := by decide +kernel
theorem dd_RR_begins_47 : decode bb_RR_begins 47 = .ok (.ireturn, 1) := by decide +kernel
def mm_RR_begins_j40 (N : Nat) (this : Option Nat) (h_40 : ss_Hp) : Option (Int32 × ss_Hp) :=
  (ss_gr h_40 this 4 0).bind fun r1 =>
  (mm_T_isWell N r1 h_40).bind fun v2 =>
  (ss_bz v2).bind fun v3 =>
  some (v3, h_40)
def mm_RR_begins (N : Nat) (this : Option Nat) (h : ss_Hp) : Option (Int32 × ss_Hp) :=
  if ss_is h this 4 = true then
    (ss_gr h this 4 0).bind fun r4 =>
    (mm_T_isWord N r4 1 h).bind fun v5 =>
    if v5 = 0 then
      (ss_gr h this 4 0).bind fun r11 =>
      (mm_T_fail N r11 (0 : Int32) h).bind fun h12 =>
      mm_RR_begins_j40 N this h12
    else
      (ss_gi h this 4 1).bind fun v7 =>
      if v7 < (12 : Int32) then
        mm_RR_begins_j40 N this h
      else
        (ss_gr h this 4 0).bind fun r9 =>
        (mm_T_fail N r9 (4 : Int32) h).bind fun h10 =>
        mm_RR_begins_j40 N this h10
  else none
abbrev ww_RR_begins (p : Program) (l : Launch) (e : Env) (s : State) (m : MethodId) (below : List Frame) (meth : Method) (c : Code) (G : ss_G) (this : Option Nat) (h : ss_Hp) (rr : Int32) (hh : ss_Hp) (H : Heap) (locs : List Loc) (k n : Nat) (g : JFrame) : Prop := W p l e (headSpec (ss_w yy_RR_begins bb_RR_begins 1 (some .boolean)) ({ frames := 10, cells := 0, slots := 0, locals := 247 })).room s m ([ss_v (ss_b G) this] : List Value).toArray below meth c H locs k n (MQ below (ss_Qc G (some (.int rr)) hh) ([ss_v (ss_b G) this] : List Value).toArray s 0 0 (ss_A G)) g
theorem ck_RR_begins {N : Nat} {this : Option Nat} {h : ss_Hp} {res : Int32 × ss_Hp} (hm : mm_RR_begins N this h = some res) : ss_is h this 4 = true := (ss_chk hm).1
set_option maxHeartbeats 4000000 in
set_option maxRecDepth 100000 in
theorem cc_RR_begins (l : Launch) (G : ss_G) (N : Nat) (this : Option Nat) (h : ss_Hp) (rr : Int32) (hh : ss_Hp) (hm : mm_RR_begins N this h = some (rr, hh)) : ss_Ct l G yy_RR_begins bb_RR_begins 1 (some .boolean) ({ frames := 10, cells := 0, slots := 0, locals := 247 }) [ss_v (ss_b G) this] h (some (.int rr)) hh := by
  obtain ⟨hck, hm⟩ := ss_chk hm
  refine Met.ofW (cc := bb_RR_begins) (maxL := 1) (ret := (some .boolean)) (by decide) rfl ?_
  intro p e s m args below meth c s₁ B hml hv
  obtain ⟨rfl, hR, hK⟩ := hv
  have hC : CallFix p m c bb_RR_begins 1 s _ lw_g sR_4 := ⟨B.exec, B.bytes, hml, findClass_of_methodNamed B.named, fun w hw => atoms_spec (ws := ss_w yy_RR_begins bb_RR_begins 1 (some .boolean)) B.pre w (List.mem_cons_of_mem _ hw)⟩
  have hx := hC.1
  have hb := hC.2.1
  have hr := B.returns
  have hlocks := B.notSynchronized
  have hS : va_S (ss_A G) s.heap s.heap [] := va_S.rf
  have hl := lv_entry ([ss_v (ss_b G) this]) (n := 1) (by simp [lg_sl, ss_v_cat, ss_cat_i, ss_cat_l, ss_cat_r])
  rw [lg_entry_eq]
  generalize (lg_sl ([ss_v (ss_b G) this]) ++ List.replicate (1 - (lg_sl ([ss_v (ss_b G) this])).length) Slot.unset).toArray = ls at hl ⊢
  have hl : lv_has ls 1 [(0, ss_v (ss_b G) this)] := by simpa [lv_args, ss_v_cat, ss_cat_i, ss_cat_l, ss_cat_r] using hl
  have J_40 : ∀ (h_40 : ss_Hp) (H : Heap) (locs : List Loc) (ls : Array Slot), mm_RR_begins_j40 N this h_40 = some (rr, hh) → ss_R G h_40 H → va_S (ss_A G) s.heap H locs → lv_has ls 1 [(0, ss_v (ss_b G) this)] → ww_RR_begins p l e s m below meth c G this h rr hh  H locs 0 0 (F0 m 40 ls []) := by
    intro h_40 H locs ls hm hR hS hl
    refine ss_aload_n hx hb dd_RR_begins_40 rfl (lv_at hl 0 rfl) ?_
    obtain ⟨r1, qr1, hm⟩ := ss_bind hm
    refine ss_getr hC hK hR kf_RR_20 rfl qr1 dd_RR_begins_41 ?_
    obtain ⟨v2, qv2, hm⟩ := ss_bind hm
    refine ss_cV 0 0 (As := []) hC hK hR hS hl.1 (cc_T_isWell l G N _ _ _ qv2) km_RR_47 (ck_T_isWell qv2) ⟨Nat.le_of_ble_eq_true rfl, Nat.le_of_ble_eq_true rfl⟩ ⟨Nat.le_of_ble_eq_true rfl, Nat.le_of_ble_eq_true rfl, Nat.le_of_ble_eq_true rfl, Nat.le_of_ble_eq_true rfl⟩ rfl rfl (Nat.le_of_ble_eq_true rfl) dd_RR_begins_44 (fun H locs hR hS => ?_)
    obtain ⟨v3, qv3, hm⟩ := ss_bind hm
    obtain ⟨hnb, rfl⟩ := ss_bzs qv3
    exact ss_zret hC hr hnb hlocks hR hS hm dd_RR_begins_47
  refine ss_aload_n hx hb dd_RR_begins_0 rfl (lv_at hl 0 rfl) ?_
  obtain ⟨r4, qr4, hm⟩ := ss_bind hm
  refine ss_getr hC hK hR kf_RR_20 rfl qr4 dd_RR_begins_1 ?_
  refine va_ldcS hx hb hC.2.2.2.1 (ss_sr_1 hK) dd_RR_begins_4 ?_
  obtain ⟨v5, qv5, hm⟩ := ss_bind hm
  refine ss_cV 0 0 (As := [.ref (G.2.2.2.1 1)]) hC hK hR hS hl.1 (cc_T_isWord l G N _ _ _ _ qv5) km_RR_52 (ck_T_isWord qv5) ⟨Nat.le_of_ble_eq_true rfl, Nat.le_of_ble_eq_true rfl⟩ ⟨Nat.le_of_ble_eq_true rfl, Nat.le_of_ble_eq_true rfl, Nat.le_of_ble_eq_true rfl, Nat.le_of_ble_eq_true rfl⟩ rfl rfl (Nat.le_of_ble_eq_true rfl) dd_RR_begins_6 (fun H locs hR hS => ?_)
  refine lv_if_ne (tgt := 23) hx hb dd_RR_begins_9 (by decide) (fun c6 => ?_) (fun c6 => ?_)
  · have hm := ss_iff hm c6
    refine ss_aload_n hx hb dd_RR_begins_23 rfl (lv_at hl 0 rfl) ?_
    obtain ⟨v7, qv7, hm⟩ := ss_bind hm
    refine ss_geti hC hK hR kf_RR_28 qv7 dd_RR_begins_24 ?_
    refine lv_bipush (v := 12) hx hb dd_RR_begins_27 (by decide) ?_
    refine lv_icmp_lt (tgt := 40) hx hb dd_RR_begins_29 (by decide) (fun c8 => ?_) (fun c8 => ?_)
    · have hm := ss_ift hm c8
      exact J_40 h _ _ _ hm hR hS hl
    · have hm := ss_iff hm c8
      refine ss_aload_n hx hb dd_RR_begins_32 rfl (lv_at hl 0 rfl) ?_
      obtain ⟨r9, qr9, hm⟩ := ss_bind hm
      refine ss_getr hC hK hR kf_RR_20 rfl qr9 dd_RR_begins_33 ?_
      refine lv_iconst (v := 4) hx hb dd_RR_begins_36 (by decide) ?_
      obtain ⟨h10, qh10, hm⟩ := ss_bind hm
      refine ss_cVv 0 0 (As := [.int (4 : Int32)]) hC hK hR hS hl.1 (cc_T_fail l G N _ _ _ _ qh10) km_RR_70 (ck_T_fail qh10) ⟨Nat.le_of_ble_eq_true rfl, Nat.le_of_ble_eq_true rfl⟩ ⟨Nat.le_of_ble_eq_true rfl, Nat.le_of_ble_eq_true rfl, Nat.le_of_ble_eq_true rfl, Nat.le_of_ble_eq_true rfl⟩ rfl rfl (Nat.le_of_ble_eq_true rfl) dd_RR_begins_37 (fun H locs hR hS => ?_)
      exact J_40 h10 _ _ _ hm hR hS hl
  · have hm := ss_ift hm c6
    refine ss_aload_n hx hb dd_RR_begins_12 rfl (lv_at hl 0 rfl) ?_
    obtain ⟨r11, qr11, hm⟩ := ss_bind hm
    refine ss_getr hC hK hR kf_RR_20 rfl qr11 dd_RR_begins_13 ?_
    refine lv_iconst (v := 0) hx hb dd_RR_begins_16 (by decide) ?_
    obtain ⟨h12, qh12, hm⟩ := ss_bind hm
    refine ss_cVv 0 0 (As := [.int (0 : Int32)]) hC hK hR hS hl.1 (cc_T_fail l G N _ _ _ _ qh12) km_RR_70 (ck_T_fail qh12) ⟨Nat.le_of_ble_eq_true rfl, Nat.le_of_ble_eq_true rfl⟩ ⟨Nat.le_of_ble_eq_true rfl, Nat.le_of_ble_eq_true rfl, Nat.le_of_ble_eq_true rfl, Nat.le_of_ble_eq_true rfl⟩ rfl rfl (Nat.le_of_ble_eq_true rfl) dd_RR_begins_17 (fun H locs hR hS => ?_)
    refine lv_goto (tgt := 40) hx hb dd_RR_begins_20 (by decide) ?_
    exact J_40 h12 _ _ _ hm hR hS hl
theorem dd_RR_countPart_0 : decode bb_RR_countPart 0 = .ok (.aload_n 0, 1) := by decide +kernel
theorem dd_RR_countPart_1 : decode bb_RR_countPart 1 = .ok (.getfield 31, 3) := by decide +kernel
theorem dd_RR_countPart_4 : decode bb_RR_countPart 4 = .ok (.bipush 60, 2) := by decide +kernel
theorem dd_RR_countPart_6 : decode bb_RR_countPart 6 = .ok (.if_icmp .lt 11, 3) := by decide +kernel
theorem dd_RR_countPart_9 : decode bb_RR_countPart 9 = .ok (.aload_n 0, 1) := by decide +kernel
theorem dd_RR_countPart_10 : decode bb_RR_countPart 10 = .ok (.getfield 20, 3) := by decide +kernel
theorem dd_RR_countPart_13 : decode bb_RR_countPart 13 = .ok (.iconst 3, 1) := by decide +kernel
theorem dd_RR_countPart_14 : decode bb_RR_countPart 14 = .ok (.invokevirtual 70, 3) := by decide +kernel
theorem dd_RR_countPart_17 : decode bb_RR_countPart 17 = .ok (.aload_n 0, 1) := by decide +kernel
theorem dd_RR_countPart_18 : decode bb_RR_countPart 18 = .ok (.dup, 1) := by decide +kernel
theorem dd_RR_countPart_19 : decode bb_RR_countPart 19 = .ok (.getfield 31, 3) := by decide +kernel
theorem dd_RR_countPart_22 : decode bb_RR_countPart 22 = .ok (.iconst 1, 1) := by decide +kernel
theorem dd_RR_countPart_23 : decode bb_RR_countPart 23 = .ok (.iadd, 1) := by decide +kernel
theorem dd_RR_countPart_24 : decode bb_RR_countPart 24 = .ok (.putfield 31, 3) := by decide +kernel
theorem dd_RR_countPart_27 : decode bb_RR_countPart 27 = .ok (.return_, 1) := by decide +kernel
def mm_RR_countPart_j17 (N : Nat) (this : Option Nat) (h_17 : ss_Hp) : Option ss_Hp :=
  (ss_gi h_17 this 4 2).bind fun v1 =>
  (ss_pi h_17 this 4 2 (v1 + (1 : Int32))).bind fun h2 =>
  some h2
def mm_RR_countPart (N : Nat) (this : Option Nat) (h : ss_Hp) : Option ss_Hp :=
  if ss_is h this 4 = true then
    (ss_gi h this 4 2).bind fun v3 =>
    if v3 < (60 : Int32) then
      mm_RR_countPart_j17 N this h
    else
      (ss_gr h this 4 0).bind fun r5 =>
      (mm_T_fail N r5 (3 : Int32) h).bind fun h6 =>
      mm_RR_countPart_j17 N this h6
  else none
abbrev ww_RR_countPart (p : Program) (l : Launch) (e : Env) (s : State) (m : MethodId) (below : List Frame) (meth : Method) (c : Code) (G : ss_G) (this : Option Nat) (h : ss_Hp) (hh : ss_Hp) (H : Heap) (locs : List Loc) (k n : Nat) (g : JFrame) : Prop := W p l e (headSpec (ss_w yy_RR_countPart bb_RR_countPart 1 none) ({ frames := 1, cells := 0, slots := 0, locals := 21 })).room s m ([ss_v (ss_b G) this] : List Value).toArray below meth c H locs k n (MQ below (ss_Qc G none hh) ([ss_v (ss_b G) this] : List Value).toArray s 0 0 (ss_A G)) g
theorem ck_RR_countPart {N : Nat} {this : Option Nat} {h : ss_Hp} {res : ss_Hp} (hm : mm_RR_countPart N this h = some res) : ss_is h this 4 = true := (ss_chk hm).1
set_option maxHeartbeats 4000000 in
set_option maxRecDepth 100000 in
theorem cc_RR_countPart (l : Launch) (G : ss_G) (N : Nat) (this : Option Nat) (h : ss_Hp) (hh : ss_Hp) (hm : mm_RR_countPart N this h = some hh) : ss_Ct l G yy_RR_countPart bb_RR_countPart 1 none ({ frames := 1, cells := 0, slots := 0, locals := 21 }) [ss_v (ss_b G) this] h none hh := by
  obtain ⟨hck, hm⟩ := ss_chk hm
  refine Met.ofW (cc := bb_RR_countPart) (maxL := 1) (ret := none) (by decide) rfl ?_
  intro p e s m args below meth c s₁ B hml hv
  obtain ⟨rfl, hR, hK⟩ := hv
  have hC : CallFix p m c bb_RR_countPart 1 s _ lw_g sR_4 := ⟨B.exec, B.bytes, hml, findClass_of_methodNamed B.named, fun w hw => atoms_spec (ws := ss_w yy_RR_countPart bb_RR_countPart 1 none) B.pre w (List.mem_cons_of_mem _ hw)⟩
  have hx := hC.1
  have hb := hC.2.1
  have hr := B.returns
  have hlocks := B.notSynchronized
  have hS : va_S (ss_A G) s.heap s.heap [] := va_S.rf
  have hl := lv_entry ([ss_v (ss_b G) this]) (n := 1) (by simp [lg_sl, ss_v_cat, ss_cat_i, ss_cat_l, ss_cat_r])
  rw [lg_entry_eq]
  generalize (lg_sl ([ss_v (ss_b G) this]) ++ List.replicate (1 - (lg_sl ([ss_v (ss_b G) this])).length) Slot.unset).toArray = ls at hl ⊢
  have hl : lv_has ls 1 [(0, ss_v (ss_b G) this)] := by simpa [lv_args, ss_v_cat, ss_cat_i, ss_cat_l, ss_cat_r] using hl
  have J_17 : ∀ (h_17 : ss_Hp) (H : Heap) (locs : List Loc) (ls : Array Slot), mm_RR_countPart_j17 N this h_17 = some hh → ss_R G h_17 H → va_S (ss_A G) s.heap H locs → lv_has ls 1 [(0, ss_v (ss_b G) this)] → ww_RR_countPart p l e s m below meth c G this h hh  H locs 0 0 (F0 m 17 ls []) := by
    intro h_17 H locs ls hm hR hS hl
    refine ss_aload_n hx hb dd_RR_countPart_17 rfl (lv_at hl 0 rfl) ?_
    refine ss_dupr hx hb dd_RR_countPart_18 ?_
    obtain ⟨v1, qv1, hm⟩ := ss_bind hm
    refine ss_geti hC hK hR kf_RR_31 qv1 dd_RR_countPart_19 ?_
    refine lv_iconst (v := 1) hx hb dd_RR_countPart_22 (by decide) ?_
    refine lv_iadd hx hb dd_RR_countPart_23 ?_
    obtain ⟨h2, qh2, hm⟩ := ss_bind hm
    refine ss_puti hC hK hR hS kp_RR_31 qh2 dd_RR_countPart_24 (fun H locs hR hS => ?_)
    exact ss_vret hC hr hlocks hR hS hm dd_RR_countPart_27
  refine ss_aload_n hx hb dd_RR_countPart_0 rfl (lv_at hl 0 rfl) ?_
  obtain ⟨v3, qv3, hm⟩ := ss_bind hm
  refine ss_geti hC hK hR kf_RR_31 qv3 dd_RR_countPart_1 ?_
  refine lv_bipush (v := 60) hx hb dd_RR_countPart_4 (by decide) ?_
  refine lv_icmp_lt (tgt := 17) hx hb dd_RR_countPart_6 (by decide) (fun c4 => ?_) (fun c4 => ?_)
  · have hm := ss_ift hm c4
    exact J_17 h _ _ _ hm hR hS hl
  · have hm := ss_iff hm c4
    refine ss_aload_n hx hb dd_RR_countPart_9 rfl (lv_at hl 0 rfl) ?_
    obtain ⟨r5, qr5, hm⟩ := ss_bind hm
    refine ss_getr hC hK hR kf_RR_20 rfl qr5 dd_RR_countPart_10 ?_
    refine lv_iconst (v := 3) hx hb dd_RR_countPart_13 (by decide) ?_
    obtain ⟨h6, qh6, hm⟩ := ss_bind hm
    refine ss_cVv 0 0 (As := [.int (3 : Int32)]) hC hK hR hS hl.1 (cc_T_fail l G N _ _ _ _ qh6) km_RR_70 (ck_T_fail qh6) ⟨Nat.le_of_ble_eq_true rfl, Nat.le_of_ble_eq_true rfl⟩ ⟨Nat.le_of_ble_eq_true rfl, Nat.le_of_ble_eq_true rfl, Nat.le_of_ble_eq_true rfl, Nat.le_of_ble_eq_true rfl⟩ rfl rfl (Nat.le_of_ble_eq_true rfl) dd_RR_countPart_14 (fun H locs hR hS => ?_)
    exact J_17 h6 _ _ _ hm hR hS hl
