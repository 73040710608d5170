theorem dd_RR_emit_0 : decode bb_RR_emit 0 = .ok (.aload_n 0, 1) := by decide +kernel
theorem dd_RR_emit_1 : decode bb_RR_emit 1 = .ok (.getfield 24, 3) := by decide +kernel
theorem dd_RR_emit_4 : decode bb_RR_emit 4 = .ok (.aload_n 0, 1) := by decide +kernel
theorem dd_RR_emit_5 : decode bb_RR_emit 5 = .ok (.getfield 11, 3) := by decide +kernel
theorem dd_RR_emit_8 : decode bb_RR_emit 8 = .ok (.arraylength, 1) := by decide +kernel
theorem dd_RR_emit_9 : decode bb_RR_emit 9 = .ok (.if_icmp .ge 23, 3) := by decide +kernel
theorem dd_RR_emit_12 : decode bb_RR_emit 12 = .ok (.aload_n 0, 1) := by decide +kernel
theorem dd_RR_emit_13 : decode bb_RR_emit 13 = .ok (.getfield 11, 3) := by decide +kernel
theorem dd_RR_emit_16 : decode bb_RR_emit 16 = .ok (.aload_n 0, 1) := by decide +kernel
theorem dd_RR_emit_17 : decode bb_RR_emit 17 = .ok (.getfield 24, 3) := by decide +kernel
theorem dd_RR_emit_20 : decode bb_RR_emit 20 = .ok (.iload_n 1, 1) := by decide +kernel
theorem dd_RR_emit_21 : decode bb_RR_emit 21 = .ok (.iastore, 1) := by decide +kernel
theorem dd_RR_emit_22 : decode bb_RR_emit 22 = .ok (.aload_n 0, 1) := by decide +kernel
theorem dd_RR_emit_23 : decode bb_RR_emit 23 = .ok (.dup, 1) := by decide +kernel
theorem dd_RR_emit_24 : decode bb_RR_emit 24 = .ok (.getfield 24, 3) := by decide +kernel
theorem dd_RR_emit_27 : decode bb_RR_emit 27 = .ok (.iconst 1, 1) := by decide +kernel
theorem dd_RR_emit_28 : decode bb_RR_emit 28 = .ok (.iadd, 1) := by decide +kernel
theorem dd_RR_emit_29 : decode bb_RR_emit 29 = .ok (.putfield 24, 3) := by decide +kernel
theorem dd_RR_emit_32 : decode bb_RR_emit 32 = .ok (.return_, 1) := by decide +kernel
def mm_RR_emit_j32 (N : Nat) (this : Option Nat) (a1 : Int32) (h_32 : ss_Hp) : Option ss_Hp :=
  some h_32
def mm_RR_emit (N : Nat) (this : Option Nat) (a1 : Int32) (h : ss_Hp) : Option ss_Hp :=
  if ss_is h this 4 = true then
    (ss_gi h this 4 0).bind fun v1 =>
    (ss_gr h this 4 1).bind fun r2 =>
    (ss_len h r2 20).bind fun v3 =>
    if v3 ≤ v1 then
      mm_RR_emit_j32 N this a1 h
    else
      (ss_gr h this 4 1).bind fun r5 =>
      (ss_gi h this 4 0).bind fun v6 =>
      (ss_ui h r5 20 v6 a1).bind fun h7 =>
      (ss_gi h7 this 4 0).bind fun v8 =>
      (ss_pi h7 this 4 0 (v8 + (1 : Int32))).bind fun h9 =>
      mm_RR_emit_j32 N this a1 h9
  else none
abbrev ww_RR_emit (p : Program) (l : Launch) (e : Env) (s : State) (m : MethodId) (below : List Frame) (meth : Method) (c : Code) (G : ss_G) (this : Option Nat) (a1 : Int32) (h : ss_Hp) (hh : ss_Hp) (H : Heap) (locs : List Loc) (k n : Nat) (g : JFrame) : Prop := W p l e (headSpec (ss_w yy_RR_emit bb_RR_emit 2 none) ({ frames := 0, cells := 0, slots := 0, locals := 0 })).room s m ([ss_v (ss_b G) this, .int a1] : List Value).toArray below meth c H locs k n (MQ below (ss_Qc G none hh) ([ss_v (ss_b G) this, .int a1] : List Value).toArray s 0 0 (ss_A G)) g
theorem ck_RR_emit {N : Nat} {this : Option Nat} {a1 : Int32} {h : ss_Hp} {res : ss_Hp} (hm : mm_RR_emit N this a1 h = some res) : ss_is h this 4 = true := (ss_chk hm).1
set_option maxHeartbeats 4000000 in
set_option maxRecDepth 100000 in
theorem cc_RR_emit (l : Launch) (G : ss_G) (N : Nat) (this : Option Nat) (a1 : Int32) (h : ss_Hp) (hh : ss_Hp) (hm : mm_RR_emit N this a1 h = some hh) : ss_Ct l G yy_RR_emit bb_RR_emit 2 none ({ frames := 0, cells := 0, slots := 0, locals := 0 }) [ss_v (ss_b G) this, .int a1] h none hh := by
  obtain ⟨hck, hm⟩ := ss_chk hm
  refine Met.ofW (cc := bb_RR_emit) (maxL := 2) (ret := none) (by decide) rfl ?_
  intro p e s m args below meth c s₁ B hml hv
  obtain ⟨rfl, hR, hK⟩ := hv
  have hC : CallFix p m c bb_RR_emit 2 s _ lw_g sR_4 := ⟨B.exec, B.bytes, hml, findClass_of_methodNamed B.named, fun w hw => atoms_spec (ws := ss_w yy_RR_emit bb_RR_emit 2 none) B.pre w (List.mem_cons_of_mem _ hw)⟩
  have hx := hC.1
  have hb := hC.2.1
  have hr := B.returns
  have hlocks := B.notSynchronized
  have hS : va_S (ss_A G) s.heap s.heap [] := va_S.rf
  have hl := lv_entry ([ss_v (ss_b G) this, .int a1]) (n := 2) (by simp [lg_sl, ss_v_cat, ss_cat_i, ss_cat_l, ss_cat_r])
  rw [lg_entry_eq]
  generalize (lg_sl ([ss_v (ss_b G) this, .int a1]) ++ List.replicate (2 - (lg_sl ([ss_v (ss_b G) this, .int a1])).length) Slot.unset).toArray = ls at hl ⊢
  have hl : lv_has ls 2 [(0, ss_v (ss_b G) this), (1, .int a1)] := by simpa [lv_args, ss_v_cat, ss_cat_i, ss_cat_l, ss_cat_r] using hl
  have J_32 : ∀ (h_32 : ss_Hp) (H : Heap) (locs : List Loc) (ls : Array Slot), mm_RR_emit_j32 N this a1 h_32 = some hh → ss_R G h_32 H → va_S (ss_A G) s.heap H locs → lv_has ls 2 [] → ww_RR_emit p l e s m below meth c G this a1 h hh  H locs 0 0 (F0 m 32 ls []) := by
    intro h_32 H locs ls hm hR hS hl
    exact ss_vret hC hr hlocks hR hS hm dd_RR_emit_32
  refine ss_aload_n hx hb dd_RR_emit_0 rfl (lv_at hl 0 rfl) ?_
  obtain ⟨v1, qv1, hm⟩ := ss_bind hm
  refine ss_geti hC hK hR kf_RR_24 qv1 dd_RR_emit_1 ?_
  refine ss_aload_n hx hb dd_RR_emit_4 rfl (lv_at hl 0 rfl) ?_
  obtain ⟨r2, qr2, hm⟩ := ss_bind hm
  refine ss_getr hC hK hR kf_RR_11 rfl qr2 dd_RR_emit_5 ?_
  obtain ⟨v3, qv3, hm⟩ := ss_bind hm
  refine ss_alenI hC hK hR qv3 dd_RR_emit_8 ?_
  refine lv_icmp_ge (tgt := 32) hx hb dd_RR_emit_9 (by decide) (fun c4 => ?_) (fun c4 => ?_)
  · have hm := ss_ift hm c4
    exact J_32 h _ _ _ hm hR hS (lv_sub hl [] rfl)
  · have hm := ss_iff hm c4
    refine ss_aload_n hx hb dd_RR_emit_12 rfl (lv_at hl 0 rfl) ?_
    obtain ⟨r5, qr5, hm⟩ := ss_bind hm
    refine ss_getr hC hK hR kf_RR_11 rfl qr5 dd_RR_emit_13 ?_
    refine ss_aload_n hx hb dd_RR_emit_16 rfl (lv_at hl 0 rfl) ?_
    obtain ⟨v6, qv6, hm⟩ := ss_bind hm
    refine ss_geti hC hK hR kf_RR_24 qv6 dd_RR_emit_17 ?_
    refine lv_iload_n hx hb dd_RR_emit_20 rfl (lv_at hl 1 rfl) ?_
    obtain ⟨h7, qh7, hm⟩ := ss_bind hm
    refine ss_iast hC hK hR hS qh7 dd_RR_emit_21 (fun H locs hR hS => ?_)
    refine ss_aload_n hx hb dd_RR_emit_22 rfl (lv_at hl 0 rfl) ?_
    refine ss_dupr hx hb dd_RR_emit_23 ?_
    obtain ⟨v8, qv8, hm⟩ := ss_bind hm
    refine ss_geti hC hK hR kf_RR_24 qv8 dd_RR_emit_24 ?_
    refine lv_iconst (v := 1) hx hb dd_RR_emit_27 (by decide) ?_
    refine lv_iadd hx hb dd_RR_emit_28 ?_
    obtain ⟨h9, qh9, hm⟩ := ss_bind hm
    refine ss_puti hC hK hR hS kp_RR_24 qh9 dd_RR_emit_29 (fun H locs hR hS => ?_)
    exact J_32 h9 _ _ _ hm hR hS (lv_sub hl [] rfl)
theorem dd_RR_readValue_0 : decode bb_RR_readValue 0 = .ok (.aload_n 0, 1) := by decide +kernel
theorem dd_RR_readValue_1 : decode bb_RR_readValue 1 = .ok (.getfield 20, 3) := by decide +kernel
theorem dd_RR_readValue_4 : decode bb_RR_readValue 4 = .ok (.invokevirtual 109, 3) := by decide +kernel
theorem dd_RR_readValue_7 : decode bb_RR_readValue 7 = .ok (.ifCond .eq 27, 3) := by decide +kernel
theorem dd_RR_readValue_10 : decode bb_RR_readValue 10 = .ok (.aload_n 0, 1) := by decide +kernel
theorem dd_RR_readValue_11 : decode bb_RR_readValue 11 = .ok (.getfield 20, 3) := by decide +kernel
theorem dd_RR_readValue_14 : decode bb_RR_readValue 14 = .ok (.invokevirtual 112, 3) := by decide +kernel
theorem dd_RR_readValue_17 : decode bb_RR_readValue 17 = .ok (.istore_n 1, 1) := by decide +kernel
theorem dd_RR_readValue_18 : decode bb_RR_readValue 18 = .ok (.iload_n 1, 1) := by decide +kernel
theorem dd_RR_readValue_19 : decode bb_RR_readValue 19 = .ok (.iconst (-1), 1) := by decide +kernel
theorem dd_RR_readValue_20 : decode bb_RR_readValue 20 = .ok (.if_icmp .ne 42, 3) := by decide +kernel
theorem dd_RR_readValue_23 : decode bb_RR_readValue 23 = .ok (.aload_n 0, 1) := by decide +kernel
theorem dd_RR_readValue_24 : decode bb_RR_readValue 24 = .ok (.getfield 20, 3) := by decide +kernel
theorem dd_RR_readValue_27 : decode bb_RR_readValue 27 = .ok (.iconst 1, 1) := by decide +kernel
theorem dd_RR_readValue_28 : decode bb_RR_readValue 28 = .ok (.invokevirtual 70, 3) := by decide +kernel
theorem dd_RR_readValue_31 : decode bb_RR_readValue 31 = .ok (.goto 31, 3) := by decide +kernel
theorem dd_RR_readValue_34 : decode bb_RR_readValue 34 = .ok (.aload_n 0, 1) := by decide +kernel
theorem dd_RR_readValue_35 : decode bb_RR_readValue 35 = .ok (.getfield 20, 3) := by decide +kernel
theorem dd_RR_readValue_38 : decode bb_RR_readValue 38 = .ok (.ldc 115, 2) := by decide +kernel
theorem dd_RR_readValue_40 : decode bb_RR_readValue 40 = .ok (.invokevirtual 117, 3) := by decide +kernel
theorem dd_RR_readValue_43 : decode bb_RR_readValue 43 = .ok (.istore_n 2, 1) := by decide +kernel
theorem dd_RR_readValue_44 : decode bb_RR_readValue 44 = .ok (.bipush (-14), 2) := by decide +kernel
theorem dd_RR_readValue_46 : decode bb_RR_readValue 46 = .ok (.iload_n 2, 1) := by decide +kernel
theorem dd_RR_readValue_47 : decode bb_RR_readValue 47 = .ok (.isub, 1) := by decide +kernel
theorem dd_RR_readValue_48 : decode bb_RR_readValue 48 = .ok (.istore_n 1, 1) := by decide +kernel
theorem dd_RR_readValue_49 : decode bb_RR_readValue 49 = .ok (.iload_n 2, 1) := by decide +kernel
theorem dd_RR_readValue_50 : decode bb_RR_readValue 50 = .ok (.iconst (-1), 1) := by decide +kernel
theorem dd_RR_readValue_51 : decode bb_RR_readValue 51 = .ok (.if_icmp .ne 11, 3) := by decide +kernel
theorem dd_RR_readValue_54 : decode bb_RR_readValue 54 = .ok (.aload_n 0, 1) := by decide +kernel
theorem dd_RR_readValue_55 : decode bb_RR_readValue 55 = .ok (.getfield 20, 3) := by decide +kernel
theorem dd_RR_readValue_58 : decode bb_RR_readValue 58 = .ok (.iconst 0, 1) := by decide +kernel
theorem dd_RR_readValue_59 : decode bb_RR_readValue 59 = .ok (.invokevirtual 70, 3) := by decide +kernel
theorem dd_RR_readValue_62 : decode bb_RR_readValue 62 = .ok (.aload_n 0, 1) := by decide +kernel
theorem dd_RR_readValue_63 : decode bb_RR_readValue 63 = .ok (.invokevirtual 97, 3) := by decide +kernel
theorem dd_RR_readValue_66 : decode bb_RR_readValue 66 = .ok (.aload_n 0, 1) := by decide +kernel
theorem dd_RR_readValue_67 : decode bb_RR_readValue 67 = .ok (.getfield 20, 3) := by decide +kernel
theorem dd_RR_readValue_70 : decode bb_RR_readValue 70 = .ok (.invokevirtual 47, 3) := by decide +kernel
theorem dd_RR_readValue_73 : decode bb_RR_readValue 73 = .ok (.ifCond .eq 15, 3) := by decide +kernel
theorem dd_RR_readValue_76 : decode bb_RR_readValue 76 = .ok (.aload_n 0, 1) := by decide +kernel
theorem dd_RR_readValue_77 : decode bb_RR_readValue 77 = .ok (.iload_n 1, 1) := by decide +kernel
theorem dd_RR_readValue_78 : decode bb_RR_readValue 78 = .ok (.invokevirtual 76, 3) := by decide +kernel
theorem dd_RR_readValue_81 : decode bb_RR_readValue 81 = .ok (.aload_n 0, 1) := by decide +kernel
theorem dd_RR_readValue_82 : decode bb_RR_readValue 82 = .ok (.getfield 20, 3) := by decide +kernel
theorem dd_RR_readValue_85 : decode bb_RR_readValue 85 = .ok (.invokevirtual 41, 3) := by decide +kernel
theorem dd_RR_readValue_88 : decode bb_RR_readValue 88 = .ok (.return_, 1) := by decide +kernel
def mm_RR_readValue_j88 (N : Nat) (this : Option Nat) (h_88 : ss_Hp) : Option ss_Hp :=
  some h_88
def mm_RR_readValue_j62 (N : Nat) (this : Option Nat) (x1_62 : Int32) (h_62 : ss_Hp) : Option ss_Hp :=
  (mm_RR_countPart N this h_62).bind fun h1 =>
  (ss_gr h1 this 4 0).bind fun r2 =>
  (mm_T_isWell N r2 h1).bind fun v3 =>
  if v3 = 0 then
    mm_RR_readValue_j88 N this h1
  else
    (mm_RR_emit N this x1_62 h1).bind fun h5 =>
    (ss_gr h5 this 4 0).bind fun r6 =>
    (mm_T_advance N r6 h5).bind fun h7 =>
    mm_RR_readValue_j88 N this h7
def mm_RR_readValue (N : Nat) (this : Option Nat) (h : ss_Hp) : Option ss_Hp :=
  if ss_is h this 4 = true then
    (ss_gr h this 4 0).bind fun r8 =>
    (mm_T_isDigits N r8 h).bind fun v9 =>
    if v9 = 0 then
      (ss_gr h this 4 0).bind fun r11 =>
      (mm_T_wordIn N r11 2 h).bind fun v12 =>
      (some ((-14 : Int32) - v12)).bind fun v13 =>
      if v12 = (-1 : Int32) then
        (ss_gr h this 4 0).bind fun r15 =>
        (mm_T_fail N r15 (0 : Int32) h).bind fun h16 =>
        mm_RR_readValue_j62 N this v13 h16
      else
        mm_RR_readValue_j62 N this v13 h
    else
      (ss_gr h this 4 0).bind fun r17 =>
      (mm_T_digits N r17 h).bind fun v18 =>
      if v18 = (-1 : Int32) then
        (ss_gr h this 4 0).bind fun r20 =>
        (mm_T_fail N r20 (1 : Int32) h).bind fun h21 =>
        mm_RR_readValue_j62 N this v18 h21
      else
        mm_RR_readValue_j62 N this v18 h
  else none
abbrev ww_RR_readValue (p : Program) (l : Launch) (e : Env) (s : State) (m : MethodId) (below : List Frame) (meth : Method) (c : Code) (G : ss_G) (this : Option Nat) (h : ss_Hp) (hh : ss_Hp) (H : Heap) (locs : List Loc) (k n : Nat) (g : JFrame) : Prop := W p l e (headSpec (ss_w yy_RR_readValue bb_RR_readValue 3 none) ({ frames := 9, cells := 0, slots := 0, locals := 226 })).room s m ([ss_v (ss_b G) this] : List Value).toArray below meth c H locs k n (MQ below (ss_Qc G none hh) ([ss_v (ss_b G) this] : List Value).toArray s 0 0 (ss_A G)) g
theorem ck_RR_readValue {N : Nat} {this : Option Nat} {h : ss_Hp} {res : ss_Hp} (hm : mm_RR_readValue N this h = some res) : ss_is h this 4 = true := (ss_chk hm).1
set_option maxHeartbeats 4000000 in
set_option maxRecDepth 100000 in
theorem cc_RR_readValue (l : Launch) (G : ss_G) (N : Nat) (this : Option Nat) (h : ss_Hp) (hh : ss_Hp) (hm : mm_RR_readValue N this h = some hh) : ss_Ct l G yy_RR_readValue bb_RR_readValue 3 none ({ frames := 9, cells := 0, slots := 0, locals := 226 }) [ss_v (ss_b G) this] h none hh := by
  obtain ⟨hck, hm⟩ := ss_chk hm
  refine Met.ofW (cc := bb_RR_readValue) (maxL := 3) (ret := none) (by decide) rfl ?_
  intro p e s m args below meth c s₁ B hml hv
  obtain ⟨rfl, hR, hK⟩ := hv
  have hC : CallFix p m c bb_RR_readValue 3 s _ lw_g sR_4 := ⟨B.exec, B.bytes, hml, findClass_of_methodNamed B.named, fun w hw => atoms_spec (ws := ss_w yy_RR_readValue bb_RR_readValue 3 none) B.pre w (List.mem_cons_of_mem _ hw)⟩
  have hx := hC.1
  have hb := hC.2.1
  have hr := B.returns
  have hlocks := B.notSynchronized
  have hS : va_S (ss_A G) s.heap s.heap [] := va_S.rf
  have hl := lv_entry ([ss_v (ss_b G) this]) (n := 3) (by simp [lg_sl, ss_v_cat, ss_cat_i, ss_cat_l, ss_cat_r])
  rw [lg_entry_eq]
  generalize (lg_sl ([ss_v (ss_b G) this]) ++ List.replicate (3 - (lg_sl ([ss_v (ss_b G) this])).length) Slot.unset).toArray = ls at hl ⊢
  have hl : lv_has ls 3 [(0, ss_v (ss_b G) this)] := by simpa [lv_args, ss_v_cat, ss_cat_i, ss_cat_l, ss_cat_r] using hl
  have J_88 : ∀ (h_88 : ss_Hp) (H : Heap) (locs : List Loc) (ls : Array Slot), mm_RR_readValue_j88 N this h_88 = some hh → ss_R G h_88 H → va_S (ss_A G) s.heap H locs → lv_has ls 3 [] → ww_RR_readValue p l e s m below meth c G this h hh  H locs 0 0 (F0 m 88 ls []) := by
    intro h_88 H locs ls hm hR hS hl
    exact ss_vret hC hr hlocks hR hS hm dd_RR_readValue_88
  have J_62 : ∀ (x1_62 : Int32) (h_62 : ss_Hp) (H : Heap) (locs : List Loc) (ls : Array Slot), mm_RR_readValue_j62 N this x1_62 h_62 = some hh → ss_R G h_62 H → va_S (ss_A G) s.heap H locs → lv_has ls 3 [(0, ss_v (ss_b G) this), (1, .int x1_62)] → ww_RR_readValue p l e s m below meth c G this h hh  H locs 0 0 (F0 m 62 ls []) := by
    intro x1_62 h_62 H locs ls hm hR hS hl
    refine ss_aload_n hx hb dd_RR_readValue_62 rfl (lv_at hl 0 rfl) ?_
    obtain ⟨h1, qh1, hm⟩ := ss_bind hm
    refine ss_cVv 0 0 (As := []) hC hK hR hS hl.1 (cc_RR_countPart l G N _ _ _ qh1) km_RR_97 (ck_RR_countPart qh1) ⟨Nat.le_of_ble_eq_true rfl, Nat.le_of_ble_eq_true rfl⟩ ⟨Nat.le_of_ble_eq_true rfl, Nat.le_of_ble_eq_true rfl, Nat.le_of_ble_eq_true rfl, Nat.le_of_ble_eq_true rfl⟩ rfl rfl (Nat.le_of_ble_eq_true rfl) dd_RR_readValue_63 (fun H locs hR hS => ?_)
    refine ss_aload_n hx hb dd_RR_readValue_66 rfl (lv_at hl 0 rfl) ?_
    obtain ⟨r2, qr2, hm⟩ := ss_bind hm
    refine ss_getr hC hK hR kf_RR_20 rfl qr2 dd_RR_readValue_67 ?_
    obtain ⟨v3, qv3, hm⟩ := ss_bind hm
    refine ss_cV 0 0 (As := []) hC hK hR hS hl.1 (cc_T_isWell l G N _ _ _ qv3) km_RR_47 (ck_T_isWell qv3) ⟨Nat.le_of_ble_eq_true rfl, Nat.le_of_ble_eq_true rfl⟩ ⟨Nat.le_of_ble_eq_true rfl, Nat.le_of_ble_eq_true rfl, Nat.le_of_ble_eq_true rfl, Nat.le_of_ble_eq_true rfl⟩ rfl rfl (Nat.le_of_ble_eq_true rfl) dd_RR_readValue_70 (fun H locs hR hS => ?_)
    refine lv_if_eq (tgt := 88) hx hb dd_RR_readValue_73 (by decide) (fun c4 => ?_) (fun c4 => ?_)
    · have hm := ss_ift hm c4
      exact J_88 h1 _ _ _ hm hR hS (lv_sub hl [] rfl)
    · have hm := ss_iff hm c4
      refine ss_aload_n hx hb dd_RR_readValue_76 rfl (lv_at hl 0 rfl) ?_
      refine lv_iload_n hx hb dd_RR_readValue_77 rfl (lv_at hl 1 rfl) ?_
      obtain ⟨h5, qh5, hm⟩ := ss_bind hm
      refine ss_cVv 0 0 (As := [.int x1_62]) hC hK hR hS hl.1 (cc_RR_emit l G N _ _ _ _ qh5) km_RR_76 (ck_RR_emit qh5) ⟨Nat.le_of_ble_eq_true rfl, Nat.le_of_ble_eq_true rfl⟩ ⟨Nat.le_of_ble_eq_true rfl, Nat.le_of_ble_eq_true rfl, Nat.le_of_ble_eq_true rfl, Nat.le_of_ble_eq_true rfl⟩ rfl rfl (Nat.le_of_ble_eq_true rfl) dd_RR_readValue_78 (fun H locs hR hS => ?_)
      refine ss_aload_n hx hb dd_RR_readValue_81 rfl (lv_at hl 0 rfl) ?_
      obtain ⟨r6, qr6, hm⟩ := ss_bind hm
      refine ss_getr hC hK hR kf_RR_20 rfl qr6 dd_RR_readValue_82 ?_
      obtain ⟨h7, qh7, hm⟩ := ss_bind hm
      refine ss_cVv 0 0 (As := []) hC hK hR hS hl.1 (cc_T_advance l G N _ _ _ qh7) km_RR_41 (ck_T_advance qh7) ⟨Nat.le_of_ble_eq_true rfl, Nat.le_of_ble_eq_true rfl⟩ ⟨Nat.le_of_ble_eq_true rfl, Nat.le_of_ble_eq_true rfl, Nat.le_of_ble_eq_true rfl, Nat.le_of_ble_eq_true rfl⟩ rfl rfl (Nat.le_of_ble_eq_true rfl) dd_RR_readValue_85 (fun H locs hR hS => ?_)
      exact J_88 h7 _ _ _ hm hR hS (lv_sub hl [] rfl)
  refine ss_aload_n hx hb dd_RR_readValue_0 rfl (lv_at hl 0 rfl) ?_
  obtain ⟨r8, qr8, hm⟩ := ss_bind hm
  refine ss_getr hC hK hR kf_RR_20 rfl qr8 dd_RR_readValue_1 ?_
  obtain ⟨v9, qv9, hm⟩ := ss_bind hm
  refine ss_cV 0 0 (As := []) hC hK hR hS hl.1 (cc_T_isDigits l G N _ _ _ qv9) km_RR_109 (ck_T_isDigits qv9) ⟨Nat.le_of_ble_eq_true rfl, Nat.le_of_ble_eq_true rfl⟩ ⟨Nat.le_of_ble_eq_true rfl, Nat.le_of_ble_eq_true rfl, Nat.le_of_ble_eq_true rfl, Nat.le_of_ble_eq_true rfl⟩ rfl rfl (Nat.le_of_ble_eq_true rfl) dd_RR_readValue_4 (fun H locs hR hS => ?_)
  refine lv_if_eq (tgt := 34) hx hb dd_RR_readValue_7 (by decide) (fun c10 => ?_) (fun c10 => ?_)
  · have hm := ss_ift hm c10
    refine ss_aload_n hx hb dd_RR_readValue_34 rfl (lv_at hl 0 rfl) ?_
    obtain ⟨r11, qr11, hm⟩ := ss_bind hm
    refine ss_getr hC hK hR kf_RR_20 rfl qr11 dd_RR_readValue_35 ?_
    refine va_ldcS hx hb hC.2.2.2.1 (ss_sr_2 hK) dd_RR_readValue_38 ?_
    obtain ⟨v12, qv12, hm⟩ := ss_bind hm
    refine ss_cV 0 0 (As := [.ref (G.2.2.2.1 2)]) hC hK hR hS hl.1 (cc_T_wordIn l G N _ _ _ _ qv12) km_RR_117 (ck_T_wordIn qv12) ⟨Nat.le_of_ble_eq_true rfl, Nat.le_of_ble_eq_true rfl⟩ ⟨Nat.le_of_ble_eq_true rfl, Nat.le_of_ble_eq_true rfl, Nat.le_of_ble_eq_true rfl, Nat.le_of_ble_eq_true rfl⟩ rfl rfl (Nat.le_of_ble_eq_true rfl) dd_RR_readValue_40 (fun H locs hR hS => ?_)
    refine lv_istore_n (lv' := [(2, .int v12), (0, ss_v (ss_b G) this)]) hx hb dd_RR_readValue_43 rfl hl (by decide) rfl (fun ls hl => ?_)
    refine lv_bipush (v := -14) hx hb dd_RR_readValue_44 (by decide) ?_
    refine lv_iload_n hx hb dd_RR_readValue_46 rfl (lv_at hl 0 rfl) ?_
    refine lv_isub hx hb dd_RR_readValue_47 ?_
    obtain ⟨v13, qv13, hm⟩ := ss_bind hm
    refine ss_topi qv13 ?_
    refine lv_istore_n (lv' := [(1, .int v13), (2, .int v12), (0, ss_v (ss_b G) this)]) hx hb dd_RR_readValue_48 rfl hl (by decide) (by simp only [List.filter_cons, ss_v_cat]; rfl) (fun ls hl => ?_)
    refine lv_iload_n hx hb dd_RR_readValue_49 rfl (lv_at hl 1 rfl) ?_
    refine lv_iconst (v := -1) hx hb dd_RR_readValue_50 (by decide) ?_
    refine lv_icmp_ne (tgt := 62) hx hb dd_RR_readValue_51 (by decide) (fun c14 => ?_) (fun c14 => ?_)
    · have hm := ss_iff hm c14
      exact J_62 v13 h _ _ _ hm hR hS (lv_sub hl [2, 0] rfl)
    · have hm := ss_ift hm c14
      refine ss_aload_n hx hb dd_RR_readValue_54 rfl (lv_at hl 2 rfl) ?_
      obtain ⟨r15, qr15, hm⟩ := ss_bind hm
      refine ss_getr hC hK hR kf_RR_20 rfl qr15 dd_RR_readValue_55 ?_
      refine lv_iconst (v := 0) hx hb dd_RR_readValue_58 (by decide) ?_
      obtain ⟨h16, qh16, hm⟩ := ss_bind hm
      refine ss_cVv 0 0 (As := [.int (0 : Int32)]) hC hK hR hS hl.1 (cc_T_fail l G N _ _ _ _ qh16) km_RR_70 (ck_T_fail qh16) ⟨Nat.le_of_ble_eq_true rfl, Nat.le_of_ble_eq_true rfl⟩ ⟨Nat.le_of_ble_eq_true rfl, Nat.le_of_ble_eq_true rfl, Nat.le_of_ble_eq_true rfl, Nat.le_of_ble_eq_true rfl⟩ rfl rfl (Nat.le_of_ble_eq_true rfl) dd_RR_readValue_59 (fun H locs hR hS => ?_)
      exact J_62 v13 h16 _ _ _ hm hR hS (lv_sub hl [2, 0] rfl)
  · have hm := ss_iff hm c10
    refine ss_aload_n hx hb dd_RR_readValue_10 rfl (lv_at hl 0 rfl) ?_
    obtain ⟨r17, qr17, hm⟩ := ss_bind hm
    refine ss_getr hC hK hR kf_RR_20 rfl qr17 dd_RR_readValue_11 ?_
    obtain ⟨v18, qv18, hm⟩ := ss_bind hm
    refine ss_cV 0 0 (As := []) hC hK hR hS hl.1 (cc_T_digits l G N _ _ _ qv18) km_RR_112 (ck_T_digits qv18) ⟨Nat.le_of_ble_eq_true rfl, Nat.le_of_ble_eq_true rfl⟩ ⟨Nat.le_of_ble_eq_true rfl, Nat.le_of_ble_eq_true rfl, Nat.le_of_ble_eq_true rfl, Nat.le_of_ble_eq_true rfl⟩ rfl rfl (Nat.le_of_ble_eq_true rfl) dd_RR_readValue_14 (fun H locs hR hS => ?_)
    refine lv_istore_n (lv' := [(1, .int v18), (0, ss_v (ss_b G) this)]) hx hb dd_RR_readValue_17 rfl hl (by decide) (by simp only [List.filter_cons, ss_v_cat]; rfl) (fun ls hl => ?_)
    refine lv_iload_n hx hb dd_RR_readValue_18 rfl (lv_at hl 0 rfl) ?_
    refine lv_iconst (v := -1) hx hb dd_RR_readValue_19 (by decide) ?_
    refine lv_icmp_ne (tgt := 62) hx hb dd_RR_readValue_20 (by decide) (fun c19 => ?_) (fun c19 => ?_)
    · have hm := ss_iff hm c19
      exact J_62 v18 h _ _ _ hm hR hS (lv_sub hl [1, 0] rfl)
    · have hm := ss_ift hm c19
      refine ss_aload_n hx hb dd_RR_readValue_23 rfl (lv_at hl 1 rfl) ?_
      obtain ⟨r20, qr20, hm⟩ := ss_bind hm
      refine ss_getr hC hK hR kf_RR_20 rfl qr20 dd_RR_readValue_24 ?_
      refine lv_iconst (v := 1) hx hb dd_RR_readValue_27 (by decide) ?_
      obtain ⟨h21, qh21, hm⟩ := ss_bind hm
      refine ss_cVv 0 0 (As := [.int (1 : Int32)]) hC hK hR hS hl.1 (cc_T_fail l G N _ _ _ _ qh21) km_RR_70 (ck_T_fail qh21) ⟨Nat.le_of_ble_eq_true rfl, Nat.le_of_ble_eq_true rfl⟩ ⟨Nat.le_of_ble_eq_true rfl, Nat.le_of_ble_eq_true rfl, Nat.le_of_ble_eq_true rfl, Nat.le_of_ble_eq_true rfl⟩ rfl rfl (Nat.le_of_ble_eq_true rfl) dd_RR_readValue_28 (fun H locs hR hS => ?_)
      refine lv_goto (tgt := 62) hx hb dd_RR_readValue_31 (by decide) ?_
      exact J_62 v18 h21 _ _ _ hm hR hS (lv_sub hl [1, 0] rfl)
theorem dd_T_signIn_0 : decode bb_T_signIn 0 = .ok (.iconst 0, 1) := by decide +kernel
theorem dd_T_signIn_1 : decode bb_T_signIn 1 = .ok (.istore_n 2, 1) := by decide +kernel
theorem dd_T_signIn_2 : decode bb_T_signIn 2 = .ok (.iload_n 2, 1) := by decide +kernel
theorem dd_T_signIn_3 : decode bb_T_signIn 3 = .ok (.aload_n 1, 1) := by decide +kernel
theorem dd_T_signIn_4 : decode bb_T_signIn 4 = .ok (.invokevirtual 41, 3) := by decide +kernel
theorem dd_T_signIn_7 : decode bb_T_signIn 7 = .ok (.if_icmp .ge 23, 3) := by decide +kernel
theorem dd_T_signIn_10 : decode bb_T_signIn 10 = .ok (.aload_n 0, 1) := by decide +kernel
theorem dd_T_signIn_11 : decode bb_T_signIn 11 = .ok (.aload_n 1, 1) := by decide +kernel
theorem dd_T_signIn_12 : decode bb_T_signIn 12 = .ok (.iload_n 2, 1) := by decide +kernel
theorem dd_T_signIn_13 : decode bb_T_signIn 13 = .ok (.invokevirtual 46, 3) := by decide +kernel
theorem dd_T_signIn_16 : decode bb_T_signIn 16 = .ok (.invokevirtual 50, 3) := by decide +kernel
theorem dd_T_signIn_19 : decode bb_T_signIn 19 = .ok (.ifCond .eq 5, 3) := by decide +kernel
theorem dd_T_signIn_22 : decode bb_T_signIn 22 = .ok (.iload_n 2, 1) := by decide +kernel
theorem dd_T_signIn_23 : decode bb_T_signIn 23 = .ok (.ireturn, 1) := by decide +kernel
theorem dd_T_signIn_24 : decode bb_T_signIn 24 = .ok (.iinc 2 1, 3) := by decide +kernel
theorem dd_T_signIn_27 : decode bb_T_signIn 27 = .ok (.goto (-25), 3) := by decide +kernel
theorem dd_T_signIn_30 : decode bb_T_signIn 30 = .ok (.iconst (-1), 1) := by decide +kernel
theorem dd_T_signIn_31 : decode bb_T_signIn 31 = .ok (.ireturn, 1) := by decide +kernel
def mm_T_signIn_b2 (N : Nat) (this : Option Nat) (a1 : Nat) (h : ss_Hp) (st : Int32) : Option (Int32 ⊕ (Unit ⊕ Int32)) :=
  match st with
  | x2_2 =>
    (ss_sl a1).bind fun v1 =>
    if v1 ≤ x2_2 then
      some (.inr (.inl ()))
    else
      (ss_sc a1 x2_2).bind fun v3 =>
      (mm_T_isSign N this v3 h).bind fun v4 =>
      if v4 = 0 then
        (some (x2_2 + (1 : Int32))).bind fun v6 =>
        some (.inl v6)
      else
        some (.inr (.inr x2_2))
def mm_T_signIn (N : Nat) (this : Option Nat) (a1 : Nat) (h : ss_Hp) : Option Int32 :=
  if ss_is h this 2 = true then
    (ss_lp (mm_T_signIn_b2 N this a1 h) N (0 : Int32)).bind fun e_2 =>
    match e_2 with
    | (.inl ()) =>
      some (-1 : Int32)
    | (.inr y2_2_22) =>
      some y2_2_22
  else none
abbrev ww_T_signIn (p : Program) (l : Launch) (e : Env) (s : State) (m : MethodId) (below : List Frame) (meth : Method) (c : Code) (G : ss_G) (this : Option Nat) (a1 : Nat) (h : ss_Hp) (rr : Int32) (H : Heap) (locs : List Loc) (k n : Nat) (g : JFrame) : Prop := W p l e (headSpec (ss_w yy_T_signIn bb_T_signIn 3 (some (.int))) ({ frames := 8, cells := 0, slots := 0, locals := 200 })).room s m ([ss_v (ss_b G) this, .ref (G.2.2.2.1 a1)] : List Value).toArray below meth c H locs k n (MQ below (ss_Qc G (some (.int rr)) h) ([ss_v (ss_b G) this, .ref (G.2.2.2.1 a1)] : List Value).toArray s 0 0 (ss_A G)) g
theorem ck_T_signIn {N : Nat} {this : Option Nat} {a1 : Nat} {h : ss_Hp} {res : Int32} (hm : mm_T_signIn N this a1 h = some res) : ss_is h this 2 = true := (ss_chk hm).1
set_option maxHeartbeats 4000000 in
set_option maxRecDepth 100000 in
theorem cc_T_signIn (l : Launch) (G : ss_G) (N : Nat) (this : Option Nat) (a1 : Nat) (h : ss_Hp) (rr : Int32) (hm : mm_T_signIn N this a1 h = some rr) : ss_Ct l G yy_T_signIn bb_T_signIn 3 (some (.int)) ({ frames := 8, cells := 0, slots := 0, locals := 200 }) [ss_v (ss_b G) this, .ref (G.2.2.2.1 a1)] h (some (.int rr)) h := by
  obtain ⟨hck, hm⟩ := ss_chk hm
  refine Met.ofW (cc := bb_T_signIn) (maxL := 3) (ret := (some (.int))) (by decide) rfl ?_
  intro p e s m args below meth c s₁ B hml hv
  obtain ⟨rfl, hR, hK⟩ := hv
  have hC : CallFix p m c bb_T_signIn 3 s _ lw_g sR_2 := ⟨B.exec, B.bytes, hml, findClass_of_methodNamed B.named, fun w hw => atoms_spec (ws := ss_w yy_T_signIn bb_T_signIn 3 (some (.int))) B.pre w (List.mem_cons_of_mem _ hw)⟩
  have hx := hC.1
  have hb := hC.2.1
  have hr := B.returns
  have hlocks := B.notSynchronized
  have hS : va_S (ss_A G) s.heap s.heap [] := va_S.rf
  have hl := lv_entry ([ss_v (ss_b G) this, .ref (G.2.2.2.1 a1)]) (n := 3) (by simp [lg_sl, ss_v_cat, ss_cat_i, ss_cat_l, ss_cat_r])
  rw [lg_entry_eq]
  generalize (lg_sl ([ss_v (ss_b G) this, .ref (G.2.2.2.1 a1)]) ++ List.replicate (3 - (lg_sl ([ss_v (ss_b G) this, .ref (G.2.2.2.1 a1)])).length) Slot.unset).toArray = ls at hl ⊢
  have hl : lv_has ls 3 [(0, ss_v (ss_b G) this), (1, .ref (G.2.2.2.1 a1))] := by simpa [lv_args, ss_v_cat, ss_cat_i, ss_cat_l, ss_cat_r] using hl
  refine lv_iconst (v := 0) hx hb dd_T_signIn_0 (by decide) ?_
  refine lv_istore_n (lv' := [(2, .int (0 : Int32)), (0, ss_v (ss_b G) this), (1, .ref (G.2.2.2.1 a1))]) hx hb dd_T_signIn_1 rfl hl (by decide) rfl (fun ls hl => ?_)
  obtain ⟨e_2, he_2, hm⟩ := ss_bind hm
  have X_2_30 : ∀  (H : Heap) (locs : List Loc) (ls : Array Slot), e_2 = (.inl ()) → ss_R G h H → va_S (ss_A G) s.heap H locs → lv_has ls 3 [] → ww_T_signIn p l e s m below meth c G this a1 h rr  H locs 0 0 (F0 m 30 ls []) := by
    intro  H locs ls hq hR hS hl
    rw [hq] at hm
    refine lv_iconst (v := -1) hx hb dd_T_signIn_30 (by decide) ?_
    exact ss_iret hC hr hlocks hR hS (ss_with _ hm) dd_T_signIn_31
  have X_2_22 : ∀ (y2_2_22 : Int32) (H : Heap) (locs : List Loc) (ls : Array Slot), e_2 = (.inr y2_2_22) → ss_R G h H → va_S (ss_A G) s.heap H locs → lv_has ls 3 [(2, .int y2_2_22)] → ww_T_signIn p l e s m below meth c G this a1 h rr  H locs 0 0 (F0 m 22 ls []) := by
    intro y2_2_22 H locs ls hq hR hS hl
    rw [hq] at hm
    refine lv_iload_n hx hb dd_T_signIn_22 rfl (lv_at hl 0 rfl) ?_
    exact ss_iret hC hr hlocks hR hS (ss_with _ hm) dd_T_signIn_23
  have L_2 : ∀ (n : Nat) (x2_2 : Int32) (H : Heap) (locs : List Loc) (ls : Array Slot), ss_lp (mm_T_signIn_b2 N this a1 h) n x2_2 = some e_2 → ss_R G h H → va_S (ss_A G) s.heap H locs → lv_has ls 3 [(0, ss_v (ss_b G) this), (1, .ref (G.2.2.2.1 a1)), (2, .int x2_2)] → ww_T_signIn p l e s m below meth c G this a1 h rr  H locs 0 0 (F0 m 2 ls []) := by
    intro n
    induction n with
    | zero => intro x2_2 H locs ls hm; cases hm
    | succ n ih_2 =>
      intro x2_2 H locs ls hm hR hS hl
      obtain ⟨z_2, hm, hz1_2, hz2_2⟩ := ss_lps hm
      refine lv_iload_n hx hb dd_T_signIn_2 rfl (lv_at hl 2 rfl) ?_
      refine lv_aload_n hx hb dd_T_signIn_3 rfl (lv_at hl 1 rfl) ?_
      obtain ⟨v1, qv1, hm⟩ := ss_bind hm
      refine ss_slen hC hK hR hS hl.1 qv1 ks_T_41 (Nat.le_of_ble_eq_true rfl) (Nat.le_of_ble_eq_true rfl) ⟨Nat.le_of_ble_eq_true rfl, Nat.le_of_ble_eq_true rfl⟩ (Nat.le_of_ble_eq_true rfl) dd_T_signIn_4 (fun H locs hR hS => ?_)
      refine lv_icmp_ge (tgt := 30) hx hb dd_T_signIn_7 (by decide) (fun c2 => ?_) (fun c2 => ?_)
      · have hm := ss_ift hm c2
        exact X_2_30  _ _ _ (hz2_2 _ (ss_some hm)) hR hS (lv_sub hl [] rfl)
      · have hm := ss_iff hm c2
        refine ss_aload_n hx hb dd_T_signIn_10 rfl (lv_at hl 0 rfl) ?_
        refine lv_aload_n hx hb dd_T_signIn_11 rfl (lv_at hl 1 rfl) ?_
        refine lv_iload_n hx hb dd_T_signIn_12 rfl (lv_at hl 2 rfl) ?_
        obtain ⟨v3, qv3, hm⟩ := ss_bind hm
        refine ss_schr hC hK hR hS hl.1 qv3 ks_T_46 (Nat.le_of_ble_eq_true rfl) (Nat.le_of_ble_eq_true rfl) ⟨Nat.le_of_ble_eq_true rfl, Nat.le_of_ble_eq_true rfl⟩ (by simp [ss_v_cat, ss_cat_i, ss_cat_l, ss_cat_r]) dd_T_signIn_13 (fun H locs hR hS => ?_)
        obtain ⟨v4, qv4, hm⟩ := ss_bind hm
        refine ss_cV 0 0 (As := [.int v3]) hC hK hR hS hl.1 (cc_T_isSign l G N _ _ _ _ qv4) km_T_50 (ck_T_isSign qv4) ⟨Nat.le_of_ble_eq_true rfl, Nat.le_of_ble_eq_true rfl⟩ ⟨Nat.le_of_ble_eq_true rfl, Nat.le_of_ble_eq_true rfl, Nat.le_of_ble_eq_true rfl, Nat.le_of_ble_eq_true rfl⟩ rfl rfl (Nat.le_of_ble_eq_true rfl) dd_T_signIn_16 (fun H locs hR hS => ?_)
        refine lv_if_eq (tgt := 24) hx hb dd_T_signIn_19 (by decide) (fun c5 => ?_) (fun c5 => ?_)
        · have hm := ss_ift hm c5
          obtain ⟨v6, qv6, hm⟩ := ss_bind hm
          refine lv_iinc (v := v6) (lv' := [(2, .int v6), (0, ss_v (ss_b G) this), (1, .ref (G.2.2.2.1 a1))]) hx hb dd_T_signIn_24 hl (k := 2) rfl (ss_inc (by decide) qv6) (by decide) rfl (fun ls hl => ?_)
          refine lv_goto (tgt := 2) hx hb dd_T_signIn_27 (by decide) ?_
          exact ih_2 v6  _ _ _ (hz1_2 _ (ss_some hm)) hR hS (lv_sub hl [1, 2, 0] rfl)
        · have hm := ss_iff hm c5
          exact X_2_22 x2_2  _ _ _ (hz2_2 _ (ss_some hm)) hR hS (lv_sub hl [2] rfl)
  exact L_2 N (0 : Int32) _ _ _ he_2 hR hS (lv_sub hl [1, 2, 0] rfl)
theorem dd_RR_readSum_0 : decode bb_RR_readSum 0 = .ok (.iconst 0, 1) := by decide +kernel
theorem dd_RR_readSum_1 : decode bb_RR_readSum 1 = .ok (.istore_n 1, 1) := by decide +kernel
theorem dd_RR_readSum_2 : decode bb_RR_readSum 2 = .ok (.iconst 0, 1) := by decide +kernel
theorem dd_RR_readSum_3 : decode bb_RR_readSum 3 = .ok (.istore_n 2, 1) := by decide +kernel
theorem dd_RR_readSum_4 : decode bb_RR_readSum 4 = .ok (.iconst 0, 1) := by decide +kernel
theorem dd_RR_readSum_5 : decode bb_RR_readSum 5 = .ok (.istore_n 3, 1) := by decide +kernel
theorem dd_RR_readSum_6 : decode bb_RR_readSum 6 = .ok (.iload_n 3, 1) := by decide +kernel
theorem dd_RR_readSum_7 : decode bb_RR_readSum 7 = .ok (.sipush 400, 3) := by decide +kernel
theorem dd_RR_readSum_10 : decode bb_RR_readSum 10 = .ok (.if_icmp .ge 93, 3) := by decide +kernel
theorem dd_RR_readSum_13 : decode bb_RR_readSum 13 = .ok (.aload_n 0, 1) := by decide +kernel
theorem dd_RR_readSum_14 : decode bb_RR_readSum 14 = .ok (.getfield 20, 3) := by decide +kernel
theorem dd_RR_readSum_17 : decode bb_RR_readSum 17 = .ok (.invokevirtual 47, 3) := by decide +kernel
theorem dd_RR_readSum_20 : decode bb_RR_readSum 20 = .ok (.ifCond .eq 83, 3) := by decide +kernel
theorem dd_RR_readSum_23 : decode bb_RR_readSum 23 = .ok (.aload_n 0, 1) := by decide +kernel
theorem dd_RR_readSum_24 : decode bb_RR_readSum 24 = .ok (.invokevirtual 100, 3) := by decide +kernel
theorem dd_RR_readSum_27 : decode bb_RR_readSum 27 = .ok (.iload_n 2, 1) := by decide +kernel
theorem dd_RR_readSum_28 : decode bb_RR_readSum 28 = .ok (.ifCond .eq 8, 3) := by decide +kernel
theorem dd_RR_readSum_31 : decode bb_RR_readSum 31 = .ok (.aload_n 0, 1) := by decide +kernel
theorem dd_RR_readSum_32 : decode bb_RR_readSum 32 = .ok (.iload_n 2, 1) := by decide +kernel
theorem dd_RR_readSum_33 : decode bb_RR_readSum 33 = .ok (.invokevirtual 76, 3) := by decide +kernel
theorem dd_RR_readSum_36 : decode bb_RR_readSum 36 = .ok (.iconst (-1), 1) := by decide +kernel
theorem dd_RR_readSum_37 : decode bb_RR_readSum 37 = .ok (.aload_n 0, 1) := by decide +kernel
theorem dd_RR_readSum_38 : decode bb_RR_readSum 38 = .ok (.getfield 20, 3) := by decide +kernel
theorem dd_RR_readSum_41 : decode bb_RR_readSum 41 = .ok (.ldc 103, 2) := by decide +kernel
theorem dd_RR_readSum_43 : decode bb_RR_readSum 43 = .ok (.invokevirtual 105, 3) := by decide +kernel
theorem dd_RR_readSum_46 : decode bb_RR_readSum 46 = .ok (.isub, 1) := by decide +kernel
theorem dd_RR_readSum_47 : decode bb_RR_readSum 47 = .ok (.istore_n 2, 1) := by decide +kernel
theorem dd_RR_readSum_48 : decode bb_RR_readSum 48 = .ok (.iload_n 2, 1) := by decide +kernel
theorem dd_RR_readSum_49 : decode bb_RR_readSum 49 = .ok (.bipush (-2), 2) := by decide +kernel
theorem dd_RR_readSum_51 : decode bb_RR_readSum 51 = .ok (.if_icmp .ge 7, 3) := by decide +kernel
theorem dd_RR_readSum_54 : decode bb_RR_readSum 54 = .ok (.iconst 1, 1) := by decide +kernel
theorem dd_RR_readSum_55 : decode bb_RR_readSum 55 = .ok (.goto 4, 3) := by decide +kernel
theorem dd_RR_readSum_58 : decode bb_RR_readSum 58 = .ok (.iconst 0, 1) := by decide +kernel
theorem dd_RR_readSum_59 : decode bb_RR_readSum 59 = .ok (.istore 4, 2) := by decide +kernel
theorem dd_RR_readSum_61 : decode bb_RR_readSum 61 = .ok (.iload 4, 2) := by decide +kernel
theorem dd_RR_readSum_63 : decode bb_RR_readSum 63 = .ok (.ifCond .ne 12, 3) := by decide +kernel
theorem dd_RR_readSum_66 : decode bb_RR_readSum 66 = .ok (.iload_n 1, 1) := by decide +kernel
theorem dd_RR_readSum_67 : decode bb_RR_readSum 67 = .ok (.ifCond .eq 8, 3) := by decide +kernel
theorem dd_RR_readSum_70 : decode bb_RR_readSum 70 = .ok (.aload_n 0, 1) := by decide +kernel
theorem dd_RR_readSum_71 : decode bb_RR_readSum 71 = .ok (.iload_n 1, 1) := by decide +kernel
theorem dd_RR_readSum_72 : decode bb_RR_readSum 72 = .ok (.invokevirtual 76, 3) := by decide +kernel
theorem dd_RR_readSum_75 : decode bb_RR_readSum 75 = .ok (.iload_n 2, 1) := by decide +kernel
theorem dd_RR_readSum_76 : decode bb_RR_readSum 76 = .ok (.iconst (-1), 1) := by decide +kernel
theorem dd_RR_readSum_77 : decode bb_RR_readSum 77 = .ok (.if_icmp .le 4, 3) := by decide +kernel
theorem dd_RR_readSum_80 : decode bb_RR_readSum 80 = .ok (.return_, 1) := by decide +kernel
theorem dd_RR_readSum_81 : decode bb_RR_readSum 81 = .ok (.iload 4, 2) := by decide +kernel
theorem dd_RR_readSum_83 : decode bb_RR_readSum 83 = .ok (.ifCond .ne 7, 3) := by decide +kernel
theorem dd_RR_readSum_86 : decode bb_RR_readSum 86 = .ok (.iload_n 2, 1) := by decide +kernel
theorem dd_RR_readSum_87 : decode bb_RR_readSum 87 = .ok (.istore_n 1, 1) := by decide +kernel
theorem dd_RR_readSum_88 : decode bb_RR_readSum 88 = .ok (.iconst 0, 1) := by decide +kernel
theorem dd_RR_readSum_89 : decode bb_RR_readSum 89 = .ok (.istore_n 2, 1) := by decide +kernel
theorem dd_RR_readSum_90 : decode bb_RR_readSum 90 = .ok (.aload_n 0, 1) := by decide +kernel
theorem dd_RR_readSum_91 : decode bb_RR_readSum 91 = .ok (.getfield 20, 3) := by decide +kernel
theorem dd_RR_readSum_94 : decode bb_RR_readSum 94 = .ok (.invokevirtual 41, 3) := by decide +kernel
theorem dd_RR_readSum_97 : decode bb_RR_readSum 97 = .ok (.iinc 3 1, 3) := by decide +kernel
theorem dd_RR_readSum_100 : decode bb_RR_readSum 100 = .ok (.goto (-94), 3) := by decide +kernel
theorem dd_RR_readSum_103 : decode bb_RR_readSum 103 = .ok (.return_, 1) := by decide +kernel
def mm_RR_readSum_j90 (N : Nat) (this : Option Nat) (x1_90 : Int32) (x2_90 : Int32) (x3_90 : Int32) (h_90 : ss_Hp) : Option ((Int32 × Int32 × Int32 × ss_Hp) ⊕ (ss_Hp ⊕ ss_Hp)) :=
  (ss_gr h_90 this 4 0).bind fun r1 =>
  (mm_T_advance N r1 h_90).bind fun h2 =>
  (some (x3_90 + (1 : Int32))).bind fun v3 =>
  some (.inl (x1_90, x2_90, v3, h2))
def mm_RR_readSum_j75 (N : Nat) (this : Option Nat) (x1_75 : Int32) (x2_75 : Int32) (x3_75 : Int32) (x4_75 : Int32) (h_75 : ss_Hp) : Option ((Int32 × Int32 × Int32 × ss_Hp) ⊕ (ss_Hp ⊕ ss_Hp)) :=
  if x2_75 ≤ (-1 : Int32) then
    if x4_75 = 0 then
      mm_RR_readSum_j90 N this x2_75 (0 : Int32) x3_75 h_75
    else
      mm_RR_readSum_j90 N this x1_75 x2_75 x3_75 h_75
  else
    some (.inr (.inr h_75))
def mm_RR_readSum_j59 (N : Nat) (this : Option Nat) (x1_59 : Int32) (x2_59 : Int32) (x3_59 : Int32) (s0_59 : Int32) (h_59 : ss_Hp) : Option ((Int32 × Int32 × Int32 × ss_Hp) ⊕ (ss_Hp ⊕ ss_Hp)) :=
  if s0_59 = 0 then
    if x1_59 = 0 then
      mm_RR_readSum_j75 N this x1_59 x2_59 x3_59 s0_59 h_59
    else
      (mm_RR_emit N this x1_59 h_59).bind fun h8 =>
      mm_RR_readSum_j75 N this x1_59 x2_59 x3_59 s0_59 h8
  else
    mm_RR_readSum_j75 N this x1_59 x2_59 x3_59 s0_59 h_59
def mm_RR_readSum_j36 (N : Nat) (this : Option Nat) (x1_36 : Int32) (x3_36 : Int32) (h_36 : ss_Hp) : Option ((Int32 × Int32 × Int32 × ss_Hp) ⊕ (ss_Hp ⊕ ss_Hp)) :=
  (ss_gr h_36 this 4 0).bind fun r9 =>
  (mm_T_signIn N r9 3 h_36).bind fun v10 =>
  (some ((-1 : Int32) - v10)).bind fun v11 =>
  if (-2 : Int32) ≤ v11 then
    mm_RR_readSum_j59 N this x1_36 v11 x3_36 (0 : Int32) h_36
  else
    mm_RR_readSum_j59 N this x1_36 v11 x3_36 (1 : Int32) h_36
def mm_RR_readSum_b6 (N : Nat) (this : Option Nat) (st : Int32 × Int32 × Int32 × ss_Hp) : Option ((Int32 × Int32 × Int32 × ss_Hp) ⊕ (ss_Hp ⊕ ss_Hp)) :=
  match st with
  | (x1_6, x2_6, x3_6, h_6) =>
    if (400 : Int32) ≤ x3_6 then
      some (.inr (.inl h_6))
    else
      (ss_gr h_6 this 4 0).bind fun r14 =>
      (mm_T_isWell N r14 h_6).bind fun v15 =>
      if v15 = 0 then
        some (.inr (.inl h_6))
      else
        (mm_RR_readValue N this h_6).bind fun h17 =>
        if x2_6 = 0 then
          mm_RR_readSum_j36 N this x1_6 x3_6 h17
        else
          (mm_RR_emit N this x2_6 h17).bind fun h19 =>
          mm_RR_readSum_j36 N this x1_6 x3_6 h19
def mm_RR_readSum (N : Nat) (this : Option Nat) (h : ss_Hp) : Option ss_Hp :=
  if ss_is h this 4 = true then
    (ss_lp (mm_RR_readSum_b6 N this) N ((0 : Int32), (0 : Int32), (0 : Int32), h)).bind fun e_6 =>
    match e_6 with
    | (.inl h_6_103) =>
      some h_6_103
    | (.inr h_6_80) =>
      some h_6_80
  else none
abbrev ww_RR_readSum (p : Program) (l : Launch) (e : Env) (s : State) (m : MethodId) (below : List Frame) (meth : Method) (c : Code) (G : ss_G) (this : Option Nat) (h : ss_Hp) (hh : ss_Hp) (H : Heap) (locs : List Loc) (k n : Nat) (g : JFrame) : Prop := W p l e (headSpec (ss_w yy_RR_readSum bb_RR_readSum 5 none) ({ frames := 10, cells := 0, slots := 0, locals := 248 })).room s m ([ss_v (ss_b G) this] : List Value).toArray below meth c H locs k n (MQ below (ss_Qc G none hh) ([ss_v (ss_b G) this] : List Value).toArray s 0 0 (ss_A G)) g
theorem ck_RR_readSum {N : Nat} {this : Option Nat} {h : ss_Hp} {res : ss_Hp} (hm : mm_RR_readSum N this h = some res) : ss_is h this 4 = true := (ss_chk hm).1
set_option maxHeartbeats 4000000 in
set_option maxRecDepth 100000 in
theorem cc_RR_readSum (l : Launch) (G : ss_G) (N : Nat) (this : Option Nat) (h : ss_Hp) (hh : ss_Hp) (hm : mm_RR_readSum N this h = some hh) : ss_Ct l G yy_RR_readSum bb_RR_readSum 5 none ({ frames := 10, cells := 0, slots := 0, locals := 248 }) [ss_v (ss_b G) this] h none hh := by
  obtain ⟨hck, hm⟩ := ss_chk hm
  refine Met.ofW (cc := bb_RR_readSum) (maxL := 5) (ret := none) (by decide) rfl ?_
  intro p e s m args below meth c s₁ B hml hv
  obtain ⟨rfl, hR, hK⟩ := hv
  have hC : CallFix p m c bb_RR_readSum 5 s _ lw_g sR_4 := ⟨B.exec, B.bytes, hml, findClass_of_methodNamed B.named, fun w hw => atoms_spec (ws := ss_w yy_RR_readSum bb_RR_readSum 5 none) B.pre w (List.mem_cons_of_mem _ hw)⟩
  have hx := hC.1
  have hb := hC.2.1
  have hr := B.returns
  have hlocks := B.notSynchronized
  have hS : va_S (ss_A G) s.heap s.heap [] := va_S.rf
  have hl := lv_entry ([ss_v (ss_b G) this]) (n := 5) (by simp [lg_sl, ss_v_cat, ss_cat_i, ss_cat_l, ss_cat_r])
  rw [lg_entry_eq]
  generalize (lg_sl ([ss_v (ss_b G) this]) ++ List.replicate (5 - (lg_sl ([ss_v (ss_b G) this])).length) Slot.unset).toArray = ls at hl ⊢
  have hl : lv_has ls 5 [(0, ss_v (ss_b G) this)] := by simpa [lv_args, ss_v_cat, ss_cat_i, ss_cat_l, ss_cat_r] using hl
  refine lv_iconst (v := 0) hx hb dd_RR_readSum_0 (by decide) ?_
  refine lv_istore_n (lv' := [(1, .int (0 : Int32)), (0, ss_v (ss_b G) this)]) hx hb dd_RR_readSum_1 rfl hl (by decide) (by simp only [List.filter_cons, ss_v_cat]; rfl) (fun ls hl => ?_)
  refine lv_iconst (v := 0) hx hb dd_RR_readSum_2 (by decide) ?_
  refine lv_istore_n (lv' := [(2, .int (0 : Int32)), (1, .int (0 : Int32)), (0, ss_v (ss_b G) this)]) hx hb dd_RR_readSum_3 rfl hl (by decide) rfl (fun ls hl => ?_)
  refine lv_iconst (v := 0) hx hb dd_RR_readSum_4 (by decide) ?_
  refine lv_istore_n (lv' := [(3, .int (0 : Int32)), (2, .int (0 : Int32)), (1, .int (0 : Int32)), (0, ss_v (ss_b G) this)]) hx hb dd_RR_readSum_5 rfl hl (by decide) rfl (fun ls hl => ?_)
  obtain ⟨e_6, he_6, hm⟩ := ss_bind hm
  have X_6_103 : ∀  (h_6_103 : ss_Hp) (H : Heap) (locs : List Loc) (ls : Array Slot), e_6 = (.inl h_6_103) → ss_R G h_6_103 H → va_S (ss_A G) s.heap H locs → lv_has ls 5 [] → ww_RR_readSum p l e s m below meth c G this h hh  H locs 0 0 (F0 m 103 ls []) := by
    intro h_6_103 H locs ls hq hR hS hl
    rw [hq] at hm
    exact ss_vret hC hr hlocks hR hS hm dd_RR_readSum_103
  have X_6_80 : ∀  (h_6_80 : ss_Hp) (H : Heap) (locs : List Loc) (ls : Array Slot), e_6 = (.inr h_6_80) → ss_R G h_6_80 H → va_S (ss_A G) s.heap H locs → lv_has ls 5 [] → ww_RR_readSum p l e s m below meth c G this h hh  H locs 0 0 (F0 m 80 ls []) := by
    intro h_6_80 H locs ls hq hR hS hl
    rw [hq] at hm
    exact ss_vret hC hr hlocks hR hS hm dd_RR_readSum_80
  have L_6 : ∀ (n : Nat) (x1_6 : Int32) (x2_6 : Int32) (x3_6 : Int32) (h_6 : ss_Hp) (H : Heap) (locs : List Loc) (ls : Array Slot), ss_lp (mm_RR_readSum_b6 N this) n (x1_6, x2_6, x3_6, h_6) = some e_6 → ss_R G h_6 H → va_S (ss_A G) s.heap H locs → lv_has ls 5 [(0, ss_v (ss_b G) this), (1, .int x1_6), (2, .int x2_6), (3, .int x3_6)] → ww_RR_readSum p l e s m below meth c G this h hh  H locs 0 0 (F0 m 6 ls []) := by
    intro n
    induction n with
    | zero => intro x1_6 x2_6 x3_6 h_6 H locs ls hm; cases hm
    | succ n ih_6 =>
      intro x1_6 x2_6 x3_6 h_6 H locs ls hm hR hS hl
      obtain ⟨z_6, hm, hz1_6, hz2_6⟩ := ss_lps hm
      have J_90 : ∀ (x1_90 : Int32) (x2_90 : Int32) (x3_90 : Int32) (h_90 : ss_Hp) (H : Heap) (locs : List Loc) (ls : Array Slot), mm_RR_readSum_j90 N this x1_90 x2_90 x3_90 h_90 = some z_6 → ss_R G h_90 H → va_S (ss_A G) s.heap H locs → lv_has ls 5 [(0, ss_v (ss_b G) this), (1, .int x1_90), (2, .int x2_90), (3, .int x3_90)] → ww_RR_readSum p l e s m below meth c G this h hh  H locs 0 0 (F0 m 90 ls []) := by
        intro x1_90 x2_90 x3_90 h_90 H locs ls hm hR hS hl
        refine ss_aload_n hx hb dd_RR_readSum_90 rfl (lv_at hl 0 rfl) ?_
        obtain ⟨r1, qr1, hm⟩ := ss_bind hm
        refine ss_getr hC hK hR kf_RR_20 rfl qr1 dd_RR_readSum_91 ?_
        obtain ⟨h2, qh2, hm⟩ := ss_bind hm
        refine ss_cVv 0 0 (As := []) hC hK hR hS hl.1 (cc_T_advance l G N _ _ _ qh2) km_RR_41 (ck_T_advance qh2) ⟨Nat.le_of_ble_eq_true rfl, Nat.le_of_ble_eq_true rfl⟩ ⟨Nat.le_of_ble_eq_true rfl, Nat.le_of_ble_eq_true rfl, Nat.le_of_ble_eq_true rfl, Nat.le_of_ble_eq_true rfl⟩ rfl rfl (Nat.le_of_ble_eq_true rfl) dd_RR_readSum_94 (fun H locs hR hS => ?_)
        obtain ⟨v3, qv3, hm⟩ := ss_bind hm
        refine lv_iinc (v := v3) (lv' := [(3, .int v3), (0, ss_v (ss_b G) this), (1, .int x1_90), (2, .int x2_90)]) hx hb dd_RR_readSum_97 hl (k := 3) rfl (ss_inc (by decide) qv3) (by decide) rfl (fun ls hl => ?_)
        refine lv_goto (tgt := 6) hx hb dd_RR_readSum_100 (by decide) ?_
        exact ih_6 x1_90 x2_90 v3 h2 _ _ _ (hz1_6 _ (ss_some hm)) hR hS (lv_sub hl [1, 2, 3, 0] rfl)
      have J_75 : ∀ (x1_75 : Int32) (x2_75 : Int32) (x3_75 : Int32) (x4_75 : Int32) (h_75 : ss_Hp) (H : Heap) (locs : List Loc) (ls : Array Slot), mm_RR_readSum_j75 N this x1_75 x2_75 x3_75 x4_75 h_75 = some z_6 → ss_R G h_75 H → va_S (ss_A G) s.heap H locs → lv_has ls 5 [(0, ss_v (ss_b G) this), (1, .int x1_75), (2, .int x2_75), (3, .int x3_75), (4, .int x4_75)] → ww_RR_readSum p l e s m below meth c G this h hh  H locs 0 0 (F0 m 75 ls []) := by
        intro x1_75 x2_75 x3_75 x4_75 h_75 H locs ls hm hR hS hl
        refine lv_iload_n hx hb dd_RR_readSum_75 rfl (lv_at hl 2 rfl) ?_
        refine lv_iconst (v := -1) hx hb dd_RR_readSum_76 (by decide) ?_
        refine lv_icmp_le (tgt := 81) hx hb dd_RR_readSum_77 (by decide) (fun c4 => ?_) (fun c4 => ?_)
        · have hm := ss_ift hm c4
          refine lv_iload hx hb dd_RR_readSum_81 (lv_at hl 4 rfl) ?_
          refine lv_if_ne (tgt := 90) hx hb dd_RR_readSum_83 (by decide) (fun c5 => ?_) (fun c5 => ?_)
          · have hm := ss_iff hm c5
            exact J_90 x1_75 x2_75 x3_75 h_75 _ _ _ hm hR hS (lv_sub hl [0, 1, 2, 3] rfl)
          · have hm := ss_ift hm c5
            refine lv_iload_n hx hb dd_RR_readSum_86 rfl (lv_at hl 2 rfl) ?_
            refine lv_istore_n (lv' := [(1, .int x2_75), (0, ss_v (ss_b G) this), (2, .int x2_75), (3, .int x3_75), (4, .int x4_75)]) hx hb dd_RR_readSum_87 rfl hl (by decide) (by simp only [List.filter_cons, ss_v_cat]; rfl) (fun ls hl => ?_)
            refine lv_iconst (v := 0) hx hb dd_RR_readSum_88 (by decide) ?_
            refine lv_istore_n (lv' := [(2, .int (0 : Int32)), (1, .int x2_75), (0, ss_v (ss_b G) this), (3, .int x3_75), (4, .int x4_75)]) hx hb dd_RR_readSum_89 rfl hl (by decide) rfl (fun ls hl => ?_)
            exact J_90 x2_75 (0 : Int32) x3_75 h_75 _ _ _ hm hR hS (lv_sub hl [2, 1, 0, 3] rfl)
        · have hm := ss_iff hm c4
          exact X_6_80 h_75 _ _ _ (hz2_6 _ (ss_some hm)) hR hS (lv_sub hl [] rfl)
      have J_59 : ∀ (x1_59 : Int32) (x2_59 : Int32) (x3_59 : Int32) (s0_59 : Int32) (h_59 : ss_Hp) (H : Heap) (locs : List Loc) (ls : Array Slot), mm_RR_readSum_j59 N this x1_59 x2_59 x3_59 s0_59 h_59 = some z_6 → ss_R G h_59 H → va_S (ss_A G) s.heap H locs → lv_has ls 5 [(0, ss_v (ss_b G) this), (1, .int x1_59), (2, .int x2_59), (3, .int x3_59)] → ww_RR_readSum p l e s m below meth c G this h hh  H locs 0 0 (F0 m 59 ls [.int s0_59]) := by
        intro x1_59 x2_59 x3_59 s0_59 h_59 H locs ls hm hR hS hl
        refine lv_istore (lv' := [(4, .int s0_59), (0, ss_v (ss_b G) this), (1, .int x1_59), (2, .int x2_59), (3, .int x3_59)]) hx hb dd_RR_readSum_59 hl (by decide) rfl (fun ls hl => ?_)
        refine lv_iload hx hb dd_RR_readSum_61 (lv_at hl 0 rfl) ?_
        refine lv_if_ne (tgt := 75) hx hb dd_RR_readSum_63 (by decide) (fun c6 => ?_) (fun c6 => ?_)
        · have hm := ss_iff hm c6
          exact J_75 x1_59 x2_59 x3_59 s0_59 h_59 _ _ _ hm hR hS (lv_sub hl [1, 2, 3, 4, 0] rfl)
        · have hm := ss_ift hm c6
          refine lv_iload_n hx hb dd_RR_readSum_66 rfl (lv_at hl 2 rfl) ?_
          refine lv_if_eq (tgt := 75) hx hb dd_RR_readSum_67 (by decide) (fun c7 => ?_) (fun c7 => ?_)
          · have hm := ss_ift hm c7
            exact J_75 x1_59 x2_59 x3_59 s0_59 h_59 _ _ _ hm hR hS (lv_sub hl [1, 2, 3, 4, 0] rfl)
          · have hm := ss_iff hm c7
            refine ss_aload_n hx hb dd_RR_readSum_70 rfl (lv_at hl 1 rfl) ?_
            refine lv_iload_n hx hb dd_RR_readSum_71 rfl (lv_at hl 2 rfl) ?_
            obtain ⟨h8, qh8, hm⟩ := ss_bind hm
            refine ss_cVv 0 0 (As := [.int x1_59]) hC hK hR hS hl.1 (cc_RR_emit l G N _ _ _ _ qh8) km_RR_76 (ck_RR_emit qh8) ⟨Nat.le_of_ble_eq_true rfl, Nat.le_of_ble_eq_true rfl⟩ ⟨Nat.le_of_ble_eq_true rfl, Nat.le_of_ble_eq_true rfl, Nat.le_of_ble_eq_true rfl, Nat.le_of_ble_eq_true rfl⟩ rfl rfl (Nat.le_of_ble_eq_true rfl) dd_RR_readSum_72 (fun H locs hR hS => ?_)
            exact J_75 x1_59 x2_59 x3_59 s0_59 h8 _ _ _ hm hR hS (lv_sub hl [1, 2, 3, 4, 0] rfl)
      have J_36 : ∀ (x1_36 : Int32) (x3_36 : Int32) (h_36 : ss_Hp) (H : Heap) (locs : List Loc) (ls : Array Slot), mm_RR_readSum_j36 N this x1_36 x3_36 h_36 = some z_6 → ss_R G h_36 H → va_S (ss_A G) s.heap H locs → lv_has ls 5 [(0, ss_v (ss_b G) this), (1, .int x1_36), (3, .int x3_36)] → ww_RR_readSum p l e s m below meth c G this h hh  H locs 0 0 (F0 m 36 ls []) := by
        intro x1_36 x3_36 h_36 H locs ls hm hR hS hl
        refine lv_iconst (v := -1) hx hb dd_RR_readSum_36 (by decide) ?_
        refine ss_aload_n hx hb dd_RR_readSum_37 rfl (lv_at hl 0 rfl) ?_
        obtain ⟨r9, qr9, hm⟩ := ss_bind hm
        refine ss_getr hC hK hR kf_RR_20 rfl qr9 dd_RR_readSum_38 ?_
        refine va_ldcS hx hb hC.2.2.2.1 (ss_sr_3 hK) dd_RR_readSum_41 ?_
        obtain ⟨v10, qv10, hm⟩ := ss_bind hm
        refine ss_cV 0 0 (As := [.ref (G.2.2.2.1 3)]) hC hK hR hS hl.1 (cc_T_signIn l G N _ _ _ _ qv10) km_RR_105 (ck_T_signIn qv10) ⟨Nat.le_of_ble_eq_true rfl, Nat.le_of_ble_eq_true rfl⟩ ⟨Nat.le_of_ble_eq_true rfl, Nat.le_of_ble_eq_true rfl, Nat.le_of_ble_eq_true rfl, Nat.le_of_ble_eq_true rfl⟩ rfl rfl (Nat.le_of_ble_eq_true rfl) dd_RR_readSum_43 (fun H locs hR hS => ?_)
        refine lv_isub hx hb dd_RR_readSum_46 ?_
        obtain ⟨v11, qv11, hm⟩ := ss_bind hm
        refine ss_topi qv11 ?_
        refine lv_istore_n (lv' := [(2, .int v11), (0, ss_v (ss_b G) this), (1, .int x1_36), (3, .int x3_36)]) hx hb dd_RR_readSum_47 rfl hl (by decide) rfl (fun ls hl => ?_)
        refine lv_iload_n hx hb dd_RR_readSum_48 rfl (lv_at hl 0 rfl) ?_
        refine lv_bipush (v := -2) hx hb dd_RR_readSum_49 (by decide) ?_
        refine lv_icmp_ge (tgt := 58) hx hb dd_RR_readSum_51 (by decide) (fun c12 => ?_) (fun c12 => ?_)
        · have hm := ss_ift hm c12
          refine lv_iconst (v := 0) hx hb dd_RR_readSum_58 (by decide) ?_
          exact J_59 x1_36 v11 x3_36 (0 : Int32) h_36 _ _ _ hm hR hS (lv_sub hl [1, 2, 0, 3] rfl)
        · have hm := ss_iff hm c12
          refine lv_iconst (v := 1) hx hb dd_RR_readSum_54 (by decide) ?_
          refine lv_goto (tgt := 59) hx hb dd_RR_readSum_55 (by decide) ?_
          exact J_59 x1_36 v11 x3_36 (1 : Int32) h_36 _ _ _ hm hR hS (lv_sub hl [1, 2, 0, 3] rfl)
      refine lv_iload_n hx hb dd_RR_readSum_6 rfl (lv_at hl 3 rfl) ?_
      refine lv_sipush (v := 400) hx hb dd_RR_readSum_7 (by decide) ?_
      refine lv_icmp_ge (tgt := 103) hx hb dd_RR_readSum_10 (by decide) (fun c13 => ?_) (fun c13 => ?_)
      · have hm := ss_ift hm c13
        exact X_6_103 h_6 _ _ _ (hz2_6 _ (ss_some hm)) hR hS (lv_sub hl [] rfl)
      · have hm := ss_iff hm c13
        refine ss_aload_n hx hb dd_RR_readSum_13 rfl (lv_at hl 0 rfl) ?_
        obtain ⟨r14, qr14, hm⟩ := ss_bind hm
        refine ss_getr hC hK hR kf_RR_20 rfl qr14 dd_RR_readSum_14 ?_
        obtain ⟨v15, qv15, hm⟩ := ss_bind hm
        refine ss_cV 0 0 (As := []) hC hK hR hS hl.1 (cc_T_isWell l G N _ _ _ qv15) km_RR_47 (ck_T_isWell qv15) ⟨Nat.le_of_ble_eq_true rfl, Nat.le_of_ble_eq_true rfl⟩ ⟨Nat.le_of_ble_eq_true rfl, Nat.le_of_ble_eq_true rfl, Nat.le_of_ble_eq_true rfl, Nat.le_of_ble_eq_true rfl⟩ rfl rfl (Nat.le_of_ble_eq_true rfl) dd_RR_readSum_17 (fun H locs hR hS => ?_)
        refine lv_if_eq (tgt := 103) hx hb dd_RR_readSum_20 (by decide) (fun c16 => ?_) (fun c16 => ?_)
        · have hm := ss_ift hm c16
          exact X_6_103 h_6 _ _ _ (hz2_6 _ (ss_some hm)) hR hS (lv_sub hl [] rfl)
        · have hm := ss_iff hm c16
          refine ss_aload_n hx hb dd_RR_readSum_23 rfl (lv_at hl 0 rfl) ?_
          obtain ⟨h17, qh17, hm⟩ := ss_bind hm
          refine ss_cVv 0 0 (As := []) hC hK hR hS hl.1 (cc_RR_readValue l G N _ _ _ qh17) km_RR_100 (ck_RR_readValue qh17) ⟨Nat.le_of_ble_eq_true rfl, Nat.le_of_ble_eq_true rfl⟩ ⟨Nat.le_of_ble_eq_true rfl, Nat.le_of_ble_eq_true rfl, Nat.le_of_ble_eq_true rfl, Nat.le_of_ble_eq_true rfl⟩ rfl rfl (Nat.le_of_ble_eq_true rfl) dd_RR_readSum_24 (fun H locs hR hS => ?_)
          refine lv_iload_n hx hb dd_RR_readSum_27 rfl (lv_at hl 2 rfl) ?_
          refine lv_if_eq (tgt := 36) hx hb dd_RR_readSum_28 (by decide) (fun c18 => ?_) (fun c18 => ?_)
          · have hm := ss_ift hm c18
            exact J_36 x1_6 x3_6 h17 _ _ _ hm hR hS (lv_sub hl [0, 1, 3] rfl)
          · have hm := ss_iff hm c18
            refine ss_aload_n hx hb dd_RR_readSum_31 rfl (lv_at hl 0 rfl) ?_
            refine lv_iload_n hx hb dd_RR_readSum_32 rfl (lv_at hl 2 rfl) ?_
            obtain ⟨h19, qh19, hm⟩ := ss_bind hm
            refine ss_cVv 0 0 (As := [.int x2_6]) hC hK hR hS hl.1 (cc_RR_emit l G N _ _ _ _ qh19) km_RR_76 (ck_RR_emit qh19) ⟨Nat.le_of_ble_eq_true rfl, Nat.le_of_ble_eq_true rfl⟩ ⟨Nat.le_of_ble_eq_true rfl, Nat.le_of_ble_eq_true rfl, Nat.le_of_ble_eq_true rfl, Nat.le_of_ble_eq_true rfl⟩ rfl rfl (Nat.le_of_ble_eq_true rfl) dd_RR_readSum_33 (fun H locs hR hS => ?_)
            exact J_36 x1_6 x3_6 h19 _ _ _ hm hR hS (lv_sub hl [0, 1, 3] rfl)
  exact L_6 N (0 : Int32) (0 : Int32) (0 : Int32) h _ _ _ he_6 hR hS (lv_sub hl [3, 2, 1, 0] rfl)
theorem dd_RR_readWithin_0 : decode bb_RR_readWithin 0 = .ok (.iload_n 1, 1) := by decide +kernel
theorem dd_RR_readWithin_1 : decode bb_RR_readWithin 1 = .ok (.bipush 10, 2) := by decide +kernel
theorem dd_RR_readWithin_3 : decode bb_RR_readWithin 3 = .ok (.if_icmp .lt 12, 3) := by decide +kernel
theorem dd_RR_readWithin_6 : decode bb_RR_readWithin 6 = .ok (.aload_n 0, 1) := by decide +kernel
theorem dd_RR_readWithin_7 : decode bb_RR_readWithin 7 = .ok (.getfield 20, 3) := by decide +kernel
theorem dd_RR_readWithin_10 : decode bb_RR_readWithin 10 = .ok (.iconst 2, 1) := by decide +kernel
theorem dd_RR_readWithin_11 : decode bb_RR_readWithin 11 = .ok (.invokevirtual 70, 3) := by decide +kernel
theorem dd_RR_readWithin_14 : decode bb_RR_readWithin 14 = .ok (.return_, 1) := by decide +kernel
theorem dd_RR_readWithin_15 : decode bb_RR_readWithin 15 = .ok (.aload_n 0, 1) := by decide +kernel
theorem dd_RR_readWithin_16 : decode bb_RR_readWithin 16 = .ok (.getfield 20, 3) := by decide +kernel
theorem dd_RR_readWithin_19 : decode bb_RR_readWithin 19 = .ok (.invokevirtual 41, 3) := by decide +kernel
theorem dd_RR_readWithin_22 : decode bb_RR_readWithin 22 = .ok (.iload_n 2, 1) := by decide +kernel
theorem dd_RR_readWithin_23 : decode bb_RR_readWithin 23 = .ok (.ifCond .eq 17, 3) := by decide +kernel
theorem dd_RR_readWithin_26 : decode bb_RR_readWithin 26 = .ok (.aload_n 0, 1) := by decide +kernel
theorem dd_RR_readWithin_27 : decode bb_RR_readWithin 27 = .ok (.iload_n 1, 1) := by decide +kernel
theorem dd_RR_readWithin_28 : decode bb_RR_readWithin 28 = .ok (.iconst 1, 1) := by decide +kernel
theorem dd_RR_readWithin_29 : decode bb_RR_readWithin 29 = .ok (.iadd, 1) := by decide +kernel
theorem dd_RR_readWithin_30 : decode bb_RR_readWithin 30 = .ok (.invokevirtual 73, 3) := by decide +kernel
theorem dd_RR_readWithin_33 : decode bb_RR_readWithin 33 = .ok (.aload_n 0, 1) := by decide +kernel
theorem dd_RR_readWithin_34 : decode bb_RR_readWithin 34 = .ok (.bipush (-13), 2) := by decide +kernel
theorem dd_RR_readWithin_36 : decode bb_RR_readWithin 36 = .ok (.invokevirtual 76, 3) := by decide +kernel
theorem dd_RR_readWithin_39 : decode bb_RR_readWithin 39 = .ok (.return_, 1) := by decide +kernel
theorem dd_RR_readWithin_40 : decode bb_RR_readWithin 40 = .ok (.aload_n 0, 1) := by decide +kernel
theorem dd_RR_readWithin_41 : decode bb_RR_readWithin 41 = .ok (.iload_n 1, 1) := by decide +kernel
theorem dd_RR_readWithin_42 : decode bb_RR_readWithin 42 = .ok (.iconst 1, 1) := by decide +kernel
theorem dd_RR_readWithin_43 : decode bb_RR_readWithin 43 = .ok (.iadd, 1) := by decide +kernel
theorem dd_RR_readWithin_44 : decode bb_RR_readWithin 44 = .ok (.invokevirtual 56, 3) := by decide +kernel
theorem dd_RR_readWithin_47 : decode bb_RR_readWithin 47 = .ok (.aload_n 0, 1) := by decide +kernel
theorem dd_RR_readWithin_48 : decode bb_RR_readWithin 48 = .ok (.getfield 20, 3) := by decide +kernel
theorem dd_RR_readWithin_51 : decode bb_RR_readWithin 51 = .ok (.invokevirtual 47, 3) := by decide +kernel
theorem dd_RR_readWithin_54 : decode bb_RR_readWithin 54 = .ok (.ifCond .eq 25, 3) := by decide +kernel
theorem dd_RR_readWithin_57 : decode bb_RR_readWithin 57 = .ok (.aload_n 0, 1) := by decide +kernel
theorem dd_RR_readWithin_58 : decode bb_RR_readWithin 58 = .ok (.getfield 20, 3) := by decide +kernel
theorem dd_RR_readWithin_61 : decode bb_RR_readWithin 61 = .ok (.bipush 93, 2) := by decide +kernel
theorem dd_RR_readWithin_63 : decode bb_RR_readWithin 63 = .ok (.invokevirtual 85, 3) := by decide +kernel
theorem dd_RR_readWithin_66 : decode bb_RR_readWithin 66 = .ok (.ifCond .eq 13, 3) := by decide +kernel
theorem dd_RR_readWithin_69 : decode bb_RR_readWithin 69 = .ok (.aload_n 0, 1) := by decide +kernel
theorem dd_RR_readWithin_70 : decode bb_RR_readWithin 70 = .ok (.getfield 20, 3) := by decide +kernel
theorem dd_RR_readWithin_73 : decode bb_RR_readWithin 73 = .ok (.invokevirtual 41, 3) := by decide +kernel
theorem dd_RR_readWithin_76 : decode bb_RR_readWithin 76 = .ok (.goto 11, 3) := by decide +kernel
theorem dd_RR_readWithin_79 : decode bb_RR_readWithin 79 = .ok (.aload_n 0, 1) := by decide +kernel
theorem dd_RR_readWithin_80 : decode bb_RR_readWithin 80 = .ok (.getfield 20, 3) := by decide +kernel
theorem dd_RR_readWithin_83 : decode bb_RR_readWithin 83 = .ok (.iconst 0, 1) := by decide +kernel
theorem dd_RR_readWithin_84 : decode bb_RR_readWithin 84 = .ok (.invokevirtual 70, 3) := by decide +kernel
theorem dd_RR_readWithin_87 : decode bb_RR_readWithin 87 = .ok (.return_, 1) := by decide +kernel
def mm_RR_readWithin_j87 (N : Nat) (fK : Option Nat → Int32 → ss_Hp → Option ss_Hp) (tK : Option Nat → Int32 → ss_Hp → Option ss_Hp) (this : Option Nat) (a1 : Int32) (a2 : Int32) (h_87 : ss_Hp) : Option ss_Hp :=
  some h_87
def mm_RR_readWithin_j79 (N : Nat) (fK : Option Nat → Int32 → ss_Hp → Option ss_Hp) (tK : Option Nat → Int32 → ss_Hp → Option ss_Hp) (this : Option Nat) (a1 : Int32) (a2 : Int32) (h_79 : ss_Hp) : Option ss_Hp :=
  (ss_gr h_79 this 4 0).bind fun r1 =>
  (mm_T_fail N r1 (0 : Int32) h_79).bind fun h2 =>
  mm_RR_readWithin_j87 N fK tK this a1 a2 h2
def mm_RR_readWithin (N : Nat) (fK : Option Nat → Int32 → ss_Hp → Option ss_Hp) (tK : Option Nat → Int32 → ss_Hp → Option ss_Hp) (this : Option Nat) (a1 : Int32) (a2 : Int32) (h : ss_Hp) : Option ss_Hp :=
  if ss_is h this 4 = true then
    if a1 < (10 : Int32) then
      (ss_gr h this 4 0).bind fun r4 =>
      (mm_T_advance N r4 h).bind fun h5 =>
      if a2 = 0 then
        (tK this (a1 + (1 : Int32)) h5).bind fun h7 =>
        (ss_gr h7 this 4 0).bind fun r8 =>
        (mm_T_isWell N r8 h7).bind fun v9 =>
        if v9 = 0 then
          mm_RR_readWithin_j79 N fK tK this a1 a2 h7
        else
          (ss_gr h7 this 4 0).bind fun r11 =>
          (mm_T_isSign N r11 (93 : Int32) h7).bind fun v12 =>
          if v12 = 0 then
            mm_RR_readWithin_j79 N fK tK this a1 a2 h7
          else
            (ss_gr h7 this 4 0).bind fun r14 =>
            (mm_T_advance N r14 h7).bind fun h15 =>
            mm_RR_readWithin_j87 N fK tK this a1 a2 h15
      else
        (fK this (a1 + (1 : Int32)) h5).bind fun h16 =>
        (mm_RR_emit N this (-13 : Int32) h16).bind fun h17 =>
        some h17
    else
      (ss_gr h this 4 0).bind fun r18 =>
      (mm_T_fail N r18 (2 : Int32) h).bind fun h19 =>
      some h19
  else none
abbrev ww_RR_readWithin (p : Program) (l : Launch) (e : Env) (s : State) (m : MethodId) (below : List Frame) (meth : Method) (c : Code) (G : ss_G) (kk : Nat) (this : Option Nat) (a1 : Int32) (a2 : Int32) (h : ss_Hp) (hh : ss_Hp) (H : Heap) (locs : List Loc) (k n : Nat) (g : JFrame) : Prop := W p l e (headSpec (ss_w yy_RR_readWithin bb_RR_readWithin 3 none) ({ frames := 19 + 4 * kk, cells := 0, slots := 0, locals := 370 + 100 * kk })).room s m ([ss_v (ss_b G) this, .int a1, .int a2] : List Value).toArray below meth c H locs k n (MQ below (ss_Qc G none hh) ([ss_v (ss_b G) this, .int a1, .int a2] : List Value).toArray s 0 0 (ss_A G)) g
theorem ck_RR_readWithin {N : Nat} {fK : Option Nat → Int32 → ss_Hp → Option ss_Hp} {tK : Option Nat → Int32 → ss_Hp → Option ss_Hp} {this : Option Nat} {a1 : Int32} {a2 : Int32} {h : ss_Hp} {res : ss_Hp} (hm : mm_RR_readWithin N fK tK this a1 a2 h = some res) : ss_is h this 4 = true := (ss_chk hm).1
set_option maxHeartbeats 4000000 in
set_option maxRecDepth 100000 in
theorem cc_RR_readWithin (l : Launch) (G : ss_G) (N : Nat) (fK : Option Nat → Int32 → ss_Hp → Option ss_Hp) (tK : Option Nat → Int32 → ss_Hp → Option ss_Hp) (kk k0 : Nat) (hk0 : kk = k0 + 1) (hfK : ∀ (t : Option Nat) (d1 : Int32) (g g1 : ss_Hp), fK t d1 g = some g1 → ss_is g t 4 = true ∧ ss_Ct l G yy_RR_readFact bb_RR_readFact 4 none ({ frames := 20 + 4 * k0, cells := 0, slots := 0, locals := 400 + 100 * k0 }) [ss_v (ss_b G) t, .int d1] g none g1) (htK : ∀ (t : Option Nat) (d1 : Int32) (g g1 : ss_Hp), tK t d1 g = some g1 → ss_is g t 4 = true ∧ ss_Ct l G yy_RR_readTest bb_RR_readTest 5 none ({ frames := 21 + 4 * k0, cells := 0, slots := 0, locals := 430 + 100 * k0 }) [ss_v (ss_b G) t, .int d1] g none g1) (this : Option Nat) (a1 : Int32) (a2 : Int32) (h : ss_Hp) (hh : ss_Hp) (hm : mm_RR_readWithin N fK tK this a1 a2 h = some hh) : ss_Ct l G yy_RR_readWithin bb_RR_readWithin 3 none ({ frames := 19 + 4 * kk, cells := 0, slots := 0, locals := 370 + 100 * kk }) [ss_v (ss_b G) this, .int a1, .int a2] h none hh := by
  subst hk0
  obtain ⟨hck, hm⟩ := ss_chk hm
  refine Met.ofW (cc := bb_RR_readWithin) (maxL := 3) (ret := none) (by decide) rfl ?_
  intro p e s m args below meth c s₁ B hml hv
  obtain ⟨rfl, hR, hK⟩ := hv
  have hC : CallFix p m c bb_RR_readWithin 3 s _ lw_g sR_4 := ⟨B.exec, B.bytes, hml, findClass_of_methodNamed B.named, fun w hw => atoms_spec (ws := ss_w yy_RR_readWithin bb_RR_readWithin 3 none) B.pre w (List.mem_cons_of_mem _ hw)⟩
  have hx := hC.1
  have hb := hC.2.1
  have hr := B.returns
  have hlocks := B.notSynchronized
  have hS : va_S (ss_A G) s.heap s.heap [] := va_S.rf
  have hl := lv_entry ([ss_v (ss_b G) this, .int a1, .int a2]) (n := 3) (by simp [lg_sl, ss_v_cat, ss_cat_i, ss_cat_l, ss_cat_r])
  rw [lg_entry_eq]
  generalize (lg_sl ([ss_v (ss_b G) this, .int a1, .int a2]) ++ List.replicate (3 - (lg_sl ([ss_v (ss_b G) this, .int a1, .int a2])).length) Slot.unset).toArray = ls at hl ⊢
  have hl : lv_has ls 3 [(0, ss_v (ss_b G) this), (1, .int a1), (2, .int a2)] := by simpa [lv_args, ss_v_cat, ss_cat_i, ss_cat_l, ss_cat_r] using hl
  have J_87 : ∀ (h_87 : ss_Hp) (H : Heap) (locs : List Loc) (ls : Array Slot), mm_RR_readWithin_j87 N fK tK this a1 a2 h_87 = some hh → ss_R G h_87 H → va_S (ss_A G) s.heap H locs → lv_has ls 3 [] → ww_RR_readWithin p l e s m below meth c G (k0 + 1) this a1 a2 h hh  H locs 0 0 (F0 m 87 ls []) := by
    intro h_87 H locs ls hm hR hS hl
    exact ss_vret hC hr hlocks hR hS hm dd_RR_readWithin_87
  have J_79 : ∀ (h_79 : ss_Hp) (H : Heap) (locs : List Loc) (ls : Array Slot), mm_RR_readWithin_j79 N fK tK this a1 a2 h_79 = some hh → ss_R G h_79 H → va_S (ss_A G) s.heap H locs → lv_has ls 3 [(0, ss_v (ss_b G) this)] → ww_RR_readWithin p l e s m below meth c G (k0 + 1) this a1 a2 h hh  H locs 0 0 (F0 m 79 ls []) := by
    intro h_79 H locs ls hm hR hS hl
    refine ss_aload_n hx hb dd_RR_readWithin_79 rfl (lv_at hl 0 rfl) ?_
    obtain ⟨r1, qr1, hm⟩ := ss_bind hm
    refine ss_getr hC hK hR kf_RR_20 rfl qr1 dd_RR_readWithin_80 ?_
    refine lv_iconst (v := 0) hx hb dd_RR_readWithin_83 (by decide) ?_
    obtain ⟨h2, qh2, hm⟩ := ss_bind hm
    refine ss_cVv 0 0 (As := [.int (0 : Int32)]) hC hK hR hS hl.1 (cc_T_fail l G N _ _ _ _ qh2) km_RR_70 (ck_T_fail qh2) ⟨(by first | exact Nat.le_of_ble_eq_true rfl | (dsimp only [headSpec]; omega)), (by first | exact Nat.le_of_ble_eq_true rfl | (dsimp only [headSpec]; omega))⟩ ⟨(by first | exact Nat.le_of_ble_eq_true rfl | (dsimp only [headSpec]; omega)), (by first | exact Nat.le_of_ble_eq_true rfl | (dsimp only [headSpec]; omega)), (by first | exact Nat.le_of_ble_eq_true rfl | (dsimp only [headSpec]; omega)), (by first | exact Nat.le_of_ble_eq_true rfl | (dsimp only [headSpec]; omega))⟩ rfl rfl (by first | exact Nat.le_of_ble_eq_true rfl | (dsimp only [headSpec]; omega)) dd_RR_readWithin_84 (fun H locs hR hS => ?_)
    exact J_87 h2 _ _ _ hm hR hS (lv_sub hl [] rfl)
  refine lv_iload_n hx hb dd_RR_readWithin_0 rfl (lv_at hl 1 rfl) ?_
  refine lv_bipush (v := 10) hx hb dd_RR_readWithin_1 (by decide) ?_
  refine lv_icmp_lt (tgt := 15) hx hb dd_RR_readWithin_3 (by decide) (fun c3 => ?_) (fun c3 => ?_)
  · have hm := ss_ift hm c3
    refine ss_aload_n hx hb dd_RR_readWithin_15 rfl (lv_at hl 0 rfl) ?_
    obtain ⟨r4, qr4, hm⟩ := ss_bind hm
    refine ss_getr hC hK hR kf_RR_20 rfl qr4 dd_RR_readWithin_16 ?_
    obtain ⟨h5, qh5, hm⟩ := ss_bind hm
    refine ss_cVv 0 0 (As := []) hC hK hR hS hl.1 (cc_T_advance l G N _ _ _ qh5) km_RR_41 (ck_T_advance qh5) ⟨(by first | exact Nat.le_of_ble_eq_true rfl | (dsimp only [headSpec]; omega)), (by first | exact Nat.le_of_ble_eq_true rfl | (dsimp only [headSpec]; omega))⟩ ⟨(by first | exact Nat.le_of_ble_eq_true rfl | (dsimp only [headSpec]; omega)), (by first | exact Nat.le_of_ble_eq_true rfl | (dsimp only [headSpec]; omega)), (by first | exact Nat.le_of_ble_eq_true rfl | (dsimp only [headSpec]; omega)), (by first | exact Nat.le_of_ble_eq_true rfl | (dsimp only [headSpec]; omega))⟩ rfl rfl (by first | exact Nat.le_of_ble_eq_true rfl | (dsimp only [headSpec]; omega)) dd_RR_readWithin_19 (fun H locs hR hS => ?_)
    refine lv_iload_n hx hb dd_RR_readWithin_22 rfl (lv_at hl 2 rfl) ?_
    refine lv_if_eq (tgt := 40) hx hb dd_RR_readWithin_23 (by decide) (fun c6 => ?_) (fun c6 => ?_)
    · have hm := ss_ift hm c6
      refine ss_aload_n hx hb dd_RR_readWithin_40 rfl (lv_at hl 0 rfl) ?_
      refine lv_iload_n hx hb dd_RR_readWithin_41 rfl (lv_at hl 1 rfl) ?_
      refine lv_iconst (v := 1) hx hb dd_RR_readWithin_42 (by decide) ?_
      refine lv_iadd hx hb dd_RR_readWithin_43 ?_
      obtain ⟨h7, qh7, hm⟩ := ss_bind hm
      refine ss_cVv 0 0 (As := [.int (a1 + (1 : Int32))]) hC hK hR hS hl.1 (htK _ _ _ _ qh7).2 km_RR_56 (htK _ _ _ _ qh7).1 ⟨(by first | exact Nat.le_of_ble_eq_true rfl | (dsimp only [headSpec]; omega)), (by first | exact Nat.le_of_ble_eq_true rfl | (dsimp only [headSpec]; omega))⟩ ⟨(by first | exact Nat.le_of_ble_eq_true rfl | (dsimp only [headSpec]; omega)), (by first | exact Nat.le_of_ble_eq_true rfl | (dsimp only [headSpec]; omega)), (by first | exact Nat.le_of_ble_eq_true rfl | (dsimp only [headSpec]; omega)), (by first | exact Nat.le_of_ble_eq_true rfl | (dsimp only [headSpec]; omega))⟩ rfl rfl (by first | exact Nat.le_of_ble_eq_true rfl | (dsimp only [headSpec]; omega)) dd_RR_readWithin_44 (fun H locs hR hS => ?_)
      refine ss_aload_n hx hb dd_RR_readWithin_47 rfl (lv_at hl 0 rfl) ?_
      obtain ⟨r8, qr8, hm⟩ := ss_bind hm
      refine ss_getr hC hK hR kf_RR_20 rfl qr8 dd_RR_readWithin_48 ?_
      obtain ⟨v9, qv9, hm⟩ := ss_bind hm
      refine ss_cV 0 0 (As := []) hC hK hR hS hl.1 (cc_T_isWell l G N _ _ _ qv9) km_RR_47 (ck_T_isWell qv9) ⟨(by first | exact Nat.le_of_ble_eq_true rfl | (dsimp only [headSpec]; omega)), (by first | exact Nat.le_of_ble_eq_true rfl | (dsimp only [headSpec]; omega))⟩ ⟨(by first | exact Nat.le_of_ble_eq_true rfl | (dsimp only [headSpec]; omega)), (by first | exact Nat.le_of_ble_eq_true rfl | (dsimp only [headSpec]; omega)), (by first | exact Nat.le_of_ble_eq_true rfl | (dsimp only [headSpec]; omega)), (by first | exact Nat.le_of_ble_eq_true rfl | (dsimp only [headSpec]; omega))⟩ rfl rfl (by first | exact Nat.le_of_ble_eq_true rfl | (dsimp only [headSpec]; omega)) dd_RR_readWithin_51 (fun H locs hR hS => ?_)
      refine lv_if_eq (tgt := 79) hx hb dd_RR_readWithin_54 (by decide) (fun c10 => ?_) (fun c10 => ?_)
      · have hm := ss_ift hm c10
        exact J_79 h7 _ _ _ hm hR hS (lv_sub hl [0] rfl)
      · have hm := ss_iff hm c10
        refine ss_aload_n hx hb dd_RR_readWithin_57 rfl (lv_at hl 0 rfl) ?_
        obtain ⟨r11, qr11, hm⟩ := ss_bind hm
        refine ss_getr hC hK hR kf_RR_20 rfl qr11 dd_RR_readWithin_58 ?_
        refine lv_bipush (v := 93) hx hb dd_RR_readWithin_61 (by decide) ?_
        obtain ⟨v12, qv12, hm⟩ := ss_bind hm
        refine ss_cV 0 0 (As := [.int (93 : Int32)]) hC hK hR hS hl.1 (cc_T_isSign l G N _ _ _ _ qv12) km_RR_85 (ck_T_isSign qv12) ⟨(by first | exact Nat.le_of_ble_eq_true rfl | (dsimp only [headSpec]; omega)), (by first | exact Nat.le_of_ble_eq_true rfl | (dsimp only [headSpec]; omega))⟩ ⟨(by first | exact Nat.le_of_ble_eq_true rfl | (dsimp only [headSpec]; omega)), (by first | exact Nat.le_of_ble_eq_true rfl | (dsimp only [headSpec]; omega)), (by first | exact Nat.le_of_ble_eq_true rfl | (dsimp only [headSpec]; omega)), (by first | exact Nat.le_of_ble_eq_true rfl | (dsimp only [headSpec]; omega))⟩ rfl rfl (by first | exact Nat.le_of_ble_eq_true rfl | (dsimp only [headSpec]; omega)) dd_RR_readWithin_63 (fun H locs hR hS => ?_)
        refine lv_if_eq (tgt := 79) hx hb dd_RR_readWithin_66 (by decide) (fun c13 => ?_) (fun c13 => ?_)
        · have hm := ss_ift hm c13
          exact J_79 h7 _ _ _ hm hR hS (lv_sub hl [0] rfl)
        · have hm := ss_iff hm c13
          refine ss_aload_n hx hb dd_RR_readWithin_69 rfl (lv_at hl 0 rfl) ?_
          obtain ⟨r14, qr14, hm⟩ := ss_bind hm
          refine ss_getr hC hK hR kf_RR_20 rfl qr14 dd_RR_readWithin_70 ?_
          obtain ⟨h15, qh15, hm⟩ := ss_bind hm
          refine ss_cVv 0 0 (As := []) hC hK hR hS hl.1 (cc_T_advance l G N _ _ _ qh15) km_RR_41 (ck_T_advance qh15) ⟨(by first | exact Nat.le_of_ble_eq_true rfl | (dsimp only [headSpec]; omega)), (by first | exact Nat.le_of_ble_eq_true rfl | (dsimp only [headSpec]; omega))⟩ ⟨(by first | exact Nat.le_of_ble_eq_true rfl | (dsimp only [headSpec]; omega)), (by first | exact Nat.le_of_ble_eq_true rfl | (dsimp only [headSpec]; omega)), (by first | exact Nat.le_of_ble_eq_true rfl | (dsimp only [headSpec]; omega)), (by first | exact Nat.le_of_ble_eq_true rfl | (dsimp only [headSpec]; omega))⟩ rfl rfl (by first | exact Nat.le_of_ble_eq_true rfl | (dsimp only [headSpec]; omega)) dd_RR_readWithin_73 (fun H locs hR hS => ?_)
          refine lv_goto (tgt := 87) hx hb dd_RR_readWithin_76 (by decide) ?_
          exact J_87 h15 _ _ _ hm hR hS (lv_sub hl [] rfl)
    · have hm := ss_iff hm c6
      refine ss_aload_n hx hb dd_RR_readWithin_26 rfl (lv_at hl 0 rfl) ?_
      refine lv_iload_n hx hb dd_RR_readWithin_27 rfl (lv_at hl 1 rfl) ?_
      refine lv_iconst (v := 1) hx hb dd_RR_readWithin_28 (by decide) ?_
      refine lv_iadd hx hb dd_RR_readWithin_29 ?_
      obtain ⟨h16, qh16, hm⟩ := ss_bind hm
      refine ss_cVv 0 0 (As := [.int (a1 + (1 : Int32))]) hC hK hR hS hl.1 (hfK _ _ _ _ qh16).2 km_RR_73 (hfK _ _ _ _ qh16).1 ⟨(by first | exact Nat.le_of_ble_eq_true rfl | (dsimp only [headSpec]; omega)), (by first | exact Nat.le_of_ble_eq_true rfl | (dsimp only [headSpec]; omega))⟩ ⟨(by first | exact Nat.le_of_ble_eq_true rfl | (dsimp only [headSpec]; omega)), (by first | exact Nat.le_of_ble_eq_true rfl | (dsimp only [headSpec]; omega)), (by first | exact Nat.le_of_ble_eq_true rfl | (dsimp only [headSpec]; omega)), (by first | exact Nat.le_of_ble_eq_true rfl | (dsimp only [headSpec]; omega))⟩ rfl rfl (by first | exact Nat.le_of_ble_eq_true rfl | (dsimp only [headSpec]; omega)) dd_RR_readWithin_30 (fun H locs hR hS => ?_)
      refine ss_aload_n hx hb dd_RR_readWithin_33 rfl (lv_at hl 0 rfl) ?_
      refine lv_bipush (v := -13) hx hb dd_RR_readWithin_34 (by decide) ?_
      obtain ⟨h17, qh17, hm⟩ := ss_bind hm
      refine ss_cVv 0 0 (As := [.int (-13 : Int32)]) hC hK hR hS hl.1 (cc_RR_emit l G N _ _ _ _ qh17) km_RR_76 (ck_RR_emit qh17) ⟨(by first | exact Nat.le_of_ble_eq_true rfl | (dsimp only [headSpec]; omega)), (by first | exact Nat.le_of_ble_eq_true rfl | (dsimp only [headSpec]; omega))⟩ ⟨(by first | exact Nat.le_of_ble_eq_true rfl | (dsimp only [headSpec]; omega)), (by first | exact Nat.le_of_ble_eq_true rfl | (dsimp only [headSpec]; omega)), (by first | exact Nat.le_of_ble_eq_true rfl | (dsimp only [headSpec]; omega)), (by first | exact Nat.le_of_ble_eq_true rfl | (dsimp only [headSpec]; omega))⟩ rfl rfl (by first | exact Nat.le_of_ble_eq_true rfl | (dsimp only [headSpec]; omega)) dd_RR_readWithin_36 (fun H locs hR hS => ?_)
      exact ss_vret hC hr hlocks hR hS hm dd_RR_readWithin_39
  · have hm := ss_iff hm c3
    refine ss_aload_n hx hb dd_RR_readWithin_6 rfl (lv_at hl 0 rfl) ?_
    obtain ⟨r18, qr18, hm⟩ := ss_bind hm
    refine ss_getr hC hK hR kf_RR_20 rfl qr18 dd_RR_readWithin_7 ?_
    refine lv_iconst (v := 2) hx hb dd_RR_readWithin_10 (by decide) ?_
    obtain ⟨h19, qh19, hm⟩ := ss_bind hm
    refine ss_cVv 0 0 (As := [.int (2 : Int32)]) hC hK hR hS hl.1 (cc_T_fail l G N _ _ _ _ qh19) km_RR_70 (ck_T_fail qh19) ⟨(by first | exact Nat.le_of_ble_eq_true rfl | (dsimp only [headSpec]; omega)), (by first | exact Nat.le_of_ble_eq_true rfl | (dsimp only [headSpec]; omega))⟩ ⟨(by first | exact Nat.le_of_ble_eq_true rfl | (dsimp only [headSpec]; omega)), (by first | exact Nat.le_of_ble_eq_true rfl | (dsimp only [headSpec]; omega)), (by first | exact Nat.le_of_ble_eq_true rfl | (dsimp only [headSpec]; omega)), (by first | exact Nat.le_of_ble_eq_true rfl | (dsimp only [headSpec]; omega))⟩ rfl rfl (by first | exact Nat.le_of_ble_eq_true rfl | (dsimp only [headSpec]; omega)) dd_RR_readWithin_11 (fun H locs hR hS => ?_)
    exact ss_vret hC hr hlocks hR hS hm dd_RR_readWithin_14
theorem dd_T_comparison_0 : decode bb_T_comparison 0 = .ok (.aload_n 0, 1) := by decide +kernel
theorem dd_T_comparison_1 : decode bb_T_comparison 1 = .ok (.ldc 54, 2) := by decide +kernel
theorem dd_T_comparison_3 : decode bb_T_comparison 3 = .ok (.invokevirtual 56, 3) := by decide +kernel
theorem dd_T_comparison_6 : decode bb_T_comparison 6 = .ok (.istore_n 1, 1) := by decide +kernel
theorem dd_T_comparison_7 : decode bb_T_comparison 7 = .ok (.iload_n 1, 1) := by decide +kernel
theorem dd_T_comparison_8 : decode bb_T_comparison 8 = .ok (.iconst (-1), 1) := by decide +kernel
theorem dd_T_comparison_9 : decode bb_T_comparison 9 = .ok (.if_icmp .eq 7, 3) := by decide +kernel
theorem dd_T_comparison_12 : decode bb_T_comparison 12 = .ok (.iconst 2, 1) := by decide +kernel
theorem dd_T_comparison_13 : decode bb_T_comparison 13 = .ok (.iload_n 1, 1) := by decide +kernel
theorem dd_T_comparison_14 : decode bb_T_comparison 14 = .ok (.imul, 1) := by decide +kernel
theorem dd_T_comparison_15 : decode bb_T_comparison 15 = .ok (.ireturn, 1) := by decide +kernel
theorem dd_T_comparison_16 : decode bb_T_comparison 16 = .ok (.aload_n 0, 1) := by decide +kernel
theorem dd_T_comparison_17 : decode bb_T_comparison 17 = .ok (.getfield 31, 3) := by decide +kernel
theorem dd_T_comparison_20 : decode bb_T_comparison 20 = .ok (.iconst 3, 1) := by decide +kernel
theorem dd_T_comparison_21 : decode bb_T_comparison 21 = .ok (.if_icmp .ne 16, 3) := by decide +kernel
theorem dd_T_comparison_24 : decode bb_T_comparison 24 = .ok (.aload_n 0, 1) := by decide +kernel
theorem dd_T_comparison_25 : decode bb_T_comparison 25 = .ok (.getfield 22, 3) := by decide +kernel
theorem dd_T_comparison_28 : decode bb_T_comparison 28 = .ok (.aload_n 0, 1) := by decide +kernel
theorem dd_T_comparison_29 : decode bb_T_comparison 29 = .ok (.getfield 28, 3) := by decide +kernel
theorem dd_T_comparison_32 : decode bb_T_comparison 32 = .ok (.iconst 2, 1) := by decide +kernel
theorem dd_T_comparison_33 : decode bb_T_comparison 33 = .ok (.iadd, 1) := by decide +kernel
theorem dd_T_comparison_34 : decode bb_T_comparison 34 = .ok (.if_icmp .eq 5, 3) := by decide +kernel
theorem dd_T_comparison_37 : decode bb_T_comparison 37 = .ok (.iconst (-1), 1) := by decide +kernel
theorem dd_T_comparison_38 : decode bb_T_comparison 38 = .ok (.ireturn, 1) := by decide +kernel
theorem dd_T_comparison_39 : decode bb_T_comparison 39 = .ok (.aload_n 0, 1) := by decide +kernel
theorem dd_T_comparison_40 : decode bb_T_comparison 40 = .ok (.getfield 11, 3) := by decide +kernel
theorem dd_T_comparison_43 : decode bb_T_comparison 43 = .ok (.aload_n 0, 1) := by decide +kernel
theorem dd_T_comparison_44 : decode bb_T_comparison 44 = .ok (.getfield 28, 3) := by decide +kernel
theorem dd_T_comparison_47 : decode bb_T_comparison 47 = .ok (.iaload, 1) := by decide +kernel
theorem dd_T_comparison_48 : decode bb_T_comparison 48 = .ok (.bipush 60, 2) := by decide +kernel
theorem dd_T_comparison_50 : decode bb_T_comparison 50 = .ok (.if_icmp .ne 7, 3) := by decide +kernel
theorem dd_T_comparison_53 : decode bb_T_comparison 53 = .ok (.iconst 1, 1) := by decide +kernel
theorem dd_T_comparison_54 : decode bb_T_comparison 54 = .ok (.goto 4, 3) := by decide +kernel
theorem dd_T_comparison_57 : decode bb_T_comparison 57 = .ok (.iconst 3, 1) := by decide +kernel
theorem dd_T_comparison_58 : decode bb_T_comparison 58 = .ok (.ireturn, 1) := by decide +kernel
def mm_T_comparison_j37 (N : Nat) (this : Option Nat) (h : ss_Hp) : Option Int32 :=
  some (-1 : Int32)
def mm_T_comparison_j58 (N : Nat) (this : Option Nat) (h : ss_Hp) (s0_58 : Int32) : Option Int32 :=
  some s0_58
def mm_T_comparison (N : Nat) (this : Option Nat) (h : ss_Hp) : Option Int32 :=
  if ss_is h this 2 = true then
    (mm_T_signIn N this 6 h).bind fun v1 =>
    if v1 = (-1 : Int32) then
      (ss_gi h this 2 2).bind fun v3 =>
      if v3 = (3 : Int32) then
        (ss_gi h this 2 4).bind fun v5 =>
        (ss_gi h this 2 3).bind fun v6 =>
        if v5 = (v6 + (2 : Int32)) then
          (ss_gr h this 2 0).bind fun r8 =>
          (ss_gi h this 2 3).bind fun v9 =>
          (ss_ai h r8 20 v9).bind fun v10 =>
          if v10 = (60 : Int32) then
            mm_T_comparison_j58 N this h (1 : Int32)
          else
            mm_T_comparison_j58 N this h (3 : Int32)
        else
          mm_T_comparison_j37 N this h
      else
        mm_T_comparison_j37 N this h
    else
      some ((2 : Int32) * v1)
  else none
abbrev ww_T_comparison (p : Program) (l : Launch) (e : Env) (s : State) (m : MethodId) (below : List Frame) (meth : Method) (c : Code) (G : ss_G) (this : Option Nat) (h : ss_Hp) (rr : Int32) (H : Heap) (locs : List Loc) (k n : Nat) (g : JFrame) : Prop := W p l e (headSpec (ss_w yy_T_comparison bb_T_comparison 2 (some (.int))) ({ frames := 9, cells := 0, slots := 0, locals := 222 })).room s m ([ss_v (ss_b G) this] : List Value).toArray below meth c H locs k n (MQ below (ss_Qc G (some (.int rr)) h) ([ss_v (ss_b G) this] : List Value).toArray s 0 0 (ss_A G)) g
theorem ck_T_comparison {N : Nat} {this : Option Nat} {h : ss_Hp} {res : Int32} (hm : mm_T_comparison N this h = some res) : ss_is h this 2 = true := (ss_chk hm).1
set_option maxHeartbeats 4000000 in
set_option maxRecDepth 100000 in
theorem cc_T_comparison (l : Launch) (G : ss_G) (N : Nat) (this : Option Nat) (h : ss_Hp) (rr : Int32) (hm : mm_T_comparison N this h = some rr) : ss_Ct l G yy_T_comparison bb_T_comparison 2 (some (.int)) ({ frames := 9, cells := 0, slots := 0, locals := 222 }) [ss_v (ss_b G) this] h (some (.int rr)) h := by
  obtain ⟨hck, hm⟩ := ss_chk hm
  refine Met.ofW (cc := bb_T_comparison) (maxL := 2) (ret := (some (.int))) (by decide) rfl ?_
  intro p e s m args below meth c s₁ B hml hv
  obtain ⟨rfl, hR, hK⟩ := hv
  have hC : CallFix p m c bb_T_comparison 2 s _ lw_g sR_2 := ⟨B.exec, B.bytes, hml, findClass_of_methodNamed B.named, fun w hw => atoms_spec (ws := ss_w yy_T_comparison bb_T_comparison 2 (some (.int))) B.pre w (List.mem_cons_of_mem _ hw)⟩
  have hx := hC.1
  have hb := hC.2.1
  have hr := B.returns
  have hlocks := B.notSynchronized
  have hS : va_S (ss_A G) s.heap s.heap [] := va_S.rf
  have hl := lv_entry ([ss_v (ss_b G) this]) (n := 2) (by simp [lg_sl, ss_v_cat, ss_cat_i, ss_cat_l, ss_cat_r])
  rw [lg_entry_eq]
  generalize (lg_sl ([ss_v (ss_b G) this]) ++ List.replicate (2 - (lg_sl ([ss_v (ss_b G) this])).length) Slot.unset).toArray = ls at hl ⊢
  have hl : lv_has ls 2 [(0, ss_v (ss_b G) this)] := by simpa [lv_args, ss_v_cat, ss_cat_i, ss_cat_l, ss_cat_r] using hl
  have J_37 : ∀  (H : Heap) (locs : List Loc) (ls : Array Slot), mm_T_comparison_j37 N this h = some rr → ss_R G h H → va_S (ss_A G) s.heap H locs → lv_has ls 2 [] → ww_T_comparison p l e s m below meth c G this h rr  H locs 0 0 (F0 m 37 ls []) := by
    intro  H locs ls hm hR hS hl
    refine lv_iconst (v := -1) hx hb dd_T_comparison_37 (by decide) ?_
    exact ss_iret hC hr hlocks hR hS (ss_with _ hm) dd_T_comparison_38
  have J_58 : ∀ (s0_58 : Int32) (H : Heap) (locs : List Loc) (ls : Array Slot), mm_T_comparison_j58 N this h s0_58 = some rr → ss_R G h H → va_S (ss_A G) s.heap H locs → lv_has ls 2 [] → ww_T_comparison p l e s m below meth c G this h rr  H locs 0 0 (F0 m 58 ls [.int s0_58]) := by
    intro s0_58 H locs ls hm hR hS hl
    exact ss_iret hC hr hlocks hR hS (ss_with _ hm) dd_T_comparison_58
  refine ss_aload_n hx hb dd_T_comparison_0 rfl (lv_at hl 0 rfl) ?_
  refine va_ldcS hx hb hC.2.2.2.1 (ss_sr_6 hK) dd_T_comparison_1 ?_
  obtain ⟨v1, qv1, hm⟩ := ss_bind hm
  refine ss_cV 0 0 (As := [.ref (G.2.2.2.1 6)]) hC hK hR hS hl.1 (cc_T_signIn l G N _ _ _ _ qv1) km_T_56 (ck_T_signIn qv1) ⟨Nat.le_of_ble_eq_true rfl, Nat.le_of_ble_eq_true rfl⟩ ⟨Nat.le_of_ble_eq_true rfl, Nat.le_of_ble_eq_true rfl, Nat.le_of_ble_eq_true rfl, Nat.le_of_ble_eq_true rfl⟩ rfl rfl (Nat.le_of_ble_eq_true rfl) dd_T_comparison_3 (fun H locs hR hS => ?_)
  refine lv_istore_n (lv' := [(1, .int v1), (0, ss_v (ss_b G) this)]) hx hb dd_T_comparison_6 rfl hl (by decide) (by simp only [List.filter_cons, ss_v_cat]; rfl) (fun ls hl => ?_)
  refine lv_iload_n hx hb dd_T_comparison_7 rfl (lv_at hl 0 rfl) ?_
  refine lv_iconst (v := -1) hx hb dd_T_comparison_8 (by decide) ?_
  refine lv_icmp_eq (tgt := 16) hx hb dd_T_comparison_9 (by decide) (fun c2 => ?_) (fun c2 => ?_)
  · have hm := ss_ift hm c2
    refine ss_aload_n hx hb dd_T_comparison_16 rfl (lv_at hl 1 rfl) ?_
    obtain ⟨v3, qv3, hm⟩ := ss_bind hm
    refine ss_geti hC hK hR kf_T_31 qv3 dd_T_comparison_17 ?_
    refine lv_iconst (v := 3) hx hb dd_T_comparison_20 (by decide) ?_
    refine lv_icmp_ne (tgt := 37) hx hb dd_T_comparison_21 (by decide) (fun c4 => ?_) (fun c4 => ?_)
    · have hm := ss_iff hm c4
      exact J_37  _ _ _ hm hR hS (lv_sub hl [] rfl)
    · have hm := ss_ift hm c4
      refine ss_aload_n hx hb dd_T_comparison_24 rfl (lv_at hl 1 rfl) ?_
      obtain ⟨v5, qv5, hm⟩ := ss_bind hm
      refine ss_geti hC hK hR kf_T_22 qv5 dd_T_comparison_25 ?_
      refine ss_aload_n hx hb dd_T_comparison_28 rfl (lv_at hl 1 rfl) ?_
      obtain ⟨v6, qv6, hm⟩ := ss_bind hm
      refine ss_geti hC hK hR kf_T_28 qv6 dd_T_comparison_29 ?_
      refine lv_iconst (v := 2) hx hb dd_T_comparison_32 (by decide) ?_
      refine lv_iadd hx hb dd_T_comparison_33 ?_
      refine lv_icmp_eq (tgt := 39) hx hb dd_T_comparison_34 (by decide) (fun c7 => ?_) (fun c7 => ?_)
      · have hm := ss_ift hm c7
        refine ss_aload_n hx hb dd_T_comparison_39 rfl (lv_at hl 1 rfl) ?_
        obtain ⟨r8, qr8, hm⟩ := ss_bind hm
        refine ss_getr hC hK hR kf_T_11 rfl qr8 dd_T_comparison_40 ?_
        refine ss_aload_n hx hb dd_T_comparison_43 rfl (lv_at hl 1 rfl) ?_
        obtain ⟨v9, qv9, hm⟩ := ss_bind hm
        refine ss_geti hC hK hR kf_T_28 qv9 dd_T_comparison_44 ?_
        obtain ⟨v10, qv10, hm⟩ := ss_bind hm
        refine ss_iald hC hK hR qv10 dd_T_comparison_47 ?_
        refine lv_bipush (v := 60) hx hb dd_T_comparison_48 (by decide) ?_
        refine lv_icmp_ne (tgt := 57) hx hb dd_T_comparison_50 (by decide) (fun c11 => ?_) (fun c11 => ?_)
        · have hm := ss_iff hm c11
          refine lv_iconst (v := 3) hx hb dd_T_comparison_57 (by decide) ?_
          exact J_58 (3 : Int32)  _ _ _ hm hR hS (lv_sub hl [] rfl)
        · have hm := ss_ift hm c11
          refine lv_iconst (v := 1) hx hb dd_T_comparison_53 (by decide) ?_
          refine lv_goto (tgt := 58) hx hb dd_T_comparison_54 (by decide) ?_
          exact J_58 (1 : Int32)  _ _ _ hm hR hS (lv_sub hl [] rfl)
      · have hm := ss_iff hm c7
        exact J_37  _ _ _ hm hR hS (lv_sub hl [] rfl)
  · have hm := ss_iff hm c2
    refine lv_iconst (v := 2) hx hb dd_T_comparison_12 (by decide) ?_
    refine lv_iload_n hx hb dd_T_comparison_13 rfl (lv_at hl 0 rfl) ?_
    refine lv_imul hx hb dd_T_comparison_14 ?_
    exact ss_iret hC hr hlocks hR hS (ss_with _ hm) dd_T_comparison_15
theorem dd_RR_readFact_0 : decode bb_RR_readFact 0 = .ok (.aload_n 0, 1) := by decide +kernel
theorem dd_RR_readFact_1 : decode bb_RR_readFact 1 = .ok (.getfield 20, 3) := by decide +kernel
theorem dd_RR_readFact_4 : decode bb_RR_readFact 4 = .ok (.ldc 83, 2) := by decide +kernel
theorem dd_RR_readFact_6 : decode bb_RR_readFact 6 = .ok (.invokevirtual 52, 3) := by decide +kernel
theorem dd_RR_readFact_9 : decode bb_RR_readFact 9 = .ok (.istore_n 2, 1) := by decide +kernel
theorem dd_RR_readFact_10 : decode bb_RR_readFact 10 = .ok (.iload_n 2, 1) := by decide +kernel
theorem dd_RR_readFact_11 : decode bb_RR_readFact 11 = .ok (.ifCond .ne 15, 3) := by decide +kernel
theorem dd_RR_readFact_14 : decode bb_RR_readFact 14 = .ok (.aload_n 0, 1) := by decide +kernel
theorem dd_RR_readFact_15 : decode bb_RR_readFact 15 = .ok (.getfield 20, 3) := by decide +kernel
theorem dd_RR_readFact_18 : decode bb_RR_readFact 18 = .ok (.bipush 91, 2) := by decide +kernel
theorem dd_RR_readFact_20 : decode bb_RR_readFact 20 = .ok (.invokevirtual 85, 3) := by decide +kernel
theorem dd_RR_readFact_23 : decode bb_RR_readFact 23 = .ok (.ifCond .eq 10, 3) := by decide +kernel
theorem dd_RR_readFact_26 : decode bb_RR_readFact 26 = .ok (.aload_n 0, 1) := by decide +kernel
theorem dd_RR_readFact_27 : decode bb_RR_readFact 27 = .ok (.iload_n 1, 1) := by decide +kernel
theorem dd_RR_readFact_28 : decode bb_RR_readFact 28 = .ok (.iload_n 2, 1) := by decide +kernel
theorem dd_RR_readFact_29 : decode bb_RR_readFact 29 = .ok (.invokevirtual 89, 3) := by decide +kernel
theorem dd_RR_readFact_32 : decode bb_RR_readFact 32 = .ok (.return_, 1) := by decide +kernel
theorem dd_RR_readFact_33 : decode bb_RR_readFact 33 = .ok (.aload_n 0, 1) := by decide +kernel
theorem dd_RR_readFact_34 : decode bb_RR_readFact 34 = .ok (.invokevirtual 44, 3) := by decide +kernel
theorem dd_RR_readFact_37 : decode bb_RR_readFact 37 = .ok (.aload_n 0, 1) := by decide +kernel
theorem dd_RR_readFact_38 : decode bb_RR_readFact 38 = .ok (.getfield 20, 3) := by decide +kernel
theorem dd_RR_readFact_41 : decode bb_RR_readFact 41 = .ok (.invokevirtual 47, 3) := by decide +kernel
theorem dd_RR_readFact_44 : decode bb_RR_readFact 44 = .ok (.ifCond .ne 4, 3) := by decide +kernel
theorem dd_RR_readFact_47 : decode bb_RR_readFact 47 = .ok (.return_, 1) := by decide +kernel
theorem dd_RR_readFact_48 : decode bb_RR_readFact 48 = .ok (.aload_n 0, 1) := by decide +kernel
theorem dd_RR_readFact_49 : decode bb_RR_readFact 49 = .ok (.getfield 20, 3) := by decide +kernel
theorem dd_RR_readFact_52 : decode bb_RR_readFact 52 = .ok (.invokevirtual 93, 3) := by decide +kernel
theorem dd_RR_readFact_55 : decode bb_RR_readFact 55 = .ok (.istore_n 3, 1) := by decide +kernel
theorem dd_RR_readFact_56 : decode bb_RR_readFact 56 = .ok (.iload_n 3, 1) := by decide +kernel
theorem dd_RR_readFact_57 : decode bb_RR_readFact 57 = .ok (.iconst (-1), 1) := by decide +kernel
theorem dd_RR_readFact_58 : decode bb_RR_readFact 58 = .ok (.if_icmp .ne 11, 3) := by decide +kernel
theorem dd_RR_readFact_61 : decode bb_RR_readFact 61 = .ok (.aload_n 0, 1) := by decide +kernel
theorem dd_RR_readFact_62 : decode bb_RR_readFact 62 = .ok (.getfield 20, 3) := by decide +kernel
theorem dd_RR_readFact_65 : decode bb_RR_readFact 65 = .ok (.iconst 0, 1) := by decide +kernel
theorem dd_RR_readFact_66 : decode bb_RR_readFact 66 = .ok (.invokevirtual 70, 3) := by decide +kernel
theorem dd_RR_readFact_69 : decode bb_RR_readFact 69 = .ok (.aload_n 0, 1) := by decide +kernel
theorem dd_RR_readFact_70 : decode bb_RR_readFact 70 = .ok (.invokevirtual 97, 3) := by decide +kernel
theorem dd_RR_readFact_73 : decode bb_RR_readFact 73 = .ok (.aload_n 0, 1) := by decide +kernel
theorem dd_RR_readFact_74 : decode bb_RR_readFact 74 = .ok (.getfield 20, 3) := by decide +kernel
theorem dd_RR_readFact_77 : decode bb_RR_readFact 77 = .ok (.invokevirtual 47, 3) := by decide +kernel
theorem dd_RR_readFact_80 : decode bb_RR_readFact 80 = .ok (.ifCond .eq 22, 3) := by decide +kernel
theorem dd_RR_readFact_83 : decode bb_RR_readFact 83 = .ok (.aload_n 0, 1) := by decide +kernel
theorem dd_RR_readFact_84 : decode bb_RR_readFact 84 = .ok (.getfield 20, 3) := by decide +kernel
theorem dd_RR_readFact_87 : decode bb_RR_readFact 87 = .ok (.invokevirtual 41, 3) := by decide +kernel
theorem dd_RR_readFact_90 : decode bb_RR_readFact 90 = .ok (.aload_n 0, 1) := by decide +kernel
theorem dd_RR_readFact_91 : decode bb_RR_readFact 91 = .ok (.invokevirtual 44, 3) := by decide +kernel
theorem dd_RR_readFact_94 : decode bb_RR_readFact 94 = .ok (.aload_n 0, 1) := by decide +kernel
theorem dd_RR_readFact_95 : decode bb_RR_readFact 95 = .ok (.bipush (-6), 2) := by decide +kernel
theorem dd_RR_readFact_97 : decode bb_RR_readFact 97 = .ok (.iload_n 3, 1) := by decide +kernel
theorem dd_RR_readFact_98 : decode bb_RR_readFact 98 = .ok (.isub, 1) := by decide +kernel
theorem dd_RR_readFact_99 : decode bb_RR_readFact 99 = .ok (.invokevirtual 76, 3) := by decide +kernel
theorem dd_RR_readFact_102 : decode bb_RR_readFact 102 = .ok (.return_, 1) := by decide +kernel
def mm_RR_readFact_j26 (N : Nat) (wK : Option Nat → Int32 → Int32 → ss_Hp → Option ss_Hp) (this : Option Nat) (a1 : Int32) (x2_26 : Int32) (h_26 : ss_Hp) : Option ss_Hp :=
  (wK this a1 x2_26 h_26).bind fun h1 =>
  some h1
def mm_RR_readFact_j102 (N : Nat) (wK : Option Nat → Int32 → Int32 → ss_Hp → Option ss_Hp) (this : Option Nat) (a1 : Int32) (h_102 : ss_Hp) : Option ss_Hp :=
  some h_102
def mm_RR_readFact_j69 (N : Nat) (wK : Option Nat → Int32 → Int32 → ss_Hp → Option ss_Hp) (this : Option Nat) (a1 : Int32) (x3_69 : Int32) (h_69 : ss_Hp) : Option ss_Hp :=
  (mm_RR_countPart N this h_69).bind fun h2 =>
  (ss_gr h2 this 4 0).bind fun r3 =>
  (mm_T_isWell N r3 h2).bind fun v4 =>
  if v4 = 0 then
    mm_RR_readFact_j102 N wK this a1 h2
  else
    (ss_gr h2 this 4 0).bind fun r6 =>
    (mm_T_advance N r6 h2).bind fun h7 =>
    (mm_RR_readSum N this h7).bind fun h8 =>
    (mm_RR_emit N this ((-6 : Int32) - x3_69) h8).bind fun h9 =>
    mm_RR_readFact_j102 N wK this a1 h9
def mm_RR_readFact (N : Nat) (wK : Option Nat → Int32 → Int32 → ss_Hp → Option ss_Hp) (this : Option Nat) (a1 : Int32) (h : ss_Hp) : Option ss_Hp :=
  if ss_is h this 4 = true then
    (ss_gr h this 4 0).bind fun r10 =>
    (mm_T_isWord N r10 5 h).bind fun v11 =>
    if v11 = 0 then
      (ss_gr h this 4 0).bind fun r13 =>
      (mm_T_isSign N r13 (91 : Int32) h).bind fun v14 =>
      if v14 = 0 then
        (mm_RR_readSum N this h).bind fun h16 =>
        (ss_gr h16 this 4 0).bind fun r17 =>
        (mm_T_isWell N r17 h16).bind fun v18 =>
        if v18 = 0 then
          some h16
        else
          (ss_gr h16 this 4 0).bind fun r20 =>
          (mm_T_comparison N r20 h16).bind fun v21 =>
          if v21 = (-1 : Int32) then
            (ss_gr h16 this 4 0).bind fun r23 =>
            (mm_T_fail N r23 (0 : Int32) h16).bind fun h24 =>
            mm_RR_readFact_j69 N wK this a1 v21 h24
          else
            mm_RR_readFact_j69 N wK this a1 v21 h16
      else
        mm_RR_readFact_j26 N wK this a1 v11 h
    else
      mm_RR_readFact_j26 N wK this a1 v11 h
  else none
abbrev ww_RR_readFact (p : Program) (l : Launch) (e : Env) (s : State) (m : MethodId) (below : List Frame) (meth : Method) (c : Code) (G : ss_G) (kk : Nat) (this : Option Nat) (a1 : Int32) (h : ss_Hp) (hh : ss_Hp) (H : Heap) (locs : List Loc) (k n : Nat) (g : JFrame) : Prop := W p l e (headSpec (ss_w yy_RR_readFact bb_RR_readFact 4 none) ({ frames := 20 + 4 * kk, cells := 0, slots := 0, locals := 400 + 100 * kk })).room s m ([ss_v (ss_b G) this, .int a1] : List Value).toArray below meth c H locs k n (MQ below (ss_Qc G none hh) ([ss_v (ss_b G) this, .int a1] : List Value).toArray s 0 0 (ss_A G)) g
theorem ck_RR_readFact {N : Nat} {wK : Option Nat → Int32 → Int32 → ss_Hp → Option ss_Hp} {this : Option Nat} {a1 : Int32} {h : ss_Hp} {res : ss_Hp} (hm : mm_RR_readFact N wK this a1 h = some res) : ss_is h this 4 = true := (ss_chk hm).1
set_option maxHeartbeats 4000000 in
set_option maxRecDepth 100000 in
theorem cc_RR_readFact (l : Launch) (G : ss_G) (N : Nat) (wK : Option Nat → Int32 → Int32 → ss_Hp → Option ss_Hp) (kk : Nat) (hwK : ∀ (t : Option Nat) (d1 : Int32) (d2 : Int32) (g g1 : ss_Hp), wK t d1 d2 g = some g1 → ss_is g t 4 = true ∧ ss_Ct l G yy_RR_readWithin bb_RR_readWithin 3 none ({ frames := 19 + 4 * kk, cells := 0, slots := 0, locals := 370 + 100 * kk }) [ss_v (ss_b G) t, .int d1, .int d2] g none g1) (this : Option Nat) (a1 : Int32) (h : ss_Hp) (hh : ss_Hp) (hm : mm_RR_readFact N wK this a1 h = some hh) : ss_Ct l G yy_RR_readFact bb_RR_readFact 4 none ({ frames := 20 + 4 * kk, cells := 0, slots := 0, locals := 400 + 100 * kk }) [ss_v (ss_b G) this, .int a1] h none hh := by
  obtain ⟨hck, hm⟩ := ss_chk hm
  refine Met.ofW (cc := bb_RR_readFact) (maxL := 4) (ret := none) (by decide) rfl ?_
  intro p e s m args below meth c s₁ B hml hv
  obtain ⟨rfl, hR, hK⟩ := hv
  have hC : CallFix p m c bb_RR_readFact 4 s _ lw_g sR_4 := ⟨B.exec, B.bytes, hml, findClass_of_methodNamed B.named, fun w hw => atoms_spec (ws := ss_w yy_RR_readFact bb_RR_readFact 4 none) B.pre w (List.mem_cons_of_mem _ hw)⟩
  have hx := hC.1
  have hb := hC.2.1
  have hr := B.returns
  have hlocks := B.notSynchronized
  have hS : va_S (ss_A G) s.heap s.heap [] := va_S.rf
  have hl := lv_entry ([ss_v (ss_b G) this, .int a1]) (n := 4) (by simp [lg_sl, ss_v_cat, ss_cat_i, ss_cat_l, ss_cat_r])
  rw [lg_entry_eq]
  generalize (lg_sl ([ss_v (ss_b G) this, .int a1]) ++ List.replicate (4 - (lg_sl ([ss_v (ss_b G) this, .int a1])).length) Slot.unset).toArray = ls at hl ⊢
  have hl : lv_has ls 4 [(0, ss_v (ss_b G) this), (1, .int a1)] := by simpa [lv_args, ss_v_cat, ss_cat_i, ss_cat_l, ss_cat_r] using hl
  have J_26 : ∀ (x2_26 : Int32) (h_26 : ss_Hp) (H : Heap) (locs : List Loc) (ls : Array Slot), mm_RR_readFact_j26 N wK this a1 x2_26 h_26 = some hh → ss_R G h_26 H → va_S (ss_A G) s.heap H locs → lv_has ls 4 [(0, ss_v (ss_b G) this), (1, .int a1), (2, .int x2_26)] → ww_RR_readFact p l e s m below meth c G kk this a1 h hh  H locs 0 0 (F0 m 26 ls []) := by
    intro x2_26 h_26 H locs ls hm hR hS hl
    refine ss_aload_n hx hb dd_RR_readFact_26 rfl (lv_at hl 0 rfl) ?_
    refine lv_iload_n hx hb dd_RR_readFact_27 rfl (lv_at hl 1 rfl) ?_
    refine lv_iload_n hx hb dd_RR_readFact_28 rfl (lv_at hl 2 rfl) ?_
    obtain ⟨h1, qh1, hm⟩ := ss_bind hm
    refine ss_cVv 0 0 (As := [.int a1, .int x2_26]) hC hK hR hS hl.1 (hwK _ _ _ _ _ qh1).2 km_RR_89 (hwK _ _ _ _ _ qh1).1 ⟨(by first | exact Nat.le_of_ble_eq_true rfl | (dsimp only [headSpec]; omega)), (by first | exact Nat.le_of_ble_eq_true rfl | (dsimp only [headSpec]; omega))⟩ ⟨(by first | exact Nat.le_of_ble_eq_true rfl | (dsimp only [headSpec]; omega)), (by first | exact Nat.le_of_ble_eq_true rfl | (dsimp only [headSpec]; omega)), (by first | exact Nat.le_of_ble_eq_true rfl | (dsimp only [headSpec]; omega)), (by first | exact Nat.le_of_ble_eq_true rfl | (dsimp only [headSpec]; omega))⟩ rfl rfl (by first | exact Nat.le_of_ble_eq_true rfl | (dsimp only [headSpec]; omega)) dd_RR_readFact_29 (fun H locs hR hS => ?_)
    exact ss_vret hC hr hlocks hR hS hm dd_RR_readFact_32
  have J_102 : ∀ (h_102 : ss_Hp) (H : Heap) (locs : List Loc) (ls : Array Slot), mm_RR_readFact_j102 N wK this a1 h_102 = some hh → ss_R G h_102 H → va_S (ss_A G) s.heap H locs → lv_has ls 4 [] → ww_RR_readFact p l e s m below meth c G kk this a1 h hh  H locs 0 0 (F0 m 102 ls []) := by
    intro h_102 H locs ls hm hR hS hl
    exact ss_vret hC hr hlocks hR hS hm dd_RR_readFact_102
  have J_69 : ∀ (x3_69 : Int32) (h_69 : ss_Hp) (H : Heap) (locs : List Loc) (ls : Array Slot), mm_RR_readFact_j69 N wK this a1 x3_69 h_69 = some hh → ss_R G h_69 H → va_S (ss_A G) s.heap H locs → lv_has ls 4 [(0, ss_v (ss_b G) this), (3, .int x3_69)] → ww_RR_readFact p l e s m below meth c G kk this a1 h hh  H locs 0 0 (F0 m 69 ls []) := by
    intro x3_69 h_69 H locs ls hm hR hS hl
    refine ss_aload_n hx hb dd_RR_readFact_69 rfl (lv_at hl 0 rfl) ?_
    obtain ⟨h2, qh2, hm⟩ := ss_bind hm
    refine ss_cVv 0 0 (As := []) hC hK hR hS hl.1 (cc_RR_countPart l G N _ _ _ qh2) km_RR_97 (ck_RR_countPart qh2) ⟨(by first | exact Nat.le_of_ble_eq_true rfl | (dsimp only [headSpec]; omega)), (by first | exact Nat.le_of_ble_eq_true rfl | (dsimp only [headSpec]; omega))⟩ ⟨(by first | exact Nat.le_of_ble_eq_true rfl | (dsimp only [headSpec]; omega)), (by first | exact Nat.le_of_ble_eq_true rfl | (dsimp only [headSpec]; omega)), (by first | exact Nat.le_of_ble_eq_true rfl | (dsimp only [headSpec]; omega)), (by first | exact Nat.le_of_ble_eq_true rfl | (dsimp only [headSpec]; omega))⟩ rfl rfl (by first | exact Nat.le_of_ble_eq_true rfl | (dsimp only [headSpec]; omega)) dd_RR_readFact_70 (fun H locs hR hS => ?_)
    refine ss_aload_n hx hb dd_RR_readFact_73 rfl (lv_at hl 0 rfl) ?_
    obtain ⟨r3, qr3, hm⟩ := ss_bind hm
    refine ss_getr hC hK hR kf_RR_20 rfl qr3 dd_RR_readFact_74 ?_
    obtain ⟨v4, qv4, hm⟩ := ss_bind hm
    refine ss_cV 0 0 (As := []) hC hK hR hS hl.1 (cc_T_isWell l G N _ _ _ qv4) km_RR_47 (ck_T_isWell qv4) ⟨(by first | exact Nat.le_of_ble_eq_true rfl | (dsimp only [headSpec]; omega)), (by first | exact Nat.le_of_ble_eq_true rfl | (dsimp only [headSpec]; omega))⟩ ⟨(by first | exact Nat.le_of_ble_eq_true rfl | (dsimp only [headSpec]; omega)), (by first | exact Nat.le_of_ble_eq_true rfl | (dsimp only [headSpec]; omega)), (by first | exact Nat.le_of_ble_eq_true rfl | (dsimp only [headSpec]; omega)), (by first | exact Nat.le_of_ble_eq_true rfl | (dsimp only [headSpec]; omega))⟩ rfl rfl (by first | exact Nat.le_of_ble_eq_true rfl | (dsimp only [headSpec]; omega)) dd_RR_readFact_77 (fun H locs hR hS => ?_)
    refine lv_if_eq (tgt := 102) hx hb dd_RR_readFact_80 (by decide) (fun c5 => ?_) (fun c5 => ?_)
    · have hm := ss_ift hm c5
      exact J_102 h2 _ _ _ hm hR hS (lv_sub hl [] rfl)
    · have hm := ss_iff hm c5
      refine ss_aload_n hx hb dd_RR_readFact_83 rfl (lv_at hl 0 rfl) ?_
      obtain ⟨r6, qr6, hm⟩ := ss_bind hm
      refine ss_getr hC hK hR kf_RR_20 rfl qr6 dd_RR_readFact_84 ?_
      obtain ⟨h7, qh7, hm⟩ := ss_bind hm
      refine ss_cVv 0 0 (As := []) hC hK hR hS hl.1 (cc_T_advance l G N _ _ _ qh7) km_RR_41 (ck_T_advance qh7) ⟨(by first | exact Nat.le_of_ble_eq_true rfl | (dsimp only [headSpec]; omega)), (by first | exact Nat.le_of_ble_eq_true rfl | (dsimp only [headSpec]; omega))⟩ ⟨(by first | exact Nat.le_of_ble_eq_true rfl | (dsimp only [headSpec]; omega)), (by first | exact Nat.le_of_ble_eq_true rfl | (dsimp only [headSpec]; omega)), (by first | exact Nat.le_of_ble_eq_true rfl | (dsimp only [headSpec]; omega)), (by first | exact Nat.le_of_ble_eq_true rfl | (dsimp only [headSpec]; omega))⟩ rfl rfl (by first | exact Nat.le_of_ble_eq_true rfl | (dsimp only [headSpec]; omega)) dd_RR_readFact_87 (fun H locs hR hS => ?_)
      refine ss_aload_n hx hb dd_RR_readFact_90 rfl (lv_at hl 0 rfl) ?_
      obtain ⟨h8, qh8, hm⟩ := ss_bind hm
      refine ss_cVv 0 0 (As := []) hC hK hR hS hl.1 (cc_RR_readSum l G N _ _ _ qh8) km_RR_44 (ck_RR_readSum qh8) ⟨(by first | exact Nat.le_of_ble_eq_true rfl | (dsimp only [headSpec]; omega)), (by first | exact Nat.le_of_ble_eq_true rfl | (dsimp only [headSpec]; omega))⟩ ⟨(by first | exact Nat.le_of_ble_eq_true rfl | (dsimp only [headSpec]; omega)), (by first | exact Nat.le_of_ble_eq_true rfl | (dsimp only [headSpec]; omega)), (by first | exact Nat.le_of_ble_eq_true rfl | (dsimp only [headSpec]; omega)), (by first | exact Nat.le_of_ble_eq_true rfl | (dsimp only [headSpec]; omega))⟩ rfl rfl (by first | exact Nat.le_of_ble_eq_true rfl | (dsimp only [headSpec]; omega)) dd_RR_readFact_91 (fun H locs hR hS => ?_)
      refine ss_aload_n hx hb dd_RR_readFact_94 rfl (lv_at hl 0 rfl) ?_
      refine lv_bipush (v := -6) hx hb dd_RR_readFact_95 (by decide) ?_
      refine lv_iload_n hx hb dd_RR_readFact_97 rfl (lv_at hl 1 rfl) ?_
      refine lv_isub hx hb dd_RR_readFact_98 ?_
      obtain ⟨h9, qh9, hm⟩ := ss_bind hm
      refine ss_cVv 0 0 (As := [.int ((-6 : Int32) - x3_69)]) hC hK hR hS hl.1 (cc_RR_emit l G N _ _ _ _ qh9) km_RR_76 (ck_RR_emit qh9) ⟨(by first | exact Nat.le_of_ble_eq_true rfl | (dsimp only [headSpec]; omega)), (by first | exact Nat.le_of_ble_eq_true rfl | (dsimp only [headSpec]; omega))⟩ ⟨(by first | exact Nat.le_of_ble_eq_true rfl | (dsimp only [headSpec]; omega)), (by first | exact Nat.le_of_ble_eq_true rfl | (dsimp only [headSpec]; omega)), (by first | exact Nat.le_of_ble_eq_true rfl | (dsimp only [headSpec]; omega)), (by first | exact Nat.le_of_ble_eq_true rfl | (dsimp only [headSpec]; omega))⟩ rfl rfl (by first | exact Nat.le_of_ble_eq_true rfl | (dsimp only [headSpec]; omega)) dd_RR_readFact_99 (fun H locs hR hS => ?_)
      exact J_102 h9 _ _ _ hm hR hS (lv_sub hl [] rfl)
  refine ss_aload_n hx hb dd_RR_readFact_0 rfl (lv_at hl 0 rfl) ?_
  obtain ⟨r10, qr10, hm⟩ := ss_bind hm
  refine ss_getr hC hK hR kf_RR_20 rfl qr10 dd_RR_readFact_1 ?_
  refine va_ldcS hx hb hC.2.2.2.1 (ss_sr_5 hK) dd_RR_readFact_4 ?_
  obtain ⟨v11, qv11, hm⟩ := ss_bind hm
  refine ss_cV 0 0 (As := [.ref (G.2.2.2.1 5)]) hC hK hR hS hl.1 (cc_T_isWord l G N _ _ _ _ qv11) km_RR_52 (ck_T_isWord qv11) ⟨(by first | exact Nat.le_of_ble_eq_true rfl | (dsimp only [headSpec]; omega)), (by first | exact Nat.le_of_ble_eq_true rfl | (dsimp only [headSpec]; omega))⟩ ⟨(by first | exact Nat.le_of_ble_eq_true rfl | (dsimp only [headSpec]; omega)), (by first | exact Nat.le_of_ble_eq_true rfl | (dsimp only [headSpec]; omega)), (by first | exact Nat.le_of_ble_eq_true rfl | (dsimp only [headSpec]; omega)), (by first | exact Nat.le_of_ble_eq_true rfl | (dsimp only [headSpec]; omega))⟩ rfl rfl (by first | exact Nat.le_of_ble_eq_true rfl | (dsimp only [headSpec]; omega)) dd_RR_readFact_6 (fun H locs hR hS => ?_)
  refine lv_istore_n (lv' := [(2, .int v11), (0, ss_v (ss_b G) this), (1, .int a1)]) hx hb dd_RR_readFact_9 rfl hl (by decide) rfl (fun ls hl => ?_)
  refine lv_iload_n hx hb dd_RR_readFact_10 rfl (lv_at hl 0 rfl) ?_
  refine lv_if_ne (tgt := 26) hx hb dd_RR_readFact_11 (by decide) (fun c12 => ?_) (fun c12 => ?_)
  · have hm := ss_iff hm c12
    exact J_26 v11 h _ _ _ hm hR hS (lv_sub hl [1, 2, 0] rfl)
  · have hm := ss_ift hm c12
    refine ss_aload_n hx hb dd_RR_readFact_14 rfl (lv_at hl 1 rfl) ?_
    obtain ⟨r13, qr13, hm⟩ := ss_bind hm
    refine ss_getr hC hK hR kf_RR_20 rfl qr13 dd_RR_readFact_15 ?_
    refine lv_bipush (v := 91) hx hb dd_RR_readFact_18 (by decide) ?_
    obtain ⟨v14, qv14, hm⟩ := ss_bind hm
    refine ss_cV 0 0 (As := [.int (91 : Int32)]) hC hK hR hS hl.1 (cc_T_isSign l G N _ _ _ _ qv14) km_RR_85 (ck_T_isSign qv14) ⟨(by first | exact Nat.le_of_ble_eq_true rfl | (dsimp only [headSpec]; omega)), (by first | exact Nat.le_of_ble_eq_true rfl | (dsimp only [headSpec]; omega))⟩ ⟨(by first | exact Nat.le_of_ble_eq_true rfl | (dsimp only [headSpec]; omega)), (by first | exact Nat.le_of_ble_eq_true rfl | (dsimp only [headSpec]; omega)), (by first | exact Nat.le_of_ble_eq_true rfl | (dsimp only [headSpec]; omega)), (by first | exact Nat.le_of_ble_eq_true rfl | (dsimp only [headSpec]; omega))⟩ rfl rfl (by first | exact Nat.le_of_ble_eq_true rfl | (dsimp only [headSpec]; omega)) dd_RR_readFact_20 (fun H locs hR hS => ?_)
    refine lv_if_eq (tgt := 33) hx hb dd_RR_readFact_23 (by decide) (fun c15 => ?_) (fun c15 => ?_)
    · have hm := ss_ift hm c15
      refine ss_aload_n hx hb dd_RR_readFact_33 rfl (lv_at hl 1 rfl) ?_
      obtain ⟨h16, qh16, hm⟩ := ss_bind hm
      refine ss_cVv 0 0 (As := []) hC hK hR hS hl.1 (cc_RR_readSum l G N _ _ _ qh16) km_RR_44 (ck_RR_readSum qh16) ⟨(by first | exact Nat.le_of_ble_eq_true rfl | (dsimp only [headSpec]; omega)), (by first | exact Nat.le_of_ble_eq_true rfl | (dsimp only [headSpec]; omega))⟩ ⟨(by first | exact Nat.le_of_ble_eq_true rfl | (dsimp only [headSpec]; omega)), (by first | exact Nat.le_of_ble_eq_true rfl | (dsimp only [headSpec]; omega)), (by first | exact Nat.le_of_ble_eq_true rfl | (dsimp only [headSpec]; omega)), (by first | exact Nat.le_of_ble_eq_true rfl | (dsimp only [headSpec]; omega))⟩ rfl rfl (by first | exact Nat.le_of_ble_eq_true rfl | (dsimp only [headSpec]; omega)) dd_RR_readFact_34 (fun H locs hR hS => ?_)
      refine ss_aload_n hx hb dd_RR_readFact_37 rfl (lv_at hl 1 rfl) ?_
      obtain ⟨r17, qr17, hm⟩ := ss_bind hm
      refine ss_getr hC hK hR kf_RR_20 rfl qr17 dd_RR_readFact_38 ?_
      obtain ⟨v18, qv18, hm⟩ := ss_bind hm
      refine ss_cV 0 0 (As := []) hC hK hR hS hl.1 (cc_T_isWell l G N _ _ _ qv18) km_RR_47 (ck_T_isWell qv18) ⟨(by first | exact Nat.le_of_ble_eq_true rfl | (dsimp only [headSpec]; omega)), (by first | exact Nat.le_of_ble_eq_true rfl | (dsimp only [headSpec]; omega))⟩ ⟨(by first | exact Nat.le_of_ble_eq_true rfl | (dsimp only [headSpec]; omega)), (by first | exact Nat.le_of_ble_eq_true rfl | (dsimp only [headSpec]; omega)), (by first | exact Nat.le_of_ble_eq_true rfl | (dsimp only [headSpec]; omega)), (by first | exact Nat.le_of_ble_eq_true rfl | (dsimp only [headSpec]; omega))⟩ rfl rfl (by first | exact Nat.le_of_ble_eq_true rfl | (dsimp only [headSpec]; omega)) dd_RR_readFact_41 (fun H locs hR hS => ?_)
      refine lv_if_ne (tgt := 48) hx hb dd_RR_readFact_44 (by decide) (fun c19 => ?_) (fun c19 => ?_)
      · have hm := ss_iff hm c19
        refine ss_aload_n hx hb dd_RR_readFact_48 rfl (lv_at hl 1 rfl) ?_
        obtain ⟨r20, qr20, hm⟩ := ss_bind hm
        refine ss_getr hC hK hR kf_RR_20 rfl qr20 dd_RR_readFact_49 ?_
        obtain ⟨v21, qv21, hm⟩ := ss_bind hm
        refine ss_cV 0 0 (As := []) hC hK hR hS hl.1 (cc_T_comparison l G N _ _ _ qv21) km_RR_93 (ck_T_comparison qv21) ⟨(by first | exact Nat.le_of_ble_eq_true rfl | (dsimp only [headSpec]; omega)), (by first | exact Nat.le_of_ble_eq_true rfl | (dsimp only [headSpec]; omega))⟩ ⟨(by first | exact Nat.le_of_ble_eq_true rfl | (dsimp only [headSpec]; omega)), (by first | exact Nat.le_of_ble_eq_true rfl | (dsimp only [headSpec]; omega)), (by first | exact Nat.le_of_ble_eq_true rfl | (dsimp only [headSpec]; omega)), (by first | exact Nat.le_of_ble_eq_true rfl | (dsimp only [headSpec]; omega))⟩ rfl rfl (by first | exact Nat.le_of_ble_eq_true rfl | (dsimp only [headSpec]; omega)) dd_RR_readFact_52 (fun H locs hR hS => ?_)
        refine lv_istore_n (lv' := [(3, .int v21), (2, .int v11), (0, ss_v (ss_b G) this), (1, .int a1)]) hx hb dd_RR_readFact_55 rfl hl (by decide) rfl (fun ls hl => ?_)
        refine lv_iload_n hx hb dd_RR_readFact_56 rfl (lv_at hl 0 rfl) ?_
        refine lv_iconst (v := -1) hx hb dd_RR_readFact_57 (by decide) ?_
        refine lv_icmp_ne (tgt := 69) hx hb dd_RR_readFact_58 (by decide) (fun c22 => ?_) (fun c22 => ?_)
        · have hm := ss_iff hm c22
          exact J_69 v21 h16 _ _ _ hm hR hS (lv_sub hl [2, 0] rfl)
        · have hm := ss_ift hm c22
          refine ss_aload_n hx hb dd_RR_readFact_61 rfl (lv_at hl 2 rfl) ?_
          obtain ⟨r23, qr23, hm⟩ := ss_bind hm
          refine ss_getr hC hK hR kf_RR_20 rfl qr23 dd_RR_readFact_62 ?_
          refine lv_iconst (v := 0) hx hb dd_RR_readFact_65 (by decide) ?_
          obtain ⟨h24, qh24, hm⟩ := ss_bind hm
          refine ss_cVv 0 0 (As := [.int (0 : Int32)]) hC hK hR hS hl.1 (cc_T_fail l G N _ _ _ _ qh24) km_RR_70 (ck_T_fail qh24) ⟨(by first | exact Nat.le_of_ble_eq_true rfl | (dsimp only [headSpec]; omega)), (by first | exact Nat.le_of_ble_eq_true rfl | (dsimp only [headSpec]; omega))⟩ ⟨(by first | exact Nat.le_of_ble_eq_true rfl | (dsimp only [headSpec]; omega)), (by first | exact Nat.le_of_ble_eq_true rfl | (dsimp only [headSpec]; omega)), (by first | exact Nat.le_of_ble_eq_true rfl | (dsimp only [headSpec]; omega)), (by first | exact Nat.le_of_ble_eq_true rfl | (dsimp only [headSpec]; omega))⟩ rfl rfl (by first | exact Nat.le_of_ble_eq_true rfl | (dsimp only [headSpec]; omega)) dd_RR_readFact_66 (fun H locs hR hS => ?_)
          exact J_69 v21 h24 _ _ _ hm hR hS (lv_sub hl [2, 0] rfl)
      · have hm := ss_ift hm c19
        exact ss_vret hC hr hlocks hR hS hm dd_RR_readFact_47
    · have hm := ss_iff hm c15
      exact J_26 v11 h _ _ _ hm hR hS (lv_sub hl [1, 2, 0] rfl)
theorem dd_RR_readTest_0 : decode bb_RR_readTest 0 = .ok (.iconst 0, 1) := by decide +kernel
theorem dd_RR_readTest_1 : decode bb_RR_readTest 1 = .ok (.istore_n 2, 1) := by decide +kernel
theorem dd_RR_readTest_2 : decode bb_RR_readTest 2 = .ok (.iconst 0, 1) := by decide +kernel
theorem dd_RR_readTest_3 : decode bb_RR_readTest 3 = .ok (.istore_n 3, 1) := by decide +kernel
theorem dd_RR_readTest_4 : decode bb_RR_readTest 4 = .ok (.iconst 0, 1) := by decide +kernel
theorem dd_RR_readTest_5 : decode bb_RR_readTest 5 = .ok (.istore 4, 2) := by decide +kernel
theorem dd_RR_readTest_7 : decode bb_RR_readTest 7 = .ok (.iload 4, 2) := by decide +kernel
theorem dd_RR_readTest_9 : decode bb_RR_readTest 9 = .ok (.sipush 400, 3) := by decide +kernel
theorem dd_RR_readTest_12 : decode bb_RR_readTest 12 = .ok (.if_icmp .ge 80, 3) := by decide +kernel
theorem dd_RR_readTest_15 : decode bb_RR_readTest 15 = .ok (.aload_n 0, 1) := by decide +kernel
theorem dd_RR_readTest_16 : decode bb_RR_readTest 16 = .ok (.getfield 20, 3) := by decide +kernel
theorem dd_RR_readTest_19 : decode bb_RR_readTest 19 = .ok (.invokevirtual 47, 3) := by decide +kernel
theorem dd_RR_readTest_22 : decode bb_RR_readTest 22 = .ok (.ifCond .eq 70, 3) := by decide +kernel
theorem dd_RR_readTest_25 : decode bb_RR_readTest 25 = .ok (.aload_n 0, 1) := by decide +kernel
theorem dd_RR_readTest_26 : decode bb_RR_readTest 26 = .ok (.iload_n 1, 1) := by decide +kernel
theorem dd_RR_readTest_27 : decode bb_RR_readTest 27 = .ok (.invokevirtual 73, 3) := by decide +kernel
theorem dd_RR_readTest_30 : decode bb_RR_readTest 30 = .ok (.iload_n 3, 1) := by decide +kernel
theorem dd_RR_readTest_31 : decode bb_RR_readTest 31 = .ok (.ifCond .eq 9, 3) := by decide +kernel
theorem dd_RR_readTest_34 : decode bb_RR_readTest 34 = .ok (.aload_n 0, 1) := by decide +kernel
theorem dd_RR_readTest_35 : decode bb_RR_readTest 35 = .ok (.bipush (-11), 2) := by decide +kernel
theorem dd_RR_readTest_37 : decode bb_RR_readTest 37 = .ok (.invokevirtual 76, 3) := by decide +kernel
theorem dd_RR_readTest_40 : decode bb_RR_readTest 40 = .ok (.aload_n 0, 1) := by decide +kernel
theorem dd_RR_readTest_41 : decode bb_RR_readTest 41 = .ok (.getfield 20, 3) := by decide +kernel
theorem dd_RR_readTest_44 : decode bb_RR_readTest 44 = .ok (.ldc 79, 2) := by decide +kernel
theorem dd_RR_readTest_46 : decode bb_RR_readTest 46 = .ok (.invokevirtual 52, 3) := by decide +kernel
theorem dd_RR_readTest_49 : decode bb_RR_readTest 49 = .ok (.istore_n 3, 1) := by decide +kernel
theorem dd_RR_readTest_50 : decode bb_RR_readTest 50 = .ok (.iload_n 3, 1) := by decide +kernel
theorem dd_RR_readTest_51 : decode bb_RR_readTest 51 = .ok (.ifCond .ne 28, 3) := by decide +kernel
theorem dd_RR_readTest_54 : decode bb_RR_readTest 54 = .ok (.iload_n 2, 1) := by decide +kernel
theorem dd_RR_readTest_55 : decode bb_RR_readTest 55 = .ok (.ifCond .eq 9, 3) := by decide +kernel
theorem dd_RR_readTest_58 : decode bb_RR_readTest 58 = .ok (.aload_n 0, 1) := by decide +kernel
theorem dd_RR_readTest_59 : decode bb_RR_readTest 59 = .ok (.bipush (-12), 2) := by decide +kernel
theorem dd_RR_readTest_61 : decode bb_RR_readTest 61 = .ok (.invokevirtual 76, 3) := by decide +kernel
theorem dd_RR_readTest_64 : decode bb_RR_readTest 64 = .ok (.aload_n 0, 1) := by decide +kernel
theorem dd_RR_readTest_65 : decode bb_RR_readTest 65 = .ok (.getfield 20, 3) := by decide +kernel
theorem dd_RR_readTest_68 : decode bb_RR_readTest 68 = .ok (.ldc 81, 2) := by decide +kernel
theorem dd_RR_readTest_70 : decode bb_RR_readTest 70 = .ok (.invokevirtual 52, 3) := by decide +kernel
theorem dd_RR_readTest_73 : decode bb_RR_readTest 73 = .ok (.istore_n 2, 1) := by decide +kernel
theorem dd_RR_readTest_74 : decode bb_RR_readTest 74 = .ok (.iload_n 2, 1) := by decide +kernel
theorem dd_RR_readTest_75 : decode bb_RR_readTest 75 = .ok (.ifCond .ne 4, 3) := by decide +kernel
theorem dd_RR_readTest_78 : decode bb_RR_readTest 78 = .ok (.return_, 1) := by decide +kernel
theorem dd_RR_readTest_79 : decode bb_RR_readTest 79 = .ok (.aload_n 0, 1) := by decide +kernel
theorem dd_RR_readTest_80 : decode bb_RR_readTest 80 = .ok (.getfield 20, 3) := by decide +kernel
theorem dd_RR_readTest_83 : decode bb_RR_readTest 83 = .ok (.invokevirtual 41, 3) := by decide +kernel
theorem dd_RR_readTest_86 : decode bb_RR_readTest 86 = .ok (.iinc 4 1, 3) := by decide +kernel
theorem dd_RR_readTest_89 : decode bb_RR_readTest 89 = .ok (.goto (-82), 3) := by decide +kernel
theorem dd_RR_readTest_92 : decode bb_RR_readTest 92 = .ok (.return_, 1) := by decide +kernel
def mm_RR_readTest_j79 (N : Nat) (fK : Option Nat → Int32 → ss_Hp → Option ss_Hp) (this : Option Nat) (a1 : Int32) (x2_79 : Int32) (x3_79 : Int32) (x4_79 : Int32) (h_79 : ss_Hp) : Option ((Int32 × Int32 × Int32 × ss_Hp) ⊕ (ss_Hp ⊕ ss_Hp)) :=
  (ss_gr h_79 this 4 0).bind fun r1 =>
  (mm_T_advance N r1 h_79).bind fun h2 =>
  (some (x4_79 + (1 : Int32))).bind fun v3 =>
  some (.inl (x2_79, x3_79, v3, h2))
def mm_RR_readTest_j64 (N : Nat) (fK : Option Nat → Int32 → ss_Hp → Option ss_Hp) (this : Option Nat) (a1 : Int32) (x3_64 : Int32) (x4_64 : Int32) (h_64 : ss_Hp) : Option ((Int32 × Int32 × Int32 × ss_Hp) ⊕ (ss_Hp ⊕ ss_Hp)) :=
  (ss_gr h_64 this 4 0).bind fun r4 =>
  (mm_T_isWord N r4 8 h_64).bind fun v5 =>
  if v5 = 0 then
    some (.inr (.inr h_64))
  else
    mm_RR_readTest_j79 N fK this a1 v5 x3_64 x4_64 h_64
def mm_RR_readTest_j40 (N : Nat) (fK : Option Nat → Int32 → ss_Hp → Option ss_Hp) (this : Option Nat) (a1 : Int32) (x2_40 : Int32) (x4_40 : Int32) (h_40 : ss_Hp) : Option ((Int32 × Int32 × Int32 × ss_Hp) ⊕ (ss_Hp ⊕ ss_Hp)) :=
  (ss_gr h_40 this 4 0).bind fun r7 =>
  (mm_T_isWord N r7 7 h_40).bind fun v8 =>
  if v8 = 0 then
    if x2_40 = 0 then
      mm_RR_readTest_j64 N fK this a1 v8 x4_40 h_40
    else
      (mm_RR_emit N this (-12 : Int32) h_40).bind fun h11 =>
      mm_RR_readTest_j64 N fK this a1 v8 x4_40 h11
  else
    mm_RR_readTest_j79 N fK this a1 x2_40 v8 x4_40 h_40
def mm_RR_readTest_b7 (N : Nat) (fK : Option Nat → Int32 → ss_Hp → Option ss_Hp) (this : Option Nat) (a1 : Int32) (st : Int32 × Int32 × Int32 × ss_Hp) : Option ((Int32 × Int32 × Int32 × ss_Hp) ⊕ (ss_Hp ⊕ ss_Hp)) :=
  match st with
  | (x2_7, x3_7, x4_7, h_7) =>
    if (400 : Int32) ≤ x4_7 then
      some (.inr (.inl h_7))
    else
      (ss_gr h_7 this 4 0).bind fun r13 =>
      (mm_T_isWell N r13 h_7).bind fun v14 =>
      if v14 = 0 then
        some (.inr (.inl h_7))
      else
        (fK this a1 h_7).bind fun h16 =>
        if x3_7 = 0 then
          mm_RR_readTest_j40 N fK this a1 x2_7 x4_7 h16
        else
          (mm_RR_emit N this (-11 : Int32) h16).bind fun h18 =>
          mm_RR_readTest_j40 N fK this a1 x2_7 x4_7 h18
def mm_RR_readTest (N : Nat) (fK : Option Nat → Int32 → ss_Hp → Option ss_Hp) (this : Option Nat) (a1 : Int32) (h : ss_Hp) : Option ss_Hp :=
  if ss_is h this 4 = true then
    (ss_lp (mm_RR_readTest_b7 N fK this a1) N ((0 : Int32), (0 : Int32), (0 : Int32), h)).bind fun e_7 =>
    match e_7 with
    | (.inl h_7_92) =>
      some h_7_92
    | (.inr h_7_78) =>
      some h_7_78
  else none
abbrev ww_RR_readTest (p : Program) (l : Launch) (e : Env) (s : State) (m : MethodId) (below : List Frame) (meth : Method) (c : Code) (G : ss_G) (kk : Nat) (this : Option Nat) (a1 : Int32) (h : ss_Hp) (hh : ss_Hp) (H : Heap) (locs : List Loc) (k n : Nat) (g : JFrame) : Prop := W p l e (headSpec (ss_w yy_RR_readTest bb_RR_readTest 5 none) ({ frames := 21 + 4 * kk, cells := 0, slots := 0, locals := 430 + 100 * kk })).room s m ([ss_v (ss_b G) this, .int a1] : List Value).toArray below meth c H locs k n (MQ below (ss_Qc G none hh) ([ss_v (ss_b G) this, .int a1] : List Value).toArray s 0 0 (ss_A G)) g
theorem ck_RR_readTest {N : Nat} {fK : Option Nat → Int32 → ss_Hp → Option ss_Hp} {this : Option Nat} {a1 : Int32} {h : ss_Hp} {res : ss_Hp} (hm : mm_RR_readTest N fK this a1 h = some res) : ss_is h this 4 = true := (ss_chk hm).1
set_option maxHeartbeats 4000000 in
set_option maxRecDepth 100000 in
theorem cc_RR_readTest (l : Launch) (G : ss_G) (N : Nat) (fK : Option Nat → Int32 → ss_Hp → Option ss_Hp) (kk : Nat) (hfK : ∀ (t : Option Nat) (d1 : Int32) (g g1 : ss_Hp), fK t d1 g = some g1 → ss_is g t 4 = true ∧ ss_Ct l G yy_RR_readFact bb_RR_readFact 4 none ({ frames := 20 + 4 * kk, cells := 0, slots := 0, locals := 400 + 100 * kk }) [ss_v (ss_b G) t, .int d1] g none g1) (this : Option Nat) (a1 : Int32) (h : ss_Hp) (hh : ss_Hp) (hm : mm_RR_readTest N fK this a1 h = some hh) : ss_Ct l G yy_RR_readTest bb_RR_readTest 5 none ({ frames := 21 + 4 * kk, cells := 0, slots := 0, locals := 430 + 100 * kk }) [ss_v (ss_b G) this, .int a1] h none hh := by
  obtain ⟨hck, hm⟩ := ss_chk hm
  refine Met.ofW (cc := bb_RR_readTest) (maxL := 5) (ret := none) (by decide) rfl ?_
  intro p e s m args below meth c s₁ B hml hv
  obtain ⟨rfl, hR, hK⟩ := hv
  have hC : CallFix p m c bb_RR_readTest 5 s _ lw_g sR_4 := ⟨B.exec, B.bytes, hml, findClass_of_methodNamed B.named, fun w hw => atoms_spec (ws := ss_w yy_RR_readTest bb_RR_readTest 5 none) B.pre w (List.mem_cons_of_mem _ hw)⟩
  have hx := hC.1
  have hb := hC.2.1
  have hr := B.returns
  have hlocks := B.notSynchronized
  have hS : va_S (ss_A G) s.heap s.heap [] := va_S.rf
  have hl := lv_entry ([ss_v (ss_b G) this, .int a1]) (n := 5) (by simp [lg_sl, ss_v_cat, ss_cat_i, ss_cat_l, ss_cat_r])
  rw [lg_entry_eq]
  generalize (lg_sl ([ss_v (ss_b G) this, .int a1]) ++ List.replicate (5 - (lg_sl ([ss_v (ss_b G) this, .int a1])).length) Slot.unset).toArray = ls at hl ⊢
  have hl : lv_has ls 5 [(0, ss_v (ss_b G) this), (1, .int a1)] := by simpa [lv_args, ss_v_cat, ss_cat_i, ss_cat_l, ss_cat_r] using hl
  refine lv_iconst (v := 0) hx hb dd_RR_readTest_0 (by decide) ?_
  refine lv_istore_n (lv' := [(2, .int (0 : Int32)), (0, ss_v (ss_b G) this), (1, .int a1)]) hx hb dd_RR_readTest_1 rfl hl (by decide) rfl (fun ls hl => ?_)
  refine lv_iconst (v := 0) hx hb dd_RR_readTest_2 (by decide) ?_
  refine lv_istore_n (lv' := [(3, .int (0 : Int32)), (2, .int (0 : Int32)), (0, ss_v (ss_b G) this), (1, .int a1)]) hx hb dd_RR_readTest_3 rfl hl (by decide) rfl (fun ls hl => ?_)
  refine lv_iconst (v := 0) hx hb dd_RR_readTest_4 (by decide) ?_
  refine lv_istore (lv' := [(4, .int (0 : Int32)), (3, .int (0 : Int32)), (2, .int (0 : Int32)), (0, ss_v (ss_b G) this), (1, .int a1)]) hx hb dd_RR_readTest_5 hl (by decide) rfl (fun ls hl => ?_)
  obtain ⟨e_7, he_7, hm⟩ := ss_bind hm
  have X_7_92 : ∀  (h_7_92 : ss_Hp) (H : Heap) (locs : List Loc) (ls : Array Slot), e_7 = (.inl h_7_92) → ss_R G h_7_92 H → va_S (ss_A G) s.heap H locs → lv_has ls 5 [] → ww_RR_readTest p l e s m below meth c G kk this a1 h hh  H locs 0 0 (F0 m 92 ls []) := by
    intro h_7_92 H locs ls hq hR hS hl
    rw [hq] at hm
    exact ss_vret hC hr hlocks hR hS hm dd_RR_readTest_92
  have X_7_78 : ∀  (h_7_78 : ss_Hp) (H : Heap) (locs : List Loc) (ls : Array Slot), e_7 = (.inr h_7_78) → ss_R G h_7_78 H → va_S (ss_A G) s.heap H locs → lv_has ls 5 [] → ww_RR_readTest p l e s m below meth c G kk this a1 h hh  H locs 0 0 (F0 m 78 ls []) := by
    intro h_7_78 H locs ls hq hR hS hl
    rw [hq] at hm
    exact ss_vret hC hr hlocks hR hS hm dd_RR_readTest_78
  have L_7 : ∀ (n : Nat) (x2_7 : Int32) (x3_7 : Int32) (x4_7 : Int32) (h_7 : ss_Hp) (H : Heap) (locs : List Loc) (ls : Array Slot), ss_lp (mm_RR_readTest_b7 N fK this a1) n (x2_7, x3_7, x4_7, h_7) = some e_7 → ss_R G h_7 H → va_S (ss_A G) s.heap H locs → lv_has ls 5 [(0, ss_v (ss_b G) this), (1, .int a1), (2, .int x2_7), (3, .int x3_7), (4, .int x4_7)] → ww_RR_readTest p l e s m below meth c G kk this a1 h hh  H locs 0 0 (F0 m 7 ls []) := by
    intro n
    induction n with
    | zero => intro x2_7 x3_7 x4_7 h_7 H locs ls hm; cases hm
    | succ n ih_7 =>
      intro x2_7 x3_7 x4_7 h_7 H locs ls hm hR hS hl
      obtain ⟨z_7, hm, hz1_7, hz2_7⟩ := ss_lps hm
      have J_79 : ∀ (x2_79 : Int32) (x3_79 : Int32) (x4_79 : Int32) (h_79 : ss_Hp) (H : Heap) (locs : List Loc) (ls : Array Slot), mm_RR_readTest_j79 N fK this a1 x2_79 x3_79 x4_79 h_79 = some z_7 → ss_R G h_79 H → va_S (ss_A G) s.heap H locs → lv_has ls 5 [(0, ss_v (ss_b G) this), (1, .int a1), (2, .int x2_79), (3, .int x3_79), (4, .int x4_79)] → ww_RR_readTest p l e s m below meth c G kk this a1 h hh  H locs 0 0 (F0 m 79 ls []) := by
        intro x2_79 x3_79 x4_79 h_79 H locs ls hm hR hS hl
        refine ss_aload_n hx hb dd_RR_readTest_79 rfl (lv_at hl 0 rfl) ?_
        obtain ⟨r1, qr1, hm⟩ := ss_bind hm
        refine ss_getr hC hK hR kf_RR_20 rfl qr1 dd_RR_readTest_80 ?_
        obtain ⟨h2, qh2, hm⟩ := ss_bind hm
        refine ss_cVv 0 0 (As := []) hC hK hR hS hl.1 (cc_T_advance l G N _ _ _ qh2) km_RR_41 (ck_T_advance qh2) ⟨(by first | exact Nat.le_of_ble_eq_true rfl | (dsimp only [headSpec]; omega)), (by first | exact Nat.le_of_ble_eq_true rfl | (dsimp only [headSpec]; omega))⟩ ⟨(by first | exact Nat.le_of_ble_eq_true rfl | (dsimp only [headSpec]; omega)), (by first | exact Nat.le_of_ble_eq_true rfl | (dsimp only [headSpec]; omega)), (by first | exact Nat.le_of_ble_eq_true rfl | (dsimp only [headSpec]; omega)), (by first | exact Nat.le_of_ble_eq_true rfl | (dsimp only [headSpec]; omega))⟩ rfl rfl (by first | exact Nat.le_of_ble_eq_true rfl | (dsimp only [headSpec]; omega)) dd_RR_readTest_83 (fun H locs hR hS => ?_)
        obtain ⟨v3, qv3, hm⟩ := ss_bind hm
        refine lv_iinc (v := v3) (lv' := [(4, .int v3), (0, ss_v (ss_b G) this), (1, .int a1), (2, .int x2_79), (3, .int x3_79)]) hx hb dd_RR_readTest_86 hl (k := 4) rfl (ss_inc (by decide) qv3) (by decide) rfl (fun ls hl => ?_)
        refine lv_goto (tgt := 7) hx hb dd_RR_readTest_89 (by decide) ?_
        exact ih_7 x2_79 x3_79 v3 h2 _ _ _ (hz1_7 _ (ss_some hm)) hR hS (lv_sub hl [1, 2, 3, 4, 0] rfl)
      have J_64 : ∀ (x3_64 : Int32) (x4_64 : Int32) (h_64 : ss_Hp) (H : Heap) (locs : List Loc) (ls : Array Slot), mm_RR_readTest_j64 N fK this a1 x3_64 x4_64 h_64 = some z_7 → ss_R G h_64 H → va_S (ss_A G) s.heap H locs → lv_has ls 5 [(0, ss_v (ss_b G) this), (1, .int a1), (3, .int x3_64), (4, .int x4_64)] → ww_RR_readTest p l e s m below meth c G kk this a1 h hh  H locs 0 0 (F0 m 64 ls []) := by
        intro x3_64 x4_64 h_64 H locs ls hm hR hS hl
        refine ss_aload_n hx hb dd_RR_readTest_64 rfl (lv_at hl 0 rfl) ?_
        obtain ⟨r4, qr4, hm⟩ := ss_bind hm
        refine ss_getr hC hK hR kf_RR_20 rfl qr4 dd_RR_readTest_65 ?_
        refine va_ldcS hx hb hC.2.2.2.1 (ss_sr_8 hK) dd_RR_readTest_68 ?_
        obtain ⟨v5, qv5, hm⟩ := ss_bind hm
        refine ss_cV 0 0 (As := [.ref (G.2.2.2.1 8)]) hC hK hR hS hl.1 (cc_T_isWord l G N _ _ _ _ qv5) km_RR_52 (ck_T_isWord qv5) ⟨(by first | exact Nat.le_of_ble_eq_true rfl | (dsimp only [headSpec]; omega)), (by first | exact Nat.le_of_ble_eq_true rfl | (dsimp only [headSpec]; omega))⟩ ⟨(by first | exact Nat.le_of_ble_eq_true rfl | (dsimp only [headSpec]; omega)), (by first | exact Nat.le_of_ble_eq_true rfl | (dsimp only [headSpec]; omega)), (by first | exact Nat.le_of_ble_eq_true rfl | (dsimp only [headSpec]; omega)), (by first | exact Nat.le_of_ble_eq_true rfl | (dsimp only [headSpec]; omega))⟩ rfl rfl (by first | exact Nat.le_of_ble_eq_true rfl | (dsimp only [headSpec]; omega)) dd_RR_readTest_70 (fun H locs hR hS => ?_)
        refine lv_istore_n (lv' := [(2, .int v5), (0, ss_v (ss_b G) this), (1, .int a1), (3, .int x3_64), (4, .int x4_64)]) hx hb dd_RR_readTest_73 rfl hl (by decide) rfl (fun ls hl => ?_)
        refine lv_iload_n hx hb dd_RR_readTest_74 rfl (lv_at hl 0 rfl) ?_
        refine lv_if_ne (tgt := 79) hx hb dd_RR_readTest_75 (by decide) (fun c6 => ?_) (fun c6 => ?_)
        · have hm := ss_iff hm c6
          exact J_79 v5 x3_64 x4_64 h_64 _ _ _ hm hR hS (lv_sub hl [1, 2, 0, 3, 4] rfl)
        · have hm := ss_ift hm c6
          exact X_7_78 h_64 _ _ _ (hz2_7 _ (ss_some hm)) hR hS (lv_sub hl [] rfl)
      have J_40 : ∀ (x2_40 : Int32) (x4_40 : Int32) (h_40 : ss_Hp) (H : Heap) (locs : List Loc) (ls : Array Slot), mm_RR_readTest_j40 N fK this a1 x2_40 x4_40 h_40 = some z_7 → ss_R G h_40 H → va_S (ss_A G) s.heap H locs → lv_has ls 5 [(0, ss_v (ss_b G) this), (1, .int a1), (2, .int x2_40), (4, .int x4_40)] → ww_RR_readTest p l e s m below meth c G kk this a1 h hh  H locs 0 0 (F0 m 40 ls []) := by
        intro x2_40 x4_40 h_40 H locs ls hm hR hS hl
        refine ss_aload_n hx hb dd_RR_readTest_40 rfl (lv_at hl 0 rfl) ?_
        obtain ⟨r7, qr7, hm⟩ := ss_bind hm
        refine ss_getr hC hK hR kf_RR_20 rfl qr7 dd_RR_readTest_41 ?_
        refine va_ldcS hx hb hC.2.2.2.1 (ss_sr_7 hK) dd_RR_readTest_44 ?_
        obtain ⟨v8, qv8, hm⟩ := ss_bind hm
        refine ss_cV 0 0 (As := [.ref (G.2.2.2.1 7)]) hC hK hR hS hl.1 (cc_T_isWord l G N _ _ _ _ qv8) km_RR_52 (ck_T_isWord qv8) ⟨(by first | exact Nat.le_of_ble_eq_true rfl | (dsimp only [headSpec]; omega)), (by first | exact Nat.le_of_ble_eq_true rfl | (dsimp only [headSpec]; omega))⟩ ⟨(by first | exact Nat.le_of_ble_eq_true rfl | (dsimp only [headSpec]; omega)), (by first | exact Nat.le_of_ble_eq_true rfl | (dsimp only [headSpec]; omega)), (by first | exact Nat.le_of_ble_eq_true rfl | (dsimp only [headSpec]; omega)), (by first | exact Nat.le_of_ble_eq_true rfl | (dsimp only [headSpec]; omega))⟩ rfl rfl (by first | exact Nat.le_of_ble_eq_true rfl | (dsimp only [headSpec]; omega)) dd_RR_readTest_46 (fun H locs hR hS => ?_)
        refine lv_istore_n (lv' := [(3, .int v8), (0, ss_v (ss_b G) this), (1, .int a1), (2, .int x2_40), (4, .int x4_40)]) hx hb dd_RR_readTest_49 rfl hl (by decide) rfl (fun ls hl => ?_)
        refine lv_iload_n hx hb dd_RR_readTest_50 rfl (lv_at hl 0 rfl) ?_
        refine lv_if_ne (tgt := 79) hx hb dd_RR_readTest_51 (by decide) (fun c9 => ?_) (fun c9 => ?_)
        · have hm := ss_iff hm c9
          exact J_79 x2_40 v8 x4_40 h_40 _ _ _ hm hR hS (lv_sub hl [1, 2, 3, 0, 4] rfl)
        · have hm := ss_ift hm c9
          refine lv_iload_n hx hb dd_RR_readTest_54 rfl (lv_at hl 3 rfl) ?_
          refine lv_if_eq (tgt := 64) hx hb dd_RR_readTest_55 (by decide) (fun c10 => ?_) (fun c10 => ?_)
          · have hm := ss_ift hm c10
            exact J_64 v8 x4_40 h_40 _ _ _ hm hR hS (lv_sub hl [1, 2, 0, 4] rfl)
          · have hm := ss_iff hm c10
            refine ss_aload_n hx hb dd_RR_readTest_58 rfl (lv_at hl 1 rfl) ?_
            refine lv_bipush (v := -12) hx hb dd_RR_readTest_59 (by decide) ?_
            obtain ⟨h11, qh11, hm⟩ := ss_bind hm
            refine ss_cVv 0 0 (As := [.int (-12 : Int32)]) hC hK hR hS hl.1 (cc_RR_emit l G N _ _ _ _ qh11) km_RR_76 (ck_RR_emit qh11) ⟨(by first | exact Nat.le_of_ble_eq_true rfl | (dsimp only [headSpec]; omega)), (by first | exact Nat.le_of_ble_eq_true rfl | (dsimp only [headSpec]; omega))⟩ ⟨(by first | exact Nat.le_of_ble_eq_true rfl | (dsimp only [headSpec]; omega)), (by first | exact Nat.le_of_ble_eq_true rfl | (dsimp only [headSpec]; omega)), (by first | exact Nat.le_of_ble_eq_true rfl | (dsimp only [headSpec]; omega)), (by first | exact Nat.le_of_ble_eq_true rfl | (dsimp only [headSpec]; omega))⟩ rfl rfl (by first | exact Nat.le_of_ble_eq_true rfl | (dsimp only [headSpec]; omega)) dd_RR_readTest_61 (fun H locs hR hS => ?_)
            exact J_64 v8 x4_40 h11 _ _ _ hm hR hS (lv_sub hl [1, 2, 0, 4] rfl)
      refine lv_iload hx hb dd_RR_readTest_7 (lv_at hl 4 rfl) ?_
      refine lv_sipush (v := 400) hx hb dd_RR_readTest_9 (by decide) ?_
      refine lv_icmp_ge (tgt := 92) hx hb dd_RR_readTest_12 (by decide) (fun c12 => ?_) (fun c12 => ?_)
      · have hm := ss_ift hm c12
        exact X_7_92 h_7 _ _ _ (hz2_7 _ (ss_some hm)) hR hS (lv_sub hl [] rfl)
      · have hm := ss_iff hm c12
        refine ss_aload_n hx hb dd_RR_readTest_15 rfl (lv_at hl 0 rfl) ?_
        obtain ⟨r13, qr13, hm⟩ := ss_bind hm
        refine ss_getr hC hK hR kf_RR_20 rfl qr13 dd_RR_readTest_16 ?_
        obtain ⟨v14, qv14, hm⟩ := ss_bind hm
        refine ss_cV 0 0 (As := []) hC hK hR hS hl.1 (cc_T_isWell l G N _ _ _ qv14) km_RR_47 (ck_T_isWell qv14) ⟨(by first | exact Nat.le_of_ble_eq_true rfl | (dsimp only [headSpec]; omega)), (by first | exact Nat.le_of_ble_eq_true rfl | (dsimp only [headSpec]; omega))⟩ ⟨(by first | exact Nat.le_of_ble_eq_true rfl | (dsimp only [headSpec]; omega)), (by first | exact Nat.le_of_ble_eq_true rfl | (dsimp only [headSpec]; omega)), (by first | exact Nat.le_of_ble_eq_true rfl | (dsimp only [headSpec]; omega)), (by first | exact Nat.le_of_ble_eq_true rfl | (dsimp only [headSpec]; omega))⟩ rfl rfl (by first | exact Nat.le_of_ble_eq_true rfl | (dsimp only [headSpec]; omega)) dd_RR_readTest_19 (fun H locs hR hS => ?_)
        refine lv_if_eq (tgt := 92) hx hb dd_RR_readTest_22 (by decide) (fun c15 => ?_) (fun c15 => ?_)
        · have hm := ss_ift hm c15
          exact X_7_92 h_7 _ _ _ (hz2_7 _ (ss_some hm)) hR hS (lv_sub hl [] rfl)
        · have hm := ss_iff hm c15
          refine ss_aload_n hx hb dd_RR_readTest_25 rfl (lv_at hl 0 rfl) ?_
          refine lv_iload_n hx hb dd_RR_readTest_26 rfl (lv_at hl 1 rfl) ?_
          obtain ⟨h16, qh16, hm⟩ := ss_bind hm
          refine ss_cVv 0 0 (As := [.int a1]) hC hK hR hS hl.1 (hfK _ _ _ _ qh16).2 km_RR_73 (hfK _ _ _ _ qh16).1 ⟨(by first | exact Nat.le_of_ble_eq_true rfl | (dsimp only [headSpec]; omega)), (by first | exact Nat.le_of_ble_eq_true rfl | (dsimp only [headSpec]; omega))⟩ ⟨(by first | exact Nat.le_of_ble_eq_true rfl | (dsimp only [headSpec]; omega)), (by first | exact Nat.le_of_ble_eq_true rfl | (dsimp only [headSpec]; omega)), (by first | exact Nat.le_of_ble_eq_true rfl | (dsimp only [headSpec]; omega)), (by first | exact Nat.le_of_ble_eq_true rfl | (dsimp only [headSpec]; omega))⟩ rfl rfl (by first | exact Nat.le_of_ble_eq_true rfl | (dsimp only [headSpec]; omega)) dd_RR_readTest_27 (fun H locs hR hS => ?_)
          refine lv_iload_n hx hb dd_RR_readTest_30 rfl (lv_at hl 3 rfl) ?_
          refine lv_if_eq (tgt := 40) hx hb dd_RR_readTest_31 (by decide) (fun c17 => ?_) (fun c17 => ?_)
          · have hm := ss_ift hm c17
            exact J_40 x2_7 x4_7 h16 _ _ _ hm hR hS (lv_sub hl [0, 1, 2, 4] rfl)
          · have hm := ss_iff hm c17
            refine ss_aload_n hx hb dd_RR_readTest_34 rfl (lv_at hl 0 rfl) ?_
            refine lv_bipush (v := -11) hx hb dd_RR_readTest_35 (by decide) ?_
            obtain ⟨h18, qh18, hm⟩ := ss_bind hm
            refine ss_cVv 0 0 (As := [.int (-11 : Int32)]) hC hK hR hS hl.1 (cc_RR_emit l G N _ _ _ _ qh18) km_RR_76 (ck_RR_emit qh18) ⟨(by first | exact Nat.le_of_ble_eq_true rfl | (dsimp only [headSpec]; omega)), (by first | exact Nat.le_of_ble_eq_true rfl | (dsimp only [headSpec]; omega))⟩ ⟨(by first | exact Nat.le_of_ble_eq_true rfl | (dsimp only [headSpec]; omega)), (by first | exact Nat.le_of_ble_eq_true rfl | (dsimp only [headSpec]; omega)), (by first | exact Nat.le_of_ble_eq_true rfl | (dsimp only [headSpec]; omega)), (by first | exact Nat.le_of_ble_eq_true rfl | (dsimp only [headSpec]; omega))⟩ rfl rfl (by first | exact Nat.le_of_ble_eq_true rfl | (dsimp only [headSpec]; omega)) dd_RR_readTest_37 (fun H locs hR hS => ?_)
            exact J_40 x2_7 x4_7 h18 _ _ _ hm hR hS (lv_sub hl [0, 1, 2, 4] rfl)
  exact L_7 N (0 : Int32) (0 : Int32) (0 : Int32) h _ _ _ he_7 hR hS (lv_sub hl [3, 4, 2, 1, 0] rfl)
def mm_RR_rec (N : Nat) : Nat → (Option Nat → Int32 → ss_Hp → Option ss_Hp) × (Option Nat → Int32 → ss_Hp → Option ss_Hp)
  | 0 => (fun _ _ _ => none, fun _ _ _ => none)
  | k + 1 => (fun t d h => mm_RR_readFact N (fun t d n h => mm_RR_readWithin N (mm_RR_rec N k).1 (mm_RR_rec N k).2 t d n h) t d h, fun t d h => mm_RR_readTest N (fun t d h => mm_RR_readFact N (fun t d n h => mm_RR_readWithin N (mm_RR_rec N k).1 (mm_RR_rec N k).2 t d n h) t d h) t d h)
theorem cc_RR_rec (l : Launch) (G : ss_G) (N : Nat) : ∀ k : Nat, (∀ (t : Option Nat) (d1 : Int32) (g g1 : ss_Hp), (mm_RR_rec N k).1 t d1 g = some g1 → ss_is g t 4 = true ∧ ss_Ct l G yy_RR_readFact bb_RR_readFact 4 none ({ frames := 20 + 4 * k, cells := 0, slots := 0, locals := 400 + 100 * k }) [ss_v (ss_b G) t, .int d1] g none g1) ∧ (∀ (t : Option Nat) (d1 : Int32) (g g1 : ss_Hp), (mm_RR_rec N k).2 t d1 g = some g1 → ss_is g t 4 = true ∧ ss_Ct l G yy_RR_readTest bb_RR_readTest 5 none ({ frames := 21 + 4 * k, cells := 0, slots := 0, locals := 430 + 100 * k }) [ss_v (ss_b G) t, .int d1] g none g1) := by
  intro k
  induction k with
  | zero => exact ⟨(fun t d g g1 h => by cases h), (fun t d g g1 h => by cases h)⟩
  | succ k ih =>
    have hw : ∀ (t : Option Nat) (d1 : Int32) (d2 : Int32) (g g1 : ss_Hp), mm_RR_readWithin N (mm_RR_rec N k).1 (mm_RR_rec N k).2 t d1 d2 g = some g1 → ss_is g t 4 = true ∧ ss_Ct l G yy_RR_readWithin bb_RR_readWithin 3 none ({ frames := 19 + 4 * (k + 1), cells := 0, slots := 0, locals := 370 + 100 * (k + 1) }) [ss_v (ss_b G) t, .int d1, .int d2] g none g1 := fun t d1 d2 g g1 h => ⟨ck_RR_readWithin h, cc_RR_readWithin l G N _ _ (k + 1) k rfl ih.1 ih.2 t d1 d2 g g1 h⟩
    have hf : ∀ (t : Option Nat) (d1 : Int32) (g g1 : ss_Hp), mm_RR_readFact N (fun t d n h => mm_RR_readWithin N (mm_RR_rec N k).1 (mm_RR_rec N k).2 t d n h) t d1 g = some g1 → ss_is g t 4 = true ∧ ss_Ct l G yy_RR_readFact bb_RR_readFact 4 none ({ frames := 20 + 4 * (k + 1), cells := 0, slots := 0, locals := 400 + 100 * (k + 1) }) [ss_v (ss_b G) t, .int d1] g none g1 := fun t d1 g g1 h => ⟨ck_RR_readFact h, cc_RR_readFact l G N _ (k + 1) hw t d1 g g1 h⟩
    exact ⟨hf, fun t d1 g g1 h => ⟨ck_RR_readTest h, cc_RR_readTest l G N _ (k + 1) hf t d1 g g1 h⟩⟩

theorem dd_Ru_init_0 : decode bb_Ru_init 0 = .ok (.aload_n 0, 1) := by decide +kernel
theorem dd_Ru_init_1 : decode bb_Ru_init 1 = .ok (.invokespecial 1, 3) := by decide +kernel
theorem dd_Ru_init_4 : decode bb_Ru_init 4 = .ok (.aload_n 0, 1) := by decide +kernel
theorem dd_Ru_init_5 : decode bb_Ru_init 5 = .ok (.iload_n 2, 1) := by decide +kernel
theorem dd_Ru_init_6 : decode bb_Ru_init 6 = .ok (.newarray .int, 2) := by decide +kernel
theorem dd_Ru_init_8 : decode bb_Ru_init 8 = .ok (.putfield 7, 3) := by decide +kernel
theorem dd_Ru_init_11 : decode bb_Ru_init 11 = .ok (.aload_n 0, 1) := by decide +kernel
theorem dd_Ru_init_12 : decode bb_Ru_init 12 = .ok (.iconst 2, 1) := by decide +kernel
theorem dd_Ru_init_13 : decode bb_Ru_init 13 = .ok (.iload 4, 2) := by decide +kernel
theorem dd_Ru_init_15 : decode bb_Ru_init 15 = .ok (.imul, 1) := by decide +kernel
theorem dd_Ru_init_16 : decode bb_Ru_init 16 = .ok (.iconst 1, 1) := by decide +kernel
theorem dd_Ru_init_17 : decode bb_Ru_init 17 = .ok (.iadd, 1) := by decide +kernel
theorem dd_Ru_init_18 : decode bb_Ru_init 18 = .ok (.newarray .int, 2) := by decide +kernel
theorem dd_Ru_init_20 : decode bb_Ru_init 20 = .ok (.putfield 13, 3) := by decide +kernel
theorem dd_Ru_init_23 : decode bb_Ru_init 23 = .ok (.aload_n 0, 1) := by decide +kernel
theorem dd_Ru_init_24 : decode bb_Ru_init 24 = .ok (.iload 4, 2) := by decide +kernel
theorem dd_Ru_init_26 : decode bb_Ru_init 26 = .ok (.putfield 16, 3) := by decide +kernel
theorem dd_Ru_init_29 : decode bb_Ru_init 29 = .ok (.aload_n 1, 1) := by decide +kernel
theorem dd_Ru_init_30 : decode bb_Ru_init 30 = .ok (.iconst 0, 1) := by decide +kernel
theorem dd_Ru_init_31 : decode bb_Ru_init 31 = .ok (.aload_n 0, 1) := by decide +kernel
theorem dd_Ru_init_32 : decode bb_Ru_init 32 = .ok (.getfield 7, 3) := by decide +kernel
theorem dd_Ru_init_35 : decode bb_Ru_init 35 = .ok (.iconst 0, 1) := by decide +kernel
theorem dd_Ru_init_36 : decode bb_Ru_init 36 = .ok (.iload_n 2, 1) := by decide +kernel
theorem dd_Ru_init_37 : decode bb_Ru_init 37 = .ok (.invokestatic 20, 3) := by decide +kernel
theorem dd_Ru_init_40 : decode bb_Ru_init 40 = .ok (.aload_n 3, 1) := by decide +kernel
theorem dd_Ru_init_41 : decode bb_Ru_init 41 = .ok (.iconst 0, 1) := by decide +kernel
theorem dd_Ru_init_42 : decode bb_Ru_init 42 = .ok (.aload_n 0, 1) := by decide +kernel
theorem dd_Ru_init_43 : decode bb_Ru_init 43 = .ok (.getfield 13, 3) := by decide +kernel
theorem dd_Ru_init_46 : decode bb_Ru_init 46 = .ok (.iconst 0, 1) := by decide +kernel
theorem dd_Ru_init_47 : decode bb_Ru_init 47 = .ok (.iconst 2, 1) := by decide +kernel
theorem dd_Ru_init_48 : decode bb_Ru_init 48 = .ok (.iload 4, 2) := by decide +kernel
theorem dd_Ru_init_50 : decode bb_Ru_init 50 = .ok (.imul, 1) := by decide +kernel
theorem dd_Ru_init_51 : decode bb_Ru_init 51 = .ok (.iconst 1, 1) := by decide +kernel
theorem dd_Ru_init_52 : decode bb_Ru_init 52 = .ok (.iadd, 1) := by decide +kernel
theorem dd_Ru_init_53 : decode bb_Ru_init 53 = .ok (.invokestatic 20, 3) := by decide +kernel
theorem dd_Ru_init_56 : decode bb_Ru_init 56 = .ok (.return_, 1) := by decide +kernel
def mm_Ru_init (N : Nat) (this : Option Nat) (a1 : Option Nat) (a2 : Int32) (a3 : Option Nat) (a4 : Int32) (h : ss_Hp) : Option ss_Hp :=
  if ss_is h this 1 = true then
    ss_b2 (ss_na h 20 400 a2) fun r1 h2 =>
    (ss_pr h2 this 1 0 r1).bind fun h3 =>
    ss_b2 (ss_na h3 20 30 (((2 : Int32) * a4) + (1 : Int32))) fun r4 h5 =>
    (ss_pr h5 this 1 1 r4).bind fun h6 =>
    (ss_pi h6 this 1 0 a4).bind fun h7 =>
    (ss_gr h7 this 1 0).bind fun r8 =>
    (ss_cp h7 a1 (0 : Int32) r8 (0 : Int32) a2).bind fun h9 =>
    (ss_gr h9 this 1 1).bind fun r10 =>
    (ss_cp h9 a3 (0 : Int32) r10 (0 : Int32) (((2 : Int32) * a4) + (1 : Int32))).bind fun h11 =>
    some h11
  else none
abbrev ww_Ru_init (p : Program) (l : Launch) (e : Env) (s : State) (m : MethodId) (below : List Frame) (meth : Method) (c : Code) (G : ss_G) (this : Option Nat) (a1 : Option Nat) (a2 : Int32) (a3 : Option Nat) (a4 : Int32) (h : ss_Hp) (hh : ss_Hp) (H : Heap) (locs : List Loc) (k n : Nat) (g : JFrame) : Prop := W p l e (headSpec (ss_w yy_Ru_init bb_Ru_init 5 none) ({ frames := 1, cells := 2, slots := 430, locals := 80 })).room s m ([ss_v (ss_b G) this, ss_v (ss_b G) a1, .int a2, ss_v (ss_b G) a3, .int a4] : List Value).toArray below meth c H locs k n (MQ below (ss_Qc G none hh) ([ss_v (ss_b G) this, ss_v (ss_b G) a1, .int a2, ss_v (ss_b G) a3, .int a4] : List Value).toArray s 2 430 (ss_A G)) g
theorem ck_Ru_init {N : Nat} {this : Option Nat} {a1 : Option Nat} {a2 : Int32} {a3 : Option Nat} {a4 : Int32} {h : ss_Hp} {res : ss_Hp} (hm : mm_Ru_init N this a1 a2 a3 a4 h = some res) : ss_is h this 1 = true := (ss_chk hm).1
set_option maxHeartbeats 4000000 in
set_option maxRecDepth 100000 in
theorem cc_Ru_init (l : Launch) (G : ss_G) (N : Nat) (this : Option Nat) (a1 : Option Nat) (a2 : Int32) (a3 : Option Nat) (a4 : Int32) (h : ss_Hp) (hh : ss_Hp) (hm : mm_Ru_init N this a1 a2 a3 a4 h = some hh) : ss_Ct l G yy_Ru_init bb_Ru_init 5 none ({ frames := 1, cells := 2, slots := 430, locals := 80 }) [ss_v (ss_b G) this, ss_v (ss_b G) a1, .int a2, ss_v (ss_b G) a3, .int a4] h none hh := by
  obtain ⟨hck, hm⟩ := ss_chk hm
  refine Met.ofW (cc := bb_Ru_init) (maxL := 5) (ret := none) (by decide) rfl ?_
  intro p e s m args below meth c s₁ B hml hv
  obtain ⟨rfl, hR, hK⟩ := hv
  have hC : CallFix p m c bb_Ru_init 5 s _ lw_g sR_1 := ⟨B.exec, B.bytes, hml, findClass_of_methodNamed B.named, fun w hw => atoms_spec (ws := ss_w yy_Ru_init bb_Ru_init 5 none) B.pre w (List.mem_cons_of_mem _ hw)⟩
  have hx := hC.1
  have hb := hC.2.1
  have hr := B.returns
  have hlocks := B.notSynchronized
  have hin : meth.name = "<init>" := (name_of_methodNamed B.named B.method).1
  have hS : va_S (ss_A G) s.heap s.heap [] := va_S.rf
  have hl := lv_entry ([ss_v (ss_b G) this, ss_v (ss_b G) a1, .int a2, ss_v (ss_b G) a3, .int a4]) (n := 5) (by simp [lg_sl, ss_v_cat, ss_cat_i, ss_cat_l, ss_cat_r])
  rw [lg_entry_eq]
  generalize (lg_sl ([ss_v (ss_b G) this, ss_v (ss_b G) a1, .int a2, ss_v (ss_b G) a3, .int a4]) ++ List.replicate (5 - (lg_sl ([ss_v (ss_b G) this, ss_v (ss_b G) a1, .int a2, ss_v (ss_b G) a3, .int a4])).length) Slot.unset).toArray = ls at hl ⊢
  have hl : lv_has ls 5 [(0, ss_v (ss_b G) this), (1, ss_v (ss_b G) a1), (2, .int a2), (3, ss_v (ss_b G) a3), (4, .int a4)] := by simpa [lv_args, ss_v_cat, ss_cat_i, ss_cat_l, ss_cat_r] using hl
  refine ss_aload_n hx hb dd_Ru_init_0 rfl (lv_at hl 0 rfl) ?_
  obtain ⟨_, hck1⟩ := ss_isSome hck
  refine ss_init hC hl.1 kj_Ru_1 kj_oi kj_oc hck1 (Nat.le_of_ble_eq_true rfl) (Nat.le_of_ble_eq_true rfl) (Nat.le_of_ble_eq_true rfl) dd_Ru_init_1 ?_
  refine ss_aload_n hx hb dd_Ru_init_4 rfl (lv_at hl 0 rfl) ?_
  refine lv_iload_n hx hb dd_Ru_init_5 rfl (lv_at hl 2 rfl) ?_
  obtain ⟨r1, h2, qh2, hm⟩ := ss_bind2 hm
  refine ss_newai hC hK hR hS kt_int rfl rfl (by decide) (t0 := 0) rfl (by decide) qh2 (by decide) (Nat.le_of_ble_eq_true rfl) (Nat.le_of_ble_eq_true rfl) dd_Ru_init_6 (fun H hR hS => ?_)
  refine W.widen (k := 1) (n := 400) (Nat.le_of_ble_eq_true rfl) (Nat.le_of_ble_eq_true rfl) ?_
  obtain ⟨h3, qh3, hm⟩ := ss_bind hm
  refine ss_putrF hC hK hR hS hin kq_Ru_7 rfl (Or.inr ⟨_, rfl⟩) qh3 dd_Ru_init_8 (fun H locs hR hS => ?_)
  refine ss_aload_n hx hb dd_Ru_init_11 rfl (lv_at hl 0 rfl) ?_
  refine lv_iconst (v := 2) hx hb dd_Ru_init_12 (by decide) ?_
  refine lv_iload hx hb dd_Ru_init_13 (lv_at hl 4 rfl) ?_
  refine lv_imul hx hb dd_Ru_init_15 ?_
  refine lv_iconst (v := 1) hx hb dd_Ru_init_16 (by decide) ?_
  refine lv_iadd hx hb dd_Ru_init_17 ?_
  obtain ⟨r4, h5, qh5, hm⟩ := ss_bind2 hm
  refine ss_newai hC hK hR hS kt_int rfl rfl (by decide) (t0 := 0) rfl (by decide) qh5 (by decide) (Nat.le_of_ble_eq_true rfl) (Nat.le_of_ble_eq_true rfl) dd_Ru_init_18 (fun H hR hS => ?_)
  refine W.widen (k := 2) (n := 430) (Nat.le_of_ble_eq_true rfl) (Nat.le_of_ble_eq_true rfl) ?_
  obtain ⟨h6, qh6, hm⟩ := ss_bind hm
  refine ss_putrF hC hK hR hS hin kq_Ru_13 rfl (Or.inr ⟨_, rfl⟩) qh6 dd_Ru_init_20 (fun H locs hR hS => ?_)
  refine ss_aload_n hx hb dd_Ru_init_23 rfl (lv_at hl 0 rfl) ?_
  refine lv_iload hx hb dd_Ru_init_24 (lv_at hl 4 rfl) ?_
  obtain ⟨h7, qh7, hm⟩ := ss_bind hm
  refine ss_putiF hC hK hR hS hin kq_Ru_16 qh7 dd_Ru_init_26 (fun H locs hR hS => ?_)
  refine ss_aload_n hx hb dd_Ru_init_29 rfl (lv_at hl 1 rfl) ?_
  refine lv_iconst (v := 0) hx hb dd_Ru_init_30 (by decide) ?_
  refine ss_aload_n hx hb dd_Ru_init_31 rfl (lv_at hl 0 rfl) ?_
  obtain ⟨r8, qr8, hm⟩ := ss_bind hm
  refine ss_getr hC hK hR kf_Ru_7 rfl qr8 dd_Ru_init_32 ?_
  refine lv_iconst (v := 0) hx hb dd_Ru_init_35 (by decide) ?_
  refine lv_iload_n hx hb dd_Ru_init_36 rfl (lv_at hl 2 rfl) ?_
  obtain ⟨h9, qh9, hm⟩ := ss_bind hm
  refine ss_copy hC hK hR hS hl.1 kj_Ru_20 kj_ac_n kj_ac_s kj_sys qh9 (Nat.le_of_ble_eq_true rfl) (Nat.le_of_ble_eq_true rfl) (by decide) dd_Ru_init_37 (fun H locs hR hS => ?_)
  refine ss_aload_n hx hb dd_Ru_init_40 rfl (lv_at hl 3 rfl) ?_
  refine lv_iconst (v := 0) hx hb dd_Ru_init_41 (by decide) ?_
  refine ss_aload_n hx hb dd_Ru_init_42 rfl (lv_at hl 0 rfl) ?_
  obtain ⟨r10, qr10, hm⟩ := ss_bind hm
  refine ss_getr hC hK hR kf_Ru_13 rfl qr10 dd_Ru_init_43 ?_
  refine lv_iconst (v := 0) hx hb dd_Ru_init_46 (by decide) ?_
  refine lv_iconst (v := 2) hx hb dd_Ru_init_47 (by decide) ?_
  refine lv_iload hx hb dd_Ru_init_48 (lv_at hl 4 rfl) ?_
  refine lv_imul hx hb dd_Ru_init_50 ?_
  refine lv_iconst (v := 1) hx hb dd_Ru_init_51 (by decide) ?_
  refine lv_iadd hx hb dd_Ru_init_52 ?_
  obtain ⟨h11, qh11, hm⟩ := ss_bind hm
  refine ss_copy hC hK hR hS hl.1 kj_Ru_20 kj_ac_n kj_ac_s kj_sys qh11 (Nat.le_of_ble_eq_true rfl) (Nat.le_of_ble_eq_true rfl) (by decide) dd_Ru_init_53 (fun H locs hR hS => ?_)
  exact ss_vret hC hr hlocks hR hS hm dd_Ru_init_56
theorem dd_RR_readRule_0 : decode bb_RR_readRule 0 = .ok (.aload_n 0, 1) := by decide +kernel
theorem dd_RR_readRule_1 : decode bb_RR_readRule 1 = .ok (.iconst 0, 1) := by decide +kernel
theorem dd_RR_readRule_2 : decode bb_RR_readRule 2 = .ok (.putfield 24, 3) := by decide +kernel
theorem dd_RR_readRule_5 : decode bb_RR_readRule 5 = .ok (.aload_n 0, 1) := by decide +kernel
theorem dd_RR_readRule_6 : decode bb_RR_readRule 6 = .ok (.iconst 0, 1) := by decide +kernel
theorem dd_RR_readRule_7 : decode bb_RR_readRule 7 = .ok (.putfield 28, 3) := by decide +kernel
theorem dd_RR_readRule_10 : decode bb_RR_readRule 10 = .ok (.aload_n 0, 1) := by decide +kernel
theorem dd_RR_readRule_11 : decode bb_RR_readRule 11 = .ok (.iconst 0, 1) := by decide +kernel
theorem dd_RR_readRule_12 : decode bb_RR_readRule 12 = .ok (.putfield 31, 3) := by decide +kernel
theorem dd_RR_readRule_15 : decode bb_RR_readRule 15 = .ok (.aload_n 0, 1) := by decide +kernel
theorem dd_RR_readRule_16 : decode bb_RR_readRule 16 = .ok (.getfield 20, 3) := by decide +kernel
theorem dd_RR_readRule_19 : decode bb_RR_readRule 19 = .ok (.invokevirtual 34, 3) := by decide +kernel
theorem dd_RR_readRule_22 : decode bb_RR_readRule 22 = .ok (.iconst 1, 1) := by decide +kernel
theorem dd_RR_readRule_23 : decode bb_RR_readRule 23 = .ok (.istore_n 1, 1) := by decide +kernel
theorem dd_RR_readRule_24 : decode bb_RR_readRule 24 = .ok (.iconst 0, 1) := by decide +kernel
theorem dd_RR_readRule_25 : decode bb_RR_readRule 25 = .ok (.istore_n 2, 1) := by decide +kernel
theorem dd_RR_readRule_26 : decode bb_RR_readRule 26 = .ok (.iload_n 1, 1) := by decide +kernel
theorem dd_RR_readRule_27 : decode bb_RR_readRule 27 = .ok (.ifCond .eq 117, 3) := by decide +kernel
theorem dd_RR_readRule_30 : decode bb_RR_readRule 30 = .ok (.iload_n 2, 1) := by decide +kernel
theorem dd_RR_readRule_31 : decode bb_RR_readRule 31 = .ok (.bipush 12, 2) := by decide +kernel
theorem dd_RR_readRule_33 : decode bb_RR_readRule 33 = .ok (.if_icmp .gt 111, 3) := by decide +kernel
theorem dd_RR_readRule_36 : decode bb_RR_readRule 36 = .ok (.aload_n 0, 1) := by decide +kernel
theorem dd_RR_readRule_37 : decode bb_RR_readRule 37 = .ok (.invokevirtual 37, 3) := by decide +kernel
theorem dd_RR_readRule_40 : decode bb_RR_readRule 40 = .ok (.ifCond .eq 90, 3) := by decide +kernel
theorem dd_RR_readRule_43 : decode bb_RR_readRule 43 = .ok (.aload_n 0, 1) := by decide +kernel
theorem dd_RR_readRule_44 : decode bb_RR_readRule 44 = .ok (.getfield 20, 3) := by decide +kernel
theorem dd_RR_readRule_47 : decode bb_RR_readRule 47 = .ok (.invokevirtual 41, 3) := by decide +kernel
theorem dd_RR_readRule_50 : decode bb_RR_readRule 50 = .ok (.aload_n 0, 1) := by decide +kernel
theorem dd_RR_readRule_51 : decode bb_RR_readRule 51 = .ok (.invokevirtual 44, 3) := by decide +kernel
theorem dd_RR_readRule_54 : decode bb_RR_readRule 54 = .ok (.aload_n 0, 1) := by decide +kernel
theorem dd_RR_readRule_55 : decode bb_RR_readRule 55 = .ok (.getfield 17, 3) := by decide +kernel
theorem dd_RR_readRule_58 : decode bb_RR_readRule 58 = .ok (.iconst 2, 1) := by decide +kernel
theorem dd_RR_readRule_59 : decode bb_RR_readRule 59 = .ok (.aload_n 0, 1) := by decide +kernel
theorem dd_RR_readRule_60 : decode bb_RR_readRule 60 = .ok (.getfield 28, 3) := by decide +kernel
theorem dd_RR_readRule_63 : decode bb_RR_readRule 63 = .ok (.imul, 1) := by decide +kernel
theorem dd_RR_readRule_64 : decode bb_RR_readRule 64 = .ok (.iconst 1, 1) := by decide +kernel
theorem dd_RR_readRule_65 : decode bb_RR_readRule 65 = .ok (.iadd, 1) := by decide +kernel
theorem dd_RR_readRule_66 : decode bb_RR_readRule 66 = .ok (.aload_n 0, 1) := by decide +kernel
theorem dd_RR_readRule_67 : decode bb_RR_readRule 67 = .ok (.getfield 24, 3) := by decide +kernel
theorem dd_RR_readRule_70 : decode bb_RR_readRule 70 = .ok (.iastore, 1) := by decide +kernel
theorem dd_RR_readRule_71 : decode bb_RR_readRule 71 = .ok (.aload_n 0, 1) := by decide +kernel
theorem dd_RR_readRule_72 : decode bb_RR_readRule 72 = .ok (.getfield 20, 3) := by decide +kernel
theorem dd_RR_readRule_75 : decode bb_RR_readRule 75 = .ok (.invokevirtual 47, 3) := by decide +kernel
theorem dd_RR_readRule_78 : decode bb_RR_readRule 78 = .ok (.ifCond .eq 27, 3) := by decide +kernel
theorem dd_RR_readRule_81 : decode bb_RR_readRule 81 = .ok (.aload_n 0, 1) := by decide +kernel
theorem dd_RR_readRule_82 : decode bb_RR_readRule 82 = .ok (.getfield 20, 3) := by decide +kernel
theorem dd_RR_readRule_85 : decode bb_RR_readRule 85 = .ok (.ldc 50, 2) := by decide +kernel
theorem dd_RR_readRule_87 : decode bb_RR_readRule 87 = .ok (.invokevirtual 52, 3) := by decide +kernel
theorem dd_RR_readRule_90 : decode bb_RR_readRule 90 = .ok (.ifCond .eq 15, 3) := by decide +kernel
theorem dd_RR_readRule_93 : decode bb_RR_readRule 93 = .ok (.aload_n 0, 1) := by decide +kernel
theorem dd_RR_readRule_94 : decode bb_RR_readRule 94 = .ok (.getfield 20, 3) := by decide +kernel
theorem dd_RR_readRule_97 : decode bb_RR_readRule 97 = .ok (.invokevirtual 41, 3) := by decide +kernel
theorem dd_RR_readRule_100 : decode bb_RR_readRule 100 = .ok (.aload_n 0, 1) := by decide +kernel
theorem dd_RR_readRule_101 : decode bb_RR_readRule 101 = .ok (.iconst 0, 1) := by decide +kernel
theorem dd_RR_readRule_102 : decode bb_RR_readRule 102 = .ok (.invokevirtual 56, 3) := by decide +kernel
theorem dd_RR_readRule_105 : decode bb_RR_readRule 105 = .ok (.aload_n 0, 1) := by decide +kernel
theorem dd_RR_readRule_106 : decode bb_RR_readRule 106 = .ok (.dup, 1) := by decide +kernel
theorem dd_RR_readRule_107 : decode bb_RR_readRule 107 = .ok (.getfield 28, 3) := by decide +kernel
theorem dd_RR_readRule_110 : decode bb_RR_readRule 110 = .ok (.iconst 1, 1) := by decide +kernel
theorem dd_RR_readRule_111 : decode bb_RR_readRule 111 = .ok (.iadd, 1) := by decide +kernel
theorem dd_RR_readRule_112 : decode bb_RR_readRule 112 = .ok (.putfield 28, 3) := by decide +kernel
theorem dd_RR_readRule_115 : decode bb_RR_readRule 115 = .ok (.aload_n 0, 1) := by decide +kernel
theorem dd_RR_readRule_116 : decode bb_RR_readRule 116 = .ok (.getfield 17, 3) := by decide +kernel
theorem dd_RR_readRule_119 : decode bb_RR_readRule 119 = .ok (.iconst 2, 1) := by decide +kernel
theorem dd_RR_readRule_120 : decode bb_RR_readRule 120 = .ok (.aload_n 0, 1) := by decide +kernel
theorem dd_RR_readRule_121 : decode bb_RR_readRule 121 = .ok (.getfield 28, 3) := by decide +kernel
theorem dd_RR_readRule_124 : decode bb_RR_readRule 124 = .ok (.imul, 1) := by decide +kernel
theorem dd_RR_readRule_125 : decode bb_RR_readRule 125 = .ok (.aload_n 0, 1) := by decide +kernel
theorem dd_RR_readRule_126 : decode bb_RR_readRule 126 = .ok (.getfield 24, 3) := by decide +kernel
theorem dd_RR_readRule_129 : decode bb_RR_readRule 129 = .ok (.iastore, 1) := by decide +kernel
theorem dd_RR_readRule_130 : decode bb_RR_readRule 130 = .ok (.aload_n 0, 1) := by decide +kernel
theorem dd_RR_readRule_131 : decode bb_RR_readRule 131 = .ok (.getfield 20, 3) := by decide +kernel
theorem dd_RR_readRule_134 : decode bb_RR_readRule 134 = .ok (.invokevirtual 60, 3) := by decide +kernel
theorem dd_RR_readRule_137 : decode bb_RR_readRule 137 = .ok (.istore_n 1, 1) := by decide +kernel
theorem dd_RR_readRule_138 : decode bb_RR_readRule 138 = .ok (.iinc 2 1, 3) := by decide +kernel
theorem dd_RR_readRule_141 : decode bb_RR_readRule 141 = .ok (.goto (-115), 3) := by decide +kernel
theorem dd_RR_readRule_144 : decode bb_RR_readRule 144 = .ok (.aload_n 0, 1) := by decide +kernel
theorem dd_RR_readRule_145 : decode bb_RR_readRule 145 = .ok (.getfield 20, 3) := by decide +kernel
theorem dd_RR_readRule_148 : decode bb_RR_readRule 148 = .ok (.invokevirtual 47, 3) := by decide +kernel
theorem dd_RR_readRule_151 : decode bb_RR_readRule 151 = .ok (.ifCond .eq 29, 3) := by decide +kernel
theorem dd_RR_readRule_154 : decode bb_RR_readRule 154 = .ok (.new 63, 3) := by decide +kernel
theorem dd_RR_readRule_157 : decode bb_RR_readRule 157 = .ok (.dup, 1) := by decide +kernel
theorem dd_RR_readRule_158 : decode bb_RR_readRule 158 = .ok (.aload_n 0, 1) := by decide +kernel
theorem dd_RR_readRule_159 : decode bb_RR_readRule 159 = .ok (.getfield 11, 3) := by decide +kernel
theorem dd_RR_readRule_162 : decode bb_RR_readRule 162 = .ok (.aload_n 0, 1) := by decide +kernel
theorem dd_RR_readRule_163 : decode bb_RR_readRule 163 = .ok (.getfield 24, 3) := by decide +kernel
theorem dd_RR_readRule_166 : decode bb_RR_readRule 166 = .ok (.aload_n 0, 1) := by decide +kernel
theorem dd_RR_readRule_167 : decode bb_RR_readRule 167 = .ok (.getfield 17, 3) := by decide +kernel
theorem dd_RR_readRule_170 : decode bb_RR_readRule 170 = .ok (.aload_n 0, 1) := by decide +kernel
theorem dd_RR_readRule_171 : decode bb_RR_readRule 171 = .ok (.getfield 28, 3) := by decide +kernel
theorem dd_RR_readRule_174 : decode bb_RR_readRule 174 = .ok (.invokespecial 65, 3) := by decide +kernel
theorem dd_RR_readRule_177 : decode bb_RR_readRule 177 = .ok (.goto 4, 3) := by decide +kernel
theorem dd_RR_readRule_180 : decode bb_RR_readRule 180 = .ok (.aconst_null, 1) := by decide +kernel
theorem dd_RR_readRule_181 : decode bb_RR_readRule 181 = .ok (.areturn, 1) := by decide +kernel
def mm_RR_readRule_j181 (N : Nat) (this : Option Nat) (s0_181 : Option Nat) (h_181 : ss_Hp) : Option ((Option Nat) × ss_Hp) :=
  some (s0_181, h_181)
def mm_RR_readRule_j130 (N : Nat) (this : Option Nat) (x2_130 : Int32) (h_130 : ss_Hp) : Option ((Int32 × Int32 × ss_Hp) ⊕ ss_Hp) :=
  (ss_gr h_130 this 4 0).bind fun r16 =>
  ss_b2 (mm_T_goesOn N r16 h_130) fun v17 h18 =>
  (some (x2_130 + (1 : Int32))).bind fun v19 =>
  some (.inl (v17, v19, h18))
def mm_RR_readRule_j105 (N : Nat) (this : Option Nat) (x2_105 : Int32) (h_105 : ss_Hp) : Option ((Int32 × Int32 × ss_Hp) ⊕ ss_Hp) :=
  (ss_gi h_105 this 4 1).bind fun v20 =>
  (ss_pi h_105 this 4 1 (v20 + (1 : Int32))).bind fun h21 =>
  (ss_gr h21 this 4 2).bind fun r22 =>
  (ss_gi h21 this 4 1).bind fun v23 =>
  (ss_gi h21 this 4 0).bind fun v24 =>
  (ss_ui h21 r22 20 ((2 : Int32) * v23) v24).bind fun h25 =>
  mm_RR_readRule_j130 N this x2_105 h25
def mm_RR_readRule_b26 (N : Nat) (this : Option Nat) (st : Int32 × Int32 × ss_Hp) : Option ((Int32 × Int32 × ss_Hp) ⊕ ss_Hp) :=
  match st with
  | (x1_26, x2_26, h_26) =>
    if x1_26 = 0 then
      some (.inr h_26)
    else
      if (12 : Int32) < x2_26 then
        some (.inr h_26)
      else
        ss_b2 (mm_RR_begins N this h_26) fun v28 h29 =>
        if v28 = 0 then
          mm_RR_readRule_j130 N this x2_26 h29
        else
          (ss_gr h29 this 4 0).bind fun r31 =>
          (mm_T_advance N r31 h29).bind fun h32 =>
          (mm_RR_readSum N this h32).bind fun h33 =>
          (ss_gr h33 this 4 2).bind fun r34 =>
          (ss_gi h33 this 4 1).bind fun v35 =>
          (ss_gi h33 this 4 0).bind fun v36 =>
          (ss_ui h33 r34 20 (((2 : Int32) * v35) + (1 : Int32)) v36).bind fun h37 =>
          (ss_gr h37 this 4 0).bind fun r38 =>
          (mm_T_isWell N r38 h37).bind fun v39 =>
          if v39 = 0 then
            mm_RR_readRule_j105 N this x2_26 h37
          else
            (ss_gr h37 this 4 0).bind fun r41 =>
            (mm_T_isWord N r41 4 h37).bind fun v42 =>
            if v42 = 0 then
              mm_RR_readRule_j105 N this x2_26 h37
            else
              (ss_gr h37 this 4 0).bind fun r44 =>
              (mm_T_advance N r44 h37).bind fun h45 =>
              ((mm_RR_rec N 12).2 this (0 : Int32) h45).bind fun h46 =>
              mm_RR_readRule_j105 N this x2_26 h46
def mm_RR_readRule (N : Nat) (this : Option Nat) (h : ss_Hp) : Option ((Option Nat) × ss_Hp) :=
  if ss_is h this 4 = true then
    (ss_pi h this 4 0 (0 : Int32)).bind fun h1 =>
    (ss_pi h1 this 4 1 (0 : Int32)).bind fun h2 =>
    (ss_pi h2 this 4 2 (0 : Int32)).bind fun h3 =>
    (ss_gr h3 this 4 0).bind fun r4 =>
    (mm_T_open N r4 h3).bind fun h5 =>
    (ss_lp (mm_RR_readRule_b26 N this) N ((1 : Int32), (0 : Int32), h5)).bind fun h_26_144 =>
    (ss_gr h_26_144 this 4 0).bind fun r6 =>
    (mm_T_isWell N r6 h_26_144).bind fun v7 =>
    if v7 = 0 then
      mm_RR_readRule_j181 N this none h_26_144
    else
      ss_b2 (ss_no h_26_144 1 1 0 2) fun r9 h10 =>
      (ss_gr h10 this 4 1).bind fun r11 =>
      (ss_gi h10 this 4 0).bind fun v12 =>
      (ss_gr h10 this 4 2).bind fun r13 =>
      (ss_gi h10 this 4 1).bind fun v14 =>
      (mm_Ru_init N r9 r11 v12 r13 v14 h10).bind fun h15 =>
      mm_RR_readRule_j181 N this r9 h15
  else none
abbrev ww_RR_readRule (p : Program) (l : Launch) (e : Env) (s : State) (m : MethodId) (below : List Frame) (meth : Method) (c : Code) (G : ss_G) (this : Option Nat) (h : ss_Hp) (rr : Option Nat) (hh : ss_Hp) (H : Heap) (locs : List Loc) (k n : Nat) (g : JFrame) : Prop := W p l e (headSpec (ss_w yy_RR_readRule bb_RR_readRule 3 (some (.object "SweptSnow$Rule"))) ({ frames := 70, cells := 3, slots := 433, locals := 1654 })).room s m ([ss_v (ss_b G) this] : List Value).toArray below meth c H locs k n (MQ below (ss_Qc G (some (ss_v (ss_b G) rr)) hh) ([ss_v (ss_b G) this] : List Value).toArray s 3 433 (ss_A G)) g
theorem ck_RR_readRule {N : Nat} {this : Option Nat} {h : ss_Hp} {res : (Option Nat) × ss_Hp} (hm : mm_RR_readRule N this h = some res) : ss_is h this 4 = true := (ss_chk hm).1
set_option maxHeartbeats 4000000 in
set_option maxRecDepth 100000 in
theorem cc_RR_readRule (l : Launch) (G : ss_G) (N : Nat) (this : Option Nat) (h : ss_Hp) (rr : Option Nat) (hh : ss_Hp) (hm : mm_RR_readRule N this h = some (rr, hh)) : ss_Ct l G yy_RR_readRule bb_RR_readRule 3 (some (.object "SweptSnow$Rule")) ({ frames := 70, cells := 3, slots := 433, locals := 1654 }) [ss_v (ss_b G) this] h (some (ss_v (ss_b G) rr)) hh := by
  obtain ⟨hck, hm⟩ := ss_chk hm
  refine Met.ofW (cc := bb_RR_readRule) (maxL := 3) (ret := (some (.object "SweptSnow$Rule"))) (by decide) rfl ?_
  intro p e s m args below meth c s₁ B hml hv
  obtain ⟨rfl, hR, hK⟩ := hv
  have hC : CallFix p m c bb_RR_readRule 3 s _ lw_g sR_4 := ⟨B.exec, B.bytes, hml, findClass_of_methodNamed B.named, fun w hw => atoms_spec (ws := ss_w yy_RR_readRule bb_RR_readRule 3 (some (.object "SweptSnow$Rule"))) B.pre w (List.mem_cons_of_mem _ hw)⟩
  have hx := hC.1
  have hb := hC.2.1
  have hr := B.returns
  have hlocks := B.notSynchronized
  have hS : va_S (ss_A G) s.heap s.heap [] := va_S.rf
  have hl := lv_entry ([ss_v (ss_b G) this]) (n := 3) (by simp [lg_sl, ss_v_cat, ss_cat_i, ss_cat_l, ss_cat_r])
  rw [lg_entry_eq]
  generalize (lg_sl ([ss_v (ss_b G) this]) ++ List.replicate (3 - (lg_sl ([ss_v (ss_b G) this])).length) Slot.unset).toArray = ls at hl ⊢
  have hl : lv_has ls 3 [(0, ss_v (ss_b G) this)] := by simpa [lv_args, ss_v_cat, ss_cat_i, ss_cat_l, ss_cat_r] using hl
  have J_181 : ∀ (s0_181 : Option Nat) (h_181 : ss_Hp) (H : Heap) (locs : List Loc) (ls : Array Slot), mm_RR_readRule_j181 N this s0_181 h_181 = some (rr, hh) → ss_R G h_181 H → va_S (ss_A G) s.heap H locs → lv_has ls 3 [] → ww_RR_readRule p l e s m below meth c G this h rr hh  H locs 3 433 (F0 m 181 ls [ss_v (ss_b G) s0_181]) := by
    intro s0_181 h_181 H locs ls hm hR hS hl
    exact ss_aret hC hr (Or.inl ⟨_, rfl⟩) hlocks hR hS hm dd_RR_readRule_181
  refine ss_aload_n hx hb dd_RR_readRule_0 rfl (lv_at hl 0 rfl) ?_
  refine lv_iconst (v := 0) hx hb dd_RR_readRule_1 (by decide) ?_
  obtain ⟨h1, qh1, hm⟩ := ss_bind hm
  refine ss_puti hC hK hR hS kp_RR_24 qh1 dd_RR_readRule_2 (fun H locs hR hS => ?_)
  refine ss_aload_n hx hb dd_RR_readRule_5 rfl (lv_at hl 0 rfl) ?_
  refine lv_iconst (v := 0) hx hb dd_RR_readRule_6 (by decide) ?_
  obtain ⟨h2, qh2, hm⟩ := ss_bind hm
  refine ss_puti hC hK hR hS kp_RR_28 qh2 dd_RR_readRule_7 (fun H locs hR hS => ?_)
  refine ss_aload_n hx hb dd_RR_readRule_10 rfl (lv_at hl 0 rfl) ?_
  refine lv_iconst (v := 0) hx hb dd_RR_readRule_11 (by decide) ?_
  obtain ⟨h3, qh3, hm⟩ := ss_bind hm
  refine ss_puti hC hK hR hS kp_RR_31 qh3 dd_RR_readRule_12 (fun H locs hR hS => ?_)
  refine ss_aload_n hx hb dd_RR_readRule_15 rfl (lv_at hl 0 rfl) ?_
  obtain ⟨r4, qr4, hm⟩ := ss_bind hm
  refine ss_getr hC hK hR kf_RR_20 rfl qr4 dd_RR_readRule_16 ?_
  obtain ⟨h5, qh5, hm⟩ := ss_bind hm
  refine ss_cVv 0 0 (As := []) hC hK hR hS hl.1 (cc_T_open l G N _ _ _ qh5) km_RR_34 (ck_T_open qh5) ⟨Nat.le_of_ble_eq_true rfl, Nat.le_of_ble_eq_true rfl⟩ ⟨Nat.le_of_ble_eq_true rfl, Nat.le_of_ble_eq_true rfl, Nat.le_of_ble_eq_true rfl, Nat.le_of_ble_eq_true rfl⟩ rfl rfl (Nat.le_of_ble_eq_true rfl) dd_RR_readRule_19 (fun H locs hR hS => ?_)
  refine lv_iconst (v := 1) hx hb dd_RR_readRule_22 (by decide) ?_
  refine lv_istore_n (lv' := [(1, .int (1 : Int32)), (0, ss_v (ss_b G) this)]) hx hb dd_RR_readRule_23 rfl hl (by decide) (by simp only [List.filter_cons, ss_v_cat]; rfl) (fun ls hl => ?_)
  refine lv_iconst (v := 0) hx hb dd_RR_readRule_24 (by decide) ?_
  refine lv_istore_n (lv' := [(2, .int (0 : Int32)), (1, .int (1 : Int32)), (0, ss_v (ss_b G) this)]) hx hb dd_RR_readRule_25 rfl hl (by decide) rfl (fun ls hl => ?_)
  obtain ⟨e_26, he_26, hm⟩ := ss_bind hm
  have X_26_144 : ∀  (h_26_144 : ss_Hp) (H : Heap) (locs : List Loc) (ls : Array Slot), e_26 = h_26_144 → ss_R G h_26_144 H → va_S (ss_A G) s.heap H locs → lv_has ls 3 [(0, ss_v (ss_b G) this)] → ww_RR_readRule p l e s m below meth c G this h rr hh  H locs 0 0 (F0 m 144 ls []) := by
    intro h_26_144 H locs ls hq hR hS hl
    rw [hq] at hm
    refine ss_aload_n hx hb dd_RR_readRule_144 rfl (lv_at hl 0 rfl) ?_
    obtain ⟨r6, qr6, hm⟩ := ss_bind hm
    refine ss_getr hC hK hR kf_RR_20 rfl qr6 dd_RR_readRule_145 ?_
    obtain ⟨v7, qv7, hm⟩ := ss_bind hm
    refine ss_cV 0 0 (As := []) hC hK hR hS hl.1 (cc_T_isWell l G N _ _ _ qv7) km_RR_47 (ck_T_isWell qv7) ⟨Nat.le_of_ble_eq_true rfl, Nat.le_of_ble_eq_true rfl⟩ ⟨Nat.le_of_ble_eq_true rfl, Nat.le_of_ble_eq_true rfl, Nat.le_of_ble_eq_true rfl, Nat.le_of_ble_eq_true rfl⟩ rfl rfl (Nat.le_of_ble_eq_true rfl) dd_RR_readRule_148 (fun H locs hR hS => ?_)
    refine lv_if_eq (tgt := 180) hx hb dd_RR_readRule_151 (by decide) (fun c8 => ?_) (fun c8 => ?_)
    · have hm := ss_ift hm c8
      refine ss_null hx hb (ss_b G) dd_RR_readRule_180 ?_
      refine W.widen (k := 3) (n := 433) (Nat.le_of_ble_eq_true rfl) (Nat.le_of_ble_eq_true rfl) ?_
      exact J_181 none h_26_144 _ _ _ hm hR hS (lv_sub hl [] rfl)
    · have hm := ss_iff hm c8
      obtain ⟨r9, h10, qh10, hm⟩ := ss_bind2 hm
      refine ss_newo (N := 3) hC hK hR hS rfl kn_RR_63 rfl qh10 (Nat.le_of_ble_eq_true rfl) (Nat.le_of_ble_eq_true rfl) dd_RR_readRule_154 (fun H hR hS => ?_)
      refine W.widen (k := 1) (n := 3) (Nat.le_of_ble_eq_true rfl) (Nat.le_of_ble_eq_true rfl) ?_
      refine ss_dupr hx hb dd_RR_readRule_157 ?_
      refine ss_aload_n hx hb dd_RR_readRule_158 rfl (lv_at hl 0 rfl) ?_
      obtain ⟨r11, qr11, hm⟩ := ss_bind hm
      refine ss_getr hC hK hR kf_RR_11 rfl qr11 dd_RR_readRule_159 ?_
      refine ss_aload_n hx hb dd_RR_readRule_162 rfl (lv_at hl 0 rfl) ?_
      obtain ⟨v12, qv12, hm⟩ := ss_bind hm
      refine ss_geti hC hK hR kf_RR_24 qv12 dd_RR_readRule_163 ?_
      refine ss_aload_n hx hb dd_RR_readRule_166 rfl (lv_at hl 0 rfl) ?_
      obtain ⟨r13, qr13, hm⟩ := ss_bind hm
      refine ss_getr hC hK hR kf_RR_17 rfl qr13 dd_RR_readRule_167 ?_
      refine ss_aload_n hx hb dd_RR_readRule_170 rfl (lv_at hl 0 rfl) ?_
      obtain ⟨v14, qv14, hm⟩ := ss_bind hm
      refine ss_geti hC hK hR kf_RR_28 qv14 dd_RR_readRule_171 ?_
      obtain ⟨h15, qh15, hm⟩ := ss_bind hm
      refine ss_cI 3 433 (As := [ss_v (ss_b G) r11, .int v12, ss_v (ss_b G) r13, .int v14]) hC hK hR hS hl.1 (cc_Ru_init l G N _ _ _ _ _ _ _ qh15) km_RR_65 (ck_Ru_init qh15) ⟨Nat.le_of_ble_eq_true rfl, Nat.le_of_ble_eq_true rfl⟩ ⟨Nat.le_of_ble_eq_true rfl, Nat.le_of_ble_eq_true rfl, Nat.le_of_ble_eq_true rfl, Nat.le_of_ble_eq_true rfl⟩ rfl rfl (by simp [ss_v_cat, ss_cat_i, ss_cat_l, ss_cat_r]) dd_RR_readRule_174 (fun H locs hR hS => ?_)
      refine lv_goto (tgt := 181) hx hb dd_RR_readRule_177 (by decide) ?_
      exact J_181 r9 h15 _ _ _ hm hR hS (lv_sub hl [] rfl)
  have L_26 : ∀ (n : Nat) (x1_26 : Int32) (x2_26 : Int32) (h_26 : ss_Hp) (H : Heap) (locs : List Loc) (ls : Array Slot), ss_lp (mm_RR_readRule_b26 N this) n (x1_26, x2_26, h_26) = some e_26 → ss_R G h_26 H → va_S (ss_A G) s.heap H locs → lv_has ls 3 [(0, ss_v (ss_b G) this), (1, .int x1_26), (2, .int x2_26)] → ww_RR_readRule p l e s m below meth c G this h rr hh  H locs 0 0 (F0 m 26 ls []) := by
    intro n
    induction n with
    | zero => intro x1_26 x2_26 h_26 H locs ls hm; cases hm
    | succ n ih_26 =>
      intro x1_26 x2_26 h_26 H locs ls hm hR hS hl
      obtain ⟨z_26, hm, hz1_26, hz2_26⟩ := ss_lps hm
      have J_130 : ∀ (x2_130 : Int32) (h_130 : ss_Hp) (H : Heap) (locs : List Loc) (ls : Array Slot), mm_RR_readRule_j130 N this x2_130 h_130 = some z_26 → ss_R G h_130 H → va_S (ss_A G) s.heap H locs → lv_has ls 3 [(0, ss_v (ss_b G) this), (2, .int x2_130)] → ww_RR_readRule p l e s m below meth c G this h rr hh  H locs 0 0 (F0 m 130 ls []) := by
        intro x2_130 h_130 H locs ls hm hR hS hl
        refine ss_aload_n hx hb dd_RR_readRule_130 rfl (lv_at hl 0 rfl) ?_
        obtain ⟨r16, qr16, hm⟩ := ss_bind hm
        refine ss_getr hC hK hR kf_RR_20 rfl qr16 dd_RR_readRule_131 ?_
        obtain ⟨v17, h18, qh18, hm⟩ := ss_bind2 hm
        refine ss_cV 0 0 (As := []) hC hK hR hS hl.1 (cc_T_goesOn l G N _ _ _ _ qh18) km_RR_60 (ck_T_goesOn qh18) ⟨Nat.le_of_ble_eq_true rfl, Nat.le_of_ble_eq_true rfl⟩ ⟨Nat.le_of_ble_eq_true rfl, Nat.le_of_ble_eq_true rfl, Nat.le_of_ble_eq_true rfl, Nat.le_of_ble_eq_true rfl⟩ rfl rfl (Nat.le_of_ble_eq_true rfl) dd_RR_readRule_134 (fun H locs hR hS => ?_)
        refine lv_istore_n (lv' := [(1, .int v17), (0, ss_v (ss_b G) this), (2, .int x2_130)]) hx hb dd_RR_readRule_137 rfl hl (by decide) (by simp only [List.filter_cons, ss_v_cat]; rfl) (fun ls hl => ?_)
        obtain ⟨v19, qv19, hm⟩ := ss_bind hm
        refine lv_iinc (v := v19) (lv' := [(2, .int v19), (1, .int v17), (0, ss_v (ss_b G) this)]) hx hb dd_RR_readRule_138 hl (k := 2) rfl (ss_inc (by decide) qv19) (by decide) rfl (fun ls hl => ?_)
        refine lv_goto (tgt := 26) hx hb dd_RR_readRule_141 (by decide) ?_
        exact ih_26 v17 v19 h18 _ _ _ (hz1_26 _ (ss_some hm)) hR hS (lv_sub hl [2, 1, 0] rfl)
      have J_105 : ∀ (x2_105 : Int32) (h_105 : ss_Hp) (H : Heap) (locs : List Loc) (ls : Array Slot), mm_RR_readRule_j105 N this x2_105 h_105 = some z_26 → ss_R G h_105 H → va_S (ss_A G) s.heap H locs → lv_has ls 3 [(0, ss_v (ss_b G) this), (2, .int x2_105)] → ww_RR_readRule p l e s m below meth c G this h rr hh  H locs 0 0 (F0 m 105 ls []) := by
        intro x2_105 h_105 H locs ls hm hR hS hl
        refine ss_aload_n hx hb dd_RR_readRule_105 rfl (lv_at hl 0 rfl) ?_
        refine ss_dupr hx hb dd_RR_readRule_106 ?_
        obtain ⟨v20, qv20, hm⟩ := ss_bind hm
        refine ss_geti hC hK hR kf_RR_28 qv20 dd_RR_readRule_107 ?_
        refine lv_iconst (v := 1) hx hb dd_RR_readRule_110 (by decide) ?_
        refine lv_iadd hx hb dd_RR_readRule_111 ?_
        obtain ⟨h21, qh21, hm⟩ := ss_bind hm
        refine ss_puti hC hK hR hS kp_RR_28 qh21 dd_RR_readRule_112 (fun H locs hR hS => ?_)
        refine ss_aload_n hx hb dd_RR_readRule_115 rfl (lv_at hl 0 rfl) ?_
        obtain ⟨r22, qr22, hm⟩ := ss_bind hm
        refine ss_getr hC hK hR kf_RR_17 rfl qr22 dd_RR_readRule_116 ?_
        refine lv_iconst (v := 2) hx hb dd_RR_readRule_119 (by decide) ?_
        refine ss_aload_n hx hb dd_RR_readRule_120 rfl (lv_at hl 0 rfl) ?_
        obtain ⟨v23, qv23, hm⟩ := ss_bind hm
        refine ss_geti hC hK hR kf_RR_28 qv23 dd_RR_readRule_121 ?_
        refine lv_imul hx hb dd_RR_readRule_124 ?_
        refine ss_aload_n hx hb dd_RR_readRule_125 rfl (lv_at hl 0 rfl) ?_
        obtain ⟨v24, qv24, hm⟩ := ss_bind hm
        refine ss_geti hC hK hR kf_RR_24 qv24 dd_RR_readRule_126 ?_
        obtain ⟨h25, qh25, hm⟩ := ss_bind hm
        refine ss_iast hC hK hR hS qh25 dd_RR_readRule_129 (fun H locs hR hS => ?_)
        exact J_130 x2_105 h25 _ _ _ hm hR hS hl
      refine lv_iload_n hx hb dd_RR_readRule_26 rfl (lv_at hl 1 rfl) ?_
      refine lv_if_eq (tgt := 144) hx hb dd_RR_readRule_27 (by decide) (fun c26 => ?_) (fun c26 => ?_)
      · have hm := ss_ift hm c26
        exact X_26_144 h_26 _ _ _ (hz2_26 _ (ss_some hm)) hR hS (lv_sub hl [0] rfl)
      · have hm := ss_iff hm c26
        refine lv_iload_n hx hb dd_RR_readRule_30 rfl (lv_at hl 2 rfl) ?_
        refine lv_bipush (v := 12) hx hb dd_RR_readRule_31 (by decide) ?_
        refine lv_icmp_gt (tgt := 144) hx hb dd_RR_readRule_33 (by decide) (fun c27 => ?_) (fun c27 => ?_)
        · have hm := ss_ift hm c27
          exact X_26_144 h_26 _ _ _ (hz2_26 _ (ss_some hm)) hR hS (lv_sub hl [0] rfl)
        · have hm := ss_iff hm c27
          refine ss_aload_n hx hb dd_RR_readRule_36 rfl (lv_at hl 0 rfl) ?_
          obtain ⟨v28, h29, qh29, hm⟩ := ss_bind2 hm
          refine ss_cV 0 0 (As := []) hC hK hR hS hl.1 (cc_RR_begins l G N _ _ _ _ qh29) km_RR_37 (ck_RR_begins qh29) ⟨Nat.le_of_ble_eq_true rfl, Nat.le_of_ble_eq_true rfl⟩ ⟨Nat.le_of_ble_eq_true rfl, Nat.le_of_ble_eq_true rfl, Nat.le_of_ble_eq_true rfl, Nat.le_of_ble_eq_true rfl⟩ rfl rfl (Nat.le_of_ble_eq_true rfl) dd_RR_readRule_37 (fun H locs hR hS => ?_)
          refine lv_if_eq (tgt := 130) hx hb dd_RR_readRule_40 (by decide) (fun c30 => ?_) (fun c30 => ?_)
          · have hm := ss_ift hm c30
            exact J_130 x2_26 h29 _ _ _ hm hR hS (lv_sub hl [0, 2] rfl)
          · have hm := ss_iff hm c30
            refine ss_aload_n hx hb dd_RR_readRule_43 rfl (lv_at hl 0 rfl) ?_
            obtain ⟨r31, qr31, hm⟩ := ss_bind hm
            refine ss_getr hC hK hR kf_RR_20 rfl qr31 dd_RR_readRule_44 ?_
            obtain ⟨h32, qh32, hm⟩ := ss_bind hm
            refine ss_cVv 0 0 (As := []) hC hK hR hS hl.1 (cc_T_advance l G N _ _ _ qh32) km_RR_41 (ck_T_advance qh32) ⟨Nat.le_of_ble_eq_true rfl, Nat.le_of_ble_eq_true rfl⟩ ⟨Nat.le_of_ble_eq_true rfl, Nat.le_of_ble_eq_true rfl, Nat.le_of_ble_eq_true rfl, Nat.le_of_ble_eq_true rfl⟩ rfl rfl (Nat.le_of_ble_eq_true rfl) dd_RR_readRule_47 (fun H locs hR hS => ?_)
            refine ss_aload_n hx hb dd_RR_readRule_50 rfl (lv_at hl 0 rfl) ?_
            obtain ⟨h33, qh33, hm⟩ := ss_bind hm
            refine ss_cVv 0 0 (As := []) hC hK hR hS hl.1 (cc_RR_readSum l G N _ _ _ qh33) km_RR_44 (ck_RR_readSum qh33) ⟨Nat.le_of_ble_eq_true rfl, Nat.le_of_ble_eq_true rfl⟩ ⟨Nat.le_of_ble_eq_true rfl, Nat.le_of_ble_eq_true rfl, Nat.le_of_ble_eq_true rfl, Nat.le_of_ble_eq_true rfl⟩ rfl rfl (Nat.le_of_ble_eq_true rfl) dd_RR_readRule_51 (fun H locs hR hS => ?_)
            refine ss_aload_n hx hb dd_RR_readRule_54 rfl (lv_at hl 0 rfl) ?_
            obtain ⟨r34, qr34, hm⟩ := ss_bind hm
            refine ss_getr hC hK hR kf_RR_17 rfl qr34 dd_RR_readRule_55 ?_
            refine lv_iconst (v := 2) hx hb dd_RR_readRule_58 (by decide) ?_
            refine ss_aload_n hx hb dd_RR_readRule_59 rfl (lv_at hl 0 rfl) ?_
            obtain ⟨v35, qv35, hm⟩ := ss_bind hm
            refine ss_geti hC hK hR kf_RR_28 qv35 dd_RR_readRule_60 ?_
            refine lv_imul hx hb dd_RR_readRule_63 ?_
            refine lv_iconst (v := 1) hx hb dd_RR_readRule_64 (by decide) ?_
            refine lv_iadd hx hb dd_RR_readRule_65 ?_
            refine ss_aload_n hx hb dd_RR_readRule_66 rfl (lv_at hl 0 rfl) ?_
            obtain ⟨v36, qv36, hm⟩ := ss_bind hm
            refine ss_geti hC hK hR kf_RR_24 qv36 dd_RR_readRule_67 ?_
            obtain ⟨h37, qh37, hm⟩ := ss_bind hm
            refine ss_iast hC hK hR hS qh37 dd_RR_readRule_70 (fun H locs hR hS => ?_)
            refine ss_aload_n hx hb dd_RR_readRule_71 rfl (lv_at hl 0 rfl) ?_
            obtain ⟨r38, qr38, hm⟩ := ss_bind hm
            refine ss_getr hC hK hR kf_RR_20 rfl qr38 dd_RR_readRule_72 ?_
            obtain ⟨v39, qv39, hm⟩ := ss_bind hm
            refine ss_cV 0 0 (As := []) hC hK hR hS hl.1 (cc_T_isWell l G N _ _ _ qv39) km_RR_47 (ck_T_isWell qv39) ⟨Nat.le_of_ble_eq_true rfl, Nat.le_of_ble_eq_true rfl⟩ ⟨Nat.le_of_ble_eq_true rfl, Nat.le_of_ble_eq_true rfl, Nat.le_of_ble_eq_true rfl, Nat.le_of_ble_eq_true rfl⟩ rfl rfl (Nat.le_of_ble_eq_true rfl) dd_RR_readRule_75 (fun H locs hR hS => ?_)
            refine lv_if_eq (tgt := 105) hx hb dd_RR_readRule_78 (by decide) (fun c40 => ?_) (fun c40 => ?_)
            · have hm := ss_ift hm c40
              exact J_105 x2_26 h37 _ _ _ hm hR hS (lv_sub hl [0, 2] rfl)
            · have hm := ss_iff hm c40
              refine ss_aload_n hx hb dd_RR_readRule_81 rfl (lv_at hl 0 rfl) ?_
              obtain ⟨r41, qr41, hm⟩ := ss_bind hm
              refine ss_getr hC hK hR kf_RR_20 rfl qr41 dd_RR_readRule_82 ?_
              refine va_ldcS hx hb hC.2.2.2.1 (ss_sr_4 hK) dd_RR_readRule_85 ?_
              obtain ⟨v42, qv42, hm⟩ := ss_bind hm
              refine ss_cV 0 0 (As := [.ref (G.2.2.2.1 4)]) hC hK hR hS hl.1 (cc_T_isWord l G N _ _ _ _ qv42) km_RR_52 (ck_T_isWord qv42) ⟨Nat.le_of_ble_eq_true rfl, Nat.le_of_ble_eq_true rfl⟩ ⟨Nat.le_of_ble_eq_true rfl, Nat.le_of_ble_eq_true rfl, Nat.le_of_ble_eq_true rfl, Nat.le_of_ble_eq_true rfl⟩ rfl rfl (Nat.le_of_ble_eq_true rfl) dd_RR_readRule_87 (fun H locs hR hS => ?_)
              refine lv_if_eq (tgt := 105) hx hb dd_RR_readRule_90 (by decide) (fun c43 => ?_) (fun c43 => ?_)
              · have hm := ss_ift hm c43
                exact J_105 x2_26 h37 _ _ _ hm hR hS (lv_sub hl [0, 2] rfl)
              · have hm := ss_iff hm c43
                refine ss_aload_n hx hb dd_RR_readRule_93 rfl (lv_at hl 0 rfl) ?_
                obtain ⟨r44, qr44, hm⟩ := ss_bind hm
                refine ss_getr hC hK hR kf_RR_20 rfl qr44 dd_RR_readRule_94 ?_
                obtain ⟨h45, qh45, hm⟩ := ss_bind hm
                refine ss_cVv 0 0 (As := []) hC hK hR hS hl.1 (cc_T_advance l G N _ _ _ qh45) km_RR_41 (ck_T_advance qh45) ⟨Nat.le_of_ble_eq_true rfl, Nat.le_of_ble_eq_true rfl⟩ ⟨Nat.le_of_ble_eq_true rfl, Nat.le_of_ble_eq_true rfl, Nat.le_of_ble_eq_true rfl, Nat.le_of_ble_eq_true rfl⟩ rfl rfl (Nat.le_of_ble_eq_true rfl) dd_RR_readRule_97 (fun H locs hR hS => ?_)
                refine ss_aload_n hx hb dd_RR_readRule_100 rfl (lv_at hl 0 rfl) ?_
                refine lv_iconst (v := 0) hx hb dd_RR_readRule_101 (by decide) ?_
                obtain ⟨h46, qh46, hm⟩ := ss_bind hm
                refine ss_cVv 0 0 (As := [.int (0 : Int32)]) hC hK hR hS hl.1 ((cc_RR_rec l G N 12).2 _ _ _ _ qh46).2 km_RR_56 ((cc_RR_rec l G N 12).2 _ _ _ _ qh46).1 ⟨Nat.le_of_ble_eq_true rfl, Nat.le_of_ble_eq_true rfl⟩ ⟨Nat.le_of_ble_eq_true rfl, Nat.le_of_ble_eq_true rfl, Nat.le_of_ble_eq_true rfl, Nat.le_of_ble_eq_true rfl⟩ rfl rfl (Nat.le_of_ble_eq_true rfl) dd_RR_readRule_102 (fun H locs hR hS => ?_)
                exact J_105 x2_26 h46 _ _ _ hm hR hS (lv_sub hl [0, 2] rfl)
  exact L_26 N (1 : Int32) (0 : Int32) h5 _ _ _ he_26 hR hS (lv_sub hl [2, 1, 0] rfl)
