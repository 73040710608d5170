theorem dd_S_rule_0 : decode bb_S_rule 0 = .ok (.aload_n 0, 1) := by decide +kernel
theorem dd_S_rule_1 : decode bb_S_rule 1 = .ok (.getfield 113, 3) := by decide +kernel
theorem dd_S_rule_4 : decode bb_S_rule 4 = .ok (.aload_n 0, 1) := by decide +kernel
theorem dd_S_rule_5 : decode bb_S_rule 5 = .ok (.getfield 34, 3) := by decide +kernel
theorem dd_S_rule_8 : decode bb_S_rule 8 = .ok (.arraylength, 1) := by decide +kernel
theorem dd_S_rule_9 : decode bb_S_rule 9 = .ok (.if_icmp .lt 5, 3) := by decide +kernel
theorem dd_S_rule_12 : decode bb_S_rule 12 = .ok (.iconst (-1), 1) := by decide +kernel
theorem dd_S_rule_13 : decode bb_S_rule 13 = .ok (.ireturn, 1) := by decide +kernel
theorem dd_S_rule_14 : decode bb_S_rule 14 = .ok (.aload_n 0, 1) := by decide +kernel
theorem dd_S_rule_15 : decode bb_S_rule 15 = .ok (.getfield 28, 3) := by decide +kernel
theorem dd_S_rule_18 : decode bb_S_rule 18 = .ok (.invokevirtual 116, 3) := by decide +kernel
theorem dd_S_rule_21 : decode bb_S_rule 21 = .ok (.astore_n 1, 1) := by decide +kernel
theorem dd_S_rule_22 : decode bb_S_rule 22 = .ok (.aload_n 0, 1) := by decide +kernel
theorem dd_S_rule_23 : decode bb_S_rule 23 = .ok (.getfield 10, 3) := by decide +kernel
theorem dd_S_rule_26 : decode bb_S_rule 26 = .ok (.iconst 0, 1) := by decide +kernel
theorem dd_S_rule_27 : decode bb_S_rule 27 = .ok (.putfield 87, 3) := by decide +kernel
theorem dd_S_rule_30 : decode bb_S_rule 30 = .ok (.aload_n 1, 1) := by decide +kernel
theorem dd_S_rule_31 : decode bb_S_rule 31 = .ok (.ifnonnull 14, 3) := by decide +kernel
theorem dd_S_rule_34 : decode bb_S_rule 34 = .ok (.bipush (-2), 2) := by decide +kernel
theorem dd_S_rule_36 : decode bb_S_rule 36 = .ok (.aload_n 0, 1) := by decide +kernel
theorem dd_S_rule_37 : decode bb_S_rule 37 = .ok (.getfield 10, 3) := by decide +kernel
theorem dd_S_rule_40 : decode bb_S_rule 40 = .ok (.getfield 99, 3) := by decide +kernel
theorem dd_S_rule_43 : decode bb_S_rule 43 = .ok (.isub, 1) := by decide +kernel
theorem dd_S_rule_44 : decode bb_S_rule 44 = .ok (.ireturn, 1) := by decide +kernel
theorem dd_S_rule_45 : decode bb_S_rule 45 = .ok (.aload_n 0, 1) := by decide +kernel
theorem dd_S_rule_46 : decode bb_S_rule 46 = .ok (.getfield 34, 3) := by decide +kernel
theorem dd_S_rule_49 : decode bb_S_rule 49 = .ok (.aload_n 0, 1) := by decide +kernel
theorem dd_S_rule_50 : decode bb_S_rule 50 = .ok (.getfield 113, 3) := by decide +kernel
theorem dd_S_rule_53 : decode bb_S_rule 53 = .ok (.aload_n 1, 1) := by decide +kernel
theorem dd_S_rule_54 : decode bb_S_rule 54 = .ok (.aastore, 1) := by decide +kernel
theorem dd_S_rule_55 : decode bb_S_rule 55 = .ok (.aload_n 0, 1) := by decide +kernel
theorem dd_S_rule_56 : decode bb_S_rule 56 = .ok (.dup, 1) := by decide +kernel
theorem dd_S_rule_57 : decode bb_S_rule 57 = .ok (.getfield 113, 3) := by decide +kernel
theorem dd_S_rule_60 : decode bb_S_rule 60 = .ok (.iconst 1, 1) := by decide +kernel
theorem dd_S_rule_61 : decode bb_S_rule 61 = .ok (.iadd, 1) := by decide +kernel
theorem dd_S_rule_62 : decode bb_S_rule 62 = .ok (.putfield 113, 3) := by decide +kernel
theorem dd_S_rule_65 : decode bb_S_rule 65 = .ok (.aload_n 0, 1) := by decide +kernel
theorem dd_S_rule_66 : decode bb_S_rule 66 = .ok (.getfield 113, 3) := by decide +kernel
theorem dd_S_rule_69 : decode bb_S_rule 69 = .ok (.iconst 1, 1) := by decide +kernel
theorem dd_S_rule_70 : decode bb_S_rule 70 = .ok (.isub, 1) := by decide +kernel
theorem dd_S_rule_71 : decode bb_S_rule 71 = .ok (.ireturn, 1) := by decide +kernel
def mm_S_rule (N : Nat) (this : Option Nat) (h : ss_Hp) : Option (Int32 × ss_Hp) :=
  if ss_is h this 11 = true then
    (ss_gi h this 11 0).bind fun v1 =>
    (ss_gr h this 11 3).bind fun r2 =>
    (ss_len h r2 25).bind fun v3 =>
    if v1 < v3 then
      (ss_gr h this 11 2).bind fun r5 =>
      ss_b2 (mm_RR_readRule N r5 h) fun r6 h7 =>
      (ss_gr h7 this 11 0).bind fun r8 =>
      (ss_pi h7 r8 2 0 (0 : Int32)).bind fun h9 =>
      if r6.isSome = true then
        (ss_gr h9 this 11 3).bind fun r11 =>
        (ss_gi h9 this 11 0).bind fun v12 =>
        (ss_ur h9 r11 25 1 v12 r6).bind fun h13 =>
        (ss_gi h13 this 11 0).bind fun v14 =>
        (ss_pi h13 this 11 0 (v14 + (1 : Int32))).bind fun h15 =>
        (ss_gi h15 this 11 0).bind fun v16 =>
        some ((v16 - (1 : Int32)), h15)
      else
        (ss_gr h9 this 11 0).bind fun r17 =>
        (ss_gi h9 r17 2 1).bind fun v18 =>
        some (((-2 : Int32) - v18), h9)
    else
      some ((-1 : Int32), h)
  else none
abbrev ww_S_rule (p : Program) (l : Launch) (e : Env) (s : State) (m : MethodId) (below : List Frame) (meth : Method) (c : Code) (G : ss_G) (this : Option Nat) (h : ss_Hp) (rr : Int32) (hh : ss_Hp) (H : Heap) (locs : List Loc) (k n : Nat) (g : JFrame) : Prop := W p l e (headSpec (ss_w yy_S_rule bb_S_rule 2 (some (.int))) ({ frames := 71, cells := 3, slots := 433, locals := 1676 })).room s m ([ss_v (ss_b G) this] : List Value).toArray below meth c H locs k n (MQ below (ss_Qc G (some (.int rr)) hh) ([ss_v (ss_b G) this] : List Value).toArray s 3 433 (ss_A G)) g
theorem ck_S_rule {N : Nat} {this : Option Nat} {h : ss_Hp} {res : Int32 × ss_Hp} (hm : mm_S_rule N this h = some res) : ss_is h this 11 = true := (ss_chk hm).1
set_option maxHeartbeats 4000000 in
set_option maxRecDepth 100000 in
theorem cc_S_rule (l : Launch) (G : ss_G) (N : Nat) (this : Option Nat) (h : ss_Hp) (rr : Int32) (hh : ss_Hp) (hm : mm_S_rule N this h = some (rr, hh)) : ss_Ct l G yy_S_rule bb_S_rule 2 (some (.int)) ({ frames := 71, cells := 3, slots := 433, locals := 1676 }) [ss_v (ss_b G) this] h (some (.int rr)) hh := by
  obtain ⟨hck, hm⟩ := ss_chk hm
  refine Met.ofW (cc := bb_S_rule) (maxL := 2) (ret := (some (.int))) (by decide) rfl ?_
  intro p e s m args below meth c s₁ B hml hv
  obtain ⟨rfl, hR, hK⟩ := hv
  have hC : CallFix p m c bb_S_rule 2 s _ lw_g sR_11 := ⟨B.exec, B.bytes, hml, findClass_of_methodNamed B.named, fun w hw => atoms_spec (ws := ss_w yy_S_rule bb_S_rule 2 (some (.int))) B.pre w (List.mem_cons_of_mem _ hw)⟩
  have hx := hC.1
  have hb := hC.2.1
  have hr := B.returns
  have hlocks := B.notSynchronized
  have hS : va_S (ss_A G) s.heap s.heap [] := va_S.rf
  have hl := lv_entry ([ss_v (ss_b G) this]) (n := 2) (by simp [lg_sl, ss_v_cat, ss_cat_i, ss_cat_l, ss_cat_r])
  rw [lg_entry_eq]
  generalize (lg_sl ([ss_v (ss_b G) this]) ++ List.replicate (2 - (lg_sl ([ss_v (ss_b G) this])).length) Slot.unset).toArray = ls at hl ⊢
  have hl : lv_has ls 2 [(0, ss_v (ss_b G) this)] := by simpa [lv_args, ss_v_cat, ss_cat_i, ss_cat_l, ss_cat_r] using hl
  refine ss_aload_n hx hb dd_S_rule_0 rfl (lv_at hl 0 rfl) ?_
  obtain ⟨v1, qv1, hm⟩ := ss_bind hm
  refine ss_geti hC hK hR kf_S_113 qv1 dd_S_rule_1 ?_
  refine ss_aload_n hx hb dd_S_rule_4 rfl (lv_at hl 0 rfl) ?_
  obtain ⟨r2, qr2, hm⟩ := ss_bind hm
  refine ss_getr hC hK hR kf_S_34 rfl qr2 dd_S_rule_5 ?_
  obtain ⟨v3, qv3, hm⟩ := ss_bind hm
  refine ss_alenQ hC hK hR (t0 := 5) rfl (by decide) qv3 dd_S_rule_8 ?_
  refine lv_icmp_lt (tgt := 14) hx hb dd_S_rule_9 (by decide) (fun c4 => ?_) (fun c4 => ?_)
  · have hm := ss_ift hm c4
    refine ss_aload_n hx hb dd_S_rule_14 rfl (lv_at hl 0 rfl) ?_
    obtain ⟨r5, qr5, hm⟩ := ss_bind hm
    refine ss_getr hC hK hR kf_S_28 rfl qr5 dd_S_rule_15 ?_
    obtain ⟨r6, h7, qh7, hm⟩ := ss_bind2 hm
    refine ss_cV 3 433 (As := []) hC hK hR hS hl.1 (cc_RR_readRule l G N _ _ _ _ qh7) km_S_116 (ck_RR_readRule qh7) ⟨Nat.le_of_ble_eq_true rfl, Nat.le_of_ble_eq_true rfl⟩ ⟨Nat.le_of_ble_eq_true rfl, Nat.le_of_ble_eq_true rfl, Nat.le_of_ble_eq_true rfl, Nat.le_of_ble_eq_true rfl⟩ rfl rfl (Nat.le_of_ble_eq_true rfl) dd_S_rule_18 (fun H locs hR hS => ?_)
    refine ss_astore_n (lv' := [(1, ss_v (ss_b G) r6), (0, ss_v (ss_b G) this)]) hx hb dd_S_rule_21 rfl hl (by decide) (by simp only [List.filter_cons, ss_v_cat]; rfl) (fun ls hl => ?_)
    refine ss_aload_n hx hb dd_S_rule_22 rfl (lv_at hl 1 rfl) ?_
    obtain ⟨r8, qr8, hm⟩ := ss_bind hm
    refine ss_getr hC hK hR kf_S_10 rfl qr8 dd_S_rule_23 ?_
    refine lv_iconst (v := 0) hx hb dd_S_rule_26 (by decide) ?_
    obtain ⟨h9, qh9, hm⟩ := ss_bind hm
    refine ss_puti hC hK hR hS kp_S_87 qh9 dd_S_rule_27 (fun H locs hR hS => ?_)
    refine ss_aload_n hx hb dd_S_rule_30 rfl (lv_at hl 0 rfl) ?_
    refine ss_ifnonnull (tgt := 45) hx hb dd_S_rule_31 (by decide) (fun c10 => ?_) (fun c10 => ?_)
    · have hm := ss_ift hm c10
      refine ss_aload_n hx hb dd_S_rule_45 rfl (lv_at hl 1 rfl) ?_
      obtain ⟨r11, qr11, hm⟩ := ss_bind hm
      refine ss_getr hC hK hR kf_S_34 rfl qr11 dd_S_rule_46 ?_
      refine ss_aload_n hx hb dd_S_rule_49 rfl (lv_at hl 1 rfl) ?_
      obtain ⟨v12, qv12, hm⟩ := ss_bind hm
      refine ss_geti hC hK hR kf_S_113 qv12 dd_S_rule_50 ?_
      refine ss_aload_n hx hb dd_S_rule_53 rfl (lv_at hl 0 rfl) ?_
      obtain ⟨h13, qh13, hm⟩ := ss_bind hm
      refine ss_aast hC hK hR hS (t0 := 5) (q0 := (sR_1, sT_1, 3)) rfl (by decide) rfl qh13 dd_S_rule_54 (fun H locs hR hS => ?_)
      refine ss_aload_n hx hb dd_S_rule_55 rfl (lv_at hl 1 rfl) ?_
      refine ss_dupr hx hb dd_S_rule_56 ?_
      obtain ⟨v14, qv14, hm⟩ := ss_bind hm
      refine ss_geti hC hK hR kf_S_113 qv14 dd_S_rule_57 ?_
      refine lv_iconst (v := 1) hx hb dd_S_rule_60 (by decide) ?_
      refine lv_iadd hx hb dd_S_rule_61 ?_
      obtain ⟨h15, qh15, hm⟩ := ss_bind hm
      refine ss_puti hC hK hR hS kp_S_113 qh15 dd_S_rule_62 (fun H locs hR hS => ?_)
      refine ss_aload_n hx hb dd_S_rule_65 rfl (lv_at hl 1 rfl) ?_
      obtain ⟨v16, qv16, hm⟩ := ss_bind hm
      refine ss_geti hC hK hR kf_S_113 qv16 dd_S_rule_66 ?_
      refine lv_iconst (v := 1) hx hb dd_S_rule_69 (by decide) ?_
      refine lv_isub hx hb dd_S_rule_70 ?_
      exact ss_iret hC hr hlocks hR hS hm dd_S_rule_71
    · have hm := ss_iff hm c10
      refine lv_bipush (v := -2) hx hb dd_S_rule_34 (by decide) ?_
      refine ss_aload_n hx hb dd_S_rule_36 rfl (lv_at hl 1 rfl) ?_
      obtain ⟨r17, qr17, hm⟩ := ss_bind hm
      refine ss_getr hC hK hR kf_S_10 rfl qr17 dd_S_rule_37 ?_
      obtain ⟨v18, qv18, hm⟩ := ss_bind hm
      refine ss_geti hC hK hR kf_S_99 qv18 dd_S_rule_40 ?_
      refine lv_isub hx hb dd_S_rule_43 ?_
      exact ss_iret hC hr hlocks hR hS hm dd_S_rule_44
  · have hm := ss_iff hm c4
    refine lv_iconst (v := -1) hx hb dd_S_rule_12 (by decide) ?_
    refine W.widen (k := 3) (n := 433) (Nat.le_of_ble_eq_true rfl) (Nat.le_of_ble_eq_true rfl) ?_
    exact ss_iret hC hr hlocks hR hS hm dd_S_rule_13
theorem dd_S_force_0 : decode bb_S_force 0 = .ok (.iload_n 1, 1) := by decide +kernel
theorem dd_S_force_1 : decode bb_S_force 1 = .ok (.iconst (-1), 1) := by decide +kernel
theorem dd_S_force_2 : decode bb_S_force 2 = .ok (.if_icmp .lt 11, 3) := by decide +kernel
theorem dd_S_force_5 : decode bb_S_force 5 = .ok (.iload_n 1, 1) := by decide +kernel
theorem dd_S_force_6 : decode bb_S_force 6 = .ok (.aload_n 0, 1) := by decide +kernel
theorem dd_S_force_7 : decode bb_S_force 7 = .ok (.getfield 113, 3) := by decide +kernel
theorem dd_S_force_10 : decode bb_S_force 10 = .ok (.if_icmp .lt 6, 3) := by decide +kernel
theorem dd_S_force_13 : decode bb_S_force 13 = .ok (.bipush (-2), 2) := by decide +kernel
theorem dd_S_force_15 : decode bb_S_force 15 = .ok (.ireturn, 1) := by decide +kernel
theorem dd_S_force_16 : decode bb_S_force 16 = .ok (.aload_n 0, 1) := by decide +kernel
theorem dd_S_force_17 : decode bb_S_force 17 = .ok (.getfield 41, 3) := by decide +kernel
theorem dd_S_force_20 : decode bb_S_force 20 = .ok (.getfield 120, 3) := by decide +kernel
theorem dd_S_force_23 : decode bb_S_force 23 = .ok (.istore_n 2, 1) := by decide +kernel
theorem dd_S_force_24 : decode bb_S_force 24 = .ok (.aload_n 0, 1) := by decide +kernel
theorem dd_S_force_25 : decode bb_S_force 25 = .ok (.getfield 41, 3) := by decide +kernel
theorem dd_S_force_28 : decode bb_S_force 28 = .ok (.iload_n 1, 1) := by decide +kernel
theorem dd_S_force_29 : decode bb_S_force 29 = .ok (.putfield 120, 3) := by decide +kernel
theorem dd_S_force_32 : decode bb_S_force 32 = .ok (.iload_n 2, 1) := by decide +kernel
theorem dd_S_force_33 : decode bb_S_force 33 = .ok (.ireturn, 1) := by decide +kernel
def mm_S_force_j13 (N : Nat) (this : Option Nat) (a1 : Int32) (h_13 : ss_Hp) : Option (Int32 × ss_Hp) :=
  some ((-2 : Int32), h_13)
def mm_S_force (N : Nat) (this : Option Nat) (a1 : Int32) (h : ss_Hp) : Option (Int32 × ss_Hp) :=
  if ss_is h this 11 = true then
    if a1 < (-1 : Int32) then
      mm_S_force_j13 N this a1 h
    else
      (ss_gi h this 11 0).bind fun v2 =>
      if a1 < v2 then
        (ss_gr h this 11 4).bind fun r4 =>
        (ss_gi h r4 8 0).bind fun v5 =>
        (ss_gr h this 11 4).bind fun r6 =>
        (ss_pi h r6 8 0 a1).bind fun h7 =>
        some (v5, h7)
      else
        mm_S_force_j13 N this a1 h
  else none
abbrev ww_S_force (p : Program) (l : Launch) (e : Env) (s : State) (m : MethodId) (below : List Frame) (meth : Method) (c : Code) (G : ss_G) (this : Option Nat) (a1 : Int32) (h : ss_Hp) (rr : Int32) (hh : ss_Hp) (H : Heap) (locs : List Loc) (k n : Nat) (g : JFrame) : Prop := W p l e (headSpec (ss_w yy_S_force bb_S_force 3 (some (.int))) ({ frames := 0, cells := 0, slots := 0, locals := 0 })).room s m ([ss_v (ss_b G) this, .int a1] : List Value).toArray below meth c H locs k n (MQ below (ss_Qc G (some (.int rr)) hh) ([ss_v (ss_b G) this, .int a1] : List Value).toArray s 0 0 (ss_A G)) g
theorem ck_S_force {N : Nat} {this : Option Nat} {a1 : Int32} {h : ss_Hp} {res : Int32 × ss_Hp} (hm : mm_S_force N this a1 h = some res) : ss_is h this 11 = true := (ss_chk hm).1
set_option maxHeartbeats 4000000 in
set_option maxRecDepth 100000 in
theorem cc_S_force (l : Launch) (G : ss_G) (N : Nat) (this : Option Nat) (a1 : Int32) (h : ss_Hp) (rr : Int32) (hh : ss_Hp) (hm : mm_S_force N this a1 h = some (rr, hh)) : ss_Ct l G yy_S_force bb_S_force 3 (some (.int)) ({ frames := 0, cells := 0, slots := 0, locals := 0 }) [ss_v (ss_b G) this, .int a1] h (some (.int rr)) hh := by
  obtain ⟨hck, hm⟩ := ss_chk hm
  refine Met.ofW (cc := bb_S_force) (maxL := 3) (ret := (some (.int))) (by decide) rfl ?_
  intro p e s m args below meth c s₁ B hml hv
  obtain ⟨rfl, hR, hK⟩ := hv
  have hC : CallFix p m c bb_S_force 3 s _ lw_g sR_11 := ⟨B.exec, B.bytes, hml, findClass_of_methodNamed B.named, fun w hw => atoms_spec (ws := ss_w yy_S_force bb_S_force 3 (some (.int))) B.pre w (List.mem_cons_of_mem _ hw)⟩
  have hx := hC.1
  have hb := hC.2.1
  have hr := B.returns
  have hlocks := B.notSynchronized
  have hS : va_S (ss_A G) s.heap s.heap [] := va_S.rf
  have hl := lv_entry ([ss_v (ss_b G) this, .int a1]) (n := 3) (by simp [lg_sl, ss_v_cat, ss_cat_i, ss_cat_l, ss_cat_r])
  rw [lg_entry_eq]
  generalize (lg_sl ([ss_v (ss_b G) this, .int a1]) ++ List.replicate (3 - (lg_sl ([ss_v (ss_b G) this, .int a1])).length) Slot.unset).toArray = ls at hl ⊢
  have hl : lv_has ls 3 [(0, ss_v (ss_b G) this), (1, .int a1)] := by simpa [lv_args, ss_v_cat, ss_cat_i, ss_cat_l, ss_cat_r] using hl
  have J_13 : ∀ (h_13 : ss_Hp) (H : Heap) (locs : List Loc) (ls : Array Slot), mm_S_force_j13 N this a1 h_13 = some (rr, hh) → ss_R G h_13 H → va_S (ss_A G) s.heap H locs → lv_has ls 3 [] → ww_S_force p l e s m below meth c G this a1 h rr hh  H locs 0 0 (F0 m 13 ls []) := by
    intro h_13 H locs ls hm hR hS hl
    refine lv_bipush (v := -2) hx hb dd_S_force_13 (by decide) ?_
    exact ss_iret hC hr hlocks hR hS hm dd_S_force_15
  refine lv_iload_n hx hb dd_S_force_0 rfl (lv_at hl 1 rfl) ?_
  refine lv_iconst (v := -1) hx hb dd_S_force_1 (by decide) ?_
  refine lv_icmp_lt (tgt := 13) hx hb dd_S_force_2 (by decide) (fun c1 => ?_) (fun c1 => ?_)
  · have hm := ss_ift hm c1
    exact J_13 h _ _ _ hm hR hS (lv_sub hl [] rfl)
  · have hm := ss_iff hm c1
    refine lv_iload_n hx hb dd_S_force_5 rfl (lv_at hl 1 rfl) ?_
    refine ss_aload_n hx hb dd_S_force_6 rfl (lv_at hl 0 rfl) ?_
    obtain ⟨v2, qv2, hm⟩ := ss_bind hm
    refine ss_geti hC hK hR kf_S_113 qv2 dd_S_force_7 ?_
    refine lv_icmp_lt (tgt := 16) hx hb dd_S_force_10 (by decide) (fun c3 => ?_) (fun c3 => ?_)
    · have hm := ss_ift hm c3
      refine ss_aload_n hx hb dd_S_force_16 rfl (lv_at hl 0 rfl) ?_
      obtain ⟨r4, qr4, hm⟩ := ss_bind hm
      refine ss_getr hC hK hR kf_S_41 rfl qr4 dd_S_force_17 ?_
      obtain ⟨v5, qv5, hm⟩ := ss_bind hm
      refine ss_geti hC hK hR kf_S_120 qv5 dd_S_force_20 ?_
      refine lv_istore_n (lv' := [(2, .int v5), (0, ss_v (ss_b G) this), (1, .int a1)]) hx hb dd_S_force_23 rfl hl (by decide) rfl (fun ls hl => ?_)
      refine ss_aload_n hx hb dd_S_force_24 rfl (lv_at hl 1 rfl) ?_
      obtain ⟨r6, qr6, hm⟩ := ss_bind hm
      refine ss_getr hC hK hR kf_S_41 rfl qr6 dd_S_force_25 ?_
      refine lv_iload_n hx hb dd_S_force_28 rfl (lv_at hl 2 rfl) ?_
      obtain ⟨h7, qh7, hm⟩ := ss_bind hm
      refine ss_puti hC hK hR hS kp_S_120 qh7 dd_S_force_29 (fun H locs hR hS => ?_)
      refine lv_iload_n hx hb dd_S_force_32 rfl (lv_at hl 0 rfl) ?_
      exact ss_iret hC hr hlocks hR hS hm dd_S_force_33
    · have hm := ss_iff hm c3
      exact J_13 h _ _ _ hm hR hS (lv_sub hl [] rfl)
theorem dd_S_isStep_0 : decode bb_S_isStep 0 = .ok (.iload_n 1, 1) := by decide +kernel
theorem dd_S_isStep_1 : decode bb_S_isStep 1 = .ok (.ifCond .lt 21, 3) := by decide +kernel
theorem dd_S_isStep_4 : decode bb_S_isStep 4 = .ok (.iload_n 1, 1) := by decide +kernel
theorem dd_S_isStep_5 : decode bb_S_isStep 5 = .ok (.aload_n 0, 1) := by decide +kernel
theorem dd_S_isStep_6 : decode bb_S_isStep 6 = .ok (.getfield 41, 3) := by decide +kernel
theorem dd_S_isStep_9 : decode bb_S_isStep 9 = .ok (.getfield 58, 3) := by decide +kernel
theorem dd_S_isStep_12 : decode bb_S_isStep 12 = .ok (.getfield 108, 3) := by decide +kernel
theorem dd_S_isStep_15 : decode bb_S_isStep 15 = .ok (.if_icmp .ge 7, 3) := by decide +kernel
theorem dd_S_isStep_18 : decode bb_S_isStep 18 = .ok (.iconst 1, 1) := by decide +kernel
theorem dd_S_isStep_19 : decode bb_S_isStep 19 = .ok (.goto 4, 3) := by decide +kernel
theorem dd_S_isStep_22 : decode bb_S_isStep 22 = .ok (.iconst 0, 1) := by decide +kernel
theorem dd_S_isStep_23 : decode bb_S_isStep 23 = .ok (.ireturn, 1) := by decide +kernel
def mm_S_isStep_j23 (N : Nat) (this : Option Nat) (a1 : Int32) (h : ss_Hp) (s0_23 : Int32) : Option Int32 :=
  (ss_bz s0_23).bind fun v1 =>
  some v1
def mm_S_isStep_j22 (N : Nat) (this : Option Nat) (a1 : Int32) (h : ss_Hp) : Option Int32 :=
  mm_S_isStep_j23 N this a1 h (0 : Int32)
def mm_S_isStep (N : Nat) (this : Option Nat) (a1 : Int32) (h : ss_Hp) : Option Int32 :=
  if ss_is h this 11 = true then
    if a1 < 0 then
      mm_S_isStep_j22 N this a1 h
    else
      (ss_gr h this 11 4).bind fun r3 =>
      (ss_gr h r3 8 0).bind fun r4 =>
      (ss_gi h r4 5 3).bind fun v5 =>
      if v5 ≤ a1 then
        mm_S_isStep_j22 N this a1 h
      else
        mm_S_isStep_j23 N this a1 h (1 : Int32)
  else none
abbrev ww_S_isStep (p : Program) (l : Launch) (e : Env) (s : State) (m : MethodId) (below : List Frame) (meth : Method) (c : Code) (G : ss_G) (this : Option Nat) (a1 : Int32) (h : ss_Hp) (rr : Int32) (H : Heap) (locs : List Loc) (k n : Nat) (g : JFrame) : Prop := W p l e (headSpec (ss_w yy_S_isStep bb_S_isStep 2 (some .boolean)) ({ frames := 0, cells := 0, slots := 0, locals := 0 })).room s m ([ss_v (ss_b G) this, .int a1] : List Value).toArray below meth c H locs k n (MQ below (ss_Qc G (some (.int rr)) h) ([ss_v (ss_b G) this, .int a1] : List Value).toArray s 0 0 (ss_A G)) g
theorem ck_S_isStep {N : Nat} {this : Option Nat} {a1 : Int32} {h : ss_Hp} {res : Int32} (hm : mm_S_isStep N this a1 h = some res) : ss_is h this 11 = true := (ss_chk hm).1
set_option maxHeartbeats 4000000 in
set_option maxRecDepth 100000 in
theorem cc_S_isStep (l : Launch) (G : ss_G) (N : Nat) (this : Option Nat) (a1 : Int32) (h : ss_Hp) (rr : Int32) (hm : mm_S_isStep N this a1 h = some rr) : ss_Ct l G yy_S_isStep bb_S_isStep 2 (some .boolean) ({ frames := 0, cells := 0, slots := 0, locals := 0 }) [ss_v (ss_b G) this, .int a1] h (some (.int rr)) h := by
  obtain ⟨hck, hm⟩ := ss_chk hm
  refine Met.ofW (cc := bb_S_isStep) (maxL := 2) (ret := (some .boolean)) (by decide) rfl ?_
  intro p e s m args below meth c s₁ B hml hv
  obtain ⟨rfl, hR, hK⟩ := hv
  have hC : CallFix p m c bb_S_isStep 2 s _ lw_g sR_11 := ⟨B.exec, B.bytes, hml, findClass_of_methodNamed B.named, fun w hw => atoms_spec (ws := ss_w yy_S_isStep bb_S_isStep 2 (some .boolean)) B.pre w (List.mem_cons_of_mem _ hw)⟩
  have hx := hC.1
  have hb := hC.2.1
  have hr := B.returns
  have hlocks := B.notSynchronized
  have hS : va_S (ss_A G) s.heap s.heap [] := va_S.rf
  have hl := lv_entry ([ss_v (ss_b G) this, .int a1]) (n := 2) (by simp [lg_sl, ss_v_cat, ss_cat_i, ss_cat_l, ss_cat_r])
  rw [lg_entry_eq]
  generalize (lg_sl ([ss_v (ss_b G) this, .int a1]) ++ List.replicate (2 - (lg_sl ([ss_v (ss_b G) this, .int a1])).length) Slot.unset).toArray = ls at hl ⊢
  have hl : lv_has ls 2 [(0, ss_v (ss_b G) this), (1, .int a1)] := by simpa [lv_args, ss_v_cat, ss_cat_i, ss_cat_l, ss_cat_r] using hl
  have J_23 : ∀ (s0_23 : Int32) (H : Heap) (locs : List Loc) (ls : Array Slot), mm_S_isStep_j23 N this a1 h s0_23 = some rr → ss_R G h H → va_S (ss_A G) s.heap H locs → lv_has ls 2 [] → ww_S_isStep p l e s m below meth c G this a1 h rr  H locs 0 0 (F0 m 23 ls [.int s0_23]) := by
    intro s0_23 H locs ls hm hR hS hl
    obtain ⟨v1, qv1, hm⟩ := ss_bind hm
    obtain ⟨hnb, rfl⟩ := ss_bzs qv1
    exact ss_zret hC hr hnb hlocks hR hS (ss_with _ hm) dd_S_isStep_23
  have J_22 : ∀  (H : Heap) (locs : List Loc) (ls : Array Slot), mm_S_isStep_j22 N this a1 h = some rr → ss_R G h H → va_S (ss_A G) s.heap H locs → lv_has ls 2 [] → ww_S_isStep p l e s m below meth c G this a1 h rr  H locs 0 0 (F0 m 22 ls []) := by
    intro  H locs ls hm hR hS hl
    refine lv_iconst (v := 0) hx hb dd_S_isStep_22 (by decide) ?_
    exact J_23 (0 : Int32)  _ _ _ hm hR hS hl
  refine lv_iload_n hx hb dd_S_isStep_0 rfl (lv_at hl 1 rfl) ?_
  refine lv_if_lt (tgt := 22) hx hb dd_S_isStep_1 (by decide) (fun c2 => ?_) (fun c2 => ?_)
  · have hm := ss_ift hm c2
    exact J_22  _ _ _ hm hR hS (lv_sub hl [] rfl)
  · have hm := ss_iff hm c2
    refine lv_iload_n hx hb dd_S_isStep_4 rfl (lv_at hl 1 rfl) ?_
    refine ss_aload_n hx hb dd_S_isStep_5 rfl (lv_at hl 0 rfl) ?_
    obtain ⟨r3, qr3, hm⟩ := ss_bind hm
    refine ss_getr hC hK hR kf_S_41 rfl qr3 dd_S_isStep_6 ?_
    obtain ⟨r4, qr4, hm⟩ := ss_bind hm
    refine ss_getr hC hK hR kf_S_58 rfl qr4 dd_S_isStep_9 ?_
    obtain ⟨v5, qv5, hm⟩ := ss_bind hm
    refine ss_geti hC hK hR kf_S_108 qv5 dd_S_isStep_12 ?_
    refine lv_icmp_ge (tgt := 22) hx hb dd_S_isStep_15 (by decide) (fun c6 => ?_) (fun c6 => ?_)
    · have hm := ss_ift hm c6
      exact J_22  _ _ _ hm hR hS (lv_sub hl [] rfl)
    · have hm := ss_iff hm c6
      refine lv_iconst (v := 1) hx hb dd_S_isStep_18 (by decide) ?_
      refine lv_goto (tgt := 23) hx hb dd_S_isStep_19 (by decide) ?_
      exact J_23 (1 : Int32)  _ _ _ hm hR hS (lv_sub hl [] rfl)
theorem dd_V_closedBits_0 : decode bb_V_closedBits 0 = .ok (.iconst 0, 1) := by decide +kernel
theorem dd_V_closedBits_1 : decode bb_V_closedBits 1 = .ok (.istore_n 2, 1) := by decide +kernel
theorem dd_V_closedBits_2 : decode bb_V_closedBits 2 = .ok (.iconst 0, 1) := by decide +kernel
theorem dd_V_closedBits_3 : decode bb_V_closedBits 3 = .ok (.istore_n 3, 1) := by decide +kernel
theorem dd_V_closedBits_4 : decode bb_V_closedBits 4 = .ok (.iload_n 3, 1) := by decide +kernel
theorem dd_V_closedBits_5 : decode bb_V_closedBits 5 = .ok (.aload_n 0, 1) := by decide +kernel
theorem dd_V_closedBits_6 : decode bb_V_closedBits 6 = .ok (.getfield 42, 3) := by decide +kernel
theorem dd_V_closedBits_9 : decode bb_V_closedBits 9 = .ok (.if_icmp .ge 28, 3) := by decide +kernel
theorem dd_V_closedBits_12 : decode bb_V_closedBits 12 = .ok (.aload_n 1, 1) := by decide +kernel
theorem dd_V_closedBits_13 : decode bb_V_closedBits 13 = .ok (.getfield 68, 3) := by decide +kernel
theorem dd_V_closedBits_16 : decode bb_V_closedBits 16 = .ok (.iload_n 3, 1) := by decide +kernel
theorem dd_V_closedBits_17 : decode bb_V_closedBits 17 = .ok (.iaload, 1) := by decide +kernel
theorem dd_V_closedBits_18 : decode bb_V_closedBits 18 = .ok (.aload_n 0, 1) := by decide +kernel
theorem dd_V_closedBits_19 : decode bb_V_closedBits 19 = .ok (.getfield 39, 3) := by decide +kernel
theorem dd_V_closedBits_22 : decode bb_V_closedBits 22 = .ok (.if_icmp .lt 9, 3) := by decide +kernel
theorem dd_V_closedBits_25 : decode bb_V_closedBits 25 = .ok (.iload_n 2, 1) := by decide +kernel
theorem dd_V_closedBits_26 : decode bb_V_closedBits 26 = .ok (.iconst 1, 1) := by decide +kernel
theorem dd_V_closedBits_27 : decode bb_V_closedBits 27 = .ok (.iload_n 3, 1) := by decide +kernel
theorem dd_V_closedBits_28 : decode bb_V_closedBits 28 = .ok (.ishl, 1) := by decide +kernel
theorem dd_V_closedBits_29 : decode bb_V_closedBits 29 = .ok (.ior, 1) := by decide +kernel
theorem dd_V_closedBits_30 : decode bb_V_closedBits 30 = .ok (.istore_n 2, 1) := by decide +kernel
theorem dd_V_closedBits_31 : decode bb_V_closedBits 31 = .ok (.iinc 3 1, 3) := by decide +kernel
theorem dd_V_closedBits_34 : decode bb_V_closedBits 34 = .ok (.goto (-30), 3) := by decide +kernel
theorem dd_V_closedBits_37 : decode bb_V_closedBits 37 = .ok (.iload_n 2, 1) := by decide +kernel
theorem dd_V_closedBits_38 : decode bb_V_closedBits 38 = .ok (.ireturn, 1) := by decide +kernel
def mm_V_closedBits_j31 (N : Nat) (this : Option Nat) (a1 : Option Nat) (h : ss_Hp) (x2_31 : Int32) (x3_31 : Int32) : Option ((Int32 × Int32) ⊕ Int32) :=
  (some (x3_31 + (1 : Int32))).bind fun v1 =>
  some (.inl (x2_31, v1))
def mm_V_closedBits_b4 (N : Nat) (this : Option Nat) (a1 : Option Nat) (h : ss_Hp) (st : Int32 × Int32) : Option ((Int32 × Int32) ⊕ Int32) :=
  match st with
  | (x2_4, x3_4) =>
    (ss_gi h this 5 3).bind fun v2 =>
    if v2 ≤ x3_4 then
      some (.inr x2_4)
    else
      (ss_gr h a1 0 0).bind fun r4 =>
      (ss_ai h r4 20 x3_4).bind fun v5 =>
      (ss_gi h this 5 2).bind fun v6 =>
      if v5 < v6 then
        mm_V_closedBits_j31 N this a1 h x2_4 x3_4
      else
        (some (x2_4 ||| ((1 : Int32) <<< (x3_4 &&& 31)))).bind fun v8 =>
        mm_V_closedBits_j31 N this a1 h v8 x3_4
def mm_V_closedBits (N : Nat) (this : Option Nat) (a1 : Option Nat) (h : ss_Hp) : Option Int32 :=
  if ss_is h this 5 = true then
    (ss_lp (mm_V_closedBits_b4 N this a1 h) N ((0 : Int32), (0 : Int32))).bind fun y2_4_37 =>
    some y2_4_37
  else none
abbrev ww_V_closedBits (p : Program) (l : Launch) (e : Env) (s : State) (m : MethodId) (below : List Frame) (meth : Method) (c : Code) (G : ss_G) (this : Option Nat) (a1 : Option Nat) (h : ss_Hp) (rr : Int32) (H : Heap) (locs : List Loc) (k n : Nat) (g : JFrame) : Prop := W p l e (headSpec (ss_w yy_V_closedBits bb_V_closedBits 4 (some (.int))) ({ frames := 0, cells := 0, slots := 0, locals := 0 })).room s m ([ss_v (ss_b G) this, ss_v (ss_b G) a1] : List Value).toArray below meth c H locs k n (MQ below (ss_Qc G (some (.int rr)) h) ([ss_v (ss_b G) this, ss_v (ss_b G) a1] : List Value).toArray s 0 0 (ss_A G)) g
theorem ck_V_closedBits {N : Nat} {this : Option Nat} {a1 : Option Nat} {h : ss_Hp} {res : Int32} (hm : mm_V_closedBits N this a1 h = some res) : ss_is h this 5 = true := (ss_chk hm).1
set_option maxHeartbeats 4000000 in
set_option maxRecDepth 100000 in
theorem cc_V_closedBits (l : Launch) (G : ss_G) (N : Nat) (this : Option Nat) (a1 : Option Nat) (h : ss_Hp) (rr : Int32) (hm : mm_V_closedBits N this a1 h = some rr) : ss_Ct l G yy_V_closedBits bb_V_closedBits 4 (some (.int)) ({ frames := 0, cells := 0, slots := 0, locals := 0 }) [ss_v (ss_b G) this, ss_v (ss_b G) a1] h (some (.int rr)) h := by
  obtain ⟨hck, hm⟩ := ss_chk hm
  refine Met.ofW (cc := bb_V_closedBits) (maxL := 4) (ret := (some (.int))) (by decide) rfl ?_
  intro p e s m args below meth c s₁ B hml hv
  obtain ⟨rfl, hR, hK⟩ := hv
  have hC : CallFix p m c bb_V_closedBits 4 s _ lw_g sR_5 := ⟨B.exec, B.bytes, hml, findClass_of_methodNamed B.named, fun w hw => atoms_spec (ws := ss_w yy_V_closedBits bb_V_closedBits 4 (some (.int))) B.pre w (List.mem_cons_of_mem _ hw)⟩
  have hx := hC.1
  have hb := hC.2.1
  have hr := B.returns
  have hlocks := B.notSynchronized
  have hS : va_S (ss_A G) s.heap s.heap [] := va_S.rf
  have hl := lv_entry ([ss_v (ss_b G) this, ss_v (ss_b G) a1]) (n := 4) (by simp [lg_sl, ss_v_cat, ss_cat_i, ss_cat_l, ss_cat_r])
  rw [lg_entry_eq]
  generalize (lg_sl ([ss_v (ss_b G) this, ss_v (ss_b G) a1]) ++ List.replicate (4 - (lg_sl ([ss_v (ss_b G) this, ss_v (ss_b G) a1])).length) Slot.unset).toArray = ls at hl ⊢
  have hl : lv_has ls 4 [(0, ss_v (ss_b G) this), (1, ss_v (ss_b G) a1)] := by simpa [lv_args, ss_v_cat, ss_cat_i, ss_cat_l, ss_cat_r] using hl
  refine lv_iconst (v := 0) hx hb dd_V_closedBits_0 (by decide) ?_
  refine lv_istore_n (lv' := [(2, .int (0 : Int32)), (0, ss_v (ss_b G) this), (1, ss_v (ss_b G) a1)]) hx hb dd_V_closedBits_1 rfl hl (by decide) (by simp only [List.filter_cons, ss_v_cat]; rfl) (fun ls hl => ?_)
  refine lv_iconst (v := 0) hx hb dd_V_closedBits_2 (by decide) ?_
  refine lv_istore_n (lv' := [(3, .int (0 : Int32)), (2, .int (0 : Int32)), (0, ss_v (ss_b G) this), (1, ss_v (ss_b G) a1)]) hx hb dd_V_closedBits_3 rfl hl (by decide) rfl (fun ls hl => ?_)
  obtain ⟨e_4, he_4, hm⟩ := ss_bind hm
  have X_4_37 : ∀ (y2_4_37 : Int32) (H : Heap) (locs : List Loc) (ls : Array Slot), e_4 = y2_4_37 → ss_R G h H → va_S (ss_A G) s.heap H locs → lv_has ls 4 [(2, .int y2_4_37)] → ww_V_closedBits p l e s m below meth c G this a1 h rr  H locs 0 0 (F0 m 37 ls []) := by
    intro y2_4_37 H locs ls hq hR hS hl
    rw [hq] at hm
    refine lv_iload_n hx hb dd_V_closedBits_37 rfl (lv_at hl 0 rfl) ?_
    exact ss_iret hC hr hlocks hR hS (ss_with _ hm) dd_V_closedBits_38
  have L_4 : ∀ (n : Nat) (x2_4 : Int32) (x3_4 : Int32) (H : Heap) (locs : List Loc) (ls : Array Slot), ss_lp (mm_V_closedBits_b4 N this a1 h) n (x2_4, x3_4) = some e_4 → ss_R G h H → va_S (ss_A G) s.heap H locs → lv_has ls 4 [(0, ss_v (ss_b G) this), (1, ss_v (ss_b G) a1), (2, .int x2_4), (3, .int x3_4)] → ww_V_closedBits p l e s m below meth c G this a1 h rr  H locs 0 0 (F0 m 4 ls []) := by
    intro n
    induction n with
    | zero => intro x2_4 x3_4 H locs ls hm; cases hm
    | succ n ih_4 =>
      intro x2_4 x3_4 H locs ls hm hR hS hl
      obtain ⟨z_4, hm, hz1_4, hz2_4⟩ := ss_lps hm
      have J_31 : ∀ (x2_31 : Int32) (x3_31 : Int32) (H : Heap) (locs : List Loc) (ls : Array Slot), mm_V_closedBits_j31 N this a1 h x2_31 x3_31 = some z_4 → ss_R G h H → va_S (ss_A G) s.heap H locs → lv_has ls 4 [(0, ss_v (ss_b G) this), (1, ss_v (ss_b G) a1), (2, .int x2_31), (3, .int x3_31)] → ww_V_closedBits p l e s m below meth c G this a1 h rr  H locs 0 0 (F0 m 31 ls []) := by
        intro x2_31 x3_31 H locs ls hm hR hS hl
        obtain ⟨v1, qv1, hm⟩ := ss_bind hm
        refine lv_iinc (v := v1) (lv' := [(3, .int v1), (0, ss_v (ss_b G) this), (1, ss_v (ss_b G) a1), (2, .int x2_31)]) hx hb dd_V_closedBits_31 hl (k := 3) rfl (ss_inc (by decide) qv1) (by decide) rfl (fun ls hl => ?_)
        refine lv_goto (tgt := 4) hx hb dd_V_closedBits_34 (by decide) ?_
        exact ih_4 x2_31 v1  _ _ _ (hz1_4 _ (ss_some hm)) hR hS (lv_sub hl [1, 2, 3, 0] rfl)
      refine lv_iload_n hx hb dd_V_closedBits_4 rfl (lv_at hl 3 rfl) ?_
      refine ss_aload_n hx hb dd_V_closedBits_5 rfl (lv_at hl 0 rfl) ?_
      obtain ⟨v2, qv2, hm⟩ := ss_bind hm
      refine ss_geti hC hK hR kf_V_42 qv2 dd_V_closedBits_6 ?_
      refine lv_icmp_ge (tgt := 37) hx hb dd_V_closedBits_9 (by decide) (fun c3 => ?_) (fun c3 => ?_)
      · have hm := ss_ift hm c3
        exact X_4_37 x2_4  _ _ _ (hz2_4 _ (ss_some hm)) hR hS (lv_sub hl [2] rfl)
      · have hm := ss_iff hm c3
        refine ss_aload_n hx hb dd_V_closedBits_12 rfl (lv_at hl 1 rfl) ?_
        obtain ⟨r4, qr4, hm⟩ := ss_bind hm
        refine ss_getr hC hK hR kf_V_68 rfl qr4 dd_V_closedBits_13 ?_
        refine lv_iload_n hx hb dd_V_closedBits_16 rfl (lv_at hl 3 rfl) ?_
        obtain ⟨v5, qv5, hm⟩ := ss_bind hm
        refine ss_iald hC hK hR qv5 dd_V_closedBits_17 ?_
        refine ss_aload_n hx hb dd_V_closedBits_18 rfl (lv_at hl 0 rfl) ?_
        obtain ⟨v6, qv6, hm⟩ := ss_bind hm
        refine ss_geti hC hK hR kf_V_39 qv6 dd_V_closedBits_19 ?_
        refine lv_icmp_lt (tgt := 31) hx hb dd_V_closedBits_22 (by decide) (fun c7 => ?_) (fun c7 => ?_)
        · have hm := ss_ift hm c7
          exact J_31 x2_4 x3_4  _ _ _ hm hR hS hl
        · have hm := ss_iff hm c7
          refine lv_iload_n hx hb dd_V_closedBits_25 rfl (lv_at hl 2 rfl) ?_
          refine lv_iconst (v := 1) hx hb dd_V_closedBits_26 (by decide) ?_
          refine lv_iload_n hx hb dd_V_closedBits_27 rfl (lv_at hl 3 rfl) ?_
          refine lv_ishl hx hb dd_V_closedBits_28 ?_
          refine lv_ior hx hb dd_V_closedBits_29 ?_
          obtain ⟨v8, qv8, hm⟩ := ss_bind hm
          refine ss_topi qv8 ?_
          refine lv_istore_n (lv' := [(2, .int v8), (0, ss_v (ss_b G) this), (1, ss_v (ss_b G) a1), (3, .int x3_4)]) hx hb dd_V_closedBits_30 rfl hl (by decide) (by simp only [List.filter_cons, ss_v_cat]; rfl) (fun ls hl => ?_)
          exact J_31 v8 x3_4  _ _ _ hm hR hS (lv_sub hl [1, 2, 0, 3] rfl)
  exact L_4 N (0 : Int32) (0 : Int32) _ _ _ he_4 hR hS (lv_sub hl [2, 3, 1, 0] rfl)
theorem dd_Wo_closedBits_0 : decode bb_Wo_closedBits 0 = .ok (.aload_n 0, 1) := by decide +kernel
theorem dd_Wo_closedBits_1 : decode bb_Wo_closedBits 1 = .ok (.getfield 12, 3) := by decide +kernel
theorem dd_Wo_closedBits_4 : decode bb_Wo_closedBits 4 = .ok (.aload_n 0, 1) := by decide +kernel
theorem dd_Wo_closedBits_5 : decode bb_Wo_closedBits 5 = .ok (.getfield 21, 3) := by decide +kernel
theorem dd_Wo_closedBits_8 : decode bb_Wo_closedBits 8 = .ok (.invokevirtual 61, 3) := by decide +kernel
theorem dd_Wo_closedBits_11 : decode bb_Wo_closedBits 11 = .ok (.ireturn, 1) := by decide +kernel
def mm_Wo_closedBits (N : Nat) (this : Option Nat) (h : ss_Hp) : Option Int32 :=
  if ss_is h this 8 = true then
    (ss_gr h this 8 0).bind fun r1 =>
    (ss_gr h this 8 1).bind fun r2 =>
    (mm_V_closedBits N r1 r2 h).bind fun v3 =>
    some v3
  else none
abbrev ww_Wo_closedBits (p : Program) (l : Launch) (e : Env) (s : State) (m : MethodId) (below : List Frame) (meth : Method) (c : Code) (G : ss_G) (this : Option Nat) (h : ss_Hp) (rr : Int32) (H : Heap) (locs : List Loc) (k n : Nat) (g : JFrame) : Prop := W p l e (headSpec (ss_w yy_Wo_closedBits bb_Wo_closedBits 1 (some (.int))) ({ frames := 1, cells := 0, slots := 0, locals := 23 })).room s m ([ss_v (ss_b G) this] : List Value).toArray below meth c H locs k n (MQ below (ss_Qc G (some (.int rr)) h) ([ss_v (ss_b G) this] : List Value).toArray s 0 0 (ss_A G)) g
theorem ck_Wo_closedBits {N : Nat} {this : Option Nat} {h : ss_Hp} {res : Int32} (hm : mm_Wo_closedBits N this h = some res) : ss_is h this 8 = true := (ss_chk hm).1
set_option maxHeartbeats 4000000 in
set_option maxRecDepth 100000 in
theorem cc_Wo_closedBits (l : Launch) (G : ss_G) (N : Nat) (this : Option Nat) (h : ss_Hp) (rr : Int32) (hm : mm_Wo_closedBits N this h = some rr) : ss_Ct l G yy_Wo_closedBits bb_Wo_closedBits 1 (some (.int)) ({ frames := 1, cells := 0, slots := 0, locals := 23 }) [ss_v (ss_b G) this] h (some (.int rr)) h := by
  obtain ⟨hck, hm⟩ := ss_chk hm
  refine Met.ofW (cc := bb_Wo_closedBits) (maxL := 1) (ret := (some (.int))) (by decide) rfl ?_
  intro p e s m args below meth c s₁ B hml hv
  obtain ⟨rfl, hR, hK⟩ := hv
  have hC : CallFix p m c bb_Wo_closedBits 1 s _ lw_g sR_8 := ⟨B.exec, B.bytes, hml, findClass_of_methodNamed B.named, fun w hw => atoms_spec (ws := ss_w yy_Wo_closedBits bb_Wo_closedBits 1 (some (.int))) B.pre w (List.mem_cons_of_mem _ hw)⟩
  have hx := hC.1
  have hb := hC.2.1
  have hr := B.returns
  have hlocks := B.notSynchronized
  have hS : va_S (ss_A G) s.heap s.heap [] := va_S.rf
  have hl := lv_entry ([ss_v (ss_b G) this]) (n := 1) (by simp [lg_sl, ss_v_cat, ss_cat_i, ss_cat_l, ss_cat_r])
  rw [lg_entry_eq]
  generalize (lg_sl ([ss_v (ss_b G) this]) ++ List.replicate (1 - (lg_sl ([ss_v (ss_b G) this])).length) Slot.unset).toArray = ls at hl ⊢
  have hl : lv_has ls 1 [(0, ss_v (ss_b G) this)] := by simpa [lv_args, ss_v_cat, ss_cat_i, ss_cat_l, ss_cat_r] using hl
  refine ss_aload_n hx hb dd_Wo_closedBits_0 rfl (lv_at hl 0 rfl) ?_
  obtain ⟨r1, qr1, hm⟩ := ss_bind hm
  refine ss_getr hC hK hR kf_Wo_12 rfl qr1 dd_Wo_closedBits_1 ?_
  refine ss_aload_n hx hb dd_Wo_closedBits_4 rfl (lv_at hl 0 rfl) ?_
  obtain ⟨r2, qr2, hm⟩ := ss_bind hm
  refine ss_getr hC hK hR kf_Wo_21 rfl qr2 dd_Wo_closedBits_5 ?_
  obtain ⟨v3, qv3, hm⟩ := ss_bind hm
  refine ss_cV 0 0 (As := [ss_v (ss_b G) r2]) hC hK hR hS hl.1 (cc_V_closedBits l G N _ _ _ _ qv3) km_Wo_61 (ck_V_closedBits qv3) ⟨Nat.le_of_ble_eq_true rfl, Nat.le_of_ble_eq_true rfl⟩ ⟨Nat.le_of_ble_eq_true rfl, Nat.le_of_ble_eq_true rfl, Nat.le_of_ble_eq_true rfl, Nat.le_of_ble_eq_true rfl⟩ rfl rfl (Nat.le_of_ble_eq_true rfl) dd_Wo_closedBits_8 (fun H locs hR hS => ?_)
  exact ss_iret hC hr hlocks hR hS (ss_with _ hm) dd_Wo_closedBits_11
theorem dd_V_isNeeded_0 : decode bb_V_isNeeded 0 = .ok (.iload_n 2, 1) := by decide +kernel
theorem dd_V_isNeeded_1 : decode bb_V_isNeeded 1 = .ok (.bipush 30, 2) := by decide +kernel
theorem dd_V_isNeeded_3 : decode bb_V_isNeeded 3 = .ok (.if_icmp .gt 21, 3) := by decide +kernel
theorem dd_V_isNeeded_6 : decode bb_V_isNeeded 6 = .ok (.aload_n 0, 1) := by decide +kernel
theorem dd_V_isNeeded_7 : decode bb_V_isNeeded 7 = .ok (.getfield 21, 3) := by decide +kernel
theorem dd_V_isNeeded_10 : decode bb_V_isNeeded 10 = .ok (.iload_n 1, 1) := by decide +kernel
theorem dd_V_isNeeded_11 : decode bb_V_isNeeded 11 = .ok (.iaload, 1) := by decide +kernel
theorem dd_V_isNeeded_12 : decode bb_V_isNeeded 12 = .ok (.iload_n 2, 1) := by decide +kernel
theorem dd_V_isNeeded_13 : decode bb_V_isNeeded 13 = .ok (.ishr, 1) := by decide +kernel
theorem dd_V_isNeeded_14 : decode bb_V_isNeeded 14 = .ok (.iconst 1, 1) := by decide +kernel
theorem dd_V_isNeeded_15 : decode bb_V_isNeeded 15 = .ok (.iand, 1) := by decide +kernel
theorem dd_V_isNeeded_16 : decode bb_V_isNeeded 16 = .ok (.iconst 1, 1) := by decide +kernel
theorem dd_V_isNeeded_17 : decode bb_V_isNeeded 17 = .ok (.if_icmp .ne 7, 3) := by decide +kernel
theorem dd_V_isNeeded_20 : decode bb_V_isNeeded 20 = .ok (.iconst 1, 1) := by decide +kernel
theorem dd_V_isNeeded_21 : decode bb_V_isNeeded 21 = .ok (.goto 4, 3) := by decide +kernel
theorem dd_V_isNeeded_24 : decode bb_V_isNeeded 24 = .ok (.iconst 0, 1) := by decide +kernel
theorem dd_V_isNeeded_25 : decode bb_V_isNeeded 25 = .ok (.ireturn, 1) := by decide +kernel
def mm_V_isNeeded_j25 (N : Nat) (this : Option Nat) (a1 : Int32) (a2 : Int32) (h : ss_Hp) (s0_25 : Int32) : Option Int32 :=
  (ss_bz s0_25).bind fun v1 =>
  some v1
def mm_V_isNeeded_j24 (N : Nat) (this : Option Nat) (a1 : Int32) (a2 : Int32) (h : ss_Hp) : Option Int32 :=
  mm_V_isNeeded_j25 N this a1 a2 h (0 : Int32)
def mm_V_isNeeded (N : Nat) (this : Option Nat) (a1 : Int32) (a2 : Int32) (h : ss_Hp) : Option Int32 :=
  if ss_is h this 5 = true then
    if (30 : Int32) < a2 then
      mm_V_isNeeded_j24 N this a1 a2 h
    else
      (ss_gr h this 5 3).bind fun r3 =>
      (ss_ai h r3 20 a1).bind fun v4 =>
      if ((v4 >>> (a2 &&& 31)) &&& (1 : Int32)) = (1 : Int32) then
        mm_V_isNeeded_j25 N this a1 a2 h (1 : Int32)
      else
        mm_V_isNeeded_j24 N this a1 a2 h
  else none
abbrev ww_V_isNeeded (p : Program) (l : Launch) (e : Env) (s : State) (m : MethodId) (below : List Frame) (meth : Method) (c : Code) (G : ss_G) (this : Option Nat) (a1 : Int32) (a2 : Int32) (h : ss_Hp) (rr : Int32) (H : Heap) (locs : List Loc) (k n : Nat) (g : JFrame) : Prop := W p l e (headSpec (ss_w yy_V_isNeeded bb_V_isNeeded 3 (some .boolean)) ({ frames := 0, cells := 0, slots := 0, locals := 0 })).room s m ([ss_v (ss_b G) this, .int a1, .int a2] : List Value).toArray below meth c H locs k n (MQ below (ss_Qc G (some (.int rr)) h) ([ss_v (ss_b G) this, .int a1, .int a2] : List Value).toArray s 0 0 (ss_A G)) g
theorem ck_V_isNeeded {N : Nat} {this : Option Nat} {a1 : Int32} {a2 : Int32} {h : ss_Hp} {res : Int32} (hm : mm_V_isNeeded N this a1 a2 h = some res) : ss_is h this 5 = true := (ss_chk hm).1
set_option maxHeartbeats 4000000 in
set_option maxRecDepth 100000 in
theorem cc_V_isNeeded (l : Launch) (G : ss_G) (N : Nat) (this : Option Nat) (a1 : Int32) (a2 : Int32) (h : ss_Hp) (rr : Int32) (hm : mm_V_isNeeded N this a1 a2 h = some rr) : ss_Ct l G yy_V_isNeeded bb_V_isNeeded 3 (some .boolean) ({ frames := 0, cells := 0, slots := 0, locals := 0 }) [ss_v (ss_b G) this, .int a1, .int a2] h (some (.int rr)) h := by
  obtain ⟨hck, hm⟩ := ss_chk hm
  refine Met.ofW (cc := bb_V_isNeeded) (maxL := 3) (ret := (some .boolean)) (by decide) rfl ?_
  intro p e s m args below meth c s₁ B hml hv
  obtain ⟨rfl, hR, hK⟩ := hv
  have hC : CallFix p m c bb_V_isNeeded 3 s _ lw_g sR_5 := ⟨B.exec, B.bytes, hml, findClass_of_methodNamed B.named, fun w hw => atoms_spec (ws := ss_w yy_V_isNeeded bb_V_isNeeded 3 (some .boolean)) B.pre w (List.mem_cons_of_mem _ hw)⟩
  have hx := hC.1
  have hb := hC.2.1
  have hr := B.returns
  have hlocks := B.notSynchronized
  have hS : va_S (ss_A G) s.heap s.heap [] := va_S.rf
  have hl := lv_entry ([ss_v (ss_b G) this, .int a1, .int a2]) (n := 3) (by simp [lg_sl, ss_v_cat, ss_cat_i, ss_cat_l, ss_cat_r])
  rw [lg_entry_eq]
  generalize (lg_sl ([ss_v (ss_b G) this, .int a1, .int a2]) ++ List.replicate (3 - (lg_sl ([ss_v (ss_b G) this, .int a1, .int a2])).length) Slot.unset).toArray = ls at hl ⊢
  have hl : lv_has ls 3 [(0, ss_v (ss_b G) this), (1, .int a1), (2, .int a2)] := by simpa [lv_args, ss_v_cat, ss_cat_i, ss_cat_l, ss_cat_r] using hl
  have J_25 : ∀ (s0_25 : Int32) (H : Heap) (locs : List Loc) (ls : Array Slot), mm_V_isNeeded_j25 N this a1 a2 h s0_25 = some rr → ss_R G h H → va_S (ss_A G) s.heap H locs → lv_has ls 3 [] → ww_V_isNeeded p l e s m below meth c G this a1 a2 h rr  H locs 0 0 (F0 m 25 ls [.int s0_25]) := by
    intro s0_25 H locs ls hm hR hS hl
    obtain ⟨v1, qv1, hm⟩ := ss_bind hm
    obtain ⟨hnb, rfl⟩ := ss_bzs qv1
    exact ss_zret hC hr hnb hlocks hR hS (ss_with _ hm) dd_V_isNeeded_25
  have J_24 : ∀  (H : Heap) (locs : List Loc) (ls : Array Slot), mm_V_isNeeded_j24 N this a1 a2 h = some rr → ss_R G h H → va_S (ss_A G) s.heap H locs → lv_has ls 3 [] → ww_V_isNeeded p l e s m below meth c G this a1 a2 h rr  H locs 0 0 (F0 m 24 ls []) := by
    intro  H locs ls hm hR hS hl
    refine lv_iconst (v := 0) hx hb dd_V_isNeeded_24 (by decide) ?_
    exact J_25 (0 : Int32)  _ _ _ hm hR hS hl
  refine lv_iload_n hx hb dd_V_isNeeded_0 rfl (lv_at hl 2 rfl) ?_
  refine lv_bipush (v := 30) hx hb dd_V_isNeeded_1 (by decide) ?_
  refine lv_icmp_gt (tgt := 24) hx hb dd_V_isNeeded_3 (by decide) (fun c2 => ?_) (fun c2 => ?_)
  · have hm := ss_ift hm c2
    exact J_24  _ _ _ hm hR hS (lv_sub hl [] rfl)
  · have hm := ss_iff hm c2
    refine ss_aload_n hx hb dd_V_isNeeded_6 rfl (lv_at hl 0 rfl) ?_
    obtain ⟨r3, qr3, hm⟩ := ss_bind hm
    refine ss_getr hC hK hR kf_V_21 rfl qr3 dd_V_isNeeded_7 ?_
    refine lv_iload_n hx hb dd_V_isNeeded_10 rfl (lv_at hl 1 rfl) ?_
    obtain ⟨v4, qv4, hm⟩ := ss_bind hm
    refine ss_iald hC hK hR qv4 dd_V_isNeeded_11 ?_
    refine lv_iload_n hx hb dd_V_isNeeded_12 rfl (lv_at hl 2 rfl) ?_
    refine lv_ishr hx hb dd_V_isNeeded_13 ?_
    refine lv_iconst (v := 1) hx hb dd_V_isNeeded_14 (by decide) ?_
    refine lv_iand hx hb dd_V_isNeeded_15 ?_
    refine lv_iconst (v := 1) hx hb dd_V_isNeeded_16 (by decide) ?_
    refine lv_icmp_ne (tgt := 24) hx hb dd_V_isNeeded_17 (by decide) (fun c5 => ?_) (fun c5 => ?_)
    · have hm := ss_iff hm c5
      exact J_24  _ _ _ hm hR hS (lv_sub hl [] rfl)
    · have hm := ss_ift hm c5
      refine lv_iconst (v := 1) hx hb dd_V_isNeeded_20 (by decide) ?_
      refine lv_goto (tgt := 25) hx hb dd_V_isNeeded_21 (by decide) ?_
      exact J_25 (1 : Int32)  _ _ _ hm hR hS (lv_sub hl [] rfl)
theorem dd_V_neededBits_0 : decode bb_V_neededBits 0 = .ok (.iconst 0, 1) := by decide +kernel
theorem dd_V_neededBits_1 : decode bb_V_neededBits 1 = .ok (.istore_n 2, 1) := by decide +kernel
theorem dd_V_neededBits_2 : decode bb_V_neededBits 2 = .ok (.iconst 0, 1) := by decide +kernel
theorem dd_V_neededBits_3 : decode bb_V_neededBits 3 = .ok (.istore_n 3, 1) := by decide +kernel
theorem dd_V_neededBits_4 : decode bb_V_neededBits 4 = .ok (.iload_n 3, 1) := by decide +kernel
theorem dd_V_neededBits_5 : decode bb_V_neededBits 5 = .ok (.aload_n 0, 1) := by decide +kernel
theorem dd_V_neededBits_6 : decode bb_V_neededBits 6 = .ok (.getfield 42, 3) := by decide +kernel
theorem dd_V_neededBits_9 : decode bb_V_neededBits 9 = .ok (.if_icmp .ge 24, 3) := by decide +kernel
theorem dd_V_neededBits_12 : decode bb_V_neededBits 12 = .ok (.aload_n 0, 1) := by decide +kernel
theorem dd_V_neededBits_13 : decode bb_V_neededBits 13 = .ok (.iload_n 3, 1) := by decide +kernel
theorem dd_V_neededBits_14 : decode bb_V_neededBits 14 = .ok (.iload_n 1, 1) := by decide +kernel
theorem dd_V_neededBits_15 : decode bb_V_neededBits 15 = .ok (.invokevirtual 58, 3) := by decide +kernel
theorem dd_V_neededBits_18 : decode bb_V_neededBits 18 = .ok (.ifCond .eq 9, 3) := by decide +kernel
theorem dd_V_neededBits_21 : decode bb_V_neededBits 21 = .ok (.iload_n 2, 1) := by decide +kernel
theorem dd_V_neededBits_22 : decode bb_V_neededBits 22 = .ok (.iconst 1, 1) := by decide +kernel
theorem dd_V_neededBits_23 : decode bb_V_neededBits 23 = .ok (.iload_n 3, 1) := by decide +kernel
theorem dd_V_neededBits_24 : decode bb_V_neededBits 24 = .ok (.ishl, 1) := by decide +kernel
theorem dd_V_neededBits_25 : decode bb_V_neededBits 25 = .ok (.ior, 1) := by decide +kernel
theorem dd_V_neededBits_26 : decode bb_V_neededBits 26 = .ok (.istore_n 2, 1) := by decide +kernel
theorem dd_V_neededBits_27 : decode bb_V_neededBits 27 = .ok (.iinc 3 1, 3) := by decide +kernel
theorem dd_V_neededBits_30 : decode bb_V_neededBits 30 = .ok (.goto (-26), 3) := by decide +kernel
theorem dd_V_neededBits_33 : decode bb_V_neededBits 33 = .ok (.iload_n 2, 1) := by decide +kernel
theorem dd_V_neededBits_34 : decode bb_V_neededBits 34 = .ok (.ireturn, 1) := by decide +kernel
def mm_V_neededBits_j27 (N : Nat) (this : Option Nat) (a1 : Int32) (h : ss_Hp) (x2_27 : Int32) (x3_27 : Int32) : Option ((Int32 × Int32) ⊕ Int32) :=
  (some (x3_27 + (1 : Int32))).bind fun v1 =>
  some (.inl (x2_27, v1))
def mm_V_neededBits_b4 (N : Nat) (this : Option Nat) (a1 : Int32) (h : ss_Hp) (st : Int32 × Int32) : Option ((Int32 × Int32) ⊕ Int32) :=
  match st with
  | (x2_4, x3_4) =>
    (ss_gi h this 5 3).bind fun v2 =>
    if v2 ≤ x3_4 then
      some (.inr x2_4)
    else
      (mm_V_isNeeded N this x3_4 a1 h).bind fun v4 =>
      if v4 = 0 then
        mm_V_neededBits_j27 N this a1 h x2_4 x3_4
      else
        (some (x2_4 ||| ((1 : Int32) <<< (x3_4 &&& 31)))).bind fun v6 =>
        mm_V_neededBits_j27 N this a1 h v6 x3_4
def mm_V_neededBits (N : Nat) (this : Option Nat) (a1 : Int32) (h : ss_Hp) : Option Int32 :=
  if ss_is h this 5 = true then
    (ss_lp (mm_V_neededBits_b4 N this a1 h) N ((0 : Int32), (0 : Int32))).bind fun y2_4_33 =>
    some y2_4_33
  else none
abbrev ww_V_neededBits (p : Program) (l : Launch) (e : Env) (s : State) (m : MethodId) (below : List Frame) (meth : Method) (c : Code) (G : ss_G) (this : Option Nat) (a1 : Int32) (h : ss_Hp) (rr : Int32) (H : Heap) (locs : List Loc) (k n : Nat) (g : JFrame) : Prop := W p l e (headSpec (ss_w yy_V_neededBits bb_V_neededBits 4 (some (.int))) ({ frames := 1, cells := 0, slots := 0, locals := 22 })).room s m ([ss_v (ss_b G) this, .int a1] : List Value).toArray below meth c H locs k n (MQ below (ss_Qc G (some (.int rr)) h) ([ss_v (ss_b G) this, .int a1] : List Value).toArray s 0 0 (ss_A G)) g
theorem ck_V_neededBits {N : Nat} {this : Option Nat} {a1 : Int32} {h : ss_Hp} {res : Int32} (hm : mm_V_neededBits N this a1 h = some res) : ss_is h this 5 = true := (ss_chk hm).1
set_option maxHeartbeats 4000000 in
set_option maxRecDepth 100000 in
theorem cc_V_neededBits (l : Launch) (G : ss_G) (N : Nat) (this : Option Nat) (a1 : Int32) (h : ss_Hp) (rr : Int32) (hm : mm_V_neededBits N this a1 h = some rr) : ss_Ct l G yy_V_neededBits bb_V_neededBits 4 (some (.int)) ({ frames := 1, cells := 0, slots := 0, locals := 22 }) [ss_v (ss_b G) this, .int a1] h (some (.int rr)) h := by
  obtain ⟨hck, hm⟩ := ss_chk hm
  refine Met.ofW (cc := bb_V_neededBits) (maxL := 4) (ret := (some (.int))) (by decide) rfl ?_
  intro p e s m args below meth c s₁ B hml hv
  obtain ⟨rfl, hR, hK⟩ := hv
  have hC : CallFix p m c bb_V_neededBits 4 s _ lw_g sR_5 := ⟨B.exec, B.bytes, hml, findClass_of_methodNamed B.named, fun w hw => atoms_spec (ws := ss_w yy_V_neededBits bb_V_neededBits 4 (some (.int))) B.pre w (List.mem_cons_of_mem _ hw)⟩
  have hx := hC.1
  have hb := hC.2.1
  have hr := B.returns
  have hlocks := B.notSynchronized
  have hS : va_S (ss_A G) s.heap s.heap [] := va_S.rf
  have hl := lv_entry ([ss_v (ss_b G) this, .int a1]) (n := 4) (by simp [lg_sl, ss_v_cat, ss_cat_i, ss_cat_l, ss_cat_r])
  rw [lg_entry_eq]
  generalize (lg_sl ([ss_v (ss_b G) this, .int a1]) ++ List.replicate (4 - (lg_sl ([ss_v (ss_b G) this, .int a1])).length) Slot.unset).toArray = ls at hl ⊢
  have hl : lv_has ls 4 [(0, ss_v (ss_b G) this), (1, .int a1)] := by simpa [lv_args, ss_v_cat, ss_cat_i, ss_cat_l, ss_cat_r] using hl
  refine lv_iconst (v := 0) hx hb dd_V_neededBits_0 (by decide) ?_
  refine lv_istore_n (lv' := [(2, .int (0 : Int32)), (0, ss_v (ss_b G) this), (1, .int a1)]) hx hb dd_V_neededBits_1 rfl hl (by decide) rfl (fun ls hl => ?_)
  refine lv_iconst (v := 0) hx hb dd_V_neededBits_2 (by decide) ?_
  refine lv_istore_n (lv' := [(3, .int (0 : Int32)), (2, .int (0 : Int32)), (0, ss_v (ss_b G) this), (1, .int a1)]) hx hb dd_V_neededBits_3 rfl hl (by decide) rfl (fun ls hl => ?_)
  obtain ⟨e_4, he_4, hm⟩ := ss_bind hm
  have X_4_33 : ∀ (y2_4_33 : Int32) (H : Heap) (locs : List Loc) (ls : Array Slot), e_4 = y2_4_33 → ss_R G h H → va_S (ss_A G) s.heap H locs → lv_has ls 4 [(2, .int y2_4_33)] → ww_V_neededBits p l e s m below meth c G this a1 h rr  H locs 0 0 (F0 m 33 ls []) := by
    intro y2_4_33 H locs ls hq hR hS hl
    rw [hq] at hm
    refine lv_iload_n hx hb dd_V_neededBits_33 rfl (lv_at hl 0 rfl) ?_
    exact ss_iret hC hr hlocks hR hS (ss_with _ hm) dd_V_neededBits_34
  have L_4 : ∀ (n : Nat) (x2_4 : Int32) (x3_4 : Int32) (H : Heap) (locs : List Loc) (ls : Array Slot), ss_lp (mm_V_neededBits_b4 N this a1 h) n (x2_4, x3_4) = some e_4 → ss_R G h H → va_S (ss_A G) s.heap H locs → lv_has ls 4 [(0, ss_v (ss_b G) this), (1, .int a1), (2, .int x2_4), (3, .int x3_4)] → ww_V_neededBits p l e s m below meth c G this a1 h rr  H locs 0 0 (F0 m 4 ls []) := by
    intro n
    induction n with
    | zero => intro x2_4 x3_4 H locs ls hm; cases hm
    | succ n ih_4 =>
      intro x2_4 x3_4 H locs ls hm hR hS hl
      obtain ⟨z_4, hm, hz1_4, hz2_4⟩ := ss_lps hm
      have J_27 : ∀ (x2_27 : Int32) (x3_27 : Int32) (H : Heap) (locs : List Loc) (ls : Array Slot), mm_V_neededBits_j27 N this a1 h x2_27 x3_27 = some z_4 → ss_R G h H → va_S (ss_A G) s.heap H locs → lv_has ls 4 [(0, ss_v (ss_b G) this), (1, .int a1), (2, .int x2_27), (3, .int x3_27)] → ww_V_neededBits p l e s m below meth c G this a1 h rr  H locs 0 0 (F0 m 27 ls []) := by
        intro x2_27 x3_27 H locs ls hm hR hS hl
        obtain ⟨v1, qv1, hm⟩ := ss_bind hm
        refine lv_iinc (v := v1) (lv' := [(3, .int v1), (0, ss_v (ss_b G) this), (1, .int a1), (2, .int x2_27)]) hx hb dd_V_neededBits_27 hl (k := 3) rfl (ss_inc (by decide) qv1) (by decide) rfl (fun ls hl => ?_)
        refine lv_goto (tgt := 4) hx hb dd_V_neededBits_30 (by decide) ?_
        exact ih_4 x2_27 v1  _ _ _ (hz1_4 _ (ss_some hm)) hR hS (lv_sub hl [1, 2, 3, 0] rfl)
      refine lv_iload_n hx hb dd_V_neededBits_4 rfl (lv_at hl 3 rfl) ?_
      refine ss_aload_n hx hb dd_V_neededBits_5 rfl (lv_at hl 0 rfl) ?_
      obtain ⟨v2, qv2, hm⟩ := ss_bind hm
      refine ss_geti hC hK hR kf_V_42 qv2 dd_V_neededBits_6 ?_
      refine lv_icmp_ge (tgt := 33) hx hb dd_V_neededBits_9 (by decide) (fun c3 => ?_) (fun c3 => ?_)
      · have hm := ss_ift hm c3
        exact X_4_33 x2_4  _ _ _ (hz2_4 _ (ss_some hm)) hR hS (lv_sub hl [2] rfl)
      · have hm := ss_iff hm c3
        refine ss_aload_n hx hb dd_V_neededBits_12 rfl (lv_at hl 0 rfl) ?_
        refine lv_iload_n hx hb dd_V_neededBits_13 rfl (lv_at hl 3 rfl) ?_
        refine lv_iload_n hx hb dd_V_neededBits_14 rfl (lv_at hl 1 rfl) ?_
        obtain ⟨v4, qv4, hm⟩ := ss_bind hm
        refine ss_cV 0 0 (As := [.int x3_4, .int a1]) hC hK hR hS hl.1 (cc_V_isNeeded l G N _ _ _ _ _ qv4) km_V_58 (ck_V_isNeeded qv4) ⟨Nat.le_of_ble_eq_true rfl, Nat.le_of_ble_eq_true rfl⟩ ⟨Nat.le_of_ble_eq_true rfl, Nat.le_of_ble_eq_true rfl, Nat.le_of_ble_eq_true rfl, Nat.le_of_ble_eq_true rfl⟩ rfl rfl (Nat.le_of_ble_eq_true rfl) dd_V_neededBits_15 (fun H locs hR hS => ?_)
        refine lv_if_eq (tgt := 27) hx hb dd_V_neededBits_18 (by decide) (fun c5 => ?_) (fun c5 => ?_)
        · have hm := ss_ift hm c5
          exact J_27 x2_4 x3_4  _ _ _ hm hR hS hl
        · have hm := ss_iff hm c5
          refine lv_iload_n hx hb dd_V_neededBits_21 rfl (lv_at hl 2 rfl) ?_
          refine lv_iconst (v := 1) hx hb dd_V_neededBits_22 (by decide) ?_
          refine lv_iload_n hx hb dd_V_neededBits_23 rfl (lv_at hl 3 rfl) ?_
          refine lv_ishl hx hb dd_V_neededBits_24 ?_
          refine lv_ior hx hb dd_V_neededBits_25 ?_
          obtain ⟨v6, qv6, hm⟩ := ss_bind hm
          refine ss_topi qv6 ?_
          refine lv_istore_n (lv' := [(2, .int v6), (0, ss_v (ss_b G) this), (1, .int a1), (3, .int x3_4)]) hx hb dd_V_neededBits_26 rfl hl (by decide) rfl (fun ls hl => ?_)
          exact J_27 v6 x3_4  _ _ _ hm hR hS (lv_sub hl [1, 2, 0, 3] rfl)
  exact L_4 N (0 : Int32) (0 : Int32) _ _ _ he_4 hR hS (lv_sub hl [2, 3, 1, 0] rfl)
theorem dd_S_step_0 : decode bb_S_step 0 = .ok (.aload_n 0, 1) := by decide +kernel
theorem dd_S_step_1 : decode bb_S_step 1 = .ok (.iload_n 1, 1) := by decide +kernel
theorem dd_S_step_2 : decode bb_S_step 2 = .ok (.invokevirtual 123, 3) := by decide +kernel
theorem dd_S_step_5 : decode bb_S_step 5 = .ok (.ifCond .ne 6, 3) := by decide +kernel
theorem dd_S_step_8 : decode bb_S_step 8 = .ok (.bipush (-2), 2) := by decide +kernel
theorem dd_S_step_10 : decode bb_S_step 10 = .ok (.ireturn, 1) := by decide +kernel
theorem dd_S_step_11 : decode bb_S_step 11 = .ok (.iload_n 2, 1) := by decide +kernel
theorem dd_S_step_12 : decode bb_S_step 12 = .ok (.tableswitch 131 0 5 #[40, 53, 65, 80, 93, 106], 40) := by decide +kernel
theorem dd_S_step_52 : decode bb_S_step 52 = .ok (.aload_n 0, 1) := by decide +kernel
theorem dd_S_step_53 : decode bb_S_step 53 = .ok (.getfield 41, 3) := by decide +kernel
theorem dd_S_step_56 : decode bb_S_step 56 = .ok (.getfield 127, 3) := by decide +kernel
theorem dd_S_step_59 : decode bb_S_step 59 = .ok (.getfield 131, 3) := by decide +kernel
theorem dd_S_step_62 : decode bb_S_step 62 = .ok (.iload_n 1, 1) := by decide +kernel
theorem dd_S_step_63 : decode bb_S_step 63 = .ok (.iaload, 1) := by decide +kernel
theorem dd_S_step_64 : decode bb_S_step 64 = .ok (.ireturn, 1) := by decide +kernel
theorem dd_S_step_65 : decode bb_S_step 65 = .ok (.aload_n 0, 1) := by decide +kernel
theorem dd_S_step_66 : decode bb_S_step 66 = .ok (.getfield 41, 3) := by decide +kernel
theorem dd_S_step_69 : decode bb_S_step 69 = .ok (.invokevirtual 137, 3) := by decide +kernel
theorem dd_S_step_72 : decode bb_S_step 72 = .ok (.iload_n 1, 1) := by decide +kernel
theorem dd_S_step_73 : decode bb_S_step 73 = .ok (.ishr, 1) := by decide +kernel
theorem dd_S_step_74 : decode bb_S_step 74 = .ok (.iconst 1, 1) := by decide +kernel
theorem dd_S_step_75 : decode bb_S_step 75 = .ok (.iand, 1) := by decide +kernel
theorem dd_S_step_76 : decode bb_S_step 76 = .ok (.ireturn, 1) := by decide +kernel
theorem dd_S_step_77 : decode bb_S_step 77 = .ok (.aload_n 0, 1) := by decide +kernel
theorem dd_S_step_78 : decode bb_S_step 78 = .ok (.getfield 41, 3) := by decide +kernel
theorem dd_S_step_81 : decode bb_S_step 81 = .ok (.getfield 127, 3) := by decide +kernel
theorem dd_S_step_84 : decode bb_S_step 84 = .ok (.getfield 141, 3) := by decide +kernel
theorem dd_S_step_87 : decode bb_S_step 87 = .ok (.iload_n 1, 1) := by decide +kernel
theorem dd_S_step_88 : decode bb_S_step 88 = .ok (.ishr, 1) := by decide +kernel
theorem dd_S_step_89 : decode bb_S_step 89 = .ok (.iconst 1, 1) := by decide +kernel
theorem dd_S_step_90 : decode bb_S_step 90 = .ok (.iand, 1) := by decide +kernel
theorem dd_S_step_91 : decode bb_S_step 91 = .ok (.ireturn, 1) := by decide +kernel
theorem dd_S_step_92 : decode bb_S_step 92 = .ok (.aload_n 0, 1) := by decide +kernel
theorem dd_S_step_93 : decode bb_S_step 93 = .ok (.getfield 41, 3) := by decide +kernel
theorem dd_S_step_96 : decode bb_S_step 96 = .ok (.getfield 127, 3) := by decide +kernel
theorem dd_S_step_99 : decode bb_S_step 99 = .ok (.getfield 144, 3) := by decide +kernel
theorem dd_S_step_102 : decode bb_S_step 102 = .ok (.iload_n 1, 1) := by decide +kernel
theorem dd_S_step_103 : decode bb_S_step 103 = .ok (.iaload, 1) := by decide +kernel
theorem dd_S_step_104 : decode bb_S_step 104 = .ok (.ireturn, 1) := by decide +kernel
theorem dd_S_step_105 : decode bb_S_step 105 = .ok (.aload_n 0, 1) := by decide +kernel
theorem dd_S_step_106 : decode bb_S_step 106 = .ok (.getfield 41, 3) := by decide +kernel
theorem dd_S_step_109 : decode bb_S_step 109 = .ok (.getfield 58, 3) := by decide +kernel
theorem dd_S_step_112 : decode bb_S_step 112 = .ok (.getfield 147, 3) := by decide +kernel
theorem dd_S_step_115 : decode bb_S_step 115 = .ok (.iload_n 1, 1) := by decide +kernel
theorem dd_S_step_116 : decode bb_S_step 116 = .ok (.iaload, 1) := by decide +kernel
theorem dd_S_step_117 : decode bb_S_step 117 = .ok (.ireturn, 1) := by decide +kernel
theorem dd_S_step_118 : decode bb_S_step 118 = .ok (.aload_n 0, 1) := by decide +kernel
theorem dd_S_step_119 : decode bb_S_step 119 = .ok (.getfield 41, 3) := by decide +kernel
theorem dd_S_step_122 : decode bb_S_step 122 = .ok (.getfield 58, 3) := by decide +kernel
theorem dd_S_step_125 : decode bb_S_step 125 = .ok (.aload_n 0, 1) := by decide +kernel
theorem dd_S_step_126 : decode bb_S_step 126 = .ok (.getfield 41, 3) := by decide +kernel
theorem dd_S_step_129 : decode bb_S_step 129 = .ok (.getfield 127, 3) := by decide +kernel
theorem dd_S_step_132 : decode bb_S_step 132 = .ok (.getfield 150, 3) := by decide +kernel
theorem dd_S_step_135 : decode bb_S_step 135 = .ok (.invokevirtual 153, 3) := by decide +kernel
theorem dd_S_step_138 : decode bb_S_step 138 = .ok (.iload_n 1, 1) := by decide +kernel
theorem dd_S_step_139 : decode bb_S_step 139 = .ok (.ishr, 1) := by decide +kernel
theorem dd_S_step_140 : decode bb_S_step 140 = .ok (.iconst 1, 1) := by decide +kernel
theorem dd_S_step_141 : decode bb_S_step 141 = .ok (.iand, 1) := by decide +kernel
theorem dd_S_step_142 : decode bb_S_step 142 = .ok (.ireturn, 1) := by decide +kernel
theorem dd_S_step_143 : decode bb_S_step 143 = .ok (.bipush (-2), 2) := by decide +kernel
theorem dd_S_step_145 : decode bb_S_step 145 = .ok (.ireturn, 1) := by decide +kernel
def mm_S_step (N : Nat) (this : Option Nat) (a1 : Int32) (a2 : Int32) (h : ss_Hp) : Option Int32 :=
  if ss_is h this 11 = true then
    (mm_S_isStep N this a1 h).bind fun v1 =>
    if v1 = 0 then
      some (-2 : Int32)
    else
      if a2 = (0 : Int32) then
        (ss_gr h this 11 4).bind fun r4 =>
        (ss_gr h r4 8 1).bind fun r5 =>
        (ss_gr h r5 0 0).bind fun r6 =>
        (ss_ai h r6 20 a1).bind fun v7 =>
        some v7
      else
      if a2 = (1 : Int32) then
        (ss_gr h this 11 4).bind fun r9 =>
        (mm_Wo_closedBits N r9 h).bind fun v10 =>
        some ((v10 >>> (a1 &&& 31)) &&& (1 : Int32))
      else
      if a2 = (2 : Int32) then
        (ss_gr h this 11 4).bind fun r12 =>
        (ss_gr h r12 8 1).bind fun r13 =>
        (ss_gi h r13 0 0).bind fun v14 =>
        some ((v14 >>> (a1 &&& 31)) &&& (1 : Int32))
      else
      if a2 = (3 : Int32) then
        (ss_gr h this 11 4).bind fun r16 =>
        (ss_gr h r16 8 1).bind fun r17 =>
        (ss_gr h r17 0 1).bind fun r18 =>
        (ss_ai h r18 20 a1).bind fun v19 =>
        some v19
      else
      if a2 = (4 : Int32) then
        (ss_gr h this 11 4).bind fun r21 =>
        (ss_gr h r21 8 0).bind fun r22 =>
        (ss_gr h r22 5 2).bind fun r23 =>
        (ss_ai h r23 20 a1).bind fun v24 =>
        some v24
      else
      if a2 = (5 : Int32) then
        (ss_gr h this 11 4).bind fun r26 =>
        (ss_gr h r26 8 0).bind fun r27 =>
        (ss_gr h this 11 4).bind fun r28 =>
        (ss_gr h r28 8 1).bind fun r29 =>
        (ss_gi h r29 0 3).bind fun v30 =>
        (mm_V_neededBits N r27 v30 h).bind fun v31 =>
        some ((v31 >>> (a1 &&& 31)) &&& (1 : Int32))
      else
      some (-2 : Int32)
  else none
abbrev ww_S_step (p : Program) (l : Launch) (e : Env) (s : State) (m : MethodId) (below : List Frame) (meth : Method) (c : Code) (G : ss_G) (this : Option Nat) (a1 : Int32) (a2 : Int32) (h : ss_Hp) (rr : Int32) (H : Heap) (locs : List Loc) (k n : Nat) (g : JFrame) : Prop := W p l e (headSpec (ss_w yy_S_step bb_S_step 3 (some (.int))) ({ frames := 2, cells := 0, slots := 0, locals := 45 })).room s m ([ss_v (ss_b G) this, .int a1, .int a2] : List Value).toArray below meth c H locs k n (MQ below (ss_Qc G (some (.int rr)) h) ([ss_v (ss_b G) this, .int a1, .int a2] : List Value).toArray s 0 0 (ss_A G)) g
theorem ck_S_step {N : Nat} {this : Option Nat} {a1 : Int32} {a2 : Int32} {h : ss_Hp} {res : Int32} (hm : mm_S_step N this a1 a2 h = some res) : ss_is h this 11 = true := (ss_chk hm).1
set_option maxHeartbeats 4000000 in
set_option maxRecDepth 100000 in
theorem cc_S_step (l : Launch) (G : ss_G) (N : Nat) (this : Option Nat) (a1 : Int32) (a2 : Int32) (h : ss_Hp) (rr : Int32) (hm : mm_S_step N this a1 a2 h = some rr) : ss_Ct l G yy_S_step bb_S_step 3 (some (.int)) ({ frames := 2, cells := 0, slots := 0, locals := 45 }) [ss_v (ss_b G) this, .int a1, .int a2] h (some (.int rr)) h := by
  obtain ⟨hck, hm⟩ := ss_chk hm
  refine Met.ofW (cc := bb_S_step) (maxL := 3) (ret := (some (.int))) (by decide) rfl ?_
  intro p e s m args below meth c s₁ B hml hv
  obtain ⟨rfl, hR, hK⟩ := hv
  have hC : CallFix p m c bb_S_step 3 s _ lw_g sR_11 := ⟨B.exec, B.bytes, hml, findClass_of_methodNamed B.named, fun w hw => atoms_spec (ws := ss_w yy_S_step bb_S_step 3 (some (.int))) B.pre w (List.mem_cons_of_mem _ hw)⟩
  have hx := hC.1
  have hb := hC.2.1
  have hr := B.returns
  have hlocks := B.notSynchronized
  have hS : va_S (ss_A G) s.heap s.heap [] := va_S.rf
  have hl := lv_entry ([ss_v (ss_b G) this, .int a1, .int a2]) (n := 3) (by simp [lg_sl, ss_v_cat, ss_cat_i, ss_cat_l, ss_cat_r])
  rw [lg_entry_eq]
  generalize (lg_sl ([ss_v (ss_b G) this, .int a1, .int a2]) ++ List.replicate (3 - (lg_sl ([ss_v (ss_b G) this, .int a1, .int a2])).length) Slot.unset).toArray = ls at hl ⊢
  have hl : lv_has ls 3 [(0, ss_v (ss_b G) this), (1, .int a1), (2, .int a2)] := by simpa [lv_args, ss_v_cat, ss_cat_i, ss_cat_l, ss_cat_r] using hl
  refine ss_aload_n hx hb dd_S_step_0 rfl (lv_at hl 0 rfl) ?_
  refine lv_iload_n hx hb dd_S_step_1 rfl (lv_at hl 1 rfl) ?_
  obtain ⟨v1, qv1, hm⟩ := ss_bind hm
  refine ss_cV 0 0 (As := [.int a1]) hC hK hR hS hl.1 (cc_S_isStep l G N _ _ _ _ qv1) km_S_123 (ck_S_isStep qv1) ⟨Nat.le_of_ble_eq_true rfl, Nat.le_of_ble_eq_true rfl⟩ ⟨Nat.le_of_ble_eq_true rfl, Nat.le_of_ble_eq_true rfl, Nat.le_of_ble_eq_true rfl, Nat.le_of_ble_eq_true rfl⟩ rfl rfl (Nat.le_of_ble_eq_true rfl) dd_S_step_2 (fun H locs hR hS => ?_)
  refine lv_if_ne (tgt := 11) hx hb dd_S_step_5 (by decide) (fun c2 => ?_) (fun c2 => ?_)
  · have hm := ss_iff hm c2
    refine lv_iload_n hx hb dd_S_step_11 rfl (lv_at hl 2 rfl) ?_
    by_cases c3 : a2 = (0 : Int32)
    · have hm := ss_ift hm c3
      refine lv_tableIn (tgt := 52) hx hb dd_S_step_12 (by rw [c3]; decide) (by rw [c3]; decide) (by rw [c3]; rfl) (by decide) ?_
      refine ss_aload_n hx hb dd_S_step_52 rfl (lv_at hl 0 rfl) ?_
      obtain ⟨r4, qr4, hm⟩ := ss_bind hm
      refine ss_getr hC hK hR kf_S_41 rfl qr4 dd_S_step_53 ?_
      obtain ⟨r5, qr5, hm⟩ := ss_bind hm
      refine ss_getr hC hK hR kf_S_127 rfl qr5 dd_S_step_56 ?_
      obtain ⟨r6, qr6, hm⟩ := ss_bind hm
      refine ss_getr hC hK hR kf_S_131 rfl qr6 dd_S_step_59 ?_
      refine lv_iload_n hx hb dd_S_step_62 rfl (lv_at hl 1 rfl) ?_
      obtain ⟨v7, qv7, hm⟩ := ss_bind hm
      refine ss_iald hC hK hR qv7 dd_S_step_63 ?_
      exact ss_iret hC hr hlocks hR hS (ss_with _ hm) dd_S_step_64
    have hm := ss_iff hm c3
    by_cases c8 : a2 = (1 : Int32)
    · have hm := ss_ift hm c8
      refine lv_tableIn (tgt := 65) hx hb dd_S_step_12 (by rw [c8]; decide) (by rw [c8]; decide) (by rw [c8]; rfl) (by decide) ?_
      refine ss_aload_n hx hb dd_S_step_65 rfl (lv_at hl 0 rfl) ?_
      obtain ⟨r9, qr9, hm⟩ := ss_bind hm
      refine ss_getr hC hK hR kf_S_41 rfl qr9 dd_S_step_66 ?_
      obtain ⟨v10, qv10, hm⟩ := ss_bind hm
      refine ss_cV 0 0 (As := []) hC hK hR hS hl.1 (cc_Wo_closedBits l G N _ _ _ qv10) km_S_137 (ck_Wo_closedBits qv10) ⟨Nat.le_of_ble_eq_true rfl, Nat.le_of_ble_eq_true rfl⟩ ⟨Nat.le_of_ble_eq_true rfl, Nat.le_of_ble_eq_true rfl, Nat.le_of_ble_eq_true rfl, Nat.le_of_ble_eq_true rfl⟩ rfl rfl (Nat.le_of_ble_eq_true rfl) dd_S_step_69 (fun H locs hR hS => ?_)
      refine lv_iload_n hx hb dd_S_step_72 rfl (lv_at hl 1 rfl) ?_
      refine lv_ishr hx hb dd_S_step_73 ?_
      refine lv_iconst (v := 1) hx hb dd_S_step_74 (by decide) ?_
      refine lv_iand hx hb dd_S_step_75 ?_
      exact ss_iret hC hr hlocks hR hS (ss_with _ hm) dd_S_step_76
    have hm := ss_iff hm c8
    by_cases c11 : a2 = (2 : Int32)
    · have hm := ss_ift hm c11
      refine lv_tableIn (tgt := 77) hx hb dd_S_step_12 (by rw [c11]; decide) (by rw [c11]; decide) (by rw [c11]; rfl) (by decide) ?_
      refine ss_aload_n hx hb dd_S_step_77 rfl (lv_at hl 0 rfl) ?_
      obtain ⟨r12, qr12, hm⟩ := ss_bind hm
      refine ss_getr hC hK hR kf_S_41 rfl qr12 dd_S_step_78 ?_
      obtain ⟨r13, qr13, hm⟩ := ss_bind hm
      refine ss_getr hC hK hR kf_S_127 rfl qr13 dd_S_step_81 ?_
      obtain ⟨v14, qv14, hm⟩ := ss_bind hm
      refine ss_geti hC hK hR kf_S_141 qv14 dd_S_step_84 ?_
      refine lv_iload_n hx hb dd_S_step_87 rfl (lv_at hl 1 rfl) ?_
      refine lv_ishr hx hb dd_S_step_88 ?_
      refine lv_iconst (v := 1) hx hb dd_S_step_89 (by decide) ?_
      refine lv_iand hx hb dd_S_step_90 ?_
      exact ss_iret hC hr hlocks hR hS (ss_with _ hm) dd_S_step_91
    have hm := ss_iff hm c11
    by_cases c15 : a2 = (3 : Int32)
    · have hm := ss_ift hm c15
      refine lv_tableIn (tgt := 92) hx hb dd_S_step_12 (by rw [c15]; decide) (by rw [c15]; decide) (by rw [c15]; rfl) (by decide) ?_
      refine ss_aload_n hx hb dd_S_step_92 rfl (lv_at hl 0 rfl) ?_
      obtain ⟨r16, qr16, hm⟩ := ss_bind hm
      refine ss_getr hC hK hR kf_S_41 rfl qr16 dd_S_step_93 ?_
      obtain ⟨r17, qr17, hm⟩ := ss_bind hm
      refine ss_getr hC hK hR kf_S_127 rfl qr17 dd_S_step_96 ?_
      obtain ⟨r18, qr18, hm⟩ := ss_bind hm
      refine ss_getr hC hK hR kf_S_144 rfl qr18 dd_S_step_99 ?_
      refine lv_iload_n hx hb dd_S_step_102 rfl (lv_at hl 1 rfl) ?_
      obtain ⟨v19, qv19, hm⟩ := ss_bind hm
      refine ss_iald hC hK hR qv19 dd_S_step_103 ?_
      exact ss_iret hC hr hlocks hR hS (ss_with _ hm) dd_S_step_104
    have hm := ss_iff hm c15
    by_cases c20 : a2 = (4 : Int32)
    · have hm := ss_ift hm c20
      refine lv_tableIn (tgt := 105) hx hb dd_S_step_12 (by rw [c20]; decide) (by rw [c20]; decide) (by rw [c20]; rfl) (by decide) ?_
      refine ss_aload_n hx hb dd_S_step_105 rfl (lv_at hl 0 rfl) ?_
      obtain ⟨r21, qr21, hm⟩ := ss_bind hm
      refine ss_getr hC hK hR kf_S_41 rfl qr21 dd_S_step_106 ?_
      obtain ⟨r22, qr22, hm⟩ := ss_bind hm
      refine ss_getr hC hK hR kf_S_58 rfl qr22 dd_S_step_109 ?_
      obtain ⟨r23, qr23, hm⟩ := ss_bind hm
      refine ss_getr hC hK hR kf_S_147 rfl qr23 dd_S_step_112 ?_
      refine lv_iload_n hx hb dd_S_step_115 rfl (lv_at hl 1 rfl) ?_
      obtain ⟨v24, qv24, hm⟩ := ss_bind hm
      refine ss_iald hC hK hR qv24 dd_S_step_116 ?_
      exact ss_iret hC hr hlocks hR hS (ss_with _ hm) dd_S_step_117
    have hm := ss_iff hm c20
    by_cases c25 : a2 = (5 : Int32)
    · have hm := ss_ift hm c25
      refine lv_tableIn (tgt := 118) hx hb dd_S_step_12 (by rw [c25]; decide) (by rw [c25]; decide) (by rw [c25]; rfl) (by decide) ?_
      refine ss_aload_n hx hb dd_S_step_118 rfl (lv_at hl 0 rfl) ?_
      obtain ⟨r26, qr26, hm⟩ := ss_bind hm
      refine ss_getr hC hK hR kf_S_41 rfl qr26 dd_S_step_119 ?_
      obtain ⟨r27, qr27, hm⟩ := ss_bind hm
      refine ss_getr hC hK hR kf_S_58 rfl qr27 dd_S_step_122 ?_
      refine ss_aload_n hx hb dd_S_step_125 rfl (lv_at hl 0 rfl) ?_
      obtain ⟨r28, qr28, hm⟩ := ss_bind hm
      refine ss_getr hC hK hR kf_S_41 rfl qr28 dd_S_step_126 ?_
      obtain ⟨r29, qr29, hm⟩ := ss_bind hm
      refine ss_getr hC hK hR kf_S_127 rfl qr29 dd_S_step_129 ?_
      obtain ⟨v30, qv30, hm⟩ := ss_bind hm
      refine ss_geti hC hK hR kf_S_150 qv30 dd_S_step_132 ?_
      obtain ⟨v31, qv31, hm⟩ := ss_bind hm
      refine ss_cV 0 0 (As := [.int v30]) hC hK hR hS hl.1 (cc_V_neededBits l G N _ _ _ _ qv31) km_S_153 (ck_V_neededBits qv31) ⟨Nat.le_of_ble_eq_true rfl, Nat.le_of_ble_eq_true rfl⟩ ⟨Nat.le_of_ble_eq_true rfl, Nat.le_of_ble_eq_true rfl, Nat.le_of_ble_eq_true rfl, Nat.le_of_ble_eq_true rfl⟩ rfl rfl (Nat.le_of_ble_eq_true rfl) dd_S_step_135 (fun H locs hR hS => ?_)
      refine lv_iload_n hx hb dd_S_step_138 rfl (lv_at hl 1 rfl) ?_
      refine lv_ishr hx hb dd_S_step_139 ?_
      refine lv_iconst (v := 1) hx hb dd_S_step_140 (by decide) ?_
      refine lv_iand hx hb dd_S_step_141 ?_
      exact ss_iret hC hr hlocks hR hS (ss_with _ hm) dd_S_step_142
    have hm := ss_iff hm c25
    have nc3 := lv_neT (a := 0) c3 (by decide)
    have nc8 := lv_neT (a := 1) c8 (by decide)
    have nc11 := lv_neT (a := 2) c11 (by decide)
    have nc15 := lv_neT (a := 3) c15 (by decide)
    have nc20 := lv_neT (a := 4) c20 (by decide)
    have nc25 := lv_neT (a := 5) c25 (by decide)
    refine lv_tableOut (tgt := 143) hx hb dd_S_step_12 (by omega) (by decide) ?_
    refine lv_bipush (v := -2) hx hb dd_S_step_143 (by decide) ?_
    exact ss_iret hC hr hlocks hR hS (ss_with _ hm) dd_S_step_145
  · have hm := ss_ift hm c2
    refine lv_bipush (v := -2) hx hb dd_S_step_8 (by decide) ?_
    exact ss_iret hC hr hlocks hR hS (ss_with _ hm) dd_S_step_10
theorem dd_S_isHouse_0 : decode bb_S_isHouse 0 = .ok (.iload_n 1, 1) := by decide +kernel
theorem dd_S_isHouse_1 : decode bb_S_isHouse 1 = .ok (.ifCond .lt 21, 3) := by decide +kernel
theorem dd_S_isHouse_4 : decode bb_S_isHouse 4 = .ok (.iload_n 1, 1) := by decide +kernel
theorem dd_S_isHouse_5 : decode bb_S_isHouse 5 = .ok (.aload_n 0, 1) := by decide +kernel
theorem dd_S_isHouse_6 : decode bb_S_isHouse 6 = .ok (.getfield 41, 3) := by decide +kernel
theorem dd_S_isHouse_9 : decode bb_S_isHouse 9 = .ok (.getfield 58, 3) := by decide +kernel
theorem dd_S_isHouse_12 : decode bb_S_isHouse 12 = .ok (.getfield 302, 3) := by decide +kernel
theorem dd_S_isHouse_15 : decode bb_S_isHouse 15 = .ok (.if_icmp .ge 7, 3) := by decide +kernel
theorem dd_S_isHouse_18 : decode bb_S_isHouse 18 = .ok (.iconst 1, 1) := by decide +kernel
theorem dd_S_isHouse_19 : decode bb_S_isHouse 19 = .ok (.goto 4, 3) := by decide +kernel
theorem dd_S_isHouse_22 : decode bb_S_isHouse 22 = .ok (.iconst 0, 1) := by decide +kernel
theorem dd_S_isHouse_23 : decode bb_S_isHouse 23 = .ok (.ireturn, 1) := by decide +kernel
def mm_S_isHouse_j23 (N : Nat) (this : Option Nat) (a1 : Int32) (h : ss_Hp) (s0_23 : Int32) : Option Int32 :=
  (ss_bz s0_23).bind fun v1 =>
  some v1
def mm_S_isHouse_j22 (N : Nat) (this : Option Nat) (a1 : Int32) (h : ss_Hp) : Option Int32 :=
  mm_S_isHouse_j23 N this a1 h (0 : Int32)
def mm_S_isHouse (N : Nat) (this : Option Nat) (a1 : Int32) (h : ss_Hp) : Option Int32 :=
  if ss_is h this 11 = true then
    if a1 < 0 then
      mm_S_isHouse_j22 N this a1 h
    else
      (ss_gr h this 11 4).bind fun r3 =>
      (ss_gr h r3 8 0).bind fun r4 =>
      (ss_gi h r4 5 4).bind fun v5 =>
      if v5 ≤ a1 then
        mm_S_isHouse_j22 N this a1 h
      else
        mm_S_isHouse_j23 N this a1 h (1 : Int32)
  else none
abbrev ww_S_isHouse (p : Program) (l : Launch) (e : Env) (s : State) (m : MethodId) (below : List Frame) (meth : Method) (c : Code) (G : ss_G) (this : Option Nat) (a1 : Int32) (h : ss_Hp) (rr : Int32) (H : Heap) (locs : List Loc) (k n : Nat) (g : JFrame) : Prop := W p l e (headSpec (ss_w yy_S_isHouse bb_S_isHouse 2 (some .boolean)) ({ frames := 0, cells := 0, slots := 0, locals := 0 })).room s m ([ss_v (ss_b G) this, .int a1] : List Value).toArray below meth c H locs k n (MQ below (ss_Qc G (some (.int rr)) h) ([ss_v (ss_b G) this, .int a1] : List Value).toArray s 0 0 (ss_A G)) g
theorem ck_S_isHouse {N : Nat} {this : Option Nat} {a1 : Int32} {h : ss_Hp} {res : Int32} (hm : mm_S_isHouse N this a1 h = some res) : ss_is h this 11 = true := (ss_chk hm).1
set_option maxHeartbeats 4000000 in
set_option maxRecDepth 100000 in
theorem cc_S_isHouse (l : Launch) (G : ss_G) (N : Nat) (this : Option Nat) (a1 : Int32) (h : ss_Hp) (rr : Int32) (hm : mm_S_isHouse N this a1 h = some rr) : ss_Ct l G yy_S_isHouse bb_S_isHouse 2 (some .boolean) ({ frames := 0, cells := 0, slots := 0, locals := 0 }) [ss_v (ss_b G) this, .int a1] h (some (.int rr)) h := by
  obtain ⟨hck, hm⟩ := ss_chk hm
  refine Met.ofW (cc := bb_S_isHouse) (maxL := 2) (ret := (some .boolean)) (by decide) rfl ?_
  intro p e s m args below meth c s₁ B hml hv
  obtain ⟨rfl, hR, hK⟩ := hv
  have hC : CallFix p m c bb_S_isHouse 2 s _ lw_g sR_11 := ⟨B.exec, B.bytes, hml, findClass_of_methodNamed B.named, fun w hw => atoms_spec (ws := ss_w yy_S_isHouse bb_S_isHouse 2 (some .boolean)) B.pre w (List.mem_cons_of_mem _ hw)⟩
  have hx := hC.1
  have hb := hC.2.1
  have hr := B.returns
  have hlocks := B.notSynchronized
  have hS : va_S (ss_A G) s.heap s.heap [] := va_S.rf
  have hl := lv_entry ([ss_v (ss_b G) this, .int a1]) (n := 2) (by simp [lg_sl, ss_v_cat, ss_cat_i, ss_cat_l, ss_cat_r])
  rw [lg_entry_eq]
  generalize (lg_sl ([ss_v (ss_b G) this, .int a1]) ++ List.replicate (2 - (lg_sl ([ss_v (ss_b G) this, .int a1])).length) Slot.unset).toArray = ls at hl ⊢
  have hl : lv_has ls 2 [(0, ss_v (ss_b G) this), (1, .int a1)] := by simpa [lv_args, ss_v_cat, ss_cat_i, ss_cat_l, ss_cat_r] using hl
  have J_23 : ∀ (s0_23 : Int32) (H : Heap) (locs : List Loc) (ls : Array Slot), mm_S_isHouse_j23 N this a1 h s0_23 = some rr → ss_R G h H → va_S (ss_A G) s.heap H locs → lv_has ls 2 [] → ww_S_isHouse p l e s m below meth c G this a1 h rr  H locs 0 0 (F0 m 23 ls [.int s0_23]) := by
    intro s0_23 H locs ls hm hR hS hl
    obtain ⟨v1, qv1, hm⟩ := ss_bind hm
    obtain ⟨hnb, rfl⟩ := ss_bzs qv1
    exact ss_zret hC hr hnb hlocks hR hS (ss_with _ hm) dd_S_isHouse_23
  have J_22 : ∀  (H : Heap) (locs : List Loc) (ls : Array Slot), mm_S_isHouse_j22 N this a1 h = some rr → ss_R G h H → va_S (ss_A G) s.heap H locs → lv_has ls 2 [] → ww_S_isHouse p l e s m below meth c G this a1 h rr  H locs 0 0 (F0 m 22 ls []) := by
    intro  H locs ls hm hR hS hl
    refine lv_iconst (v := 0) hx hb dd_S_isHouse_22 (by decide) ?_
    exact J_23 (0 : Int32)  _ _ _ hm hR hS hl
  refine lv_iload_n hx hb dd_S_isHouse_0 rfl (lv_at hl 1 rfl) ?_
  refine lv_if_lt (tgt := 22) hx hb dd_S_isHouse_1 (by decide) (fun c2 => ?_) (fun c2 => ?_)
  · have hm := ss_ift hm c2
    exact J_22  _ _ _ hm hR hS (lv_sub hl [] rfl)
  · have hm := ss_iff hm c2
    refine lv_iload_n hx hb dd_S_isHouse_4 rfl (lv_at hl 1 rfl) ?_
    refine ss_aload_n hx hb dd_S_isHouse_5 rfl (lv_at hl 0 rfl) ?_
    obtain ⟨r3, qr3, hm⟩ := ss_bind hm
    refine ss_getr hC hK hR kf_S_41 rfl qr3 dd_S_isHouse_6 ?_
    obtain ⟨r4, qr4, hm⟩ := ss_bind hm
    refine ss_getr hC hK hR kf_S_58 rfl qr4 dd_S_isHouse_9 ?_
    obtain ⟨v5, qv5, hm⟩ := ss_bind hm
    refine ss_geti hC hK hR kf_S_302 qv5 dd_S_isHouse_12 ?_
    refine lv_icmp_ge (tgt := 22) hx hb dd_S_isHouse_15 (by decide) (fun c6 => ?_) (fun c6 => ?_)
    · have hm := ss_ift hm c6
      exact J_22  _ _ _ hm hR hS (lv_sub hl [] rfl)
    · have hm := ss_iff hm c6
      refine lv_iconst (v := 1) hx hb dd_S_isHouse_18 (by decide) ?_
      refine lv_goto (tgt := 23) hx hb dd_S_isHouse_19 (by decide) ?_
      exact J_23 (1 : Int32)  _ _ _ hm hR hS (lv_sub hl [] rfl)
theorem dd_S_house_0 : decode bb_S_house 0 = .ok (.aload_n 0, 1) := by decide +kernel
theorem dd_S_house_1 : decode bb_S_house 1 = .ok (.iload_n 1, 1) := by decide +kernel
theorem dd_S_house_2 : decode bb_S_house 2 = .ok (.invokevirtual 157, 3) := by decide +kernel
theorem dd_S_house_5 : decode bb_S_house 5 = .ok (.ifCond .ne 5, 3) := by decide +kernel
theorem dd_S_house_8 : decode bb_S_house 8 = .ok (.iconst (-1), 1) := by decide +kernel
theorem dd_S_house_9 : decode bb_S_house 9 = .ok (.ireturn, 1) := by decide +kernel
theorem dd_S_house_10 : decode bb_S_house 10 = .ok (.iload_n 2, 1) := by decide +kernel
theorem dd_S_house_11 : decode bb_S_house 11 = .ok (.tableswitch 66 0 2 #[25, 38, 51], 25) := by decide +kernel
theorem dd_S_house_36 : decode bb_S_house 36 = .ok (.aload_n 0, 1) := by decide +kernel
theorem dd_S_house_37 : decode bb_S_house 37 = .ok (.getfield 41, 3) := by decide +kernel
theorem dd_S_house_40 : decode bb_S_house 40 = .ok (.getfield 58, 3) := by decide +kernel
theorem dd_S_house_43 : decode bb_S_house 43 = .ok (.getfield 160, 3) := by decide +kernel
theorem dd_S_house_46 : decode bb_S_house 46 = .ok (.iload_n 1, 1) := by decide +kernel
theorem dd_S_house_47 : decode bb_S_house 47 = .ok (.iaload, 1) := by decide +kernel
theorem dd_S_house_48 : decode bb_S_house 48 = .ok (.ireturn, 1) := by decide +kernel
theorem dd_S_house_49 : decode bb_S_house 49 = .ok (.aload_n 0, 1) := by decide +kernel
theorem dd_S_house_50 : decode bb_S_house 50 = .ok (.getfield 41, 3) := by decide +kernel
theorem dd_S_house_53 : decode bb_S_house 53 = .ok (.getfield 58, 3) := by decide +kernel
theorem dd_S_house_56 : decode bb_S_house 56 = .ok (.getfield 163, 3) := by decide +kernel
theorem dd_S_house_59 : decode bb_S_house 59 = .ok (.iload_n 1, 1) := by decide +kernel
theorem dd_S_house_60 : decode bb_S_house 60 = .ok (.iaload, 1) := by decide +kernel
theorem dd_S_house_61 : decode bb_S_house 61 = .ok (.ireturn, 1) := by decide +kernel
theorem dd_S_house_62 : decode bb_S_house 62 = .ok (.aload_n 0, 1) := by decide +kernel
theorem dd_S_house_63 : decode bb_S_house 63 = .ok (.getfield 41, 3) := by decide +kernel
theorem dd_S_house_66 : decode bb_S_house 66 = .ok (.getfield 127, 3) := by decide +kernel
theorem dd_S_house_69 : decode bb_S_house 69 = .ok (.getfield 166, 3) := by decide +kernel
theorem dd_S_house_72 : decode bb_S_house 72 = .ok (.iload_n 1, 1) := by decide +kernel
theorem dd_S_house_73 : decode bb_S_house 73 = .ok (.ishr, 1) := by decide +kernel
theorem dd_S_house_74 : decode bb_S_house 74 = .ok (.iconst 1, 1) := by decide +kernel
theorem dd_S_house_75 : decode bb_S_house 75 = .ok (.iand, 1) := by decide +kernel
theorem dd_S_house_76 : decode bb_S_house 76 = .ok (.ireturn, 1) := by decide +kernel
theorem dd_S_house_77 : decode bb_S_house 77 = .ok (.iconst (-1), 1) := by decide +kernel
theorem dd_S_house_78 : decode bb_S_house 78 = .ok (.ireturn, 1) := by decide +kernel
def mm_S_house (N : Nat) (this : Option Nat) (a1 : Int32) (a2 : Int32) (h : ss_Hp) : Option Int32 :=
  if ss_is h this 11 = true then
    (mm_S_isHouse N this a1 h).bind fun v1 =>
    if v1 = 0 then
      some (-1 : Int32)
    else
      if a2 = (0 : Int32) then
        (ss_gr h this 11 4).bind fun r4 =>
        (ss_gr h r4 8 0).bind fun r5 =>
        (ss_gr h r5 5 0).bind fun r6 =>
        (ss_ai h r6 20 a1).bind fun v7 =>
        some v7
      else
      if a2 = (1 : Int32) then
        (ss_gr h this 11 4).bind fun r9 =>
        (ss_gr h r9 8 0).bind fun r10 =>
        (ss_gr h r10 5 1).bind fun r11 =>
        (ss_ai h r11 20 a1).bind fun v12 =>
        some v12
      else
      if a2 = (2 : Int32) then
        (ss_gr h this 11 4).bind fun r14 =>
        (ss_gr h r14 8 1).bind fun r15 =>
        (ss_gi h r15 0 2).bind fun v16 =>
        some ((v16 >>> (a1 &&& 31)) &&& (1 : Int32))
      else
      some (-1 : Int32)
  else none
abbrev ww_S_house (p : Program) (l : Launch) (e : Env) (s : State) (m : MethodId) (below : List Frame) (meth : Method) (c : Code) (G : ss_G) (this : Option Nat) (a1 : Int32) (a2 : Int32) (h : ss_Hp) (rr : Int32) (H : Heap) (locs : List Loc) (k n : Nat) (g : JFrame) : Prop := W p l e (headSpec (ss_w yy_S_house bb_S_house 3 (some (.int))) ({ frames := 1, cells := 0, slots := 0, locals := 21 })).room s m ([ss_v (ss_b G) this, .int a1, .int a2] : List Value).toArray below meth c H locs k n (MQ below (ss_Qc G (some (.int rr)) h) ([ss_v (ss_b G) this, .int a1, .int a2] : List Value).toArray s 0 0 (ss_A G)) g
theorem ck_S_house {N : Nat} {this : Option Nat} {a1 : Int32} {a2 : Int32} {h : ss_Hp} {res : Int32} (hm : mm_S_house N this a1 a2 h = some res) : ss_is h this 11 = true := (ss_chk hm).1
set_option maxHeartbeats 4000000 in
set_option maxRecDepth 100000 in
theorem cc_S_house (l : Launch) (G : ss_G) (N : Nat) (this : Option Nat) (a1 : Int32) (a2 : Int32) (h : ss_Hp) (rr : Int32) (hm : mm_S_house N this a1 a2 h = some rr) : ss_Ct l G yy_S_house bb_S_house 3 (some (.int)) ({ frames := 1, cells := 0, slots := 0, locals := 21 }) [ss_v (ss_b G) this, .int a1, .int a2] h (some (.int rr)) h := by
  obtain ⟨hck, hm⟩ := ss_chk hm
  refine Met.ofW (cc := bb_S_house) (maxL := 3) (ret := (some (.int))) (by decide) rfl ?_
  intro p e s m args below meth c s₁ B hml hv
  obtain ⟨rfl, hR, hK⟩ := hv
  have hC : CallFix p m c bb_S_house 3 s _ lw_g sR_11 := ⟨B.exec, B.bytes, hml, findClass_of_methodNamed B.named, fun w hw => atoms_spec (ws := ss_w yy_S_house bb_S_house 3 (some (.int))) B.pre w (List.mem_cons_of_mem _ hw)⟩
  have hx := hC.1
  have hb := hC.2.1
  have hr := B.returns
  have hlocks := B.notSynchronized
  have hS : va_S (ss_A G) s.heap s.heap [] := va_S.rf
  have hl := lv_entry ([ss_v (ss_b G) this, .int a1, .int a2]) (n := 3) (by simp [lg_sl, ss_v_cat, ss_cat_i, ss_cat_l, ss_cat_r])
  rw [lg_entry_eq]
  generalize (lg_sl ([ss_v (ss_b G) this, .int a1, .int a2]) ++ List.replicate (3 - (lg_sl ([ss_v (ss_b G) this, .int a1, .int a2])).length) Slot.unset).toArray = ls at hl ⊢
  have hl : lv_has ls 3 [(0, ss_v (ss_b G) this), (1, .int a1), (2, .int a2)] := by simpa [lv_args, ss_v_cat, ss_cat_i, ss_cat_l, ss_cat_r] using hl
  refine ss_aload_n hx hb dd_S_house_0 rfl (lv_at hl 0 rfl) ?_
  refine lv_iload_n hx hb dd_S_house_1 rfl (lv_at hl 1 rfl) ?_
  obtain ⟨v1, qv1, hm⟩ := ss_bind hm
  refine ss_cV 0 0 (As := [.int a1]) hC hK hR hS hl.1 (cc_S_isHouse l G N _ _ _ _ qv1) km_S_157 (ck_S_isHouse qv1) ⟨Nat.le_of_ble_eq_true rfl, Nat.le_of_ble_eq_true rfl⟩ ⟨Nat.le_of_ble_eq_true rfl, Nat.le_of_ble_eq_true rfl, Nat.le_of_ble_eq_true rfl, Nat.le_of_ble_eq_true rfl⟩ rfl rfl (Nat.le_of_ble_eq_true rfl) dd_S_house_2 (fun H locs hR hS => ?_)
  refine lv_if_ne (tgt := 10) hx hb dd_S_house_5 (by decide) (fun c2 => ?_) (fun c2 => ?_)
  · have hm := ss_iff hm c2
    refine lv_iload_n hx hb dd_S_house_10 rfl (lv_at hl 2 rfl) ?_
    by_cases c3 : a2 = (0 : Int32)
    · have hm := ss_ift hm c3
      refine lv_tableIn (tgt := 36) hx hb dd_S_house_11 (by rw [c3]; decide) (by rw [c3]; decide) (by rw [c3]; rfl) (by decide) ?_
      refine ss_aload_n hx hb dd_S_house_36 rfl (lv_at hl 0 rfl) ?_
      obtain ⟨r4, qr4, hm⟩ := ss_bind hm
      refine ss_getr hC hK hR kf_S_41 rfl qr4 dd_S_house_37 ?_
      obtain ⟨r5, qr5, hm⟩ := ss_bind hm
      refine ss_getr hC hK hR kf_S_58 rfl qr5 dd_S_house_40 ?_
      obtain ⟨r6, qr6, hm⟩ := ss_bind hm
      refine ss_getr hC hK hR kf_S_160 rfl qr6 dd_S_house_43 ?_
      refine lv_iload_n hx hb dd_S_house_46 rfl (lv_at hl 1 rfl) ?_
      obtain ⟨v7, qv7, hm⟩ := ss_bind hm
      refine ss_iald hC hK hR qv7 dd_S_house_47 ?_
      exact ss_iret hC hr hlocks hR hS (ss_with _ hm) dd_S_house_48
    have hm := ss_iff hm c3
    by_cases c8 : a2 = (1 : Int32)
    · have hm := ss_ift hm c8
      refine lv_tableIn (tgt := 49) hx hb dd_S_house_11 (by rw [c8]; decide) (by rw [c8]; decide) (by rw [c8]; rfl) (by decide) ?_
      refine ss_aload_n hx hb dd_S_house_49 rfl (lv_at hl 0 rfl) ?_
      obtain ⟨r9, qr9, hm⟩ := ss_bind hm
      refine ss_getr hC hK hR kf_S_41 rfl qr9 dd_S_house_50 ?_
      obtain ⟨r10, qr10, hm⟩ := ss_bind hm
      refine ss_getr hC hK hR kf_S_58 rfl qr10 dd_S_house_53 ?_
      obtain ⟨r11, qr11, hm⟩ := ss_bind hm
      refine ss_getr hC hK hR kf_S_163 rfl qr11 dd_S_house_56 ?_
      refine lv_iload_n hx hb dd_S_house_59 rfl (lv_at hl 1 rfl) ?_
      obtain ⟨v12, qv12, hm⟩ := ss_bind hm
      refine ss_iald hC hK hR qv12 dd_S_house_60 ?_
      exact ss_iret hC hr hlocks hR hS (ss_with _ hm) dd_S_house_61
    have hm := ss_iff hm c8
    by_cases c13 : a2 = (2 : Int32)
    · have hm := ss_ift hm c13
      refine lv_tableIn (tgt := 62) hx hb dd_S_house_11 (by rw [c13]; decide) (by rw [c13]; decide) (by rw [c13]; rfl) (by decide) ?_
      refine ss_aload_n hx hb dd_S_house_62 rfl (lv_at hl 0 rfl) ?_
      obtain ⟨r14, qr14, hm⟩ := ss_bind hm
      refine ss_getr hC hK hR kf_S_41 rfl qr14 dd_S_house_63 ?_
      obtain ⟨r15, qr15, hm⟩ := ss_bind hm
      refine ss_getr hC hK hR kf_S_127 rfl qr15 dd_S_house_66 ?_
      obtain ⟨v16, qv16, hm⟩ := ss_bind hm
      refine ss_geti hC hK hR kf_S_166 qv16 dd_S_house_69 ?_
      refine lv_iload_n hx hb dd_S_house_72 rfl (lv_at hl 1 rfl) ?_
      refine lv_ishr hx hb dd_S_house_73 ?_
      refine lv_iconst (v := 1) hx hb dd_S_house_74 (by decide) ?_
      refine lv_iand hx hb dd_S_house_75 ?_
      exact ss_iret hC hr hlocks hR hS (ss_with _ hm) dd_S_house_76
    have hm := ss_iff hm c13
    have nc3 := lv_neT (a := 0) c3 (by decide)
    have nc8 := lv_neT (a := 1) c8 (by decide)
    have nc13 := lv_neT (a := 2) c13 (by decide)
    refine lv_tableOut (tgt := 77) hx hb dd_S_house_11 (by omega) (by decide) ?_
    refine lv_iconst (v := -1) hx hb dd_S_house_77 (by decide) ?_
    exact ss_iret hC hr hlocks hR hS (ss_with _ hm) dd_S_house_78
  · have hm := ss_ift hm c2
    refine lv_iconst (v := -1) hx hb dd_S_house_8 (by decide) ?_
    exact ss_iret hC hr hlocks hR hS (ss_with _ hm) dd_S_house_9
theorem dd_A_keep_0 : decode bb_A_keep 0 = .ok (.aload_n 0, 1) := by decide +kernel
theorem dd_A_keep_1 : decode bb_A_keep 1 = .ok (.getfield 13, 3) := by decide +kernel
theorem dd_A_keep_4 : decode bb_A_keep 4 = .ok (.aload_n 0, 1) := by decide +kernel
theorem dd_A_keep_5 : decode bb_A_keep 5 = .ok (.getfield 18, 3) := by decide +kernel
theorem dd_A_keep_8 : decode bb_A_keep 8 = .ok (.aaload, 1) := by decide +kernel
theorem dd_A_keep_9 : decode bb_A_keep 9 = .ok (.aload_n 1, 1) := by decide +kernel
theorem dd_A_keep_10 : decode bb_A_keep 10 = .ok (.invokevirtual 22, 3) := by decide +kernel
theorem dd_A_keep_13 : decode bb_A_keep 13 = .ok (.aload_n 0, 1) := by decide +kernel
theorem dd_A_keep_14 : decode bb_A_keep 14 = .ok (.aload_n 0, 1) := by decide +kernel
theorem dd_A_keep_15 : decode bb_A_keep 15 = .ok (.getfield 18, 3) := by decide +kernel
theorem dd_A_keep_18 : decode bb_A_keep 18 = .ok (.iconst 1, 1) := by decide +kernel
theorem dd_A_keep_19 : decode bb_A_keep 19 = .ok (.iadd, 1) := by decide +kernel
theorem dd_A_keep_20 : decode bb_A_keep 20 = .ok (.bipush 20, 2) := by decide +kernel
theorem dd_A_keep_22 : decode bb_A_keep 22 = .ok (.if_icmp .ge 12, 3) := by decide +kernel
theorem dd_A_keep_25 : decode bb_A_keep 25 = .ok (.aload_n 0, 1) := by decide +kernel
theorem dd_A_keep_26 : decode bb_A_keep 26 = .ok (.getfield 18, 3) := by decide +kernel
theorem dd_A_keep_29 : decode bb_A_keep 29 = .ok (.iconst 1, 1) := by decide +kernel
theorem dd_A_keep_30 : decode bb_A_keep 30 = .ok (.iadd, 1) := by decide +kernel
theorem dd_A_keep_31 : decode bb_A_keep 31 = .ok (.goto 4, 3) := by decide +kernel
theorem dd_A_keep_34 : decode bb_A_keep 34 = .ok (.iconst 0, 1) := by decide +kernel
theorem dd_A_keep_35 : decode bb_A_keep 35 = .ok (.putfield 18, 3) := by decide +kernel
theorem dd_A_keep_38 : decode bb_A_keep 38 = .ok (.aload_n 0, 1) := by decide +kernel
theorem dd_A_keep_39 : decode bb_A_keep 39 = .ok (.bipush 20, 2) := by decide +kernel
theorem dd_A_keep_41 : decode bb_A_keep 41 = .ok (.aload_n 0, 1) := by decide +kernel
theorem dd_A_keep_42 : decode bb_A_keep 42 = .ok (.getfield 26, 3) := by decide +kernel
theorem dd_A_keep_45 : decode bb_A_keep 45 = .ok (.iconst 1, 1) := by decide +kernel
theorem dd_A_keep_46 : decode bb_A_keep 46 = .ok (.iadd, 1) := by decide +kernel
theorem dd_A_keep_47 : decode bb_A_keep 47 = .ok (.invokestatic 29, 3) := by decide +kernel
theorem dd_A_keep_50 : decode bb_A_keep 50 = .ok (.putfield 26, 3) := by decide +kernel
theorem dd_A_keep_53 : decode bb_A_keep 53 = .ok (.return_, 1) := by decide +kernel
def mm_A_keep_j35 (N : Nat) (this : Option Nat) (a1 : Option Nat) (s0_35 : Option Nat) (s1_35 : Int32) (h_35 : ss_Hp) : Option ss_Hp :=
  (ss_pi h_35 s0_35 3 0 s1_35).bind fun h1 =>
  (ss_gi h1 this 3 1).bind fun v2 =>
  (ss_pi h1 this 3 1 (if (v2 + (1 : Int32)) < (20 : Int32) then (v2 + (1 : Int32)) else (20 : Int32))).bind fun h3 =>
  some h3
def mm_A_keep (N : Nat) (this : Option Nat) (a1 : Option Nat) (h : ss_Hp) : Option ss_Hp :=
  if ss_is h this 3 = true then
    (ss_gr h this 3 0).bind fun r4 =>
    (ss_gi h this 3 0).bind fun v5 =>
    (ss_ar h r4 24 v5).bind fun r6 =>
    (mm_G_copyFrom N r6 a1 h).bind fun h7 =>
    (ss_gi h7 this 3 0).bind fun v8 =>
    if (20 : Int32) ≤ (v8 + (1 : Int32)) then
      mm_A_keep_j35 N this a1 this (0 : Int32) h7
    else
      (ss_gi h7 this 3 0).bind fun v10 =>
      mm_A_keep_j35 N this a1 this (v10 + (1 : Int32)) h7
  else none
abbrev ww_A_keep (p : Program) (l : Launch) (e : Env) (s : State) (m : MethodId) (below : List Frame) (meth : Method) (c : Code) (G : ss_G) (this : Option Nat) (a1 : Option Nat) (h : ss_Hp) (hh : ss_Hp) (H : Heap) (locs : List Loc) (k n : Nat) (g : JFrame) : Prop := W p l e (headSpec (ss_w yy_A_keep bb_A_keep 2 none) ({ frames := 2, cells := 0, slots := 0, locals := 101 })).room s m ([ss_v (ss_b G) this, ss_v (ss_b G) a1] : List Value).toArray below meth c H locs k n (MQ below (ss_Qc G none hh) ([ss_v (ss_b G) this, ss_v (ss_b G) a1] : List Value).toArray s 0 0 (ss_A G)) g
theorem ck_A_keep {N : Nat} {this : Option Nat} {a1 : Option Nat} {h : ss_Hp} {res : ss_Hp} (hm : mm_A_keep N this a1 h = some res) : ss_is h this 3 = true := (ss_chk hm).1
set_option maxHeartbeats 4000000 in
set_option maxRecDepth 100000 in
theorem cc_A_keep (l : Launch) (G : ss_G) (N : Nat) (this : Option Nat) (a1 : Option Nat) (h : ss_Hp) (hh : ss_Hp) (hm : mm_A_keep N this a1 h = some hh) : ss_Ct l G yy_A_keep bb_A_keep 2 none ({ frames := 2, cells := 0, slots := 0, locals := 101 }) [ss_v (ss_b G) this, ss_v (ss_b G) a1] h none hh := by
  obtain ⟨hck, hm⟩ := ss_chk hm
  refine Met.ofW (cc := bb_A_keep) (maxL := 2) (ret := none) (by decide) rfl ?_
  intro p e s m args below meth c s₁ B hml hv
  obtain ⟨rfl, hR, hK⟩ := hv
  have hC : CallFix p m c bb_A_keep 2 s _ lw_g sR_3 := ⟨B.exec, B.bytes, hml, findClass_of_methodNamed B.named, fun w hw => atoms_spec (ws := ss_w yy_A_keep bb_A_keep 2 none) B.pre w (List.mem_cons_of_mem _ hw)⟩
  have hx := hC.1
  have hb := hC.2.1
  have hr := B.returns
  have hlocks := B.notSynchronized
  have hS : va_S (ss_A G) s.heap s.heap [] := va_S.rf
  have hl := lv_entry ([ss_v (ss_b G) this, ss_v (ss_b G) a1]) (n := 2) (by simp [lg_sl, ss_v_cat, ss_cat_i, ss_cat_l, ss_cat_r])
  rw [lg_entry_eq]
  generalize (lg_sl ([ss_v (ss_b G) this, ss_v (ss_b G) a1]) ++ List.replicate (2 - (lg_sl ([ss_v (ss_b G) this, ss_v (ss_b G) a1])).length) Slot.unset).toArray = ls at hl ⊢
  have hl : lv_has ls 2 [(0, ss_v (ss_b G) this), (1, ss_v (ss_b G) a1)] := by simpa [lv_args, ss_v_cat, ss_cat_i, ss_cat_l, ss_cat_r] using hl
  have J_35 : ∀ (s0_35 : Option Nat) (s1_35 : Int32) (h_35 : ss_Hp) (H : Heap) (locs : List Loc) (ls : Array Slot), mm_A_keep_j35 N this a1 s0_35 s1_35 h_35 = some hh → ss_R G h_35 H → va_S (ss_A G) s.heap H locs → lv_has ls 2 [(0, ss_v (ss_b G) this)] → ww_A_keep p l e s m below meth c G this a1 h hh  H locs 0 0 (F0 m 35 ls [.int s1_35, ss_v (ss_b G) s0_35]) := by
    intro s0_35 s1_35 h_35 H locs ls hm hR hS hl
    obtain ⟨h1, qh1, hm⟩ := ss_bind hm
    refine ss_puti hC hK hR hS kp_A_18 qh1 dd_A_keep_35 (fun H locs hR hS => ?_)
    refine ss_aload_n hx hb dd_A_keep_38 rfl (lv_at hl 0 rfl) ?_
    refine lv_bipush (v := 20) hx hb dd_A_keep_39 (by decide) ?_
    refine ss_aload_n hx hb dd_A_keep_41 rfl (lv_at hl 0 rfl) ?_
    obtain ⟨v2, qv2, hm⟩ := ss_bind hm
    refine ss_geti hC hK hR kf_A_26 qv2 dd_A_keep_42 ?_
    refine lv_iconst (v := 1) hx hb dd_A_keep_45 (by decide) ?_
    refine lv_iadd hx hb dd_A_keep_46 ?_
    refine ss_min hC hl.1 kj_A_29 kj_min_s kj_math kj_min_c (Nat.le_of_ble_eq_true rfl) (by simp [ss_v_cat, ss_cat_i, ss_cat_l, ss_cat_r]) (Nat.le_of_ble_eq_true rfl) ⟨Nat.le_of_ble_eq_true rfl, Nat.le_of_ble_eq_true rfl⟩ dd_A_keep_47 ?_
    obtain ⟨h3, qh3, hm⟩ := ss_bind hm
    refine ss_puti hC hK hR hS kp_A_26 qh3 dd_A_keep_50 (fun H locs hR hS => ?_)
    exact ss_vret hC hr hlocks hR hS hm dd_A_keep_53
  refine ss_aload_n hx hb dd_A_keep_0 rfl (lv_at hl 0 rfl) ?_
  obtain ⟨r4, qr4, hm⟩ := ss_bind hm
  refine ss_getr hC hK hR kf_A_13 rfl qr4 dd_A_keep_1 ?_
  refine ss_aload_n hx hb dd_A_keep_4 rfl (lv_at hl 0 rfl) ?_
  obtain ⟨v5, qv5, hm⟩ := ss_bind hm
  refine ss_geti hC hK hR kf_A_18 qv5 dd_A_keep_5 ?_
  obtain ⟨r6, qr6, hm⟩ := ss_bind hm
  refine ss_aald hC hK hR (t0 := 4) rfl (by decide) qr6 dd_A_keep_8 ?_
  refine ss_aload_n hx hb dd_A_keep_9 rfl (lv_at hl 1 rfl) ?_
  obtain ⟨h7, qh7, hm⟩ := ss_bind hm
  refine ss_cVv 0 0 (As := [ss_v (ss_b G) a1]) hC hK hR hS hl.1 (cc_G_copyFrom l G N _ _ _ _ qh7) km_A_22 (ck_G_copyFrom qh7) ⟨Nat.le_of_ble_eq_true rfl, Nat.le_of_ble_eq_true rfl⟩ ⟨Nat.le_of_ble_eq_true rfl, Nat.le_of_ble_eq_true rfl, Nat.le_of_ble_eq_true rfl, Nat.le_of_ble_eq_true rfl⟩ rfl rfl (Nat.le_of_ble_eq_true rfl) dd_A_keep_10 (fun H locs hR hS => ?_)
  refine ss_aload_n hx hb dd_A_keep_13 rfl (lv_at hl 0 rfl) ?_
  refine ss_aload_n hx hb dd_A_keep_14 rfl (lv_at hl 0 rfl) ?_
  obtain ⟨v8, qv8, hm⟩ := ss_bind hm
  refine ss_geti hC hK hR kf_A_18 qv8 dd_A_keep_15 ?_
  refine lv_iconst (v := 1) hx hb dd_A_keep_18 (by decide) ?_
  refine lv_iadd hx hb dd_A_keep_19 ?_
  refine lv_bipush (v := 20) hx hb dd_A_keep_20 (by decide) ?_
  refine lv_icmp_ge (tgt := 34) hx hb dd_A_keep_22 (by decide) (fun c9 => ?_) (fun c9 => ?_)
  · have hm := ss_ift hm c9
    refine lv_iconst (v := 0) hx hb dd_A_keep_34 (by decide) ?_
    exact J_35 this (0 : Int32) h7 _ _ _ hm hR hS (lv_sub hl [0] rfl)
  · have hm := ss_iff hm c9
    refine ss_aload_n hx hb dd_A_keep_25 rfl (lv_at hl 0 rfl) ?_
    obtain ⟨v10, qv10, hm⟩ := ss_bind hm
    refine ss_geti hC hK hR kf_A_18 qv10 dd_A_keep_26 ?_
    refine lv_iconst (v := 1) hx hb dd_A_keep_29 (by decide) ?_
    refine lv_iadd hx hb dd_A_keep_30 ?_
    refine lv_goto (tgt := 35) hx hb dd_A_keep_31 (by decide) ?_
    exact J_35 this (v10 + (1 : Int32)) h7 _ _ _ hm hR hS (lv_sub hl [0] rfl)
theorem dd_F_ruleAt_0 : decode bb_F_ruleAt 0 = .ok (.iload_n 1, 1) := by decide +kernel
theorem dd_F_ruleAt_1 : decode bb_F_ruleAt 1 = .ok (.ifCond .lt 21, 3) := by decide +kernel
theorem dd_F_ruleAt_4 : decode bb_F_ruleAt 4 = .ok (.iload_n 1, 1) := by decide +kernel
theorem dd_F_ruleAt_5 : decode bb_F_ruleAt 5 = .ok (.aload_n 0, 1) := by decide +kernel
theorem dd_F_ruleAt_6 : decode bb_F_ruleAt 6 = .ok (.getfield 23, 3) := by decide +kernel
theorem dd_F_ruleAt_9 : decode bb_F_ruleAt 9 = .ok (.arraylength, 1) := by decide +kernel
theorem dd_F_ruleAt_10 : decode bb_F_ruleAt 10 = .ok (.if_icmp .ge 12, 3) := by decide +kernel
theorem dd_F_ruleAt_13 : decode bb_F_ruleAt 13 = .ok (.aload_n 0, 1) := by decide +kernel
theorem dd_F_ruleAt_14 : decode bb_F_ruleAt 14 = .ok (.getfield 23, 3) := by decide +kernel
theorem dd_F_ruleAt_17 : decode bb_F_ruleAt 17 = .ok (.iload_n 1, 1) := by decide +kernel
theorem dd_F_ruleAt_18 : decode bb_F_ruleAt 18 = .ok (.aaload, 1) := by decide +kernel
theorem dd_F_ruleAt_19 : decode bb_F_ruleAt 19 = .ok (.goto 4, 3) := by decide +kernel
theorem dd_F_ruleAt_22 : decode bb_F_ruleAt 22 = .ok (.aconst_null, 1) := by decide +kernel
theorem dd_F_ruleAt_23 : decode bb_F_ruleAt 23 = .ok (.areturn, 1) := by decide +kernel
def mm_F_ruleAt_j23 (N : Nat) (this : Option Nat) (a1 : Int32) (h : ss_Hp) (s0_23 : Option Nat) : Option (Option Nat) :=
  some s0_23
def mm_F_ruleAt_j22 (N : Nat) (this : Option Nat) (a1 : Int32) (h : ss_Hp) : Option (Option Nat) :=
  mm_F_ruleAt_j23 N this a1 h none
def mm_F_ruleAt (N : Nat) (this : Option Nat) (a1 : Int32) (h : ss_Hp) : Option (Option Nat) :=
  if ss_is h this 9 = true then
    if a1 < 0 then
      mm_F_ruleAt_j22 N this a1 h
    else
      (ss_gr h this 9 1).bind fun r2 =>
      (ss_len h r2 25).bind fun v3 =>
      if v3 ≤ a1 then
        mm_F_ruleAt_j22 N this a1 h
      else
        (ss_gr h this 9 1).bind fun r5 =>
        (ss_ar h r5 25 a1).bind fun r6 =>
        mm_F_ruleAt_j23 N this a1 h r6
  else none
abbrev ww_F_ruleAt (p : Program) (l : Launch) (e : Env) (s : State) (m : MethodId) (below : List Frame) (meth : Method) (c : Code) (G : ss_G) (this : Option Nat) (a1 : Int32) (h : ss_Hp) (rr : Option Nat) (H : Heap) (locs : List Loc) (k n : Nat) (g : JFrame) : Prop := W p l e (headSpec (ss_w yy_F_ruleAt bb_F_ruleAt 2 (some (.object "SweptSnow$Rule"))) ({ frames := 0, cells := 0, slots := 0, locals := 0 })).room s m ([ss_v (ss_b G) this, .int a1] : List Value).toArray below meth c H locs k n (MQ below (ss_Qc G (some (ss_v (ss_b G) rr)) h) ([ss_v (ss_b G) this, .int a1] : List Value).toArray s 0 0 (ss_A G)) g
theorem ck_F_ruleAt {N : Nat} {this : Option Nat} {a1 : Int32} {h : ss_Hp} {res : Option Nat} (hm : mm_F_ruleAt N this a1 h = some res) : ss_is h this 9 = true := (ss_chk hm).1
set_option maxHeartbeats 4000000 in
set_option maxRecDepth 100000 in
theorem cc_F_ruleAt (l : Launch) (G : ss_G) (N : Nat) (this : Option Nat) (a1 : Int32) (h : ss_Hp) (rr : Option Nat) (hm : mm_F_ruleAt N this a1 h = some rr) : ss_Ct l G yy_F_ruleAt bb_F_ruleAt 2 (some (.object "SweptSnow$Rule")) ({ frames := 0, cells := 0, slots := 0, locals := 0 }) [ss_v (ss_b G) this, .int a1] h (some (ss_v (ss_b G) rr)) h := by
  obtain ⟨hck, hm⟩ := ss_chk hm
  refine Met.ofW (cc := bb_F_ruleAt) (maxL := 2) (ret := (some (.object "SweptSnow$Rule"))) (by decide) rfl ?_
  intro p e s m args below meth c s₁ B hml hv
  obtain ⟨rfl, hR, hK⟩ := hv
  have hC : CallFix p m c bb_F_ruleAt 2 s _ lw_g sR_9 := ⟨B.exec, B.bytes, hml, findClass_of_methodNamed B.named, fun w hw => atoms_spec (ws := ss_w yy_F_ruleAt bb_F_ruleAt 2 (some (.object "SweptSnow$Rule"))) B.pre w (List.mem_cons_of_mem _ hw)⟩
  have hx := hC.1
  have hb := hC.2.1
  have hr := B.returns
  have hlocks := B.notSynchronized
  have hS : va_S (ss_A G) s.heap s.heap [] := va_S.rf
  have hl := lv_entry ([ss_v (ss_b G) this, .int a1]) (n := 2) (by simp [lg_sl, ss_v_cat, ss_cat_i, ss_cat_l, ss_cat_r])
  rw [lg_entry_eq]
  generalize (lg_sl ([ss_v (ss_b G) this, .int a1]) ++ List.replicate (2 - (lg_sl ([ss_v (ss_b G) this, .int a1])).length) Slot.unset).toArray = ls at hl ⊢
  have hl : lv_has ls 2 [(0, ss_v (ss_b G) this), (1, .int a1)] := by simpa [lv_args, ss_v_cat, ss_cat_i, ss_cat_l, ss_cat_r] using hl
  have J_23 : ∀ (s0_23 : Option Nat) (H : Heap) (locs : List Loc) (ls : Array Slot), mm_F_ruleAt_j23 N this a1 h s0_23 = some rr → ss_R G h H → va_S (ss_A G) s.heap H locs → lv_has ls 2 [] → ww_F_ruleAt p l e s m below meth c G this a1 h rr  H locs 0 0 (F0 m 23 ls [ss_v (ss_b G) s0_23]) := by
    intro s0_23 H locs ls hm hR hS hl
    exact ss_aret hC hr (Or.inl ⟨_, rfl⟩) hlocks hR hS (ss_withr _ hm) dd_F_ruleAt_23
  have J_22 : ∀  (H : Heap) (locs : List Loc) (ls : Array Slot), mm_F_ruleAt_j22 N this a1 h = some rr → ss_R G h H → va_S (ss_A G) s.heap H locs → lv_has ls 2 [] → ww_F_ruleAt p l e s m below meth c G this a1 h rr  H locs 0 0 (F0 m 22 ls []) := by
    intro  H locs ls hm hR hS hl
    refine ss_null hx hb (ss_b G) dd_F_ruleAt_22 ?_
    exact J_23 none  _ _ _ hm hR hS hl
  refine lv_iload_n hx hb dd_F_ruleAt_0 rfl (lv_at hl 1 rfl) ?_
  refine lv_if_lt (tgt := 22) hx hb dd_F_ruleAt_1 (by decide) (fun c1 => ?_) (fun c1 => ?_)
  · have hm := ss_ift hm c1
    exact J_22  _ _ _ hm hR hS (lv_sub hl [] rfl)
  · have hm := ss_iff hm c1
    refine lv_iload_n hx hb dd_F_ruleAt_4 rfl (lv_at hl 1 rfl) ?_
    refine ss_aload_n hx hb dd_F_ruleAt_5 rfl (lv_at hl 0 rfl) ?_
    obtain ⟨r2, qr2, hm⟩ := ss_bind hm
    refine ss_getr hC hK hR kf_F_23 rfl qr2 dd_F_ruleAt_6 ?_
    obtain ⟨v3, qv3, hm⟩ := ss_bind hm
    refine ss_alenQ hC hK hR (t0 := 5) rfl (by decide) qv3 dd_F_ruleAt_9 ?_
    refine lv_icmp_ge (tgt := 22) hx hb dd_F_ruleAt_10 (by decide) (fun c4 => ?_) (fun c4 => ?_)
    · have hm := ss_ift hm c4
      exact J_22  _ _ _ hm hR hS (lv_sub hl [] rfl)
    · have hm := ss_iff hm c4
      refine ss_aload_n hx hb dd_F_ruleAt_13 rfl (lv_at hl 0 rfl) ?_
      obtain ⟨r5, qr5, hm⟩ := ss_bind hm
      refine ss_getr hC hK hR kf_F_23 rfl qr5 dd_F_ruleAt_14 ?_
      refine lv_iload_n hx hb dd_F_ruleAt_17 rfl (lv_at hl 1 rfl) ?_
      obtain ⟨r6, qr6, hm⟩ := ss_bind hm
      refine ss_aald hC hK hR (t0 := 5) rfl (by decide) qr6 dd_F_ruleAt_18 ?_
      refine lv_goto (tgt := 23) hx hb dd_F_ruleAt_19 (by decide) ?_
      exact J_23 r6  _ _ _ hm hR hS (lv_sub hl [] rfl)
theorem dd_Wi_begin_0 : decode bb_Wi_begin 0 = .ok (.aload_n 0, 1) := by decide +kernel
theorem dd_Wi_begin_1 : decode bb_Wi_begin 1 = .ok (.aload_n 1, 1) := by decide +kernel
theorem dd_Wi_begin_2 : decode bb_Wi_begin 2 = .ok (.putfield 41, 3) := by decide +kernel
theorem dd_Wi_begin_5 : decode bb_Wi_begin 5 = .ok (.aload_n 0, 1) := by decide +kernel
theorem dd_Wi_begin_6 : decode bb_Wi_begin 6 = .ok (.getfield 12, 3) := by decide +kernel
theorem dd_Wi_begin_9 : decode bb_Wi_begin 9 = .ok (.aload_n 2, 1) := by decide +kernel
theorem dd_Wi_begin_10 : decode bb_Wi_begin 10 = .ok (.invokevirtual 45, 3) := by decide +kernel
theorem dd_Wi_begin_13 : decode bb_Wi_begin 13 = .ok (.aload_n 0, 1) := by decide +kernel
theorem dd_Wi_begin_14 : decode bb_Wi_begin 14 = .ok (.getfield 37, 3) := by decide +kernel
theorem dd_Wi_begin_17 : decode bb_Wi_begin 17 = .ok (.getfield 49, 3) := by decide +kernel
theorem dd_Wi_begin_20 : decode bb_Wi_begin 20 = .ok (.iconst 0, 1) := by decide +kernel
theorem dd_Wi_begin_21 : decode bb_Wi_begin 21 = .ok (.aload_n 0, 1) := by decide +kernel
theorem dd_Wi_begin_22 : decode bb_Wi_begin 22 = .ok (.getfield 18, 3) := by decide +kernel
theorem dd_Wi_begin_25 : decode bb_Wi_begin 25 = .ok (.iconst 0, 1) := by decide +kernel
theorem dd_Wi_begin_26 : decode bb_Wi_begin 26 = .ok (.iconst 4, 1) := by decide +kernel
theorem dd_Wi_begin_27 : decode bb_Wi_begin 27 = .ok (.invokestatic 52, 3) := by decide +kernel
theorem dd_Wi_begin_30 : decode bb_Wi_begin 30 = .ok (.iconst 0, 1) := by decide +kernel
theorem dd_Wi_begin_31 : decode bb_Wi_begin 31 = .ok (.istore_n 3, 1) := by decide +kernel
theorem dd_Wi_begin_32 : decode bb_Wi_begin 32 = .ok (.iload_n 3, 1) := by decide +kernel
theorem dd_Wi_begin_33 : decode bb_Wi_begin 33 = .ok (.bipush 8, 2) := by decide +kernel
theorem dd_Wi_begin_35 : decode bb_Wi_begin 35 = .ok (.if_icmp .ge 23, 3) := by decide +kernel
theorem dd_Wi_begin_38 : decode bb_Wi_begin 38 = .ok (.aload_n 0, 1) := by decide +kernel
theorem dd_Wi_begin_39 : decode bb_Wi_begin 39 = .ok (.getfield 22, 3) := by decide +kernel
theorem dd_Wi_begin_42 : decode bb_Wi_begin 42 = .ok (.iload_n 3, 1) := by decide +kernel
theorem dd_Wi_begin_43 : decode bb_Wi_begin 43 = .ok (.iconst 0, 1) := by decide +kernel
theorem dd_Wi_begin_44 : decode bb_Wi_begin 44 = .ok (.iastore, 1) := by decide +kernel
theorem dd_Wi_begin_45 : decode bb_Wi_begin 45 = .ok (.aload_n 0, 1) := by decide +kernel
theorem dd_Wi_begin_46 : decode bb_Wi_begin 46 = .ok (.getfield 25, 3) := by decide +kernel
theorem dd_Wi_begin_49 : decode bb_Wi_begin 49 = .ok (.iload_n 3, 1) := by decide +kernel
theorem dd_Wi_begin_50 : decode bb_Wi_begin 50 = .ok (.iconst 0, 1) := by decide +kernel
theorem dd_Wi_begin_51 : decode bb_Wi_begin 51 = .ok (.iastore, 1) := by decide +kernel
theorem dd_Wi_begin_52 : decode bb_Wi_begin 52 = .ok (.iinc 3 1, 3) := by decide +kernel
theorem dd_Wi_begin_55 : decode bb_Wi_begin 55 = .ok (.goto (-23), 3) := by decide +kernel
theorem dd_Wi_begin_58 : decode bb_Wi_begin 58 = .ok (.return_, 1) := by decide +kernel
def mm_Wi_begin_b32 (N : Nat) (this : Option Nat) (st : Int32 × ss_Hp) : Option ((Int32 × ss_Hp) ⊕ ss_Hp) :=
  match st with
  | (x3_32, h_32) =>
    if (8 : Int32) ≤ x3_32 then
      some (.inr h_32)
    else
      (ss_gr h_32 this 7 2).bind fun r9 =>
      (ss_ui h_32 r9 20 x3_32 (0 : Int32)).bind fun h10 =>
      (ss_gr h10 this 7 3).bind fun r11 =>
      (ss_ui h10 r11 20 x3_32 (0 : Int32)).bind fun h12 =>
      (some (x3_32 + (1 : Int32))).bind fun v13 =>
      some (.inl (v13, h12))
def mm_Wi_begin (N : Nat) (this : Option Nat) (a1 : Option Nat) (a2 : Option Nat) (h : ss_Hp) : Option ss_Hp :=
  if ss_is h this 7 = true then
    (ss_pr h this 7 7 a1).bind fun h1 =>
    (ss_gr h1 this 7 0).bind fun r2 =>
    (mm_G_copyFrom N r2 a2 h1).bind fun h3 =>
    (ss_gr h3 this 7 6).bind fun r4 =>
    (ss_gr h3 r4 5 1).bind fun r5 =>
    (ss_gr h3 this 7 1).bind fun r6 =>
    (ss_cp h3 r5 (0 : Int32) r6 (0 : Int32) (4 : Int32)).bind fun h7 =>
    (ss_lp (mm_Wi_begin_b32 N this) N ((0 : Int32), h7)).bind fun h_32_58 =>
    some h_32_58
  else none
abbrev ww_Wi_begin (p : Program) (l : Launch) (e : Env) (s : State) (m : MethodId) (below : List Frame) (meth : Method) (c : Code) (G : ss_G) (this : Option Nat) (a1 : Option Nat) (a2 : Option Nat) (h : ss_Hp) (hh : ss_Hp) (H : Heap) (locs : List Loc) (k n : Nat) (g : JFrame) : Prop := W p l e (headSpec (ss_w yy_Wi_begin bb_Wi_begin 4 none) ({ frames := 2, cells := 0, slots := 0, locals := 101 })).room s m ([ss_v (ss_b G) this, ss_v (ss_b G) a1, ss_v (ss_b G) a2] : List Value).toArray below meth c H locs k n (MQ below (ss_Qc G none hh) ([ss_v (ss_b G) this, ss_v (ss_b G) a1, ss_v (ss_b G) a2] : List Value).toArray s 0 0 (ss_A G)) g
theorem ck_Wi_begin {N : Nat} {this : Option Nat} {a1 : Option Nat} {a2 : Option Nat} {h : ss_Hp} {res : ss_Hp} (hm : mm_Wi_begin N this a1 a2 h = some res) : ss_is h this 7 = true := (ss_chk hm).1
set_option maxHeartbeats 4000000 in
set_option maxRecDepth 100000 in
theorem cc_Wi_begin (l : Launch) (G : ss_G) (N : Nat) (this : Option Nat) (a1 : Option Nat) (a2 : Option Nat) (h : ss_Hp) (hh : ss_Hp) (hm : mm_Wi_begin N this a1 a2 h = some hh) : ss_Ct l G yy_Wi_begin bb_Wi_begin 4 none ({ frames := 2, cells := 0, slots := 0, locals := 101 }) [ss_v (ss_b G) this, ss_v (ss_b G) a1, ss_v (ss_b G) a2] h none hh := by
  obtain ⟨hck, hm⟩ := ss_chk hm
  refine Met.ofW (cc := bb_Wi_begin) (maxL := 4) (ret := none) (by decide) rfl ?_
  intro p e s m args below meth c s₁ B hml hv
  obtain ⟨rfl, hR, hK⟩ := hv
  have hC : CallFix p m c bb_Wi_begin 4 s _ lw_g sR_7 := ⟨B.exec, B.bytes, hml, findClass_of_methodNamed B.named, fun w hw => atoms_spec (ws := ss_w yy_Wi_begin bb_Wi_begin 4 none) B.pre w (List.mem_cons_of_mem _ hw)⟩
  have hx := hC.1
  have hb := hC.2.1
  have hr := B.returns
  have hlocks := B.notSynchronized
  have hS : va_S (ss_A G) s.heap s.heap [] := va_S.rf
  have hl := lv_entry ([ss_v (ss_b G) this, ss_v (ss_b G) a1, ss_v (ss_b G) a2]) (n := 4) (by simp [lg_sl, ss_v_cat, ss_cat_i, ss_cat_l, ss_cat_r])
  rw [lg_entry_eq]
  generalize (lg_sl ([ss_v (ss_b G) this, ss_v (ss_b G) a1, ss_v (ss_b G) a2]) ++ List.replicate (4 - (lg_sl ([ss_v (ss_b G) this, ss_v (ss_b G) a1, ss_v (ss_b G) a2])).length) Slot.unset).toArray = ls at hl ⊢
  have hl : lv_has ls 4 [(0, ss_v (ss_b G) this), (1, ss_v (ss_b G) a1), (2, ss_v (ss_b G) a2)] := by simpa [lv_args, ss_v_cat, ss_cat_i, ss_cat_l, ss_cat_r] using hl
  refine ss_aload_n hx hb dd_Wi_begin_0 rfl (lv_at hl 0 rfl) ?_
  refine ss_aload_n hx hb dd_Wi_begin_1 rfl (lv_at hl 1 rfl) ?_
  obtain ⟨h1, qh1, hm⟩ := ss_bind hm
  refine ss_putr hC hK hR hS kp_Wi_41 rfl (Or.inl ⟨_, rfl⟩) qh1 dd_Wi_begin_2 (fun H locs hR hS => ?_)
  refine ss_aload_n hx hb dd_Wi_begin_5 rfl (lv_at hl 0 rfl) ?_
  obtain ⟨r2, qr2, hm⟩ := ss_bind hm
  refine ss_getr hC hK hR kf_Wi_12 rfl qr2 dd_Wi_begin_6 ?_
  refine ss_aload_n hx hb dd_Wi_begin_9 rfl (lv_at hl 2 rfl) ?_
  obtain ⟨h3, qh3, hm⟩ := ss_bind hm
  refine ss_cVv 0 0 (As := [ss_v (ss_b G) a2]) hC hK hR hS hl.1 (cc_G_copyFrom l G N _ _ _ _ qh3) km_Wi_45 (ck_G_copyFrom qh3) ⟨Nat.le_of_ble_eq_true rfl, Nat.le_of_ble_eq_true rfl⟩ ⟨Nat.le_of_ble_eq_true rfl, Nat.le_of_ble_eq_true rfl, Nat.le_of_ble_eq_true rfl, Nat.le_of_ble_eq_true rfl⟩ rfl rfl (Nat.le_of_ble_eq_true rfl) dd_Wi_begin_10 (fun H locs hR hS => ?_)
  refine ss_aload_n hx hb dd_Wi_begin_13 rfl (lv_at hl 0 rfl) ?_
  obtain ⟨r4, qr4, hm⟩ := ss_bind hm
  refine ss_getr hC hK hR kf_Wi_37 rfl qr4 dd_Wi_begin_14 ?_
  obtain ⟨r5, qr5, hm⟩ := ss_bind hm
  refine ss_getr hC hK hR kf_Wi_49 rfl qr5 dd_Wi_begin_17 ?_
  refine lv_iconst (v := 0) hx hb dd_Wi_begin_20 (by decide) ?_
  refine ss_aload_n hx hb dd_Wi_begin_21 rfl (lv_at hl 0 rfl) ?_
  obtain ⟨r6, qr6, hm⟩ := ss_bind hm
  refine ss_getr hC hK hR kf_Wi_18 rfl qr6 dd_Wi_begin_22 ?_
  refine lv_iconst (v := 0) hx hb dd_Wi_begin_25 (by decide) ?_
  refine lv_iconst (v := 4) hx hb dd_Wi_begin_26 (by decide) ?_
  obtain ⟨h7, qh7, hm⟩ := ss_bind hm
  refine ss_copy hC hK hR hS hl.1 kj_Wi_52 kj_ac_n kj_ac_s kj_sys qh7 (Nat.le_of_ble_eq_true rfl) (Nat.le_of_ble_eq_true rfl) (by decide) dd_Wi_begin_27 (fun H locs hR hS => ?_)
  refine lv_iconst (v := 0) hx hb dd_Wi_begin_30 (by decide) ?_
  refine lv_istore_n (lv' := [(3, .int (0 : Int32)), (0, ss_v (ss_b G) this), (1, ss_v (ss_b G) a1), (2, ss_v (ss_b G) a2)]) hx hb dd_Wi_begin_31 rfl hl (by decide) (by simp only [List.filter_cons, ss_v_cat]; rfl) (fun ls hl => ?_)
  obtain ⟨e_32, he_32, hm⟩ := ss_bind hm
  have X_32_58 : ∀  (h_32_58 : ss_Hp) (H : Heap) (locs : List Loc) (ls : Array Slot), e_32 = h_32_58 → ss_R G h_32_58 H → va_S (ss_A G) s.heap H locs → lv_has ls 4 [] → ww_Wi_begin p l e s m below meth c G this a1 a2 h hh  H locs 0 0 (F0 m 58 ls []) := by
    intro h_32_58 H locs ls hq hR hS hl
    rw [hq] at hm
    exact ss_vret hC hr hlocks hR hS hm dd_Wi_begin_58
  have L_32 : ∀ (n : Nat) (x3_32 : Int32) (h_32 : ss_Hp) (H : Heap) (locs : List Loc) (ls : Array Slot), ss_lp (mm_Wi_begin_b32 N this) n (x3_32, h_32) = some e_32 → ss_R G h_32 H → va_S (ss_A G) s.heap H locs → lv_has ls 4 [(0, ss_v (ss_b G) this), (3, .int x3_32)] → ww_Wi_begin p l e s m below meth c G this a1 a2 h hh  H locs 0 0 (F0 m 32 ls []) := by
    intro n
    induction n with
    | zero => intro x3_32 h_32 H locs ls hm; cases hm
    | succ n ih_32 =>
      intro x3_32 h_32 H locs ls hm hR hS hl
      obtain ⟨z_32, hm, hz1_32, hz2_32⟩ := ss_lps hm
      refine lv_iload_n hx hb dd_Wi_begin_32 rfl (lv_at hl 1 rfl) ?_
      refine lv_bipush (v := 8) hx hb dd_Wi_begin_33 (by decide) ?_
      refine lv_icmp_ge (tgt := 58) hx hb dd_Wi_begin_35 (by decide) (fun c8 => ?_) (fun c8 => ?_)
      · have hm := ss_ift hm c8
        exact X_32_58 h_32 _ _ _ (hz2_32 _ (ss_some hm)) hR hS (lv_sub hl [] rfl)
      · have hm := ss_iff hm c8
        refine ss_aload_n hx hb dd_Wi_begin_38 rfl (lv_at hl 0 rfl) ?_
        obtain ⟨r9, qr9, hm⟩ := ss_bind hm
        refine ss_getr hC hK hR kf_Wi_22 rfl qr9 dd_Wi_begin_39 ?_
        refine lv_iload_n hx hb dd_Wi_begin_42 rfl (lv_at hl 1 rfl) ?_
        refine lv_iconst (v := 0) hx hb dd_Wi_begin_43 (by decide) ?_
        obtain ⟨h10, qh10, hm⟩ := ss_bind hm
        refine ss_iast hC hK hR hS qh10 dd_Wi_begin_44 (fun H locs hR hS => ?_)
        refine ss_aload_n hx hb dd_Wi_begin_45 rfl (lv_at hl 0 rfl) ?_
        obtain ⟨r11, qr11, hm⟩ := ss_bind hm
        refine ss_getr hC hK hR kf_Wi_25 rfl qr11 dd_Wi_begin_46 ?_
        refine lv_iload_n hx hb dd_Wi_begin_49 rfl (lv_at hl 1 rfl) ?_
        refine lv_iconst (v := 0) hx hb dd_Wi_begin_50 (by decide) ?_
        obtain ⟨h12, qh12, hm⟩ := ss_bind hm
        refine ss_iast hC hK hR hS qh12 dd_Wi_begin_51 (fun H locs hR hS => ?_)
        obtain ⟨v13, qv13, hm⟩ := ss_bind hm
        refine lv_iinc (v := v13) (lv' := [(3, .int v13), (0, ss_v (ss_b G) this)]) hx hb dd_Wi_begin_52 hl (k := 1) rfl (ss_inc (by decide) qv13) (by decide) rfl (fun ls hl => ?_)
        refine lv_goto (tgt := 32) hx hb dd_Wi_begin_55 (by decide) ?_
        exact ih_32 v13 h12 _ _ _ (hz1_32 _ (ss_some hm)) hR hS (lv_sub hl [1, 0] rfl)
  exact L_32 N (0 : Int32) h7 _ _ _ he_32 hR hS (lv_sub hl [1, 0] rfl)
theorem dd_F_start_0 : decode bb_F_start 0 = .ok (.aload_n 0, 1) := by decide +kernel
theorem dd_F_start_1 : decode bb_F_start 1 = .ok (.getfield 27, 3) := by decide +kernel
theorem dd_F_start_4 : decode bb_F_start 4 = .ok (.aload_n 0, 1) := by decide +kernel
theorem dd_F_start_5 : decode bb_F_start 5 = .ok (.aload_n 0, 1) := by decide +kernel
theorem dd_F_start_6 : decode bb_F_start 6 = .ok (.getfield 19, 3) := by decide +kernel
theorem dd_F_start_9 : decode bb_F_start 9 = .ok (.getfield 31, 3) := by decide +kernel
theorem dd_F_start_12 : decode bb_F_start 12 = .ok (.invokevirtual 37, 3) := by decide +kernel
theorem dd_F_start_15 : decode bb_F_start 15 = .ok (.aload_n 0, 1) := by decide +kernel
theorem dd_F_start_16 : decode bb_F_start 16 = .ok (.getfield 19, 3) := by decide +kernel
theorem dd_F_start_19 : decode bb_F_start 19 = .ok (.getfield 41, 3) := by decide +kernel
theorem dd_F_start_22 : decode bb_F_start 22 = .ok (.invokevirtual 45, 3) := by decide +kernel
theorem dd_F_start_25 : decode bb_F_start 25 = .ok (.return_, 1) := by decide +kernel
def mm_F_start (N : Nat) (this : Option Nat) (h : ss_Hp) : Option ss_Hp :=
  if ss_is h this 9 = true then
    (ss_gr h this 9 2).bind fun r1 =>
    (ss_gr h this 9 0).bind fun r2 =>
    (ss_gi h r2 8 0).bind fun v3 =>
    (mm_F_ruleAt N this v3 h).bind fun r4 =>
    (ss_gr h this 9 0).bind fun r5 =>
    (ss_gr h r5 8 1).bind fun r6 =>
    (mm_Wi_begin N r1 r4 r6 h).bind fun h7 =>
    some h7
  else none
abbrev ww_F_start (p : Program) (l : Launch) (e : Env) (s : State) (m : MethodId) (below : List Frame) (meth : Method) (c : Code) (G : ss_G) (this : Option Nat) (h : ss_Hp) (hh : ss_Hp) (H : Heap) (locs : List Loc) (k n : Nat) (g : JFrame) : Prop := W p l e (headSpec (ss_w yy_F_start bb_F_start 1 none) ({ frames := 3, cells := 0, slots := 0, locals := 124 })).room s m ([ss_v (ss_b G) this] : List Value).toArray below meth c H locs k n (MQ below (ss_Qc G none hh) ([ss_v (ss_b G) this] : List Value).toArray s 0 0 (ss_A G)) g
theorem ck_F_start {N : Nat} {this : Option Nat} {h : ss_Hp} {res : ss_Hp} (hm : mm_F_start N this h = some res) : ss_is h this 9 = true := (ss_chk hm).1
set_option maxHeartbeats 4000000 in
set_option maxRecDepth 100000 in
theorem cc_F_start (l : Launch) (G : ss_G) (N : Nat) (this : Option Nat) (h : ss_Hp) (hh : ss_Hp) (hm : mm_F_start N this h = some hh) : ss_Ct l G yy_F_start bb_F_start 1 none ({ frames := 3, cells := 0, slots := 0, locals := 124 }) [ss_v (ss_b G) this] h none hh := by
  obtain ⟨hck, hm⟩ := ss_chk hm
  refine Met.ofW (cc := bb_F_start) (maxL := 1) (ret := none) (by decide) rfl ?_
  intro p e s m args below meth c s₁ B hml hv
  obtain ⟨rfl, hR, hK⟩ := hv
  have hC : CallFix p m c bb_F_start 1 s _ lw_g sR_9 := ⟨B.exec, B.bytes, hml, findClass_of_methodNamed B.named, fun w hw => atoms_spec (ws := ss_w yy_F_start bb_F_start 1 none) B.pre w (List.mem_cons_of_mem _ hw)⟩
  have hx := hC.1
  have hb := hC.2.1
  have hr := B.returns
  have hlocks := B.notSynchronized
  have hS : va_S (ss_A G) s.heap s.heap [] := va_S.rf
  have hl := lv_entry ([ss_v (ss_b G) this]) (n := 1) (by simp [lg_sl, ss_v_cat, ss_cat_i, ss_cat_l, ss_cat_r])
  rw [lg_entry_eq]
  generalize (lg_sl ([ss_v (ss_b G) this]) ++ List.replicate (1 - (lg_sl ([ss_v (ss_b G) this])).length) Slot.unset).toArray = ls at hl ⊢
  have hl : lv_has ls 1 [(0, ss_v (ss_b G) this)] := by simpa [lv_args, ss_v_cat, ss_cat_i, ss_cat_l, ss_cat_r] using hl
  refine ss_aload_n hx hb dd_F_start_0 rfl (lv_at hl 0 rfl) ?_
  obtain ⟨r1, qr1, hm⟩ := ss_bind hm
  refine ss_getr hC hK hR kf_F_27 rfl qr1 dd_F_start_1 ?_
  refine ss_aload_n hx hb dd_F_start_4 rfl (lv_at hl 0 rfl) ?_
  refine ss_aload_n hx hb dd_F_start_5 rfl (lv_at hl 0 rfl) ?_
  obtain ⟨r2, qr2, hm⟩ := ss_bind hm
  refine ss_getr hC hK hR kf_F_19 rfl qr2 dd_F_start_6 ?_
  obtain ⟨v3, qv3, hm⟩ := ss_bind hm
  refine ss_geti hC hK hR kf_F_31 qv3 dd_F_start_9 ?_
  obtain ⟨r4, qr4, hm⟩ := ss_bind hm
  refine ss_cV 0 0 (As := [.int v3]) hC hK hR hS hl.1 (cc_F_ruleAt l G N _ _ _ _ qr4) km_F_37 (ck_F_ruleAt qr4) ⟨Nat.le_of_ble_eq_true rfl, Nat.le_of_ble_eq_true rfl⟩ ⟨Nat.le_of_ble_eq_true rfl, Nat.le_of_ble_eq_true rfl, Nat.le_of_ble_eq_true rfl, Nat.le_of_ble_eq_true rfl⟩ rfl rfl (by simp [ss_v_cat, ss_cat_i, ss_cat_l, ss_cat_r]) dd_F_start_12 (fun H locs hR hS => ?_)
  refine ss_aload_n hx hb dd_F_start_15 rfl (lv_at hl 0 rfl) ?_
  obtain ⟨r5, qr5, hm⟩ := ss_bind hm
  refine ss_getr hC hK hR kf_F_19 rfl qr5 dd_F_start_16 ?_
  obtain ⟨r6, qr6, hm⟩ := ss_bind hm
  refine ss_getr hC hK hR kf_F_41 rfl qr6 dd_F_start_19 ?_
  obtain ⟨h7, qh7, hm⟩ := ss_bind hm
  refine ss_cVv 0 0 (As := [ss_v (ss_b G) r4, ss_v (ss_b G) r6]) hC hK hR hS hl.1 (cc_Wi_begin l G N _ _ _ _ _ qh7) km_F_45 (ck_Wi_begin qh7) ⟨Nat.le_of_ble_eq_true rfl, Nat.le_of_ble_eq_true rfl⟩ ⟨Nat.le_of_ble_eq_true rfl, Nat.le_of_ble_eq_true rfl, Nat.le_of_ble_eq_true rfl, Nat.le_of_ble_eq_true rfl⟩ rfl rfl (Nat.le_of_ble_eq_true rfl) dd_F_start_22 (fun H locs hR hS => ?_)
  exact ss_vret hC hr hlocks hR hS hm dd_F_start_25
theorem dd_Wi_closedBits_0 : decode bb_Wi_closedBits 0 = .ok (.aload_n 0, 1) := by decide +kernel
theorem dd_Wi_closedBits_1 : decode bb_Wi_closedBits 1 = .ok (.getfield 37, 3) := by decide +kernel
theorem dd_Wi_closedBits_4 : decode bb_Wi_closedBits 4 = .ok (.aload_n 0, 1) := by decide +kernel
theorem dd_Wi_closedBits_5 : decode bb_Wi_closedBits 5 = .ok (.getfield 12, 3) := by decide +kernel
theorem dd_Wi_closedBits_8 : decode bb_Wi_closedBits 8 = .ok (.invokevirtual 58, 3) := by decide +kernel
theorem dd_Wi_closedBits_11 : decode bb_Wi_closedBits 11 = .ok (.ireturn, 1) := by decide +kernel
def mm_Wi_closedBits (N : Nat) (this : Option Nat) (h : ss_Hp) : Option Int32 :=
  if ss_is h this 7 = true then
    (ss_gr h this 7 6).bind fun r1 =>
    (ss_gr h this 7 0).bind fun r2 =>
    (mm_V_closedBits N r1 r2 h).bind fun v3 =>
    some v3
  else none
abbrev ww_Wi_closedBits (p : Program) (l : Launch) (e : Env) (s : State) (m : MethodId) (below : List Frame) (meth : Method) (c : Code) (G : ss_G) (this : Option Nat) (h : ss_Hp) (rr : Int32) (H : Heap) (locs : List Loc) (k n : Nat) (g : JFrame) : Prop := W p l e (headSpec (ss_w yy_Wi_closedBits bb_Wi_closedBits 1 (some (.int))) ({ frames := 1, cells := 0, slots := 0, locals := 23 })).room s m ([ss_v (ss_b G) this] : List Value).toArray below meth c H locs k n (MQ below (ss_Qc G (some (.int rr)) h) ([ss_v (ss_b G) this] : List Value).toArray s 0 0 (ss_A G)) g
theorem ck_Wi_closedBits {N : Nat} {this : Option Nat} {h : ss_Hp} {res : Int32} (hm : mm_Wi_closedBits N this h = some res) : ss_is h this 7 = true := (ss_chk hm).1
set_option maxHeartbeats 4000000 in
set_option maxRecDepth 100000 in
theorem cc_Wi_closedBits (l : Launch) (G : ss_G) (N : Nat) (this : Option Nat) (h : ss_Hp) (rr : Int32) (hm : mm_Wi_closedBits N this h = some rr) : ss_Ct l G yy_Wi_closedBits bb_Wi_closedBits 1 (some (.int)) ({ frames := 1, cells := 0, slots := 0, locals := 23 }) [ss_v (ss_b G) this] h (some (.int rr)) h := by
  obtain ⟨hck, hm⟩ := ss_chk hm
  refine Met.ofW (cc := bb_Wi_closedBits) (maxL := 1) (ret := (some (.int))) (by decide) rfl ?_
  intro p e s m args below meth c s₁ B hml hv
  obtain ⟨rfl, hR, hK⟩ := hv
  have hC : CallFix p m c bb_Wi_closedBits 1 s _ lw_g sR_7 := ⟨B.exec, B.bytes, hml, findClass_of_methodNamed B.named, fun w hw => atoms_spec (ws := ss_w yy_Wi_closedBits bb_Wi_closedBits 1 (some (.int))) B.pre w (List.mem_cons_of_mem _ hw)⟩
  have hx := hC.1
  have hb := hC.2.1
  have hr := B.returns
  have hlocks := B.notSynchronized
  have hS : va_S (ss_A G) s.heap s.heap [] := va_S.rf
  have hl := lv_entry ([ss_v (ss_b G) this]) (n := 1) (by simp [lg_sl, ss_v_cat, ss_cat_i, ss_cat_l, ss_cat_r])
  rw [lg_entry_eq]
  generalize (lg_sl ([ss_v (ss_b G) this]) ++ List.replicate (1 - (lg_sl ([ss_v (ss_b G) this])).length) Slot.unset).toArray = ls at hl ⊢
  have hl : lv_has ls 1 [(0, ss_v (ss_b G) this)] := by simpa [lv_args, ss_v_cat, ss_cat_i, ss_cat_l, ss_cat_r] using hl
  refine ss_aload_n hx hb dd_Wi_closedBits_0 rfl (lv_at hl 0 rfl) ?_
  obtain ⟨r1, qr1, hm⟩ := ss_bind hm
  refine ss_getr hC hK hR kf_Wi_37 rfl qr1 dd_Wi_closedBits_1 ?_
  refine ss_aload_n hx hb dd_Wi_closedBits_4 rfl (lv_at hl 0 rfl) ?_
  obtain ⟨r2, qr2, hm⟩ := ss_bind hm
  refine ss_getr hC hK hR kf_Wi_12 rfl qr2 dd_Wi_closedBits_5 ?_
  obtain ⟨v3, qv3, hm⟩ := ss_bind hm
  refine ss_cV 0 0 (As := [ss_v (ss_b G) r2]) hC hK hR hS hl.1 (cc_V_closedBits l G N _ _ _ _ qv3) km_Wi_58 (ck_V_closedBits qv3) ⟨Nat.le_of_ble_eq_true rfl, Nat.le_of_ble_eq_true rfl⟩ ⟨Nat.le_of_ble_eq_true rfl, Nat.le_of_ble_eq_true rfl, Nat.le_of_ble_eq_true rfl, Nat.le_of_ble_eq_true rfl⟩ rfl rfl (Nat.le_of_ble_eq_true rfl) dd_Wi_closedBits_8 (fun H locs hR hS => ?_)
  exact ss_iret hC hr hlocks hR hS (ss_with _ hm) dd_Wi_closedBits_11
theorem dd_JI_bitCount_0 : decode bb_JI_bitCount 0 = .ok (.iload_n 0, 1) := by decide +kernel
theorem dd_JI_bitCount_1 : decode bb_JI_bitCount 1 = .ok (.iload_n 0, 1) := by decide +kernel
theorem dd_JI_bitCount_2 : decode bb_JI_bitCount 2 = .ok (.iconst 1, 1) := by decide +kernel
theorem dd_JI_bitCount_3 : decode bb_JI_bitCount 3 = .ok (.iushr, 1) := by decide +kernel
theorem dd_JI_bitCount_4 : decode bb_JI_bitCount 4 = .ok (.ldc_w 265, 3) := by decide +kernel
theorem dd_JI_bitCount_7 : decode bb_JI_bitCount 7 = .ok (.iand, 1) := by decide +kernel
theorem dd_JI_bitCount_8 : decode bb_JI_bitCount 8 = .ok (.isub, 1) := by decide +kernel
theorem dd_JI_bitCount_9 : decode bb_JI_bitCount 9 = .ok (.istore_n 0, 1) := by decide +kernel
theorem dd_JI_bitCount_10 : decode bb_JI_bitCount 10 = .ok (.iload_n 0, 1) := by decide +kernel
theorem dd_JI_bitCount_11 : decode bb_JI_bitCount 11 = .ok (.ldc_w 266, 3) := by decide +kernel
theorem dd_JI_bitCount_14 : decode bb_JI_bitCount 14 = .ok (.iand, 1) := by decide +kernel
theorem dd_JI_bitCount_15 : decode bb_JI_bitCount 15 = .ok (.iload_n 0, 1) := by decide +kernel
theorem dd_JI_bitCount_16 : decode bb_JI_bitCount 16 = .ok (.iconst 2, 1) := by decide +kernel
theorem dd_JI_bitCount_17 : decode bb_JI_bitCount 17 = .ok (.iushr, 1) := by decide +kernel
theorem dd_JI_bitCount_18 : decode bb_JI_bitCount 18 = .ok (.ldc_w 266, 3) := by decide +kernel
theorem dd_JI_bitCount_21 : decode bb_JI_bitCount 21 = .ok (.iand, 1) := by decide +kernel
theorem dd_JI_bitCount_22 : decode bb_JI_bitCount 22 = .ok (.iadd, 1) := by decide +kernel
theorem dd_JI_bitCount_23 : decode bb_JI_bitCount 23 = .ok (.istore_n 0, 1) := by decide +kernel
theorem dd_JI_bitCount_24 : decode bb_JI_bitCount 24 = .ok (.iload_n 0, 1) := by decide +kernel
theorem dd_JI_bitCount_25 : decode bb_JI_bitCount 25 = .ok (.iload_n 0, 1) := by decide +kernel
theorem dd_JI_bitCount_26 : decode bb_JI_bitCount 26 = .ok (.iconst 4, 1) := by decide +kernel
theorem dd_JI_bitCount_27 : decode bb_JI_bitCount 27 = .ok (.iushr, 1) := by decide +kernel
theorem dd_JI_bitCount_28 : decode bb_JI_bitCount 28 = .ok (.iadd, 1) := by decide +kernel
theorem dd_JI_bitCount_29 : decode bb_JI_bitCount 29 = .ok (.ldc_w 267, 3) := by decide +kernel
theorem dd_JI_bitCount_32 : decode bb_JI_bitCount 32 = .ok (.iand, 1) := by decide +kernel
theorem dd_JI_bitCount_33 : decode bb_JI_bitCount 33 = .ok (.istore_n 0, 1) := by decide +kernel
theorem dd_JI_bitCount_34 : decode bb_JI_bitCount 34 = .ok (.iload_n 0, 1) := by decide +kernel
theorem dd_JI_bitCount_35 : decode bb_JI_bitCount 35 = .ok (.iload_n 0, 1) := by decide +kernel
theorem dd_JI_bitCount_36 : decode bb_JI_bitCount 36 = .ok (.bipush 8, 2) := by decide +kernel
theorem dd_JI_bitCount_38 : decode bb_JI_bitCount 38 = .ok (.iushr, 1) := by decide +kernel
theorem dd_JI_bitCount_39 : decode bb_JI_bitCount 39 = .ok (.iadd, 1) := by decide +kernel
theorem dd_JI_bitCount_40 : decode bb_JI_bitCount 40 = .ok (.istore_n 0, 1) := by decide +kernel
theorem dd_JI_bitCount_41 : decode bb_JI_bitCount 41 = .ok (.iload_n 0, 1) := by decide +kernel
theorem dd_JI_bitCount_42 : decode bb_JI_bitCount 42 = .ok (.iload_n 0, 1) := by decide +kernel
theorem dd_JI_bitCount_43 : decode bb_JI_bitCount 43 = .ok (.bipush 16, 2) := by decide +kernel
theorem dd_JI_bitCount_45 : decode bb_JI_bitCount 45 = .ok (.iushr, 1) := by decide +kernel
theorem dd_JI_bitCount_46 : decode bb_JI_bitCount 46 = .ok (.iadd, 1) := by decide +kernel
theorem dd_JI_bitCount_47 : decode bb_JI_bitCount 47 = .ok (.istore_n 0, 1) := by decide +kernel
theorem dd_JI_bitCount_48 : decode bb_JI_bitCount 48 = .ok (.iload_n 0, 1) := by decide +kernel
theorem dd_JI_bitCount_49 : decode bb_JI_bitCount 49 = .ok (.bipush 63, 2) := by decide +kernel
theorem dd_JI_bitCount_51 : decode bb_JI_bitCount 51 = .ok (.iand, 1) := by decide +kernel
theorem dd_JI_bitCount_52 : decode bb_JI_bitCount 52 = .ok (.ireturn, 1) := by decide +kernel
def mm_JI_bitCount (N : Nat) (a1 : Int32) : Option Int32 :=
  (some (a1 - ((((a1).toUInt32 >>> (((1 : Int32)).toUInt32 &&& Int32.toUInt32 31)).toInt32) &&& (1431655765 : Int32)))).bind fun v1 =>
  (some ((v1 &&& (858993459 : Int32)) + ((((v1).toUInt32 >>> (((2 : Int32)).toUInt32 &&& Int32.toUInt32 31)).toInt32) &&& (858993459 : Int32)))).bind fun v2 =>
  (some ((v2 + (((v2).toUInt32 >>> (((4 : Int32)).toUInt32 &&& Int32.toUInt32 31)).toInt32)) &&& (252645135 : Int32))).bind fun v3 =>
  (some (v3 + (((v3).toUInt32 >>> (((8 : Int32)).toUInt32 &&& Int32.toUInt32 31)).toInt32))).bind fun v4 =>
  (some (v4 + (((v4).toUInt32 >>> (((16 : Int32)).toUInt32 &&& Int32.toUInt32 31)).toInt32))).bind fun v5 =>
  some (v5 &&& (63 : Int32))
abbrev ww_JI_bitCount (p : Program) (l : Launch) (e : Env) (s : State) (m : MethodId) (below : List Frame) (meth : Method) (c : Code) (G : ss_G) (a1 : Int32) (h : ss_Hp) (rr : Int32) (H : Heap) (locs : List Loc) (k n : Nat) (g : JFrame) : Prop := W p l e (headSpec (ss_w yy_JI_bitCount bb_JI_bitCount 1 (some (.int))) ({ frames := 0, cells := 0, slots := 0, locals := 0 })).room s m ([.int a1] : List Value).toArray below meth c H locs k n (MQ below (ss_Qc G (some (.int rr)) h) ([.int a1] : List Value).toArray s 0 0 (ss_A G)) g
set_option maxHeartbeats 4000000 in
set_option maxRecDepth 100000 in
theorem cc_JI_bitCount (l : Launch) (G : ss_G) (N : Nat) (a1 : Int32) (h : ss_Hp) (rr : Int32) (hm : mm_JI_bitCount N a1 = some rr) : ss_Ct l G yy_JI_bitCount bb_JI_bitCount 1 (some (.int)) ({ frames := 0, cells := 0, slots := 0, locals := 0 }) [.int a1] h (some (.int rr)) h := by
  refine Met.ofW (cc := bb_JI_bitCount) (maxL := 1) (ret := (some (.int))) (by decide) rfl ?_
  intro p e s m args below meth c s₁ B hml hv
  obtain ⟨rfl, hR, hK⟩ := hv
  have hC : CallFix p m c bb_JI_bitCount 1 s _ lw_g "java/lang/Integer" := ⟨B.exec, B.bytes, hml, findClass_of_methodNamed B.named, fun w hw => atoms_spec (ws := ss_w yy_JI_bitCount bb_JI_bitCount 1 (some (.int))) B.pre w (List.mem_cons_of_mem _ hw)⟩
  have hx := hC.1
  have hb := hC.2.1
  have hr := B.returns
  have hlocks := B.notSynchronized
  have hS : va_S (ss_A G) s.heap s.heap [] := va_S.rf
  have hl := lv_entry ([.int a1]) (n := 1) (Nat.le_of_ble_eq_true rfl)
  rw [lg_entry_eq]
  generalize (lg_sl ([.int a1]) ++ List.replicate (1 - (lg_sl ([.int a1])).length) Slot.unset).toArray = ls at hl ⊢
  have hl : lv_has ls 1 [(0, .int a1)] := hl
  refine lv_iload_n hx hb dd_JI_bitCount_0 rfl (lv_at hl 0 rfl) ?_
  refine lv_iload_n hx hb dd_JI_bitCount_1 rfl (lv_at hl 0 rfl) ?_
  refine lv_iconst (v := 1) hx hb dd_JI_bitCount_2 (by decide) ?_
  refine lv_iushr hx hb dd_JI_bitCount_3 rfl ?_
  refine lv_ldcw (v := 1431655765) hx hb hC.2.2.2.1 (hC.2.2.2.2 _ kc_JI_265) dd_JI_bitCount_4 ?_
  refine lv_iand hx hb dd_JI_bitCount_7 ?_
  refine lv_isub hx hb dd_JI_bitCount_8 ?_
  obtain ⟨v1, qv1, hm⟩ := ss_bind hm
  refine ss_topi qv1 ?_
  refine lv_istore_n (lv' := [(0, .int v1)]) hx hb dd_JI_bitCount_9 rfl hl (by decide) rfl (fun ls hl => ?_)
  refine lv_iload_n hx hb dd_JI_bitCount_10 rfl (lv_at hl 0 rfl) ?_
  refine lv_ldcw (v := 858993459) hx hb hC.2.2.2.1 (hC.2.2.2.2 _ kc_JI_266) dd_JI_bitCount_11 ?_
  refine lv_iand hx hb dd_JI_bitCount_14 ?_
  refine lv_iload_n hx hb dd_JI_bitCount_15 rfl (lv_at hl 0 rfl) ?_
  refine lv_iconst (v := 2) hx hb dd_JI_bitCount_16 (by decide) ?_
  refine lv_iushr hx hb dd_JI_bitCount_17 rfl ?_
  refine lv_ldcw (v := 858993459) hx hb hC.2.2.2.1 (hC.2.2.2.2 _ kc_JI_266) dd_JI_bitCount_18 ?_
  refine lv_iand hx hb dd_JI_bitCount_21 ?_
  refine lv_iadd hx hb dd_JI_bitCount_22 ?_
  obtain ⟨v2, qv2, hm⟩ := ss_bind hm
  refine ss_topi qv2 ?_
  refine lv_istore_n (lv' := [(0, .int v2)]) hx hb dd_JI_bitCount_23 rfl hl (by decide) rfl (fun ls hl => ?_)
  refine lv_iload_n hx hb dd_JI_bitCount_24 rfl (lv_at hl 0 rfl) ?_
  refine lv_iload_n hx hb dd_JI_bitCount_25 rfl (lv_at hl 0 rfl) ?_
  refine lv_iconst (v := 4) hx hb dd_JI_bitCount_26 (by decide) ?_
  refine lv_iushr hx hb dd_JI_bitCount_27 rfl ?_
  refine lv_iadd hx hb dd_JI_bitCount_28 ?_
  refine lv_ldcw (v := 252645135) hx hb hC.2.2.2.1 (hC.2.2.2.2 _ kc_JI_267) dd_JI_bitCount_29 ?_
  refine lv_iand hx hb dd_JI_bitCount_32 ?_
  obtain ⟨v3, qv3, hm⟩ := ss_bind hm
  refine ss_topi qv3 ?_
  refine lv_istore_n (lv' := [(0, .int v3)]) hx hb dd_JI_bitCount_33 rfl hl (by decide) rfl (fun ls hl => ?_)
  refine lv_iload_n hx hb dd_JI_bitCount_34 rfl (lv_at hl 0 rfl) ?_
  refine lv_iload_n hx hb dd_JI_bitCount_35 rfl (lv_at hl 0 rfl) ?_
  refine lv_bipush (v := 8) hx hb dd_JI_bitCount_36 (by decide) ?_
  refine lv_iushr hx hb dd_JI_bitCount_38 rfl ?_
  refine lv_iadd hx hb dd_JI_bitCount_39 ?_
  obtain ⟨v4, qv4, hm⟩ := ss_bind hm
  refine ss_topi qv4 ?_
  refine lv_istore_n (lv' := [(0, .int v4)]) hx hb dd_JI_bitCount_40 rfl hl (by decide) rfl (fun ls hl => ?_)
  refine lv_iload_n hx hb dd_JI_bitCount_41 rfl (lv_at hl 0 rfl) ?_
  refine lv_iload_n hx hb dd_JI_bitCount_42 rfl (lv_at hl 0 rfl) ?_
  refine lv_bipush (v := 16) hx hb dd_JI_bitCount_43 (by decide) ?_
  refine lv_iushr hx hb dd_JI_bitCount_45 rfl ?_
  refine lv_iadd hx hb dd_JI_bitCount_46 ?_
  obtain ⟨v5, qv5, hm⟩ := ss_bind hm
  refine ss_topi qv5 ?_
  refine lv_istore_n (lv' := [(0, .int v5)]) hx hb dd_JI_bitCount_47 rfl hl (by decide) rfl (fun ls hl => ?_)
  refine lv_iload_n hx hb dd_JI_bitCount_48 rfl (lv_at hl 0 rfl) ?_
  refine lv_bipush (v := 63) hx hb dd_JI_bitCount_49 (by decide) ?_
  refine lv_iand hx hb dd_JI_bitCount_51 ?_
  exact ss_iret hC hr hlocks hR hS (ss_with _ hm) dd_JI_bitCount_52
theorem dd_V_daysToNeed_0 : decode bb_V_daysToNeed 0 = .ok (.iload_n 2, 1) := by decide +kernel
theorem dd_V_daysToNeed_1 : decode bb_V_daysToNeed 1 = .ok (.bipush 30, 2) := by decide +kernel
theorem dd_V_daysToNeed_3 : decode bb_V_daysToNeed 3 = .ok (.if_icmp .gt 14, 3) := by decide +kernel
theorem dd_V_daysToNeed_6 : decode bb_V_daysToNeed 6 = .ok (.aload_n 0, 1) := by decide +kernel
theorem dd_V_daysToNeed_7 : decode bb_V_daysToNeed 7 = .ok (.getfield 21, 3) := by decide +kernel
theorem dd_V_daysToNeed_10 : decode bb_V_daysToNeed 10 = .ok (.iload_n 1, 1) := by decide +kernel
theorem dd_V_daysToNeed_11 : decode bb_V_daysToNeed 11 = .ok (.iaload, 1) := by decide +kernel
theorem dd_V_daysToNeed_12 : decode bb_V_daysToNeed 12 = .ok (.iload_n 2, 1) := by decide +kernel
theorem dd_V_daysToNeed_13 : decode bb_V_daysToNeed 13 = .ok (.ishr, 1) := by decide +kernel
theorem dd_V_daysToNeed_14 : decode bb_V_daysToNeed 14 = .ok (.goto 4, 3) := by decide +kernel
theorem dd_V_daysToNeed_17 : decode bb_V_daysToNeed 17 = .ok (.iconst 0, 1) := by decide +kernel
theorem dd_V_daysToNeed_18 : decode bb_V_daysToNeed 18 = .ok (.istore_n 3, 1) := by decide +kernel
theorem dd_V_daysToNeed_19 : decode bb_V_daysToNeed 19 = .ok (.iload_n 3, 1) := by decide +kernel
theorem dd_V_daysToNeed_20 : decode bb_V_daysToNeed 20 = .ok (.ifCond .ne 8, 3) := by decide +kernel
theorem dd_V_daysToNeed_23 : decode bb_V_daysToNeed 23 = .ok (.bipush 99, 2) := by decide +kernel
theorem dd_V_daysToNeed_25 : decode bb_V_daysToNeed 25 = .ok (.goto 12, 3) := by decide +kernel
theorem dd_V_daysToNeed_28 : decode bb_V_daysToNeed 28 = .ok (.iload_n 3, 1) := by decide +kernel
theorem dd_V_daysToNeed_29 : decode bb_V_daysToNeed 29 = .ok (.iload_n 3, 1) := by decide +kernel
theorem dd_V_daysToNeed_30 : decode bb_V_daysToNeed 30 = .ok (.ineg, 1) := by decide +kernel
theorem dd_V_daysToNeed_31 : decode bb_V_daysToNeed 31 = .ok (.iand, 1) := by decide +kernel
theorem dd_V_daysToNeed_32 : decode bb_V_daysToNeed 32 = .ok (.iconst 1, 1) := by decide +kernel
theorem dd_V_daysToNeed_33 : decode bb_V_daysToNeed 33 = .ok (.isub, 1) := by decide +kernel
theorem dd_V_daysToNeed_34 : decode bb_V_daysToNeed 34 = .ok (.invokestatic 62, 3) := by decide +kernel
theorem dd_V_daysToNeed_37 : decode bb_V_daysToNeed 37 = .ok (.ireturn, 1) := by decide +kernel
def mm_V_daysToNeed_j37 (N : Nat) (this : Option Nat) (a1 : Int32) (a2 : Int32) (h : ss_Hp) (s0_37 : Int32) : Option Int32 :=
  some s0_37
def mm_V_daysToNeed_j18 (N : Nat) (this : Option Nat) (a1 : Int32) (a2 : Int32) (h : ss_Hp) (s0_18 : Int32) : Option Int32 :=
  if s0_18 = 0 then
    mm_V_daysToNeed_j37 N this a1 a2 h (99 : Int32)
  else
    (mm_JI_bitCount N ((s0_18 &&& (-s0_18)) - (1 : Int32))).bind fun v2 =>
    mm_V_daysToNeed_j37 N this a1 a2 h v2
def mm_V_daysToNeed (N : Nat) (this : Option Nat) (a1 : Int32) (a2 : Int32) (h : ss_Hp) : Option Int32 :=
  if ss_is h this 5 = true then
    if (30 : Int32) < a2 then
      mm_V_daysToNeed_j18 N this a1 a2 h (0 : Int32)
    else
      (ss_gr h this 5 3).bind fun r4 =>
      (ss_ai h r4 20 a1).bind fun v5 =>
      mm_V_daysToNeed_j18 N this a1 a2 h (v5 >>> (a2 &&& 31))
  else none
abbrev ww_V_daysToNeed (p : Program) (l : Launch) (e : Env) (s : State) (m : MethodId) (below : List Frame) (meth : Method) (c : Code) (G : ss_G) (this : Option Nat) (a1 : Int32) (a2 : Int32) (h : ss_Hp) (rr : Int32) (H : Heap) (locs : List Loc) (k n : Nat) (g : JFrame) : Prop := W p l e (headSpec (ss_w yy_V_daysToNeed bb_V_daysToNeed 4 (some (.int))) ({ frames := 1, cells := 0, slots := 0, locals := 20 })).room s m ([ss_v (ss_b G) this, .int a1, .int a2] : List Value).toArray below meth c H locs k n (MQ below (ss_Qc G (some (.int rr)) h) ([ss_v (ss_b G) this, .int a1, .int a2] : List Value).toArray s 0 0 (ss_A G)) g
theorem ck_V_daysToNeed {N : Nat} {this : Option Nat} {a1 : Int32} {a2 : Int32} {h : ss_Hp} {res : Int32} (hm : mm_V_daysToNeed N this a1 a2 h = some res) : ss_is h this 5 = true := (ss_chk hm).1
set_option maxHeartbeats 4000000 in
set_option maxRecDepth 100000 in
theorem cc_V_daysToNeed (l : Launch) (G : ss_G) (N : Nat) (this : Option Nat) (a1 : Int32) (a2 : Int32) (h : ss_Hp) (rr : Int32) (hm : mm_V_daysToNeed N this a1 a2 h = some rr) : ss_Ct l G yy_V_daysToNeed bb_V_daysToNeed 4 (some (.int)) ({ frames := 1, cells := 0, slots := 0, locals := 20 }) [ss_v (ss_b G) this, .int a1, .int a2] h (some (.int rr)) h := by
  obtain ⟨hck, hm⟩ := ss_chk hm
  refine Met.ofW (cc := bb_V_daysToNeed) (maxL := 4) (ret := (some (.int))) (by decide) rfl ?_
  intro p e s m args below meth c s₁ B hml hv
  obtain ⟨rfl, hR, hK⟩ := hv
  have hC : CallFix p m c bb_V_daysToNeed 4 s _ lw_g sR_5 := ⟨B.exec, B.bytes, hml, findClass_of_methodNamed B.named, fun w hw => atoms_spec (ws := ss_w yy_V_daysToNeed bb_V_daysToNeed 4 (some (.int))) B.pre w (List.mem_cons_of_mem _ hw)⟩
  have hx := hC.1
  have hb := hC.2.1
  have hr := B.returns
  have hlocks := B.notSynchronized
  have hS : va_S (ss_A G) s.heap s.heap [] := va_S.rf
  have hl := lv_entry ([ss_v (ss_b G) this, .int a1, .int a2]) (n := 4) (by simp [lg_sl, ss_v_cat, ss_cat_i, ss_cat_l, ss_cat_r])
  rw [lg_entry_eq]
  generalize (lg_sl ([ss_v (ss_b G) this, .int a1, .int a2]) ++ List.replicate (4 - (lg_sl ([ss_v (ss_b G) this, .int a1, .int a2])).length) Slot.unset).toArray = ls at hl ⊢
  have hl : lv_has ls 4 [(0, ss_v (ss_b G) this), (1, .int a1), (2, .int a2)] := by simpa [lv_args, ss_v_cat, ss_cat_i, ss_cat_l, ss_cat_r] using hl
  have J_37 : ∀ (s0_37 : Int32) (H : Heap) (locs : List Loc) (ls : Array Slot), mm_V_daysToNeed_j37 N this a1 a2 h s0_37 = some rr → ss_R G h H → va_S (ss_A G) s.heap H locs → lv_has ls 4 [] → ww_V_daysToNeed p l e s m below meth c G this a1 a2 h rr  H locs 0 0 (F0 m 37 ls [.int s0_37]) := by
    intro s0_37 H locs ls hm hR hS hl
    exact ss_iret hC hr hlocks hR hS (ss_with _ hm) dd_V_daysToNeed_37
  have J_18 : ∀ (s0_18 : Int32) (H : Heap) (locs : List Loc) (ls : Array Slot), mm_V_daysToNeed_j18 N this a1 a2 h s0_18 = some rr → ss_R G h H → va_S (ss_A G) s.heap H locs → lv_has ls 4 [] → ww_V_daysToNeed p l e s m below meth c G this a1 a2 h rr  H locs 0 0 (F0 m 18 ls [.int s0_18]) := by
    intro s0_18 H locs ls hm hR hS hl
    refine lv_istore_n (lv' := [(3, .int s0_18)]) hx hb dd_V_daysToNeed_18 rfl hl (by decide) rfl (fun ls hl => ?_)
    refine lv_iload_n hx hb dd_V_daysToNeed_19 rfl (lv_at hl 0 rfl) ?_
    refine lv_if_ne (tgt := 28) hx hb dd_V_daysToNeed_20 (by decide) (fun c1 => ?_) (fun c1 => ?_)
    · have hm := ss_iff hm c1
      refine lv_iload_n hx hb dd_V_daysToNeed_28 rfl (lv_at hl 0 rfl) ?_
      refine lv_iload_n hx hb dd_V_daysToNeed_29 rfl (lv_at hl 0 rfl) ?_
      refine lv_ineg hx hb dd_V_daysToNeed_30 ?_
      refine lv_iand hx hb dd_V_daysToNeed_31 ?_
      refine lv_iconst (v := 1) hx hb dd_V_daysToNeed_32 (by decide) ?_
      refine lv_isub hx hb dd_V_daysToNeed_33 ?_
      obtain ⟨v2, qv2, hm⟩ := ss_bind hm
      refine ss_cS 0 0 (As := [.int ((s0_18 &&& (-s0_18)) - (1 : Int32))]) hC hK hR hS hl.1 (cc_JI_bitCount l G N _ _ _ qv2) km_V_62 ⟨Nat.le_of_ble_eq_true rfl, Nat.le_of_ble_eq_true rfl⟩ ⟨Nat.le_of_ble_eq_true rfl, Nat.le_of_ble_eq_true rfl, Nat.le_of_ble_eq_true rfl, Nat.le_of_ble_eq_true rfl⟩ rfl rfl (Nat.le_of_ble_eq_true rfl) dd_V_daysToNeed_34 (fun H locs hR hS => ?_)
      exact J_37 v2  _ _ _ hm hR hS (lv_sub hl [] rfl)
    · have hm := ss_ift hm c1
      refine lv_bipush (v := 99) hx hb dd_V_daysToNeed_23 (by decide) ?_
      refine lv_goto (tgt := 37) hx hb dd_V_daysToNeed_25 (by decide) ?_
      exact J_37 (99 : Int32)  _ _ _ hm hR hS (lv_sub hl [] rfl)
  refine lv_iload_n hx hb dd_V_daysToNeed_0 rfl (lv_at hl 2 rfl) ?_
  refine lv_bipush (v := 30) hx hb dd_V_daysToNeed_1 (by decide) ?_
  refine lv_icmp_gt (tgt := 17) hx hb dd_V_daysToNeed_3 (by decide) (fun c3 => ?_) (fun c3 => ?_)
  · have hm := ss_ift hm c3
    refine lv_iconst (v := 0) hx hb dd_V_daysToNeed_17 (by decide) ?_
    exact J_18 (0 : Int32)  _ _ _ hm hR hS (lv_sub hl [] rfl)
  · have hm := ss_iff hm c3
    refine ss_aload_n hx hb dd_V_daysToNeed_6 rfl (lv_at hl 0 rfl) ?_
    obtain ⟨r4, qr4, hm⟩ := ss_bind hm
    refine ss_getr hC hK hR kf_V_21 rfl qr4 dd_V_daysToNeed_7 ?_
    refine lv_iload_n hx hb dd_V_daysToNeed_10 rfl (lv_at hl 1 rfl) ?_
    obtain ⟨v5, qv5, hm⟩ := ss_bind hm
    refine ss_iald hC hK hR qv5 dd_V_daysToNeed_11 ?_
    refine lv_iload_n hx hb dd_V_daysToNeed_12 rfl (lv_at hl 2 rfl) ?_
    refine lv_ishr hx hb dd_V_daysToNeed_13 ?_
    refine lv_goto (tgt := 18) hx hb dd_V_daysToNeed_14 (by decide) ?_
    exact J_18 (v5 >>> (a2 &&& 31))  _ _ _ hm hR hS (lv_sub hl [] rfl)
