theorem dd_G_lay_0 : decode bb_G_lay 0 = .ok (.aload_n 0, 1) := by decide +kernel
theorem dd_G_lay_1 : decode bb_G_lay 1 = .ok (.getfield 9, 3) := by decide +kernel
theorem dd_G_lay_4 : decode bb_G_lay 4 = .ok (.iload_n 1, 1) := by decide +kernel
theorem dd_G_lay_5 : decode bb_G_lay 5 = .ok (.sipush 999, 3) := by decide +kernel
theorem dd_G_lay_8 : decode bb_G_lay 8 = .ok (.aload_n 0, 1) := by decide +kernel
theorem dd_G_lay_9 : decode bb_G_lay 9 = .ok (.getfield 9, 3) := by decide +kernel
theorem dd_G_lay_12 : decode bb_G_lay 12 = .ok (.iload_n 1, 1) := by decide +kernel
theorem dd_G_lay_13 : decode bb_G_lay 13 = .ok (.iaload, 1) := by decide +kernel
theorem dd_G_lay_14 : decode bb_G_lay 14 = .ok (.iload_n 2, 1) := by decide +kernel
theorem dd_G_lay_15 : decode bb_G_lay 15 = .ok (.iadd, 1) := by decide +kernel
theorem dd_G_lay_16 : decode bb_G_lay 16 = .ok (.invokestatic 37, 3) := by decide +kernel
theorem dd_G_lay_19 : decode bb_G_lay 19 = .ok (.iastore, 1) := by decide +kernel
theorem dd_G_lay_20 : decode bb_G_lay 20 = .ok (.return_, 1) := by decide +kernel
def mm_G_lay (N : Nat) (this : Option Nat) (a1 : Int32) (a2 : Int32) (h : ss_Hp) : Option ss_Hp :=
  if ss_is h this 0 = true then
    (ss_gr h this 0 0).bind fun r1 =>
    (ss_gr h this 0 0).bind fun r2 =>
    (ss_ai h r2 20 a1).bind fun v3 =>
    (ss_ui h r1 20 a1 (if (v3 + a2) < (999 : Int32) then (v3 + a2) else (999 : Int32))).bind fun h4 =>
    some h4
  else none
abbrev ww_G_lay (p : Program) (l : Launch) (e : Env) (s : State) (m : MethodId) (below : List Frame) (meth : Method) (c : Code) (G : ss_G) (this : Option Nat) (a1 : Int32) (a2 : Int32) (h : ss_Hp) (hh : ss_Hp) (H : Heap) (locs : List Loc) (k n : Nat) (g : JFrame) : Prop := W p l e (headSpec (ss_w yy_G_lay bb_G_lay 3 none) ({ frames := 1, cells := 0, slots := 0, locals := 80 })).room s m ([ss_v (ss_b G) this, .int a1, .int a2] : List Value).toArray below meth c H locs k n (MQ below (ss_Qc G none hh) ([ss_v (ss_b G) this, .int a1, .int a2] : List Value).toArray s 0 0 (ss_A G)) g
theorem ck_G_lay {N : Nat} {this : Option Nat} {a1 : Int32} {a2 : Int32} {h : ss_Hp} {res : ss_Hp} (hm : mm_G_lay N this a1 a2 h = some res) : ss_is h this 0 = true := (ss_chk hm).1
set_option maxHeartbeats 4000000 in
set_option maxRecDepth 100000 in
theorem cc_G_lay (l : Launch) (G : ss_G) (N : Nat) (this : Option Nat) (a1 : Int32) (a2 : Int32) (h : ss_Hp) (hh : ss_Hp) (hm : mm_G_lay N this a1 a2 h = some hh) : ss_Ct l G yy_G_lay bb_G_lay 3 none ({ frames := 1, cells := 0, slots := 0, locals := 80 }) [ss_v (ss_b G) this, .int a1, .int a2] h none hh := by
  obtain ⟨hck, hm⟩ := ss_chk hm
  refine Met.ofW (cc := bb_G_lay) (maxL := 3) (ret := none) (by decide) rfl ?_
  intro p e s m args below meth c s₁ B hml hv
  obtain ⟨rfl, hR, hK⟩ := hv
  have hC : CallFix p m c bb_G_lay 3 s _ lw_g sR_0 := ⟨B.exec, B.bytes, hml, findClass_of_methodNamed B.named, fun w hw => atoms_spec (ws := ss_w yy_G_lay bb_G_lay 3 none) B.pre w (List.mem_cons_of_mem _ hw)⟩
  have hx := hC.1
  have hb := hC.2.1
  have hr := B.returns
  have hlocks := B.notSynchronized
  have hS : va_S (ss_A G) s.heap s.heap [] := va_S.rf
  have hl := lv_entry ([ss_v (ss_b G) this, .int a1, .int a2]) (n := 3) (by simp [lg_sl, ss_v_cat, ss_cat_i, ss_cat_l, ss_cat_r])
  rw [lg_entry_eq]
  generalize (lg_sl ([ss_v (ss_b G) this, .int a1, .int a2]) ++ List.replicate (3 - (lg_sl ([ss_v (ss_b G) this, .int a1, .int a2])).length) Slot.unset).toArray = ls at hl ⊢
  have hl : lv_has ls 3 [(0, ss_v (ss_b G) this), (1, .int a1), (2, .int a2)] := by simpa [lv_args, ss_v_cat, ss_cat_i, ss_cat_l, ss_cat_r] using hl
  refine ss_aload_n hx hb dd_G_lay_0 rfl (lv_at hl 0 rfl) ?_
  obtain ⟨r1, qr1, hm⟩ := ss_bind hm
  refine ss_getr hC hK hR kf_G_9 rfl qr1 dd_G_lay_1 ?_
  refine lv_iload_n hx hb dd_G_lay_4 rfl (lv_at hl 1 rfl) ?_
  refine lv_sipush (v := 999) hx hb dd_G_lay_5 (by decide) ?_
  refine ss_aload_n hx hb dd_G_lay_8 rfl (lv_at hl 0 rfl) ?_
  obtain ⟨r2, qr2, hm⟩ := ss_bind hm
  refine ss_getr hC hK hR kf_G_9 rfl qr2 dd_G_lay_9 ?_
  refine lv_iload_n hx hb dd_G_lay_12 rfl (lv_at hl 1 rfl) ?_
  obtain ⟨v3, qv3, hm⟩ := ss_bind hm
  refine ss_iald hC hK hR qv3 dd_G_lay_13 ?_
  refine lv_iload_n hx hb dd_G_lay_14 rfl (lv_at hl 2 rfl) ?_
  refine lv_iadd hx hb dd_G_lay_15 ?_
  refine ss_min hC hl.1 kj_G_37 kj_min_s kj_math kj_min_c (Nat.le_of_ble_eq_true rfl) (by simp [ss_v_cat, ss_cat_i, ss_cat_l, ss_cat_r]) (Nat.le_of_ble_eq_true rfl) ⟨Nat.le_of_ble_eq_true rfl, Nat.le_of_ble_eq_true rfl⟩ dd_G_lay_16 ?_
  obtain ⟨h4, qh4, hm⟩ := ss_bind hm
  refine ss_iast hC hK hR hS qh4 dd_G_lay_19 (fun H locs hR hS => ?_)
  exact ss_vret hC hr hlocks hR hS hm dd_G_lay_20
theorem dd_Wi_sweepBy_0 : decode bb_Wi_sweepBy 0 = .ok (.aload_n 0, 1) := by decide +kernel
theorem dd_Wi_sweepBy_1 : decode bb_Wi_sweepBy 1 = .ok (.getfield 18, 3) := by decide +kernel
theorem dd_Wi_sweepBy_4 : decode bb_Wi_sweepBy 4 = .ok (.iload_n 1, 1) := by decide +kernel
theorem dd_Wi_sweepBy_5 : decode bb_Wi_sweepBy 5 = .ok (.iaload, 1) := by decide +kernel
theorem dd_Wi_sweepBy_6 : decode bb_Wi_sweepBy 6 = .ok (.aload_n 0, 1) := by decide +kernel
theorem dd_Wi_sweepBy_7 : decode bb_Wi_sweepBy 7 = .ok (.getfield 12, 3) := by decide +kernel
theorem dd_Wi_sweepBy_10 : decode bb_Wi_sweepBy 10 = .ok (.getfield 62, 3) := by decide +kernel
theorem dd_Wi_sweepBy_13 : decode bb_Wi_sweepBy 13 = .ok (.iload_n 2, 1) := by decide +kernel
theorem dd_Wi_sweepBy_14 : decode bb_Wi_sweepBy 14 = .ok (.iaload, 1) := by decide +kernel
theorem dd_Wi_sweepBy_15 : decode bb_Wi_sweepBy 15 = .ok (.invokestatic 65, 3) := by decide +kernel
theorem dd_Wi_sweepBy_18 : decode bb_Wi_sweepBy 18 = .ok (.istore_n 3, 1) := by decide +kernel
theorem dd_Wi_sweepBy_19 : decode bb_Wi_sweepBy 19 = .ok (.aload_n 0, 1) := by decide +kernel
theorem dd_Wi_sweepBy_20 : decode bb_Wi_sweepBy 20 = .ok (.getfield 12, 3) := by decide +kernel
theorem dd_Wi_sweepBy_23 : decode bb_Wi_sweepBy 23 = .ok (.getfield 62, 3) := by decide +kernel
theorem dd_Wi_sweepBy_26 : decode bb_Wi_sweepBy 26 = .ok (.iload_n 2, 1) := by decide +kernel
theorem dd_Wi_sweepBy_27 : decode bb_Wi_sweepBy 27 = .ok (.dup2, 1) := by decide +kernel
theorem dd_Wi_sweepBy_28 : decode bb_Wi_sweepBy 28 = .ok (.iaload, 1) := by decide +kernel
theorem dd_Wi_sweepBy_29 : decode bb_Wi_sweepBy 29 = .ok (.iload_n 3, 1) := by decide +kernel
theorem dd_Wi_sweepBy_30 : decode bb_Wi_sweepBy 30 = .ok (.isub, 1) := by decide +kernel
theorem dd_Wi_sweepBy_31 : decode bb_Wi_sweepBy 31 = .ok (.iastore, 1) := by decide +kernel
theorem dd_Wi_sweepBy_32 : decode bb_Wi_sweepBy 32 = .ok (.aload_n 0, 1) := by decide +kernel
theorem dd_Wi_sweepBy_33 : decode bb_Wi_sweepBy 33 = .ok (.getfield 12, 3) := by decide +kernel
theorem dd_Wi_sweepBy_36 : decode bb_Wi_sweepBy 36 = .ok (.dup, 1) := by decide +kernel
theorem dd_Wi_sweepBy_37 : decode bb_Wi_sweepBy 37 = .ok (.getfield 71, 3) := by decide +kernel
theorem dd_Wi_sweepBy_40 : decode bb_Wi_sweepBy 40 = .ok (.iconst 1, 1) := by decide +kernel
theorem dd_Wi_sweepBy_41 : decode bb_Wi_sweepBy 41 = .ok (.iload_n 2, 1) := by decide +kernel
theorem dd_Wi_sweepBy_42 : decode bb_Wi_sweepBy 42 = .ok (.ishl, 1) := by decide +kernel
theorem dd_Wi_sweepBy_43 : decode bb_Wi_sweepBy 43 = .ok (.ior, 1) := by decide +kernel
theorem dd_Wi_sweepBy_44 : decode bb_Wi_sweepBy 44 = .ok (.putfield 71, 3) := by decide +kernel
theorem dd_Wi_sweepBy_47 : decode bb_Wi_sweepBy 47 = .ok (.aload_n 0, 1) := by decide +kernel
theorem dd_Wi_sweepBy_48 : decode bb_Wi_sweepBy 48 = .ok (.getfield 12, 3) := by decide +kernel
theorem dd_Wi_sweepBy_51 : decode bb_Wi_sweepBy 51 = .ok (.dup, 1) := by decide +kernel
theorem dd_Wi_sweepBy_52 : decode bb_Wi_sweepBy 52 = .ok (.getfield 75, 3) := by decide +kernel
theorem dd_Wi_sweepBy_55 : decode bb_Wi_sweepBy 55 = .ok (.iconst 1, 1) := by decide +kernel
theorem dd_Wi_sweepBy_56 : decode bb_Wi_sweepBy 56 = .ok (.iload_n 1, 1) := by decide +kernel
theorem dd_Wi_sweepBy_57 : decode bb_Wi_sweepBy 57 = .ok (.ishl, 1) := by decide +kernel
theorem dd_Wi_sweepBy_58 : decode bb_Wi_sweepBy 58 = .ok (.ior, 1) := by decide +kernel
theorem dd_Wi_sweepBy_59 : decode bb_Wi_sweepBy 59 = .ok (.putfield 75, 3) := by decide +kernel
theorem dd_Wi_sweepBy_62 : decode bb_Wi_sweepBy 62 = .ok (.aload_n 0, 1) := by decide +kernel
theorem dd_Wi_sweepBy_63 : decode bb_Wi_sweepBy 63 = .ok (.getfield 12, 3) := by decide +kernel
theorem dd_Wi_sweepBy_66 : decode bb_Wi_sweepBy 66 = .ok (.getfield 78, 3) := by decide +kernel
theorem dd_Wi_sweepBy_69 : decode bb_Wi_sweepBy 69 = .ok (.iload_n 2, 1) := by decide +kernel
theorem dd_Wi_sweepBy_70 : decode bb_Wi_sweepBy 70 = .ok (.iaload, 1) := by decide +kernel
theorem dd_Wi_sweepBy_71 : decode bb_Wi_sweepBy 71 = .ok (.istore 4, 2) := by decide +kernel
theorem dd_Wi_sweepBy_73 : decode bb_Wi_sweepBy 73 = .ok (.iload 4, 2) := by decide +kernel
theorem dd_Wi_sweepBy_75 : decode bb_Wi_sweepBy 75 = .ok (.ifCond .lt 31, 3) := by decide +kernel
theorem dd_Wi_sweepBy_78 : decode bb_Wi_sweepBy 78 = .ok (.iload 4, 2) := by decide +kernel
theorem dd_Wi_sweepBy_80 : decode bb_Wi_sweepBy 80 = .ok (.bipush 8, 2) := by decide +kernel
theorem dd_Wi_sweepBy_82 : decode bb_Wi_sweepBy 82 = .ok (.if_icmp .ge 24, 3) := by decide +kernel
theorem dd_Wi_sweepBy_85 : decode bb_Wi_sweepBy 85 = .ok (.aload_n 0, 1) := by decide +kernel
theorem dd_Wi_sweepBy_86 : decode bb_Wi_sweepBy 86 = .ok (.getfield 22, 3) := by decide +kernel
theorem dd_Wi_sweepBy_89 : decode bb_Wi_sweepBy 89 = .ok (.iload 4, 2) := by decide +kernel
theorem dd_Wi_sweepBy_91 : decode bb_Wi_sweepBy 91 = .ok (.dup2, 1) := by decide +kernel
theorem dd_Wi_sweepBy_92 : decode bb_Wi_sweepBy 92 = .ok (.iaload, 1) := by decide +kernel
theorem dd_Wi_sweepBy_93 : decode bb_Wi_sweepBy 93 = .ok (.iload_n 3, 1) := by decide +kernel
theorem dd_Wi_sweepBy_94 : decode bb_Wi_sweepBy 94 = .ok (.iadd, 1) := by decide +kernel
theorem dd_Wi_sweepBy_95 : decode bb_Wi_sweepBy 95 = .ok (.iastore, 1) := by decide +kernel
theorem dd_Wi_sweepBy_96 : decode bb_Wi_sweepBy 96 = .ok (.aload_n 0, 1) := by decide +kernel
theorem dd_Wi_sweepBy_97 : decode bb_Wi_sweepBy 97 = .ok (.getfield 12, 3) := by decide +kernel
theorem dd_Wi_sweepBy_100 : decode bb_Wi_sweepBy 100 = .ok (.iload 4, 2) := by decide +kernel
theorem dd_Wi_sweepBy_102 : decode bb_Wi_sweepBy 102 = .ok (.iload_n 3, 1) := by decide +kernel
theorem dd_Wi_sweepBy_103 : decode bb_Wi_sweepBy 103 = .ok (.invokevirtual 81, 3) := by decide +kernel
theorem dd_Wi_sweepBy_106 : decode bb_Wi_sweepBy 106 = .ok (.iload_n 3, 1) := by decide +kernel
theorem dd_Wi_sweepBy_107 : decode bb_Wi_sweepBy 107 = .ok (.ireturn, 1) := by decide +kernel
def mm_Wi_sweepBy_j106 (N : Nat) (this : Option Nat) (a1 : Int32) (a2 : Int32) (x3_106 : Int32) (h_106 : ss_Hp) : Option (Int32 × ss_Hp) :=
  some (x3_106, h_106)
def mm_Wi_sweepBy (N : Nat) (this : Option Nat) (a1 : Int32) (a2 : Int32) (h : ss_Hp) : Option (Int32 × ss_Hp) :=
  if ss_is h this 7 = true then
    (ss_gr h this 7 1).bind fun r1 =>
    (ss_ai h r1 20 a1).bind fun v2 =>
    (ss_gr h this 7 0).bind fun r3 =>
    (ss_gr h r3 0 0).bind fun r4 =>
    (ss_ai h r4 20 a2).bind fun v5 =>
    (some (if v5 < v2 then v5 else v2)).bind fun v6 =>
    (ss_gr h this 7 0).bind fun r7 =>
    (ss_gr h r7 0 0).bind fun r8 =>
    (ss_ai h r8 20 a2).bind fun v9 =>
    (ss_ui h r8 20 a2 (v9 - v6)).bind fun h10 =>
    (ss_gr h10 this 7 0).bind fun r11 =>
    (ss_gi h10 r11 0 0).bind fun v12 =>
    (ss_pi h10 r11 0 0 (v12 ||| ((1 : Int32) <<< (a2 &&& 31)))).bind fun h13 =>
    (ss_gr h13 this 7 0).bind fun r14 =>
    (ss_gi h13 r14 0 2).bind fun v15 =>
    (ss_pi h13 r14 0 2 (v15 ||| ((1 : Int32) <<< (a1 &&& 31)))).bind fun h16 =>
    (ss_gr h16 this 7 0).bind fun r17 =>
    (ss_gr h16 r17 0 1).bind fun r18 =>
    (ss_ai h16 r18 20 a2).bind fun v19 =>
    if v19 < 0 then
      mm_Wi_sweepBy_j106 N this a1 a2 v6 h16
    else
      if (8 : Int32) ≤ v19 then
        mm_Wi_sweepBy_j106 N this a1 a2 v6 h16
      else
        (ss_gr h16 this 7 2).bind fun r22 =>
        (ss_ai h16 r22 20 v19).bind fun v23 =>
        (ss_ui h16 r22 20 v19 (v23 + v6)).bind fun h24 =>
        (ss_gr h24 this 7 0).bind fun r25 =>
        (mm_G_lay N r25 v19 v6 h24).bind fun h26 =>
        mm_Wi_sweepBy_j106 N this a1 a2 v6 h26
  else none
abbrev ww_Wi_sweepBy (p : Program) (l : Launch) (e : Env) (s : State) (m : MethodId) (below : List Frame) (meth : Method) (c : Code) (G : ss_G) (this : Option Nat) (a1 : Int32) (a2 : Int32) (h : ss_Hp) (rr : Int32) (hh : ss_Hp) (H : Heap) (locs : List Loc) (k n : Nat) (g : JFrame) : Prop := W p l e (headSpec (ss_w yy_Wi_sweepBy bb_Wi_sweepBy 5 (some (.int))) ({ frames := 2, cells := 0, slots := 0, locals := 102 })).room s m ([ss_v (ss_b G) this, .int a1, .int a2] : List Value).toArray below meth c H locs k n (MQ below (ss_Qc G (some (.int rr)) hh) ([ss_v (ss_b G) this, .int a1, .int a2] : List Value).toArray s 0 0 (ss_A G)) g
theorem ck_Wi_sweepBy {N : Nat} {this : Option Nat} {a1 : Int32} {a2 : Int32} {h : ss_Hp} {res : Int32 × ss_Hp} (hm : mm_Wi_sweepBy N this a1 a2 h = some res) : ss_is h this 7 = true := (ss_chk hm).1
set_option maxHeartbeats 4000000 in
set_option maxRecDepth 100000 in
theorem cc_Wi_sweepBy (l : Launch) (G : ss_G) (N : Nat) (this : Option Nat) (a1 : Int32) (a2 : Int32) (h : ss_Hp) (rr : Int32) (hh : ss_Hp) (hm : mm_Wi_sweepBy N this a1 a2 h = some (rr, hh)) : ss_Ct l G yy_Wi_sweepBy bb_Wi_sweepBy 5 (some (.int)) ({ frames := 2, cells := 0, slots := 0, locals := 102 }) [ss_v (ss_b G) this, .int a1, .int a2] h (some (.int rr)) hh := by
  obtain ⟨hck, hm⟩ := ss_chk hm
  refine Met.ofW (cc := bb_Wi_sweepBy) (maxL := 5) (ret := (some (.int))) (by decide) rfl ?_
  intro p e s m args below meth c s₁ B hml hv
  obtain ⟨rfl, hR, hK⟩ := hv
  have hC : CallFix p m c bb_Wi_sweepBy 5 s _ lw_g sR_7 := ⟨B.exec, B.bytes, hml, findClass_of_methodNamed B.named, fun w hw => atoms_spec (ws := ss_w yy_Wi_sweepBy bb_Wi_sweepBy 5 (some (.int))) B.pre w (List.mem_cons_of_mem _ hw)⟩
  have hx := hC.1
  have hb := hC.2.1
  have hr := B.returns
  have hlocks := B.notSynchronized
  have hS : va_S (ss_A G) s.heap s.heap [] := va_S.rf
  have hl := lv_entry ([ss_v (ss_b G) this, .int a1, .int a2]) (n := 5) (by simp [lg_sl, ss_v_cat, ss_cat_i, ss_cat_l, ss_cat_r])
  rw [lg_entry_eq]
  generalize (lg_sl ([ss_v (ss_b G) this, .int a1, .int a2]) ++ List.replicate (5 - (lg_sl ([ss_v (ss_b G) this, .int a1, .int a2])).length) Slot.unset).toArray = ls at hl ⊢
  have hl : lv_has ls 5 [(0, ss_v (ss_b G) this), (1, .int a1), (2, .int a2)] := by simpa [lv_args, ss_v_cat, ss_cat_i, ss_cat_l, ss_cat_r] using hl
  have J_106 : ∀ (x3_106 : Int32) (h_106 : ss_Hp) (H : Heap) (locs : List Loc) (ls : Array Slot), mm_Wi_sweepBy_j106 N this a1 a2 x3_106 h_106 = some (rr, hh) → ss_R G h_106 H → va_S (ss_A G) s.heap H locs → lv_has ls 5 [(3, .int x3_106)] → ww_Wi_sweepBy p l e s m below meth c G this a1 a2 h rr hh  H locs 0 0 (F0 m 106 ls []) := by
    intro x3_106 h_106 H locs ls hm hR hS hl
    refine lv_iload_n hx hb dd_Wi_sweepBy_106 rfl (lv_at hl 0 rfl) ?_
    exact ss_iret hC hr hlocks hR hS hm dd_Wi_sweepBy_107
  refine ss_aload_n hx hb dd_Wi_sweepBy_0 rfl (lv_at hl 0 rfl) ?_
  obtain ⟨r1, qr1, hm⟩ := ss_bind hm
  refine ss_getr hC hK hR kf_Wi_18 rfl qr1 dd_Wi_sweepBy_1 ?_
  refine lv_iload_n hx hb dd_Wi_sweepBy_4 rfl (lv_at hl 1 rfl) ?_
  obtain ⟨v2, qv2, hm⟩ := ss_bind hm
  refine ss_iald hC hK hR qv2 dd_Wi_sweepBy_5 ?_
  refine ss_aload_n hx hb dd_Wi_sweepBy_6 rfl (lv_at hl 0 rfl) ?_
  obtain ⟨r3, qr3, hm⟩ := ss_bind hm
  refine ss_getr hC hK hR kf_Wi_12 rfl qr3 dd_Wi_sweepBy_7 ?_
  obtain ⟨r4, qr4, hm⟩ := ss_bind hm
  refine ss_getr hC hK hR kf_Wi_62 rfl qr4 dd_Wi_sweepBy_10 ?_
  refine lv_iload_n hx hb dd_Wi_sweepBy_13 rfl (lv_at hl 2 rfl) ?_
  obtain ⟨v5, qv5, hm⟩ := ss_bind hm
  refine ss_iald hC hK hR qv5 dd_Wi_sweepBy_14 ?_
  refine ss_min hC hl.1 kj_Wi_65 kj_min_s kj_math kj_min_c (Nat.le_of_ble_eq_true rfl) (Nat.le_of_ble_eq_true rfl) (Nat.le_of_ble_eq_true rfl) ⟨Nat.le_of_ble_eq_true rfl, Nat.le_of_ble_eq_true rfl⟩ dd_Wi_sweepBy_15 ?_
  obtain ⟨v6, qv6, hm⟩ := ss_bind hm
  refine ss_topi qv6 ?_
  refine lv_istore_n (lv' := [(3, .int v6), (0, ss_v (ss_b G) this), (1, .int a1), (2, .int a2)]) hx hb dd_Wi_sweepBy_18 rfl hl (by decide) rfl (fun ls hl => ?_)
  refine ss_aload_n hx hb dd_Wi_sweepBy_19 rfl (lv_at hl 1 rfl) ?_
  obtain ⟨r7, qr7, hm⟩ := ss_bind hm
  refine ss_getr hC hK hR kf_Wi_12 rfl qr7 dd_Wi_sweepBy_20 ?_
  obtain ⟨r8, qr8, hm⟩ := ss_bind hm
  refine ss_getr hC hK hR kf_Wi_62 rfl qr8 dd_Wi_sweepBy_23 ?_
  refine lv_iload_n hx hb dd_Wi_sweepBy_26 rfl (lv_at hl 3 rfl) ?_
  refine ss_dup2ir hx hb dd_Wi_sweepBy_27 ?_
  obtain ⟨v9, qv9, hm⟩ := ss_bind hm
  refine ss_iald hC hK hR qv9 dd_Wi_sweepBy_28 ?_
  refine lv_iload_n hx hb dd_Wi_sweepBy_29 rfl (lv_at hl 0 rfl) ?_
  refine lv_isub hx hb dd_Wi_sweepBy_30 ?_
  obtain ⟨h10, qh10, hm⟩ := ss_bind hm
  refine ss_iast hC hK hR hS qh10 dd_Wi_sweepBy_31 (fun H locs hR hS => ?_)
  refine ss_aload_n hx hb dd_Wi_sweepBy_32 rfl (lv_at hl 1 rfl) ?_
  obtain ⟨r11, qr11, hm⟩ := ss_bind hm
  refine ss_getr hC hK hR kf_Wi_12 rfl qr11 dd_Wi_sweepBy_33 ?_
  refine ss_dupr hx hb dd_Wi_sweepBy_36 ?_
  obtain ⟨v12, qv12, hm⟩ := ss_bind hm
  refine ss_geti hC hK hR kf_Wi_71 qv12 dd_Wi_sweepBy_37 ?_
  refine lv_iconst (v := 1) hx hb dd_Wi_sweepBy_40 (by decide) ?_
  refine lv_iload_n hx hb dd_Wi_sweepBy_41 rfl (lv_at hl 3 rfl) ?_
  refine lv_ishl hx hb dd_Wi_sweepBy_42 ?_
  refine lv_ior hx hb dd_Wi_sweepBy_43 ?_
  obtain ⟨h13, qh13, hm⟩ := ss_bind hm
  refine ss_puti hC hK hR hS kp_Wi_71 qh13 dd_Wi_sweepBy_44 (fun H locs hR hS => ?_)
  refine ss_aload_n hx hb dd_Wi_sweepBy_47 rfl (lv_at hl 1 rfl) ?_
  obtain ⟨r14, qr14, hm⟩ := ss_bind hm
  refine ss_getr hC hK hR kf_Wi_12 rfl qr14 dd_Wi_sweepBy_48 ?_
  refine ss_dupr hx hb dd_Wi_sweepBy_51 ?_
  obtain ⟨v15, qv15, hm⟩ := ss_bind hm
  refine ss_geti hC hK hR kf_Wi_75 qv15 dd_Wi_sweepBy_52 ?_
  refine lv_iconst (v := 1) hx hb dd_Wi_sweepBy_55 (by decide) ?_
  refine lv_iload_n hx hb dd_Wi_sweepBy_56 rfl (lv_at hl 2 rfl) ?_
  refine lv_ishl hx hb dd_Wi_sweepBy_57 ?_
  refine lv_ior hx hb dd_Wi_sweepBy_58 ?_
  obtain ⟨h16, qh16, hm⟩ := ss_bind hm
  refine ss_puti hC hK hR hS kp_Wi_75 qh16 dd_Wi_sweepBy_59 (fun H locs hR hS => ?_)
  refine ss_aload_n hx hb dd_Wi_sweepBy_62 rfl (lv_at hl 1 rfl) ?_
  obtain ⟨r17, qr17, hm⟩ := ss_bind hm
  refine ss_getr hC hK hR kf_Wi_12 rfl qr17 dd_Wi_sweepBy_63 ?_
  obtain ⟨r18, qr18, hm⟩ := ss_bind hm
  refine ss_getr hC hK hR kf_Wi_78 rfl qr18 dd_Wi_sweepBy_66 ?_
  refine lv_iload_n hx hb dd_Wi_sweepBy_69 rfl (lv_at hl 3 rfl) ?_
  obtain ⟨v19, qv19, hm⟩ := ss_bind hm
  refine ss_iald hC hK hR qv19 dd_Wi_sweepBy_70 ?_
  refine lv_istore (lv' := [(4, .int v19), (3, .int v6), (0, ss_v (ss_b G) this), (1, .int a1), (2, .int a2)]) hx hb dd_Wi_sweepBy_71 hl (by decide) rfl (fun ls hl => ?_)
  refine lv_iload hx hb dd_Wi_sweepBy_73 (lv_at hl 0 rfl) ?_
  refine lv_if_lt (tgt := 106) hx hb dd_Wi_sweepBy_75 (by decide) (fun c20 => ?_) (fun c20 => ?_)
  · have hm := ss_ift hm c20
    exact J_106 v6 h16 _ _ _ hm hR hS (lv_sub hl [1] rfl)
  · have hm := ss_iff hm c20
    refine lv_iload hx hb dd_Wi_sweepBy_78 (lv_at hl 0 rfl) ?_
    refine lv_bipush (v := 8) hx hb dd_Wi_sweepBy_80 (by decide) ?_
    refine lv_icmp_ge (tgt := 106) hx hb dd_Wi_sweepBy_82 (by decide) (fun c21 => ?_) (fun c21 => ?_)
    · have hm := ss_ift hm c21
      exact J_106 v6 h16 _ _ _ hm hR hS (lv_sub hl [1] rfl)
    · have hm := ss_iff hm c21
      refine ss_aload_n hx hb dd_Wi_sweepBy_85 rfl (lv_at hl 2 rfl) ?_
      obtain ⟨r22, qr22, hm⟩ := ss_bind hm
      refine ss_getr hC hK hR kf_Wi_22 rfl qr22 dd_Wi_sweepBy_86 ?_
      refine lv_iload hx hb dd_Wi_sweepBy_89 (lv_at hl 0 rfl) ?_
      refine ss_dup2ir hx hb dd_Wi_sweepBy_91 ?_
      obtain ⟨v23, qv23, hm⟩ := ss_bind hm
      refine ss_iald hC hK hR qv23 dd_Wi_sweepBy_92 ?_
      refine lv_iload_n hx hb dd_Wi_sweepBy_93 rfl (lv_at hl 1 rfl) ?_
      refine lv_iadd hx hb dd_Wi_sweepBy_94 ?_
      obtain ⟨h24, qh24, hm⟩ := ss_bind hm
      refine ss_iast hC hK hR hS qh24 dd_Wi_sweepBy_95 (fun H locs hR hS => ?_)
      refine ss_aload_n hx hb dd_Wi_sweepBy_96 rfl (lv_at hl 2 rfl) ?_
      obtain ⟨r25, qr25, hm⟩ := ss_bind hm
      refine ss_getr hC hK hR kf_Wi_12 rfl qr25 dd_Wi_sweepBy_97 ?_
      refine lv_iload hx hb dd_Wi_sweepBy_100 (lv_at hl 0 rfl) ?_
      refine lv_iload_n hx hb dd_Wi_sweepBy_102 rfl (lv_at hl 1 rfl) ?_
      obtain ⟨h26, qh26, hm⟩ := ss_bind hm
      refine ss_cVv 0 0 (As := [.int v19, .int v6]) hC hK hR hS hl.1 (cc_G_lay l G N _ _ _ _ _ qh26) km_Wi_81 (ck_G_lay qh26) ⟨Nat.le_of_ble_eq_true rfl, Nat.le_of_ble_eq_true rfl⟩ ⟨Nat.le_of_ble_eq_true rfl, Nat.le_of_ble_eq_true rfl, Nat.le_of_ble_eq_true rfl, Nat.le_of_ble_eq_true rfl⟩ rfl rfl (Nat.le_of_ble_eq_true rfl) dd_Wi_sweepBy_103 (fun H locs hR hS => ?_)
      exact J_106 v6 h26 _ _ _ hm hR hS (lv_sub hl [1] rfl)
theorem dd_Wi_passNight_0 : decode bb_Wi_passNight 0 = .ok (.aload_n 0, 1) := by decide +kernel
theorem dd_Wi_passNight_1 : decode bb_Wi_passNight 1 = .ok (.getfield 12, 3) := by decide +kernel
theorem dd_Wi_passNight_4 : decode bb_Wi_passNight 4 = .ok (.getfield 71, 3) := by decide +kernel
theorem dd_Wi_passNight_7 : decode bb_Wi_passNight 7 = .ok (.istore_n 1, 1) := by decide +kernel
theorem dd_Wi_passNight_8 : decode bb_Wi_passNight 8 = .ok (.iconst 0, 1) := by decide +kernel
theorem dd_Wi_passNight_9 : decode bb_Wi_passNight 9 = .ok (.istore_n 2, 1) := by decide +kernel
theorem dd_Wi_passNight_10 : decode bb_Wi_passNight 10 = .ok (.iload_n 2, 1) := by decide +kernel
theorem dd_Wi_passNight_11 : decode bb_Wi_passNight 11 = .ok (.aload_n 0, 1) := by decide +kernel
theorem dd_Wi_passNight_12 : decode bb_Wi_passNight 12 = .ok (.getfield 37, 3) := by decide +kernel
theorem dd_Wi_passNight_15 : decode bb_Wi_passNight 15 = .ok (.getfield 99, 3) := by decide +kernel
theorem dd_Wi_passNight_18 : decode bb_Wi_passNight 18 = .ok (.if_icmp .ge 49, 3) := by decide +kernel
theorem dd_Wi_passNight_21 : decode bb_Wi_passNight 21 = .ok (.iload_n 1, 1) := by decide +kernel
theorem dd_Wi_passNight_22 : decode bb_Wi_passNight 22 = .ok (.iload_n 2, 1) := by decide +kernel
theorem dd_Wi_passNight_23 : decode bb_Wi_passNight 23 = .ok (.ishr, 1) := by decide +kernel
theorem dd_Wi_passNight_24 : decode bb_Wi_passNight 24 = .ok (.iconst 1, 1) := by decide +kernel
theorem dd_Wi_passNight_25 : decode bb_Wi_passNight 25 = .ok (.iand, 1) := by decide +kernel
theorem dd_Wi_passNight_26 : decode bb_Wi_passNight 26 = .ok (.iconst 1, 1) := by decide +kernel
theorem dd_Wi_passNight_27 : decode bb_Wi_passNight 27 = .ok (.if_icmp .ne 34, 3) := by decide +kernel
theorem dd_Wi_passNight_30 : decode bb_Wi_passNight 30 = .ok (.aload_n 0, 1) := by decide +kernel
theorem dd_Wi_passNight_31 : decode bb_Wi_passNight 31 = .ok (.getfield 25, 3) := by decide +kernel
theorem dd_Wi_passNight_34 : decode bb_Wi_passNight 34 = .ok (.iload_n 2, 1) := by decide +kernel
theorem dd_Wi_passNight_35 : decode bb_Wi_passNight 35 = .ok (.dup2, 1) := by decide +kernel
theorem dd_Wi_passNight_36 : decode bb_Wi_passNight 36 = .ok (.iaload, 1) := by decide +kernel
theorem dd_Wi_passNight_37 : decode bb_Wi_passNight 37 = .ok (.aload_n 0, 1) := by decide +kernel
theorem dd_Wi_passNight_38 : decode bb_Wi_passNight 38 = .ok (.getfield 37, 3) := by decide +kernel
theorem dd_Wi_passNight_41 : decode bb_Wi_passNight 41 = .ok (.getfield 102, 3) := by decide +kernel
theorem dd_Wi_passNight_44 : decode bb_Wi_passNight 44 = .ok (.iadd, 1) := by decide +kernel
theorem dd_Wi_passNight_45 : decode bb_Wi_passNight 45 = .ok (.iastore, 1) := by decide +kernel
theorem dd_Wi_passNight_46 : decode bb_Wi_passNight 46 = .ok (.aload_n 0, 1) := by decide +kernel
theorem dd_Wi_passNight_47 : decode bb_Wi_passNight 47 = .ok (.getfield 12, 3) := by decide +kernel
theorem dd_Wi_passNight_50 : decode bb_Wi_passNight 50 = .ok (.iload_n 2, 1) := by decide +kernel
theorem dd_Wi_passNight_51 : decode bb_Wi_passNight 51 = .ok (.aload_n 0, 1) := by decide +kernel
theorem dd_Wi_passNight_52 : decode bb_Wi_passNight 52 = .ok (.getfield 37, 3) := by decide +kernel
theorem dd_Wi_passNight_55 : decode bb_Wi_passNight 55 = .ok (.getfield 102, 3) := by decide +kernel
theorem dd_Wi_passNight_58 : decode bb_Wi_passNight 58 = .ok (.invokevirtual 81, 3) := by decide +kernel
theorem dd_Wi_passNight_61 : decode bb_Wi_passNight 61 = .ok (.iinc 2 1, 3) := by decide +kernel
theorem dd_Wi_passNight_64 : decode bb_Wi_passNight 64 = .ok (.goto (-54), 3) := by decide +kernel
theorem dd_Wi_passNight_67 : decode bb_Wi_passNight 67 = .ok (.aload_n 0, 1) := by decide +kernel
theorem dd_Wi_passNight_68 : decode bb_Wi_passNight 68 = .ok (.getfield 12, 3) := by decide +kernel
theorem dd_Wi_passNight_71 : decode bb_Wi_passNight 71 = .ok (.iload_n 1, 1) := by decide +kernel
theorem dd_Wi_passNight_72 : decode bb_Wi_passNight 72 = .ok (.putfield 105, 3) := by decide +kernel
theorem dd_Wi_passNight_75 : decode bb_Wi_passNight 75 = .ok (.aload_n 0, 1) := by decide +kernel
theorem dd_Wi_passNight_76 : decode bb_Wi_passNight 76 = .ok (.getfield 12, 3) := by decide +kernel
theorem dd_Wi_passNight_79 : decode bb_Wi_passNight 79 = .ok (.iconst 0, 1) := by decide +kernel
theorem dd_Wi_passNight_80 : decode bb_Wi_passNight 80 = .ok (.putfield 71, 3) := by decide +kernel
theorem dd_Wi_passNight_83 : decode bb_Wi_passNight 83 = .ok (.aload_n 0, 1) := by decide +kernel
theorem dd_Wi_passNight_84 : decode bb_Wi_passNight 84 = .ok (.getfield 12, 3) := by decide +kernel
theorem dd_Wi_passNight_87 : decode bb_Wi_passNight 87 = .ok (.iconst 0, 1) := by decide +kernel
theorem dd_Wi_passNight_88 : decode bb_Wi_passNight 88 = .ok (.putfield 75, 3) := by decide +kernel
theorem dd_Wi_passNight_91 : decode bb_Wi_passNight 91 = .ok (.aload_n 0, 1) := by decide +kernel
theorem dd_Wi_passNight_92 : decode bb_Wi_passNight 92 = .ok (.getfield 12, 3) := by decide +kernel
theorem dd_Wi_passNight_95 : decode bb_Wi_passNight 95 = .ok (.dup, 1) := by decide +kernel
theorem dd_Wi_passNight_96 : decode bb_Wi_passNight 96 = .ok (.getfield 108, 3) := by decide +kernel
theorem dd_Wi_passNight_99 : decode bb_Wi_passNight 99 = .ok (.iconst 1, 1) := by decide +kernel
theorem dd_Wi_passNight_100 : decode bb_Wi_passNight 100 = .ok (.iadd, 1) := by decide +kernel
theorem dd_Wi_passNight_101 : decode bb_Wi_passNight 101 = .ok (.putfield 108, 3) := by decide +kernel
theorem dd_Wi_passNight_104 : decode bb_Wi_passNight 104 = .ok (.iload_n 1, 1) := by decide +kernel
theorem dd_Wi_passNight_105 : decode bb_Wi_passNight 105 = .ok (.ireturn, 1) := by decide +kernel
def mm_Wi_passNight_j61 (N : Nat) (this : Option Nat) (v2 : Int32) (x2_61 : Int32) (h_61 : ss_Hp) : Option ((Int32 × ss_Hp) ⊕ ss_Hp) :=
  (some (x2_61 + (1 : Int32))).bind fun v12 =>
  some (.inl (v12, h_61))
def mm_Wi_passNight_b10 (N : Nat) (this : Option Nat) (v2 : Int32) (st : Int32 × ss_Hp) : Option ((Int32 × ss_Hp) ⊕ ss_Hp) :=
  match st with
  | (x2_10, h_10) =>
    (ss_gr h_10 this 7 6).bind fun r13 =>
    (ss_gi h_10 r13 5 3).bind fun v14 =>
    if v14 ≤ x2_10 then
      some (.inr h_10)
    else
      if ((v2 >>> (x2_10 &&& 31)) &&& (1 : Int32)) = (1 : Int32) then
        (ss_gr h_10 this 7 3).bind fun r17 =>
        (ss_ai h_10 r17 20 x2_10).bind fun v18 =>
        (ss_gr h_10 this 7 6).bind fun r19 =>
        (ss_gi h_10 r19 5 1).bind fun v20 =>
        (ss_ui h_10 r17 20 x2_10 (v18 + v20)).bind fun h21 =>
        (ss_gr h21 this 7 0).bind fun r22 =>
        (ss_gr h21 this 7 6).bind fun r23 =>
        (ss_gi h21 r23 5 1).bind fun v24 =>
        (mm_G_lay N r22 x2_10 v24 h21).bind fun h25 =>
        mm_Wi_passNight_j61 N this v2 x2_10 h25
      else
        mm_Wi_passNight_j61 N this v2 x2_10 h_10
def mm_Wi_passNight (N : Nat) (this : Option Nat) (h : ss_Hp) : Option (Int32 × ss_Hp) :=
  if ss_is h this 7 = true then
    (ss_gr h this 7 0).bind fun r1 =>
    (ss_gi h r1 0 0).bind fun v2 =>
    (ss_lp (mm_Wi_passNight_b10 N this v2) N ((0 : Int32), h)).bind fun h_10_67 =>
    (ss_gr h_10_67 this 7 0).bind fun r3 =>
    (ss_pi h_10_67 r3 0 1 v2).bind fun h4 =>
    (ss_gr h4 this 7 0).bind fun r5 =>
    (ss_pi h4 r5 0 0 (0 : Int32)).bind fun h6 =>
    (ss_gr h6 this 7 0).bind fun r7 =>
    (ss_pi h6 r7 0 2 (0 : Int32)).bind fun h8 =>
    (ss_gr h8 this 7 0).bind fun r9 =>
    (ss_gi h8 r9 0 3).bind fun v10 =>
    (ss_pi h8 r9 0 3 (v10 + (1 : Int32))).bind fun h11 =>
    some (v2, h11)
  else none
abbrev ww_Wi_passNight (p : Program) (l : Launch) (e : Env) (s : State) (m : MethodId) (below : List Frame) (meth : Method) (c : Code) (G : ss_G) (this : Option Nat) (h : ss_Hp) (rr : Int32) (hh : ss_Hp) (H : Heap) (locs : List Loc) (k n : Nat) (g : JFrame) : Prop := W p l e (headSpec (ss_w yy_Wi_passNight bb_Wi_passNight 3 (some (.int))) ({ frames := 2, cells := 0, slots := 0, locals := 102 })).room s m ([ss_v (ss_b G) this] : List Value).toArray below meth c H locs k n (MQ below (ss_Qc G (some (.int rr)) hh) ([ss_v (ss_b G) this] : List Value).toArray s 0 0 (ss_A G)) g
theorem ck_Wi_passNight {N : Nat} {this : Option Nat} {h : ss_Hp} {res : Int32 × ss_Hp} (hm : mm_Wi_passNight N this h = some res) : ss_is h this 7 = true := (ss_chk hm).1
set_option maxHeartbeats 4000000 in
set_option maxRecDepth 100000 in
theorem cc_Wi_passNight (l : Launch) (G : ss_G) (N : Nat) (this : Option Nat) (h : ss_Hp) (rr : Int32) (hh : ss_Hp) (hm : mm_Wi_passNight N this h = some (rr, hh)) : ss_Ct l G yy_Wi_passNight bb_Wi_passNight 3 (some (.int)) ({ frames := 2, cells := 0, slots := 0, locals := 102 }) [ss_v (ss_b G) this] h (some (.int rr)) hh := by
  obtain ⟨hck, hm⟩ := ss_chk hm
  refine Met.ofW (cc := bb_Wi_passNight) (maxL := 3) (ret := (some (.int))) (by decide) rfl ?_
  intro p e s m args below meth c s₁ B hml hv
  obtain ⟨rfl, hR, hK⟩ := hv
  have hC : CallFix p m c bb_Wi_passNight 3 s _ lw_g sR_7 := ⟨B.exec, B.bytes, hml, findClass_of_methodNamed B.named, fun w hw => atoms_spec (ws := ss_w yy_Wi_passNight bb_Wi_passNight 3 (some (.int))) B.pre w (List.mem_cons_of_mem _ hw)⟩
  have hx := hC.1
  have hb := hC.2.1
  have hr := B.returns
  have hlocks := B.notSynchronized
  have hS : va_S (ss_A G) s.heap s.heap [] := va_S.rf
  have hl := lv_entry ([ss_v (ss_b G) this]) (n := 3) (by simp [lg_sl, ss_v_cat, ss_cat_i, ss_cat_l, ss_cat_r])
  rw [lg_entry_eq]
  generalize (lg_sl ([ss_v (ss_b G) this]) ++ List.replicate (3 - (lg_sl ([ss_v (ss_b G) this])).length) Slot.unset).toArray = ls at hl ⊢
  have hl : lv_has ls 3 [(0, ss_v (ss_b G) this)] := by simpa [lv_args, ss_v_cat, ss_cat_i, ss_cat_l, ss_cat_r] using hl
  refine ss_aload_n hx hb dd_Wi_passNight_0 rfl (lv_at hl 0 rfl) ?_
  obtain ⟨r1, qr1, hm⟩ := ss_bind hm
  refine ss_getr hC hK hR kf_Wi_12 rfl qr1 dd_Wi_passNight_1 ?_
  obtain ⟨v2, qv2, hm⟩ := ss_bind hm
  refine ss_geti hC hK hR kf_Wi_71 qv2 dd_Wi_passNight_4 ?_
  refine lv_istore_n (lv' := [(1, .int v2), (0, ss_v (ss_b G) this)]) hx hb dd_Wi_passNight_7 rfl hl (by decide) (by simp only [List.filter_cons, ss_v_cat]; rfl) (fun ls hl => ?_)
  refine lv_iconst (v := 0) hx hb dd_Wi_passNight_8 (by decide) ?_
  refine lv_istore_n (lv' := [(2, .int (0 : Int32)), (1, .int v2), (0, ss_v (ss_b G) this)]) hx hb dd_Wi_passNight_9 rfl hl (by decide) rfl (fun ls hl => ?_)
  obtain ⟨e_10, he_10, hm⟩ := ss_bind hm
  have X_10_67 : ∀  (h_10_67 : ss_Hp) (H : Heap) (locs : List Loc) (ls : Array Slot), e_10 = h_10_67 → ss_R G h_10_67 H → va_S (ss_A G) s.heap H locs → lv_has ls 3 [(0, ss_v (ss_b G) this), (1, .int v2)] → ww_Wi_passNight p l e s m below meth c G this h rr hh  H locs 0 0 (F0 m 67 ls []) := by
    intro h_10_67 H locs ls hq hR hS hl
    rw [hq] at hm
    refine ss_aload_n hx hb dd_Wi_passNight_67 rfl (lv_at hl 0 rfl) ?_
    obtain ⟨r3, qr3, hm⟩ := ss_bind hm
    refine ss_getr hC hK hR kf_Wi_12 rfl qr3 dd_Wi_passNight_68 ?_
    refine lv_iload_n hx hb dd_Wi_passNight_71 rfl (lv_at hl 1 rfl) ?_
    obtain ⟨h4, qh4, hm⟩ := ss_bind hm
    refine ss_puti hC hK hR hS kp_Wi_105 qh4 dd_Wi_passNight_72 (fun H locs hR hS => ?_)
    refine ss_aload_n hx hb dd_Wi_passNight_75 rfl (lv_at hl 0 rfl) ?_
    obtain ⟨r5, qr5, hm⟩ := ss_bind hm
    refine ss_getr hC hK hR kf_Wi_12 rfl qr5 dd_Wi_passNight_76 ?_
    refine lv_iconst (v := 0) hx hb dd_Wi_passNight_79 (by decide) ?_
    obtain ⟨h6, qh6, hm⟩ := ss_bind hm
    refine ss_puti hC hK hR hS kp_Wi_71 qh6 dd_Wi_passNight_80 (fun H locs hR hS => ?_)
    refine ss_aload_n hx hb dd_Wi_passNight_83 rfl (lv_at hl 0 rfl) ?_
    obtain ⟨r7, qr7, hm⟩ := ss_bind hm
    refine ss_getr hC hK hR kf_Wi_12 rfl qr7 dd_Wi_passNight_84 ?_
    refine lv_iconst (v := 0) hx hb dd_Wi_passNight_87 (by decide) ?_
    obtain ⟨h8, qh8, hm⟩ := ss_bind hm
    refine ss_puti hC hK hR hS kp_Wi_75 qh8 dd_Wi_passNight_88 (fun H locs hR hS => ?_)
    refine ss_aload_n hx hb dd_Wi_passNight_91 rfl (lv_at hl 0 rfl) ?_
    obtain ⟨r9, qr9, hm⟩ := ss_bind hm
    refine ss_getr hC hK hR kf_Wi_12 rfl qr9 dd_Wi_passNight_92 ?_
    refine ss_dupr hx hb dd_Wi_passNight_95 ?_
    obtain ⟨v10, qv10, hm⟩ := ss_bind hm
    refine ss_geti hC hK hR kf_Wi_108 qv10 dd_Wi_passNight_96 ?_
    refine lv_iconst (v := 1) hx hb dd_Wi_passNight_99 (by decide) ?_
    refine lv_iadd hx hb dd_Wi_passNight_100 ?_
    obtain ⟨h11, qh11, hm⟩ := ss_bind hm
    refine ss_puti hC hK hR hS kp_Wi_108 qh11 dd_Wi_passNight_101 (fun H locs hR hS => ?_)
    refine lv_iload_n hx hb dd_Wi_passNight_104 rfl (lv_at hl 1 rfl) ?_
    exact ss_iret hC hr hlocks hR hS hm dd_Wi_passNight_105
  have L_10 : ∀ (n : Nat) (x2_10 : Int32) (h_10 : ss_Hp) (H : Heap) (locs : List Loc) (ls : Array Slot), ss_lp (mm_Wi_passNight_b10 N this v2) n (x2_10, h_10) = some e_10 → ss_R G h_10 H → va_S (ss_A G) s.heap H locs → lv_has ls 3 [(0, ss_v (ss_b G) this), (1, .int v2), (2, .int x2_10)] → ww_Wi_passNight p l e s m below meth c G this h rr hh  H locs 0 0 (F0 m 10 ls []) := by
    intro n
    induction n with
    | zero => intro x2_10 h_10 H locs ls hm; cases hm
    | succ n ih_10 =>
      intro x2_10 h_10 H locs ls hm hR hS hl
      obtain ⟨z_10, hm, hz1_10, hz2_10⟩ := ss_lps hm
      have J_61 : ∀ (x2_61 : Int32) (h_61 : ss_Hp) (H : Heap) (locs : List Loc) (ls : Array Slot), mm_Wi_passNight_j61 N this v2 x2_61 h_61 = some z_10 → ss_R G h_61 H → va_S (ss_A G) s.heap H locs → lv_has ls 3 [(0, ss_v (ss_b G) this), (1, .int v2), (2, .int x2_61)] → ww_Wi_passNight p l e s m below meth c G this h rr hh  H locs 0 0 (F0 m 61 ls []) := by
        intro x2_61 h_61 H locs ls hm hR hS hl
        obtain ⟨v12, qv12, hm⟩ := ss_bind hm
        refine lv_iinc (v := v12) (lv' := [(2, .int v12), (0, ss_v (ss_b G) this), (1, .int v2)]) hx hb dd_Wi_passNight_61 hl (k := 2) rfl (ss_inc (by decide) qv12) (by decide) rfl (fun ls hl => ?_)
        refine lv_goto (tgt := 10) hx hb dd_Wi_passNight_64 (by decide) ?_
        exact ih_10 v12 h_61 _ _ _ (hz1_10 _ (ss_some hm)) hR hS (lv_sub hl [1, 2, 0] rfl)
      refine lv_iload_n hx hb dd_Wi_passNight_10 rfl (lv_at hl 2 rfl) ?_
      refine ss_aload_n hx hb dd_Wi_passNight_11 rfl (lv_at hl 0 rfl) ?_
      obtain ⟨r13, qr13, hm⟩ := ss_bind hm
      refine ss_getr hC hK hR kf_Wi_37 rfl qr13 dd_Wi_passNight_12 ?_
      obtain ⟨v14, qv14, hm⟩ := ss_bind hm
      refine ss_geti hC hK hR kf_Wi_99 qv14 dd_Wi_passNight_15 ?_
      refine lv_icmp_ge (tgt := 67) hx hb dd_Wi_passNight_18 (by decide) (fun c15 => ?_) (fun c15 => ?_)
      · have hm := ss_ift hm c15
        exact X_10_67 h_10 _ _ _ (hz2_10 _ (ss_some hm)) hR hS (lv_sub hl [0, 1] rfl)
      · have hm := ss_iff hm c15
        refine lv_iload_n hx hb dd_Wi_passNight_21 rfl (lv_at hl 1 rfl) ?_
        refine lv_iload_n hx hb dd_Wi_passNight_22 rfl (lv_at hl 2 rfl) ?_
        refine lv_ishr hx hb dd_Wi_passNight_23 ?_
        refine lv_iconst (v := 1) hx hb dd_Wi_passNight_24 (by decide) ?_
        refine lv_iand hx hb dd_Wi_passNight_25 ?_
        refine lv_iconst (v := 1) hx hb dd_Wi_passNight_26 (by decide) ?_
        refine lv_icmp_ne (tgt := 61) hx hb dd_Wi_passNight_27 (by decide) (fun c16 => ?_) (fun c16 => ?_)
        · have hm := ss_iff hm c16
          exact J_61 x2_10 h_10 _ _ _ hm hR hS hl
        · have hm := ss_ift hm c16
          refine ss_aload_n hx hb dd_Wi_passNight_30 rfl (lv_at hl 0 rfl) ?_
          obtain ⟨r17, qr17, hm⟩ := ss_bind hm
          refine ss_getr hC hK hR kf_Wi_25 rfl qr17 dd_Wi_passNight_31 ?_
          refine lv_iload_n hx hb dd_Wi_passNight_34 rfl (lv_at hl 2 rfl) ?_
          refine ss_dup2ir hx hb dd_Wi_passNight_35 ?_
          obtain ⟨v18, qv18, hm⟩ := ss_bind hm
          refine ss_iald hC hK hR qv18 dd_Wi_passNight_36 ?_
          refine ss_aload_n hx hb dd_Wi_passNight_37 rfl (lv_at hl 0 rfl) ?_
          obtain ⟨r19, qr19, hm⟩ := ss_bind hm
          refine ss_getr hC hK hR kf_Wi_37 rfl qr19 dd_Wi_passNight_38 ?_
          obtain ⟨v20, qv20, hm⟩ := ss_bind hm
          refine ss_geti hC hK hR kf_Wi_102 qv20 dd_Wi_passNight_41 ?_
          refine lv_iadd hx hb dd_Wi_passNight_44 ?_
          obtain ⟨h21, qh21, hm⟩ := ss_bind hm
          refine ss_iast hC hK hR hS qh21 dd_Wi_passNight_45 (fun H locs hR hS => ?_)
          refine ss_aload_n hx hb dd_Wi_passNight_46 rfl (lv_at hl 0 rfl) ?_
          obtain ⟨r22, qr22, hm⟩ := ss_bind hm
          refine ss_getr hC hK hR kf_Wi_12 rfl qr22 dd_Wi_passNight_47 ?_
          refine lv_iload_n hx hb dd_Wi_passNight_50 rfl (lv_at hl 2 rfl) ?_
          refine ss_aload_n hx hb dd_Wi_passNight_51 rfl (lv_at hl 0 rfl) ?_
          obtain ⟨r23, qr23, hm⟩ := ss_bind hm
          refine ss_getr hC hK hR kf_Wi_37 rfl qr23 dd_Wi_passNight_52 ?_
          obtain ⟨v24, qv24, hm⟩ := ss_bind hm
          refine ss_geti hC hK hR kf_Wi_102 qv24 dd_Wi_passNight_55 ?_
          obtain ⟨h25, qh25, hm⟩ := ss_bind hm
          refine ss_cVv 0 0 (As := [.int x2_10, .int v24]) hC hK hR hS hl.1 (cc_G_lay l G N _ _ _ _ _ qh25) km_Wi_81 (ck_G_lay qh25) ⟨Nat.le_of_ble_eq_true rfl, Nat.le_of_ble_eq_true rfl⟩ ⟨Nat.le_of_ble_eq_true rfl, Nat.le_of_ble_eq_true rfl, Nat.le_of_ble_eq_true rfl, Nat.le_of_ble_eq_true rfl⟩ rfl rfl (Nat.le_of_ble_eq_true rfl) dd_Wi_passNight_58 (fun H locs hR hS => ?_)
          exact J_61 x2_10 h25 _ _ _ hm hR hS hl
  exact L_10 N (0 : Int32) h _ _ _ he_10 hR hS (lv_sub hl [2, 1, 0] rfl)
theorem dd_Wi_passDay_0 : decode bb_Wi_passDay 0 = .ok (.iconst 0, 1) := by decide +kernel
theorem dd_Wi_passDay_1 : decode bb_Wi_passDay 1 = .ok (.istore_n 1, 1) := by decide +kernel
theorem dd_Wi_passDay_2 : decode bb_Wi_passDay 2 = .ok (.iload_n 1, 1) := by decide +kernel
theorem dd_Wi_passDay_3 : decode bb_Wi_passDay 3 = .ok (.aload_n 0, 1) := by decide +kernel
theorem dd_Wi_passDay_4 : decode bb_Wi_passDay 4 = .ok (.getfield 37, 3) := by decide +kernel
theorem dd_Wi_passDay_7 : decode bb_Wi_passDay 7 = .ok (.getfield 85, 3) := by decide +kernel
theorem dd_Wi_passDay_10 : decode bb_Wi_passDay 10 = .ok (.if_icmp .ge 41, 3) := by decide +kernel
theorem dd_Wi_passDay_13 : decode bb_Wi_passDay 13 = .ok (.aload_n 0, 1) := by decide +kernel
theorem dd_Wi_passDay_14 : decode bb_Wi_passDay 14 = .ok (.getfield 12, 3) := by decide +kernel
theorem dd_Wi_passDay_17 : decode bb_Wi_passDay 17 = .ok (.getfield 75, 3) := by decide +kernel
theorem dd_Wi_passDay_20 : decode bb_Wi_passDay 20 = .ok (.iload_n 1, 1) := by decide +kernel
theorem dd_Wi_passDay_21 : decode bb_Wi_passDay 21 = .ok (.ishr, 1) := by decide +kernel
theorem dd_Wi_passDay_22 : decode bb_Wi_passDay 22 = .ok (.iconst 1, 1) := by decide +kernel
theorem dd_Wi_passDay_23 : decode bb_Wi_passDay 23 = .ok (.iand, 1) := by decide +kernel
theorem dd_Wi_passDay_24 : decode bb_Wi_passDay 24 = .ok (.ifCond .ne 21, 3) := by decide +kernel
theorem dd_Wi_passDay_27 : decode bb_Wi_passDay 27 = .ok (.aload_n 0, 1) := by decide +kernel
theorem dd_Wi_passDay_28 : decode bb_Wi_passDay 28 = .ok (.iload_n 1, 1) := by decide +kernel
theorem dd_Wi_passDay_29 : decode bb_Wi_passDay 29 = .ok (.invokevirtual 88, 3) := by decide +kernel
theorem dd_Wi_passDay_32 : decode bb_Wi_passDay 32 = .ok (.istore_n 2, 1) := by decide +kernel
theorem dd_Wi_passDay_33 : decode bb_Wi_passDay 33 = .ok (.iload_n 2, 1) := by decide +kernel
theorem dd_Wi_passDay_34 : decode bb_Wi_passDay 34 = .ok (.iconst (-1), 1) := by decide +kernel
theorem dd_Wi_passDay_35 : decode bb_Wi_passDay 35 = .ok (.if_icmp .eq 10, 3) := by decide +kernel
theorem dd_Wi_passDay_38 : decode bb_Wi_passDay 38 = .ok (.aload_n 0, 1) := by decide +kernel
theorem dd_Wi_passDay_39 : decode bb_Wi_passDay 39 = .ok (.iload_n 1, 1) := by decide +kernel
theorem dd_Wi_passDay_40 : decode bb_Wi_passDay 40 = .ok (.iload_n 2, 1) := by decide +kernel
theorem dd_Wi_passDay_41 : decode bb_Wi_passDay 41 = .ok (.invokevirtual 92, 3) := by decide +kernel
theorem dd_Wi_passDay_44 : decode bb_Wi_passDay 44 = .ok (.pop, 1) := by decide +kernel
theorem dd_Wi_passDay_45 : decode bb_Wi_passDay 45 = .ok (.iinc 1 1, 3) := by decide +kernel
theorem dd_Wi_passDay_48 : decode bb_Wi_passDay 48 = .ok (.goto (-46), 3) := by decide +kernel
theorem dd_Wi_passDay_51 : decode bb_Wi_passDay 51 = .ok (.aload_n 0, 1) := by decide +kernel
theorem dd_Wi_passDay_52 : decode bb_Wi_passDay 52 = .ok (.invokevirtual 95, 3) := by decide +kernel
theorem dd_Wi_passDay_55 : decode bb_Wi_passDay 55 = .ok (.ireturn, 1) := by decide +kernel
def mm_Wi_passDay_j45 (N : Nat) (this : Option Nat) (x1_45 : Int32) (h_45 : ss_Hp) : Option ((Int32 × ss_Hp) ⊕ ss_Hp) :=
  (some (x1_45 + (1 : Int32))).bind fun v3 =>
  some (.inl (v3, h_45))
def mm_Wi_passDay_b2 (N : Nat) (this : Option Nat) (st : Int32 × ss_Hp) : Option ((Int32 × ss_Hp) ⊕ ss_Hp) :=
  match st with
  | (x1_2, h_2) =>
    (ss_gr h_2 this 7 6).bind fun r4 =>
    (ss_gi h_2 r4 5 4).bind fun v5 =>
    if v5 ≤ x1_2 then
      some (.inr h_2)
    else
      (ss_gr h_2 this 7 0).bind fun r7 =>
      (ss_gi h_2 r7 0 2).bind fun v8 =>
      if ((v8 >>> (x1_2 &&& 31)) &&& (1 : Int32)) = 0 then
        ss_b2 (mm_Wi_choice N this x1_2 h_2) fun v10 h11 =>
        if v10 = (-1 : Int32) then
          mm_Wi_passDay_j45 N this x1_2 h11
        else
          ss_b2 (mm_Wi_sweepBy N this x1_2 v10 h11) fun v13 h14 =>
          mm_Wi_passDay_j45 N this x1_2 h14
      else
        mm_Wi_passDay_j45 N this x1_2 h_2
def mm_Wi_passDay (N : Nat) (this : Option Nat) (h : ss_Hp) : Option (Int32 × ss_Hp) :=
  if ss_is h this 7 = true then
    (ss_lp (mm_Wi_passDay_b2 N this) N ((0 : Int32), h)).bind fun h_2_51 =>
    ss_b2 (mm_Wi_passNight N this h_2_51) fun v1 h2 =>
    some (v1, h2)
  else none
abbrev ww_Wi_passDay (p : Program) (l : Launch) (e : Env) (s : State) (m : MethodId) (below : List Frame) (meth : Method) (c : Code) (G : ss_G) (this : Option Nat) (h : ss_Hp) (rr : Int32) (hh : ss_Hp) (H : Heap) (locs : List Loc) (k n : Nat) (g : JFrame) : Prop := W p l e (headSpec (ss_w yy_Wi_passDay bb_Wi_passDay 3 (some (.int))) ({ frames := 4, cells := 0, slots := 0, locals := 126 })).room s m ([ss_v (ss_b G) this] : List Value).toArray below meth c H locs k n (MQ below (ss_Qc G (some (.int rr)) hh) ([ss_v (ss_b G) this] : List Value).toArray s 0 0 (ss_A G)) g
theorem ck_Wi_passDay {N : Nat} {this : Option Nat} {h : ss_Hp} {res : Int32 × ss_Hp} (hm : mm_Wi_passDay N this h = some res) : ss_is h this 7 = true := (ss_chk hm).1
set_option maxHeartbeats 4000000 in
set_option maxRecDepth 100000 in
theorem cc_Wi_passDay (l : Launch) (G : ss_G) (N : Nat) (this : Option Nat) (h : ss_Hp) (rr : Int32) (hh : ss_Hp) (hm : mm_Wi_passDay N this h = some (rr, hh)) : ss_Ct l G yy_Wi_passDay bb_Wi_passDay 3 (some (.int)) ({ frames := 4, cells := 0, slots := 0, locals := 126 }) [ss_v (ss_b G) this] h (some (.int rr)) hh := by
  obtain ⟨hck, hm⟩ := ss_chk hm
  refine Met.ofW (cc := bb_Wi_passDay) (maxL := 3) (ret := (some (.int))) (by decide) rfl ?_
  intro p e s m args below meth c s₁ B hml hv
  obtain ⟨rfl, hR, hK⟩ := hv
  have hC : CallFix p m c bb_Wi_passDay 3 s _ lw_g sR_7 := ⟨B.exec, B.bytes, hml, findClass_of_methodNamed B.named, fun w hw => atoms_spec (ws := ss_w yy_Wi_passDay bb_Wi_passDay 3 (some (.int))) B.pre w (List.mem_cons_of_mem _ hw)⟩
  have hx := hC.1
  have hb := hC.2.1
  have hr := B.returns
  have hlocks := B.notSynchronized
  have hS : va_S (ss_A G) s.heap s.heap [] := va_S.rf
  have hl := lv_entry ([ss_v (ss_b G) this]) (n := 3) (by simp [lg_sl, ss_v_cat, ss_cat_i, ss_cat_l, ss_cat_r])
  rw [lg_entry_eq]
  generalize (lg_sl ([ss_v (ss_b G) this]) ++ List.replicate (3 - (lg_sl ([ss_v (ss_b G) this])).length) Slot.unset).toArray = ls at hl ⊢
  have hl : lv_has ls 3 [(0, ss_v (ss_b G) this)] := by simpa [lv_args, ss_v_cat, ss_cat_i, ss_cat_l, ss_cat_r] using hl
  refine lv_iconst (v := 0) hx hb dd_Wi_passDay_0 (by decide) ?_
  refine lv_istore_n (lv' := [(1, .int (0 : Int32)), (0, ss_v (ss_b G) this)]) hx hb dd_Wi_passDay_1 rfl hl (by decide) (by simp only [List.filter_cons, ss_v_cat]; rfl) (fun ls hl => ?_)
  obtain ⟨e_2, he_2, hm⟩ := ss_bind hm
  have X_2_51 : ∀  (h_2_51 : ss_Hp) (H : Heap) (locs : List Loc) (ls : Array Slot), e_2 = h_2_51 → ss_R G h_2_51 H → va_S (ss_A G) s.heap H locs → lv_has ls 3 [(0, ss_v (ss_b G) this)] → ww_Wi_passDay p l e s m below meth c G this h rr hh  H locs 0 0 (F0 m 51 ls []) := by
    intro h_2_51 H locs ls hq hR hS hl
    rw [hq] at hm
    refine ss_aload_n hx hb dd_Wi_passDay_51 rfl (lv_at hl 0 rfl) ?_
    obtain ⟨v1, h2, qh2, hm⟩ := ss_bind2 hm
    refine ss_cV 0 0 (As := []) hC hK hR hS hl.1 (cc_Wi_passNight l G N _ _ _ _ qh2) km_Wi_95 (ck_Wi_passNight qh2) ⟨Nat.le_of_ble_eq_true rfl, Nat.le_of_ble_eq_true rfl⟩ ⟨Nat.le_of_ble_eq_true rfl, Nat.le_of_ble_eq_true rfl, Nat.le_of_ble_eq_true rfl, Nat.le_of_ble_eq_true rfl⟩ rfl rfl (Nat.le_of_ble_eq_true rfl) dd_Wi_passDay_52 (fun H locs hR hS => ?_)
    exact ss_iret hC hr hlocks hR hS hm dd_Wi_passDay_55
  have L_2 : ∀ (n : Nat) (x1_2 : Int32) (h_2 : ss_Hp) (H : Heap) (locs : List Loc) (ls : Array Slot), ss_lp (mm_Wi_passDay_b2 N this) n (x1_2, h_2) = some e_2 → ss_R G h_2 H → va_S (ss_A G) s.heap H locs → lv_has ls 3 [(0, ss_v (ss_b G) this), (1, .int x1_2)] → ww_Wi_passDay p l e s m below meth c G this h rr hh  H locs 0 0 (F0 m 2 ls []) := by
    intro n
    induction n with
    | zero => intro x1_2 h_2 H locs ls hm; cases hm
    | succ n ih_2 =>
      intro x1_2 h_2 H locs ls hm hR hS hl
      obtain ⟨z_2, hm, hz1_2, hz2_2⟩ := ss_lps hm
      have J_45 : ∀ (x1_45 : Int32) (h_45 : ss_Hp) (H : Heap) (locs : List Loc) (ls : Array Slot), mm_Wi_passDay_j45 N this x1_45 h_45 = some z_2 → ss_R G h_45 H → va_S (ss_A G) s.heap H locs → lv_has ls 3 [(0, ss_v (ss_b G) this), (1, .int x1_45)] → ww_Wi_passDay p l e s m below meth c G this h rr hh  H locs 0 0 (F0 m 45 ls []) := by
        intro x1_45 h_45 H locs ls hm hR hS hl
        obtain ⟨v3, qv3, hm⟩ := ss_bind hm
        refine lv_iinc (v := v3) (lv' := [(1, .int v3), (0, ss_v (ss_b G) this)]) hx hb dd_Wi_passDay_45 hl (k := 1) rfl (ss_inc (by decide) qv3) (by decide) (by simp only [List.filter_cons, ss_v_cat]; rfl) (fun ls hl => ?_)
        refine lv_goto (tgt := 2) hx hb dd_Wi_passDay_48 (by decide) ?_
        exact ih_2 v3 h_45 _ _ _ (hz1_2 _ (ss_some hm)) hR hS (lv_sub hl [1, 0] rfl)
      refine lv_iload_n hx hb dd_Wi_passDay_2 rfl (lv_at hl 1 rfl) ?_
      refine ss_aload_n hx hb dd_Wi_passDay_3 rfl (lv_at hl 0 rfl) ?_
      obtain ⟨r4, qr4, hm⟩ := ss_bind hm
      refine ss_getr hC hK hR kf_Wi_37 rfl qr4 dd_Wi_passDay_4 ?_
      obtain ⟨v5, qv5, hm⟩ := ss_bind hm
      refine ss_geti hC hK hR kf_Wi_85 qv5 dd_Wi_passDay_7 ?_
      refine lv_icmp_ge (tgt := 51) hx hb dd_Wi_passDay_10 (by decide) (fun c6 => ?_) (fun c6 => ?_)
      · have hm := ss_ift hm c6
        exact X_2_51 h_2 _ _ _ (hz2_2 _ (ss_some hm)) hR hS (lv_sub hl [0] rfl)
      · have hm := ss_iff hm c6
        refine ss_aload_n hx hb dd_Wi_passDay_13 rfl (lv_at hl 0 rfl) ?_
        obtain ⟨r7, qr7, hm⟩ := ss_bind hm
        refine ss_getr hC hK hR kf_Wi_12 rfl qr7 dd_Wi_passDay_14 ?_
        obtain ⟨v8, qv8, hm⟩ := ss_bind hm
        refine ss_geti hC hK hR kf_Wi_75 qv8 dd_Wi_passDay_17 ?_
        refine lv_iload_n hx hb dd_Wi_passDay_20 rfl (lv_at hl 1 rfl) ?_
        refine lv_ishr hx hb dd_Wi_passDay_21 ?_
        refine lv_iconst (v := 1) hx hb dd_Wi_passDay_22 (by decide) ?_
        refine lv_iand hx hb dd_Wi_passDay_23 ?_
        refine lv_if_ne (tgt := 45) hx hb dd_Wi_passDay_24 (by decide) (fun c9 => ?_) (fun c9 => ?_)
        · have hm := ss_iff hm c9
          exact J_45 x1_2 h_2 _ _ _ hm hR hS hl
        · have hm := ss_ift hm c9
          refine ss_aload_n hx hb dd_Wi_passDay_27 rfl (lv_at hl 0 rfl) ?_
          refine lv_iload_n hx hb dd_Wi_passDay_28 rfl (lv_at hl 1 rfl) ?_
          obtain ⟨v10, h11, qh11, hm⟩ := ss_bind2 hm
          refine ss_cV 0 0 (As := [.int x1_2]) hC hK hR hS hl.1 (cc_Wi_choice l G N _ _ _ _ _ qh11) km_Wi_88 (ck_Wi_choice qh11) ⟨Nat.le_of_ble_eq_true rfl, Nat.le_of_ble_eq_true rfl⟩ ⟨Nat.le_of_ble_eq_true rfl, Nat.le_of_ble_eq_true rfl, Nat.le_of_ble_eq_true rfl, Nat.le_of_ble_eq_true rfl⟩ rfl rfl (Nat.le_of_ble_eq_true rfl) dd_Wi_passDay_29 (fun H locs hR hS => ?_)
          refine lv_istore_n (lv' := [(2, .int v10), (0, ss_v (ss_b G) this), (1, .int x1_2)]) hx hb dd_Wi_passDay_32 rfl hl (by decide) rfl (fun ls hl => ?_)
          refine lv_iload_n hx hb dd_Wi_passDay_33 rfl (lv_at hl 0 rfl) ?_
          refine lv_iconst (v := -1) hx hb dd_Wi_passDay_34 (by decide) ?_
          refine lv_icmp_eq (tgt := 45) hx hb dd_Wi_passDay_35 (by decide) (fun c12 => ?_) (fun c12 => ?_)
          · have hm := ss_ift hm c12
            exact J_45 x1_2 h11 _ _ _ hm hR hS (lv_sub hl [1, 2] rfl)
          · have hm := ss_iff hm c12
            refine ss_aload_n hx hb dd_Wi_passDay_38 rfl (lv_at hl 1 rfl) ?_
            refine lv_iload_n hx hb dd_Wi_passDay_39 rfl (lv_at hl 2 rfl) ?_
            refine lv_iload_n hx hb dd_Wi_passDay_40 rfl (lv_at hl 0 rfl) ?_
            obtain ⟨v13, h14, qh14, hm⟩ := ss_bind2 hm
            refine ss_cV 0 0 (As := [.int x1_2, .int v10]) hC hK hR hS hl.1 (cc_Wi_sweepBy l G N _ _ _ _ _ _ qh14) km_Wi_92 (ck_Wi_sweepBy qh14) ⟨Nat.le_of_ble_eq_true rfl, Nat.le_of_ble_eq_true rfl⟩ ⟨Nat.le_of_ble_eq_true rfl, Nat.le_of_ble_eq_true rfl, Nat.le_of_ble_eq_true rfl, Nat.le_of_ble_eq_true rfl⟩ rfl rfl (Nat.le_of_ble_eq_true rfl) dd_Wi_passDay_41 (fun H locs hR hS => ?_)
            refine lv_pop hx hb dd_Wi_passDay_44 rfl ?_
            exact J_45 x1_2 h14 _ _ _ hm hR hS (lv_sub hl [1, 2] rfl)
  exact L_2 N (0 : Int32) h _ _ _ he_2 hR hS (lv_sub hl [1, 0] rfl)
theorem dd_S_day_0 : decode bb_S_day 0 = .ok (.aload_n 0, 1) := by decide +kernel
theorem dd_S_day_1 : decode bb_S_day 1 = .ok (.getfield 41, 3) := by decide +kernel
theorem dd_S_day_4 : decode bb_S_day 4 = .ok (.getfield 58, 3) := by decide +kernel
theorem dd_S_day_7 : decode bb_S_day 7 = .ok (.getfield 169, 3) := by decide +kernel
theorem dd_S_day_10 : decode bb_S_day 10 = .ok (.ifCond .eq 19, 3) := by decide +kernel
theorem dd_S_day_13 : decode bb_S_day 13 = .ok (.aload_n 0, 1) := by decide +kernel
theorem dd_S_day_14 : decode bb_S_day 14 = .ok (.getfield 41, 3) := by decide +kernel
theorem dd_S_day_17 : decode bb_S_day 17 = .ok (.getfield 127, 3) := by decide +kernel
theorem dd_S_day_20 : decode bb_S_day 20 = .ok (.getfield 150, 3) := by decide +kernel
theorem dd_S_day_23 : decode bb_S_day 23 = .ok (.sipush 999, 3) := by decide +kernel
theorem dd_S_day_26 : decode bb_S_day 26 = .ok (.if_icmp .lt 5, 3) := by decide +kernel
theorem dd_S_day_29 : decode bb_S_day 29 = .ok (.iconst (-1), 1) := by decide +kernel
theorem dd_S_day_30 : decode bb_S_day 30 = .ok (.ireturn, 1) := by decide +kernel
theorem dd_S_day_31 : decode bb_S_day 31 = .ok (.aload_n 0, 1) := by decide +kernel
theorem dd_S_day_32 : decode bb_S_day 32 = .ok (.getfield 52, 3) := by decide +kernel
theorem dd_S_day_35 : decode bb_S_day 35 = .ok (.aload_n 0, 1) := by decide +kernel
theorem dd_S_day_36 : decode bb_S_day 36 = .ok (.getfield 41, 3) := by decide +kernel
theorem dd_S_day_39 : decode bb_S_day 39 = .ok (.getfield 127, 3) := by decide +kernel
theorem dd_S_day_42 : decode bb_S_day 42 = .ok (.invokevirtual 173, 3) := by decide +kernel
theorem dd_S_day_45 : decode bb_S_day 45 = .ok (.aload_n 0, 1) := by decide +kernel
theorem dd_S_day_46 : decode bb_S_day 46 = .ok (.getfield 74, 3) := by decide +kernel
theorem dd_S_day_49 : decode bb_S_day 49 = .ok (.invokevirtual 177, 3) := by decide +kernel
theorem dd_S_day_52 : decode bb_S_day 52 = .ok (.aload_n 0, 1) := by decide +kernel
theorem dd_S_day_53 : decode bb_S_day 53 = .ok (.getfield 65, 3) := by decide +kernel
theorem dd_S_day_56 : decode bb_S_day 56 = .ok (.invokevirtual 180, 3) := by decide +kernel
theorem dd_S_day_59 : decode bb_S_day 59 = .ok (.istore_n 1, 1) := by decide +kernel
theorem dd_S_day_60 : decode bb_S_day 60 = .ok (.aload_n 0, 1) := by decide +kernel
theorem dd_S_day_61 : decode bb_S_day 61 = .ok (.getfield 41, 3) := by decide +kernel
theorem dd_S_day_64 : decode bb_S_day 64 = .ok (.getfield 127, 3) := by decide +kernel
theorem dd_S_day_67 : decode bb_S_day 67 = .ok (.aload_n 0, 1) := by decide +kernel
theorem dd_S_day_68 : decode bb_S_day 68 = .ok (.getfield 65, 3) := by decide +kernel
theorem dd_S_day_71 : decode bb_S_day 71 = .ok (.getfield 183, 3) := by decide +kernel
theorem dd_S_day_74 : decode bb_S_day 74 = .ok (.invokevirtual 184, 3) := by decide +kernel
theorem dd_S_day_77 : decode bb_S_day 77 = .ok (.iload_n 1, 1) := by decide +kernel
theorem dd_S_day_78 : decode bb_S_day 78 = .ok (.ireturn, 1) := by decide +kernel
def mm_S_day_j29 (N : Nat) (this : Option Nat) (h_29 : ss_Hp) : Option (Int32 × ss_Hp) :=
  some ((-1 : Int32), h_29)
def mm_S_day (N : Nat) (this : Option Nat) (h : ss_Hp) : Option (Int32 × ss_Hp) :=
  if ss_is h this 11 = true then
    (ss_gr h this 11 4).bind fun r1 =>
    (ss_gr h r1 8 0).bind fun r2 =>
    (ss_gi h r2 5 0).bind fun v3 =>
    if v3 = 0 then
      mm_S_day_j29 N this h
    else
      (ss_gr h this 11 4).bind fun r5 =>
      (ss_gr h r5 8 1).bind fun r6 =>
      (ss_gi h r6 0 3).bind fun v7 =>
      if v7 < (999 : Int32) then
        (ss_gr h this 11 6).bind fun r9 =>
        (ss_gr h this 11 4).bind fun r10 =>
        (ss_gr h r10 8 1).bind fun r11 =>
        (mm_A_keep N r9 r11 h).bind fun h12 =>
        (ss_gr h12 this 11 8).bind fun r13 =>
        (mm_F_start N r13 h12).bind fun h14 =>
        (ss_gr h14 this 11 7).bind fun r15 =>
        ss_b2 (mm_Wi_passDay N r15 h14) fun v16 h17 =>
        (ss_gr h17 this 11 4).bind fun r18 =>
        (ss_gr h17 r18 8 1).bind fun r19 =>
        (ss_gr h17 this 11 7).bind fun r20 =>
        (ss_gr h17 r20 7 0).bind fun r21 =>
        (mm_G_copyFrom N r19 r21 h17).bind fun h22 =>
        some (v16, h22)
      else
        mm_S_day_j29 N this h
  else none
abbrev ww_S_day (p : Program) (l : Launch) (e : Env) (s : State) (m : MethodId) (below : List Frame) (meth : Method) (c : Code) (G : ss_G) (this : Option Nat) (h : ss_Hp) (rr : Int32) (hh : ss_Hp) (H : Heap) (locs : List Loc) (k n : Nat) (g : JFrame) : Prop := W p l e (headSpec (ss_w yy_S_day bb_S_day 2 (some (.int))) ({ frames := 5, cells := 0, slots := 0, locals := 148 })).room s m ([ss_v (ss_b G) this] : List Value).toArray below meth c H locs k n (MQ below (ss_Qc G (some (.int rr)) hh) ([ss_v (ss_b G) this] : List Value).toArray s 0 0 (ss_A G)) g
theorem ck_S_day {N : Nat} {this : Option Nat} {h : ss_Hp} {res : Int32 × ss_Hp} (hm : mm_S_day N this h = some res) : ss_is h this 11 = true := (ss_chk hm).1
set_option maxHeartbeats 4000000 in
set_option maxRecDepth 100000 in
theorem cc_S_day (l : Launch) (G : ss_G) (N : Nat) (this : Option Nat) (h : ss_Hp) (rr : Int32) (hh : ss_Hp) (hm : mm_S_day N this h = some (rr, hh)) : ss_Ct l G yy_S_day bb_S_day 2 (some (.int)) ({ frames := 5, cells := 0, slots := 0, locals := 148 }) [ss_v (ss_b G) this] h (some (.int rr)) hh := by
  obtain ⟨hck, hm⟩ := ss_chk hm
  refine Met.ofW (cc := bb_S_day) (maxL := 2) (ret := (some (.int))) (by decide) rfl ?_
  intro p e s m args below meth c s₁ B hml hv
  obtain ⟨rfl, hR, hK⟩ := hv
  have hC : CallFix p m c bb_S_day 2 s _ lw_g sR_11 := ⟨B.exec, B.bytes, hml, findClass_of_methodNamed B.named, fun w hw => atoms_spec (ws := ss_w yy_S_day bb_S_day 2 (some (.int))) B.pre w (List.mem_cons_of_mem _ hw)⟩
  have hx := hC.1
  have hb := hC.2.1
  have hr := B.returns
  have hlocks := B.notSynchronized
  have hS : va_S (ss_A G) s.heap s.heap [] := va_S.rf
  have hl := lv_entry ([ss_v (ss_b G) this]) (n := 2) (by simp [lg_sl, ss_v_cat, ss_cat_i, ss_cat_l, ss_cat_r])
  rw [lg_entry_eq]
  generalize (lg_sl ([ss_v (ss_b G) this]) ++ List.replicate (2 - (lg_sl ([ss_v (ss_b G) this])).length) Slot.unset).toArray = ls at hl ⊢
  have hl : lv_has ls 2 [(0, ss_v (ss_b G) this)] := by simpa [lv_args, ss_v_cat, ss_cat_i, ss_cat_l, ss_cat_r] using hl
  have J_29 : ∀ (h_29 : ss_Hp) (H : Heap) (locs : List Loc) (ls : Array Slot), mm_S_day_j29 N this h_29 = some (rr, hh) → ss_R G h_29 H → va_S (ss_A G) s.heap H locs → lv_has ls 2 [] → ww_S_day p l e s m below meth c G this h rr hh  H locs 0 0 (F0 m 29 ls []) := by
    intro h_29 H locs ls hm hR hS hl
    refine lv_iconst (v := -1) hx hb dd_S_day_29 (by decide) ?_
    exact ss_iret hC hr hlocks hR hS hm dd_S_day_30
  refine ss_aload_n hx hb dd_S_day_0 rfl (lv_at hl 0 rfl) ?_
  obtain ⟨r1, qr1, hm⟩ := ss_bind hm
  refine ss_getr hC hK hR kf_S_41 rfl qr1 dd_S_day_1 ?_
  obtain ⟨r2, qr2, hm⟩ := ss_bind hm
  refine ss_getr hC hK hR kf_S_58 rfl qr2 dd_S_day_4 ?_
  obtain ⟨v3, qv3, hm⟩ := ss_bind hm
  refine ss_geti hC hK hR kf_S_169 qv3 dd_S_day_7 ?_
  refine lv_if_eq (tgt := 29) hx hb dd_S_day_10 (by decide) (fun c4 => ?_) (fun c4 => ?_)
  · have hm := ss_ift hm c4
    exact J_29 h _ _ _ hm hR hS (lv_sub hl [] rfl)
  · have hm := ss_iff hm c4
    refine ss_aload_n hx hb dd_S_day_13 rfl (lv_at hl 0 rfl) ?_
    obtain ⟨r5, qr5, hm⟩ := ss_bind hm
    refine ss_getr hC hK hR kf_S_41 rfl qr5 dd_S_day_14 ?_
    obtain ⟨r6, qr6, hm⟩ := ss_bind hm
    refine ss_getr hC hK hR kf_S_127 rfl qr6 dd_S_day_17 ?_
    obtain ⟨v7, qv7, hm⟩ := ss_bind hm
    refine ss_geti hC hK hR kf_S_150 qv7 dd_S_day_20 ?_
    refine lv_sipush (v := 999) hx hb dd_S_day_23 (by decide) ?_
    refine lv_icmp_lt (tgt := 31) hx hb dd_S_day_26 (by decide) (fun c8 => ?_) (fun c8 => ?_)
    · have hm := ss_ift hm c8
      refine ss_aload_n hx hb dd_S_day_31 rfl (lv_at hl 0 rfl) ?_
      obtain ⟨r9, qr9, hm⟩ := ss_bind hm
      refine ss_getr hC hK hR kf_S_52 rfl qr9 dd_S_day_32 ?_
      refine ss_aload_n hx hb dd_S_day_35 rfl (lv_at hl 0 rfl) ?_
      obtain ⟨r10, qr10, hm⟩ := ss_bind hm
      refine ss_getr hC hK hR kf_S_41 rfl qr10 dd_S_day_36 ?_
      obtain ⟨r11, qr11, hm⟩ := ss_bind hm
      refine ss_getr hC hK hR kf_S_127 rfl qr11 dd_S_day_39 ?_
      obtain ⟨h12, qh12, hm⟩ := ss_bind hm
      refine ss_cVv 0 0 (As := [ss_v (ss_b G) r11]) hC hK hR hS hl.1 (cc_A_keep l G N _ _ _ _ qh12) km_S_173 (ck_A_keep qh12) ⟨Nat.le_of_ble_eq_true rfl, Nat.le_of_ble_eq_true rfl⟩ ⟨Nat.le_of_ble_eq_true rfl, Nat.le_of_ble_eq_true rfl, Nat.le_of_ble_eq_true rfl, Nat.le_of_ble_eq_true rfl⟩ rfl rfl (Nat.le_of_ble_eq_true rfl) dd_S_day_42 (fun H locs hR hS => ?_)
      refine ss_aload_n hx hb dd_S_day_45 rfl (lv_at hl 0 rfl) ?_
      obtain ⟨r13, qr13, hm⟩ := ss_bind hm
      refine ss_getr hC hK hR kf_S_74 rfl qr13 dd_S_day_46 ?_
      obtain ⟨h14, qh14, hm⟩ := ss_bind hm
      refine ss_cVv 0 0 (As := []) hC hK hR hS hl.1 (cc_F_start l G N _ _ _ qh14) km_S_177 (ck_F_start qh14) ⟨Nat.le_of_ble_eq_true rfl, Nat.le_of_ble_eq_true rfl⟩ ⟨Nat.le_of_ble_eq_true rfl, Nat.le_of_ble_eq_true rfl, Nat.le_of_ble_eq_true rfl, Nat.le_of_ble_eq_true rfl⟩ rfl rfl (Nat.le_of_ble_eq_true rfl) dd_S_day_49 (fun H locs hR hS => ?_)
      refine ss_aload_n hx hb dd_S_day_52 rfl (lv_at hl 0 rfl) ?_
      obtain ⟨r15, qr15, hm⟩ := ss_bind hm
      refine ss_getr hC hK hR kf_S_65 rfl qr15 dd_S_day_53 ?_
      obtain ⟨v16, h17, qh17, hm⟩ := ss_bind2 hm
      refine ss_cV 0 0 (As := []) hC hK hR hS hl.1 (cc_Wi_passDay l G N _ _ _ _ qh17) km_S_180 (ck_Wi_passDay qh17) ⟨Nat.le_of_ble_eq_true rfl, Nat.le_of_ble_eq_true rfl⟩ ⟨Nat.le_of_ble_eq_true rfl, Nat.le_of_ble_eq_true rfl, Nat.le_of_ble_eq_true rfl, Nat.le_of_ble_eq_true rfl⟩ rfl rfl (Nat.le_of_ble_eq_true rfl) dd_S_day_56 (fun H locs hR hS => ?_)
      refine lv_istore_n (lv' := [(1, .int v16), (0, ss_v (ss_b G) this)]) hx hb dd_S_day_59 rfl hl (by decide) (by simp only [List.filter_cons, ss_v_cat]; rfl) (fun ls hl => ?_)
      refine ss_aload_n hx hb dd_S_day_60 rfl (lv_at hl 1 rfl) ?_
      obtain ⟨r18, qr18, hm⟩ := ss_bind hm
      refine ss_getr hC hK hR kf_S_41 rfl qr18 dd_S_day_61 ?_
      obtain ⟨r19, qr19, hm⟩ := ss_bind hm
      refine ss_getr hC hK hR kf_S_127 rfl qr19 dd_S_day_64 ?_
      refine ss_aload_n hx hb dd_S_day_67 rfl (lv_at hl 1 rfl) ?_
      obtain ⟨r20, qr20, hm⟩ := ss_bind hm
      refine ss_getr hC hK hR kf_S_65 rfl qr20 dd_S_day_68 ?_
      obtain ⟨r21, qr21, hm⟩ := ss_bind hm
      refine ss_getr hC hK hR kf_S_183 rfl qr21 dd_S_day_71 ?_
      obtain ⟨h22, qh22, hm⟩ := ss_bind hm
      refine ss_cVv 0 0 (As := [ss_v (ss_b G) r21]) hC hK hR hS hl.1 (cc_G_copyFrom l G N _ _ _ _ qh22) km_S_184 (ck_G_copyFrom qh22) ⟨Nat.le_of_ble_eq_true rfl, Nat.le_of_ble_eq_true rfl⟩ ⟨Nat.le_of_ble_eq_true rfl, Nat.le_of_ble_eq_true rfl, Nat.le_of_ble_eq_true rfl, Nat.le_of_ble_eq_true rfl⟩ rfl rfl (Nat.le_of_ble_eq_true rfl) dd_S_day_74 (fun H locs hR hS => ?_)
      refine lv_iload_n hx hb dd_S_day_77 rfl (lv_at hl 0 rfl) ?_
      exact ss_iret hC hr hlocks hR hS hm dd_S_day_78
    · have hm := ss_iff hm c8
      exact J_29 h _ _ _ hm hR hS (lv_sub hl [] rfl)
theorem dd_S_isFree_0 : decode bb_S_isFree 0 = .ok (.aload_n 0, 1) := by decide +kernel
theorem dd_S_isFree_1 : decode bb_S_isFree 1 = .ok (.iload_n 1, 1) := by decide +kernel
theorem dd_S_isFree_2 : decode bb_S_isFree 2 = .ok (.invokevirtual 157, 3) := by decide +kernel
theorem dd_S_isFree_5 : decode bb_S_isFree 5 = .ok (.ifCond .eq 24, 3) := by decide +kernel
theorem dd_S_isFree_8 : decode bb_S_isFree 8 = .ok (.aload_n 0, 1) := by decide +kernel
theorem dd_S_isFree_9 : decode bb_S_isFree 9 = .ok (.getfield 41, 3) := by decide +kernel
theorem dd_S_isFree_12 : decode bb_S_isFree 12 = .ok (.getfield 127, 3) := by decide +kernel
theorem dd_S_isFree_15 : decode bb_S_isFree 15 = .ok (.getfield 166, 3) := by decide +kernel
theorem dd_S_isFree_18 : decode bb_S_isFree 18 = .ok (.iload_n 1, 1) := by decide +kernel
theorem dd_S_isFree_19 : decode bb_S_isFree 19 = .ok (.ishr, 1) := by decide +kernel
theorem dd_S_isFree_20 : decode bb_S_isFree 20 = .ok (.iconst 1, 1) := by decide +kernel
theorem dd_S_isFree_21 : decode bb_S_isFree 21 = .ok (.iand, 1) := by decide +kernel
theorem dd_S_isFree_22 : decode bb_S_isFree 22 = .ok (.ifCond .ne 7, 3) := by decide +kernel
theorem dd_S_isFree_25 : decode bb_S_isFree 25 = .ok (.iconst 1, 1) := by decide +kernel
theorem dd_S_isFree_26 : decode bb_S_isFree 26 = .ok (.goto 4, 3) := by decide +kernel
theorem dd_S_isFree_29 : decode bb_S_isFree 29 = .ok (.iconst 0, 1) := by decide +kernel
theorem dd_S_isFree_30 : decode bb_S_isFree 30 = .ok (.ireturn, 1) := by decide +kernel
def mm_S_isFree_j30 (N : Nat) (this : Option Nat) (a1 : Int32) (h : ss_Hp) (s0_30 : Int32) : Option Int32 :=
  (ss_bz s0_30).bind fun v1 =>
  some v1
def mm_S_isFree_j29 (N : Nat) (this : Option Nat) (a1 : Int32) (h : ss_Hp) : Option Int32 :=
  mm_S_isFree_j30 N this a1 h (0 : Int32)
def mm_S_isFree (N : Nat) (this : Option Nat) (a1 : Int32) (h : ss_Hp) : Option Int32 :=
  if ss_is h this 11 = true then
    (mm_S_isHouse N this a1 h).bind fun v2 =>
    if v2 = 0 then
      mm_S_isFree_j29 N this a1 h
    else
      (ss_gr h this 11 4).bind fun r4 =>
      (ss_gr h r4 8 1).bind fun r5 =>
      (ss_gi h r5 0 2).bind fun v6 =>
      if ((v6 >>> (a1 &&& 31)) &&& (1 : Int32)) = 0 then
        mm_S_isFree_j30 N this a1 h (1 : Int32)
      else
        mm_S_isFree_j29 N this a1 h
  else none
abbrev ww_S_isFree (p : Program) (l : Launch) (e : Env) (s : State) (m : MethodId) (below : List Frame) (meth : Method) (c : Code) (G : ss_G) (this : Option Nat) (a1 : Int32) (h : ss_Hp) (rr : Int32) (H : Heap) (locs : List Loc) (k n : Nat) (g : JFrame) : Prop := W p l e (headSpec (ss_w yy_S_isFree bb_S_isFree 2 (some .boolean)) ({ frames := 1, cells := 0, slots := 0, locals := 21 })).room s m ([ss_v (ss_b G) this, .int a1] : List Value).toArray below meth c H locs k n (MQ below (ss_Qc G (some (.int rr)) h) ([ss_v (ss_b G) this, .int a1] : List Value).toArray s 0 0 (ss_A G)) g
theorem ck_S_isFree {N : Nat} {this : Option Nat} {a1 : Int32} {h : ss_Hp} {res : Int32} (hm : mm_S_isFree N this a1 h = some res) : ss_is h this 11 = true := (ss_chk hm).1
set_option maxHeartbeats 4000000 in
set_option maxRecDepth 100000 in
theorem cc_S_isFree (l : Launch) (G : ss_G) (N : Nat) (this : Option Nat) (a1 : Int32) (h : ss_Hp) (rr : Int32) (hm : mm_S_isFree N this a1 h = some rr) : ss_Ct l G yy_S_isFree bb_S_isFree 2 (some .boolean) ({ frames := 1, cells := 0, slots := 0, locals := 21 }) [ss_v (ss_b G) this, .int a1] h (some (.int rr)) h := by
  obtain ⟨hck, hm⟩ := ss_chk hm
  refine Met.ofW (cc := bb_S_isFree) (maxL := 2) (ret := (some .boolean)) (by decide) rfl ?_
  intro p e s m args below meth c s₁ B hml hv
  obtain ⟨rfl, hR, hK⟩ := hv
  have hC : CallFix p m c bb_S_isFree 2 s _ lw_g sR_11 := ⟨B.exec, B.bytes, hml, findClass_of_methodNamed B.named, fun w hw => atoms_spec (ws := ss_w yy_S_isFree bb_S_isFree 2 (some .boolean)) B.pre w (List.mem_cons_of_mem _ hw)⟩
  have hx := hC.1
  have hb := hC.2.1
  have hr := B.returns
  have hlocks := B.notSynchronized
  have hS : va_S (ss_A G) s.heap s.heap [] := va_S.rf
  have hl := lv_entry ([ss_v (ss_b G) this, .int a1]) (n := 2) (by simp [lg_sl, ss_v_cat, ss_cat_i, ss_cat_l, ss_cat_r])
  rw [lg_entry_eq]
  generalize (lg_sl ([ss_v (ss_b G) this, .int a1]) ++ List.replicate (2 - (lg_sl ([ss_v (ss_b G) this, .int a1])).length) Slot.unset).toArray = ls at hl ⊢
  have hl : lv_has ls 2 [(0, ss_v (ss_b G) this), (1, .int a1)] := by simpa [lv_args, ss_v_cat, ss_cat_i, ss_cat_l, ss_cat_r] using hl
  have J_30 : ∀ (s0_30 : Int32) (H : Heap) (locs : List Loc) (ls : Array Slot), mm_S_isFree_j30 N this a1 h s0_30 = some rr → ss_R G h H → va_S (ss_A G) s.heap H locs → lv_has ls 2 [] → ww_S_isFree p l e s m below meth c G this a1 h rr  H locs 0 0 (F0 m 30 ls [.int s0_30]) := by
    intro s0_30 H locs ls hm hR hS hl
    obtain ⟨v1, qv1, hm⟩ := ss_bind hm
    obtain ⟨hnb, rfl⟩ := ss_bzs qv1
    exact ss_zret hC hr hnb hlocks hR hS (ss_with _ hm) dd_S_isFree_30
  have J_29 : ∀  (H : Heap) (locs : List Loc) (ls : Array Slot), mm_S_isFree_j29 N this a1 h = some rr → ss_R G h H → va_S (ss_A G) s.heap H locs → lv_has ls 2 [] → ww_S_isFree p l e s m below meth c G this a1 h rr  H locs 0 0 (F0 m 29 ls []) := by
    intro  H locs ls hm hR hS hl
    refine lv_iconst (v := 0) hx hb dd_S_isFree_29 (by decide) ?_
    exact J_30 (0 : Int32)  _ _ _ hm hR hS hl
  refine ss_aload_n hx hb dd_S_isFree_0 rfl (lv_at hl 0 rfl) ?_
  refine lv_iload_n hx hb dd_S_isFree_1 rfl (lv_at hl 1 rfl) ?_
  obtain ⟨v2, qv2, hm⟩ := ss_bind hm
  refine ss_cV 0 0 (As := [.int a1]) hC hK hR hS hl.1 (cc_S_isHouse l G N _ _ _ _ qv2) km_S_157 (ck_S_isHouse qv2) ⟨Nat.le_of_ble_eq_true rfl, Nat.le_of_ble_eq_true rfl⟩ ⟨Nat.le_of_ble_eq_true rfl, Nat.le_of_ble_eq_true rfl, Nat.le_of_ble_eq_true rfl, Nat.le_of_ble_eq_true rfl⟩ rfl rfl (Nat.le_of_ble_eq_true rfl) dd_S_isFree_2 (fun H locs hR hS => ?_)
  refine lv_if_eq (tgt := 29) hx hb dd_S_isFree_5 (by decide) (fun c3 => ?_) (fun c3 => ?_)
  · have hm := ss_ift hm c3
    exact J_29  _ _ _ hm hR hS (lv_sub hl [] rfl)
  · have hm := ss_iff hm c3
    refine ss_aload_n hx hb dd_S_isFree_8 rfl (lv_at hl 0 rfl) ?_
    obtain ⟨r4, qr4, hm⟩ := ss_bind hm
    refine ss_getr hC hK hR kf_S_41 rfl qr4 dd_S_isFree_9 ?_
    obtain ⟨r5, qr5, hm⟩ := ss_bind hm
    refine ss_getr hC hK hR kf_S_127 rfl qr5 dd_S_isFree_12 ?_
    obtain ⟨v6, qv6, hm⟩ := ss_bind hm
    refine ss_geti hC hK hR kf_S_166 qv6 dd_S_isFree_15 ?_
    refine lv_iload_n hx hb dd_S_isFree_18 rfl (lv_at hl 1 rfl) ?_
    refine lv_ishr hx hb dd_S_isFree_19 ?_
    refine lv_iconst (v := 1) hx hb dd_S_isFree_20 (by decide) ?_
    refine lv_iand hx hb dd_S_isFree_21 ?_
    refine lv_if_ne (tgt := 29) hx hb dd_S_isFree_22 (by decide) (fun c7 => ?_) (fun c7 => ?_)
    · have hm := ss_iff hm c7
      exact J_29  _ _ _ hm hR hS (lv_sub hl [] rfl)
    · have hm := ss_ift hm c7
      refine lv_iconst (v := 1) hx hb dd_S_isFree_25 (by decide) ?_
      refine lv_goto (tgt := 30) hx hb dd_S_isFree_26 (by decide) ?_
      exact J_30 (1 : Int32)  _ _ _ hm hR hS (lv_sub hl [] rfl)
theorem dd_S_sweep_0 : decode bb_S_sweep 0 = .ok (.aload_n 0, 1) := by decide +kernel
theorem dd_S_sweep_1 : decode bb_S_sweep 1 = .ok (.iload_n 1, 1) := by decide +kernel
theorem dd_S_sweep_2 : decode bb_S_sweep 2 = .ok (.invokevirtual 187, 3) := by decide +kernel
theorem dd_S_sweep_5 : decode bb_S_sweep 5 = .ok (.ifCond .eq 26, 3) := by decide +kernel
theorem dd_S_sweep_8 : decode bb_S_sweep 8 = .ok (.aload_n 0, 1) := by decide +kernel
theorem dd_S_sweep_9 : decode bb_S_sweep 9 = .ok (.iload_n 2, 1) := by decide +kernel
theorem dd_S_sweep_10 : decode bb_S_sweep 10 = .ok (.invokevirtual 123, 3) := by decide +kernel
theorem dd_S_sweep_13 : decode bb_S_sweep 13 = .ok (.ifCond .eq 18, 3) := by decide +kernel
theorem dd_S_sweep_16 : decode bb_S_sweep 16 = .ok (.aload_n 0, 1) := by decide +kernel
theorem dd_S_sweep_17 : decode bb_S_sweep 17 = .ok (.getfield 41, 3) := by decide +kernel
theorem dd_S_sweep_20 : decode bb_S_sweep 20 = .ok (.getfield 127, 3) := by decide +kernel
theorem dd_S_sweep_23 : decode bb_S_sweep 23 = .ok (.getfield 131, 3) := by decide +kernel
theorem dd_S_sweep_26 : decode bb_S_sweep 26 = .ok (.iload_n 2, 1) := by decide +kernel
theorem dd_S_sweep_27 : decode bb_S_sweep 27 = .ok (.iaload, 1) := by decide +kernel
theorem dd_S_sweep_28 : decode bb_S_sweep 28 = .ok (.ifCond .ne 5, 3) := by decide +kernel
theorem dd_S_sweep_31 : decode bb_S_sweep 31 = .ok (.iconst (-1), 1) := by decide +kernel
theorem dd_S_sweep_32 : decode bb_S_sweep 32 = .ok (.ireturn, 1) := by decide +kernel
theorem dd_S_sweep_33 : decode bb_S_sweep 33 = .ok (.aload_n 0, 1) := by decide +kernel
theorem dd_S_sweep_34 : decode bb_S_sweep 34 = .ok (.getfield 52, 3) := by decide +kernel
theorem dd_S_sweep_37 : decode bb_S_sweep 37 = .ok (.aload_n 0, 1) := by decide +kernel
theorem dd_S_sweep_38 : decode bb_S_sweep 38 = .ok (.getfield 41, 3) := by decide +kernel
theorem dd_S_sweep_41 : decode bb_S_sweep 41 = .ok (.getfield 127, 3) := by decide +kernel
theorem dd_S_sweep_44 : decode bb_S_sweep 44 = .ok (.invokevirtual 173, 3) := by decide +kernel
theorem dd_S_sweep_47 : decode bb_S_sweep 47 = .ok (.aload_n 0, 1) := by decide +kernel
theorem dd_S_sweep_48 : decode bb_S_sweep 48 = .ok (.getfield 74, 3) := by decide +kernel
theorem dd_S_sweep_51 : decode bb_S_sweep 51 = .ok (.invokevirtual 177, 3) := by decide +kernel
theorem dd_S_sweep_54 : decode bb_S_sweep 54 = .ok (.aload_n 0, 1) := by decide +kernel
theorem dd_S_sweep_55 : decode bb_S_sweep 55 = .ok (.getfield 65, 3) := by decide +kernel
theorem dd_S_sweep_58 : decode bb_S_sweep 58 = .ok (.iload_n 1, 1) := by decide +kernel
theorem dd_S_sweep_59 : decode bb_S_sweep 59 = .ok (.iload_n 2, 1) := by decide +kernel
theorem dd_S_sweep_60 : decode bb_S_sweep 60 = .ok (.invokevirtual 190, 3) := by decide +kernel
theorem dd_S_sweep_63 : decode bb_S_sweep 63 = .ok (.istore_n 3, 1) := by decide +kernel
theorem dd_S_sweep_64 : decode bb_S_sweep 64 = .ok (.aload_n 0, 1) := by decide +kernel
theorem dd_S_sweep_65 : decode bb_S_sweep 65 = .ok (.getfield 41, 3) := by decide +kernel
theorem dd_S_sweep_68 : decode bb_S_sweep 68 = .ok (.getfield 127, 3) := by decide +kernel
theorem dd_S_sweep_71 : decode bb_S_sweep 71 = .ok (.aload_n 0, 1) := by decide +kernel
theorem dd_S_sweep_72 : decode bb_S_sweep 72 = .ok (.getfield 65, 3) := by decide +kernel
theorem dd_S_sweep_75 : decode bb_S_sweep 75 = .ok (.getfield 183, 3) := by decide +kernel
theorem dd_S_sweep_78 : decode bb_S_sweep 78 = .ok (.invokevirtual 184, 3) := by decide +kernel
theorem dd_S_sweep_81 : decode bb_S_sweep 81 = .ok (.iload_n 3, 1) := by decide +kernel
theorem dd_S_sweep_82 : decode bb_S_sweep 82 = .ok (.ireturn, 1) := by decide +kernel
def mm_S_sweep_j31 (N : Nat) (this : Option Nat) (a1 : Int32) (a2 : Int32) (h_31 : ss_Hp) : Option (Int32 × ss_Hp) :=
  some ((-1 : Int32), h_31)
def mm_S_sweep (N : Nat) (this : Option Nat) (a1 : Int32) (a2 : Int32) (h : ss_Hp) : Option (Int32 × ss_Hp) :=
  if ss_is h this 11 = true then
    (mm_S_isFree N this a1 h).bind fun v1 =>
    if v1 = 0 then
      mm_S_sweep_j31 N this a1 a2 h
    else
      (mm_S_isStep N this a2 h).bind fun v3 =>
      if v3 = 0 then
        mm_S_sweep_j31 N this a1 a2 h
      else
        (ss_gr h this 11 4).bind fun r5 =>
        (ss_gr h r5 8 1).bind fun r6 =>
        (ss_gr h r6 0 0).bind fun r7 =>
        (ss_ai h r7 20 a2).bind fun v8 =>
        if v8 = 0 then
          mm_S_sweep_j31 N this a1 a2 h
        else
          (ss_gr h this 11 6).bind fun r10 =>
          (ss_gr h this 11 4).bind fun r11 =>
          (ss_gr h r11 8 1).bind fun r12 =>
          (mm_A_keep N r10 r12 h).bind fun h13 =>
          (ss_gr h13 this 11 8).bind fun r14 =>
          (mm_F_start N r14 h13).bind fun h15 =>
          (ss_gr h15 this 11 7).bind fun r16 =>
          ss_b2 (mm_Wi_sweepBy N r16 a1 a2 h15) fun v17 h18 =>
          (ss_gr h18 this 11 4).bind fun r19 =>
          (ss_gr h18 r19 8 1).bind fun r20 =>
          (ss_gr h18 this 11 7).bind fun r21 =>
          (ss_gr h18 r21 7 0).bind fun r22 =>
          (mm_G_copyFrom N r20 r22 h18).bind fun h23 =>
          some (v17, h23)
  else none
abbrev ww_S_sweep (p : Program) (l : Launch) (e : Env) (s : State) (m : MethodId) (below : List Frame) (meth : Method) (c : Code) (G : ss_G) (this : Option Nat) (a1 : Int32) (a2 : Int32) (h : ss_Hp) (rr : Int32) (hh : ss_Hp) (H : Heap) (locs : List Loc) (k n : Nat) (g : JFrame) : Prop := W p l e (headSpec (ss_w yy_S_sweep bb_S_sweep 4 (some (.int))) ({ frames := 4, cells := 0, slots := 0, locals := 144 })).room s m ([ss_v (ss_b G) this, .int a1, .int a2] : List Value).toArray below meth c H locs k n (MQ below (ss_Qc G (some (.int rr)) hh) ([ss_v (ss_b G) this, .int a1, .int a2] : List Value).toArray s 0 0 (ss_A G)) g
theorem ck_S_sweep {N : Nat} {this : Option Nat} {a1 : Int32} {a2 : Int32} {h : ss_Hp} {res : Int32 × ss_Hp} (hm : mm_S_sweep N this a1 a2 h = some res) : ss_is h this 11 = true := (ss_chk hm).1
set_option maxHeartbeats 4000000 in
set_option maxRecDepth 100000 in
theorem cc_S_sweep (l : Launch) (G : ss_G) (N : Nat) (this : Option Nat) (a1 : Int32) (a2 : Int32) (h : ss_Hp) (rr : Int32) (hh : ss_Hp) (hm : mm_S_sweep N this a1 a2 h = some (rr, hh)) : ss_Ct l G yy_S_sweep bb_S_sweep 4 (some (.int)) ({ frames := 4, cells := 0, slots := 0, locals := 144 }) [ss_v (ss_b G) this, .int a1, .int a2] h (some (.int rr)) hh := by
  obtain ⟨hck, hm⟩ := ss_chk hm
  refine Met.ofW (cc := bb_S_sweep) (maxL := 4) (ret := (some (.int))) (by decide) rfl ?_
  intro p e s m args below meth c s₁ B hml hv
  obtain ⟨rfl, hR, hK⟩ := hv
  have hC : CallFix p m c bb_S_sweep 4 s _ lw_g sR_11 := ⟨B.exec, B.bytes, hml, findClass_of_methodNamed B.named, fun w hw => atoms_spec (ws := ss_w yy_S_sweep bb_S_sweep 4 (some (.int))) B.pre w (List.mem_cons_of_mem _ hw)⟩
  have hx := hC.1
  have hb := hC.2.1
  have hr := B.returns
  have hlocks := B.notSynchronized
  have hS : va_S (ss_A G) s.heap s.heap [] := va_S.rf
  have hl := lv_entry ([ss_v (ss_b G) this, .int a1, .int a2]) (n := 4) (by simp [lg_sl, ss_v_cat, ss_cat_i, ss_cat_l, ss_cat_r])
  rw [lg_entry_eq]
  generalize (lg_sl ([ss_v (ss_b G) this, .int a1, .int a2]) ++ List.replicate (4 - (lg_sl ([ss_v (ss_b G) this, .int a1, .int a2])).length) Slot.unset).toArray = ls at hl ⊢
  have hl : lv_has ls 4 [(0, ss_v (ss_b G) this), (1, .int a1), (2, .int a2)] := by simpa [lv_args, ss_v_cat, ss_cat_i, ss_cat_l, ss_cat_r] using hl
  have J_31 : ∀ (h_31 : ss_Hp) (H : Heap) (locs : List Loc) (ls : Array Slot), mm_S_sweep_j31 N this a1 a2 h_31 = some (rr, hh) → ss_R G h_31 H → va_S (ss_A G) s.heap H locs → lv_has ls 4 [] → ww_S_sweep p l e s m below meth c G this a1 a2 h rr hh  H locs 0 0 (F0 m 31 ls []) := by
    intro h_31 H locs ls hm hR hS hl
    refine lv_iconst (v := -1) hx hb dd_S_sweep_31 (by decide) ?_
    exact ss_iret hC hr hlocks hR hS hm dd_S_sweep_32
  refine ss_aload_n hx hb dd_S_sweep_0 rfl (lv_at hl 0 rfl) ?_
  refine lv_iload_n hx hb dd_S_sweep_1 rfl (lv_at hl 1 rfl) ?_
  obtain ⟨v1, qv1, hm⟩ := ss_bind hm
  refine ss_cV 0 0 (As := [.int a1]) hC hK hR hS hl.1 (cc_S_isFree l G N _ _ _ _ qv1) km_S_187 (ck_S_isFree qv1) ⟨Nat.le_of_ble_eq_true rfl, Nat.le_of_ble_eq_true rfl⟩ ⟨Nat.le_of_ble_eq_true rfl, Nat.le_of_ble_eq_true rfl, Nat.le_of_ble_eq_true rfl, Nat.le_of_ble_eq_true rfl⟩ rfl rfl (Nat.le_of_ble_eq_true rfl) dd_S_sweep_2 (fun H locs hR hS => ?_)
  refine lv_if_eq (tgt := 31) hx hb dd_S_sweep_5 (by decide) (fun c2 => ?_) (fun c2 => ?_)
  · have hm := ss_ift hm c2
    exact J_31 h _ _ _ hm hR hS (lv_sub hl [] rfl)
  · have hm := ss_iff hm c2
    refine ss_aload_n hx hb dd_S_sweep_8 rfl (lv_at hl 0 rfl) ?_
    refine lv_iload_n hx hb dd_S_sweep_9 rfl (lv_at hl 2 rfl) ?_
    obtain ⟨v3, qv3, hm⟩ := ss_bind hm
    refine ss_cV 0 0 (As := [.int a2]) hC hK hR hS hl.1 (cc_S_isStep l G N _ _ _ _ qv3) km_S_123 (ck_S_isStep qv3) ⟨Nat.le_of_ble_eq_true rfl, Nat.le_of_ble_eq_true rfl⟩ ⟨Nat.le_of_ble_eq_true rfl, Nat.le_of_ble_eq_true rfl, Nat.le_of_ble_eq_true rfl, Nat.le_of_ble_eq_true rfl⟩ rfl rfl (Nat.le_of_ble_eq_true rfl) dd_S_sweep_10 (fun H locs hR hS => ?_)
    refine lv_if_eq (tgt := 31) hx hb dd_S_sweep_13 (by decide) (fun c4 => ?_) (fun c4 => ?_)
    · have hm := ss_ift hm c4
      exact J_31 h _ _ _ hm hR hS (lv_sub hl [] rfl)
    · have hm := ss_iff hm c4
      refine ss_aload_n hx hb dd_S_sweep_16 rfl (lv_at hl 0 rfl) ?_
      obtain ⟨r5, qr5, hm⟩ := ss_bind hm
      refine ss_getr hC hK hR kf_S_41 rfl qr5 dd_S_sweep_17 ?_
      obtain ⟨r6, qr6, hm⟩ := ss_bind hm
      refine ss_getr hC hK hR kf_S_127 rfl qr6 dd_S_sweep_20 ?_
      obtain ⟨r7, qr7, hm⟩ := ss_bind hm
      refine ss_getr hC hK hR kf_S_131 rfl qr7 dd_S_sweep_23 ?_
      refine lv_iload_n hx hb dd_S_sweep_26 rfl (lv_at hl 2 rfl) ?_
      obtain ⟨v8, qv8, hm⟩ := ss_bind hm
      refine ss_iald hC hK hR qv8 dd_S_sweep_27 ?_
      refine lv_if_ne (tgt := 33) hx hb dd_S_sweep_28 (by decide) (fun c9 => ?_) (fun c9 => ?_)
      · have hm := ss_iff hm c9
        refine ss_aload_n hx hb dd_S_sweep_33 rfl (lv_at hl 0 rfl) ?_
        obtain ⟨r10, qr10, hm⟩ := ss_bind hm
        refine ss_getr hC hK hR kf_S_52 rfl qr10 dd_S_sweep_34 ?_
        refine ss_aload_n hx hb dd_S_sweep_37 rfl (lv_at hl 0 rfl) ?_
        obtain ⟨r11, qr11, hm⟩ := ss_bind hm
        refine ss_getr hC hK hR kf_S_41 rfl qr11 dd_S_sweep_38 ?_
        obtain ⟨r12, qr12, hm⟩ := ss_bind hm
        refine ss_getr hC hK hR kf_S_127 rfl qr12 dd_S_sweep_41 ?_
        obtain ⟨h13, qh13, hm⟩ := ss_bind hm
        refine ss_cVv 0 0 (As := [ss_v (ss_b G) r12]) hC hK hR hS hl.1 (cc_A_keep l G N _ _ _ _ qh13) km_S_173 (ck_A_keep qh13) ⟨Nat.le_of_ble_eq_true rfl, Nat.le_of_ble_eq_true rfl⟩ ⟨Nat.le_of_ble_eq_true rfl, Nat.le_of_ble_eq_true rfl, Nat.le_of_ble_eq_true rfl, Nat.le_of_ble_eq_true rfl⟩ rfl rfl (Nat.le_of_ble_eq_true rfl) dd_S_sweep_44 (fun H locs hR hS => ?_)
        refine ss_aload_n hx hb dd_S_sweep_47 rfl (lv_at hl 0 rfl) ?_
        obtain ⟨r14, qr14, hm⟩ := ss_bind hm
        refine ss_getr hC hK hR kf_S_74 rfl qr14 dd_S_sweep_48 ?_
        obtain ⟨h15, qh15, hm⟩ := ss_bind hm
        refine ss_cVv 0 0 (As := []) hC hK hR hS hl.1 (cc_F_start l G N _ _ _ qh15) km_S_177 (ck_F_start qh15) ⟨Nat.le_of_ble_eq_true rfl, Nat.le_of_ble_eq_true rfl⟩ ⟨Nat.le_of_ble_eq_true rfl, Nat.le_of_ble_eq_true rfl, Nat.le_of_ble_eq_true rfl, Nat.le_of_ble_eq_true rfl⟩ rfl rfl (Nat.le_of_ble_eq_true rfl) dd_S_sweep_51 (fun H locs hR hS => ?_)
        refine ss_aload_n hx hb dd_S_sweep_54 rfl (lv_at hl 0 rfl) ?_
        obtain ⟨r16, qr16, hm⟩ := ss_bind hm
        refine ss_getr hC hK hR kf_S_65 rfl qr16 dd_S_sweep_55 ?_
        refine lv_iload_n hx hb dd_S_sweep_58 rfl (lv_at hl 1 rfl) ?_
        refine lv_iload_n hx hb dd_S_sweep_59 rfl (lv_at hl 2 rfl) ?_
        obtain ⟨v17, h18, qh18, hm⟩ := ss_bind2 hm
        refine ss_cV 0 0 (As := [.int a1, .int a2]) hC hK hR hS hl.1 (cc_Wi_sweepBy l G N _ _ _ _ _ _ qh18) km_S_190 (ck_Wi_sweepBy qh18) ⟨Nat.le_of_ble_eq_true rfl, Nat.le_of_ble_eq_true rfl⟩ ⟨Nat.le_of_ble_eq_true rfl, Nat.le_of_ble_eq_true rfl, Nat.le_of_ble_eq_true rfl, Nat.le_of_ble_eq_true rfl⟩ rfl rfl (Nat.le_of_ble_eq_true rfl) dd_S_sweep_60 (fun H locs hR hS => ?_)
        refine lv_istore_n (lv' := [(3, .int v17), (0, ss_v (ss_b G) this), (1, .int a1), (2, .int a2)]) hx hb dd_S_sweep_63 rfl hl (by decide) rfl (fun ls hl => ?_)
        refine ss_aload_n hx hb dd_S_sweep_64 rfl (lv_at hl 1 rfl) ?_
        obtain ⟨r19, qr19, hm⟩ := ss_bind hm
        refine ss_getr hC hK hR kf_S_41 rfl qr19 dd_S_sweep_65 ?_
        obtain ⟨r20, qr20, hm⟩ := ss_bind hm
        refine ss_getr hC hK hR kf_S_127 rfl qr20 dd_S_sweep_68 ?_
        refine ss_aload_n hx hb dd_S_sweep_71 rfl (lv_at hl 1 rfl) ?_
        obtain ⟨r21, qr21, hm⟩ := ss_bind hm
        refine ss_getr hC hK hR kf_S_65 rfl qr21 dd_S_sweep_72 ?_
        obtain ⟨r22, qr22, hm⟩ := ss_bind hm
        refine ss_getr hC hK hR kf_S_183 rfl qr22 dd_S_sweep_75 ?_
        obtain ⟨h23, qh23, hm⟩ := ss_bind hm
        refine ss_cVv 0 0 (As := [ss_v (ss_b G) r22]) hC hK hR hS hl.1 (cc_G_copyFrom l G N _ _ _ _ qh23) km_S_184 (ck_G_copyFrom qh23) ⟨Nat.le_of_ble_eq_true rfl, Nat.le_of_ble_eq_true rfl⟩ ⟨Nat.le_of_ble_eq_true rfl, Nat.le_of_ble_eq_true rfl, Nat.le_of_ble_eq_true rfl, Nat.le_of_ble_eq_true rfl⟩ rfl rfl (Nat.le_of_ble_eq_true rfl) dd_S_sweep_78 (fun H locs hR hS => ?_)
        refine lv_iload_n hx hb dd_S_sweep_81 rfl (lv_at hl 0 rfl) ?_
        exact ss_iret hC hr hlocks hR hS hm dd_S_sweep_82
      · have hm := ss_ift hm c9
        exact J_31 h _ _ _ hm hR hS (lv_sub hl [] rfl)
theorem dd_S_isWithin_0 : decode bb_S_isWithin 0 = .ok (.iload_n 0, 1) := by decide +kernel
theorem dd_S_isWithin_1 : decode bb_S_isWithin 1 = .ok (.iload_n 1, 1) := by decide +kernel
theorem dd_S_isWithin_2 : decode bb_S_isWithin 2 = .ok (.if_icmp .lt 12, 3) := by decide +kernel
theorem dd_S_isWithin_5 : decode bb_S_isWithin 5 = .ok (.iload_n 0, 1) := by decide +kernel
theorem dd_S_isWithin_6 : decode bb_S_isWithin 6 = .ok (.iload_n 2, 1) := by decide +kernel
theorem dd_S_isWithin_7 : decode bb_S_isWithin 7 = .ok (.if_icmp .gt 7, 3) := by decide +kernel
theorem dd_S_isWithin_10 : decode bb_S_isWithin 10 = .ok (.iconst 1, 1) := by decide +kernel
theorem dd_S_isWithin_11 : decode bb_S_isWithin 11 = .ok (.goto 4, 3) := by decide +kernel
theorem dd_S_isWithin_14 : decode bb_S_isWithin 14 = .ok (.iconst 0, 1) := by decide +kernel
theorem dd_S_isWithin_15 : decode bb_S_isWithin 15 = .ok (.ireturn, 1) := by decide +kernel
def mm_S_isWithin_j15 (N : Nat) (a1 : Int32) (a2 : Int32) (a3 : Int32) (s0_15 : Int32) : Option Int32 :=
  (ss_bz s0_15).bind fun v1 =>
  some v1
def mm_S_isWithin_j14 (N : Nat) (a1 : Int32) (a2 : Int32) (a3 : Int32) : Option Int32 :=
  mm_S_isWithin_j15 N a1 a2 a3 (0 : Int32)
def mm_S_isWithin (N : Nat) (a1 : Int32) (a2 : Int32) (a3 : Int32) : Option Int32 :=
  if a1 < a2 then
    mm_S_isWithin_j14 N a1 a2 a3
  else
    if a3 < a1 then
      mm_S_isWithin_j14 N a1 a2 a3
    else
      mm_S_isWithin_j15 N a1 a2 a3 (1 : Int32)
abbrev ww_S_isWithin (p : Program) (l : Launch) (e : Env) (s : State) (m : MethodId) (below : List Frame) (meth : Method) (c : Code) (G : ss_G) (a1 : Int32) (a2 : Int32) (a3 : Int32) (h : ss_Hp) (rr : Int32) (H : Heap) (locs : List Loc) (k n : Nat) (g : JFrame) : Prop := W p l e (headSpec (ss_w yy_S_isWithin bb_S_isWithin 3 (some .boolean)) ({ frames := 0, cells := 0, slots := 0, locals := 0 })).room s m ([.int a1, .int a2, .int a3] : List Value).toArray below meth c H locs k n (MQ below (ss_Qc G (some (.int rr)) h) ([.int a1, .int a2, .int a3] : List Value).toArray s 0 0 (ss_A G)) g
set_option maxHeartbeats 4000000 in
set_option maxRecDepth 100000 in
theorem cc_S_isWithin (l : Launch) (G : ss_G) (N : Nat) (a1 : Int32) (a2 : Int32) (a3 : Int32) (h : ss_Hp) (rr : Int32) (hm : mm_S_isWithin N a1 a2 a3 = some rr) : ss_Ct l G yy_S_isWithin bb_S_isWithin 3 (some .boolean) ({ frames := 0, cells := 0, slots := 0, locals := 0 }) [.int a1, .int a2, .int a3] h (some (.int rr)) h := by
  refine Met.ofW (cc := bb_S_isWithin) (maxL := 3) (ret := (some .boolean)) (by decide) rfl ?_
  intro p e s m args below meth c s₁ B hml hv
  obtain ⟨rfl, hR, hK⟩ := hv
  have hC : CallFix p m c bb_S_isWithin 3 s _ lw_g sR_11 := ⟨B.exec, B.bytes, hml, findClass_of_methodNamed B.named, fun w hw => atoms_spec (ws := ss_w yy_S_isWithin bb_S_isWithin 3 (some .boolean)) B.pre w (List.mem_cons_of_mem _ hw)⟩
  have hx := hC.1
  have hb := hC.2.1
  have hr := B.returns
  have hlocks := B.notSynchronized
  have hS : va_S (ss_A G) s.heap s.heap [] := va_S.rf
  have hl := lv_entry ([.int a1, .int a2, .int a3]) (n := 3) (Nat.le_of_ble_eq_true rfl)
  rw [lg_entry_eq]
  generalize (lg_sl ([.int a1, .int a2, .int a3]) ++ List.replicate (3 - (lg_sl ([.int a1, .int a2, .int a3])).length) Slot.unset).toArray = ls at hl ⊢
  have hl : lv_has ls 3 [(0, .int a1), (1, .int a2), (2, .int a3)] := hl
  have J_15 : ∀ (s0_15 : Int32) (H : Heap) (locs : List Loc) (ls : Array Slot), mm_S_isWithin_j15 N a1 a2 a3 s0_15 = some rr → ss_R G h H → va_S (ss_A G) s.heap H locs → lv_has ls 3 [] → ww_S_isWithin p l e s m below meth c G a1 a2 a3 h rr  H locs 0 0 (F0 m 15 ls [.int s0_15]) := by
    intro s0_15 H locs ls hm hR hS hl
    obtain ⟨v1, qv1, hm⟩ := ss_bind hm
    obtain ⟨hnb, rfl⟩ := ss_bzs qv1
    exact ss_zret hC hr hnb hlocks hR hS (ss_with _ hm) dd_S_isWithin_15
  have J_14 : ∀  (H : Heap) (locs : List Loc) (ls : Array Slot), mm_S_isWithin_j14 N a1 a2 a3 = some rr → ss_R G h H → va_S (ss_A G) s.heap H locs → lv_has ls 3 [] → ww_S_isWithin p l e s m below meth c G a1 a2 a3 h rr  H locs 0 0 (F0 m 14 ls []) := by
    intro  H locs ls hm hR hS hl
    refine lv_iconst (v := 0) hx hb dd_S_isWithin_14 (by decide) ?_
    exact J_15 (0 : Int32)  _ _ _ hm hR hS hl
  refine lv_iload_n hx hb dd_S_isWithin_0 rfl (lv_at hl 0 rfl) ?_
  refine lv_iload_n hx hb dd_S_isWithin_1 rfl (lv_at hl 1 rfl) ?_
  refine lv_icmp_lt (tgt := 14) hx hb dd_S_isWithin_2 (by decide) (fun c2 => ?_) (fun c2 => ?_)
  · have hm := ss_ift hm c2
    exact J_14  _ _ _ hm hR hS (lv_sub hl [] rfl)
  · have hm := ss_iff hm c2
    refine lv_iload_n hx hb dd_S_isWithin_5 rfl (lv_at hl 0 rfl) ?_
    refine lv_iload_n hx hb dd_S_isWithin_6 rfl (lv_at hl 2 rfl) ?_
    refine lv_icmp_gt (tgt := 14) hx hb dd_S_isWithin_7 (by decide) (fun c3 => ?_) (fun c3 => ?_)
    · have hm := ss_ift hm c3
      exact J_14  _ _ _ hm hR hS (lv_sub hl [] rfl)
    · have hm := ss_iff hm c3
      refine lv_iconst (v := 1) hx hb dd_S_isWithin_10 (by decide) ?_
      refine lv_goto (tgt := 15) hx hb dd_S_isWithin_11 (by decide) ?_
      exact J_15 (1 : Int32)  _ _ _ hm hR hS (lv_sub hl [] rfl)
theorem dd_S_toss_0 : decode bb_S_toss 0 = .ok (.aload_n 0, 1) := by decide +kernel
theorem dd_S_toss_1 : decode bb_S_toss 1 = .ok (.iload_n 1, 1) := by decide +kernel
theorem dd_S_toss_2 : decode bb_S_toss 2 = .ok (.invokevirtual 123, 3) := by decide +kernel
theorem dd_S_toss_5 : decode bb_S_toss 5 = .ok (.ifCond .eq 13, 3) := by decide +kernel
theorem dd_S_toss_8 : decode bb_S_toss 8 = .ok (.iload_n 2, 1) := by decide +kernel
theorem dd_S_toss_9 : decode bb_S_toss 9 = .ok (.iconst 1, 1) := by decide +kernel
theorem dd_S_toss_10 : decode bb_S_toss 10 = .ok (.bipush 99, 2) := by decide +kernel
theorem dd_S_toss_12 : decode bb_S_toss 12 = .ok (.invokestatic 194, 3) := by decide +kernel
theorem dd_S_toss_15 : decode bb_S_toss 15 = .ok (.ifCond .ne 5, 3) := by decide +kernel
theorem dd_S_toss_18 : decode bb_S_toss 18 = .ok (.iconst (-1), 1) := by decide +kernel
theorem dd_S_toss_19 : decode bb_S_toss 19 = .ok (.ireturn, 1) := by decide +kernel
theorem dd_S_toss_20 : decode bb_S_toss 20 = .ok (.aload_n 0, 1) := by decide +kernel
theorem dd_S_toss_21 : decode bb_S_toss 21 = .ok (.getfield 52, 3) := by decide +kernel
theorem dd_S_toss_24 : decode bb_S_toss 24 = .ok (.aload_n 0, 1) := by decide +kernel
theorem dd_S_toss_25 : decode bb_S_toss 25 = .ok (.getfield 41, 3) := by decide +kernel
theorem dd_S_toss_28 : decode bb_S_toss 28 = .ok (.getfield 127, 3) := by decide +kernel
theorem dd_S_toss_31 : decode bb_S_toss 31 = .ok (.invokevirtual 173, 3) := by decide +kernel
theorem dd_S_toss_34 : decode bb_S_toss 34 = .ok (.aload_n 0, 1) := by decide +kernel
theorem dd_S_toss_35 : decode bb_S_toss 35 = .ok (.getfield 41, 3) := by decide +kernel
theorem dd_S_toss_38 : decode bb_S_toss 38 = .ok (.getfield 127, 3) := by decide +kernel
theorem dd_S_toss_41 : decode bb_S_toss 41 = .ok (.iload_n 1, 1) := by decide +kernel
theorem dd_S_toss_42 : decode bb_S_toss 42 = .ok (.iload_n 2, 1) := by decide +kernel
theorem dd_S_toss_43 : decode bb_S_toss 43 = .ok (.invokevirtual 198, 3) := by decide +kernel
theorem dd_S_toss_46 : decode bb_S_toss 46 = .ok (.aload_n 0, 1) := by decide +kernel
theorem dd_S_toss_47 : decode bb_S_toss 47 = .ok (.getfield 41, 3) := by decide +kernel
theorem dd_S_toss_50 : decode bb_S_toss 50 = .ok (.getfield 127, 3) := by decide +kernel
theorem dd_S_toss_53 : decode bb_S_toss 53 = .ok (.getfield 131, 3) := by decide +kernel
theorem dd_S_toss_56 : decode bb_S_toss 56 = .ok (.iload_n 1, 1) := by decide +kernel
theorem dd_S_toss_57 : decode bb_S_toss 57 = .ok (.iaload, 1) := by decide +kernel
theorem dd_S_toss_58 : decode bb_S_toss 58 = .ok (.ireturn, 1) := by decide +kernel
def mm_S_toss_j18 (N : Nat) (this : Option Nat) (a1 : Int32) (a2 : Int32) (h_18 : ss_Hp) : Option (Int32 × ss_Hp) :=
  some ((-1 : Int32), h_18)
def mm_S_toss (N : Nat) (this : Option Nat) (a1 : Int32) (a2 : Int32) (h : ss_Hp) : Option (Int32 × ss_Hp) :=
  if ss_is h this 11 = true then
    (mm_S_isStep N this a1 h).bind fun v1 =>
    if v1 = 0 then
      mm_S_toss_j18 N this a1 a2 h
    else
      (mm_S_isWithin N a2 (1 : Int32) (99 : Int32)).bind fun v3 =>
      if v3 = 0 then
        mm_S_toss_j18 N this a1 a2 h
      else
        (ss_gr h this 11 6).bind fun r5 =>
        (ss_gr h this 11 4).bind fun r6 =>
        (ss_gr h r6 8 1).bind fun r7 =>
        (mm_A_keep N r5 r7 h).bind fun h8 =>
        (ss_gr h8 this 11 4).bind fun r9 =>
        (ss_gr h8 r9 8 1).bind fun r10 =>
        (mm_G_lay N r10 a1 a2 h8).bind fun h11 =>
        (ss_gr h11 this 11 4).bind fun r12 =>
        (ss_gr h11 r12 8 1).bind fun r13 =>
        (ss_gr h11 r13 0 0).bind fun r14 =>
        (ss_ai h11 r14 20 a1).bind fun v15 =>
        some (v15, h11)
  else none
abbrev ww_S_toss (p : Program) (l : Launch) (e : Env) (s : State) (m : MethodId) (below : List Frame) (meth : Method) (c : Code) (G : ss_G) (this : Option Nat) (a1 : Int32) (a2 : Int32) (h : ss_Hp) (rr : Int32) (hh : ss_Hp) (H : Heap) (locs : List Loc) (k n : Nat) (g : JFrame) : Prop := W p l e (headSpec (ss_w yy_S_toss bb_S_toss 3 (some (.int))) ({ frames := 3, cells := 0, slots := 0, locals := 122 })).room s m ([ss_v (ss_b G) this, .int a1, .int a2] : List Value).toArray below meth c H locs k n (MQ below (ss_Qc G (some (.int rr)) hh) ([ss_v (ss_b G) this, .int a1, .int a2] : List Value).toArray s 0 0 (ss_A G)) g
theorem ck_S_toss {N : Nat} {this : Option Nat} {a1 : Int32} {a2 : Int32} {h : ss_Hp} {res : Int32 × ss_Hp} (hm : mm_S_toss N this a1 a2 h = some res) : ss_is h this 11 = true := (ss_chk hm).1
set_option maxHeartbeats 4000000 in
set_option maxRecDepth 100000 in
theorem cc_S_toss (l : Launch) (G : ss_G) (N : Nat) (this : Option Nat) (a1 : Int32) (a2 : Int32) (h : ss_Hp) (rr : Int32) (hh : ss_Hp) (hm : mm_S_toss N this a1 a2 h = some (rr, hh)) : ss_Ct l G yy_S_toss bb_S_toss 3 (some (.int)) ({ frames := 3, cells := 0, slots := 0, locals := 122 }) [ss_v (ss_b G) this, .int a1, .int a2] h (some (.int rr)) hh := by
  obtain ⟨hck, hm⟩ := ss_chk hm
  refine Met.ofW (cc := bb_S_toss) (maxL := 3) (ret := (some (.int))) (by decide) rfl ?_
  intro p e s m args below meth c s₁ B hml hv
  obtain ⟨rfl, hR, hK⟩ := hv
  have hC : CallFix p m c bb_S_toss 3 s _ lw_g sR_11 := ⟨B.exec, B.bytes, hml, findClass_of_methodNamed B.named, fun w hw => atoms_spec (ws := ss_w yy_S_toss bb_S_toss 3 (some (.int))) B.pre w (List.mem_cons_of_mem _ hw)⟩
  have hx := hC.1
  have hb := hC.2.1
  have hr := B.returns
  have hlocks := B.notSynchronized
  have hS : va_S (ss_A G) s.heap s.heap [] := va_S.rf
  have hl := lv_entry ([ss_v (ss_b G) this, .int a1, .int a2]) (n := 3) (by simp [lg_sl, ss_v_cat, ss_cat_i, ss_cat_l, ss_cat_r])
  rw [lg_entry_eq]
  generalize (lg_sl ([ss_v (ss_b G) this, .int a1, .int a2]) ++ List.replicate (3 - (lg_sl ([ss_v (ss_b G) this, .int a1, .int a2])).length) Slot.unset).toArray = ls at hl ⊢
  have hl : lv_has ls 3 [(0, ss_v (ss_b G) this), (1, .int a1), (2, .int a2)] := by simpa [lv_args, ss_v_cat, ss_cat_i, ss_cat_l, ss_cat_r] using hl
  have J_18 : ∀ (h_18 : ss_Hp) (H : Heap) (locs : List Loc) (ls : Array Slot), mm_S_toss_j18 N this a1 a2 h_18 = some (rr, hh) → ss_R G h_18 H → va_S (ss_A G) s.heap H locs → lv_has ls 3 [] → ww_S_toss p l e s m below meth c G this a1 a2 h rr hh  H locs 0 0 (F0 m 18 ls []) := by
    intro h_18 H locs ls hm hR hS hl
    refine lv_iconst (v := -1) hx hb dd_S_toss_18 (by decide) ?_
    exact ss_iret hC hr hlocks hR hS hm dd_S_toss_19
  refine ss_aload_n hx hb dd_S_toss_0 rfl (lv_at hl 0 rfl) ?_
  refine lv_iload_n hx hb dd_S_toss_1 rfl (lv_at hl 1 rfl) ?_
  obtain ⟨v1, qv1, hm⟩ := ss_bind hm
  refine ss_cV 0 0 (As := [.int a1]) hC hK hR hS hl.1 (cc_S_isStep l G N _ _ _ _ qv1) km_S_123 (ck_S_isStep qv1) ⟨Nat.le_of_ble_eq_true rfl, Nat.le_of_ble_eq_true rfl⟩ ⟨Nat.le_of_ble_eq_true rfl, Nat.le_of_ble_eq_true rfl, Nat.le_of_ble_eq_true rfl, Nat.le_of_ble_eq_true rfl⟩ rfl rfl (Nat.le_of_ble_eq_true rfl) dd_S_toss_2 (fun H locs hR hS => ?_)
  refine lv_if_eq (tgt := 18) hx hb dd_S_toss_5 (by decide) (fun c2 => ?_) (fun c2 => ?_)
  · have hm := ss_ift hm c2
    exact J_18 h _ _ _ hm hR hS (lv_sub hl [] rfl)
  · have hm := ss_iff hm c2
    refine lv_iload_n hx hb dd_S_toss_8 rfl (lv_at hl 2 rfl) ?_
    refine lv_iconst (v := 1) hx hb dd_S_toss_9 (by decide) ?_
    refine lv_bipush (v := 99) hx hb dd_S_toss_10 (by decide) ?_
    obtain ⟨v3, qv3, hm⟩ := ss_bind hm
    refine ss_cS 0 0 (As := [.int a2, .int (1 : Int32), .int (99 : Int32)]) hC hK hR hS hl.1 (cc_S_isWithin l G N _ _ _ _ _ qv3) km_S_194 ⟨Nat.le_of_ble_eq_true rfl, Nat.le_of_ble_eq_true rfl⟩ ⟨Nat.le_of_ble_eq_true rfl, Nat.le_of_ble_eq_true rfl, Nat.le_of_ble_eq_true rfl, Nat.le_of_ble_eq_true rfl⟩ rfl rfl (Nat.le_of_ble_eq_true rfl) dd_S_toss_12 (fun H locs hR hS => ?_)
    refine lv_if_ne (tgt := 20) hx hb dd_S_toss_15 (by decide) (fun c4 => ?_) (fun c4 => ?_)
    · have hm := ss_iff hm c4
      refine ss_aload_n hx hb dd_S_toss_20 rfl (lv_at hl 0 rfl) ?_
      obtain ⟨r5, qr5, hm⟩ := ss_bind hm
      refine ss_getr hC hK hR kf_S_52 rfl qr5 dd_S_toss_21 ?_
      refine ss_aload_n hx hb dd_S_toss_24 rfl (lv_at hl 0 rfl) ?_
      obtain ⟨r6, qr6, hm⟩ := ss_bind hm
      refine ss_getr hC hK hR kf_S_41 rfl qr6 dd_S_toss_25 ?_
      obtain ⟨r7, qr7, hm⟩ := ss_bind hm
      refine ss_getr hC hK hR kf_S_127 rfl qr7 dd_S_toss_28 ?_
      obtain ⟨h8, qh8, hm⟩ := ss_bind hm
      refine ss_cVv 0 0 (As := [ss_v (ss_b G) r7]) hC hK hR hS hl.1 (cc_A_keep l G N _ _ _ _ qh8) km_S_173 (ck_A_keep qh8) ⟨Nat.le_of_ble_eq_true rfl, Nat.le_of_ble_eq_true rfl⟩ ⟨Nat.le_of_ble_eq_true rfl, Nat.le_of_ble_eq_true rfl, Nat.le_of_ble_eq_true rfl, Nat.le_of_ble_eq_true rfl⟩ rfl rfl (Nat.le_of_ble_eq_true rfl) dd_S_toss_31 (fun H locs hR hS => ?_)
      refine ss_aload_n hx hb dd_S_toss_34 rfl (lv_at hl 0 rfl) ?_
      obtain ⟨r9, qr9, hm⟩ := ss_bind hm
      refine ss_getr hC hK hR kf_S_41 rfl qr9 dd_S_toss_35 ?_
      obtain ⟨r10, qr10, hm⟩ := ss_bind hm
      refine ss_getr hC hK hR kf_S_127 rfl qr10 dd_S_toss_38 ?_
      refine lv_iload_n hx hb dd_S_toss_41 rfl (lv_at hl 1 rfl) ?_
      refine lv_iload_n hx hb dd_S_toss_42 rfl (lv_at hl 2 rfl) ?_
      obtain ⟨h11, qh11, hm⟩ := ss_bind hm
      refine ss_cVv 0 0 (As := [.int a1, .int a2]) hC hK hR hS hl.1 (cc_G_lay l G N _ _ _ _ _ qh11) km_S_198 (ck_G_lay qh11) ⟨Nat.le_of_ble_eq_true rfl, Nat.le_of_ble_eq_true rfl⟩ ⟨Nat.le_of_ble_eq_true rfl, Nat.le_of_ble_eq_true rfl, Nat.le_of_ble_eq_true rfl, Nat.le_of_ble_eq_true rfl⟩ rfl rfl (Nat.le_of_ble_eq_true rfl) dd_S_toss_43 (fun H locs hR hS => ?_)
      refine ss_aload_n hx hb dd_S_toss_46 rfl (lv_at hl 0 rfl) ?_
      obtain ⟨r12, qr12, hm⟩ := ss_bind hm
      refine ss_getr hC hK hR kf_S_41 rfl qr12 dd_S_toss_47 ?_
      obtain ⟨r13, qr13, hm⟩ := ss_bind hm
      refine ss_getr hC hK hR kf_S_127 rfl qr13 dd_S_toss_50 ?_
      obtain ⟨r14, qr14, hm⟩ := ss_bind hm
      refine ss_getr hC hK hR kf_S_131 rfl qr14 dd_S_toss_53 ?_
      refine lv_iload_n hx hb dd_S_toss_56 rfl (lv_at hl 1 rfl) ?_
      obtain ⟨v15, qv15, hm⟩ := ss_bind hm
      refine ss_iald hC hK hR qv15 dd_S_toss_57 ?_
      exact ss_iret hC hr hlocks hR hS hm dd_S_toss_58
    · have hm := ss_ift hm c4
      exact J_18 h _ _ _ hm hR hS (lv_sub hl [] rfl)
theorem dd_S_pull_0 : decode bb_S_pull 0 = .ok (.aload_n 0, 1) := by decide +kernel
theorem dd_S_pull_1 : decode bb_S_pull 1 = .ok (.iload_n 1, 1) := by decide +kernel
theorem dd_S_pull_2 : decode bb_S_pull 2 = .ok (.invokevirtual 123, 3) := by decide +kernel
theorem dd_S_pull_5 : decode bb_S_pull 5 = .ok (.ifCond .eq 19, 3) := by decide +kernel
theorem dd_S_pull_8 : decode bb_S_pull 8 = .ok (.aload_n 0, 1) := by decide +kernel
theorem dd_S_pull_9 : decode bb_S_pull 9 = .ok (.getfield 41, 3) := by decide +kernel
theorem dd_S_pull_12 : decode bb_S_pull 12 = .ok (.getfield 127, 3) := by decide +kernel
theorem dd_S_pull_15 : decode bb_S_pull 15 = .ok (.getfield 144, 3) := by decide +kernel
theorem dd_S_pull_18 : decode bb_S_pull 18 = .ok (.iload_n 1, 1) := by decide +kernel
theorem dd_S_pull_19 : decode bb_S_pull 19 = .ok (.iaload, 1) := by decide +kernel
theorem dd_S_pull_20 : decode bb_S_pull 20 = .ok (.iconst (-1), 1) := by decide +kernel
theorem dd_S_pull_21 : decode bb_S_pull 21 = .ok (.if_icmp .ne 5, 3) := by decide +kernel
theorem dd_S_pull_24 : decode bb_S_pull 24 = .ok (.iconst (-1), 1) := by decide +kernel
theorem dd_S_pull_25 : decode bb_S_pull 25 = .ok (.ireturn, 1) := by decide +kernel
theorem dd_S_pull_26 : decode bb_S_pull 26 = .ok (.aload_n 0, 1) := by decide +kernel
theorem dd_S_pull_27 : decode bb_S_pull 27 = .ok (.getfield 52, 3) := by decide +kernel
theorem dd_S_pull_30 : decode bb_S_pull 30 = .ok (.aload_n 0, 1) := by decide +kernel
theorem dd_S_pull_31 : decode bb_S_pull 31 = .ok (.getfield 41, 3) := by decide +kernel
theorem dd_S_pull_34 : decode bb_S_pull 34 = .ok (.getfield 127, 3) := by decide +kernel
theorem dd_S_pull_37 : decode bb_S_pull 37 = .ok (.invokevirtual 173, 3) := by decide +kernel
theorem dd_S_pull_40 : decode bb_S_pull 40 = .ok (.aload_n 0, 1) := by decide +kernel
theorem dd_S_pull_41 : decode bb_S_pull 41 = .ok (.getfield 41, 3) := by decide +kernel
theorem dd_S_pull_44 : decode bb_S_pull 44 = .ok (.getfield 127, 3) := by decide +kernel
theorem dd_S_pull_47 : decode bb_S_pull 47 = .ok (.getfield 144, 3) := by decide +kernel
theorem dd_S_pull_50 : decode bb_S_pull 50 = .ok (.iload_n 1, 1) := by decide +kernel
theorem dd_S_pull_51 : decode bb_S_pull 51 = .ok (.iaload, 1) := by decide +kernel
theorem dd_S_pull_52 : decode bb_S_pull 52 = .ok (.istore_n 2, 1) := by decide +kernel
theorem dd_S_pull_53 : decode bb_S_pull 53 = .ok (.aload_n 0, 1) := by decide +kernel
theorem dd_S_pull_54 : decode bb_S_pull 54 = .ok (.getfield 41, 3) := by decide +kernel
theorem dd_S_pull_57 : decode bb_S_pull 57 = .ok (.getfield 127, 3) := by decide +kernel
theorem dd_S_pull_60 : decode bb_S_pull 60 = .ok (.getfield 144, 3) := by decide +kernel
theorem dd_S_pull_63 : decode bb_S_pull 63 = .ok (.iload_n 1, 1) := by decide +kernel
theorem dd_S_pull_64 : decode bb_S_pull 64 = .ok (.iconst (-1), 1) := by decide +kernel
theorem dd_S_pull_65 : decode bb_S_pull 65 = .ok (.iastore, 1) := by decide +kernel
theorem dd_S_pull_66 : decode bb_S_pull 66 = .ok (.iload_n 2, 1) := by decide +kernel
theorem dd_S_pull_67 : decode bb_S_pull 67 = .ok (.ireturn, 1) := by decide +kernel
def mm_S_pull_j24 (N : Nat) (this : Option Nat) (a1 : Int32) (h_24 : ss_Hp) : Option (Int32 × ss_Hp) :=
  some ((-1 : Int32), h_24)
def mm_S_pull (N : Nat) (this : Option Nat) (a1 : Int32) (h : ss_Hp) : Option (Int32 × ss_Hp) :=
  if ss_is h this 11 = true then
    (mm_S_isStep N this a1 h).bind fun v1 =>
    if v1 = 0 then
      mm_S_pull_j24 N this a1 h
    else
      (ss_gr h this 11 4).bind fun r3 =>
      (ss_gr h r3 8 1).bind fun r4 =>
      (ss_gr h r4 0 1).bind fun r5 =>
      (ss_ai h r5 20 a1).bind fun v6 =>
      if v6 = (-1 : Int32) then
        mm_S_pull_j24 N this a1 h
      else
        (ss_gr h this 11 6).bind fun r8 =>
        (ss_gr h this 11 4).bind fun r9 =>
        (ss_gr h r9 8 1).bind fun r10 =>
        (mm_A_keep N r8 r10 h).bind fun h11 =>
        (ss_gr h11 this 11 4).bind fun r12 =>
        (ss_gr h11 r12 8 1).bind fun r13 =>
        (ss_gr h11 r13 0 1).bind fun r14 =>
        (ss_ai h11 r14 20 a1).bind fun v15 =>
        (ss_gr h11 this 11 4).bind fun r16 =>
        (ss_gr h11 r16 8 1).bind fun r17 =>
        (ss_gr h11 r17 0 1).bind fun r18 =>
        (ss_ui h11 r18 20 a1 (-1 : Int32)).bind fun h19 =>
        some (v15, h19)
  else none
abbrev ww_S_pull (p : Program) (l : Launch) (e : Env) (s : State) (m : MethodId) (below : List Frame) (meth : Method) (c : Code) (G : ss_G) (this : Option Nat) (a1 : Int32) (h : ss_Hp) (rr : Int32) (hh : ss_Hp) (H : Heap) (locs : List Loc) (k n : Nat) (g : JFrame) : Prop := W p l e (headSpec (ss_w yy_S_pull bb_S_pull 3 (some (.int))) ({ frames := 3, cells := 0, slots := 0, locals := 122 })).room s m ([ss_v (ss_b G) this, .int a1] : List Value).toArray below meth c H locs k n (MQ below (ss_Qc G (some (.int rr)) hh) ([ss_v (ss_b G) this, .int a1] : List Value).toArray s 0 0 (ss_A G)) g
theorem ck_S_pull {N : Nat} {this : Option Nat} {a1 : Int32} {h : ss_Hp} {res : Int32 × ss_Hp} (hm : mm_S_pull N this a1 h = some res) : ss_is h this 11 = true := (ss_chk hm).1
set_option maxHeartbeats 4000000 in
set_option maxRecDepth 100000 in
theorem cc_S_pull (l : Launch) (G : ss_G) (N : Nat) (this : Option Nat) (a1 : Int32) (h : ss_Hp) (rr : Int32) (hh : ss_Hp) (hm : mm_S_pull N this a1 h = some (rr, hh)) : ss_Ct l G yy_S_pull bb_S_pull 3 (some (.int)) ({ frames := 3, cells := 0, slots := 0, locals := 122 }) [ss_v (ss_b G) this, .int a1] h (some (.int rr)) hh := by
  obtain ⟨hck, hm⟩ := ss_chk hm
  refine Met.ofW (cc := bb_S_pull) (maxL := 3) (ret := (some (.int))) (by decide) rfl ?_
  intro p e s m args below meth c s₁ B hml hv
  obtain ⟨rfl, hR, hK⟩ := hv
  have hC : CallFix p m c bb_S_pull 3 s _ lw_g sR_11 := ⟨B.exec, B.bytes, hml, findClass_of_methodNamed B.named, fun w hw => atoms_spec (ws := ss_w yy_S_pull bb_S_pull 3 (some (.int))) B.pre w (List.mem_cons_of_mem _ hw)⟩
  have hx := hC.1
  have hb := hC.2.1
  have hr := B.returns
  have hlocks := B.notSynchronized
  have hS : va_S (ss_A G) s.heap s.heap [] := va_S.rf
  have hl := lv_entry ([ss_v (ss_b G) this, .int a1]) (n := 3) (by simp [lg_sl, ss_v_cat, ss_cat_i, ss_cat_l, ss_cat_r])
  rw [lg_entry_eq]
  generalize (lg_sl ([ss_v (ss_b G) this, .int a1]) ++ List.replicate (3 - (lg_sl ([ss_v (ss_b G) this, .int a1])).length) Slot.unset).toArray = ls at hl ⊢
  have hl : lv_has ls 3 [(0, ss_v (ss_b G) this), (1, .int a1)] := by simpa [lv_args, ss_v_cat, ss_cat_i, ss_cat_l, ss_cat_r] using hl
  have J_24 : ∀ (h_24 : ss_Hp) (H : Heap) (locs : List Loc) (ls : Array Slot), mm_S_pull_j24 N this a1 h_24 = some (rr, hh) → ss_R G h_24 H → va_S (ss_A G) s.heap H locs → lv_has ls 3 [] → ww_S_pull p l e s m below meth c G this a1 h rr hh  H locs 0 0 (F0 m 24 ls []) := by
    intro h_24 H locs ls hm hR hS hl
    refine lv_iconst (v := -1) hx hb dd_S_pull_24 (by decide) ?_
    exact ss_iret hC hr hlocks hR hS hm dd_S_pull_25
  refine ss_aload_n hx hb dd_S_pull_0 rfl (lv_at hl 0 rfl) ?_
  refine lv_iload_n hx hb dd_S_pull_1 rfl (lv_at hl 1 rfl) ?_
  obtain ⟨v1, qv1, hm⟩ := ss_bind hm
  refine ss_cV 0 0 (As := [.int a1]) hC hK hR hS hl.1 (cc_S_isStep l G N _ _ _ _ qv1) km_S_123 (ck_S_isStep qv1) ⟨Nat.le_of_ble_eq_true rfl, Nat.le_of_ble_eq_true rfl⟩ ⟨Nat.le_of_ble_eq_true rfl, Nat.le_of_ble_eq_true rfl, Nat.le_of_ble_eq_true rfl, Nat.le_of_ble_eq_true rfl⟩ rfl rfl (Nat.le_of_ble_eq_true rfl) dd_S_pull_2 (fun H locs hR hS => ?_)
  refine lv_if_eq (tgt := 24) hx hb dd_S_pull_5 (by decide) (fun c2 => ?_) (fun c2 => ?_)
  · have hm := ss_ift hm c2
    exact J_24 h _ _ _ hm hR hS (lv_sub hl [] rfl)
  · have hm := ss_iff hm c2
    refine ss_aload_n hx hb dd_S_pull_8 rfl (lv_at hl 0 rfl) ?_
    obtain ⟨r3, qr3, hm⟩ := ss_bind hm
    refine ss_getr hC hK hR kf_S_41 rfl qr3 dd_S_pull_9 ?_
    obtain ⟨r4, qr4, hm⟩ := ss_bind hm
    refine ss_getr hC hK hR kf_S_127 rfl qr4 dd_S_pull_12 ?_
    obtain ⟨r5, qr5, hm⟩ := ss_bind hm
    refine ss_getr hC hK hR kf_S_144 rfl qr5 dd_S_pull_15 ?_
    refine lv_iload_n hx hb dd_S_pull_18 rfl (lv_at hl 1 rfl) ?_
    obtain ⟨v6, qv6, hm⟩ := ss_bind hm
    refine ss_iald hC hK hR qv6 dd_S_pull_19 ?_
    refine lv_iconst (v := -1) hx hb dd_S_pull_20 (by decide) ?_
    refine lv_icmp_ne (tgt := 26) hx hb dd_S_pull_21 (by decide) (fun c7 => ?_) (fun c7 => ?_)
    · have hm := ss_iff hm c7
      refine ss_aload_n hx hb dd_S_pull_26 rfl (lv_at hl 0 rfl) ?_
      obtain ⟨r8, qr8, hm⟩ := ss_bind hm
      refine ss_getr hC hK hR kf_S_52 rfl qr8 dd_S_pull_27 ?_
      refine ss_aload_n hx hb dd_S_pull_30 rfl (lv_at hl 0 rfl) ?_
      obtain ⟨r9, qr9, hm⟩ := ss_bind hm
      refine ss_getr hC hK hR kf_S_41 rfl qr9 dd_S_pull_31 ?_
      obtain ⟨r10, qr10, hm⟩ := ss_bind hm
      refine ss_getr hC hK hR kf_S_127 rfl qr10 dd_S_pull_34 ?_
      obtain ⟨h11, qh11, hm⟩ := ss_bind hm
      refine ss_cVv 0 0 (As := [ss_v (ss_b G) r10]) hC hK hR hS hl.1 (cc_A_keep l G N _ _ _ _ qh11) km_S_173 (ck_A_keep qh11) ⟨Nat.le_of_ble_eq_true rfl, Nat.le_of_ble_eq_true rfl⟩ ⟨Nat.le_of_ble_eq_true rfl, Nat.le_of_ble_eq_true rfl, Nat.le_of_ble_eq_true rfl, Nat.le_of_ble_eq_true rfl⟩ rfl rfl (Nat.le_of_ble_eq_true rfl) dd_S_pull_37 (fun H locs hR hS => ?_)
      refine ss_aload_n hx hb dd_S_pull_40 rfl (lv_at hl 0 rfl) ?_
      obtain ⟨r12, qr12, hm⟩ := ss_bind hm
      refine ss_getr hC hK hR kf_S_41 rfl qr12 dd_S_pull_41 ?_
      obtain ⟨r13, qr13, hm⟩ := ss_bind hm
      refine ss_getr hC hK hR kf_S_127 rfl qr13 dd_S_pull_44 ?_
      obtain ⟨r14, qr14, hm⟩ := ss_bind hm
      refine ss_getr hC hK hR kf_S_144 rfl qr14 dd_S_pull_47 ?_
      refine lv_iload_n hx hb dd_S_pull_50 rfl (lv_at hl 1 rfl) ?_
      obtain ⟨v15, qv15, hm⟩ := ss_bind hm
      refine ss_iald hC hK hR qv15 dd_S_pull_51 ?_
      refine lv_istore_n (lv' := [(2, .int v15), (0, ss_v (ss_b G) this), (1, .int a1)]) hx hb dd_S_pull_52 rfl hl (by decide) rfl (fun ls hl => ?_)
      refine ss_aload_n hx hb dd_S_pull_53 rfl (lv_at hl 1 rfl) ?_
      obtain ⟨r16, qr16, hm⟩ := ss_bind hm
      refine ss_getr hC hK hR kf_S_41 rfl qr16 dd_S_pull_54 ?_
      obtain ⟨r17, qr17, hm⟩ := ss_bind hm
      refine ss_getr hC hK hR kf_S_127 rfl qr17 dd_S_pull_57 ?_
      obtain ⟨r18, qr18, hm⟩ := ss_bind hm
      refine ss_getr hC hK hR kf_S_144 rfl qr18 dd_S_pull_60 ?_
      refine lv_iload_n hx hb dd_S_pull_63 rfl (lv_at hl 2 rfl) ?_
      refine lv_iconst (v := -1) hx hb dd_S_pull_64 (by decide) ?_
      obtain ⟨h19, qh19, hm⟩ := ss_bind hm
      refine ss_iast hC hK hR hS qh19 dd_S_pull_65 (fun H locs hR hS => ?_)
      refine lv_iload_n hx hb dd_S_pull_66 rfl (lv_at hl 0 rfl) ?_
      exact ss_iret hC hr hlocks hR hS hm dd_S_pull_67
    · have hm := ss_ift hm c7
      exact J_24 h _ _ _ hm hR hS (lv_sub hl [] rfl)
theorem dd_G_snowOfAll_0 : decode bb_G_snowOfAll 0 = .ok (.iconst 0, 1) := by decide +kernel
theorem dd_G_snowOfAll_1 : decode bb_G_snowOfAll 1 = .ok (.istore_n 1, 1) := by decide +kernel
theorem dd_G_snowOfAll_2 : decode bb_G_snowOfAll 2 = .ok (.iconst 0, 1) := by decide +kernel
theorem dd_G_snowOfAll_3 : decode bb_G_snowOfAll 3 = .ok (.istore_n 2, 1) := by decide +kernel
theorem dd_G_snowOfAll_4 : decode bb_G_snowOfAll 4 = .ok (.iload_n 2, 1) := by decide +kernel
theorem dd_G_snowOfAll_5 : decode bb_G_snowOfAll 5 = .ok (.bipush 8, 2) := by decide +kernel
theorem dd_G_snowOfAll_7 : decode bb_G_snowOfAll 7 = .ok (.if_icmp .ge 18, 3) := by decide +kernel
theorem dd_G_snowOfAll_10 : decode bb_G_snowOfAll 10 = .ok (.iload_n 1, 1) := by decide +kernel
theorem dd_G_snowOfAll_11 : decode bb_G_snowOfAll 11 = .ok (.aload_n 0, 1) := by decide +kernel
theorem dd_G_snowOfAll_12 : decode bb_G_snowOfAll 12 = .ok (.getfield 9, 3) := by decide +kernel
theorem dd_G_snowOfAll_15 : decode bb_G_snowOfAll 15 = .ok (.iload_n 2, 1) := by decide +kernel
theorem dd_G_snowOfAll_16 : decode bb_G_snowOfAll 16 = .ok (.iaload, 1) := by decide +kernel
theorem dd_G_snowOfAll_17 : decode bb_G_snowOfAll 17 = .ok (.iadd, 1) := by decide +kernel
theorem dd_G_snowOfAll_18 : decode bb_G_snowOfAll 18 = .ok (.istore_n 1, 1) := by decide +kernel
theorem dd_G_snowOfAll_19 : decode bb_G_snowOfAll 19 = .ok (.iinc 2 1, 3) := by decide +kernel
theorem dd_G_snowOfAll_22 : decode bb_G_snowOfAll 22 = .ok (.goto (-18), 3) := by decide +kernel
theorem dd_G_snowOfAll_25 : decode bb_G_snowOfAll 25 = .ok (.iload_n 1, 1) := by decide +kernel
theorem dd_G_snowOfAll_26 : decode bb_G_snowOfAll 26 = .ok (.ireturn, 1) := by decide +kernel
def mm_G_snowOfAll_b4 (N : Nat) (this : Option Nat) (h : ss_Hp) (st : Int32 × Int32) : Option ((Int32 × Int32) ⊕ Int32) :=
  match st with
  | (x1_4, x2_4) =>
    if (8 : Int32) ≤ x2_4 then
      some (.inr x1_4)
    else
      (ss_gr h this 0 0).bind fun r2 =>
      (ss_ai h r2 20 x2_4).bind fun v3 =>
      (some (x1_4 + v3)).bind fun v4 =>
      (some (x2_4 + (1 : Int32))).bind fun v5 =>
      some (.inl (v4, v5))
def mm_G_snowOfAll (N : Nat) (this : Option Nat) (h : ss_Hp) : Option Int32 :=
  if ss_is h this 0 = true then
    (ss_lp (mm_G_snowOfAll_b4 N this h) N ((0 : Int32), (0 : Int32))).bind fun y1_4_25 =>
    some y1_4_25
  else none
abbrev ww_G_snowOfAll (p : Program) (l : Launch) (e : Env) (s : State) (m : MethodId) (below : List Frame) (meth : Method) (c : Code) (G : ss_G) (this : Option Nat) (h : ss_Hp) (rr : Int32) (H : Heap) (locs : List Loc) (k n : Nat) (g : JFrame) : Prop := W p l e (headSpec (ss_w yy_G_snowOfAll bb_G_snowOfAll 3 (some (.int))) ({ frames := 0, cells := 0, slots := 0, locals := 0 })).room s m ([ss_v (ss_b G) this] : List Value).toArray below meth c H locs k n (MQ below (ss_Qc G (some (.int rr)) h) ([ss_v (ss_b G) this] : List Value).toArray s 0 0 (ss_A G)) g
theorem ck_G_snowOfAll {N : Nat} {this : Option Nat} {h : ss_Hp} {res : Int32} (hm : mm_G_snowOfAll N this h = some res) : ss_is h this 0 = true := (ss_chk hm).1
set_option maxHeartbeats 4000000 in
set_option maxRecDepth 100000 in
theorem cc_G_snowOfAll (l : Launch) (G : ss_G) (N : Nat) (this : Option Nat) (h : ss_Hp) (rr : Int32) (hm : mm_G_snowOfAll N this h = some rr) : ss_Ct l G yy_G_snowOfAll bb_G_snowOfAll 3 (some (.int)) ({ frames := 0, cells := 0, slots := 0, locals := 0 }) [ss_v (ss_b G) this] h (some (.int rr)) h := by
  obtain ⟨hck, hm⟩ := ss_chk hm
  refine Met.ofW (cc := bb_G_snowOfAll) (maxL := 3) (ret := (some (.int))) (by decide) rfl ?_
  intro p e s m args below meth c s₁ B hml hv
  obtain ⟨rfl, hR, hK⟩ := hv
  have hC : CallFix p m c bb_G_snowOfAll 3 s _ lw_g sR_0 := ⟨B.exec, B.bytes, hml, findClass_of_methodNamed B.named, fun w hw => atoms_spec (ws := ss_w yy_G_snowOfAll bb_G_snowOfAll 3 (some (.int))) B.pre w (List.mem_cons_of_mem _ hw)⟩
  have hx := hC.1
  have hb := hC.2.1
  have hr := B.returns
  have hlocks := B.notSynchronized
  have hS : va_S (ss_A G) s.heap s.heap [] := va_S.rf
  have hl := lv_entry ([ss_v (ss_b G) this]) (n := 3) (by simp [lg_sl, ss_v_cat, ss_cat_i, ss_cat_l, ss_cat_r])
  rw [lg_entry_eq]
  generalize (lg_sl ([ss_v (ss_b G) this]) ++ List.replicate (3 - (lg_sl ([ss_v (ss_b G) this])).length) Slot.unset).toArray = ls at hl ⊢
  have hl : lv_has ls 3 [(0, ss_v (ss_b G) this)] := by simpa [lv_args, ss_v_cat, ss_cat_i, ss_cat_l, ss_cat_r] using hl
  refine lv_iconst (v := 0) hx hb dd_G_snowOfAll_0 (by decide) ?_
  refine lv_istore_n (lv' := [(1, .int (0 : Int32)), (0, ss_v (ss_b G) this)]) hx hb dd_G_snowOfAll_1 rfl hl (by decide) (by simp only [List.filter_cons, ss_v_cat]; rfl) (fun ls hl => ?_)
  refine lv_iconst (v := 0) hx hb dd_G_snowOfAll_2 (by decide) ?_
  refine lv_istore_n (lv' := [(2, .int (0 : Int32)), (1, .int (0 : Int32)), (0, ss_v (ss_b G) this)]) hx hb dd_G_snowOfAll_3 rfl hl (by decide) rfl (fun ls hl => ?_)
  obtain ⟨e_4, he_4, hm⟩ := ss_bind hm
  have X_4_25 : ∀ (y1_4_25 : Int32) (H : Heap) (locs : List Loc) (ls : Array Slot), e_4 = y1_4_25 → ss_R G h H → va_S (ss_A G) s.heap H locs → lv_has ls 3 [(1, .int y1_4_25)] → ww_G_snowOfAll p l e s m below meth c G this h rr  H locs 0 0 (F0 m 25 ls []) := by
    intro y1_4_25 H locs ls hq hR hS hl
    rw [hq] at hm
    refine lv_iload_n hx hb dd_G_snowOfAll_25 rfl (lv_at hl 0 rfl) ?_
    exact ss_iret hC hr hlocks hR hS (ss_with _ hm) dd_G_snowOfAll_26
  have L_4 : ∀ (n : Nat) (x1_4 : Int32) (x2_4 : Int32) (H : Heap) (locs : List Loc) (ls : Array Slot), ss_lp (mm_G_snowOfAll_b4 N this h) n (x1_4, x2_4) = some e_4 → ss_R G h H → va_S (ss_A G) s.heap H locs → lv_has ls 3 [(0, ss_v (ss_b G) this), (1, .int x1_4), (2, .int x2_4)] → ww_G_snowOfAll p l e s m below meth c G this h rr  H locs 0 0 (F0 m 4 ls []) := by
    intro n
    induction n with
    | zero => intro x1_4 x2_4 H locs ls hm; cases hm
    | succ n ih_4 =>
      intro x1_4 x2_4 H locs ls hm hR hS hl
      obtain ⟨z_4, hm, hz1_4, hz2_4⟩ := ss_lps hm
      refine lv_iload_n hx hb dd_G_snowOfAll_4 rfl (lv_at hl 2 rfl) ?_
      refine lv_bipush (v := 8) hx hb dd_G_snowOfAll_5 (by decide) ?_
      refine lv_icmp_ge (tgt := 25) hx hb dd_G_snowOfAll_7 (by decide) (fun c1 => ?_) (fun c1 => ?_)
      · have hm := ss_ift hm c1
        exact X_4_25 x1_4  _ _ _ (hz2_4 _ (ss_some hm)) hR hS (lv_sub hl [1] rfl)
      · have hm := ss_iff hm c1
        refine lv_iload_n hx hb dd_G_snowOfAll_10 rfl (lv_at hl 1 rfl) ?_
        refine ss_aload_n hx hb dd_G_snowOfAll_11 rfl (lv_at hl 0 rfl) ?_
        obtain ⟨r2, qr2, hm⟩ := ss_bind hm
        refine ss_getr hC hK hR kf_G_9 rfl qr2 dd_G_snowOfAll_12 ?_
        refine lv_iload_n hx hb dd_G_snowOfAll_15 rfl (lv_at hl 2 rfl) ?_
        obtain ⟨v3, qv3, hm⟩ := ss_bind hm
        refine ss_iald hC hK hR qv3 dd_G_snowOfAll_16 ?_
        refine lv_iadd hx hb dd_G_snowOfAll_17 ?_
        obtain ⟨v4, qv4, hm⟩ := ss_bind hm
        refine ss_topi qv4 ?_
        refine lv_istore_n (lv' := [(1, .int v4), (0, ss_v (ss_b G) this), (2, .int x2_4)]) hx hb dd_G_snowOfAll_18 rfl hl (by decide) (by simp only [List.filter_cons, ss_v_cat]; rfl) (fun ls hl => ?_)
        obtain ⟨v5, qv5, hm⟩ := ss_bind hm
        refine lv_iinc (v := v5) (lv' := [(2, .int v5), (1, .int v4), (0, ss_v (ss_b G) this)]) hx hb dd_G_snowOfAll_19 hl (k := 2) rfl (ss_inc (by decide) qv5) (by decide) rfl (fun ls hl => ?_)
        refine lv_goto (tgt := 4) hx hb dd_G_snowOfAll_22 (by decide) ?_
        exact ih_4 v4 v5  _ _ _ (hz1_4 _ (ss_some hm)) hR hS (lv_sub hl [2, 1, 0] rfl)
  exact L_4 N (0 : Int32) (0 : Int32) _ _ _ he_4 hR hS (lv_sub hl [2, 1, 0] rfl)
theorem dd_G_halve_0 : decode bb_G_halve 0 = .ok (.iconst 0, 1) := by decide +kernel
theorem dd_G_halve_1 : decode bb_G_halve 1 = .ok (.istore_n 1, 1) := by decide +kernel
theorem dd_G_halve_2 : decode bb_G_halve 2 = .ok (.iload_n 1, 1) := by decide +kernel
theorem dd_G_halve_3 : decode bb_G_halve 3 = .ok (.bipush 8, 2) := by decide +kernel
theorem dd_G_halve_5 : decode bb_G_halve 5 = .ok (.if_icmp .ge 19, 3) := by decide +kernel
theorem dd_G_halve_8 : decode bb_G_halve 8 = .ok (.aload_n 0, 1) := by decide +kernel
theorem dd_G_halve_9 : decode bb_G_halve 9 = .ok (.getfield 9, 3) := by decide +kernel
theorem dd_G_halve_12 : decode bb_G_halve 12 = .ok (.iload_n 1, 1) := by decide +kernel
theorem dd_G_halve_13 : decode bb_G_halve 13 = .ok (.dup2, 1) := by decide +kernel
theorem dd_G_halve_14 : decode bb_G_halve 14 = .ok (.iaload, 1) := by decide +kernel
theorem dd_G_halve_15 : decode bb_G_halve 15 = .ok (.iconst 2, 1) := by decide +kernel
theorem dd_G_halve_16 : decode bb_G_halve 16 = .ok (.idiv, 1) := by decide +kernel
theorem dd_G_halve_17 : decode bb_G_halve 17 = .ok (.iastore, 1) := by decide +kernel
theorem dd_G_halve_18 : decode bb_G_halve 18 = .ok (.iinc 1 1, 3) := by decide +kernel
theorem dd_G_halve_21 : decode bb_G_halve 21 = .ok (.goto (-19), 3) := by decide +kernel
theorem dd_G_halve_24 : decode bb_G_halve 24 = .ok (.return_, 1) := by decide +kernel
def mm_G_halve_b2 (N : Nat) (this : Option Nat) (st : Int32 × ss_Hp) : Option ((Int32 × ss_Hp) ⊕ ss_Hp) :=
  match st with
  | (x1_2, h_2) =>
    if (8 : Int32) ≤ x1_2 then
      some (.inr h_2)
    else
      (ss_gr h_2 this 0 0).bind fun r2 =>
      (ss_ai h_2 r2 20 x1_2).bind fun v3 =>
      (ss_div v3 (2 : Int32)).bind fun v4 =>
      (ss_ui h_2 r2 20 x1_2 v4).bind fun h5 =>
      (some (x1_2 + (1 : Int32))).bind fun v6 =>
      some (.inl (v6, h5))
def mm_G_halve (N : Nat) (this : Option Nat) (h : ss_Hp) : Option ss_Hp :=
  if ss_is h this 0 = true then
    (ss_lp (mm_G_halve_b2 N this) N ((0 : Int32), h)).bind fun h_2_24 =>
    some h_2_24
  else none
abbrev ww_G_halve (p : Program) (l : Launch) (e : Env) (s : State) (m : MethodId) (below : List Frame) (meth : Method) (c : Code) (G : ss_G) (this : Option Nat) (h : ss_Hp) (hh : ss_Hp) (H : Heap) (locs : List Loc) (k n : Nat) (g : JFrame) : Prop := W p l e (headSpec (ss_w yy_G_halve bb_G_halve 2 none) ({ frames := 0, cells := 0, slots := 0, locals := 0 })).room s m ([ss_v (ss_b G) this] : List Value).toArray below meth c H locs k n (MQ below (ss_Qc G none hh) ([ss_v (ss_b G) this] : List Value).toArray s 0 0 (ss_A G)) g
theorem ck_G_halve {N : Nat} {this : Option Nat} {h : ss_Hp} {res : ss_Hp} (hm : mm_G_halve N this h = some res) : ss_is h this 0 = true := (ss_chk hm).1
set_option maxHeartbeats 4000000 in
set_option maxRecDepth 100000 in
theorem cc_G_halve (l : Launch) (G : ss_G) (N : Nat) (this : Option Nat) (h : ss_Hp) (hh : ss_Hp) (hm : mm_G_halve N this h = some hh) : ss_Ct l G yy_G_halve bb_G_halve 2 none ({ frames := 0, cells := 0, slots := 0, locals := 0 }) [ss_v (ss_b G) this] h none hh := by
  obtain ⟨hck, hm⟩ := ss_chk hm
  refine Met.ofW (cc := bb_G_halve) (maxL := 2) (ret := none) (by decide) rfl ?_
  intro p e s m args below meth c s₁ B hml hv
  obtain ⟨rfl, hR, hK⟩ := hv
  have hC : CallFix p m c bb_G_halve 2 s _ lw_g sR_0 := ⟨B.exec, B.bytes, hml, findClass_of_methodNamed B.named, fun w hw => atoms_spec (ws := ss_w yy_G_halve bb_G_halve 2 none) B.pre w (List.mem_cons_of_mem _ hw)⟩
  have hx := hC.1
  have hb := hC.2.1
  have hr := B.returns
  have hlocks := B.notSynchronized
  have hS : va_S (ss_A G) s.heap s.heap [] := va_S.rf
  have hl := lv_entry ([ss_v (ss_b G) this]) (n := 2) (by simp [lg_sl, ss_v_cat, ss_cat_i, ss_cat_l, ss_cat_r])
  rw [lg_entry_eq]
  generalize (lg_sl ([ss_v (ss_b G) this]) ++ List.replicate (2 - (lg_sl ([ss_v (ss_b G) this])).length) Slot.unset).toArray = ls at hl ⊢
  have hl : lv_has ls 2 [(0, ss_v (ss_b G) this)] := by simpa [lv_args, ss_v_cat, ss_cat_i, ss_cat_l, ss_cat_r] using hl
  refine lv_iconst (v := 0) hx hb dd_G_halve_0 (by decide) ?_
  refine lv_istore_n (lv' := [(1, .int (0 : Int32)), (0, ss_v (ss_b G) this)]) hx hb dd_G_halve_1 rfl hl (by decide) (by simp only [List.filter_cons, ss_v_cat]; rfl) (fun ls hl => ?_)
  obtain ⟨e_2, he_2, hm⟩ := ss_bind hm
  have X_2_24 : ∀  (h_2_24 : ss_Hp) (H : Heap) (locs : List Loc) (ls : Array Slot), e_2 = h_2_24 → ss_R G h_2_24 H → va_S (ss_A G) s.heap H locs → lv_has ls 2 [] → ww_G_halve p l e s m below meth c G this h hh  H locs 0 0 (F0 m 24 ls []) := by
    intro h_2_24 H locs ls hq hR hS hl
    rw [hq] at hm
    exact ss_vret hC hr hlocks hR hS hm dd_G_halve_24
  have L_2 : ∀ (n : Nat) (x1_2 : Int32) (h_2 : ss_Hp) (H : Heap) (locs : List Loc) (ls : Array Slot), ss_lp (mm_G_halve_b2 N this) n (x1_2, h_2) = some e_2 → ss_R G h_2 H → va_S (ss_A G) s.heap H locs → lv_has ls 2 [(0, ss_v (ss_b G) this), (1, .int x1_2)] → ww_G_halve p l e s m below meth c G this h hh  H locs 0 0 (F0 m 2 ls []) := by
    intro n
    induction n with
    | zero => intro x1_2 h_2 H locs ls hm; cases hm
    | succ n ih_2 =>
      intro x1_2 h_2 H locs ls hm hR hS hl
      obtain ⟨z_2, hm, hz1_2, hz2_2⟩ := ss_lps hm
      refine lv_iload_n hx hb dd_G_halve_2 rfl (lv_at hl 1 rfl) ?_
      refine lv_bipush (v := 8) hx hb dd_G_halve_3 (by decide) ?_
      refine lv_icmp_ge (tgt := 24) hx hb dd_G_halve_5 (by decide) (fun c1 => ?_) (fun c1 => ?_)
      · have hm := ss_ift hm c1
        exact X_2_24 h_2 _ _ _ (hz2_2 _ (ss_some hm)) hR hS (lv_sub hl [] rfl)
      · have hm := ss_iff hm c1
        refine ss_aload_n hx hb dd_G_halve_8 rfl (lv_at hl 0 rfl) ?_
        obtain ⟨r2, qr2, hm⟩ := ss_bind hm
        refine ss_getr hC hK hR kf_G_9 rfl qr2 dd_G_halve_9 ?_
        refine lv_iload_n hx hb dd_G_halve_12 rfl (lv_at hl 1 rfl) ?_
        refine ss_dup2ir hx hb dd_G_halve_13 ?_
        obtain ⟨v3, qv3, hm⟩ := ss_bind hm
        refine ss_iald hC hK hR qv3 dd_G_halve_14 ?_
        refine lv_iconst (v := 2) hx hb dd_G_halve_15 (by decide) ?_
        obtain ⟨v4, qv4, hm⟩ := ss_bind hm
        refine ss_idiv hx hb qv4 dd_G_halve_16 ?_
        obtain ⟨h5, qh5, hm⟩ := ss_bind hm
        refine ss_iast hC hK hR hS qh5 dd_G_halve_17 (fun H locs hR hS => ?_)
        obtain ⟨v6, qv6, hm⟩ := ss_bind hm
        refine lv_iinc (v := v6) (lv' := [(1, .int v6), (0, ss_v (ss_b G) this)]) hx hb dd_G_halve_18 hl (k := 1) rfl (ss_inc (by decide) qv6) (by decide) (by simp only [List.filter_cons, ss_v_cat]; rfl) (fun ls hl => ?_)
        refine lv_goto (tgt := 2) hx hb dd_G_halve_21 (by decide) ?_
        exact ih_2 v6 h5 _ _ _ (hz1_2 _ (ss_some hm)) hR hS (lv_sub hl [1, 0] rfl)
  exact L_2 N (0 : Int32) h _ _ _ he_2 hR hS (lv_sub hl [1, 0] rfl)
theorem dd_S_thaw_0 : decode bb_S_thaw 0 = .ok (.aload_n 0, 1) := by decide +kernel
theorem dd_S_thaw_1 : decode bb_S_thaw 1 = .ok (.getfield 41, 3) := by decide +kernel
theorem dd_S_thaw_4 : decode bb_S_thaw 4 = .ok (.getfield 127, 3) := by decide +kernel
theorem dd_S_thaw_7 : decode bb_S_thaw 7 = .ok (.invokevirtual 202, 3) := by decide +kernel
theorem dd_S_thaw_10 : decode bb_S_thaw 10 = .ok (.ifCond .ne 5, 3) := by decide +kernel
theorem dd_S_thaw_13 : decode bb_S_thaw 13 = .ok (.iconst (-1), 1) := by decide +kernel
theorem dd_S_thaw_14 : decode bb_S_thaw 14 = .ok (.ireturn, 1) := by decide +kernel
theorem dd_S_thaw_15 : decode bb_S_thaw 15 = .ok (.aload_n 0, 1) := by decide +kernel
theorem dd_S_thaw_16 : decode bb_S_thaw 16 = .ok (.getfield 52, 3) := by decide +kernel
theorem dd_S_thaw_19 : decode bb_S_thaw 19 = .ok (.aload_n 0, 1) := by decide +kernel
theorem dd_S_thaw_20 : decode bb_S_thaw 20 = .ok (.getfield 41, 3) := by decide +kernel
theorem dd_S_thaw_23 : decode bb_S_thaw 23 = .ok (.getfield 127, 3) := by decide +kernel
theorem dd_S_thaw_26 : decode bb_S_thaw 26 = .ok (.invokevirtual 173, 3) := by decide +kernel
theorem dd_S_thaw_29 : decode bb_S_thaw 29 = .ok (.aload_n 0, 1) := by decide +kernel
theorem dd_S_thaw_30 : decode bb_S_thaw 30 = .ok (.getfield 41, 3) := by decide +kernel
theorem dd_S_thaw_33 : decode bb_S_thaw 33 = .ok (.getfield 127, 3) := by decide +kernel
theorem dd_S_thaw_36 : decode bb_S_thaw 36 = .ok (.invokevirtual 205, 3) := by decide +kernel
theorem dd_S_thaw_39 : decode bb_S_thaw 39 = .ok (.aload_n 0, 1) := by decide +kernel
theorem dd_S_thaw_40 : decode bb_S_thaw 40 = .ok (.getfield 41, 3) := by decide +kernel
theorem dd_S_thaw_43 : decode bb_S_thaw 43 = .ok (.getfield 127, 3) := by decide +kernel
theorem dd_S_thaw_46 : decode bb_S_thaw 46 = .ok (.invokevirtual 202, 3) := by decide +kernel
theorem dd_S_thaw_49 : decode bb_S_thaw 49 = .ok (.ireturn, 1) := by decide +kernel
def mm_S_thaw (N : Nat) (this : Option Nat) (h : ss_Hp) : Option (Int32 × ss_Hp) :=
  if ss_is h this 11 = true then
    (ss_gr h this 11 4).bind fun r1 =>
    (ss_gr h r1 8 1).bind fun r2 =>
    (mm_G_snowOfAll N r2 h).bind fun v3 =>
    if v3 = 0 then
      some ((-1 : Int32), h)
    else
      (ss_gr h this 11 6).bind fun r5 =>
      (ss_gr h this 11 4).bind fun r6 =>
      (ss_gr h r6 8 1).bind fun r7 =>
      (mm_A_keep N r5 r7 h).bind fun h8 =>
      (ss_gr h8 this 11 4).bind fun r9 =>
      (ss_gr h8 r9 8 1).bind fun r10 =>
      (mm_G_halve N r10 h8).bind fun h11 =>
      (ss_gr h11 this 11 4).bind fun r12 =>
      (ss_gr h11 r12 8 1).bind fun r13 =>
      (mm_G_snowOfAll N r13 h11).bind fun v14 =>
      some (v14, h11)
  else none
abbrev ww_S_thaw (p : Program) (l : Launch) (e : Env) (s : State) (m : MethodId) (below : List Frame) (meth : Method) (c : Code) (G : ss_G) (this : Option Nat) (h : ss_Hp) (rr : Int32) (hh : ss_Hp) (H : Heap) (locs : List Loc) (k n : Nat) (g : JFrame) : Prop := W p l e (headSpec (ss_w yy_S_thaw bb_S_thaw 1 (some (.int))) ({ frames := 3, cells := 0, slots := 0, locals := 122 })).room s m ([ss_v (ss_b G) this] : List Value).toArray below meth c H locs k n (MQ below (ss_Qc G (some (.int rr)) hh) ([ss_v (ss_b G) this] : List Value).toArray s 0 0 (ss_A G)) g
theorem ck_S_thaw {N : Nat} {this : Option Nat} {h : ss_Hp} {res : Int32 × ss_Hp} (hm : mm_S_thaw N this h = some res) : ss_is h this 11 = true := (ss_chk hm).1
set_option maxHeartbeats 4000000 in
set_option maxRecDepth 100000 in
theorem cc_S_thaw (l : Launch) (G : ss_G) (N : Nat) (this : Option Nat) (h : ss_Hp) (rr : Int32) (hh : ss_Hp) (hm : mm_S_thaw N this h = some (rr, hh)) : ss_Ct l G yy_S_thaw bb_S_thaw 1 (some (.int)) ({ frames := 3, cells := 0, slots := 0, locals := 122 }) [ss_v (ss_b G) this] h (some (.int rr)) hh := by
  obtain ⟨hck, hm⟩ := ss_chk hm
  refine Met.ofW (cc := bb_S_thaw) (maxL := 1) (ret := (some (.int))) (by decide) rfl ?_
  intro p e s m args below meth c s₁ B hml hv
  obtain ⟨rfl, hR, hK⟩ := hv
  have hC : CallFix p m c bb_S_thaw 1 s _ lw_g sR_11 := ⟨B.exec, B.bytes, hml, findClass_of_methodNamed B.named, fun w hw => atoms_spec (ws := ss_w yy_S_thaw bb_S_thaw 1 (some (.int))) B.pre w (List.mem_cons_of_mem _ hw)⟩
  have hx := hC.1
  have hb := hC.2.1
  have hr := B.returns
  have hlocks := B.notSynchronized
  have hS : va_S (ss_A G) s.heap s.heap [] := va_S.rf
  have hl := lv_entry ([ss_v (ss_b G) this]) (n := 1) (by simp [lg_sl, ss_v_cat, ss_cat_i, ss_cat_l, ss_cat_r])
  rw [lg_entry_eq]
  generalize (lg_sl ([ss_v (ss_b G) this]) ++ List.replicate (1 - (lg_sl ([ss_v (ss_b G) this])).length) Slot.unset).toArray = ls at hl ⊢
  have hl : lv_has ls 1 [(0, ss_v (ss_b G) this)] := by simpa [lv_args, ss_v_cat, ss_cat_i, ss_cat_l, ss_cat_r] using hl
  refine ss_aload_n hx hb dd_S_thaw_0 rfl (lv_at hl 0 rfl) ?_
  obtain ⟨r1, qr1, hm⟩ := ss_bind hm
  refine ss_getr hC hK hR kf_S_41 rfl qr1 dd_S_thaw_1 ?_
  obtain ⟨r2, qr2, hm⟩ := ss_bind hm
  refine ss_getr hC hK hR kf_S_127 rfl qr2 dd_S_thaw_4 ?_
  obtain ⟨v3, qv3, hm⟩ := ss_bind hm
  refine ss_cV 0 0 (As := []) hC hK hR hS hl.1 (cc_G_snowOfAll l G N _ _ _ qv3) km_S_202 (ck_G_snowOfAll qv3) ⟨Nat.le_of_ble_eq_true rfl, Nat.le_of_ble_eq_true rfl⟩ ⟨Nat.le_of_ble_eq_true rfl, Nat.le_of_ble_eq_true rfl, Nat.le_of_ble_eq_true rfl, Nat.le_of_ble_eq_true rfl⟩ rfl rfl (Nat.le_of_ble_eq_true rfl) dd_S_thaw_7 (fun H locs hR hS => ?_)
  refine lv_if_ne (tgt := 15) hx hb dd_S_thaw_10 (by decide) (fun c4 => ?_) (fun c4 => ?_)
  · have hm := ss_iff hm c4
    refine ss_aload_n hx hb dd_S_thaw_15 rfl (lv_at hl 0 rfl) ?_
    obtain ⟨r5, qr5, hm⟩ := ss_bind hm
    refine ss_getr hC hK hR kf_S_52 rfl qr5 dd_S_thaw_16 ?_
    refine ss_aload_n hx hb dd_S_thaw_19 rfl (lv_at hl 0 rfl) ?_
    obtain ⟨r6, qr6, hm⟩ := ss_bind hm
    refine ss_getr hC hK hR kf_S_41 rfl qr6 dd_S_thaw_20 ?_
    obtain ⟨r7, qr7, hm⟩ := ss_bind hm
    refine ss_getr hC hK hR kf_S_127 rfl qr7 dd_S_thaw_23 ?_
    obtain ⟨h8, qh8, hm⟩ := ss_bind hm
    refine ss_cVv 0 0 (As := [ss_v (ss_b G) r7]) hC hK hR hS hl.1 (cc_A_keep l G N _ _ _ _ qh8) km_S_173 (ck_A_keep qh8) ⟨Nat.le_of_ble_eq_true rfl, Nat.le_of_ble_eq_true rfl⟩ ⟨Nat.le_of_ble_eq_true rfl, Nat.le_of_ble_eq_true rfl, Nat.le_of_ble_eq_true rfl, Nat.le_of_ble_eq_true rfl⟩ rfl rfl (Nat.le_of_ble_eq_true rfl) dd_S_thaw_26 (fun H locs hR hS => ?_)
    refine ss_aload_n hx hb dd_S_thaw_29 rfl (lv_at hl 0 rfl) ?_
    obtain ⟨r9, qr9, hm⟩ := ss_bind hm
    refine ss_getr hC hK hR kf_S_41 rfl qr9 dd_S_thaw_30 ?_
    obtain ⟨r10, qr10, hm⟩ := ss_bind hm
    refine ss_getr hC hK hR kf_S_127 rfl qr10 dd_S_thaw_33 ?_
    obtain ⟨h11, qh11, hm⟩ := ss_bind hm
    refine ss_cVv 0 0 (As := []) hC hK hR hS hl.1 (cc_G_halve l G N _ _ _ qh11) km_S_205 (ck_G_halve qh11) ⟨Nat.le_of_ble_eq_true rfl, Nat.le_of_ble_eq_true rfl⟩ ⟨Nat.le_of_ble_eq_true rfl, Nat.le_of_ble_eq_true rfl, Nat.le_of_ble_eq_true rfl, Nat.le_of_ble_eq_true rfl⟩ rfl rfl (Nat.le_of_ble_eq_true rfl) dd_S_thaw_36 (fun H locs hR hS => ?_)
    refine ss_aload_n hx hb dd_S_thaw_39 rfl (lv_at hl 0 rfl) ?_
    obtain ⟨r12, qr12, hm⟩ := ss_bind hm
    refine ss_getr hC hK hR kf_S_41 rfl qr12 dd_S_thaw_40 ?_
    obtain ⟨r13, qr13, hm⟩ := ss_bind hm
    refine ss_getr hC hK hR kf_S_127 rfl qr13 dd_S_thaw_43 ?_
    obtain ⟨v14, qv14, hm⟩ := ss_bind hm
    refine ss_cV 0 0 (As := []) hC hK hR hS hl.1 (cc_G_snowOfAll l G N _ _ _ qv14) km_S_202 (ck_G_snowOfAll qv14) ⟨Nat.le_of_ble_eq_true rfl, Nat.le_of_ble_eq_true rfl⟩ ⟨Nat.le_of_ble_eq_true rfl, Nat.le_of_ble_eq_true rfl, Nat.le_of_ble_eq_true rfl, Nat.le_of_ble_eq_true rfl⟩ rfl rfl (Nat.le_of_ble_eq_true rfl) dd_S_thaw_46 (fun H locs hR hS => ?_)
    exact ss_iret hC hr hlocks hR hS hm dd_S_thaw_49
  · have hm := ss_ift hm c4
    refine lv_iconst (v := -1) hx hb dd_S_thaw_13 (by decide) ?_
    exact ss_iret hC hr hlocks hR hS hm dd_S_thaw_14
theorem dd_A_takeBack_0 : decode bb_A_takeBack 0 = .ok (.aload_n 0, 1) := by decide +kernel
theorem dd_A_takeBack_1 : decode bb_A_takeBack 1 = .ok (.getfield 26, 3) := by decide +kernel
theorem dd_A_takeBack_4 : decode bb_A_takeBack 4 = .ok (.ifCond .ne 5, 3) := by decide +kernel
theorem dd_A_takeBack_7 : decode bb_A_takeBack 7 = .ok (.iconst (-1), 1) := by decide +kernel
theorem dd_A_takeBack_8 : decode bb_A_takeBack 8 = .ok (.ireturn, 1) := by decide +kernel
theorem dd_A_takeBack_9 : decode bb_A_takeBack 9 = .ok (.aload_n 0, 1) := by decide +kernel
theorem dd_A_takeBack_10 : decode bb_A_takeBack 10 = .ok (.aload_n 0, 1) := by decide +kernel
theorem dd_A_takeBack_11 : decode bb_A_takeBack 11 = .ok (.getfield 18, 3) := by decide +kernel
theorem dd_A_takeBack_14 : decode bb_A_takeBack 14 = .ok (.ifCond .le 12, 3) := by decide +kernel
theorem dd_A_takeBack_17 : decode bb_A_takeBack 17 = .ok (.aload_n 0, 1) := by decide +kernel
theorem dd_A_takeBack_18 : decode bb_A_takeBack 18 = .ok (.getfield 18, 3) := by decide +kernel
theorem dd_A_takeBack_21 : decode bb_A_takeBack 21 = .ok (.iconst 1, 1) := by decide +kernel
theorem dd_A_takeBack_22 : decode bb_A_takeBack 22 = .ok (.isub, 1) := by decide +kernel
theorem dd_A_takeBack_23 : decode bb_A_takeBack 23 = .ok (.goto 5, 3) := by decide +kernel
theorem dd_A_takeBack_26 : decode bb_A_takeBack 26 = .ok (.bipush 19, 2) := by decide +kernel
theorem dd_A_takeBack_28 : decode bb_A_takeBack 28 = .ok (.putfield 18, 3) := by decide +kernel
theorem dd_A_takeBack_31 : decode bb_A_takeBack 31 = .ok (.aload_n 1, 1) := by decide +kernel
theorem dd_A_takeBack_32 : decode bb_A_takeBack 32 = .ok (.aload_n 0, 1) := by decide +kernel
theorem dd_A_takeBack_33 : decode bb_A_takeBack 33 = .ok (.getfield 13, 3) := by decide +kernel
theorem dd_A_takeBack_36 : decode bb_A_takeBack 36 = .ok (.aload_n 0, 1) := by decide +kernel
theorem dd_A_takeBack_37 : decode bb_A_takeBack 37 = .ok (.getfield 18, 3) := by decide +kernel
theorem dd_A_takeBack_40 : decode bb_A_takeBack 40 = .ok (.aaload, 1) := by decide +kernel
theorem dd_A_takeBack_41 : decode bb_A_takeBack 41 = .ok (.invokevirtual 22, 3) := by decide +kernel
theorem dd_A_takeBack_44 : decode bb_A_takeBack 44 = .ok (.aload_n 0, 1) := by decide +kernel
theorem dd_A_takeBack_45 : decode bb_A_takeBack 45 = .ok (.dup, 1) := by decide +kernel
theorem dd_A_takeBack_46 : decode bb_A_takeBack 46 = .ok (.getfield 26, 3) := by decide +kernel
theorem dd_A_takeBack_49 : decode bb_A_takeBack 49 = .ok (.iconst 1, 1) := by decide +kernel
theorem dd_A_takeBack_50 : decode bb_A_takeBack 50 = .ok (.isub, 1) := by decide +kernel
theorem dd_A_takeBack_51 : decode bb_A_takeBack 51 = .ok (.putfield 26, 3) := by decide +kernel
theorem dd_A_takeBack_54 : decode bb_A_takeBack 54 = .ok (.aload_n 0, 1) := by decide +kernel
theorem dd_A_takeBack_55 : decode bb_A_takeBack 55 = .ok (.getfield 26, 3) := by decide +kernel
theorem dd_A_takeBack_58 : decode bb_A_takeBack 58 = .ok (.ireturn, 1) := by decide +kernel
def mm_A_takeBack_j28 (N : Nat) (this : Option Nat) (a1 : Option Nat) (s0_28 : Option Nat) (s1_28 : Int32) (h_28 : ss_Hp) : Option (Int32 × ss_Hp) :=
  (ss_pi h_28 s0_28 3 0 s1_28).bind fun h1 =>
  (ss_gr h1 this 3 0).bind fun r2 =>
  (ss_gi h1 this 3 0).bind fun v3 =>
  (ss_ar h1 r2 24 v3).bind fun r4 =>
  (mm_G_copyFrom N a1 r4 h1).bind fun h5 =>
  (ss_gi h5 this 3 1).bind fun v6 =>
  (ss_pi h5 this 3 1 (v6 - (1 : Int32))).bind fun h7 =>
  (ss_gi h7 this 3 1).bind fun v8 =>
  some (v8, h7)
def mm_A_takeBack (N : Nat) (this : Option Nat) (a1 : Option Nat) (h : ss_Hp) : Option (Int32 × ss_Hp) :=
  if ss_is h this 3 = true then
    (ss_gi h this 3 1).bind fun v9 =>
    if v9 = 0 then
      some ((-1 : Int32), h)
    else
      (ss_gi h this 3 0).bind fun v11 =>
      if v11 ≤ 0 then
        mm_A_takeBack_j28 N this a1 this (19 : Int32) h
      else
        (ss_gi h this 3 0).bind fun v13 =>
        mm_A_takeBack_j28 N this a1 this (v13 - (1 : Int32)) h
  else none
abbrev ww_A_takeBack (p : Program) (l : Launch) (e : Env) (s : State) (m : MethodId) (below : List Frame) (meth : Method) (c : Code) (G : ss_G) (this : Option Nat) (a1 : Option Nat) (h : ss_Hp) (rr : Int32) (hh : ss_Hp) (H : Heap) (locs : List Loc) (k n : Nat) (g : JFrame) : Prop := W p l e (headSpec (ss_w yy_A_takeBack bb_A_takeBack 2 (some (.int))) ({ frames := 2, cells := 0, slots := 0, locals := 101 })).room s m ([ss_v (ss_b G) this, ss_v (ss_b G) a1] : List Value).toArray below meth c H locs k n (MQ below (ss_Qc G (some (.int rr)) hh) ([ss_v (ss_b G) this, ss_v (ss_b G) a1] : List Value).toArray s 0 0 (ss_A G)) g
theorem ck_A_takeBack {N : Nat} {this : Option Nat} {a1 : Option Nat} {h : ss_Hp} {res : Int32 × ss_Hp} (hm : mm_A_takeBack N this a1 h = some res) : ss_is h this 3 = true := (ss_chk hm).1
set_option maxHeartbeats 4000000 in
set_option maxRecDepth 100000 in
theorem cc_A_takeBack (l : Launch) (G : ss_G) (N : Nat) (this : Option Nat) (a1 : Option Nat) (h : ss_Hp) (rr : Int32) (hh : ss_Hp) (hm : mm_A_takeBack N this a1 h = some (rr, hh)) : ss_Ct l G yy_A_takeBack bb_A_takeBack 2 (some (.int)) ({ frames := 2, cells := 0, slots := 0, locals := 101 }) [ss_v (ss_b G) this, ss_v (ss_b G) a1] h (some (.int rr)) hh := by
  obtain ⟨hck, hm⟩ := ss_chk hm
  refine Met.ofW (cc := bb_A_takeBack) (maxL := 2) (ret := (some (.int))) (by decide) rfl ?_
  intro p e s m args below meth c s₁ B hml hv
  obtain ⟨rfl, hR, hK⟩ := hv
  have hC : CallFix p m c bb_A_takeBack 2 s _ lw_g sR_3 := ⟨B.exec, B.bytes, hml, findClass_of_methodNamed B.named, fun w hw => atoms_spec (ws := ss_w yy_A_takeBack bb_A_takeBack 2 (some (.int))) B.pre w (List.mem_cons_of_mem _ hw)⟩
  have hx := hC.1
  have hb := hC.2.1
  have hr := B.returns
  have hlocks := B.notSynchronized
  have hS : va_S (ss_A G) s.heap s.heap [] := va_S.rf
  have hl := lv_entry ([ss_v (ss_b G) this, ss_v (ss_b G) a1]) (n := 2) (by simp [lg_sl, ss_v_cat, ss_cat_i, ss_cat_l, ss_cat_r])
  rw [lg_entry_eq]
  generalize (lg_sl ([ss_v (ss_b G) this, ss_v (ss_b G) a1]) ++ List.replicate (2 - (lg_sl ([ss_v (ss_b G) this, ss_v (ss_b G) a1])).length) Slot.unset).toArray = ls at hl ⊢
  have hl : lv_has ls 2 [(0, ss_v (ss_b G) this), (1, ss_v (ss_b G) a1)] := by simpa [lv_args, ss_v_cat, ss_cat_i, ss_cat_l, ss_cat_r] using hl
  have J_28 : ∀ (s0_28 : Option Nat) (s1_28 : Int32) (h_28 : ss_Hp) (H : Heap) (locs : List Loc) (ls : Array Slot), mm_A_takeBack_j28 N this a1 s0_28 s1_28 h_28 = some (rr, hh) → ss_R G h_28 H → va_S (ss_A G) s.heap H locs → lv_has ls 2 [(0, ss_v (ss_b G) this), (1, ss_v (ss_b G) a1)] → ww_A_takeBack p l e s m below meth c G this a1 h rr hh  H locs 0 0 (F0 m 28 ls [.int s1_28, ss_v (ss_b G) s0_28]) := by
    intro s0_28 s1_28 h_28 H locs ls hm hR hS hl
    obtain ⟨h1, qh1, hm⟩ := ss_bind hm
    refine ss_puti hC hK hR hS kp_A_18 qh1 dd_A_takeBack_28 (fun H locs hR hS => ?_)
    refine ss_aload_n hx hb dd_A_takeBack_31 rfl (lv_at hl 1 rfl) ?_
    refine ss_aload_n hx hb dd_A_takeBack_32 rfl (lv_at hl 0 rfl) ?_
    obtain ⟨r2, qr2, hm⟩ := ss_bind hm
    refine ss_getr hC hK hR kf_A_13 rfl qr2 dd_A_takeBack_33 ?_
    refine ss_aload_n hx hb dd_A_takeBack_36 rfl (lv_at hl 0 rfl) ?_
    obtain ⟨v3, qv3, hm⟩ := ss_bind hm
    refine ss_geti hC hK hR kf_A_18 qv3 dd_A_takeBack_37 ?_
    obtain ⟨r4, qr4, hm⟩ := ss_bind hm
    refine ss_aald hC hK hR (t0 := 4) rfl (by decide) qr4 dd_A_takeBack_40 ?_
    obtain ⟨h5, qh5, hm⟩ := ss_bind hm
    refine ss_cVv 0 0 (As := [ss_v (ss_b G) r4]) hC hK hR hS hl.1 (cc_G_copyFrom l G N _ _ _ _ qh5) km_A_22 (ck_G_copyFrom qh5) ⟨Nat.le_of_ble_eq_true rfl, Nat.le_of_ble_eq_true rfl⟩ ⟨Nat.le_of_ble_eq_true rfl, Nat.le_of_ble_eq_true rfl, Nat.le_of_ble_eq_true rfl, Nat.le_of_ble_eq_true rfl⟩ rfl rfl (Nat.le_of_ble_eq_true rfl) dd_A_takeBack_41 (fun H locs hR hS => ?_)
    refine ss_aload_n hx hb dd_A_takeBack_44 rfl (lv_at hl 0 rfl) ?_
    refine ss_dupr hx hb dd_A_takeBack_45 ?_
    obtain ⟨v6, qv6, hm⟩ := ss_bind hm
    refine ss_geti hC hK hR kf_A_26 qv6 dd_A_takeBack_46 ?_
    refine lv_iconst (v := 1) hx hb dd_A_takeBack_49 (by decide) ?_
    refine lv_isub hx hb dd_A_takeBack_50 ?_
    obtain ⟨h7, qh7, hm⟩ := ss_bind hm
    refine ss_puti hC hK hR hS kp_A_26 qh7 dd_A_takeBack_51 (fun H locs hR hS => ?_)
    refine ss_aload_n hx hb dd_A_takeBack_54 rfl (lv_at hl 0 rfl) ?_
    obtain ⟨v8, qv8, hm⟩ := ss_bind hm
    refine ss_geti hC hK hR kf_A_26 qv8 dd_A_takeBack_55 ?_
    exact ss_iret hC hr hlocks hR hS hm dd_A_takeBack_58
  refine ss_aload_n hx hb dd_A_takeBack_0 rfl (lv_at hl 0 rfl) ?_
  obtain ⟨v9, qv9, hm⟩ := ss_bind hm
  refine ss_geti hC hK hR kf_A_26 qv9 dd_A_takeBack_1 ?_
  refine lv_if_ne (tgt := 9) hx hb dd_A_takeBack_4 (by decide) (fun c10 => ?_) (fun c10 => ?_)
  · have hm := ss_iff hm c10
    refine ss_aload_n hx hb dd_A_takeBack_9 rfl (lv_at hl 0 rfl) ?_
    refine ss_aload_n hx hb dd_A_takeBack_10 rfl (lv_at hl 0 rfl) ?_
    obtain ⟨v11, qv11, hm⟩ := ss_bind hm
    refine ss_geti hC hK hR kf_A_18 qv11 dd_A_takeBack_11 ?_
    refine lv_if_le (tgt := 26) hx hb dd_A_takeBack_14 (by decide) (fun c12 => ?_) (fun c12 => ?_)
    · have hm := ss_ift hm c12
      refine lv_bipush (v := 19) hx hb dd_A_takeBack_26 (by decide) ?_
      exact J_28 this (19 : Int32) h _ _ _ hm hR hS hl
    · have hm := ss_iff hm c12
      refine ss_aload_n hx hb dd_A_takeBack_17 rfl (lv_at hl 0 rfl) ?_
      obtain ⟨v13, qv13, hm⟩ := ss_bind hm
      refine ss_geti hC hK hR kf_A_18 qv13 dd_A_takeBack_18 ?_
      refine lv_iconst (v := 1) hx hb dd_A_takeBack_21 (by decide) ?_
      refine lv_isub hx hb dd_A_takeBack_22 ?_
      refine lv_goto (tgt := 28) hx hb dd_A_takeBack_23 (by decide) ?_
      exact J_28 this (v13 - (1 : Int32)) h _ _ _ hm hR hS hl
  · have hm := ss_ift hm c10
    refine lv_iconst (v := -1) hx hb dd_A_takeBack_7 (by decide) ?_
    exact ss_iret hC hr hlocks hR hS hm dd_A_takeBack_8
