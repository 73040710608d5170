theorem dd_M_isSweepHere_0 : decode bb_M_isSweepHere 0 = .ok (.aload_n 0, 1) := by decide +kernel
theorem dd_M_isSweepHere_1 : decode bb_M_isSweepHere 1 = .ok (.invokevirtual 111, 3) := by decide +kernel
theorem dd_M_isSweepHere_4 : decode bb_M_isSweepHere 4 = .ok (.bipush 48, 2) := by decide +kernel
theorem dd_M_isSweepHere_6 : decode bb_M_isSweepHere 6 = .ok (.aload_n 0, 1) := by decide +kernel
theorem dd_M_isSweepHere_7 : decode bb_M_isSweepHere 7 = .ok (.getfield 152, 3) := by decide +kernel
theorem dd_M_isSweepHere_10 : decode bb_M_isSweepHere 10 = .ok (.imul, 1) := by decide +kernel
theorem dd_M_isSweepHere_11 : decode bb_M_isSweepHere 11 = .ok (.iconst 4, 1) := by decide +kernel
theorem dd_M_isSweepHere_12 : decode bb_M_isSweepHere 12 = .ok (.aload_n 0, 1) := by decide +kernel
theorem dd_M_isSweepHere_13 : decode bb_M_isSweepHere 13 = .ok (.getfield 23, 3) := by decide +kernel
theorem dd_M_isSweepHere_16 : decode bb_M_isSweepHere 16 = .ok (.aload_n 0, 1) := by decide +kernel
theorem dd_M_isSweepHere_17 : decode bb_M_isSweepHere 17 = .ok (.getfield 152, 3) := by decide +kernel
theorem dd_M_isSweepHere_20 : decode bb_M_isSweepHere 20 = .ok (.iaload, 1) := by decide +kernel
theorem dd_M_isSweepHere_21 : decode bb_M_isSweepHere 21 = .ok (.imul, 1) := by decide +kernel
theorem dd_M_isSweepHere_22 : decode bb_M_isSweepHere 22 = .ok (.iadd, 1) := by decide +kernel
theorem dd_M_isSweepHere_23 : decode bb_M_isSweepHere 23 = .ok (.istore_n 1, 1) := by decide +kernel
theorem dd_M_isSweepHere_24 : decode bb_M_isSweepHere 24 = .ok (.aload_n 0, 1) := by decide +kernel
theorem dd_M_isSweepHere_25 : decode bb_M_isSweepHere 25 = .ok (.getfield 20, 3) := by decide +kernel
theorem dd_M_isSweepHere_28 : decode bb_M_isSweepHere 28 = .ok (.iload_n 1, 1) := by decide +kernel
theorem dd_M_isSweepHere_29 : decode bb_M_isSweepHere 29 = .ok (.aload_n 0, 1) := by decide +kernel
theorem dd_M_isSweepHere_30 : decode bb_M_isSweepHere 30 = .ok (.getfield 17, 3) := by decide +kernel
theorem dd_M_isSweepHere_33 : decode bb_M_isSweepHere 33 = .ok (.aload_n 0, 1) := by decide +kernel
theorem dd_M_isSweepHere_34 : decode bb_M_isSweepHere 34 = .ok (.getfield 152, 3) := by decide +kernel
theorem dd_M_isSweepHere_37 : decode bb_M_isSweepHere 37 = .ok (.iaload, 1) := by decide +kernel
theorem dd_M_isSweepHere_38 : decode bb_M_isSweepHere 38 = .ok (.iastore, 1) := by decide +kernel
theorem dd_M_isSweepHere_39 : decode bb_M_isSweepHere 39 = .ok (.aload_n 0, 1) := by decide +kernel
theorem dd_M_isSweepHere_40 : decode bb_M_isSweepHere 40 = .ok (.invokevirtual 189, 3) := by decide +kernel
theorem dd_M_isSweepHere_43 : decode bb_M_isSweepHere 43 = .ok (.ifCond .ne 5, 3) := by decide +kernel
theorem dd_M_isSweepHere_46 : decode bb_M_isSweepHere 46 = .ok (.iconst 0, 1) := by decide +kernel
theorem dd_M_isSweepHere_47 : decode bb_M_isSweepHere 47 = .ok (.ireturn, 1) := by decide +kernel
theorem dd_M_isSweepHere_48 : decode bb_M_isSweepHere 48 = .ok (.aload_n 0, 1) := by decide +kernel
theorem dd_M_isSweepHere_49 : decode bb_M_isSweepHere 49 = .ok (.getfield 20, 3) := by decide +kernel
theorem dd_M_isSweepHere_52 : decode bb_M_isSweepHere 52 = .ok (.iload_n 1, 1) := by decide +kernel
theorem dd_M_isSweepHere_53 : decode bb_M_isSweepHere 53 = .ok (.iconst 1, 1) := by decide +kernel
theorem dd_M_isSweepHere_54 : decode bb_M_isSweepHere 54 = .ok (.iadd, 1) := by decide +kernel
theorem dd_M_isSweepHere_55 : decode bb_M_isSweepHere 55 = .ok (.aload_n 0, 1) := by decide +kernel
theorem dd_M_isSweepHere_56 : decode bb_M_isSweepHere 56 = .ok (.getfield 17, 3) := by decide +kernel
theorem dd_M_isSweepHere_59 : decode bb_M_isSweepHere 59 = .ok (.aload_n 0, 1) := by decide +kernel
theorem dd_M_isSweepHere_60 : decode bb_M_isSweepHere 60 = .ok (.getfield 152, 3) := by decide +kernel
theorem dd_M_isSweepHere_63 : decode bb_M_isSweepHere 63 = .ok (.iaload, 1) := by decide +kernel
theorem dd_M_isSweepHere_64 : decode bb_M_isSweepHere 64 = .ok (.iastore, 1) := by decide +kernel
theorem dd_M_isSweepHere_65 : decode bb_M_isSweepHere 65 = .ok (.aload_n 0, 1) := by decide +kernel
theorem dd_M_isSweepHere_66 : decode bb_M_isSweepHere 66 = .ok (.getfield 20, 3) := by decide +kernel
theorem dd_M_isSweepHere_69 : decode bb_M_isSweepHere 69 = .ok (.iload_n 1, 1) := by decide +kernel
theorem dd_M_isSweepHere_70 : decode bb_M_isSweepHere 70 = .ok (.iconst 2, 1) := by decide +kernel
theorem dd_M_isSweepHere_71 : decode bb_M_isSweepHere 71 = .ok (.iadd, 1) := by decide +kernel
theorem dd_M_isSweepHere_72 : decode bb_M_isSweepHere 72 = .ok (.iconst (-1), 1) := by decide +kernel
theorem dd_M_isSweepHere_73 : decode bb_M_isSweepHere 73 = .ok (.iastore, 1) := by decide +kernel
theorem dd_M_isSweepHere_74 : decode bb_M_isSweepHere 74 = .ok (.aload_n 0, 1) := by decide +kernel
theorem dd_M_isSweepHere_75 : decode bb_M_isSweepHere 75 = .ok (.ldc2_w 216, 3) := by decide +kernel
theorem dd_M_isSweepHere_78 : decode bb_M_isSweepHere 78 = .ok (.invokevirtual 218, 3) := by decide +kernel
theorem dd_M_isSweepHere_81 : decode bb_M_isSweepHere 81 = .ok (.ifCond .eq 29, 3) := by decide +kernel
theorem dd_M_isSweepHere_84 : decode bb_M_isSweepHere 84 = .ok (.aload_n 0, 1) := by decide +kernel
theorem dd_M_isSweepHere_85 : decode bb_M_isSweepHere 85 = .ok (.getfield 20, 3) := by decide +kernel
theorem dd_M_isSweepHere_88 : decode bb_M_isSweepHere 88 = .ok (.iload_n 1, 1) := by decide +kernel
theorem dd_M_isSweepHere_89 : decode bb_M_isSweepHere 89 = .ok (.iconst 2, 1) := by decide +kernel
theorem dd_M_isSweepHere_90 : decode bb_M_isSweepHere 90 = .ok (.iadd, 1) := by decide +kernel
theorem dd_M_isSweepHere_91 : decode bb_M_isSweepHere 91 = .ok (.aload_n 0, 1) := by decide +kernel
theorem dd_M_isSweepHere_92 : decode bb_M_isSweepHere 92 = .ok (.getfield 17, 3) := by decide +kernel
theorem dd_M_isSweepHere_95 : decode bb_M_isSweepHere 95 = .ok (.aload_n 0, 1) := by decide +kernel
theorem dd_M_isSweepHere_96 : decode bb_M_isSweepHere 96 = .ok (.getfield 152, 3) := by decide +kernel
theorem dd_M_isSweepHere_99 : decode bb_M_isSweepHere 99 = .ok (.iaload, 1) := by decide +kernel
theorem dd_M_isSweepHere_100 : decode bb_M_isSweepHere 100 = .ok (.iastore, 1) := by decide +kernel
theorem dd_M_isSweepHere_101 : decode bb_M_isSweepHere 101 = .ok (.aload_n 0, 1) := by decide +kernel
theorem dd_M_isSweepHere_102 : decode bb_M_isSweepHere 102 = .ok (.invokevirtual 221, 3) := by decide +kernel
theorem dd_M_isSweepHere_105 : decode bb_M_isSweepHere 105 = .ok (.ifCond .ne 5, 3) := by decide +kernel
theorem dd_M_isSweepHere_108 : decode bb_M_isSweepHere 108 = .ok (.iconst 0, 1) := by decide +kernel
theorem dd_M_isSweepHere_109 : decode bb_M_isSweepHere 109 = .ok (.ireturn, 1) := by decide +kernel
theorem dd_M_isSweepHere_110 : decode bb_M_isSweepHere 110 = .ok (.aload_n 0, 1) := by decide +kernel
theorem dd_M_isSweepHere_111 : decode bb_M_isSweepHere 111 = .ok (.getfield 20, 3) := by decide +kernel
theorem dd_M_isSweepHere_114 : decode bb_M_isSweepHere 114 = .ok (.iload_n 1, 1) := by decide +kernel
theorem dd_M_isSweepHere_115 : decode bb_M_isSweepHere 115 = .ok (.iconst 3, 1) := by decide +kernel
theorem dd_M_isSweepHere_116 : decode bb_M_isSweepHere 116 = .ok (.iadd, 1) := by decide +kernel
theorem dd_M_isSweepHere_117 : decode bb_M_isSweepHere 117 = .ok (.aload_n 0, 1) := by decide +kernel
theorem dd_M_isSweepHere_118 : decode bb_M_isSweepHere 118 = .ok (.getfield 17, 3) := by decide +kernel
theorem dd_M_isSweepHere_121 : decode bb_M_isSweepHere 121 = .ok (.aload_n 0, 1) := by decide +kernel
theorem dd_M_isSweepHere_122 : decode bb_M_isSweepHere 122 = .ok (.getfield 152, 3) := by decide +kernel
theorem dd_M_isSweepHere_125 : decode bb_M_isSweepHere 125 = .ok (.iaload, 1) := by decide +kernel
theorem dd_M_isSweepHere_126 : decode bb_M_isSweepHere 126 = .ok (.iastore, 1) := by decide +kernel
theorem dd_M_isSweepHere_127 : decode bb_M_isSweepHere 127 = .ok (.aload_n 0, 1) := by decide +kernel
theorem dd_M_isSweepHere_128 : decode bb_M_isSweepHere 128 = .ok (.getfield 23, 3) := by decide +kernel
theorem dd_M_isSweepHere_131 : decode bb_M_isSweepHere 131 = .ok (.aload_n 0, 1) := by decide +kernel
theorem dd_M_isSweepHere_132 : decode bb_M_isSweepHere 132 = .ok (.getfield 152, 3) := by decide +kernel
theorem dd_M_isSweepHere_135 : decode bb_M_isSweepHere 135 = .ok (.dup2, 1) := by decide +kernel
theorem dd_M_isSweepHere_136 : decode bb_M_isSweepHere 136 = .ok (.iaload, 1) := by decide +kernel
theorem dd_M_isSweepHere_137 : decode bb_M_isSweepHere 137 = .ok (.iconst 1, 1) := by decide +kernel
theorem dd_M_isSweepHere_138 : decode bb_M_isSweepHere 138 = .ok (.iadd, 1) := by decide +kernel
theorem dd_M_isSweepHere_139 : decode bb_M_isSweepHere 139 = .ok (.iastore, 1) := by decide +kernel
theorem dd_M_isSweepHere_140 : decode bb_M_isSweepHere 140 = .ok (.iconst 1, 1) := by decide +kernel
theorem dd_M_isSweepHere_141 : decode bb_M_isSweepHere 141 = .ok (.ireturn, 1) := by decide +kernel
def mm_M_isSweepHere_j110 (N : Nat) (this : Option Nat) (x1_110 : Int32) (h_110 : ss_Hp) : Option (Int32 × ss_Hp) :=
  (ss_gr h_110 this 12 3).bind fun r1 =>
  (ss_gr h_110 this 12 2).bind fun r2 =>
  (ss_gi h_110 this 12 5).bind fun v3 =>
  (ss_ai h_110 r2 20 v3).bind fun v4 =>
  (ss_ui h_110 r1 20 (x1_110 + (3 : Int32)) v4).bind fun h5 =>
  (ss_gr h5 this 12 4).bind fun r6 =>
  (ss_gi h5 this 12 5).bind fun v7 =>
  (ss_ai h5 r6 20 v7).bind fun v8 =>
  (ss_ui h5 r6 20 v7 (v8 + (1 : Int32))).bind fun h9 =>
  some ((1 : Int32), h9)
def mm_M_isSweepHere (N : Nat) (this : Option Nat) (h : ss_Hp) : Option (Int32 × ss_Hp) :=
  if ss_is h this 12 = true then
    (mm_M_passWord N this h).bind fun h10 =>
    (ss_gi h10 this 12 5).bind fun v11 =>
    (ss_gr h10 this 12 4).bind fun r12 =>
    (ss_gi h10 this 12 5).bind fun v13 =>
    (ss_ai h10 r12 20 v13).bind fun v14 =>
    (some (((48 : Int32) * v11) + ((4 : Int32) * v14))).bind fun v15 =>
    (ss_gr h10 this 12 3).bind fun r16 =>
    (ss_gr h10 this 12 2).bind fun r17 =>
    (ss_gi h10 this 12 5).bind fun v18 =>
    (ss_ai h10 r17 20 v18).bind fun v19 =>
    (ss_ui h10 r16 20 v15 v19).bind fun h20 =>
    ss_b2 (mm_M_sum N this h20) fun v21 h22 =>
    if v21 = 0 then
      some ((0 : Int32), h22)
    else
      (ss_gr h22 this 12 3).bind fun r24 =>
      (ss_gr h22 this 12 2).bind fun r25 =>
      (ss_gi h22 this 12 5).bind fun v26 =>
      (ss_ai h22 r25 20 v26).bind fun v27 =>
      (ss_ui h22 r24 20 (v15 + (1 : Int32)) v27).bind fun h28 =>
      (ss_gr h28 this 12 3).bind fun r29 =>
      (ss_ui h28 r29 20 (v15 + (2 : Int32)) (-1 : Int32)).bind fun h30 =>
      ss_b2 (mm_M_takesWord N this (26982 : Int64) h30) fun v31 h32 =>
      if v31 = 0 then
        mm_M_isSweepHere_j110 N this v15 h32
      else
        (ss_gr h32 this 12 3).bind fun r34 =>
        (ss_gr h32 this 12 2).bind fun r35 =>
        (ss_gi h32 this 12 5).bind fun v36 =>
        (ss_ai h32 r35 20 v36).bind fun v37 =>
        (ss_ui h32 r34 20 (v15 + (2 : Int32)) v37).bind fun h38 =>
        ss_b2 (mm_M_tested N this h38) fun v39 h40 =>
        if v39 = 0 then
          some ((0 : Int32), h40)
        else
          mm_M_isSweepHere_j110 N this v15 h40
  else none
abbrev ww_M_isSweepHere (p : Program) (l : Launch) (e : Env) (s : State) (m : MethodId) (below : List Frame) (meth : Method) (c : Code) (G : ss_G) (this : Option Nat) (h : ss_Hp) (rr : Int32) (hh : ss_Hp) (H : Heap) (locs : List Loc) (k n : Nat) (g : JFrame) : Prop := W p l e (headSpec (ss_w yy_M_isSweepHere bb_M_isSweepHere 2 (some .boolean)) ({ frames := 9, cells := 0, slots := 0, locals := 198 })).room s m ([ss_v (ss_b G) this] : List Value).toArray below meth c H locs k n (MQ below (ss_Qc G (some (.int rr)) hh) ([ss_v (ss_b G) this] : List Value).toArray s 0 0 (ss_A G)) g
theorem ck_M_isSweepHere {N : Nat} {this : Option Nat} {h : ss_Hp} {res : Int32 × ss_Hp} (hm : mm_M_isSweepHere N this h = some res) : ss_is h this 12 = true := (ss_chk hm).1
set_option maxHeartbeats 4000000 in
set_option maxRecDepth 100000 in
theorem cc_M_isSweepHere (l : Launch) (G : ss_G) (N : Nat) (this : Option Nat) (h : ss_Hp) (rr : Int32) (hh : ss_Hp) (hm : mm_M_isSweepHere N this h = some (rr, hh)) : ss_Ct l G yy_M_isSweepHere bb_M_isSweepHere 2 (some .boolean) ({ frames := 9, cells := 0, slots := 0, locals := 198 }) [ss_v (ss_b G) this] h (some (.int rr)) hh := by
  obtain ⟨hck, hm⟩ := ss_chk hm
  refine Met.ofW (cc := bb_M_isSweepHere) (maxL := 2) (ret := (some .boolean)) (by decide) rfl ?_
  intro p e s m args below meth c s₁ B hml hv
  obtain ⟨rfl, hR, hK⟩ := hv
  have hC : CallFix p m c bb_M_isSweepHere 2 s _ lw_g sR_12 := ⟨B.exec, B.bytes, hml, findClass_of_methodNamed B.named, fun w hw => atoms_spec (ws := ss_w yy_M_isSweepHere bb_M_isSweepHere 2 (some .boolean)) B.pre w (List.mem_cons_of_mem _ hw)⟩
  have hx := hC.1
  have hb := hC.2.1
  have hr := B.returns
  have hlocks := B.notSynchronized
  have hS : va_S (ss_A G) s.heap s.heap [] := va_S.rf
  have hl := lv_entry ([ss_v (ss_b G) this]) (n := 2) (by simp [lg_sl, ss_v_cat, ss_cat_i, ss_cat_l, ss_cat_r])
  rw [lg_entry_eq]
  generalize (lg_sl ([ss_v (ss_b G) this]) ++ List.replicate (2 - (lg_sl ([ss_v (ss_b G) this])).length) Slot.unset).toArray = ls at hl ⊢
  have hl : lv_has ls 2 [(0, ss_v (ss_b G) this)] := by simpa [lv_args, ss_v_cat, ss_cat_i, ss_cat_l, ss_cat_r] using hl
  have J_110 : ∀ (x1_110 : Int32) (h_110 : ss_Hp) (H : Heap) (locs : List Loc) (ls : Array Slot), mm_M_isSweepHere_j110 N this x1_110 h_110 = some (rr, hh) → ss_R G h_110 H → va_S (ss_A G) s.heap H locs → lv_has ls 2 [(0, ss_v (ss_b G) this), (1, .int x1_110)] → ww_M_isSweepHere p l e s m below meth c G this h rr hh  H locs 0 0 (F0 m 110 ls []) := by
    intro x1_110 h_110 H locs ls hm hR hS hl
    refine ss_aload_n hx hb dd_M_isSweepHere_110 rfl (lv_at hl 0 rfl) ?_
    obtain ⟨r1, qr1, hm⟩ := ss_bind hm
    refine ss_getr hC hK hR kf_M_20 rfl qr1 dd_M_isSweepHere_111 ?_
    refine lv_iload_n hx hb dd_M_isSweepHere_114 rfl (lv_at hl 1 rfl) ?_
    refine lv_iconst (v := 3) hx hb dd_M_isSweepHere_115 (by decide) ?_
    refine lv_iadd hx hb dd_M_isSweepHere_116 ?_
    refine ss_aload_n hx hb dd_M_isSweepHere_117 rfl (lv_at hl 0 rfl) ?_
    obtain ⟨r2, qr2, hm⟩ := ss_bind hm
    refine ss_getr hC hK hR kf_M_17 rfl qr2 dd_M_isSweepHere_118 ?_
    refine ss_aload_n hx hb dd_M_isSweepHere_121 rfl (lv_at hl 0 rfl) ?_
    obtain ⟨v3, qv3, hm⟩ := ss_bind hm
    refine ss_geti hC hK hR kf_M_152 qv3 dd_M_isSweepHere_122 ?_
    obtain ⟨v4, qv4, hm⟩ := ss_bind hm
    refine ss_iald hC hK hR qv4 dd_M_isSweepHere_125 ?_
    obtain ⟨h5, qh5, hm⟩ := ss_bind hm
    refine ss_iast hC hK hR hS qh5 dd_M_isSweepHere_126 (fun H locs hR hS => ?_)
    refine ss_aload_n hx hb dd_M_isSweepHere_127 rfl (lv_at hl 0 rfl) ?_
    obtain ⟨r6, qr6, hm⟩ := ss_bind hm
    refine ss_getr hC hK hR kf_M_23 rfl qr6 dd_M_isSweepHere_128 ?_
    refine ss_aload_n hx hb dd_M_isSweepHere_131 rfl (lv_at hl 0 rfl) ?_
    obtain ⟨v7, qv7, hm⟩ := ss_bind hm
    refine ss_geti hC hK hR kf_M_152 qv7 dd_M_isSweepHere_132 ?_
    refine ss_dup2ir hx hb dd_M_isSweepHere_135 ?_
    obtain ⟨v8, qv8, hm⟩ := ss_bind hm
    refine ss_iald hC hK hR qv8 dd_M_isSweepHere_136 ?_
    refine lv_iconst (v := 1) hx hb dd_M_isSweepHere_137 (by decide) ?_
    refine lv_iadd hx hb dd_M_isSweepHere_138 ?_
    obtain ⟨h9, qh9, hm⟩ := ss_bind hm
    refine ss_iast hC hK hR hS qh9 dd_M_isSweepHere_139 (fun H locs hR hS => ?_)
    refine lv_iconst (v := 1) hx hb dd_M_isSweepHere_140 (by decide) ?_
    exact ss_zret hC hr (by decide) hlocks hR hS hm dd_M_isSweepHere_141
  refine ss_aload_n hx hb dd_M_isSweepHere_0 rfl (lv_at hl 0 rfl) ?_
  obtain ⟨h10, qh10, hm⟩ := ss_bind hm
  refine ss_cVv 0 0 (As := []) hC hK hR hS hl.1 (cc_M_passWord l G N _ _ _ qh10) km_M_111 (ck_M_passWord qh10) ⟨Nat.le_of_ble_eq_true rfl, Nat.le_of_ble_eq_true rfl⟩ ⟨Nat.le_of_ble_eq_true rfl, Nat.le_of_ble_eq_true rfl, Nat.le_of_ble_eq_true rfl, Nat.le_of_ble_eq_true rfl⟩ rfl rfl (Nat.le_of_ble_eq_true rfl) dd_M_isSweepHere_1 (fun H locs hR hS => ?_)
  refine lv_bipush (v := 48) hx hb dd_M_isSweepHere_4 (by decide) ?_
  refine ss_aload_n hx hb dd_M_isSweepHere_6 rfl (lv_at hl 0 rfl) ?_
  obtain ⟨v11, qv11, hm⟩ := ss_bind hm
  refine ss_geti hC hK hR kf_M_152 qv11 dd_M_isSweepHere_7 ?_
  refine lv_imul hx hb dd_M_isSweepHere_10 ?_
  refine lv_iconst (v := 4) hx hb dd_M_isSweepHere_11 (by decide) ?_
  refine ss_aload_n hx hb dd_M_isSweepHere_12 rfl (lv_at hl 0 rfl) ?_
  obtain ⟨r12, qr12, hm⟩ := ss_bind hm
  refine ss_getr hC hK hR kf_M_23 rfl qr12 dd_M_isSweepHere_13 ?_
  refine ss_aload_n hx hb dd_M_isSweepHere_16 rfl (lv_at hl 0 rfl) ?_
  obtain ⟨v13, qv13, hm⟩ := ss_bind hm
  refine ss_geti hC hK hR kf_M_152 qv13 dd_M_isSweepHere_17 ?_
  obtain ⟨v14, qv14, hm⟩ := ss_bind hm
  refine ss_iald hC hK hR qv14 dd_M_isSweepHere_20 ?_
  refine lv_imul hx hb dd_M_isSweepHere_21 ?_
  refine lv_iadd hx hb dd_M_isSweepHere_22 ?_
  obtain ⟨v15, qv15, hm⟩ := ss_bind hm
  refine ss_topi qv15 ?_
  refine lv_istore_n (lv' := [(1, .int v15), (0, ss_v (ss_b G) this)]) hx hb dd_M_isSweepHere_23 rfl hl (by decide) (by simp only [List.filter_cons, ss_v_cat]; rfl) (fun ls hl => ?_)
  refine ss_aload_n hx hb dd_M_isSweepHere_24 rfl (lv_at hl 1 rfl) ?_
  obtain ⟨r16, qr16, hm⟩ := ss_bind hm
  refine ss_getr hC hK hR kf_M_20 rfl qr16 dd_M_isSweepHere_25 ?_
  refine lv_iload_n hx hb dd_M_isSweepHere_28 rfl (lv_at hl 0 rfl) ?_
  refine ss_aload_n hx hb dd_M_isSweepHere_29 rfl (lv_at hl 1 rfl) ?_
  obtain ⟨r17, qr17, hm⟩ := ss_bind hm
  refine ss_getr hC hK hR kf_M_17 rfl qr17 dd_M_isSweepHere_30 ?_
  refine ss_aload_n hx hb dd_M_isSweepHere_33 rfl (lv_at hl 1 rfl) ?_
  obtain ⟨v18, qv18, hm⟩ := ss_bind hm
  refine ss_geti hC hK hR kf_M_152 qv18 dd_M_isSweepHere_34 ?_
  obtain ⟨v19, qv19, hm⟩ := ss_bind hm
  refine ss_iald hC hK hR qv19 dd_M_isSweepHere_37 ?_
  obtain ⟨h20, qh20, hm⟩ := ss_bind hm
  refine ss_iast hC hK hR hS qh20 dd_M_isSweepHere_38 (fun H locs hR hS => ?_)
  refine ss_aload_n hx hb dd_M_isSweepHere_39 rfl (lv_at hl 1 rfl) ?_
  obtain ⟨v21, h22, qh22, hm⟩ := ss_bind2 hm
  refine ss_cV 0 0 (As := []) hC hK hR hS hl.1 (cc_M_sum l G N _ _ _ _ qh22) km_M_189 (ck_M_sum qh22) ⟨Nat.le_of_ble_eq_true rfl, Nat.le_of_ble_eq_true rfl⟩ ⟨Nat.le_of_ble_eq_true rfl, Nat.le_of_ble_eq_true rfl, Nat.le_of_ble_eq_true rfl, Nat.le_of_ble_eq_true rfl⟩ rfl rfl (Nat.le_of_ble_eq_true rfl) dd_M_isSweepHere_40 (fun H locs hR hS => ?_)
  refine lv_if_ne (tgt := 48) hx hb dd_M_isSweepHere_43 (by decide) (fun c23 => ?_) (fun c23 => ?_)
  · have hm := ss_iff hm c23
    refine ss_aload_n hx hb dd_M_isSweepHere_48 rfl (lv_at hl 1 rfl) ?_
    obtain ⟨r24, qr24, hm⟩ := ss_bind hm
    refine ss_getr hC hK hR kf_M_20 rfl qr24 dd_M_isSweepHere_49 ?_
    refine lv_iload_n hx hb dd_M_isSweepHere_52 rfl (lv_at hl 0 rfl) ?_
    refine lv_iconst (v := 1) hx hb dd_M_isSweepHere_53 (by decide) ?_
    refine lv_iadd hx hb dd_M_isSweepHere_54 ?_
    refine ss_aload_n hx hb dd_M_isSweepHere_55 rfl (lv_at hl 1 rfl) ?_
    obtain ⟨r25, qr25, hm⟩ := ss_bind hm
    refine ss_getr hC hK hR kf_M_17 rfl qr25 dd_M_isSweepHere_56 ?_
    refine ss_aload_n hx hb dd_M_isSweepHere_59 rfl (lv_at hl 1 rfl) ?_
    obtain ⟨v26, qv26, hm⟩ := ss_bind hm
    refine ss_geti hC hK hR kf_M_152 qv26 dd_M_isSweepHere_60 ?_
    obtain ⟨v27, qv27, hm⟩ := ss_bind hm
    refine ss_iald hC hK hR qv27 dd_M_isSweepHere_63 ?_
    obtain ⟨h28, qh28, hm⟩ := ss_bind hm
    refine ss_iast hC hK hR hS qh28 dd_M_isSweepHere_64 (fun H locs hR hS => ?_)
    refine ss_aload_n hx hb dd_M_isSweepHere_65 rfl (lv_at hl 1 rfl) ?_
    obtain ⟨r29, qr29, hm⟩ := ss_bind hm
    refine ss_getr hC hK hR kf_M_20 rfl qr29 dd_M_isSweepHere_66 ?_
    refine lv_iload_n hx hb dd_M_isSweepHere_69 rfl (lv_at hl 0 rfl) ?_
    refine lv_iconst (v := 2) hx hb dd_M_isSweepHere_70 (by decide) ?_
    refine lv_iadd hx hb dd_M_isSweepHere_71 ?_
    refine lv_iconst (v := -1) hx hb dd_M_isSweepHere_72 (by decide) ?_
    obtain ⟨h30, qh30, hm⟩ := ss_bind hm
    refine ss_iast hC hK hR hS qh30 dd_M_isSweepHere_73 (fun H locs hR hS => ?_)
    refine ss_aload_n hx hb dd_M_isSweepHere_74 rfl (lv_at hl 1 rfl) ?_
    refine lv_ldc2 (v := 26982) hx hb hC.2.2.2.1 (hC.2.2.2.2 _ kl_M_216) dd_M_isSweepHere_75 ?_
    obtain ⟨v31, h32, qh32, hm⟩ := ss_bind2 hm
    refine ss_cV 0 0 (As := [.long (26982 : Int64)]) hC hK hR hS hl.1 (cc_M_takesWord l G N _ _ _ _ _ qh32) km_M_218 (ck_M_takesWord qh32) ⟨Nat.le_of_ble_eq_true rfl, Nat.le_of_ble_eq_true rfl⟩ ⟨Nat.le_of_ble_eq_true rfl, Nat.le_of_ble_eq_true rfl, Nat.le_of_ble_eq_true rfl, Nat.le_of_ble_eq_true rfl⟩ rfl rfl (Nat.le_of_ble_eq_true rfl) dd_M_isSweepHere_78 (fun H locs hR hS => ?_)
    refine lv_if_eq (tgt := 110) hx hb dd_M_isSweepHere_81 (by decide) (fun c33 => ?_) (fun c33 => ?_)
    · have hm := ss_ift hm c33
      exact J_110 v15 h32 _ _ _ hm hR hS (lv_sub hl [1, 0] rfl)
    · have hm := ss_iff hm c33
      refine ss_aload_n hx hb dd_M_isSweepHere_84 rfl (lv_at hl 1 rfl) ?_
      obtain ⟨r34, qr34, hm⟩ := ss_bind hm
      refine ss_getr hC hK hR kf_M_20 rfl qr34 dd_M_isSweepHere_85 ?_
      refine lv_iload_n hx hb dd_M_isSweepHere_88 rfl (lv_at hl 0 rfl) ?_
      refine lv_iconst (v := 2) hx hb dd_M_isSweepHere_89 (by decide) ?_
      refine lv_iadd hx hb dd_M_isSweepHere_90 ?_
      refine ss_aload_n hx hb dd_M_isSweepHere_91 rfl (lv_at hl 1 rfl) ?_
      obtain ⟨r35, qr35, hm⟩ := ss_bind hm
      refine ss_getr hC hK hR kf_M_17 rfl qr35 dd_M_isSweepHere_92 ?_
      refine ss_aload_n hx hb dd_M_isSweepHere_95 rfl (lv_at hl 1 rfl) ?_
      obtain ⟨v36, qv36, hm⟩ := ss_bind hm
      refine ss_geti hC hK hR kf_M_152 qv36 dd_M_isSweepHere_96 ?_
      obtain ⟨v37, qv37, hm⟩ := ss_bind hm
      refine ss_iald hC hK hR qv37 dd_M_isSweepHere_99 ?_
      obtain ⟨h38, qh38, hm⟩ := ss_bind hm
      refine ss_iast hC hK hR hS qh38 dd_M_isSweepHere_100 (fun H locs hR hS => ?_)
      refine ss_aload_n hx hb dd_M_isSweepHere_101 rfl (lv_at hl 1 rfl) ?_
      obtain ⟨v39, h40, qh40, hm⟩ := ss_bind2 hm
      refine ss_cV 0 0 (As := []) hC hK hR hS hl.1 (cc_M_tested l G N _ _ _ _ qh40) km_M_221 (ck_M_tested qh40) ⟨Nat.le_of_ble_eq_true rfl, Nat.le_of_ble_eq_true rfl⟩ ⟨Nat.le_of_ble_eq_true rfl, Nat.le_of_ble_eq_true rfl, Nat.le_of_ble_eq_true rfl, Nat.le_of_ble_eq_true rfl⟩ rfl rfl (Nat.le_of_ble_eq_true rfl) dd_M_isSweepHere_102 (fun H locs hR hS => ?_)
      refine lv_if_ne (tgt := 110) hx hb dd_M_isSweepHere_105 (by decide) (fun c41 => ?_) (fun c41 => ?_)
      · have hm := ss_iff hm c41
        exact J_110 v15 h40 _ _ _ hm hR hS (lv_sub hl [1, 0] rfl)
      · have hm := ss_ift hm c41
        refine lv_iconst (v := 0) hx hb dd_M_isSweepHere_108 (by decide) ?_
        exact ss_zret hC hr (by decide) hlocks hR hS hm dd_M_isSweepHere_109
  · have hm := ss_ift hm c23
    refine lv_iconst (v := 0) hx hb dd_M_isSweepHere_46 (by decide) ?_
    exact ss_zret hC hr (by decide) hlocks hR hS hm dd_M_isSweepHere_47
theorem dd_M_clauseHere_0 : decode bb_M_clauseHere 0 = .ok (.aload_n 0, 1) := by decide +kernel
theorem dd_M_clauseHere_1 : decode bb_M_clauseHere 1 = .ok (.invokevirtual 99, 3) := by decide +kernel
theorem dd_M_clauseHere_4 : decode bb_M_clauseHere 4 = .ok (.pop, 1) := by decide +kernel
theorem dd_M_clauseHere_5 : decode bb_M_clauseHere 5 = .ok (.aload_n 0, 1) := by decide +kernel
theorem dd_M_clauseHere_6 : decode bb_M_clauseHere 6 = .ok (.getfield 96, 3) := by decide +kernel
theorem dd_M_clauseHere_9 : decode bb_M_clauseHere 9 = .ok (.istore_n 1, 1) := by decide +kernel
theorem dd_M_clauseHere_10 : decode bb_M_clauseHere 10 = .ok (.aload_n 0, 1) := by decide +kernel
theorem dd_M_clauseHere_11 : decode bb_M_clauseHere 11 = .ok (.getfield 152, 3) := by decide +kernel
theorem dd_M_clauseHere_14 : decode bb_M_clauseHere 14 = .ok (.bipush 6, 2) := by decide +kernel
theorem dd_M_clauseHere_16 : decode bb_M_clauseHere 16 = .ok (.if_icmp .ne 7, 3) := by decide +kernel
theorem dd_M_clauseHere_19 : decode bb_M_clauseHere 19 = .ok (.iconst 1, 1) := by decide +kernel
theorem dd_M_clauseHere_20 : decode bb_M_clauseHere 20 = .ok (.goto 4, 3) := by decide +kernel
theorem dd_M_clauseHere_23 : decode bb_M_clauseHere 23 = .ok (.iconst 0, 1) := by decide +kernel
theorem dd_M_clauseHere_24 : decode bb_M_clauseHere 24 = .ok (.istore_n 2, 1) := by decide +kernel
theorem dd_M_clauseHere_25 : decode bb_M_clauseHere 25 = .ok (.iload_n 2, 1) := by decide +kernel
theorem dd_M_clauseHere_26 : decode bb_M_clauseHere 26 = .ok (.ifCond .eq 13, 3) := by decide +kernel
theorem dd_M_clauseHere_29 : decode bb_M_clauseHere 29 = .ok (.aload_n 0, 1) := by decide +kernel
theorem dd_M_clauseHere_30 : decode bb_M_clauseHere 30 = .ok (.invokevirtual 263, 3) := by decide +kernel
theorem dd_M_clauseHere_33 : decode bb_M_clauseHere 33 = .ok (.ifCond .ne 23, 3) := by decide +kernel
theorem dd_M_clauseHere_36 : decode bb_M_clauseHere 36 = .ok (.goto 13, 3) := by decide +kernel
theorem dd_M_clauseHere_39 : decode bb_M_clauseHere 39 = .ok (.aload_n 0, 1) := by decide +kernel
theorem dd_M_clauseHere_40 : decode bb_M_clauseHere 40 = .ok (.ldc2_w 266, 3) := by decide +kernel
theorem dd_M_clauseHere_43 : decode bb_M_clauseHere 43 = .ok (.invokevirtual 107, 3) := by decide +kernel
theorem dd_M_clauseHere_46 : decode bb_M_clauseHere 46 = .ok (.ifCond .ne 10, 3) := by decide +kernel
theorem dd_M_clauseHere_49 : decode bb_M_clauseHere 49 = .ok (.aload_n 0, 1) := by decide +kernel
theorem dd_M_clauseHere_50 : decode bb_M_clauseHere 50 = .ok (.iconst 0, 1) := by decide +kernel
theorem dd_M_clauseHere_51 : decode bb_M_clauseHere 51 = .ok (.iload_n 1, 1) := by decide +kernel
theorem dd_M_clauseHere_52 : decode bb_M_clauseHere 52 = .ok (.invokevirtual 117, 3) := by decide +kernel
theorem dd_M_clauseHere_55 : decode bb_M_clauseHere 55 = .ok (.ireturn, 1) := by decide +kernel
theorem dd_M_clauseHere_56 : decode bb_M_clauseHere 56 = .ok (.aload_n 0, 1) := by decide +kernel
theorem dd_M_clauseHere_57 : decode bb_M_clauseHere 57 = .ok (.getfield 268, 3) := by decide +kernel
theorem dd_M_clauseHere_60 : decode bb_M_clauseHere 60 = .ok (.iload_n 2, 1) := by decide +kernel
theorem dd_M_clauseHere_61 : decode bb_M_clauseHere 61 = .ok (.ifCond .eq 8, 3) := by decide +kernel
theorem dd_M_clauseHere_64 : decode bb_M_clauseHere 64 = .ok (.bipush 40, 2) := by decide +kernel
theorem dd_M_clauseHere_66 : decode bb_M_clauseHere 66 = .ok (.goto 5, 3) := by decide +kernel
theorem dd_M_clauseHere_69 : decode bb_M_clauseHere 69 = .ok (.bipush 12, 2) := by decide +kernel
theorem dd_M_clauseHere_71 : decode bb_M_clauseHere 71 = .ok (.if_icmp .ne 10, 3) := by decide +kernel
theorem dd_M_clauseHere_74 : decode bb_M_clauseHere 74 = .ok (.aload_n 0, 1) := by decide +kernel
theorem dd_M_clauseHere_75 : decode bb_M_clauseHere 75 = .ok (.iconst 4, 1) := by decide +kernel
theorem dd_M_clauseHere_76 : decode bb_M_clauseHere 76 = .ok (.iload_n 1, 1) := by decide +kernel
theorem dd_M_clauseHere_77 : decode bb_M_clauseHere 77 = .ok (.invokevirtual 117, 3) := by decide +kernel
theorem dd_M_clauseHere_80 : decode bb_M_clauseHere 80 = .ok (.ireturn, 1) := by decide +kernel
theorem dd_M_clauseHere_81 : decode bb_M_clauseHere 81 = .ok (.aload_n 0, 1) := by decide +kernel
theorem dd_M_clauseHere_82 : decode bb_M_clauseHere 82 = .ok (.dup, 1) := by decide +kernel
theorem dd_M_clauseHere_83 : decode bb_M_clauseHere 83 = .ok (.getfield 268, 3) := by decide +kernel
theorem dd_M_clauseHere_86 : decode bb_M_clauseHere 86 = .ok (.iconst 1, 1) := by decide +kernel
theorem dd_M_clauseHere_87 : decode bb_M_clauseHere 87 = .ok (.iadd, 1) := by decide +kernel
theorem dd_M_clauseHere_88 : decode bb_M_clauseHere 88 = .ok (.putfield 268, 3) := by decide +kernel
theorem dd_M_clauseHere_91 : decode bb_M_clauseHere 91 = .ok (.iload_n 2, 1) := by decide +kernel
theorem dd_M_clauseHere_92 : decode bb_M_clauseHere 92 = .ok (.ifCond .eq 11, 3) := by decide +kernel
theorem dd_M_clauseHere_95 : decode bb_M_clauseHere 95 = .ok (.aload_n 0, 1) := by decide +kernel
theorem dd_M_clauseHere_96 : decode bb_M_clauseHere 96 = .ok (.iload_n 1, 1) := by decide +kernel
theorem dd_M_clauseHere_97 : decode bb_M_clauseHere 97 = .ok (.invokevirtual 271, 3) := by decide +kernel
theorem dd_M_clauseHere_100 : decode bb_M_clauseHere 100 = .ok (.goto 7, 3) := by decide +kernel
theorem dd_M_clauseHere_103 : decode bb_M_clauseHere 103 = .ok (.aload_n 0, 1) := by decide +kernel
theorem dd_M_clauseHere_104 : decode bb_M_clauseHere 104 = .ok (.invokevirtual 274, 3) := by decide +kernel
theorem dd_M_clauseHere_107 : decode bb_M_clauseHere 107 = .ok (.ireturn, 1) := by decide +kernel
def mm_M_clauseHere_j49 (N : Nat) (this : Option Nat) (x1_49 : Int32) (h_49 : ss_Hp) : Option (Int32 × ss_Hp) :=
  ss_b2 (mm_M_fails N this (0 : Int32) x1_49 h_49) fun v1 h2 =>
  (ss_bz v1).bind fun v3 =>
  some (v3, h2)
def mm_M_clauseHere_j107 (N : Nat) (this : Option Nat) (s0_107 : Int32) (h_107 : ss_Hp) : Option (Int32 × ss_Hp) :=
  (ss_bz s0_107).bind fun v4 =>
  some (v4, h_107)
def mm_M_clauseHere_j71 (N : Nat) (this : Option Nat) (x1_71 : Int32) (x2_71 : Int32) (s0_71 : Int32) (s1_71 : Int32) (h_71 : ss_Hp) : Option (Int32 × ss_Hp) :=
  if s0_71 = s1_71 then
    ss_b2 (mm_M_fails N this (4 : Int32) x1_71 h_71) fun v13 h14 =>
    (ss_bz v13).bind fun v15 =>
    some (v15, h14)
  else
    (ss_gi h_71 this 12 8).bind fun v6 =>
    (ss_pi h_71 this 12 8 (v6 + (1 : Int32))).bind fun h7 =>
    if x2_71 = 0 then
      ss_b2 (mm_M_isSweepHere N this h7) fun v9 h10 =>
      mm_M_clauseHere_j107 N this v9 h10
    else
      ss_b2 (mm_M_valleyLineHere N this x1_71 h7) fun v11 h12 =>
      mm_M_clauseHere_j107 N this v11 h12
def mm_M_clauseHere_j56 (N : Nat) (this : Option Nat) (x1_56 : Int32) (x2_56 : Int32) (h_56 : ss_Hp) : Option (Int32 × ss_Hp) :=
  (ss_gi h_56 this 12 8).bind fun v16 =>
  if x2_56 = 0 then
    mm_M_clauseHere_j71 N this x1_56 x2_56 v16 (12 : Int32) h_56
  else
    mm_M_clauseHere_j71 N this x1_56 x2_56 v16 (40 : Int32) h_56
def mm_M_clauseHere_j24 (N : Nat) (this : Option Nat) (x1_24 : Int32) (s0_24 : Int32) (h_24 : ss_Hp) : Option (Int32 × ss_Hp) :=
  if s0_24 = 0 then
    ss_b2 (mm_M_isWord N this (495924372848 : Int64) h_24) fun v19 h20 =>
    if v19 = 0 then
      mm_M_clauseHere_j49 N this x1_24 h20
    else
      mm_M_clauseHere_j56 N this x1_24 s0_24 h20
  else
    ss_b2 (mm_M_isValleyWord N this h_24) fun v22 h23 =>
    if v22 = 0 then
      mm_M_clauseHere_j49 N this x1_24 h23
    else
      mm_M_clauseHere_j56 N this x1_24 s0_24 h23
def mm_M_clauseHere (N : Nat) (this : Option Nat) (h : ss_Hp) : Option (Int32 × ss_Hp) :=
  if ss_is h this 12 = true then
    ss_b2 (mm_M_see N this h) fun v25 h26 =>
    (ss_gi h26 this 12 2).bind fun v27 =>
    (ss_gi h26 this 12 5).bind fun v28 =>
    if v28 = (6 : Int32) then
      mm_M_clauseHere_j24 N this v27 (1 : Int32) h26
    else
      mm_M_clauseHere_j24 N this v27 (0 : Int32) h26
  else none
abbrev ww_M_clauseHere (p : Program) (l : Launch) (e : Env) (s : State) (m : MethodId) (below : List Frame) (meth : Method) (c : Code) (G : ss_G) (this : Option Nat) (h : ss_Hp) (rr : Int32) (hh : ss_Hp) (H : Heap) (locs : List Loc) (k n : Nat) (g : JFrame) : Prop := W p l e (headSpec (ss_w yy_M_clauseHere bb_M_clauseHere 3 (some .boolean)) ({ frames := 10, cells := 0, slots := 0, locals := 219 })).room s m ([ss_v (ss_b G) this] : List Value).toArray below meth c H locs k n (MQ below (ss_Qc G (some (.int rr)) hh) ([ss_v (ss_b G) this] : List Value).toArray s 0 0 (ss_A G)) g
theorem ck_M_clauseHere {N : Nat} {this : Option Nat} {h : ss_Hp} {res : Int32 × ss_Hp} (hm : mm_M_clauseHere N this h = some res) : ss_is h this 12 = true := (ss_chk hm).1
set_option maxHeartbeats 4000000 in
set_option maxRecDepth 100000 in
theorem cc_M_clauseHere (l : Launch) (G : ss_G) (N : Nat) (this : Option Nat) (h : ss_Hp) (rr : Int32) (hh : ss_Hp) (hm : mm_M_clauseHere N this h = some (rr, hh)) : ss_Ct l G yy_M_clauseHere bb_M_clauseHere 3 (some .boolean) ({ frames := 10, cells := 0, slots := 0, locals := 219 }) [ss_v (ss_b G) this] h (some (.int rr)) hh := by
  obtain ⟨hck, hm⟩ := ss_chk hm
  refine Met.ofW (cc := bb_M_clauseHere) (maxL := 3) (ret := (some .boolean)) (by decide) rfl ?_
  intro p e s m args below meth c s₁ B hml hv
  obtain ⟨rfl, hR, hK⟩ := hv
  have hC : CallFix p m c bb_M_clauseHere 3 s _ lw_g sR_12 := ⟨B.exec, B.bytes, hml, findClass_of_methodNamed B.named, fun w hw => atoms_spec (ws := ss_w yy_M_clauseHere bb_M_clauseHere 3 (some .boolean)) B.pre w (List.mem_cons_of_mem _ hw)⟩
  have hx := hC.1
  have hb := hC.2.1
  have hr := B.returns
  have hlocks := B.notSynchronized
  have hS : va_S (ss_A G) s.heap s.heap [] := va_S.rf
  have hl := lv_entry ([ss_v (ss_b G) this]) (n := 3) (by simp [lg_sl, ss_v_cat, ss_cat_i, ss_cat_l, ss_cat_r])
  rw [lg_entry_eq]
  generalize (lg_sl ([ss_v (ss_b G) this]) ++ List.replicate (3 - (lg_sl ([ss_v (ss_b G) this])).length) Slot.unset).toArray = ls at hl ⊢
  have hl : lv_has ls 3 [(0, ss_v (ss_b G) this)] := by simpa [lv_args, ss_v_cat, ss_cat_i, ss_cat_l, ss_cat_r] using hl
  have J_49 : ∀ (x1_49 : Int32) (h_49 : ss_Hp) (H : Heap) (locs : List Loc) (ls : Array Slot), mm_M_clauseHere_j49 N this x1_49 h_49 = some (rr, hh) → ss_R G h_49 H → va_S (ss_A G) s.heap H locs → lv_has ls 3 [(0, ss_v (ss_b G) this), (1, .int x1_49)] → ww_M_clauseHere p l e s m below meth c G this h rr hh  H locs 0 0 (F0 m 49 ls []) := by
    intro x1_49 h_49 H locs ls hm hR hS hl
    refine ss_aload_n hx hb dd_M_clauseHere_49 rfl (lv_at hl 0 rfl) ?_
    refine lv_iconst (v := 0) hx hb dd_M_clauseHere_50 (by decide) ?_
    refine lv_iload_n hx hb dd_M_clauseHere_51 rfl (lv_at hl 1 rfl) ?_
    obtain ⟨v1, h2, qh2, hm⟩ := ss_bind2 hm
    refine ss_cV 0 0 (As := [.int (0 : Int32), .int x1_49]) hC hK hR hS hl.1 (cc_M_fails l G N _ _ _ _ _ _ qh2) km_M_117 (ck_M_fails qh2) ⟨Nat.le_of_ble_eq_true rfl, Nat.le_of_ble_eq_true rfl⟩ ⟨Nat.le_of_ble_eq_true rfl, Nat.le_of_ble_eq_true rfl, Nat.le_of_ble_eq_true rfl, Nat.le_of_ble_eq_true rfl⟩ rfl rfl (Nat.le_of_ble_eq_true rfl) dd_M_clauseHere_52 (fun H locs hR hS => ?_)
    obtain ⟨v3, qv3, hm⟩ := ss_bind hm
    obtain ⟨hnb, rfl⟩ := ss_bzs qv3
    exact ss_zret hC hr hnb hlocks hR hS hm dd_M_clauseHere_55
  have J_107 : ∀ (s0_107 : Int32) (h_107 : ss_Hp) (H : Heap) (locs : List Loc) (ls : Array Slot), mm_M_clauseHere_j107 N this s0_107 h_107 = some (rr, hh) → ss_R G h_107 H → va_S (ss_A G) s.heap H locs → lv_has ls 3 [] → ww_M_clauseHere p l e s m below meth c G this h rr hh  H locs 0 0 (F0 m 107 ls [.int s0_107]) := by
    intro s0_107 h_107 H locs ls hm hR hS hl
    obtain ⟨v4, qv4, hm⟩ := ss_bind hm
    obtain ⟨hnb, rfl⟩ := ss_bzs qv4
    exact ss_zret hC hr hnb hlocks hR hS hm dd_M_clauseHere_107
  have J_71 : ∀ (x1_71 : Int32) (x2_71 : Int32) (s0_71 : Int32) (s1_71 : Int32) (h_71 : ss_Hp) (H : Heap) (locs : List Loc) (ls : Array Slot), mm_M_clauseHere_j71 N this x1_71 x2_71 s0_71 s1_71 h_71 = some (rr, hh) → ss_R G h_71 H → va_S (ss_A G) s.heap H locs → lv_has ls 3 [(0, ss_v (ss_b G) this), (1, .int x1_71), (2, .int x2_71)] → ww_M_clauseHere p l e s m below meth c G this h rr hh  H locs 0 0 (F0 m 71 ls [.int s1_71, .int s0_71]) := by
    intro x1_71 x2_71 s0_71 s1_71 h_71 H locs ls hm hR hS hl
    refine lv_icmp_ne (tgt := 81) hx hb dd_M_clauseHere_71 (by decide) (fun c5 => ?_) (fun c5 => ?_)
    · have hm := ss_iff hm c5
      refine ss_aload_n hx hb dd_M_clauseHere_81 rfl (lv_at hl 0 rfl) ?_
      refine ss_dupr hx hb dd_M_clauseHere_82 ?_
      obtain ⟨v6, qv6, hm⟩ := ss_bind hm
      refine ss_geti hC hK hR kf_M_268 qv6 dd_M_clauseHere_83 ?_
      refine lv_iconst (v := 1) hx hb dd_M_clauseHere_86 (by decide) ?_
      refine lv_iadd hx hb dd_M_clauseHere_87 ?_
      obtain ⟨h7, qh7, hm⟩ := ss_bind hm
      refine ss_puti hC hK hR hS kp_M_268 qh7 dd_M_clauseHere_88 (fun H locs hR hS => ?_)
      refine lv_iload_n hx hb dd_M_clauseHere_91 rfl (lv_at hl 2 rfl) ?_
      refine lv_if_eq (tgt := 103) hx hb dd_M_clauseHere_92 (by decide) (fun c8 => ?_) (fun c8 => ?_)
      · have hm := ss_ift hm c8
        refine ss_aload_n hx hb dd_M_clauseHere_103 rfl (lv_at hl 0 rfl) ?_
        obtain ⟨v9, h10, qh10, hm⟩ := ss_bind2 hm
        refine ss_cV 0 0 (As := []) hC hK hR hS hl.1 (cc_M_isSweepHere l G N _ _ _ _ qh10) km_M_274 (ck_M_isSweepHere qh10) ⟨Nat.le_of_ble_eq_true rfl, Nat.le_of_ble_eq_true rfl⟩ ⟨Nat.le_of_ble_eq_true rfl, Nat.le_of_ble_eq_true rfl, Nat.le_of_ble_eq_true rfl, Nat.le_of_ble_eq_true rfl⟩ rfl rfl (Nat.le_of_ble_eq_true rfl) dd_M_clauseHere_104 (fun H locs hR hS => ?_)
        exact J_107 v9 h10 _ _ _ hm hR hS (lv_sub hl [] rfl)
      · have hm := ss_iff hm c8
        refine ss_aload_n hx hb dd_M_clauseHere_95 rfl (lv_at hl 0 rfl) ?_
        refine lv_iload_n hx hb dd_M_clauseHere_96 rfl (lv_at hl 1 rfl) ?_
        obtain ⟨v11, h12, qh12, hm⟩ := ss_bind2 hm
        refine ss_cV 0 0 (As := [.int x1_71]) hC hK hR hS hl.1 (cc_M_valleyLineHere l G N _ _ _ _ _ qh12) km_M_271 (ck_M_valleyLineHere qh12) ⟨Nat.le_of_ble_eq_true rfl, Nat.le_of_ble_eq_true rfl⟩ ⟨Nat.le_of_ble_eq_true rfl, Nat.le_of_ble_eq_true rfl, Nat.le_of_ble_eq_true rfl, Nat.le_of_ble_eq_true rfl⟩ rfl rfl (Nat.le_of_ble_eq_true rfl) dd_M_clauseHere_97 (fun H locs hR hS => ?_)
        refine lv_goto (tgt := 107) hx hb dd_M_clauseHere_100 (by decide) ?_
        exact J_107 v11 h12 _ _ _ hm hR hS (lv_sub hl [] rfl)
    · have hm := ss_ift hm c5
      refine ss_aload_n hx hb dd_M_clauseHere_74 rfl (lv_at hl 0 rfl) ?_
      refine lv_iconst (v := 4) hx hb dd_M_clauseHere_75 (by decide) ?_
      refine lv_iload_n hx hb dd_M_clauseHere_76 rfl (lv_at hl 1 rfl) ?_
      obtain ⟨v13, h14, qh14, hm⟩ := ss_bind2 hm
      refine ss_cV 0 0 (As := [.int (4 : Int32), .int x1_71]) hC hK hR hS hl.1 (cc_M_fails l G N _ _ _ _ _ _ qh14) km_M_117 (ck_M_fails qh14) ⟨Nat.le_of_ble_eq_true rfl, Nat.le_of_ble_eq_true rfl⟩ ⟨Nat.le_of_ble_eq_true rfl, Nat.le_of_ble_eq_true rfl, Nat.le_of_ble_eq_true rfl, Nat.le_of_ble_eq_true rfl⟩ rfl rfl (Nat.le_of_ble_eq_true rfl) dd_M_clauseHere_77 (fun H locs hR hS => ?_)
      obtain ⟨v15, qv15, hm⟩ := ss_bind hm
      obtain ⟨hnb, rfl⟩ := ss_bzs qv15
      exact ss_zret hC hr hnb hlocks hR hS hm dd_M_clauseHere_80
  have J_56 : ∀ (x1_56 : Int32) (x2_56 : Int32) (h_56 : ss_Hp) (H : Heap) (locs : List Loc) (ls : Array Slot), mm_M_clauseHere_j56 N this x1_56 x2_56 h_56 = some (rr, hh) → ss_R G h_56 H → va_S (ss_A G) s.heap H locs → lv_has ls 3 [(0, ss_v (ss_b G) this), (1, .int x1_56), (2, .int x2_56)] → ww_M_clauseHere p l e s m below meth c G this h rr hh  H locs 0 0 (F0 m 56 ls []) := by
    intro x1_56 x2_56 h_56 H locs ls hm hR hS hl
    refine ss_aload_n hx hb dd_M_clauseHere_56 rfl (lv_at hl 0 rfl) ?_
    obtain ⟨v16, qv16, hm⟩ := ss_bind hm
    refine ss_geti hC hK hR kf_M_268 qv16 dd_M_clauseHere_57 ?_
    refine lv_iload_n hx hb dd_M_clauseHere_60 rfl (lv_at hl 2 rfl) ?_
    refine lv_if_eq (tgt := 69) hx hb dd_M_clauseHere_61 (by decide) (fun c17 => ?_) (fun c17 => ?_)
    · have hm := ss_ift hm c17
      refine lv_bipush (v := 12) hx hb dd_M_clauseHere_69 (by decide) ?_
      exact J_71 x1_56 x2_56 v16 (12 : Int32) h_56 _ _ _ hm hR hS hl
    · have hm := ss_iff hm c17
      refine lv_bipush (v := 40) hx hb dd_M_clauseHere_64 (by decide) ?_
      refine lv_goto (tgt := 71) hx hb dd_M_clauseHere_66 (by decide) ?_
      exact J_71 x1_56 x2_56 v16 (40 : Int32) h_56 _ _ _ hm hR hS hl
  have J_24 : ∀ (x1_24 : Int32) (s0_24 : Int32) (h_24 : ss_Hp) (H : Heap) (locs : List Loc) (ls : Array Slot), mm_M_clauseHere_j24 N this x1_24 s0_24 h_24 = some (rr, hh) → ss_R G h_24 H → va_S (ss_A G) s.heap H locs → lv_has ls 3 [(0, ss_v (ss_b G) this), (1, .int x1_24)] → ww_M_clauseHere p l e s m below meth c G this h rr hh  H locs 0 0 (F0 m 24 ls [.int s0_24]) := by
    intro x1_24 s0_24 h_24 H locs ls hm hR hS hl
    refine lv_istore_n (lv' := [(2, .int s0_24), (0, ss_v (ss_b G) this), (1, .int x1_24)]) hx hb dd_M_clauseHere_24 rfl hl (by decide) rfl (fun ls hl => ?_)
    refine lv_iload_n hx hb dd_M_clauseHere_25 rfl (lv_at hl 0 rfl) ?_
    refine lv_if_eq (tgt := 39) hx hb dd_M_clauseHere_26 (by decide) (fun c18 => ?_) (fun c18 => ?_)
    · have hm := ss_ift hm c18
      refine ss_aload_n hx hb dd_M_clauseHere_39 rfl (lv_at hl 1 rfl) ?_
      refine lv_ldc2 (v := 495924372848) hx hb hC.2.2.2.1 (hC.2.2.2.2 _ kl_M_266) dd_M_clauseHere_40 ?_
      obtain ⟨v19, h20, qh20, hm⟩ := ss_bind2 hm
      refine ss_cV 0 0 (As := [.long (495924372848 : Int64)]) hC hK hR hS hl.1 (cc_M_isWord l G N _ _ _ _ _ qh20) km_M_107 (ck_M_isWord qh20) ⟨Nat.le_of_ble_eq_true rfl, Nat.le_of_ble_eq_true rfl⟩ ⟨Nat.le_of_ble_eq_true rfl, Nat.le_of_ble_eq_true rfl, Nat.le_of_ble_eq_true rfl, Nat.le_of_ble_eq_true rfl⟩ rfl rfl (Nat.le_of_ble_eq_true rfl) dd_M_clauseHere_43 (fun H locs hR hS => ?_)
      refine lv_if_ne (tgt := 56) hx hb dd_M_clauseHere_46 (by decide) (fun c21 => ?_) (fun c21 => ?_)
      · have hm := ss_iff hm c21
        exact J_56 x1_24 s0_24 h20 _ _ _ hm hR hS (lv_sub hl [1, 2, 0] rfl)
      · have hm := ss_ift hm c21
        exact J_49 x1_24 h20 _ _ _ hm hR hS (lv_sub hl [1, 2] rfl)
    · have hm := ss_iff hm c18
      refine ss_aload_n hx hb dd_M_clauseHere_29 rfl (lv_at hl 1 rfl) ?_
      obtain ⟨v22, h23, qh23, hm⟩ := ss_bind2 hm
      refine ss_cV 0 0 (As := []) hC hK hR hS hl.1 (cc_M_isValleyWord l G N _ _ _ _ qh23) km_M_263 (ck_M_isValleyWord qh23) ⟨Nat.le_of_ble_eq_true rfl, Nat.le_of_ble_eq_true rfl⟩ ⟨Nat.le_of_ble_eq_true rfl, Nat.le_of_ble_eq_true rfl, Nat.le_of_ble_eq_true rfl, Nat.le_of_ble_eq_true rfl⟩ rfl rfl (Nat.le_of_ble_eq_true rfl) dd_M_clauseHere_30 (fun H locs hR hS => ?_)
      refine lv_if_ne (tgt := 56) hx hb dd_M_clauseHere_33 (by decide) (fun c24 => ?_) (fun c24 => ?_)
      · have hm := ss_iff hm c24
        exact J_56 x1_24 s0_24 h23 _ _ _ hm hR hS (lv_sub hl [1, 2, 0] rfl)
      · have hm := ss_ift hm c24
        refine lv_goto (tgt := 49) hx hb dd_M_clauseHere_36 (by decide) ?_
        exact J_49 x1_24 h23 _ _ _ hm hR hS (lv_sub hl [1, 2] rfl)
  refine ss_aload_n hx hb dd_M_clauseHere_0 rfl (lv_at hl 0 rfl) ?_
  obtain ⟨v25, h26, qh26, hm⟩ := ss_bind2 hm
  refine ss_cV 0 0 (As := []) hC hK hR hS hl.1 (cc_M_see l G N _ _ _ _ qh26) km_M_99 (ck_M_see qh26) ⟨Nat.le_of_ble_eq_true rfl, Nat.le_of_ble_eq_true rfl⟩ ⟨Nat.le_of_ble_eq_true rfl, Nat.le_of_ble_eq_true rfl, Nat.le_of_ble_eq_true rfl, Nat.le_of_ble_eq_true rfl⟩ rfl rfl (Nat.le_of_ble_eq_true rfl) dd_M_clauseHere_1 (fun H locs hR hS => ?_)
  refine lv_pop hx hb dd_M_clauseHere_4 rfl ?_
  refine ss_aload_n hx hb dd_M_clauseHere_5 rfl (lv_at hl 0 rfl) ?_
  obtain ⟨v27, qv27, hm⟩ := ss_bind hm
  refine ss_geti hC hK hR kf_M_96 qv27 dd_M_clauseHere_6 ?_
  refine lv_istore_n (lv' := [(1, .int v27), (0, ss_v (ss_b G) this)]) hx hb dd_M_clauseHere_9 rfl hl (by decide) (by simp only [List.filter_cons, ss_v_cat]; rfl) (fun ls hl => ?_)
  refine ss_aload_n hx hb dd_M_clauseHere_10 rfl (lv_at hl 1 rfl) ?_
  obtain ⟨v28, qv28, hm⟩ := ss_bind hm
  refine ss_geti hC hK hR kf_M_152 qv28 dd_M_clauseHere_11 ?_
  refine lv_bipush (v := 6) hx hb dd_M_clauseHere_14 (by decide) ?_
  refine lv_icmp_ne (tgt := 23) hx hb dd_M_clauseHere_16 (by decide) (fun c29 => ?_) (fun c29 => ?_)
  · have hm := ss_iff hm c29
    refine lv_iconst (v := 0) hx hb dd_M_clauseHere_23 (by decide) ?_
    exact J_24 v27 (0 : Int32) h26 _ _ _ hm hR hS (lv_sub hl [1, 0] rfl)
  · have hm := ss_ift hm c29
    refine lv_iconst (v := 1) hx hb dd_M_clauseHere_19 (by decide) ?_
    refine lv_goto (tgt := 24) hx hb dd_M_clauseHere_20 (by decide) ?_
    exact J_24 v27 (1 : Int32) h26 _ _ _ hm hR hS (lv_sub hl [1, 0] rfl)
theorem dd_M_readsAll_0 : decode bb_M_readsAll 0 = .ok (.aload_n 0, 1) := by decide +kernel
theorem dd_M_readsAll_1 : decode bb_M_readsAll 1 = .ok (.getfield 17, 3) := by decide +kernel
theorem dd_M_readsAll_4 : decode bb_M_readsAll 4 = .ok (.aload_n 0, 1) := by decide +kernel
theorem dd_M_readsAll_5 : decode bb_M_readsAll 5 = .ok (.getfield 152, 3) := by decide +kernel
theorem dd_M_readsAll_8 : decode bb_M_readsAll 8 = .ok (.iconst 0, 1) := by decide +kernel
theorem dd_M_readsAll_9 : decode bb_M_readsAll 9 = .ok (.iastore, 1) := by decide +kernel
theorem dd_M_readsAll_10 : decode bb_M_readsAll 10 = .ok (.aload_n 0, 1) := by decide +kernel
theorem dd_M_readsAll_11 : decode bb_M_readsAll 11 = .ok (.iconst 0, 1) := by decide +kernel
theorem dd_M_readsAll_12 : decode bb_M_readsAll 12 = .ok (.putfield 268, 3) := by decide +kernel
theorem dd_M_readsAll_15 : decode bb_M_readsAll 15 = .ok (.aload_n 0, 1) := by decide +kernel
theorem dd_M_readsAll_16 : decode bb_M_readsAll 16 = .ok (.iconst 0, 1) := by decide +kernel
theorem dd_M_readsAll_17 : decode bb_M_readsAll 17 = .ok (.putfield 96, 3) := by decide +kernel
theorem dd_M_readsAll_20 : decode bb_M_readsAll 20 = .ok (.aload_n 0, 1) := by decide +kernel
theorem dd_M_readsAll_21 : decode bb_M_readsAll 21 = .ok (.iconst 0, 1) := by decide +kernel
theorem dd_M_readsAll_22 : decode bb_M_readsAll 22 = .ok (.putfield 93, 3) := by decide +kernel
theorem dd_M_readsAll_25 : decode bb_M_readsAll 25 = .ok (.aload_n 0, 1) := by decide +kernel
theorem dd_M_readsAll_26 : decode bb_M_readsAll 26 = .ok (.iconst 0, 1) := by decide +kernel
theorem dd_M_readsAll_27 : decode bb_M_readsAll 27 = .ok (.putfield 155, 3) := by decide +kernel
theorem dd_M_readsAll_30 : decode bb_M_readsAll 30 = .ok (.aload_n 0, 1) := by decide +kernel
theorem dd_M_readsAll_31 : decode bb_M_readsAll 31 = .ok (.invokevirtual 277, 3) := by decide +kernel
theorem dd_M_readsAll_34 : decode bb_M_readsAll 34 = .ok (.istore_n 1, 1) := by decide +kernel
theorem dd_M_readsAll_35 : decode bb_M_readsAll 35 = .ok (.iload_n 1, 1) := by decide +kernel
theorem dd_M_readsAll_36 : decode bb_M_readsAll 36 = .ok (.ifCond .eq 30, 3) := by decide +kernel
theorem dd_M_readsAll_39 : decode bb_M_readsAll 39 = .ok (.aload_n 0, 1) := by decide +kernel
theorem dd_M_readsAll_40 : decode bb_M_readsAll 40 = .ok (.invokevirtual 99, 3) := by decide +kernel
theorem dd_M_readsAll_43 : decode bb_M_readsAll 43 = .ok (.bipush 59, 2) := by decide +kernel
theorem dd_M_readsAll_45 : decode bb_M_readsAll 45 = .ok (.if_icmp .ne 21, 3) := by decide +kernel
theorem dd_M_readsAll_48 : decode bb_M_readsAll 48 = .ok (.aload_n 0, 1) := by decide +kernel
theorem dd_M_readsAll_49 : decode bb_M_readsAll 49 = .ok (.dup, 1) := by decide +kernel
theorem dd_M_readsAll_50 : decode bb_M_readsAll 50 = .ok (.getfield 96, 3) := by decide +kernel
theorem dd_M_readsAll_53 : decode bb_M_readsAll 53 = .ok (.iconst 1, 1) := by decide +kernel
theorem dd_M_readsAll_54 : decode bb_M_readsAll 54 = .ok (.iadd, 1) := by decide +kernel
theorem dd_M_readsAll_55 : decode bb_M_readsAll 55 = .ok (.putfield 96, 3) := by decide +kernel
theorem dd_M_readsAll_58 : decode bb_M_readsAll 58 = .ok (.aload_n 0, 1) := by decide +kernel
theorem dd_M_readsAll_59 : decode bb_M_readsAll 59 = .ok (.invokevirtual 277, 3) := by decide +kernel
theorem dd_M_readsAll_62 : decode bb_M_readsAll 62 = .ok (.istore_n 1, 1) := by decide +kernel
theorem dd_M_readsAll_63 : decode bb_M_readsAll 63 = .ok (.goto (-28), 3) := by decide +kernel
theorem dd_M_readsAll_66 : decode bb_M_readsAll 66 = .ok (.iload_n 1, 1) := by decide +kernel
theorem dd_M_readsAll_67 : decode bb_M_readsAll 67 = .ok (.ifCond .eq 21, 3) := by decide +kernel
theorem dd_M_readsAll_70 : decode bb_M_readsAll 70 = .ok (.aload_n 0, 1) := by decide +kernel
theorem dd_M_readsAll_71 : decode bb_M_readsAll 71 = .ok (.invokevirtual 99, 3) := by decide +kernel
theorem dd_M_readsAll_74 : decode bb_M_readsAll 74 = .ok (.iconst (-1), 1) := by decide +kernel
theorem dd_M_readsAll_75 : decode bb_M_readsAll 75 = .ok (.if_icmp .eq 13, 3) := by decide +kernel
theorem dd_M_readsAll_78 : decode bb_M_readsAll 78 = .ok (.aload_n 0, 1) := by decide +kernel
theorem dd_M_readsAll_79 : decode bb_M_readsAll 79 = .ok (.iconst 0, 1) := by decide +kernel
theorem dd_M_readsAll_80 : decode bb_M_readsAll 80 = .ok (.aload_n 0, 1) := by decide +kernel
theorem dd_M_readsAll_81 : decode bb_M_readsAll 81 = .ok (.getfield 96, 3) := by decide +kernel
theorem dd_M_readsAll_84 : decode bb_M_readsAll 84 = .ok (.invokevirtual 117, 3) := by decide +kernel
theorem dd_M_readsAll_87 : decode bb_M_readsAll 87 = .ok (.pop, 1) := by decide +kernel
theorem dd_M_readsAll_88 : decode bb_M_readsAll 88 = .ok (.aload_n 0, 1) := by decide +kernel
theorem dd_M_readsAll_89 : decode bb_M_readsAll 89 = .ok (.iconst 0, 1) := by decide +kernel
theorem dd_M_readsAll_90 : decode bb_M_readsAll 90 = .ok (.putfield 86, 3) := by decide +kernel
theorem dd_M_readsAll_93 : decode bb_M_readsAll 93 = .ok (.aload_n 0, 1) := by decide +kernel
theorem dd_M_readsAll_94 : decode bb_M_readsAll 94 = .ok (.getfield 93, 3) := by decide +kernel
theorem dd_M_readsAll_97 : decode bb_M_readsAll 97 = .ok (.ifCond .ne 7, 3) := by decide +kernel
theorem dd_M_readsAll_100 : decode bb_M_readsAll 100 = .ok (.iconst 1, 1) := by decide +kernel
theorem dd_M_readsAll_101 : decode bb_M_readsAll 101 = .ok (.goto 4, 3) := by decide +kernel
theorem dd_M_readsAll_104 : decode bb_M_readsAll 104 = .ok (.iconst 0, 1) := by decide +kernel
theorem dd_M_readsAll_105 : decode bb_M_readsAll 105 = .ok (.ireturn, 1) := by decide +kernel
def mm_M_readsAll_j105 (N : Nat) (this : Option Nat) (s0_105 : Int32) (h_105 : ss_Hp) : Option (Int32 × ss_Hp) :=
  (ss_bz s0_105).bind fun v1 =>
  some (v1, h_105)
def mm_M_readsAll_j88 (N : Nat) (this : Option Nat) (h_88 : ss_Hp) : Option (Int32 × ss_Hp) :=
  (ss_pi h_88 this 12 0 (0 : Int32)).bind fun h2 =>
  (ss_gi h2 this 12 3).bind fun v3 =>
  if v3 = 0 then
    mm_M_readsAll_j105 N this (1 : Int32) h2
  else
    mm_M_readsAll_j105 N this (0 : Int32) h2
def mm_M_readsAll_b35 (N : Nat) (this : Option Nat) (st : Int32 × ss_Hp) : Option ((Int32 × ss_Hp) ⊕ (Int32 × ss_Hp)) :=
  match st with
  | (x1_35, h_35) =>
    if x1_35 = 0 then
      some (.inr (x1_35, h_35))
    else
      ss_b2 (mm_M_see N this h_35) fun v22 h23 =>
      if v22 = (59 : Int32) then
        (ss_gi h23 this 12 2).bind fun v25 =>
        (ss_pi h23 this 12 2 (v25 + (1 : Int32))).bind fun h26 =>
        ss_b2 (mm_M_clauseHere N this h26) fun v27 h28 =>
        some (.inl (v27, h28))
      else
        some (.inr (x1_35, h23))
def mm_M_readsAll (N : Nat) (this : Option Nat) (h : ss_Hp) : Option (Int32 × ss_Hp) :=
  if ss_is h this 12 = true then
    (ss_gr h this 12 2).bind fun r5 =>
    (ss_gi h this 12 5).bind fun v6 =>
    (ss_ui h r5 20 v6 (0 : Int32)).bind fun h7 =>
    (ss_pi h7 this 12 8 (0 : Int32)).bind fun h8 =>
    (ss_pi h8 this 12 2 (0 : Int32)).bind fun h9 =>
    (ss_pi h9 this 12 3 (0 : Int32)).bind fun h10 =>
    (ss_pi h10 this 12 6 (0 : Int32)).bind fun h11 =>
    ss_b2 (mm_M_clauseHere N this h11) fun v12 h13 =>
    (ss_lp (mm_M_readsAll_b35 N this) N (v12, h13)).bind fun e_35 =>
    match e_35 with
    | (y1_35_66, h_35_66) =>
      if y1_35_66 = 0 then
        mm_M_readsAll_j88 N this h_35_66
      else
        ss_b2 (mm_M_see N this h_35_66) fun v15 h16 =>
        if v15 = (-1 : Int32) then
          mm_M_readsAll_j88 N this h16
        else
          (ss_gi h16 this 12 2).bind fun v18 =>
          ss_b2 (mm_M_fails N this (0 : Int32) v18 h16) fun v19 h20 =>
          mm_M_readsAll_j88 N this h20
  else none
abbrev ww_M_readsAll (p : Program) (l : Launch) (e : Env) (s : State) (m : MethodId) (below : List Frame) (meth : Method) (c : Code) (G : ss_G) (this : Option Nat) (h : ss_Hp) (rr : Int32) (hh : ss_Hp) (H : Heap) (locs : List Loc) (k n : Nat) (g : JFrame) : Prop := W p l e (headSpec (ss_w yy_M_readsAll bb_M_readsAll 2 (some .boolean)) ({ frames := 11, cells := 0, slots := 0, locals := 241 })).room s m ([ss_v (ss_b G) this] : List Value).toArray below meth c H locs k n (MQ below (ss_Qc G (some (.int rr)) hh) ([ss_v (ss_b G) this] : List Value).toArray s 0 0 (ss_A G)) g
theorem ck_M_readsAll {N : Nat} {this : Option Nat} {h : ss_Hp} {res : Int32 × ss_Hp} (hm : mm_M_readsAll N this h = some res) : ss_is h this 12 = true := (ss_chk hm).1
set_option maxHeartbeats 4000000 in
set_option maxRecDepth 100000 in
theorem cc_M_readsAll (l : Launch) (G : ss_G) (N : Nat) (this : Option Nat) (h : ss_Hp) (rr : Int32) (hh : ss_Hp) (hm : mm_M_readsAll N this h = some (rr, hh)) : ss_Ct l G yy_M_readsAll bb_M_readsAll 2 (some .boolean) ({ frames := 11, cells := 0, slots := 0, locals := 241 }) [ss_v (ss_b G) this] h (some (.int rr)) hh := by
  obtain ⟨hck, hm⟩ := ss_chk hm
  refine Met.ofW (cc := bb_M_readsAll) (maxL := 2) (ret := (some .boolean)) (by decide) rfl ?_
  intro p e s m args below meth c s₁ B hml hv
  obtain ⟨rfl, hR, hK⟩ := hv
  have hC : CallFix p m c bb_M_readsAll 2 s _ lw_g sR_12 := ⟨B.exec, B.bytes, hml, findClass_of_methodNamed B.named, fun w hw => atoms_spec (ws := ss_w yy_M_readsAll bb_M_readsAll 2 (some .boolean)) B.pre w (List.mem_cons_of_mem _ hw)⟩
  have hx := hC.1
  have hb := hC.2.1
  have hr := B.returns
  have hlocks := B.notSynchronized
  have hS : va_S (ss_A G) s.heap s.heap [] := va_S.rf
  have hl := lv_entry ([ss_v (ss_b G) this]) (n := 2) (by simp [lg_sl, ss_v_cat, ss_cat_i, ss_cat_l, ss_cat_r])
  rw [lg_entry_eq]
  generalize (lg_sl ([ss_v (ss_b G) this]) ++ List.replicate (2 - (lg_sl ([ss_v (ss_b G) this])).length) Slot.unset).toArray = ls at hl ⊢
  have hl : lv_has ls 2 [(0, ss_v (ss_b G) this)] := by simpa [lv_args, ss_v_cat, ss_cat_i, ss_cat_l, ss_cat_r] using hl
  have J_105 : ∀ (s0_105 : Int32) (h_105 : ss_Hp) (H : Heap) (locs : List Loc) (ls : Array Slot), mm_M_readsAll_j105 N this s0_105 h_105 = some (rr, hh) → ss_R G h_105 H → va_S (ss_A G) s.heap H locs → lv_has ls 2 [] → ww_M_readsAll p l e s m below meth c G this h rr hh  H locs 0 0 (F0 m 105 ls [.int s0_105]) := by
    intro s0_105 h_105 H locs ls hm hR hS hl
    obtain ⟨v1, qv1, hm⟩ := ss_bind hm
    obtain ⟨hnb, rfl⟩ := ss_bzs qv1
    exact ss_zret hC hr hnb hlocks hR hS hm dd_M_readsAll_105
  have J_88 : ∀ (h_88 : ss_Hp) (H : Heap) (locs : List Loc) (ls : Array Slot), mm_M_readsAll_j88 N this h_88 = some (rr, hh) → ss_R G h_88 H → va_S (ss_A G) s.heap H locs → lv_has ls 2 [(0, ss_v (ss_b G) this)] → ww_M_readsAll p l e s m below meth c G this h rr hh  H locs 0 0 (F0 m 88 ls []) := by
    intro h_88 H locs ls hm hR hS hl
    refine ss_aload_n hx hb dd_M_readsAll_88 rfl (lv_at hl 0 rfl) ?_
    refine lv_iconst (v := 0) hx hb dd_M_readsAll_89 (by decide) ?_
    obtain ⟨h2, qh2, hm⟩ := ss_bind hm
    refine ss_puti hC hK hR hS kp_M_86 qh2 dd_M_readsAll_90 (fun H locs hR hS => ?_)
    refine ss_aload_n hx hb dd_M_readsAll_93 rfl (lv_at hl 0 rfl) ?_
    obtain ⟨v3, qv3, hm⟩ := ss_bind hm
    refine ss_geti hC hK hR kf_M_93 qv3 dd_M_readsAll_94 ?_
    refine lv_if_ne (tgt := 104) hx hb dd_M_readsAll_97 (by decide) (fun c4 => ?_) (fun c4 => ?_)
    · have hm := ss_iff hm c4
      refine lv_iconst (v := 0) hx hb dd_M_readsAll_104 (by decide) ?_
      exact J_105 (0 : Int32) h2 _ _ _ hm hR hS (lv_sub hl [] rfl)
    · have hm := ss_ift hm c4
      refine lv_iconst (v := 1) hx hb dd_M_readsAll_100 (by decide) ?_
      refine lv_goto (tgt := 105) hx hb dd_M_readsAll_101 (by decide) ?_
      exact J_105 (1 : Int32) h2 _ _ _ hm hR hS (lv_sub hl [] rfl)
  refine ss_aload_n hx hb dd_M_readsAll_0 rfl (lv_at hl 0 rfl) ?_
  obtain ⟨r5, qr5, hm⟩ := ss_bind hm
  refine ss_getr hC hK hR kf_M_17 rfl qr5 dd_M_readsAll_1 ?_
  refine ss_aload_n hx hb dd_M_readsAll_4 rfl (lv_at hl 0 rfl) ?_
  obtain ⟨v6, qv6, hm⟩ := ss_bind hm
  refine ss_geti hC hK hR kf_M_152 qv6 dd_M_readsAll_5 ?_
  refine lv_iconst (v := 0) hx hb dd_M_readsAll_8 (by decide) ?_
  obtain ⟨h7, qh7, hm⟩ := ss_bind hm
  refine ss_iast hC hK hR hS qh7 dd_M_readsAll_9 (fun H locs hR hS => ?_)
  refine ss_aload_n hx hb dd_M_readsAll_10 rfl (lv_at hl 0 rfl) ?_
  refine lv_iconst (v := 0) hx hb dd_M_readsAll_11 (by decide) ?_
  obtain ⟨h8, qh8, hm⟩ := ss_bind hm
  refine ss_puti hC hK hR hS kp_M_268 qh8 dd_M_readsAll_12 (fun H locs hR hS => ?_)
  refine ss_aload_n hx hb dd_M_readsAll_15 rfl (lv_at hl 0 rfl) ?_
  refine lv_iconst (v := 0) hx hb dd_M_readsAll_16 (by decide) ?_
  obtain ⟨h9, qh9, hm⟩ := ss_bind hm
  refine ss_puti hC hK hR hS kp_M_96 qh9 dd_M_readsAll_17 (fun H locs hR hS => ?_)
  refine ss_aload_n hx hb dd_M_readsAll_20 rfl (lv_at hl 0 rfl) ?_
  refine lv_iconst (v := 0) hx hb dd_M_readsAll_21 (by decide) ?_
  obtain ⟨h10, qh10, hm⟩ := ss_bind hm
  refine ss_puti hC hK hR hS kp_M_93 qh10 dd_M_readsAll_22 (fun H locs hR hS => ?_)
  refine ss_aload_n hx hb dd_M_readsAll_25 rfl (lv_at hl 0 rfl) ?_
  refine lv_iconst (v := 0) hx hb dd_M_readsAll_26 (by decide) ?_
  obtain ⟨h11, qh11, hm⟩ := ss_bind hm
  refine ss_puti hC hK hR hS kp_M_155 qh11 dd_M_readsAll_27 (fun H locs hR hS => ?_)
  refine ss_aload_n hx hb dd_M_readsAll_30 rfl (lv_at hl 0 rfl) ?_
  obtain ⟨v12, h13, qh13, hm⟩ := ss_bind2 hm
  refine ss_cV 0 0 (As := []) hC hK hR hS hl.1 (cc_M_clauseHere l G N _ _ _ _ qh13) km_M_277 (ck_M_clauseHere qh13) ⟨Nat.le_of_ble_eq_true rfl, Nat.le_of_ble_eq_true rfl⟩ ⟨Nat.le_of_ble_eq_true rfl, Nat.le_of_ble_eq_true rfl, Nat.le_of_ble_eq_true rfl, Nat.le_of_ble_eq_true rfl⟩ rfl rfl (Nat.le_of_ble_eq_true rfl) dd_M_readsAll_31 (fun H locs hR hS => ?_)
  refine lv_istore_n (lv' := [(1, .int v12), (0, ss_v (ss_b G) this)]) hx hb dd_M_readsAll_34 rfl hl (by decide) (by simp only [List.filter_cons, ss_v_cat]; rfl) (fun ls hl => ?_)
  obtain ⟨e_35, he_35, hm⟩ := ss_bind hm
  have X_35_66 : ∀ (y1_35_66 : Int32) (h_35_66 : ss_Hp) (H : Heap) (locs : List Loc) (ls : Array Slot), e_35 = (y1_35_66, h_35_66) → ss_R G h_35_66 H → va_S (ss_A G) s.heap H locs → lv_has ls 2 [(0, ss_v (ss_b G) this), (1, .int y1_35_66)] → ww_M_readsAll p l e s m below meth c G this h rr hh  H locs 0 0 (F0 m 66 ls []) := by
    intro y1_35_66 h_35_66 H locs ls hq hR hS hl
    rw [hq] at hm
    refine lv_iload_n hx hb dd_M_readsAll_66 rfl (lv_at hl 1 rfl) ?_
    refine lv_if_eq (tgt := 88) hx hb dd_M_readsAll_67 (by decide) (fun c14 => ?_) (fun c14 => ?_)
    · have hm := ss_ift hm c14
      exact J_88 h_35_66 _ _ _ hm hR hS (lv_sub hl [0] rfl)
    · have hm := ss_iff hm c14
      refine ss_aload_n hx hb dd_M_readsAll_70 rfl (lv_at hl 0 rfl) ?_
      obtain ⟨v15, h16, qh16, hm⟩ := ss_bind2 hm
      refine ss_cV 0 0 (As := []) hC hK hR hS hl.1 (cc_M_see l G N _ _ _ _ qh16) km_M_99 (ck_M_see qh16) ⟨Nat.le_of_ble_eq_true rfl, Nat.le_of_ble_eq_true rfl⟩ ⟨Nat.le_of_ble_eq_true rfl, Nat.le_of_ble_eq_true rfl, Nat.le_of_ble_eq_true rfl, Nat.le_of_ble_eq_true rfl⟩ rfl rfl (Nat.le_of_ble_eq_true rfl) dd_M_readsAll_71 (fun H locs hR hS => ?_)
      refine lv_iconst (v := -1) hx hb dd_M_readsAll_74 (by decide) ?_
      refine lv_icmp_eq (tgt := 88) hx hb dd_M_readsAll_75 (by decide) (fun c17 => ?_) (fun c17 => ?_)
      · have hm := ss_ift hm c17
        exact J_88 h16 _ _ _ hm hR hS (lv_sub hl [0] rfl)
      · have hm := ss_iff hm c17
        refine ss_aload_n hx hb dd_M_readsAll_78 rfl (lv_at hl 0 rfl) ?_
        refine lv_iconst (v := 0) hx hb dd_M_readsAll_79 (by decide) ?_
        refine ss_aload_n hx hb dd_M_readsAll_80 rfl (lv_at hl 0 rfl) ?_
        obtain ⟨v18, qv18, hm⟩ := ss_bind hm
        refine ss_geti hC hK hR kf_M_96 qv18 dd_M_readsAll_81 ?_
        obtain ⟨v19, h20, qh20, hm⟩ := ss_bind2 hm
        refine ss_cV 0 0 (As := [.int (0 : Int32), .int v18]) hC hK hR hS hl.1 (cc_M_fails l G N _ _ _ _ _ _ qh20) km_M_117 (ck_M_fails qh20) ⟨Nat.le_of_ble_eq_true rfl, Nat.le_of_ble_eq_true rfl⟩ ⟨Nat.le_of_ble_eq_true rfl, Nat.le_of_ble_eq_true rfl, Nat.le_of_ble_eq_true rfl, Nat.le_of_ble_eq_true rfl⟩ rfl rfl (Nat.le_of_ble_eq_true rfl) dd_M_readsAll_84 (fun H locs hR hS => ?_)
        refine lv_pop hx hb dd_M_readsAll_87 rfl ?_
        exact J_88 h20 _ _ _ hm hR hS (lv_sub hl [0] rfl)
  have L_35 : ∀ (n : Nat) (x1_35 : Int32) (h_35 : ss_Hp) (H : Heap) (locs : List Loc) (ls : Array Slot), ss_lp (mm_M_readsAll_b35 N this) n (x1_35, h_35) = some e_35 → ss_R G h_35 H → va_S (ss_A G) s.heap H locs → lv_has ls 2 [(0, ss_v (ss_b G) this), (1, .int x1_35)] → ww_M_readsAll p l e s m below meth c G this h rr hh  H locs 0 0 (F0 m 35 ls []) := by
    intro n
    induction n with
    | zero => intro x1_35 h_35 H locs ls hm; cases hm
    | succ n ih_35 =>
      intro x1_35 h_35 H locs ls hm hR hS hl
      obtain ⟨z_35, hm, hz1_35, hz2_35⟩ := ss_lps hm
      refine lv_iload_n hx hb dd_M_readsAll_35 rfl (lv_at hl 1 rfl) ?_
      refine lv_if_eq (tgt := 66) hx hb dd_M_readsAll_36 (by decide) (fun c21 => ?_) (fun c21 => ?_)
      · have hm := ss_ift hm c21
        exact X_35_66 x1_35 h_35 _ _ _ (hz2_35 _ (ss_some hm)) hR hS hl
      · have hm := ss_iff hm c21
        refine ss_aload_n hx hb dd_M_readsAll_39 rfl (lv_at hl 0 rfl) ?_
        obtain ⟨v22, h23, qh23, hm⟩ := ss_bind2 hm
        refine ss_cV 0 0 (As := []) hC hK hR hS hl.1 (cc_M_see l G N _ _ _ _ qh23) km_M_99 (ck_M_see qh23) ⟨Nat.le_of_ble_eq_true rfl, Nat.le_of_ble_eq_true rfl⟩ ⟨Nat.le_of_ble_eq_true rfl, Nat.le_of_ble_eq_true rfl, Nat.le_of_ble_eq_true rfl, Nat.le_of_ble_eq_true rfl⟩ rfl rfl (Nat.le_of_ble_eq_true rfl) dd_M_readsAll_40 (fun H locs hR hS => ?_)
        refine lv_bipush (v := 59) hx hb dd_M_readsAll_43 (by decide) ?_
        refine lv_icmp_ne (tgt := 66) hx hb dd_M_readsAll_45 (by decide) (fun c24 => ?_) (fun c24 => ?_)
        · have hm := ss_iff hm c24
          exact X_35_66 x1_35 h23 _ _ _ (hz2_35 _ (ss_some hm)) hR hS hl
        · have hm := ss_ift hm c24
          refine ss_aload_n hx hb dd_M_readsAll_48 rfl (lv_at hl 0 rfl) ?_
          refine ss_dupr hx hb dd_M_readsAll_49 ?_
          obtain ⟨v25, qv25, hm⟩ := ss_bind hm
          refine ss_geti hC hK hR kf_M_96 qv25 dd_M_readsAll_50 ?_
          refine lv_iconst (v := 1) hx hb dd_M_readsAll_53 (by decide) ?_
          refine lv_iadd hx hb dd_M_readsAll_54 ?_
          obtain ⟨h26, qh26, hm⟩ := ss_bind hm
          refine ss_puti hC hK hR hS kp_M_96 qh26 dd_M_readsAll_55 (fun H locs hR hS => ?_)
          refine ss_aload_n hx hb dd_M_readsAll_58 rfl (lv_at hl 0 rfl) ?_
          obtain ⟨v27, h28, qh28, hm⟩ := ss_bind2 hm
          refine ss_cV 0 0 (As := []) hC hK hR hS hl.1 (cc_M_clauseHere l G N _ _ _ _ qh28) km_M_277 (ck_M_clauseHere qh28) ⟨Nat.le_of_ble_eq_true rfl, Nat.le_of_ble_eq_true rfl⟩ ⟨Nat.le_of_ble_eq_true rfl, Nat.le_of_ble_eq_true rfl, Nat.le_of_ble_eq_true rfl, Nat.le_of_ble_eq_true rfl⟩ rfl rfl (Nat.le_of_ble_eq_true rfl) dd_M_readsAll_59 (fun H locs hR hS => ?_)
          refine lv_istore_n (lv' := [(1, .int v27), (0, ss_v (ss_b G) this)]) hx hb dd_M_readsAll_62 rfl hl (by decide) (by simp only [List.filter_cons, ss_v_cat]; rfl) (fun ls hl => ?_)
          refine lv_goto (tgt := 35) hx hb dd_M_readsAll_63 (by decide) ?_
          exact ih_35 v27 h28 _ _ _ (hz1_35 _ (ss_some hm)) hR hS (lv_sub hl [1, 0] rfl)
  exact L_35 N v12 h13 _ _ _ he_35 hR hS (lv_sub hl [1, 0] rfl)
theorem dd_M_rule_0 : decode bb_M_rule 0 = .ok (.aload_n 0, 1) := by decide +kernel
theorem dd_M_rule_1 : decode bb_M_rule 1 = .ok (.getfield 280, 3) := by decide +kernel
theorem dd_M_rule_4 : decode bb_M_rule 4 = .ok (.bipush 6, 2) := by decide +kernel
theorem dd_M_rule_6 : decode bb_M_rule 6 = .ok (.if_icmp .ne 5, 3) := by decide +kernel
theorem dd_M_rule_9 : decode bb_M_rule 9 = .ok (.iconst (-1), 1) := by decide +kernel
theorem dd_M_rule_10 : decode bb_M_rule 10 = .ok (.ireturn, 1) := by decide +kernel
theorem dd_M_rule_11 : decode bb_M_rule 11 = .ok (.aload_n 0, 1) := by decide +kernel
theorem dd_M_rule_12 : decode bb_M_rule 12 = .ok (.aload_n 0, 1) := by decide +kernel
theorem dd_M_rule_13 : decode bb_M_rule 13 = .ok (.getfield 280, 3) := by decide +kernel
theorem dd_M_rule_16 : decode bb_M_rule 16 = .ok (.putfield 152, 3) := by decide +kernel
theorem dd_M_rule_19 : decode bb_M_rule 19 = .ok (.aload_n 0, 1) := by decide +kernel
theorem dd_M_rule_20 : decode bb_M_rule 20 = .ok (.getfield 23, 3) := by decide +kernel
theorem dd_M_rule_23 : decode bb_M_rule 23 = .ok (.aload_n 0, 1) := by decide +kernel
theorem dd_M_rule_24 : decode bb_M_rule 24 = .ok (.getfield 152, 3) := by decide +kernel
theorem dd_M_rule_27 : decode bb_M_rule 27 = .ok (.iconst 0, 1) := by decide +kernel
theorem dd_M_rule_28 : decode bb_M_rule 28 = .ok (.iastore, 1) := by decide +kernel
theorem dd_M_rule_29 : decode bb_M_rule 29 = .ok (.aload_n 0, 1) := by decide +kernel
theorem dd_M_rule_30 : decode bb_M_rule 30 = .ok (.invokevirtual 283, 3) := by decide +kernel
theorem dd_M_rule_33 : decode bb_M_rule 33 = .ok (.ifCond .ne 11, 3) := by decide +kernel
theorem dd_M_rule_36 : decode bb_M_rule 36 = .ok (.bipush (-2), 2) := by decide +kernel
theorem dd_M_rule_38 : decode bb_M_rule 38 = .ok (.aload_n 0, 1) := by decide +kernel
theorem dd_M_rule_39 : decode bb_M_rule 39 = .ok (.getfield 93, 3) := by decide +kernel
theorem dd_M_rule_42 : decode bb_M_rule 42 = .ok (.isub, 1) := by decide +kernel
theorem dd_M_rule_43 : decode bb_M_rule 43 = .ok (.ireturn, 1) := by decide +kernel
theorem dd_M_rule_44 : decode bb_M_rule 44 = .ok (.aload_n 0, 1) := by decide +kernel
theorem dd_M_rule_45 : decode bb_M_rule 45 = .ok (.dup, 1) := by decide +kernel
theorem dd_M_rule_46 : decode bb_M_rule 46 = .ok (.getfield 280, 3) := by decide +kernel
theorem dd_M_rule_49 : decode bb_M_rule 49 = .ok (.iconst 1, 1) := by decide +kernel
theorem dd_M_rule_50 : decode bb_M_rule 50 = .ok (.iadd, 1) := by decide +kernel
theorem dd_M_rule_51 : decode bb_M_rule 51 = .ok (.putfield 280, 3) := by decide +kernel
theorem dd_M_rule_54 : decode bb_M_rule 54 = .ok (.aload_n 0, 1) := by decide +kernel
theorem dd_M_rule_55 : decode bb_M_rule 55 = .ok (.getfield 280, 3) := by decide +kernel
theorem dd_M_rule_58 : decode bb_M_rule 58 = .ok (.iconst 1, 1) := by decide +kernel
theorem dd_M_rule_59 : decode bb_M_rule 59 = .ok (.isub, 1) := by decide +kernel
theorem dd_M_rule_60 : decode bb_M_rule 60 = .ok (.ireturn, 1) := by decide +kernel
def mm_M_rule (N : Nat) (this : Option Nat) (h : ss_Hp) : Option (Int32 × ss_Hp) :=
  if ss_is h this 12 = true then
    (ss_gi h this 12 1).bind fun v1 =>
    if v1 = (6 : Int32) then
      some ((-1 : Int32), h)
    else
      (ss_gi h this 12 1).bind fun v3 =>
      (ss_pi h this 12 5 v3).bind fun h4 =>
      (ss_gr h4 this 12 4).bind fun r5 =>
      (ss_gi h4 this 12 5).bind fun v6 =>
      (ss_ui h4 r5 20 v6 (0 : Int32)).bind fun h7 =>
      ss_b2 (mm_M_readsAll N this h7) fun v8 h9 =>
      if v8 = 0 then
        (ss_gi h9 this 12 3).bind fun v14 =>
        some (((-2 : Int32) - v14), h9)
      else
        (ss_gi h9 this 12 1).bind fun v11 =>
        (ss_pi h9 this 12 1 (v11 + (1 : Int32))).bind fun h12 =>
        (ss_gi h12 this 12 1).bind fun v13 =>
        some ((v13 - (1 : Int32)), h12)
  else none
abbrev ww_M_rule (p : Program) (l : Launch) (e : Env) (s : State) (m : MethodId) (below : List Frame) (meth : Method) (c : Code) (G : ss_G) (this : Option Nat) (h : ss_Hp) (rr : Int32) (hh : ss_Hp) (H : Heap) (locs : List Loc) (k n : Nat) (g : JFrame) : Prop := W p l e (headSpec (ss_w yy_M_rule bb_M_rule 1 (some (.int))) ({ frames := 12, cells := 0, slots := 0, locals := 262 })).room s m ([ss_v (ss_b G) this] : List Value).toArray below meth c H locs k n (MQ below (ss_Qc G (some (.int rr)) hh) ([ss_v (ss_b G) this] : List Value).toArray s 0 0 (ss_A G)) g
theorem ck_M_rule {N : Nat} {this : Option Nat} {h : ss_Hp} {res : Int32 × ss_Hp} (hm : mm_M_rule N this h = some res) : ss_is h this 12 = true := (ss_chk hm).1
set_option maxHeartbeats 4000000 in
set_option maxRecDepth 100000 in
theorem cc_M_rule (l : Launch) (G : ss_G) (N : Nat) (this : Option Nat) (h : ss_Hp) (rr : Int32) (hh : ss_Hp) (hm : mm_M_rule N this h = some (rr, hh)) : ss_Ct l G yy_M_rule bb_M_rule 1 (some (.int)) ({ frames := 12, cells := 0, slots := 0, locals := 262 }) [ss_v (ss_b G) this] h (some (.int rr)) hh := by
  obtain ⟨hck, hm⟩ := ss_chk hm
  refine Met.ofW (cc := bb_M_rule) (maxL := 1) (ret := (some (.int))) (by decide) rfl ?_
  intro p e s m args below meth c s₁ B hml hv
  obtain ⟨rfl, hR, hK⟩ := hv
  have hC : CallFix p m c bb_M_rule 1 s _ lw_g sR_12 := ⟨B.exec, B.bytes, hml, findClass_of_methodNamed B.named, fun w hw => atoms_spec (ws := ss_w yy_M_rule bb_M_rule 1 (some (.int))) B.pre w (List.mem_cons_of_mem _ hw)⟩
  have hx := hC.1
  have hb := hC.2.1
  have hr := B.returns
  have hlocks := B.notSynchronized
  have hS : va_S (ss_A G) s.heap s.heap [] := va_S.rf
  have hl := lv_entry ([ss_v (ss_b G) this]) (n := 1) (by simp [lg_sl, ss_v_cat, ss_cat_i, ss_cat_l, ss_cat_r])
  rw [lg_entry_eq]
  generalize (lg_sl ([ss_v (ss_b G) this]) ++ List.replicate (1 - (lg_sl ([ss_v (ss_b G) this])).length) Slot.unset).toArray = ls at hl ⊢
  have hl : lv_has ls 1 [(0, ss_v (ss_b G) this)] := by simpa [lv_args, ss_v_cat, ss_cat_i, ss_cat_l, ss_cat_r] using hl
  refine ss_aload_n hx hb dd_M_rule_0 rfl (lv_at hl 0 rfl) ?_
  obtain ⟨v1, qv1, hm⟩ := ss_bind hm
  refine ss_geti hC hK hR kf_M_280 qv1 dd_M_rule_1 ?_
  refine lv_bipush (v := 6) hx hb dd_M_rule_4 (by decide) ?_
  refine lv_icmp_ne (tgt := 11) hx hb dd_M_rule_6 (by decide) (fun c2 => ?_) (fun c2 => ?_)
  · have hm := ss_iff hm c2
    refine ss_aload_n hx hb dd_M_rule_11 rfl (lv_at hl 0 rfl) ?_
    refine ss_aload_n hx hb dd_M_rule_12 rfl (lv_at hl 0 rfl) ?_
    obtain ⟨v3, qv3, hm⟩ := ss_bind hm
    refine ss_geti hC hK hR kf_M_280 qv3 dd_M_rule_13 ?_
    obtain ⟨h4, qh4, hm⟩ := ss_bind hm
    refine ss_puti hC hK hR hS kp_M_152 qh4 dd_M_rule_16 (fun H locs hR hS => ?_)
    refine ss_aload_n hx hb dd_M_rule_19 rfl (lv_at hl 0 rfl) ?_
    obtain ⟨r5, qr5, hm⟩ := ss_bind hm
    refine ss_getr hC hK hR kf_M_23 rfl qr5 dd_M_rule_20 ?_
    refine ss_aload_n hx hb dd_M_rule_23 rfl (lv_at hl 0 rfl) ?_
    obtain ⟨v6, qv6, hm⟩ := ss_bind hm
    refine ss_geti hC hK hR kf_M_152 qv6 dd_M_rule_24 ?_
    refine lv_iconst (v := 0) hx hb dd_M_rule_27 (by decide) ?_
    obtain ⟨h7, qh7, hm⟩ := ss_bind hm
    refine ss_iast hC hK hR hS qh7 dd_M_rule_28 (fun H locs hR hS => ?_)
    refine ss_aload_n hx hb dd_M_rule_29 rfl (lv_at hl 0 rfl) ?_
    obtain ⟨v8, h9, qh9, hm⟩ := ss_bind2 hm
    refine ss_cV 0 0 (As := []) hC hK hR hS hl.1 (cc_M_readsAll l G N _ _ _ _ qh9) km_M_283 (ck_M_readsAll qh9) ⟨Nat.le_of_ble_eq_true rfl, Nat.le_of_ble_eq_true rfl⟩ ⟨Nat.le_of_ble_eq_true rfl, Nat.le_of_ble_eq_true rfl, Nat.le_of_ble_eq_true rfl, Nat.le_of_ble_eq_true rfl⟩ rfl rfl (Nat.le_of_ble_eq_true rfl) dd_M_rule_30 (fun H locs hR hS => ?_)
    refine lv_if_ne (tgt := 44) hx hb dd_M_rule_33 (by decide) (fun c10 => ?_) (fun c10 => ?_)
    · have hm := ss_iff hm c10
      refine ss_aload_n hx hb dd_M_rule_44 rfl (lv_at hl 0 rfl) ?_
      refine ss_dupr hx hb dd_M_rule_45 ?_
      obtain ⟨v11, qv11, hm⟩ := ss_bind hm
      refine ss_geti hC hK hR kf_M_280 qv11 dd_M_rule_46 ?_
      refine lv_iconst (v := 1) hx hb dd_M_rule_49 (by decide) ?_
      refine lv_iadd hx hb dd_M_rule_50 ?_
      obtain ⟨h12, qh12, hm⟩ := ss_bind hm
      refine ss_puti hC hK hR hS kp_M_280 qh12 dd_M_rule_51 (fun H locs hR hS => ?_)
      refine ss_aload_n hx hb dd_M_rule_54 rfl (lv_at hl 0 rfl) ?_
      obtain ⟨v13, qv13, hm⟩ := ss_bind hm
      refine ss_geti hC hK hR kf_M_280 qv13 dd_M_rule_55 ?_
      refine lv_iconst (v := 1) hx hb dd_M_rule_58 (by decide) ?_
      refine lv_isub hx hb dd_M_rule_59 ?_
      exact ss_iret hC hr hlocks hR hS hm dd_M_rule_60
    · have hm := ss_ift hm c10
      refine lv_bipush (v := -2) hx hb dd_M_rule_36 (by decide) ?_
      refine ss_aload_n hx hb dd_M_rule_38 rfl (lv_at hl 0 rfl) ?_
      obtain ⟨v14, qv14, hm⟩ := ss_bind hm
      refine ss_geti hC hK hR kf_M_93 qv14 dd_M_rule_39 ?_
      refine lv_isub hx hb dd_M_rule_42 ?_
      exact ss_iret hC hr hlocks hR hS hm dd_M_rule_43
  · have hm := ss_ift hm c2
    refine lv_iconst (v := -1) hx hb dd_M_rule_9 (by decide) ?_
    exact ss_iret hC hr hlocks hR hS hm dd_M_rule_10
theorem dd_M_begins_0 : decode bb_M_begins 0 = .ok (.bipush 10, 2) := by decide +kernel
theorem dd_M_begins_2 : decode bb_M_begins 2 = .ok (.istore_n 1, 1) := by decide +kernel
theorem dd_M_begins_3 : decode bb_M_begins 3 = .ok (.iload_n 1, 1) := by decide +kernel
theorem dd_M_begins_4 : decode bb_M_begins 4 = .ok (.bipush 14, 2) := by decide +kernel
theorem dd_M_begins_6 : decode bb_M_begins 6 = .ok (.if_icmp .ge 16, 3) := by decide +kernel
theorem dd_M_begins_9 : decode bb_M_begins 9 = .ok (.aload_n 0, 1) := by decide +kernel
theorem dd_M_begins_10 : decode bb_M_begins 10 = .ok (.getfield 39, 3) := by decide +kernel
theorem dd_M_begins_13 : decode bb_M_begins 13 = .ok (.iload_n 1, 1) := by decide +kernel
theorem dd_M_begins_14 : decode bb_M_begins 14 = .ok (.iconst 0, 1) := by decide +kernel
theorem dd_M_begins_15 : decode bb_M_begins 15 = .ok (.iastore, 1) := by decide +kernel
theorem dd_M_begins_16 : decode bb_M_begins 16 = .ok (.iinc 1 1, 3) := by decide +kernel
theorem dd_M_begins_19 : decode bb_M_begins 19 = .ok (.goto (-16), 3) := by decide +kernel
theorem dd_M_begins_22 : decode bb_M_begins 22 = .ok (.iconst 0, 1) := by decide +kernel
theorem dd_M_begins_23 : decode bb_M_begins 23 = .ok (.istore_n 1, 1) := by decide +kernel
theorem dd_M_begins_24 : decode bb_M_begins 24 = .ok (.iload_n 1, 1) := by decide +kernel
theorem dd_M_begins_25 : decode bb_M_begins 25 = .ok (.bipush 8, 2) := by decide +kernel
theorem dd_M_begins_27 : decode bb_M_begins 27 = .ok (.if_icmp .ge 45, 3) := by decide +kernel
theorem dd_M_begins_30 : decode bb_M_begins 30 = .ok (.aload_n 0, 1) := by decide +kernel
theorem dd_M_begins_31 : decode bb_M_begins 31 = .ok (.getfield 39, 3) := by decide +kernel
theorem dd_M_begins_34 : decode bb_M_begins 34 = .ok (.bipush 14, 2) := by decide +kernel
theorem dd_M_begins_36 : decode bb_M_begins 36 = .ok (.iload_n 1, 1) := by decide +kernel
theorem dd_M_begins_37 : decode bb_M_begins 37 = .ok (.iadd, 1) := by decide +kernel
theorem dd_M_begins_38 : decode bb_M_begins 38 = .ok (.aload_n 0, 1) := by decide +kernel
theorem dd_M_begins_39 : decode bb_M_begins 39 = .ok (.getfield 39, 3) := by decide +kernel
theorem dd_M_begins_42 : decode bb_M_begins 42 = .ok (.bipush 46, 2) := by decide +kernel
theorem dd_M_begins_44 : decode bb_M_begins 44 = .ok (.iload_n 1, 1) := by decide +kernel
theorem dd_M_begins_45 : decode bb_M_begins 45 = .ok (.iadd, 1) := by decide +kernel
theorem dd_M_begins_46 : decode bb_M_begins 46 = .ok (.iaload, 1) := by decide +kernel
theorem dd_M_begins_47 : decode bb_M_begins 47 = .ok (.iastore, 1) := by decide +kernel
theorem dd_M_begins_48 : decode bb_M_begins 48 = .ok (.aload_n 0, 1) := by decide +kernel
theorem dd_M_begins_49 : decode bb_M_begins 49 = .ok (.getfield 39, 3) := by decide +kernel
theorem dd_M_begins_52 : decode bb_M_begins 52 = .ok (.bipush 22, 2) := by decide +kernel
theorem dd_M_begins_54 : decode bb_M_begins 54 = .ok (.iload_n 1, 1) := by decide +kernel
theorem dd_M_begins_55 : decode bb_M_begins 55 = .ok (.iadd, 1) := by decide +kernel
theorem dd_M_begins_56 : decode bb_M_begins 56 = .ok (.aload_n 0, 1) := by decide +kernel
theorem dd_M_begins_57 : decode bb_M_begins 57 = .ok (.getfield 39, 3) := by decide +kernel
theorem dd_M_begins_60 : decode bb_M_begins 60 = .ok (.bipush 54, 2) := by decide +kernel
theorem dd_M_begins_62 : decode bb_M_begins 62 = .ok (.iload_n 1, 1) := by decide +kernel
theorem dd_M_begins_63 : decode bb_M_begins 63 = .ok (.iadd, 1) := by decide +kernel
theorem dd_M_begins_64 : decode bb_M_begins 64 = .ok (.iaload, 1) := by decide +kernel
theorem dd_M_begins_65 : decode bb_M_begins 65 = .ok (.iastore, 1) := by decide +kernel
theorem dd_M_begins_66 : decode bb_M_begins 66 = .ok (.iinc 1 1, 3) := by decide +kernel
theorem dd_M_begins_69 : decode bb_M_begins 69 = .ok (.goto (-45), 3) := by decide +kernel
theorem dd_M_begins_72 : decode bb_M_begins 72 = .ok (.return_, 1) := by decide +kernel
def mm_M_begins_b24 (N : Nat) (this : Option Nat) (st : Int32 × ss_Hp) : Option ((Int32 × ss_Hp) ⊕ ss_Hp) :=
  match st with
  | (x1_24, h_24) =>
    if (8 : Int32) ≤ x1_24 then
      some (.inr h_24)
    else
      (ss_gr h_24 this 12 9).bind fun r2 =>
      (ss_gr h_24 this 12 9).bind fun r3 =>
      (ss_ai h_24 r3 20 ((46 : Int32) + x1_24)).bind fun v4 =>
      (ss_ui h_24 r2 20 ((14 : Int32) + x1_24) v4).bind fun h5 =>
      (ss_gr h5 this 12 9).bind fun r6 =>
      (ss_gr h5 this 12 9).bind fun r7 =>
      (ss_ai h5 r7 20 ((54 : Int32) + x1_24)).bind fun v8 =>
      (ss_ui h5 r6 20 ((22 : Int32) + x1_24) v8).bind fun h9 =>
      (some (x1_24 + (1 : Int32))).bind fun v10 =>
      some (.inl (v10, h9))
def mm_M_begins_b3 (N : Nat) (this : Option Nat) (st : Int32 × ss_Hp) : Option ((Int32 × ss_Hp) ⊕ ss_Hp) :=
  match st with
  | (x1_3, h_3) =>
    if (14 : Int32) ≤ x1_3 then
      some (.inr h_3)
    else
      (ss_gr h_3 this 12 9).bind fun r12 =>
      (ss_ui h_3 r12 20 x1_3 (0 : Int32)).bind fun h13 =>
      (some (x1_3 + (1 : Int32))).bind fun v14 =>
      some (.inl (v14, h13))
def mm_M_begins (N : Nat) (this : Option Nat) (h : ss_Hp) : Option ss_Hp :=
  if ss_is h this 12 = true then
    (ss_lp (mm_M_begins_b3 N this) N ((10 : Int32), h)).bind fun h_3_22 =>
    (ss_lp (mm_M_begins_b24 N this) N ((0 : Int32), h_3_22)).bind fun h_24_72 =>
    some h_24_72
  else none
abbrev ww_M_begins (p : Program) (l : Launch) (e : Env) (s : State) (m : MethodId) (below : List Frame) (meth : Method) (c : Code) (G : ss_G) (this : Option Nat) (h : ss_Hp) (hh : ss_Hp) (H : Heap) (locs : List Loc) (k n : Nat) (g : JFrame) : Prop := W p l e (headSpec (ss_w yy_M_begins bb_M_begins 2 none) ({ frames := 0, cells := 0, slots := 0, locals := 0 })).room s m ([ss_v (ss_b G) this] : List Value).toArray below meth c H locs k n (MQ below (ss_Qc G none hh) ([ss_v (ss_b G) this] : List Value).toArray s 0 0 (ss_A G)) g
theorem ck_M_begins {N : Nat} {this : Option Nat} {h : ss_Hp} {res : ss_Hp} (hm : mm_M_begins N this h = some res) : ss_is h this 12 = true := (ss_chk hm).1
set_option maxHeartbeats 4000000 in
set_option maxRecDepth 100000 in
theorem cc_M_begins (l : Launch) (G : ss_G) (N : Nat) (this : Option Nat) (h : ss_Hp) (hh : ss_Hp) (hm : mm_M_begins N this h = some hh) : ss_Ct l G yy_M_begins bb_M_begins 2 none ({ frames := 0, cells := 0, slots := 0, locals := 0 }) [ss_v (ss_b G) this] h none hh := by
  obtain ⟨hck, hm⟩ := ss_chk hm
  refine Met.ofW (cc := bb_M_begins) (maxL := 2) (ret := none) (by decide) rfl ?_
  intro p e s m args below meth c s₁ B hml hv
  obtain ⟨rfl, hR, hK⟩ := hv
  have hC : CallFix p m c bb_M_begins 2 s _ lw_g sR_12 := ⟨B.exec, B.bytes, hml, findClass_of_methodNamed B.named, fun w hw => atoms_spec (ws := ss_w yy_M_begins bb_M_begins 2 none) B.pre w (List.mem_cons_of_mem _ hw)⟩
  have hx := hC.1
  have hb := hC.2.1
  have hr := B.returns
  have hlocks := B.notSynchronized
  have hS : va_S (ss_A G) s.heap s.heap [] := va_S.rf
  have hl := lv_entry ([ss_v (ss_b G) this]) (n := 2) (by simp [lg_sl, ss_v_cat, ss_cat_i, ss_cat_l, ss_cat_r])
  rw [lg_entry_eq]
  generalize (lg_sl ([ss_v (ss_b G) this]) ++ List.replicate (2 - (lg_sl ([ss_v (ss_b G) this])).length) Slot.unset).toArray = ls at hl ⊢
  have hl : lv_has ls 2 [(0, ss_v (ss_b G) this)] := by simpa [lv_args, ss_v_cat, ss_cat_i, ss_cat_l, ss_cat_r] using hl
  refine lv_bipush (v := 10) hx hb dd_M_begins_0 (by decide) ?_
  refine lv_istore_n (lv' := [(1, .int (10 : Int32)), (0, ss_v (ss_b G) this)]) hx hb dd_M_begins_2 rfl hl (by decide) (by simp only [List.filter_cons, ss_v_cat]; rfl) (fun ls hl => ?_)
  obtain ⟨e_3, he_3, hm⟩ := ss_bind hm
  have X_3_22 : ∀  (h_3_22 : ss_Hp) (H : Heap) (locs : List Loc) (ls : Array Slot), e_3 = h_3_22 → ss_R G h_3_22 H → va_S (ss_A G) s.heap H locs → lv_has ls 2 [(0, ss_v (ss_b G) this)] → ww_M_begins p l e s m below meth c G this h hh  H locs 0 0 (F0 m 22 ls []) := by
    intro h_3_22 H locs ls hq hR hS hl
    rw [hq] at hm
    refine lv_iconst (v := 0) hx hb dd_M_begins_22 (by decide) ?_
    refine lv_istore_n (lv' := [(1, .int (0 : Int32)), (0, ss_v (ss_b G) this)]) hx hb dd_M_begins_23 rfl hl (by decide) (by simp only [List.filter_cons, ss_v_cat]; rfl) (fun ls hl => ?_)
    obtain ⟨e_24, he_24, hm⟩ := ss_bind hm
    have X_24_72 : ∀  (h_24_72 : ss_Hp) (H : Heap) (locs : List Loc) (ls : Array Slot), e_24 = h_24_72 → ss_R G h_24_72 H → va_S (ss_A G) s.heap H locs → lv_has ls 2 [] → ww_M_begins p l e s m below meth c G this h hh  H locs 0 0 (F0 m 72 ls []) := by
      intro h_24_72 H locs ls hq hR hS hl
      rw [hq] at hm
      exact ss_vret hC hr hlocks hR hS hm dd_M_begins_72
    have L_24 : ∀ (n : Nat) (x1_24 : Int32) (h_24 : ss_Hp) (H : Heap) (locs : List Loc) (ls : Array Slot), ss_lp (mm_M_begins_b24 N this) n (x1_24, h_24) = some e_24 → ss_R G h_24 H → va_S (ss_A G) s.heap H locs → lv_has ls 2 [(0, ss_v (ss_b G) this), (1, .int x1_24)] → ww_M_begins p l e s m below meth c G this h hh  H locs 0 0 (F0 m 24 ls []) := by
      intro n
      induction n with
      | zero => intro x1_24 h_24 H locs ls hm; cases hm
      | succ n ih_24 =>
        intro x1_24 h_24 H locs ls hm hR hS hl
        obtain ⟨z_24, hm, hz1_24, hz2_24⟩ := ss_lps hm
        refine lv_iload_n hx hb dd_M_begins_24 rfl (lv_at hl 1 rfl) ?_
        refine lv_bipush (v := 8) hx hb dd_M_begins_25 (by decide) ?_
        refine lv_icmp_ge (tgt := 72) hx hb dd_M_begins_27 (by decide) (fun c1 => ?_) (fun c1 => ?_)
        · have hm := ss_ift hm c1
          exact X_24_72 h_24 _ _ _ (hz2_24 _ (ss_some hm)) hR hS (lv_sub hl [] rfl)
        · have hm := ss_iff hm c1
          refine ss_aload_n hx hb dd_M_begins_30 rfl (lv_at hl 0 rfl) ?_
          obtain ⟨r2, qr2, hm⟩ := ss_bind hm
          refine ss_getr hC hK hR kf_M_39 rfl qr2 dd_M_begins_31 ?_
          refine lv_bipush (v := 14) hx hb dd_M_begins_34 (by decide) ?_
          refine lv_iload_n hx hb dd_M_begins_36 rfl (lv_at hl 1 rfl) ?_
          refine lv_iadd hx hb dd_M_begins_37 ?_
          refine ss_aload_n hx hb dd_M_begins_38 rfl (lv_at hl 0 rfl) ?_
          obtain ⟨r3, qr3, hm⟩ := ss_bind hm
          refine ss_getr hC hK hR kf_M_39 rfl qr3 dd_M_begins_39 ?_
          refine lv_bipush (v := 46) hx hb dd_M_begins_42 (by decide) ?_
          refine lv_iload_n hx hb dd_M_begins_44 rfl (lv_at hl 1 rfl) ?_
          refine lv_iadd hx hb dd_M_begins_45 ?_
          obtain ⟨v4, qv4, hm⟩ := ss_bind hm
          refine ss_iald hC hK hR qv4 dd_M_begins_46 ?_
          obtain ⟨h5, qh5, hm⟩ := ss_bind hm
          refine ss_iast hC hK hR hS qh5 dd_M_begins_47 (fun H locs hR hS => ?_)
          refine ss_aload_n hx hb dd_M_begins_48 rfl (lv_at hl 0 rfl) ?_
          obtain ⟨r6, qr6, hm⟩ := ss_bind hm
          refine ss_getr hC hK hR kf_M_39 rfl qr6 dd_M_begins_49 ?_
          refine lv_bipush (v := 22) hx hb dd_M_begins_52 (by decide) ?_
          refine lv_iload_n hx hb dd_M_begins_54 rfl (lv_at hl 1 rfl) ?_
          refine lv_iadd hx hb dd_M_begins_55 ?_
          refine ss_aload_n hx hb dd_M_begins_56 rfl (lv_at hl 0 rfl) ?_
          obtain ⟨r7, qr7, hm⟩ := ss_bind hm
          refine ss_getr hC hK hR kf_M_39 rfl qr7 dd_M_begins_57 ?_
          refine lv_bipush (v := 54) hx hb dd_M_begins_60 (by decide) ?_
          refine lv_iload_n hx hb dd_M_begins_62 rfl (lv_at hl 1 rfl) ?_
          refine lv_iadd hx hb dd_M_begins_63 ?_
          obtain ⟨v8, qv8, hm⟩ := ss_bind hm
          refine ss_iald hC hK hR qv8 dd_M_begins_64 ?_
          obtain ⟨h9, qh9, hm⟩ := ss_bind hm
          refine ss_iast hC hK hR hS qh9 dd_M_begins_65 (fun H locs hR hS => ?_)
          obtain ⟨v10, qv10, hm⟩ := ss_bind hm
          refine lv_iinc (v := v10) (lv' := [(1, .int v10), (0, ss_v (ss_b G) this)]) hx hb dd_M_begins_66 hl (k := 1) rfl (ss_inc (by decide) qv10) (by decide) (by simp only [List.filter_cons, ss_v_cat]; rfl) (fun ls hl => ?_)
          refine lv_goto (tgt := 24) hx hb dd_M_begins_69 (by decide) ?_
          exact ih_24 v10 h9 _ _ _ (hz1_24 _ (ss_some hm)) hR hS (lv_sub hl [1, 0] rfl)
    exact L_24 N (0 : Int32) h_3_22 _ _ _ he_24 hR hS (lv_sub hl [1, 0] rfl)
  have L_3 : ∀ (n : Nat) (x1_3 : Int32) (h_3 : ss_Hp) (H : Heap) (locs : List Loc) (ls : Array Slot), ss_lp (mm_M_begins_b3 N this) n (x1_3, h_3) = some e_3 → ss_R G h_3 H → va_S (ss_A G) s.heap H locs → lv_has ls 2 [(0, ss_v (ss_b G) this), (1, .int x1_3)] → ww_M_begins p l e s m below meth c G this h hh  H locs 0 0 (F0 m 3 ls []) := by
    intro n
    induction n with
    | zero => intro x1_3 h_3 H locs ls hm; cases hm
    | succ n ih_3 =>
      intro x1_3 h_3 H locs ls hm hR hS hl
      obtain ⟨z_3, hm, hz1_3, hz2_3⟩ := ss_lps hm
      refine lv_iload_n hx hb dd_M_begins_3 rfl (lv_at hl 1 rfl) ?_
      refine lv_bipush (v := 14) hx hb dd_M_begins_4 (by decide) ?_
      refine lv_icmp_ge (tgt := 22) hx hb dd_M_begins_6 (by decide) (fun c11 => ?_) (fun c11 => ?_)
      · have hm := ss_ift hm c11
        exact X_3_22 h_3 _ _ _ (hz2_3 _ (ss_some hm)) hR hS (lv_sub hl [0] rfl)
      · have hm := ss_iff hm c11
        refine ss_aload_n hx hb dd_M_begins_9 rfl (lv_at hl 0 rfl) ?_
        obtain ⟨r12, qr12, hm⟩ := ss_bind hm
        refine ss_getr hC hK hR kf_M_39 rfl qr12 dd_M_begins_10 ?_
        refine lv_iload_n hx hb dd_M_begins_13 rfl (lv_at hl 1 rfl) ?_
        refine lv_iconst (v := 0) hx hb dd_M_begins_14 (by decide) ?_
        obtain ⟨h13, qh13, hm⟩ := ss_bind hm
        refine ss_iast hC hK hR hS qh13 dd_M_begins_15 (fun H locs hR hS => ?_)
        obtain ⟨v14, qv14, hm⟩ := ss_bind hm
        refine lv_iinc (v := v14) (lv' := [(1, .int v14), (0, ss_v (ss_b G) this)]) hx hb dd_M_begins_16 hl (k := 1) rfl (ss_inc (by decide) qv14) (by decide) (by simp only [List.filter_cons, ss_v_cat]; rfl) (fun ls hl => ?_)
        refine lv_goto (tgt := 3) hx hb dd_M_begins_19 (by decide) ?_
        exact ih_3 v14 h13 _ _ _ (hz1_3 _ (ss_some hm)) hR hS (lv_sub hl [1, 0] rfl)
  exact L_3 N (10 : Int32) h _ _ _ he_3 hR hS (lv_sub hl [1, 0] rfl)
theorem dd_M_valley_0 : decode bb_M_valley 0 = .ok (.aload_n 0, 1) := by decide +kernel
theorem dd_M_valley_1 : decode bb_M_valley 1 = .ok (.bipush 6, 2) := by decide +kernel
theorem dd_M_valley_3 : decode bb_M_valley 3 = .ok (.putfield 152, 3) := by decide +kernel
theorem dd_M_valley_6 : decode bb_M_valley 6 = .ok (.iconst 0, 1) := by decide +kernel
theorem dd_M_valley_7 : decode bb_M_valley 7 = .ok (.istore_n 1, 1) := by decide +kernel
theorem dd_M_valley_8 : decode bb_M_valley 8 = .ok (.iload_n 1, 1) := by decide +kernel
theorem dd_M_valley_9 : decode bb_M_valley 9 = .ok (.bipush 93, 2) := by decide +kernel
theorem dd_M_valley_11 : decode bb_M_valley 11 = .ok (.if_icmp .ge 16, 3) := by decide +kernel
theorem dd_M_valley_14 : decode bb_M_valley 14 = .ok (.aload_n 0, 1) := by decide +kernel
theorem dd_M_valley_15 : decode bb_M_valley 15 = .ok (.getfield 26, 3) := by decide +kernel
theorem dd_M_valley_18 : decode bb_M_valley 18 = .ok (.iload_n 1, 1) := by decide +kernel
theorem dd_M_valley_19 : decode bb_M_valley 19 = .ok (.iconst 0, 1) := by decide +kernel
theorem dd_M_valley_20 : decode bb_M_valley 20 = .ok (.iastore, 1) := by decide +kernel
theorem dd_M_valley_21 : decode bb_M_valley 21 = .ok (.iinc 1 1, 3) := by decide +kernel
theorem dd_M_valley_24 : decode bb_M_valley 24 = .ok (.goto (-16), 3) := by decide +kernel
theorem dd_M_valley_27 : decode bb_M_valley 27 = .ok (.aload_n 0, 1) := by decide +kernel
theorem dd_M_valley_28 : decode bb_M_valley 28 = .ok (.invokevirtual 283, 3) := by decide +kernel
theorem dd_M_valley_31 : decode bb_M_valley 31 = .ok (.ifCond .ne 11, 3) := by decide +kernel
theorem dd_M_valley_34 : decode bb_M_valley 34 = .ok (.bipush (-2), 2) := by decide +kernel
theorem dd_M_valley_36 : decode bb_M_valley 36 = .ok (.aload_n 0, 1) := by decide +kernel
theorem dd_M_valley_37 : decode bb_M_valley 37 = .ok (.getfield 93, 3) := by decide +kernel
theorem dd_M_valley_40 : decode bb_M_valley 40 = .ok (.isub, 1) := by decide +kernel
theorem dd_M_valley_41 : decode bb_M_valley 41 = .ok (.ireturn, 1) := by decide +kernel
theorem dd_M_valley_42 : decode bb_M_valley 42 = .ok (.iconst 0, 1) := by decide +kernel
theorem dd_M_valley_43 : decode bb_M_valley 43 = .ok (.istore_n 1, 1) := by decide +kernel
theorem dd_M_valley_44 : decode bb_M_valley 44 = .ok (.iload_n 1, 1) := by decide +kernel
theorem dd_M_valley_45 : decode bb_M_valley 45 = .ok (.bipush 124, 2) := by decide +kernel
theorem dd_M_valley_47 : decode bb_M_valley 47 = .ok (.if_icmp .ge 31, 3) := by decide +kernel
theorem dd_M_valley_50 : decode bb_M_valley 50 = .ok (.aload_n 0, 1) := by decide +kernel
theorem dd_M_valley_51 : decode bb_M_valley 51 = .ok (.getfield 39, 3) := by decide +kernel
theorem dd_M_valley_54 : decode bb_M_valley 54 = .ok (.iload_n 1, 1) := by decide +kernel
theorem dd_M_valley_55 : decode bb_M_valley 55 = .ok (.iload_n 1, 1) := by decide +kernel
theorem dd_M_valley_56 : decode bb_M_valley 56 = .ok (.bipush 93, 2) := by decide +kernel
theorem dd_M_valley_58 : decode bb_M_valley 58 = .ok (.if_icmp .ge 12, 3) := by decide +kernel
theorem dd_M_valley_61 : decode bb_M_valley 61 = .ok (.aload_n 0, 1) := by decide +kernel
theorem dd_M_valley_62 : decode bb_M_valley 62 = .ok (.getfield 26, 3) := by decide +kernel
theorem dd_M_valley_65 : decode bb_M_valley 65 = .ok (.iload_n 1, 1) := by decide +kernel
theorem dd_M_valley_66 : decode bb_M_valley 66 = .ok (.iaload, 1) := by decide +kernel
theorem dd_M_valley_67 : decode bb_M_valley 67 = .ok (.goto 4, 3) := by decide +kernel
theorem dd_M_valley_70 : decode bb_M_valley 70 = .ok (.iconst 0, 1) := by decide +kernel
theorem dd_M_valley_71 : decode bb_M_valley 71 = .ok (.iastore, 1) := by decide +kernel
theorem dd_M_valley_72 : decode bb_M_valley 72 = .ok (.iinc 1 1, 3) := by decide +kernel
theorem dd_M_valley_75 : decode bb_M_valley 75 = .ok (.goto (-31), 3) := by decide +kernel
theorem dd_M_valley_78 : decode bb_M_valley 78 = .ok (.aload_n 0, 1) := by decide +kernel
theorem dd_M_valley_79 : decode bb_M_valley 79 = .ok (.invokevirtual 286, 3) := by decide +kernel
theorem dd_M_valley_82 : decode bb_M_valley 82 = .ok (.aload_n 0, 1) := by decide +kernel
theorem dd_M_valley_83 : decode bb_M_valley 83 = .ok (.iconst 0, 1) := by decide +kernel
theorem dd_M_valley_84 : decode bb_M_valley 84 = .ok (.putfield 289, 3) := by decide +kernel
theorem dd_M_valley_87 : decode bb_M_valley 87 = .ok (.aload_n 0, 1) := by decide +kernel
theorem dd_M_valley_88 : decode bb_M_valley 88 = .ok (.getfield 39, 3) := by decide +kernel
theorem dd_M_valley_91 : decode bb_M_valley 91 = .ok (.iconst 2, 1) := by decide +kernel
theorem dd_M_valley_92 : decode bb_M_valley 92 = .ok (.iaload, 1) := by decide +kernel
theorem dd_M_valley_93 : decode bb_M_valley 93 = .ok (.ireturn, 1) := by decide +kernel
def mm_M_valley_j71 (N : Nat) (this : Option Nat) (x1_71 : Int32) (s0_71 : Option Nat) (s1_71 : Int32) (s2_71 : Int32) (h_71 : ss_Hp) : Option ((Int32 × ss_Hp) ⊕ ss_Hp) :=
  (ss_ui h_71 s0_71 20 s1_71 s2_71).bind fun h9 =>
  (some (x1_71 + (1 : Int32))).bind fun v10 =>
  some (.inl (v10, h9))
def mm_M_valley_b44 (N : Nat) (this : Option Nat) (st : Int32 × ss_Hp) : Option ((Int32 × ss_Hp) ⊕ ss_Hp) :=
  match st with
  | (x1_44, h_44) =>
    if (124 : Int32) ≤ x1_44 then
      some (.inr h_44)
    else
      (ss_gr h_44 this 12 9).bind fun r12 =>
      if (93 : Int32) ≤ x1_44 then
        mm_M_valley_j71 N this x1_44 r12 x1_44 (0 : Int32) h_44
      else
        (ss_gr h_44 this 12 5).bind fun r14 =>
        (ss_ai h_44 r14 20 x1_44).bind fun v15 =>
        mm_M_valley_j71 N this x1_44 r12 x1_44 v15 h_44
def mm_M_valley_b8 (N : Nat) (this : Option Nat) (st : Int32 × ss_Hp) : Option ((Int32 × ss_Hp) ⊕ ss_Hp) :=
  match st with
  | (x1_8, h_8) =>
    if (93 : Int32) ≤ x1_8 then
      some (.inr h_8)
    else
      (ss_gr h_8 this 12 5).bind fun r18 =>
      (ss_ui h_8 r18 20 x1_8 (0 : Int32)).bind fun h19 =>
      (some (x1_8 + (1 : Int32))).bind fun v20 =>
      some (.inl (v20, h19))
def mm_M_valley (N : Nat) (this : Option Nat) (h : ss_Hp) : Option (Int32 × ss_Hp) :=
  if ss_is h this 12 = true then
    (ss_pi h this 12 5 (6 : Int32)).bind fun h1 =>
    (ss_lp (mm_M_valley_b8 N this) N ((0 : Int32), h1)).bind fun h_8_27 =>
    ss_b2 (mm_M_readsAll N this h_8_27) fun v2 h3 =>
    if v2 = 0 then
      (ss_gi h3 this 12 3).bind fun v16 =>
      some (((-2 : Int32) - v16), h3)
    else
      (ss_lp (mm_M_valley_b44 N this) N ((0 : Int32), h3)).bind fun h_44_78 =>
      (mm_M_begins N this h_44_78).bind fun h5 =>
      (ss_pi h5 this 12 15 (0 : Int32)).bind fun h6 =>
      (ss_gr h6 this 12 9).bind fun r7 =>
      (ss_ai h6 r7 20 (2 : Int32)).bind fun v8 =>
      some (v8, h6)
  else none
abbrev ww_M_valley (p : Program) (l : Launch) (e : Env) (s : State) (m : MethodId) (below : List Frame) (meth : Method) (c : Code) (G : ss_G) (this : Option Nat) (h : ss_Hp) (rr : Int32) (hh : ss_Hp) (H : Heap) (locs : List Loc) (k n : Nat) (g : JFrame) : Prop := W p l e (headSpec (ss_w yy_M_valley bb_M_valley 2 (some (.int))) ({ frames := 12, cells := 0, slots := 0, locals := 262 })).room s m ([ss_v (ss_b G) this] : List Value).toArray below meth c H locs k n (MQ below (ss_Qc G (some (.int rr)) hh) ([ss_v (ss_b G) this] : List Value).toArray s 0 0 (ss_A G)) g
theorem ck_M_valley {N : Nat} {this : Option Nat} {h : ss_Hp} {res : Int32 × ss_Hp} (hm : mm_M_valley N this h = some res) : ss_is h this 12 = true := (ss_chk hm).1
set_option maxHeartbeats 4000000 in
set_option maxRecDepth 100000 in
theorem cc_M_valley (l : Launch) (G : ss_G) (N : Nat) (this : Option Nat) (h : ss_Hp) (rr : Int32) (hh : ss_Hp) (hm : mm_M_valley N this h = some (rr, hh)) : ss_Ct l G yy_M_valley bb_M_valley 2 (some (.int)) ({ frames := 12, cells := 0, slots := 0, locals := 262 }) [ss_v (ss_b G) this] h (some (.int rr)) hh := by
  obtain ⟨hck, hm⟩ := ss_chk hm
  refine Met.ofW (cc := bb_M_valley) (maxL := 2) (ret := (some (.int))) (by decide) rfl ?_
  intro p e s m args below meth c s₁ B hml hv
  obtain ⟨rfl, hR, hK⟩ := hv
  have hC : CallFix p m c bb_M_valley 2 s _ lw_g sR_12 := ⟨B.exec, B.bytes, hml, findClass_of_methodNamed B.named, fun w hw => atoms_spec (ws := ss_w yy_M_valley bb_M_valley 2 (some (.int))) B.pre w (List.mem_cons_of_mem _ hw)⟩
  have hx := hC.1
  have hb := hC.2.1
  have hr := B.returns
  have hlocks := B.notSynchronized
  have hS : va_S (ss_A G) s.heap s.heap [] := va_S.rf
  have hl := lv_entry ([ss_v (ss_b G) this]) (n := 2) (by simp [lg_sl, ss_v_cat, ss_cat_i, ss_cat_l, ss_cat_r])
  rw [lg_entry_eq]
  generalize (lg_sl ([ss_v (ss_b G) this]) ++ List.replicate (2 - (lg_sl ([ss_v (ss_b G) this])).length) Slot.unset).toArray = ls at hl ⊢
  have hl : lv_has ls 2 [(0, ss_v (ss_b G) this)] := by simpa [lv_args, ss_v_cat, ss_cat_i, ss_cat_l, ss_cat_r] using hl
  refine ss_aload_n hx hb dd_M_valley_0 rfl (lv_at hl 0 rfl) ?_
  refine lv_bipush (v := 6) hx hb dd_M_valley_1 (by decide) ?_
  obtain ⟨h1, qh1, hm⟩ := ss_bind hm
  refine ss_puti hC hK hR hS kp_M_152 qh1 dd_M_valley_3 (fun H locs hR hS => ?_)
  refine lv_iconst (v := 0) hx hb dd_M_valley_6 (by decide) ?_
  refine lv_istore_n (lv' := [(1, .int (0 : Int32)), (0, ss_v (ss_b G) this)]) hx hb dd_M_valley_7 rfl hl (by decide) (by simp only [List.filter_cons, ss_v_cat]; rfl) (fun ls hl => ?_)
  obtain ⟨e_8, he_8, hm⟩ := ss_bind hm
  have X_8_27 : ∀  (h_8_27 : ss_Hp) (H : Heap) (locs : List Loc) (ls : Array Slot), e_8 = h_8_27 → ss_R G h_8_27 H → va_S (ss_A G) s.heap H locs → lv_has ls 2 [(0, ss_v (ss_b G) this)] → ww_M_valley p l e s m below meth c G this h rr hh  H locs 0 0 (F0 m 27 ls []) := by
    intro h_8_27 H locs ls hq hR hS hl
    rw [hq] at hm
    refine ss_aload_n hx hb dd_M_valley_27 rfl (lv_at hl 0 rfl) ?_
    obtain ⟨v2, h3, qh3, hm⟩ := ss_bind2 hm
    refine ss_cV 0 0 (As := []) hC hK hR hS hl.1 (cc_M_readsAll l G N _ _ _ _ qh3) km_M_283 (ck_M_readsAll qh3) ⟨Nat.le_of_ble_eq_true rfl, Nat.le_of_ble_eq_true rfl⟩ ⟨Nat.le_of_ble_eq_true rfl, Nat.le_of_ble_eq_true rfl, Nat.le_of_ble_eq_true rfl, Nat.le_of_ble_eq_true rfl⟩ rfl rfl (Nat.le_of_ble_eq_true rfl) dd_M_valley_28 (fun H locs hR hS => ?_)
    refine lv_if_ne (tgt := 42) hx hb dd_M_valley_31 (by decide) (fun c4 => ?_) (fun c4 => ?_)
    · have hm := ss_iff hm c4
      refine lv_iconst (v := 0) hx hb dd_M_valley_42 (by decide) ?_
      refine lv_istore_n (lv' := [(1, .int (0 : Int32)), (0, ss_v (ss_b G) this)]) hx hb dd_M_valley_43 rfl hl (by decide) (by simp only [List.filter_cons, ss_v_cat]; rfl) (fun ls hl => ?_)
      obtain ⟨e_44, he_44, hm⟩ := ss_bind hm
      have X_44_78 : ∀  (h_44_78 : ss_Hp) (H : Heap) (locs : List Loc) (ls : Array Slot), e_44 = h_44_78 → ss_R G h_44_78 H → va_S (ss_A G) s.heap H locs → lv_has ls 2 [(0, ss_v (ss_b G) this)] → ww_M_valley p l e s m below meth c G this h rr hh  H locs 0 0 (F0 m 78 ls []) := by
        intro h_44_78 H locs ls hq hR hS hl
        rw [hq] at hm
        refine ss_aload_n hx hb dd_M_valley_78 rfl (lv_at hl 0 rfl) ?_
        obtain ⟨h5, qh5, hm⟩ := ss_bind hm
        refine ss_cVv 0 0 (As := []) hC hK hR hS hl.1 (cc_M_begins l G N _ _ _ qh5) km_M_286 (ck_M_begins qh5) ⟨Nat.le_of_ble_eq_true rfl, Nat.le_of_ble_eq_true rfl⟩ ⟨Nat.le_of_ble_eq_true rfl, Nat.le_of_ble_eq_true rfl, Nat.le_of_ble_eq_true rfl, Nat.le_of_ble_eq_true rfl⟩ rfl rfl (Nat.le_of_ble_eq_true rfl) dd_M_valley_79 (fun H locs hR hS => ?_)
        refine ss_aload_n hx hb dd_M_valley_82 rfl (lv_at hl 0 rfl) ?_
        refine lv_iconst (v := 0) hx hb dd_M_valley_83 (by decide) ?_
        obtain ⟨h6, qh6, hm⟩ := ss_bind hm
        refine ss_puti hC hK hR hS kp_M_289 qh6 dd_M_valley_84 (fun H locs hR hS => ?_)
        refine ss_aload_n hx hb dd_M_valley_87 rfl (lv_at hl 0 rfl) ?_
        obtain ⟨r7, qr7, hm⟩ := ss_bind hm
        refine ss_getr hC hK hR kf_M_39 rfl qr7 dd_M_valley_88 ?_
        refine lv_iconst (v := 2) hx hb dd_M_valley_91 (by decide) ?_
        obtain ⟨v8, qv8, hm⟩ := ss_bind hm
        refine ss_iald hC hK hR qv8 dd_M_valley_92 ?_
        exact ss_iret hC hr hlocks hR hS hm dd_M_valley_93
      have L_44 : ∀ (n : Nat) (x1_44 : Int32) (h_44 : ss_Hp) (H : Heap) (locs : List Loc) (ls : Array Slot), ss_lp (mm_M_valley_b44 N this) n (x1_44, h_44) = some e_44 → ss_R G h_44 H → va_S (ss_A G) s.heap H locs → lv_has ls 2 [(0, ss_v (ss_b G) this), (1, .int x1_44)] → ww_M_valley p l e s m below meth c G this h rr hh  H locs 0 0 (F0 m 44 ls []) := by
        intro n
        induction n with
        | zero => intro x1_44 h_44 H locs ls hm; cases hm
        | succ n ih_44 =>
          intro x1_44 h_44 H locs ls hm hR hS hl
          obtain ⟨z_44, hm, hz1_44, hz2_44⟩ := ss_lps hm
          have J_71 : ∀ (x1_71 : Int32) (s0_71 : Option Nat) (s1_71 : Int32) (s2_71 : Int32) (h_71 : ss_Hp) (H : Heap) (locs : List Loc) (ls : Array Slot), mm_M_valley_j71 N this x1_71 s0_71 s1_71 s2_71 h_71 = some z_44 → ss_R G h_71 H → va_S (ss_A G) s.heap H locs → lv_has ls 2 [(0, ss_v (ss_b G) this), (1, .int x1_71)] → ww_M_valley p l e s m below meth c G this h rr hh  H locs 0 0 (F0 m 71 ls [.int s2_71, .int s1_71, ss_v (ss_b G) s0_71]) := by
            intro x1_71 s0_71 s1_71 s2_71 h_71 H locs ls hm hR hS hl
            obtain ⟨h9, qh9, hm⟩ := ss_bind hm
            refine ss_iast hC hK hR hS qh9 dd_M_valley_71 (fun H locs hR hS => ?_)
            obtain ⟨v10, qv10, hm⟩ := ss_bind hm
            refine lv_iinc (v := v10) (lv' := [(1, .int v10), (0, ss_v (ss_b G) this)]) hx hb dd_M_valley_72 hl (k := 1) rfl (ss_inc (by decide) qv10) (by decide) (by simp only [List.filter_cons, ss_v_cat]; rfl) (fun ls hl => ?_)
            refine lv_goto (tgt := 44) hx hb dd_M_valley_75 (by decide) ?_
            exact ih_44 v10 h9 _ _ _ (hz1_44 _ (ss_some hm)) hR hS (lv_sub hl [1, 0] rfl)
          refine lv_iload_n hx hb dd_M_valley_44 rfl (lv_at hl 1 rfl) ?_
          refine lv_bipush (v := 124) hx hb dd_M_valley_45 (by decide) ?_
          refine lv_icmp_ge (tgt := 78) hx hb dd_M_valley_47 (by decide) (fun c11 => ?_) (fun c11 => ?_)
          · have hm := ss_ift hm c11
            exact X_44_78 h_44 _ _ _ (hz2_44 _ (ss_some hm)) hR hS (lv_sub hl [0] rfl)
          · have hm := ss_iff hm c11
            refine ss_aload_n hx hb dd_M_valley_50 rfl (lv_at hl 0 rfl) ?_
            obtain ⟨r12, qr12, hm⟩ := ss_bind hm
            refine ss_getr hC hK hR kf_M_39 rfl qr12 dd_M_valley_51 ?_
            refine lv_iload_n hx hb dd_M_valley_54 rfl (lv_at hl 1 rfl) ?_
            refine lv_iload_n hx hb dd_M_valley_55 rfl (lv_at hl 1 rfl) ?_
            refine lv_bipush (v := 93) hx hb dd_M_valley_56 (by decide) ?_
            refine lv_icmp_ge (tgt := 70) hx hb dd_M_valley_58 (by decide) (fun c13 => ?_) (fun c13 => ?_)
            · have hm := ss_ift hm c13
              refine lv_iconst (v := 0) hx hb dd_M_valley_70 (by decide) ?_
              exact J_71 x1_44 r12 x1_44 (0 : Int32) h_44 _ _ _ hm hR hS hl
            · have hm := ss_iff hm c13
              refine ss_aload_n hx hb dd_M_valley_61 rfl (lv_at hl 0 rfl) ?_
              obtain ⟨r14, qr14, hm⟩ := ss_bind hm
              refine ss_getr hC hK hR kf_M_26 rfl qr14 dd_M_valley_62 ?_
              refine lv_iload_n hx hb dd_M_valley_65 rfl (lv_at hl 1 rfl) ?_
              obtain ⟨v15, qv15, hm⟩ := ss_bind hm
              refine ss_iald hC hK hR qv15 dd_M_valley_66 ?_
              refine lv_goto (tgt := 71) hx hb dd_M_valley_67 (by decide) ?_
              exact J_71 x1_44 r12 x1_44 v15 h_44 _ _ _ hm hR hS hl
      exact L_44 N (0 : Int32) h3 _ _ _ he_44 hR hS (lv_sub hl [1, 0] rfl)
    · have hm := ss_ift hm c4
      refine lv_bipush (v := -2) hx hb dd_M_valley_34 (by decide) ?_
      refine ss_aload_n hx hb dd_M_valley_36 rfl (lv_at hl 0 rfl) ?_
      obtain ⟨v16, qv16, hm⟩ := ss_bind hm
      refine ss_geti hC hK hR kf_M_93 qv16 dd_M_valley_37 ?_
      refine lv_isub hx hb dd_M_valley_40 ?_
      exact ss_iret hC hr hlocks hR hS hm dd_M_valley_41
  have L_8 : ∀ (n : Nat) (x1_8 : Int32) (h_8 : ss_Hp) (H : Heap) (locs : List Loc) (ls : Array Slot), ss_lp (mm_M_valley_b8 N this) n (x1_8, h_8) = some e_8 → ss_R G h_8 H → va_S (ss_A G) s.heap H locs → lv_has ls 2 [(0, ss_v (ss_b G) this), (1, .int x1_8)] → ww_M_valley p l e s m below meth c G this h rr hh  H locs 0 0 (F0 m 8 ls []) := by
    intro n
    induction n with
    | zero => intro x1_8 h_8 H locs ls hm; cases hm
    | succ n ih_8 =>
      intro x1_8 h_8 H locs ls hm hR hS hl
      obtain ⟨z_8, hm, hz1_8, hz2_8⟩ := ss_lps hm
      refine lv_iload_n hx hb dd_M_valley_8 rfl (lv_at hl 1 rfl) ?_
      refine lv_bipush (v := 93) hx hb dd_M_valley_9 (by decide) ?_
      refine lv_icmp_ge (tgt := 27) hx hb dd_M_valley_11 (by decide) (fun c17 => ?_) (fun c17 => ?_)
      · have hm := ss_ift hm c17
        exact X_8_27 h_8 _ _ _ (hz2_8 _ (ss_some hm)) hR hS (lv_sub hl [0] rfl)
      · have hm := ss_iff hm c17
        refine ss_aload_n hx hb dd_M_valley_14 rfl (lv_at hl 0 rfl) ?_
        obtain ⟨r18, qr18, hm⟩ := ss_bind hm
        refine ss_getr hC hK hR kf_M_26 rfl qr18 dd_M_valley_15 ?_
        refine lv_iload_n hx hb dd_M_valley_18 rfl (lv_at hl 1 rfl) ?_
        refine lv_iconst (v := 0) hx hb dd_M_valley_19 (by decide) ?_
        obtain ⟨h19, qh19, hm⟩ := ss_bind hm
        refine ss_iast hC hK hR hS qh19 dd_M_valley_20 (fun H locs hR hS => ?_)
        obtain ⟨v20, qv20, hm⟩ := ss_bind hm
        refine lv_iinc (v := v20) (lv' := [(1, .int v20), (0, ss_v (ss_b G) this)]) hx hb dd_M_valley_21 hl (k := 1) rfl (ss_inc (by decide) qv20) (by decide) (by simp only [List.filter_cons, ss_v_cat]; rfl) (fun ls hl => ?_)
        refine lv_goto (tgt := 8) hx hb dd_M_valley_24 (by decide) ?_
        exact ih_8 v20 h19 _ _ _ (hz1_8 _ (ss_some hm)) hR hS (lv_sub hl [1, 0] rfl)
  exact L_8 N (0 : Int32) h1 _ _ _ he_8 hR hS (lv_sub hl [1, 0] rfl)
theorem dd_M_isRule_0 : decode bb_M_isRule 0 = .ok (.iload_n 1, 1) := by decide +kernel
theorem dd_M_isRule_1 : decode bb_M_isRule 1 = .ok (.ifCond .lt 15, 3) := by decide +kernel
theorem dd_M_isRule_4 : decode bb_M_isRule 4 = .ok (.iload_n 1, 1) := by decide +kernel
theorem dd_M_isRule_5 : decode bb_M_isRule 5 = .ok (.aload_n 0, 1) := by decide +kernel
theorem dd_M_isRule_6 : decode bb_M_isRule 6 = .ok (.getfield 280, 3) := by decide +kernel
theorem dd_M_isRule_9 : decode bb_M_isRule 9 = .ok (.if_icmp .ge 7, 3) := by decide +kernel
theorem dd_M_isRule_12 : decode bb_M_isRule 12 = .ok (.iconst 1, 1) := by decide +kernel
theorem dd_M_isRule_13 : decode bb_M_isRule 13 = .ok (.goto 4, 3) := by decide +kernel
theorem dd_M_isRule_16 : decode bb_M_isRule 16 = .ok (.iconst 0, 1) := by decide +kernel
theorem dd_M_isRule_17 : decode bb_M_isRule 17 = .ok (.ireturn, 1) := by decide +kernel
def mm_M_isRule_j17 (N : Nat) (this : Option Nat) (a1 : Int32) (h : ss_Hp) (s0_17 : Int32) : Option Int32 :=
  (ss_bz s0_17).bind fun v1 =>
  some v1
def mm_M_isRule_j16 (N : Nat) (this : Option Nat) (a1 : Int32) (h : ss_Hp) : Option Int32 :=
  mm_M_isRule_j17 N this a1 h (0 : Int32)
def mm_M_isRule (N : Nat) (this : Option Nat) (a1 : Int32) (h : ss_Hp) : Option Int32 :=
  if ss_is h this 12 = true then
    if a1 < 0 then
      mm_M_isRule_j16 N this a1 h
    else
      (ss_gi h this 12 1).bind fun v3 =>
      if v3 ≤ a1 then
        mm_M_isRule_j16 N this a1 h
      else
        mm_M_isRule_j17 N this a1 h (1 : Int32)
  else none
abbrev ww_M_isRule (p : Program) (l : Launch) (e : Env) (s : State) (m : MethodId) (below : List Frame) (meth : Method) (c : Code) (G : ss_G) (this : Option Nat) (a1 : Int32) (h : ss_Hp) (rr : Int32) (H : Heap) (locs : List Loc) (k n : Nat) (g : JFrame) : Prop := W p l e (headSpec (ss_w yy_M_isRule bb_M_isRule 2 (some .boolean)) ({ frames := 0, cells := 0, slots := 0, locals := 0 })).room s m ([ss_v (ss_b G) this, .int a1] : List Value).toArray below meth c H locs k n (MQ below (ss_Qc G (some (.int rr)) h) ([ss_v (ss_b G) this, .int a1] : List Value).toArray s 0 0 (ss_A G)) g
theorem ck_M_isRule {N : Nat} {this : Option Nat} {a1 : Int32} {h : ss_Hp} {res : Int32} (hm : mm_M_isRule N this a1 h = some res) : ss_is h this 12 = true := (ss_chk hm).1
set_option maxHeartbeats 4000000 in
set_option maxRecDepth 100000 in
theorem cc_M_isRule (l : Launch) (G : ss_G) (N : Nat) (this : Option Nat) (a1 : Int32) (h : ss_Hp) (rr : Int32) (hm : mm_M_isRule N this a1 h = some rr) : ss_Ct l G yy_M_isRule bb_M_isRule 2 (some .boolean) ({ frames := 0, cells := 0, slots := 0, locals := 0 }) [ss_v (ss_b G) this, .int a1] h (some (.int rr)) h := by
  obtain ⟨hck, hm⟩ := ss_chk hm
  refine Met.ofW (cc := bb_M_isRule) (maxL := 2) (ret := (some .boolean)) (by decide) rfl ?_
  intro p e s m args below meth c s₁ B hml hv
  obtain ⟨rfl, hR, hK⟩ := hv
  have hC : CallFix p m c bb_M_isRule 2 s _ lw_g sR_12 := ⟨B.exec, B.bytes, hml, findClass_of_methodNamed B.named, fun w hw => atoms_spec (ws := ss_w yy_M_isRule bb_M_isRule 2 (some .boolean)) B.pre w (List.mem_cons_of_mem _ hw)⟩
  have hx := hC.1
  have hb := hC.2.1
  have hr := B.returns
  have hlocks := B.notSynchronized
  have hS : va_S (ss_A G) s.heap s.heap [] := va_S.rf
  have hl := lv_entry ([ss_v (ss_b G) this, .int a1]) (n := 2) (by simp [lg_sl, ss_v_cat, ss_cat_i, ss_cat_l, ss_cat_r])
  rw [lg_entry_eq]
  generalize (lg_sl ([ss_v (ss_b G) this, .int a1]) ++ List.replicate (2 - (lg_sl ([ss_v (ss_b G) this, .int a1])).length) Slot.unset).toArray = ls at hl ⊢
  have hl : lv_has ls 2 [(0, ss_v (ss_b G) this), (1, .int a1)] := by simpa [lv_args, ss_v_cat, ss_cat_i, ss_cat_l, ss_cat_r] using hl
  have J_17 : ∀ (s0_17 : Int32) (H : Heap) (locs : List Loc) (ls : Array Slot), mm_M_isRule_j17 N this a1 h s0_17 = some rr → ss_R G h H → va_S (ss_A G) s.heap H locs → lv_has ls 2 [] → ww_M_isRule p l e s m below meth c G this a1 h rr  H locs 0 0 (F0 m 17 ls [.int s0_17]) := by
    intro s0_17 H locs ls hm hR hS hl
    obtain ⟨v1, qv1, hm⟩ := ss_bind hm
    obtain ⟨hnb, rfl⟩ := ss_bzs qv1
    exact ss_zret hC hr hnb hlocks hR hS (ss_with _ hm) dd_M_isRule_17
  have J_16 : ∀  (H : Heap) (locs : List Loc) (ls : Array Slot), mm_M_isRule_j16 N this a1 h = some rr → ss_R G h H → va_S (ss_A G) s.heap H locs → lv_has ls 2 [] → ww_M_isRule p l e s m below meth c G this a1 h rr  H locs 0 0 (F0 m 16 ls []) := by
    intro  H locs ls hm hR hS hl
    refine lv_iconst (v := 0) hx hb dd_M_isRule_16 (by decide) ?_
    exact J_17 (0 : Int32)  _ _ _ hm hR hS hl
  refine lv_iload_n hx hb dd_M_isRule_0 rfl (lv_at hl 1 rfl) ?_
  refine lv_if_lt (tgt := 16) hx hb dd_M_isRule_1 (by decide) (fun c2 => ?_) (fun c2 => ?_)
  · have hm := ss_ift hm c2
    exact J_16  _ _ _ hm hR hS (lv_sub hl [] rfl)
  · have hm := ss_iff hm c2
    refine lv_iload_n hx hb dd_M_isRule_4 rfl (lv_at hl 1 rfl) ?_
    refine ss_aload_n hx hb dd_M_isRule_5 rfl (lv_at hl 0 rfl) ?_
    obtain ⟨v3, qv3, hm⟩ := ss_bind hm
    refine ss_geti hC hK hR kf_M_280 qv3 dd_M_isRule_6 ?_
    refine lv_icmp_ge (tgt := 16) hx hb dd_M_isRule_9 (by decide) (fun c4 => ?_) (fun c4 => ?_)
    · have hm := ss_ift hm c4
      exact J_16  _ _ _ hm hR hS (lv_sub hl [] rfl)
    · have hm := ss_iff hm c4
      refine lv_iconst (v := 1) hx hb dd_M_isRule_12 (by decide) ?_
      refine lv_goto (tgt := 17) hx hb dd_M_isRule_13 (by decide) ?_
      exact J_17 (1 : Int32)  _ _ _ hm hR hS (lv_sub hl [] rfl)
theorem dd_M_force_0 : decode bb_M_force 0 = .ok (.iload_n 1, 1) := by decide +kernel
theorem dd_M_force_1 : decode bb_M_force 1 = .ok (.iconst (-1), 1) := by decide +kernel
theorem dd_M_force_2 : decode bb_M_force 2 = .ok (.if_icmp .eq 14, 3) := by decide +kernel
theorem dd_M_force_5 : decode bb_M_force 5 = .ok (.aload_n 0, 1) := by decide +kernel
theorem dd_M_force_6 : decode bb_M_force 6 = .ok (.iload_n 1, 1) := by decide +kernel
theorem dd_M_force_7 : decode bb_M_force 7 = .ok (.invokevirtual 310, 3) := by decide +kernel
theorem dd_M_force_10 : decode bb_M_force 10 = .ok (.ifCond .ne 6, 3) := by decide +kernel
theorem dd_M_force_13 : decode bb_M_force 13 = .ok (.bipush (-2), 2) := by decide +kernel
theorem dd_M_force_15 : decode bb_M_force 15 = .ok (.ireturn, 1) := by decide +kernel
theorem dd_M_force_16 : decode bb_M_force 16 = .ok (.aload_n 0, 1) := by decide +kernel
theorem dd_M_force_17 : decode bb_M_force 17 = .ok (.getfield 42, 3) := by decide +kernel
theorem dd_M_force_20 : decode bb_M_force 20 = .ok (.istore_n 2, 1) := by decide +kernel
theorem dd_M_force_21 : decode bb_M_force 21 = .ok (.aload_n 0, 1) := by decide +kernel
theorem dd_M_force_22 : decode bb_M_force 22 = .ok (.iload_n 1, 1) := by decide +kernel
theorem dd_M_force_23 : decode bb_M_force 23 = .ok (.putfield 42, 3) := by decide +kernel
theorem dd_M_force_26 : decode bb_M_force 26 = .ok (.iload_n 2, 1) := by decide +kernel
theorem dd_M_force_27 : decode bb_M_force 27 = .ok (.ireturn, 1) := by decide +kernel
def mm_M_force_j16 (N : Nat) (this : Option Nat) (a1 : Int32) (h_16 : ss_Hp) : Option (Int32 × ss_Hp) :=
  (ss_gi h_16 this 12 13).bind fun v1 =>
  (ss_pi h_16 this 12 13 a1).bind fun h2 =>
  some (v1, h2)
def mm_M_force (N : Nat) (this : Option Nat) (a1 : Int32) (h : ss_Hp) : Option (Int32 × ss_Hp) :=
  if ss_is h this 12 = true then
    if a1 = (-1 : Int32) then
      mm_M_force_j16 N this a1 h
    else
      (mm_M_isRule N this a1 h).bind fun v4 =>
      if v4 = 0 then
        some ((-2 : Int32), h)
      else
        mm_M_force_j16 N this a1 h
  else none
abbrev ww_M_force (p : Program) (l : Launch) (e : Env) (s : State) (m : MethodId) (below : List Frame) (meth : Method) (c : Code) (G : ss_G) (this : Option Nat) (a1 : Int32) (h : ss_Hp) (rr : Int32) (hh : ss_Hp) (H : Heap) (locs : List Loc) (k n : Nat) (g : JFrame) : Prop := W p l e (headSpec (ss_w yy_M_force bb_M_force 3 (some (.int))) ({ frames := 1, cells := 0, slots := 0, locals := 21 })).room s m ([ss_v (ss_b G) this, .int a1] : List Value).toArray below meth c H locs k n (MQ below (ss_Qc G (some (.int rr)) hh) ([ss_v (ss_b G) this, .int a1] : List Value).toArray s 0 0 (ss_A G)) g
theorem ck_M_force {N : Nat} {this : Option Nat} {a1 : Int32} {h : ss_Hp} {res : Int32 × ss_Hp} (hm : mm_M_force N this a1 h = some res) : ss_is h this 12 = true := (ss_chk hm).1
set_option maxHeartbeats 4000000 in
set_option maxRecDepth 100000 in
theorem cc_M_force (l : Launch) (G : ss_G) (N : Nat) (this : Option Nat) (a1 : Int32) (h : ss_Hp) (rr : Int32) (hh : ss_Hp) (hm : mm_M_force N this a1 h = some (rr, hh)) : ss_Ct l G yy_M_force bb_M_force 3 (some (.int)) ({ frames := 1, cells := 0, slots := 0, locals := 21 }) [ss_v (ss_b G) this, .int a1] h (some (.int rr)) hh := by
  obtain ⟨hck, hm⟩ := ss_chk hm
  refine Met.ofW (cc := bb_M_force) (maxL := 3) (ret := (some (.int))) (by decide) rfl ?_
  intro p e s m args below meth c s₁ B hml hv
  obtain ⟨rfl, hR, hK⟩ := hv
  have hC : CallFix p m c bb_M_force 3 s _ lw_g sR_12 := ⟨B.exec, B.bytes, hml, findClass_of_methodNamed B.named, fun w hw => atoms_spec (ws := ss_w yy_M_force bb_M_force 3 (some (.int))) B.pre w (List.mem_cons_of_mem _ hw)⟩
  have hx := hC.1
  have hb := hC.2.1
  have hr := B.returns
  have hlocks := B.notSynchronized
  have hS : va_S (ss_A G) s.heap s.heap [] := va_S.rf
  have hl := lv_entry ([ss_v (ss_b G) this, .int a1]) (n := 3) (by simp [lg_sl, ss_v_cat, ss_cat_i, ss_cat_l, ss_cat_r])
  rw [lg_entry_eq]
  generalize (lg_sl ([ss_v (ss_b G) this, .int a1]) ++ List.replicate (3 - (lg_sl ([ss_v (ss_b G) this, .int a1])).length) Slot.unset).toArray = ls at hl ⊢
  have hl : lv_has ls 3 [(0, ss_v (ss_b G) this), (1, .int a1)] := by simpa [lv_args, ss_v_cat, ss_cat_i, ss_cat_l, ss_cat_r] using hl
  have J_16 : ∀ (h_16 : ss_Hp) (H : Heap) (locs : List Loc) (ls : Array Slot), mm_M_force_j16 N this a1 h_16 = some (rr, hh) → ss_R G h_16 H → va_S (ss_A G) s.heap H locs → lv_has ls 3 [(0, ss_v (ss_b G) this), (1, .int a1)] → ww_M_force p l e s m below meth c G this a1 h rr hh  H locs 0 0 (F0 m 16 ls []) := by
    intro h_16 H locs ls hm hR hS hl
    refine ss_aload_n hx hb dd_M_force_16 rfl (lv_at hl 0 rfl) ?_
    obtain ⟨v1, qv1, hm⟩ := ss_bind hm
    refine ss_geti hC hK hR kf_M_42 qv1 dd_M_force_17 ?_
    refine lv_istore_n (lv' := [(2, .int v1), (0, ss_v (ss_b G) this), (1, .int a1)]) hx hb dd_M_force_20 rfl hl (by decide) rfl (fun ls hl => ?_)
    refine ss_aload_n hx hb dd_M_force_21 rfl (lv_at hl 1 rfl) ?_
    refine lv_iload_n hx hb dd_M_force_22 rfl (lv_at hl 2 rfl) ?_
    obtain ⟨h2, qh2, hm⟩ := ss_bind hm
    refine ss_puti hC hK hR hS kp_M_42 qh2 dd_M_force_23 (fun H locs hR hS => ?_)
    refine lv_iload_n hx hb dd_M_force_26 rfl (lv_at hl 0 rfl) ?_
    exact ss_iret hC hr hlocks hR hS hm dd_M_force_27
  refine lv_iload_n hx hb dd_M_force_0 rfl (lv_at hl 1 rfl) ?_
  refine lv_iconst (v := -1) hx hb dd_M_force_1 (by decide) ?_
  refine lv_icmp_eq (tgt := 16) hx hb dd_M_force_2 (by decide) (fun c3 => ?_) (fun c3 => ?_)
  · have hm := ss_ift hm c3
    exact J_16 h _ _ _ hm hR hS hl
  · have hm := ss_iff hm c3
    refine ss_aload_n hx hb dd_M_force_5 rfl (lv_at hl 0 rfl) ?_
    refine lv_iload_n hx hb dd_M_force_6 rfl (lv_at hl 1 rfl) ?_
    obtain ⟨v4, qv4, hm⟩ := ss_bind hm
    refine ss_cV 0 0 (As := [.int a1]) hC hK hR hS hl.1 (cc_M_isRule l G N _ _ _ _ qv4) km_M_310 (ck_M_isRule qv4) ⟨Nat.le_of_ble_eq_true rfl, Nat.le_of_ble_eq_true rfl⟩ ⟨Nat.le_of_ble_eq_true rfl, Nat.le_of_ble_eq_true rfl, Nat.le_of_ble_eq_true rfl, Nat.le_of_ble_eq_true rfl⟩ rfl rfl (Nat.le_of_ble_eq_true rfl) dd_M_force_7 (fun H locs hR hS => ?_)
    refine lv_if_ne (tgt := 16) hx hb dd_M_force_10 (by decide) (fun c5 => ?_) (fun c5 => ?_)
    · have hm := ss_iff hm c5
      exact J_16 h _ _ _ hm hR hS hl
    · have hm := ss_ift hm c5
      refine lv_bipush (v := -2) hx hb dd_M_force_13 (by decide) ?_
      exact ss_iret hC hr hlocks hR hS hm dd_M_force_15
theorem dd_M_isStep_0 : decode bb_M_isStep 0 = .ok (.iload_n 1, 1) := by decide +kernel
theorem dd_M_isStep_1 : decode bb_M_isStep 1 = .ok (.ifCond .lt 17, 3) := by decide +kernel
theorem dd_M_isStep_4 : decode bb_M_isStep 4 = .ok (.iload_n 1, 1) := by decide +kernel
theorem dd_M_isStep_5 : decode bb_M_isStep 5 = .ok (.aload_n 0, 1) := by decide +kernel
theorem dd_M_isStep_6 : decode bb_M_isStep 6 = .ok (.getfield 39, 3) := by decide +kernel
theorem dd_M_isStep_9 : decode bb_M_isStep 9 = .ok (.iconst 2, 1) := by decide +kernel
theorem dd_M_isStep_10 : decode bb_M_isStep 10 = .ok (.iaload, 1) := by decide +kernel
theorem dd_M_isStep_11 : decode bb_M_isStep 11 = .ok (.if_icmp .ge 7, 3) := by decide +kernel
theorem dd_M_isStep_14 : decode bb_M_isStep 14 = .ok (.iconst 1, 1) := by decide +kernel
theorem dd_M_isStep_15 : decode bb_M_isStep 15 = .ok (.goto 4, 3) := by decide +kernel
theorem dd_M_isStep_18 : decode bb_M_isStep 18 = .ok (.iconst 0, 1) := by decide +kernel
theorem dd_M_isStep_19 : decode bb_M_isStep 19 = .ok (.ireturn, 1) := by decide +kernel
def mm_M_isStep_j19 (N : Nat) (this : Option Nat) (a1 : Int32) (h : ss_Hp) (s0_19 : Int32) : Option Int32 :=
  (ss_bz s0_19).bind fun v1 =>
  some v1
def mm_M_isStep_j18 (N : Nat) (this : Option Nat) (a1 : Int32) (h : ss_Hp) : Option Int32 :=
  mm_M_isStep_j19 N this a1 h (0 : Int32)
def mm_M_isStep (N : Nat) (this : Option Nat) (a1 : Int32) (h : ss_Hp) : Option Int32 :=
  if ss_is h this 12 = true then
    if a1 < 0 then
      mm_M_isStep_j18 N this a1 h
    else
      (ss_gr h this 12 9).bind fun r3 =>
      (ss_ai h r3 20 (2 : Int32)).bind fun v4 =>
      if v4 ≤ a1 then
        mm_M_isStep_j18 N this a1 h
      else
        mm_M_isStep_j19 N this a1 h (1 : Int32)
  else none
abbrev ww_M_isStep (p : Program) (l : Launch) (e : Env) (s : State) (m : MethodId) (below : List Frame) (meth : Method) (c : Code) (G : ss_G) (this : Option Nat) (a1 : Int32) (h : ss_Hp) (rr : Int32) (H : Heap) (locs : List Loc) (k n : Nat) (g : JFrame) : Prop := W p l e (headSpec (ss_w yy_M_isStep bb_M_isStep 2 (some .boolean)) ({ frames := 0, cells := 0, slots := 0, locals := 0 })).room s m ([ss_v (ss_b G) this, .int a1] : List Value).toArray below meth c H locs k n (MQ below (ss_Qc G (some (.int rr)) h) ([ss_v (ss_b G) this, .int a1] : List Value).toArray s 0 0 (ss_A G)) g
theorem ck_M_isStep {N : Nat} {this : Option Nat} {a1 : Int32} {h : ss_Hp} {res : Int32} (hm : mm_M_isStep N this a1 h = some res) : ss_is h this 12 = true := (ss_chk hm).1
set_option maxHeartbeats 4000000 in
set_option maxRecDepth 100000 in
theorem cc_M_isStep (l : Launch) (G : ss_G) (N : Nat) (this : Option Nat) (a1 : Int32) (h : ss_Hp) (rr : Int32) (hm : mm_M_isStep N this a1 h = some rr) : ss_Ct l G yy_M_isStep bb_M_isStep 2 (some .boolean) ({ frames := 0, cells := 0, slots := 0, locals := 0 }) [ss_v (ss_b G) this, .int a1] h (some (.int rr)) h := by
  obtain ⟨hck, hm⟩ := ss_chk hm
  refine Met.ofW (cc := bb_M_isStep) (maxL := 2) (ret := (some .boolean)) (by decide) rfl ?_
  intro p e s m args below meth c s₁ B hml hv
  obtain ⟨rfl, hR, hK⟩ := hv
  have hC : CallFix p m c bb_M_isStep 2 s _ lw_g sR_12 := ⟨B.exec, B.bytes, hml, findClass_of_methodNamed B.named, fun w hw => atoms_spec (ws := ss_w yy_M_isStep bb_M_isStep 2 (some .boolean)) B.pre w (List.mem_cons_of_mem _ hw)⟩
  have hx := hC.1
  have hb := hC.2.1
  have hr := B.returns
  have hlocks := B.notSynchronized
  have hS : va_S (ss_A G) s.heap s.heap [] := va_S.rf
  have hl := lv_entry ([ss_v (ss_b G) this, .int a1]) (n := 2) (by simp [lg_sl, ss_v_cat, ss_cat_i, ss_cat_l, ss_cat_r])
  rw [lg_entry_eq]
  generalize (lg_sl ([ss_v (ss_b G) this, .int a1]) ++ List.replicate (2 - (lg_sl ([ss_v (ss_b G) this, .int a1])).length) Slot.unset).toArray = ls at hl ⊢
  have hl : lv_has ls 2 [(0, ss_v (ss_b G) this), (1, .int a1)] := by simpa [lv_args, ss_v_cat, ss_cat_i, ss_cat_l, ss_cat_r] using hl
  have J_19 : ∀ (s0_19 : Int32) (H : Heap) (locs : List Loc) (ls : Array Slot), mm_M_isStep_j19 N this a1 h s0_19 = some rr → ss_R G h H → va_S (ss_A G) s.heap H locs → lv_has ls 2 [] → ww_M_isStep p l e s m below meth c G this a1 h rr  H locs 0 0 (F0 m 19 ls [.int s0_19]) := by
    intro s0_19 H locs ls hm hR hS hl
    obtain ⟨v1, qv1, hm⟩ := ss_bind hm
    obtain ⟨hnb, rfl⟩ := ss_bzs qv1
    exact ss_zret hC hr hnb hlocks hR hS (ss_with _ hm) dd_M_isStep_19
  have J_18 : ∀  (H : Heap) (locs : List Loc) (ls : Array Slot), mm_M_isStep_j18 N this a1 h = some rr → ss_R G h H → va_S (ss_A G) s.heap H locs → lv_has ls 2 [] → ww_M_isStep p l e s m below meth c G this a1 h rr  H locs 0 0 (F0 m 18 ls []) := by
    intro  H locs ls hm hR hS hl
    refine lv_iconst (v := 0) hx hb dd_M_isStep_18 (by decide) ?_
    exact J_19 (0 : Int32)  _ _ _ hm hR hS hl
  refine lv_iload_n hx hb dd_M_isStep_0 rfl (lv_at hl 1 rfl) ?_
  refine lv_if_lt (tgt := 18) hx hb dd_M_isStep_1 (by decide) (fun c2 => ?_) (fun c2 => ?_)
  · have hm := ss_ift hm c2
    exact J_18  _ _ _ hm hR hS (lv_sub hl [] rfl)
  · have hm := ss_iff hm c2
    refine lv_iload_n hx hb dd_M_isStep_4 rfl (lv_at hl 1 rfl) ?_
    refine ss_aload_n hx hb dd_M_isStep_5 rfl (lv_at hl 0 rfl) ?_
    obtain ⟨r3, qr3, hm⟩ := ss_bind hm
    refine ss_getr hC hK hR kf_M_39 rfl qr3 dd_M_isStep_6 ?_
    refine lv_iconst (v := 2) hx hb dd_M_isStep_9 (by decide) ?_
    obtain ⟨v4, qv4, hm⟩ := ss_bind hm
    refine ss_iald hC hK hR qv4 dd_M_isStep_10 ?_
    refine lv_icmp_ge (tgt := 18) hx hb dd_M_isStep_11 (by decide) (fun c5 => ?_) (fun c5 => ?_)
    · have hm := ss_ift hm c5
      exact J_18  _ _ _ hm hR hS (lv_sub hl [] rfl)
    · have hm := ss_iff hm c5
      refine lv_iconst (v := 1) hx hb dd_M_isStep_14 (by decide) ?_
      refine lv_goto (tgt := 19) hx hb dd_M_isStep_15 (by decide) ?_
      exact J_19 (1 : Int32)  _ _ _ hm hR hS (lv_sub hl [] rfl)
theorem dd_M_isClosed_0 : decode bb_M_isClosed 0 = .ok (.aload_n 0, 1) := by decide +kernel
theorem dd_M_isClosed_1 : decode bb_M_isClosed 1 = .ok (.getfield 39, 3) := by decide +kernel
theorem dd_M_isClosed_4 : decode bb_M_isClosed 4 = .ok (.bipush 14, 2) := by decide +kernel
theorem dd_M_isClosed_6 : decode bb_M_isClosed 6 = .ok (.iload_n 1, 1) := by decide +kernel
theorem dd_M_isClosed_7 : decode bb_M_isClosed 7 = .ok (.iadd, 1) := by decide +kernel
theorem dd_M_isClosed_8 : decode bb_M_isClosed 8 = .ok (.iaload, 1) := by decide +kernel
theorem dd_M_isClosed_9 : decode bb_M_isClosed 9 = .ok (.aload_n 0, 1) := by decide +kernel
theorem dd_M_isClosed_10 : decode bb_M_isClosed 10 = .ok (.getfield 39, 3) := by decide +kernel
theorem dd_M_isClosed_13 : decode bb_M_isClosed 13 = .ok (.iconst 1, 1) := by decide +kernel
theorem dd_M_isClosed_14 : decode bb_M_isClosed 14 = .ok (.iaload, 1) := by decide +kernel
theorem dd_M_isClosed_15 : decode bb_M_isClosed 15 = .ok (.if_icmp .lt 7, 3) := by decide +kernel
theorem dd_M_isClosed_18 : decode bb_M_isClosed 18 = .ok (.iconst 1, 1) := by decide +kernel
theorem dd_M_isClosed_19 : decode bb_M_isClosed 19 = .ok (.goto 4, 3) := by decide +kernel
theorem dd_M_isClosed_22 : decode bb_M_isClosed 22 = .ok (.iconst 0, 1) := by decide +kernel
theorem dd_M_isClosed_23 : decode bb_M_isClosed 23 = .ok (.ireturn, 1) := by decide +kernel
def mm_M_isClosed_j23 (N : Nat) (this : Option Nat) (a1 : Int32) (h : ss_Hp) (s0_23 : Int32) : Option Int32 :=
  (ss_bz s0_23).bind fun v1 =>
  some v1
def mm_M_isClosed (N : Nat) (this : Option Nat) (a1 : Int32) (h : ss_Hp) : Option Int32 :=
  if ss_is h this 12 = true then
    (ss_gr h this 12 9).bind fun r2 =>
    (ss_ai h r2 20 ((14 : Int32) + a1)).bind fun v3 =>
    (ss_gr h this 12 9).bind fun r4 =>
    (ss_ai h r4 20 (1 : Int32)).bind fun v5 =>
    if v3 < v5 then
      mm_M_isClosed_j23 N this a1 h (0 : Int32)
    else
      mm_M_isClosed_j23 N this a1 h (1 : Int32)
  else none
abbrev ww_M_isClosed (p : Program) (l : Launch) (e : Env) (s : State) (m : MethodId) (below : List Frame) (meth : Method) (c : Code) (G : ss_G) (this : Option Nat) (a1 : Int32) (h : ss_Hp) (rr : Int32) (H : Heap) (locs : List Loc) (k n : Nat) (g : JFrame) : Prop := W p l e (headSpec (ss_w yy_M_isClosed bb_M_isClosed 2 (some .boolean)) ({ frames := 0, cells := 0, slots := 0, locals := 0 })).room s m ([ss_v (ss_b G) this, .int a1] : List Value).toArray below meth c H locs k n (MQ below (ss_Qc G (some (.int rr)) h) ([ss_v (ss_b G) this, .int a1] : List Value).toArray s 0 0 (ss_A G)) g
theorem ck_M_isClosed {N : Nat} {this : Option Nat} {a1 : Int32} {h : ss_Hp} {res : Int32} (hm : mm_M_isClosed N this a1 h = some res) : ss_is h this 12 = true := (ss_chk hm).1
set_option maxHeartbeats 4000000 in
set_option maxRecDepth 100000 in
theorem cc_M_isClosed (l : Launch) (G : ss_G) (N : Nat) (this : Option Nat) (a1 : Int32) (h : ss_Hp) (rr : Int32) (hm : mm_M_isClosed N this a1 h = some rr) : ss_Ct l G yy_M_isClosed bb_M_isClosed 2 (some .boolean) ({ frames := 0, cells := 0, slots := 0, locals := 0 }) [ss_v (ss_b G) this, .int a1] h (some (.int rr)) h := by
  obtain ⟨hck, hm⟩ := ss_chk hm
  refine Met.ofW (cc := bb_M_isClosed) (maxL := 2) (ret := (some .boolean)) (by decide) rfl ?_
  intro p e s m args below meth c s₁ B hml hv
  obtain ⟨rfl, hR, hK⟩ := hv
  have hC : CallFix p m c bb_M_isClosed 2 s _ lw_g sR_12 := ⟨B.exec, B.bytes, hml, findClass_of_methodNamed B.named, fun w hw => atoms_spec (ws := ss_w yy_M_isClosed bb_M_isClosed 2 (some .boolean)) B.pre w (List.mem_cons_of_mem _ hw)⟩
  have hx := hC.1
  have hb := hC.2.1
  have hr := B.returns
  have hlocks := B.notSynchronized
  have hS : va_S (ss_A G) s.heap s.heap [] := va_S.rf
  have hl := lv_entry ([ss_v (ss_b G) this, .int a1]) (n := 2) (by simp [lg_sl, ss_v_cat, ss_cat_i, ss_cat_l, ss_cat_r])
  rw [lg_entry_eq]
  generalize (lg_sl ([ss_v (ss_b G) this, .int a1]) ++ List.replicate (2 - (lg_sl ([ss_v (ss_b G) this, .int a1])).length) Slot.unset).toArray = ls at hl ⊢
  have hl : lv_has ls 2 [(0, ss_v (ss_b G) this), (1, .int a1)] := by simpa [lv_args, ss_v_cat, ss_cat_i, ss_cat_l, ss_cat_r] using hl
  have J_23 : ∀ (s0_23 : Int32) (H : Heap) (locs : List Loc) (ls : Array Slot), mm_M_isClosed_j23 N this a1 h s0_23 = some rr → ss_R G h H → va_S (ss_A G) s.heap H locs → lv_has ls 2 [] → ww_M_isClosed p l e s m below meth c G this a1 h rr  H locs 0 0 (F0 m 23 ls [.int s0_23]) := by
    intro s0_23 H locs ls hm hR hS hl
    obtain ⟨v1, qv1, hm⟩ := ss_bind hm
    obtain ⟨hnb, rfl⟩ := ss_bzs qv1
    exact ss_zret hC hr hnb hlocks hR hS (ss_with _ hm) dd_M_isClosed_23
  refine ss_aload_n hx hb dd_M_isClosed_0 rfl (lv_at hl 0 rfl) ?_
  obtain ⟨r2, qr2, hm⟩ := ss_bind hm
  refine ss_getr hC hK hR kf_M_39 rfl qr2 dd_M_isClosed_1 ?_
  refine lv_bipush (v := 14) hx hb dd_M_isClosed_4 (by decide) ?_
  refine lv_iload_n hx hb dd_M_isClosed_6 rfl (lv_at hl 1 rfl) ?_
  refine lv_iadd hx hb dd_M_isClosed_7 ?_
  obtain ⟨v3, qv3, hm⟩ := ss_bind hm
  refine ss_iald hC hK hR qv3 dd_M_isClosed_8 ?_
  refine ss_aload_n hx hb dd_M_isClosed_9 rfl (lv_at hl 0 rfl) ?_
  obtain ⟨r4, qr4, hm⟩ := ss_bind hm
  refine ss_getr hC hK hR kf_M_39 rfl qr4 dd_M_isClosed_10 ?_
  refine lv_iconst (v := 1) hx hb dd_M_isClosed_13 (by decide) ?_
  obtain ⟨v5, qv5, hm⟩ := ss_bind hm
  refine ss_iald hC hK hR qv5 dd_M_isClosed_14 ?_
  refine lv_icmp_lt (tgt := 22) hx hb dd_M_isClosed_15 (by decide) (fun c6 => ?_) (fun c6 => ?_)
  · have hm := ss_ift hm c6
    refine lv_iconst (v := 0) hx hb dd_M_isClosed_22 (by decide) ?_
    exact J_23 (0 : Int32)  _ _ _ hm hR hS (lv_sub hl [] rfl)
  · have hm := ss_iff hm c6
    refine lv_iconst (v := 1) hx hb dd_M_isClosed_18 (by decide) ?_
    refine lv_goto (tgt := 23) hx hb dd_M_isClosed_19 (by decide) ?_
    exact J_23 (1 : Int32)  _ _ _ hm hR hS (lv_sub hl [] rfl)
theorem dd_M_isOf_0 : decode bb_M_isOf 0 = .ok (.iload_n 0, 1) := by decide +kernel
theorem dd_M_isOf_1 : decode bb_M_isOf 1 = .ok (.iload_n 1, 1) := by decide +kernel
theorem dd_M_isOf_2 : decode bb_M_isOf 2 = .ok (.ishr, 1) := by decide +kernel
theorem dd_M_isOf_3 : decode bb_M_isOf 3 = .ok (.iconst 1, 1) := by decide +kernel
theorem dd_M_isOf_4 : decode bb_M_isOf 4 = .ok (.iand, 1) := by decide +kernel
theorem dd_M_isOf_5 : decode bb_M_isOf 5 = .ok (.iconst 1, 1) := by decide +kernel
theorem dd_M_isOf_6 : decode bb_M_isOf 6 = .ok (.if_icmp .ne 7, 3) := by decide +kernel
theorem dd_M_isOf_9 : decode bb_M_isOf 9 = .ok (.iconst 1, 1) := by decide +kernel
theorem dd_M_isOf_10 : decode bb_M_isOf 10 = .ok (.goto 4, 3) := by decide +kernel
theorem dd_M_isOf_13 : decode bb_M_isOf 13 = .ok (.iconst 0, 1) := by decide +kernel
theorem dd_M_isOf_14 : decode bb_M_isOf 14 = .ok (.ireturn, 1) := by decide +kernel
def mm_M_isOf_j14 (N : Nat) (a1 : Int32) (a2 : Int32) (s0_14 : Int32) : Option Int32 :=
  (ss_bz s0_14).bind fun v1 =>
  some v1
def mm_M_isOf (N : Nat) (a1 : Int32) (a2 : Int32) : Option Int32 :=
  if ((a1 >>> (a2 &&& 31)) &&& (1 : Int32)) = (1 : Int32) then
    mm_M_isOf_j14 N a1 a2 (1 : Int32)
  else
    mm_M_isOf_j14 N a1 a2 (0 : Int32)
abbrev ww_M_isOf (p : Program) (l : Launch) (e : Env) (s : State) (m : MethodId) (below : List Frame) (meth : Method) (c : Code) (G : ss_G) (a1 : Int32) (a2 : Int32) (h : ss_Hp) (rr : Int32) (H : Heap) (locs : List Loc) (k n : Nat) (g : JFrame) : Prop := W p l e (headSpec (ss_w yy_M_isOf bb_M_isOf 2 (some .boolean)) ({ frames := 0, cells := 0, slots := 0, locals := 0 })).room s m ([.int a1, .int a2] : List Value).toArray below meth c H locs k n (MQ below (ss_Qc G (some (.int rr)) h) ([.int a1, .int a2] : List Value).toArray s 0 0 (ss_A G)) g
set_option maxHeartbeats 4000000 in
set_option maxRecDepth 100000 in
theorem cc_M_isOf (l : Launch) (G : ss_G) (N : Nat) (a1 : Int32) (a2 : Int32) (h : ss_Hp) (rr : Int32) (hm : mm_M_isOf N a1 a2 = some rr) : ss_Ct l G yy_M_isOf bb_M_isOf 2 (some .boolean) ({ frames := 0, cells := 0, slots := 0, locals := 0 }) [.int a1, .int a2] h (some (.int rr)) h := by
  refine Met.ofW (cc := bb_M_isOf) (maxL := 2) (ret := (some .boolean)) (by decide) rfl ?_
  intro p e s m args below meth c s₁ B hml hv
  obtain ⟨rfl, hR, hK⟩ := hv
  have hC : CallFix p m c bb_M_isOf 2 s _ lw_g sR_12 := ⟨B.exec, B.bytes, hml, findClass_of_methodNamed B.named, fun w hw => atoms_spec (ws := ss_w yy_M_isOf bb_M_isOf 2 (some .boolean)) B.pre w (List.mem_cons_of_mem _ hw)⟩
  have hx := hC.1
  have hb := hC.2.1
  have hr := B.returns
  have hlocks := B.notSynchronized
  have hS : va_S (ss_A G) s.heap s.heap [] := va_S.rf
  have hl := lv_entry ([.int a1, .int a2]) (n := 2) (Nat.le_of_ble_eq_true rfl)
  rw [lg_entry_eq]
  generalize (lg_sl ([.int a1, .int a2]) ++ List.replicate (2 - (lg_sl ([.int a1, .int a2])).length) Slot.unset).toArray = ls at hl ⊢
  have hl : lv_has ls 2 [(0, .int a1), (1, .int a2)] := hl
  have J_14 : ∀ (s0_14 : Int32) (H : Heap) (locs : List Loc) (ls : Array Slot), mm_M_isOf_j14 N a1 a2 s0_14 = some rr → ss_R G h H → va_S (ss_A G) s.heap H locs → lv_has ls 2 [] → ww_M_isOf p l e s m below meth c G a1 a2 h rr  H locs 0 0 (F0 m 14 ls [.int s0_14]) := by
    intro s0_14 H locs ls hm hR hS hl
    obtain ⟨v1, qv1, hm⟩ := ss_bind hm
    obtain ⟨hnb, rfl⟩ := ss_bzs qv1
    exact ss_zret hC hr hnb hlocks hR hS (ss_with _ hm) dd_M_isOf_14
  refine lv_iload_n hx hb dd_M_isOf_0 rfl (lv_at hl 0 rfl) ?_
  refine lv_iload_n hx hb dd_M_isOf_1 rfl (lv_at hl 1 rfl) ?_
  refine lv_ishr hx hb dd_M_isOf_2 ?_
  refine lv_iconst (v := 1) hx hb dd_M_isOf_3 (by decide) ?_
  refine lv_iand hx hb dd_M_isOf_4 ?_
  refine lv_iconst (v := 1) hx hb dd_M_isOf_5 (by decide) ?_
  refine lv_icmp_ne (tgt := 13) hx hb dd_M_isOf_6 (by decide) (fun c2 => ?_) (fun c2 => ?_)
  · have hm := ss_iff hm c2
    refine lv_iconst (v := 0) hx hb dd_M_isOf_13 (by decide) ?_
    exact J_14 (0 : Int32)  _ _ _ hm hR hS (lv_sub hl [] rfl)
  · have hm := ss_ift hm c2
    refine lv_iconst (v := 1) hx hb dd_M_isOf_9 (by decide) ?_
    refine lv_goto (tgt := 14) hx hb dd_M_isOf_10 (by decide) ?_
    exact J_14 (1 : Int32)  _ _ _ hm hR hS (lv_sub hl [] rfl)
