theorem dd_M_areStepsHere_0 : decode bb_M_areStepsHere 0 = .ok (.aload_n 0, 1) := by decide +kernel
theorem dd_M_areStepsHere_1 : decode bb_M_areStepsHere 1 = .ok (.invokevirtual 111, 3) := by decide +kernel
theorem dd_M_areStepsHere_4 : decode bb_M_areStepsHere 4 = .ok (.aload_n 0, 1) := by decide +kernel
theorem dd_M_areStepsHere_5 : decode bb_M_areStepsHere 5 = .ok (.iconst 0, 1) := by decide +kernel
theorem dd_M_areStepsHere_6 : decode bb_M_areStepsHere 6 = .ok (.aload_n 0, 1) := by decide +kernel
theorem dd_M_areStepsHere_7 : decode bb_M_areStepsHere 7 = .ok (.getfield 26, 3) := by decide +kernel
theorem dd_M_areStepsHere_10 : decode bb_M_areStepsHere 10 = .ok (.iconst 2, 1) := by decide +kernel
theorem dd_M_areStepsHere_11 : decode bb_M_areStepsHere 11 = .ok (.iaload, 1) := by decide +kernel
theorem dd_M_areStepsHere_12 : decode bb_M_areStepsHere 12 = .ok (.iconst 1, 1) := by decide +kernel
theorem dd_M_areStepsHere_13 : decode bb_M_areStepsHere 13 = .ok (.isub, 1) := by decide +kernel
theorem dd_M_areStepsHere_14 : decode bb_M_areStepsHere 14 = .ok (.invokevirtual 173, 3) := by decide +kernel
theorem dd_M_areStepsHere_17 : decode bb_M_areStepsHere 17 = .ok (.ifCond .ne 5, 3) := by decide +kernel
theorem dd_M_areStepsHere_20 : decode bb_M_areStepsHere 20 = .ok (.iconst 0, 1) := by decide +kernel
theorem dd_M_areStepsHere_21 : decode bb_M_areStepsHere 21 = .ok (.ireturn, 1) := by decide +kernel
theorem dd_M_areStepsHere_22 : decode bb_M_areStepsHere 22 = .ok (.aload_n 0, 1) := by decide +kernel
theorem dd_M_areStepsHere_23 : decode bb_M_areStepsHere 23 = .ok (.aload_n 0, 1) := by decide +kernel
theorem dd_M_areStepsHere_24 : decode bb_M_areStepsHere 24 = .ok (.getfield 121, 3) := by decide +kernel
theorem dd_M_areStepsHere_27 : decode bb_M_areStepsHere 27 = .ok (.putfield 228, 3) := by decide +kernel
theorem dd_M_areStepsHere_30 : decode bb_M_areStepsHere 30 = .ok (.aload_n 0, 1) := by decide +kernel
theorem dd_M_areStepsHere_31 : decode bb_M_areStepsHere 31 = .ok (.invokevirtual 99, 3) := by decide +kernel
theorem dd_M_areStepsHere_34 : decode bb_M_areStepsHere 34 = .ok (.pop, 1) := by decide +kernel
theorem dd_M_areStepsHere_35 : decode bb_M_areStepsHere 35 = .ok (.aload_n 0, 1) := by decide +kernel
theorem dd_M_areStepsHere_36 : decode bb_M_areStepsHere 36 = .ok (.getfield 96, 3) := by decide +kernel
theorem dd_M_areStepsHere_39 : decode bb_M_areStepsHere 39 = .ok (.istore_n 1, 1) := by decide +kernel
theorem dd_M_areStepsHere_40 : decode bb_M_areStepsHere 40 = .ok (.aload_n 0, 1) := by decide +kernel
theorem dd_M_areStepsHere_41 : decode bb_M_areStepsHere 41 = .ok (.iconst 0, 1) := by decide +kernel
theorem dd_M_areStepsHere_42 : decode bb_M_areStepsHere 42 = .ok (.aload_n 0, 1) := by decide +kernel
theorem dd_M_areStepsHere_43 : decode bb_M_areStepsHere 43 = .ok (.getfield 26, 3) := by decide +kernel
theorem dd_M_areStepsHere_46 : decode bb_M_areStepsHere 46 = .ok (.iconst 2, 1) := by decide +kernel
theorem dd_M_areStepsHere_47 : decode bb_M_areStepsHere 47 = .ok (.iaload, 1) := by decide +kernel
theorem dd_M_areStepsHere_48 : decode bb_M_areStepsHere 48 = .ok (.iconst 1, 1) := by decide +kernel
theorem dd_M_areStepsHere_49 : decode bb_M_areStepsHere 49 = .ok (.isub, 1) := by decide +kernel
theorem dd_M_areStepsHere_50 : decode bb_M_areStepsHere 50 = .ok (.invokevirtual 173, 3) := by decide +kernel
theorem dd_M_areStepsHere_53 : decode bb_M_areStepsHere 53 = .ok (.ifCond .ne 5, 3) := by decide +kernel
theorem dd_M_areStepsHere_56 : decode bb_M_areStepsHere 56 = .ok (.iconst 0, 1) := by decide +kernel
theorem dd_M_areStepsHere_57 : decode bb_M_areStepsHere 57 = .ok (.ireturn, 1) := by decide +kernel
theorem dd_M_areStepsHere_58 : decode bb_M_areStepsHere 58 = .ok (.aload_n 0, 1) := by decide +kernel
theorem dd_M_areStepsHere_59 : decode bb_M_areStepsHere 59 = .ok (.aload_n 0, 1) := by decide +kernel
theorem dd_M_areStepsHere_60 : decode bb_M_areStepsHere 60 = .ok (.getfield 121, 3) := by decide +kernel
theorem dd_M_areStepsHere_63 : decode bb_M_areStepsHere 63 = .ok (.putfield 231, 3) := by decide +kernel
theorem dd_M_areStepsHere_66 : decode bb_M_areStepsHere 66 = .ok (.aload_n 0, 1) := by decide +kernel
theorem dd_M_areStepsHere_67 : decode bb_M_areStepsHere 67 = .ok (.getfield 228, 3) := by decide +kernel
theorem dd_M_areStepsHere_70 : decode bb_M_areStepsHere 70 = .ok (.aload_n 0, 1) := by decide +kernel
theorem dd_M_areStepsHere_71 : decode bb_M_areStepsHere 71 = .ok (.getfield 231, 3) := by decide +kernel
theorem dd_M_areStepsHere_74 : decode bb_M_areStepsHere 74 = .ok (.if_icmp .ne 12, 3) := by decide +kernel
theorem dd_M_areStepsHere_77 : decode bb_M_areStepsHere 77 = .ok (.aload_n 0, 1) := by decide +kernel
theorem dd_M_areStepsHere_78 : decode bb_M_areStepsHere 78 = .ok (.iconst 1, 1) := by decide +kernel
theorem dd_M_areStepsHere_79 : decode bb_M_areStepsHere 79 = .ok (.iload_n 1, 1) := by decide +kernel
theorem dd_M_areStepsHere_80 : decode bb_M_areStepsHere 80 = .ok (.invokevirtual 117, 3) := by decide +kernel
theorem dd_M_areStepsHere_83 : decode bb_M_areStepsHere 83 = .ok (.ifCond .eq 7, 3) := by decide +kernel
theorem dd_M_areStepsHere_86 : decode bb_M_areStepsHere 86 = .ok (.iconst 1, 1) := by decide +kernel
theorem dd_M_areStepsHere_87 : decode bb_M_areStepsHere 87 = .ok (.goto 4, 3) := by decide +kernel
theorem dd_M_areStepsHere_90 : decode bb_M_areStepsHere 90 = .ok (.iconst 0, 1) := by decide +kernel
theorem dd_M_areStepsHere_91 : decode bb_M_areStepsHere 91 = .ok (.ireturn, 1) := by decide +kernel
def mm_M_areStepsHere_j91 (N : Nat) (this : Option Nat) (s0_91 : Int32) (h_91 : ss_Hp) : Option (Int32 × ss_Hp) :=
  (ss_bz s0_91).bind fun v1 =>
  some (v1, h_91)
def mm_M_areStepsHere_j86 (N : Nat) (this : Option Nat) (h_86 : ss_Hp) : Option (Int32 × ss_Hp) :=
  mm_M_areStepsHere_j91 N this (1 : Int32) h_86
def mm_M_areStepsHere (N : Nat) (this : Option Nat) (h : ss_Hp) : Option (Int32 × ss_Hp) :=
  if ss_is h this 12 = true then
    (mm_M_passWord N this h).bind fun h2 =>
    (ss_gr h2 this 12 5).bind fun r3 =>
    (ss_ai h2 r3 20 (2 : Int32)).bind fun v4 =>
    ss_b2 (mm_M_numberHere N this (0 : Int32) (v4 - (1 : Int32)) h2) fun v5 h6 =>
    if v5 = 0 then
      some ((0 : Int32), h6)
    else
      (ss_gi h6 this 12 4).bind fun v8 =>
      (ss_pi h6 this 12 10 v8).bind fun h9 =>
      ss_b2 (mm_M_see N this h9) fun v10 h11 =>
      (ss_gi h11 this 12 2).bind fun v12 =>
      (ss_gr h11 this 12 5).bind fun r13 =>
      (ss_ai h11 r13 20 (2 : Int32)).bind fun v14 =>
      ss_b2 (mm_M_numberHere N this (0 : Int32) (v14 - (1 : Int32)) h11) fun v15 h16 =>
      if v15 = 0 then
        some ((0 : Int32), h16)
      else
        (ss_gi h16 this 12 4).bind fun v18 =>
        (ss_pi h16 this 12 11 v18).bind fun h19 =>
        (ss_gi h19 this 12 10).bind fun v20 =>
        (ss_gi h19 this 12 11).bind fun v21 =>
        if v20 = v21 then
          ss_b2 (mm_M_fails N this (1 : Int32) v12 h19) fun v23 h24 =>
          if v23 = 0 then
            mm_M_areStepsHere_j91 N this (0 : Int32) h24
          else
            mm_M_areStepsHere_j86 N this h24
        else
          mm_M_areStepsHere_j86 N this h19
  else none
abbrev ww_M_areStepsHere (p : Program) (l : Launch) (e : Env) (s : State) (m : MethodId) (below : List Frame) (meth : Method) (c : Code) (G : ss_G) (this : Option Nat) (h : ss_Hp) (rr : Int32) (hh : ss_Hp) (H : Heap) (locs : List Loc) (k n : Nat) (g : JFrame) : Prop := W p l e (headSpec (ss_w yy_M_areStepsHere bb_M_areStepsHere 2 (some .boolean)) ({ frames := 2, cells := 0, slots := 0, locals := 49 })).room s m ([ss_v (ss_b G) this] : List Value).toArray below meth c H locs k n (MQ below (ss_Qc G (some (.int rr)) hh) ([ss_v (ss_b G) this] : List Value).toArray s 0 0 (ss_A G)) g
theorem ck_M_areStepsHere {N : Nat} {this : Option Nat} {h : ss_Hp} {res : Int32 × ss_Hp} (hm : mm_M_areStepsHere N this h = some res) : ss_is h this 12 = true := (ss_chk hm).1
set_option maxHeartbeats 4000000 in
set_option maxRecDepth 100000 in
theorem cc_M_areStepsHere (l : Launch) (G : ss_G) (N : Nat) (this : Option Nat) (h : ss_Hp) (rr : Int32) (hh : ss_Hp) (hm : mm_M_areStepsHere N this h = some (rr, hh)) : ss_Ct l G yy_M_areStepsHere bb_M_areStepsHere 2 (some .boolean) ({ frames := 2, cells := 0, slots := 0, locals := 49 }) [ss_v (ss_b G) this] h (some (.int rr)) hh := by
  obtain ⟨hck, hm⟩ := ss_chk hm
  refine Met.ofW (cc := bb_M_areStepsHere) (maxL := 2) (ret := (some .boolean)) (by decide) rfl ?_
  intro p e s m args below meth c s₁ B hml hv
  obtain ⟨rfl, hR, hK⟩ := hv
  have hC : CallFix p m c bb_M_areStepsHere 2 s _ lw_g sR_12 := ⟨B.exec, B.bytes, hml, findClass_of_methodNamed B.named, fun w hw => atoms_spec (ws := ss_w yy_M_areStepsHere bb_M_areStepsHere 2 (some .boolean)) B.pre w (List.mem_cons_of_mem _ hw)⟩
  have hx := hC.1
  have hb := hC.2.1
  have hr := B.returns
  have hlocks := B.notSynchronized
  have hS : va_S (ss_A G) s.heap s.heap [] := va_S.rf
  have hl := lv_entry ([ss_v (ss_b G) this]) (n := 2) (by simp [lg_sl, ss_v_cat, ss_cat_i, ss_cat_l, ss_cat_r])
  rw [lg_entry_eq]
  generalize (lg_sl ([ss_v (ss_b G) this]) ++ List.replicate (2 - (lg_sl ([ss_v (ss_b G) this])).length) Slot.unset).toArray = ls at hl ⊢
  have hl : lv_has ls 2 [(0, ss_v (ss_b G) this)] := by simpa [lv_args, ss_v_cat, ss_cat_i, ss_cat_l, ss_cat_r] using hl
  have J_91 : ∀ (s0_91 : Int32) (h_91 : ss_Hp) (H : Heap) (locs : List Loc) (ls : Array Slot), mm_M_areStepsHere_j91 N this s0_91 h_91 = some (rr, hh) → ss_R G h_91 H → va_S (ss_A G) s.heap H locs → lv_has ls 2 [] → ww_M_areStepsHere p l e s m below meth c G this h rr hh  H locs 0 0 (F0 m 91 ls [.int s0_91]) := by
    intro s0_91 h_91 H locs ls hm hR hS hl
    obtain ⟨v1, qv1, hm⟩ := ss_bind hm
    obtain ⟨hnb, rfl⟩ := ss_bzs qv1
    exact ss_zret hC hr hnb hlocks hR hS hm dd_M_areStepsHere_91
  have J_86 : ∀ (h_86 : ss_Hp) (H : Heap) (locs : List Loc) (ls : Array Slot), mm_M_areStepsHere_j86 N this h_86 = some (rr, hh) → ss_R G h_86 H → va_S (ss_A G) s.heap H locs → lv_has ls 2 [] → ww_M_areStepsHere p l e s m below meth c G this h rr hh  H locs 0 0 (F0 m 86 ls []) := by
    intro h_86 H locs ls hm hR hS hl
    refine lv_iconst (v := 1) hx hb dd_M_areStepsHere_86 (by decide) ?_
    refine lv_goto (tgt := 91) hx hb dd_M_areStepsHere_87 (by decide) ?_
    exact J_91 (1 : Int32) h_86 _ _ _ hm hR hS hl
  refine ss_aload_n hx hb dd_M_areStepsHere_0 rfl (lv_at hl 0 rfl) ?_
  obtain ⟨h2, qh2, hm⟩ := ss_bind hm
  refine ss_cVv 0 0 (As := []) hC hK hR hS hl.1 (cc_M_passWord l G N _ _ _ qh2) km_M_111 (ck_M_passWord qh2) ⟨Nat.le_of_ble_eq_true rfl, Nat.le_of_ble_eq_true rfl⟩ ⟨Nat.le_of_ble_eq_true rfl, Nat.le_of_ble_eq_true rfl, Nat.le_of_ble_eq_true rfl, Nat.le_of_ble_eq_true rfl⟩ rfl rfl (Nat.le_of_ble_eq_true rfl) dd_M_areStepsHere_1 (fun H locs hR hS => ?_)
  refine ss_aload_n hx hb dd_M_areStepsHere_4 rfl (lv_at hl 0 rfl) ?_
  refine lv_iconst (v := 0) hx hb dd_M_areStepsHere_5 (by decide) ?_
  refine ss_aload_n hx hb dd_M_areStepsHere_6 rfl (lv_at hl 0 rfl) ?_
  obtain ⟨r3, qr3, hm⟩ := ss_bind hm
  refine ss_getr hC hK hR kf_M_26 rfl qr3 dd_M_areStepsHere_7 ?_
  refine lv_iconst (v := 2) hx hb dd_M_areStepsHere_10 (by decide) ?_
  obtain ⟨v4, qv4, hm⟩ := ss_bind hm
  refine ss_iald hC hK hR qv4 dd_M_areStepsHere_11 ?_
  refine lv_iconst (v := 1) hx hb dd_M_areStepsHere_12 (by decide) ?_
  refine lv_isub hx hb dd_M_areStepsHere_13 ?_
  obtain ⟨v5, h6, qh6, hm⟩ := ss_bind2 hm
  refine ss_cV 0 0 (As := [.int (0 : Int32), .int (v4 - (1 : Int32))]) hC hK hR hS hl.1 (cc_M_numberHere l G N _ _ _ _ _ _ qh6) km_M_173 (ck_M_numberHere qh6) ⟨Nat.le_of_ble_eq_true rfl, Nat.le_of_ble_eq_true rfl⟩ ⟨Nat.le_of_ble_eq_true rfl, Nat.le_of_ble_eq_true rfl, Nat.le_of_ble_eq_true rfl, Nat.le_of_ble_eq_true rfl⟩ rfl rfl (Nat.le_of_ble_eq_true rfl) dd_M_areStepsHere_14 (fun H locs hR hS => ?_)
  refine lv_if_ne (tgt := 22) hx hb dd_M_areStepsHere_17 (by decide) (fun c7 => ?_) (fun c7 => ?_)
  · have hm := ss_iff hm c7
    refine ss_aload_n hx hb dd_M_areStepsHere_22 rfl (lv_at hl 0 rfl) ?_
    refine ss_aload_n hx hb dd_M_areStepsHere_23 rfl (lv_at hl 0 rfl) ?_
    obtain ⟨v8, qv8, hm⟩ := ss_bind hm
    refine ss_geti hC hK hR kf_M_121 qv8 dd_M_areStepsHere_24 ?_
    obtain ⟨h9, qh9, hm⟩ := ss_bind hm
    refine ss_puti hC hK hR hS kp_M_228 qh9 dd_M_areStepsHere_27 (fun H locs hR hS => ?_)
    refine ss_aload_n hx hb dd_M_areStepsHere_30 rfl (lv_at hl 0 rfl) ?_
    obtain ⟨v10, h11, qh11, hm⟩ := ss_bind2 hm
    refine ss_cV 0 0 (As := []) hC hK hR hS hl.1 (cc_M_see l G N _ _ _ _ qh11) km_M_99 (ck_M_see qh11) ⟨Nat.le_of_ble_eq_true rfl, Nat.le_of_ble_eq_true rfl⟩ ⟨Nat.le_of_ble_eq_true rfl, Nat.le_of_ble_eq_true rfl, Nat.le_of_ble_eq_true rfl, Nat.le_of_ble_eq_true rfl⟩ rfl rfl (Nat.le_of_ble_eq_true rfl) dd_M_areStepsHere_31 (fun H locs hR hS => ?_)
    refine lv_pop hx hb dd_M_areStepsHere_34 rfl ?_
    refine ss_aload_n hx hb dd_M_areStepsHere_35 rfl (lv_at hl 0 rfl) ?_
    obtain ⟨v12, qv12, hm⟩ := ss_bind hm
    refine ss_geti hC hK hR kf_M_96 qv12 dd_M_areStepsHere_36 ?_
    refine lv_istore_n (lv' := [(1, .int v12), (0, ss_v (ss_b G) this)]) hx hb dd_M_areStepsHere_39 rfl hl (by decide) (by simp only [List.filter_cons, ss_v_cat]; rfl) (fun ls hl => ?_)
    refine ss_aload_n hx hb dd_M_areStepsHere_40 rfl (lv_at hl 1 rfl) ?_
    refine lv_iconst (v := 0) hx hb dd_M_areStepsHere_41 (by decide) ?_
    refine ss_aload_n hx hb dd_M_areStepsHere_42 rfl (lv_at hl 1 rfl) ?_
    obtain ⟨r13, qr13, hm⟩ := ss_bind hm
    refine ss_getr hC hK hR kf_M_26 rfl qr13 dd_M_areStepsHere_43 ?_
    refine lv_iconst (v := 2) hx hb dd_M_areStepsHere_46 (by decide) ?_
    obtain ⟨v14, qv14, hm⟩ := ss_bind hm
    refine ss_iald hC hK hR qv14 dd_M_areStepsHere_47 ?_
    refine lv_iconst (v := 1) hx hb dd_M_areStepsHere_48 (by decide) ?_
    refine lv_isub hx hb dd_M_areStepsHere_49 ?_
    obtain ⟨v15, h16, qh16, hm⟩ := ss_bind2 hm
    refine ss_cV 0 0 (As := [.int (0 : Int32), .int (v14 - (1 : Int32))]) hC hK hR hS hl.1 (cc_M_numberHere l G N _ _ _ _ _ _ qh16) km_M_173 (ck_M_numberHere qh16) ⟨Nat.le_of_ble_eq_true rfl, Nat.le_of_ble_eq_true rfl⟩ ⟨Nat.le_of_ble_eq_true rfl, Nat.le_of_ble_eq_true rfl, Nat.le_of_ble_eq_true rfl, Nat.le_of_ble_eq_true rfl⟩ rfl rfl (Nat.le_of_ble_eq_true rfl) dd_M_areStepsHere_50 (fun H locs hR hS => ?_)
    refine lv_if_ne (tgt := 58) hx hb dd_M_areStepsHere_53 (by decide) (fun c17 => ?_) (fun c17 => ?_)
    · have hm := ss_iff hm c17
      refine ss_aload_n hx hb dd_M_areStepsHere_58 rfl (lv_at hl 1 rfl) ?_
      refine ss_aload_n hx hb dd_M_areStepsHere_59 rfl (lv_at hl 1 rfl) ?_
      obtain ⟨v18, qv18, hm⟩ := ss_bind hm
      refine ss_geti hC hK hR kf_M_121 qv18 dd_M_areStepsHere_60 ?_
      obtain ⟨h19, qh19, hm⟩ := ss_bind hm
      refine ss_puti hC hK hR hS kp_M_231 qh19 dd_M_areStepsHere_63 (fun H locs hR hS => ?_)
      refine ss_aload_n hx hb dd_M_areStepsHere_66 rfl (lv_at hl 1 rfl) ?_
      obtain ⟨v20, qv20, hm⟩ := ss_bind hm
      refine ss_geti hC hK hR kf_M_228 qv20 dd_M_areStepsHere_67 ?_
      refine ss_aload_n hx hb dd_M_areStepsHere_70 rfl (lv_at hl 1 rfl) ?_
      obtain ⟨v21, qv21, hm⟩ := ss_bind hm
      refine ss_geti hC hK hR kf_M_231 qv21 dd_M_areStepsHere_71 ?_
      refine lv_icmp_ne (tgt := 86) hx hb dd_M_areStepsHere_74 (by decide) (fun c22 => ?_) (fun c22 => ?_)
      · have hm := ss_iff hm c22
        exact J_86 h19 _ _ _ hm hR hS (lv_sub hl [] rfl)
      · have hm := ss_ift hm c22
        refine ss_aload_n hx hb dd_M_areStepsHere_77 rfl (lv_at hl 1 rfl) ?_
        refine lv_iconst (v := 1) hx hb dd_M_areStepsHere_78 (by decide) ?_
        refine lv_iload_n hx hb dd_M_areStepsHere_79 rfl (lv_at hl 0 rfl) ?_
        obtain ⟨v23, h24, qh24, hm⟩ := ss_bind2 hm
        refine ss_cV 0 0 (As := [.int (1 : Int32), .int v12]) hC hK hR hS hl.1 (cc_M_fails l G N _ _ _ _ _ _ qh24) km_M_117 (ck_M_fails qh24) ⟨Nat.le_of_ble_eq_true rfl, Nat.le_of_ble_eq_true rfl⟩ ⟨Nat.le_of_ble_eq_true rfl, Nat.le_of_ble_eq_true rfl, Nat.le_of_ble_eq_true rfl, Nat.le_of_ble_eq_true rfl⟩ rfl rfl (Nat.le_of_ble_eq_true rfl) dd_M_areStepsHere_80 (fun H locs hR hS => ?_)
        refine lv_if_eq (tgt := 90) hx hb dd_M_areStepsHere_83 (by decide) (fun c25 => ?_) (fun c25 => ?_)
        · have hm := ss_ift hm c25
          refine lv_iconst (v := 0) hx hb dd_M_areStepsHere_90 (by decide) ?_
          exact J_91 (0 : Int32) h24 _ _ _ hm hR hS (lv_sub hl [] rfl)
        · have hm := ss_iff hm c25
          exact J_86 h24 _ _ _ hm hR hS (lv_sub hl [] rfl)
    · have hm := ss_ift hm c17
      refine lv_iconst (v := 0) hx hb dd_M_areStepsHere_56 (by decide) ?_
      exact ss_zret hC hr (by decide) hlocks hR hS hm dd_M_areStepsHere_57
  · have hm := ss_ift hm c7
    refine lv_iconst (v := 0) hx hb dd_M_areStepsHere_20 (by decide) ?_
    exact ss_zret hC hr (by decide) hlocks hR hS hm dd_M_areStepsHere_21
theorem dd_M_isPathHere_0 : decode bb_M_isPathHere 0 = .ok (.aload_n 0, 1) := by decide +kernel
theorem dd_M_isPathHere_1 : decode bb_M_isPathHere 1 = .ok (.invokevirtual 234, 3) := by decide +kernel
theorem dd_M_isPathHere_4 : decode bb_M_isPathHere 4 = .ok (.ifCond .ne 5, 3) := by decide +kernel
theorem dd_M_isPathHere_7 : decode bb_M_isPathHere 7 = .ok (.iconst 0, 1) := by decide +kernel
theorem dd_M_isPathHere_8 : decode bb_M_isPathHere 8 = .ok (.ireturn, 1) := by decide +kernel
theorem dd_M_isPathHere_9 : decode bb_M_isPathHere 9 = .ok (.aload_n 0, 1) := by decide +kernel
theorem dd_M_isPathHere_10 : decode bb_M_isPathHere 10 = .ok (.getfield 26, 3) := by decide +kernel
theorem dd_M_isPathHere_13 : decode bb_M_isPathHere 13 = .ok (.bipush 30, 2) := by decide +kernel
theorem dd_M_isPathHere_15 : decode bb_M_isPathHere 15 = .ok (.aload_n 0, 1) := by decide +kernel
theorem dd_M_isPathHere_16 : decode bb_M_isPathHere 16 = .ok (.getfield 228, 3) := by decide +kernel
theorem dd_M_isPathHere_19 : decode bb_M_isPathHere 19 = .ok (.iadd, 1) := by decide +kernel
theorem dd_M_isPathHere_20 : decode bb_M_isPathHere 20 = .ok (.dup2, 1) := by decide +kernel
theorem dd_M_isPathHere_21 : decode bb_M_isPathHere 21 = .ok (.iaload, 1) := by decide +kernel
theorem dd_M_isPathHere_22 : decode bb_M_isPathHere 22 = .ok (.iconst 1, 1) := by decide +kernel
theorem dd_M_isPathHere_23 : decode bb_M_isPathHere 23 = .ok (.aload_n 0, 1) := by decide +kernel
theorem dd_M_isPathHere_24 : decode bb_M_isPathHere 24 = .ok (.getfield 231, 3) := by decide +kernel
theorem dd_M_isPathHere_27 : decode bb_M_isPathHere 27 = .ok (.ishl, 1) := by decide +kernel
theorem dd_M_isPathHere_28 : decode bb_M_isPathHere 28 = .ok (.ior, 1) := by decide +kernel
theorem dd_M_isPathHere_29 : decode bb_M_isPathHere 29 = .ok (.iastore, 1) := by decide +kernel
theorem dd_M_isPathHere_30 : decode bb_M_isPathHere 30 = .ok (.aload_n 0, 1) := by decide +kernel
theorem dd_M_isPathHere_31 : decode bb_M_isPathHere 31 = .ok (.getfield 26, 3) := by decide +kernel
theorem dd_M_isPathHere_34 : decode bb_M_isPathHere 34 = .ok (.bipush 30, 2) := by decide +kernel
theorem dd_M_isPathHere_36 : decode bb_M_isPathHere 36 = .ok (.aload_n 0, 1) := by decide +kernel
theorem dd_M_isPathHere_37 : decode bb_M_isPathHere 37 = .ok (.getfield 231, 3) := by decide +kernel
theorem dd_M_isPathHere_40 : decode bb_M_isPathHere 40 = .ok (.iadd, 1) := by decide +kernel
theorem dd_M_isPathHere_41 : decode bb_M_isPathHere 41 = .ok (.dup2, 1) := by decide +kernel
theorem dd_M_isPathHere_42 : decode bb_M_isPathHere 42 = .ok (.iaload, 1) := by decide +kernel
theorem dd_M_isPathHere_43 : decode bb_M_isPathHere 43 = .ok (.iconst 1, 1) := by decide +kernel
theorem dd_M_isPathHere_44 : decode bb_M_isPathHere 44 = .ok (.aload_n 0, 1) := by decide +kernel
theorem dd_M_isPathHere_45 : decode bb_M_isPathHere 45 = .ok (.getfield 228, 3) := by decide +kernel
theorem dd_M_isPathHere_48 : decode bb_M_isPathHere 48 = .ok (.ishl, 1) := by decide +kernel
theorem dd_M_isPathHere_49 : decode bb_M_isPathHere 49 = .ok (.ior, 1) := by decide +kernel
theorem dd_M_isPathHere_50 : decode bb_M_isPathHere 50 = .ok (.iastore, 1) := by decide +kernel
theorem dd_M_isPathHere_51 : decode bb_M_isPathHere 51 = .ok (.iconst 1, 1) := by decide +kernel
theorem dd_M_isPathHere_52 : decode bb_M_isPathHere 52 = .ok (.ireturn, 1) := by decide +kernel
def mm_M_isPathHere (N : Nat) (this : Option Nat) (h : ss_Hp) : Option (Int32 × ss_Hp) :=
  if ss_is h this 12 = true then
    ss_b2 (mm_M_areStepsHere N this h) fun v1 h2 =>
    if v1 = 0 then
      some ((0 : Int32), h2)
    else
      (ss_gr h2 this 12 5).bind fun r4 =>
      (ss_gi h2 this 12 10).bind fun v5 =>
      (some ((30 : Int32) + v5)).bind fun v6 =>
      (ss_ai h2 r4 20 v6).bind fun v7 =>
      (ss_gi h2 this 12 11).bind fun v8 =>
      (ss_ui h2 r4 20 v6 (v7 ||| ((1 : Int32) <<< (v8 &&& 31)))).bind fun h9 =>
      (ss_gr h9 this 12 5).bind fun r10 =>
      (ss_gi h9 this 12 11).bind fun v11 =>
      (some ((30 : Int32) + v11)).bind fun v12 =>
      (ss_ai h9 r10 20 v12).bind fun v13 =>
      (ss_gi h9 this 12 10).bind fun v14 =>
      (ss_ui h9 r10 20 v12 (v13 ||| ((1 : Int32) <<< (v14 &&& 31)))).bind fun h15 =>
      some ((1 : Int32), h15)
  else none
abbrev ww_M_isPathHere (p : Program) (l : Launch) (e : Env) (s : State) (m : MethodId) (below : List Frame) (meth : Method) (c : Code) (G : ss_G) (this : Option Nat) (h : ss_Hp) (rr : Int32) (hh : ss_Hp) (H : Heap) (locs : List Loc) (k n : Nat) (g : JFrame) : Prop := W p l e (headSpec (ss_w yy_M_isPathHere bb_M_isPathHere 1 (some .boolean)) ({ frames := 3, cells := 0, slots := 0, locals := 70 })).room s m ([ss_v (ss_b G) this] : List Value).toArray below meth c H locs k n (MQ below (ss_Qc G (some (.int rr)) hh) ([ss_v (ss_b G) this] : List Value).toArray s 0 0 (ss_A G)) g
theorem ck_M_isPathHere {N : Nat} {this : Option Nat} {h : ss_Hp} {res : Int32 × ss_Hp} (hm : mm_M_isPathHere N this h = some res) : ss_is h this 12 = true := (ss_chk hm).1
set_option maxHeartbeats 4000000 in
set_option maxRecDepth 100000 in
theorem cc_M_isPathHere (l : Launch) (G : ss_G) (N : Nat) (this : Option Nat) (h : ss_Hp) (rr : Int32) (hh : ss_Hp) (hm : mm_M_isPathHere N this h = some (rr, hh)) : ss_Ct l G yy_M_isPathHere bb_M_isPathHere 1 (some .boolean) ({ frames := 3, cells := 0, slots := 0, locals := 70 }) [ss_v (ss_b G) this] h (some (.int rr)) hh := by
  obtain ⟨hck, hm⟩ := ss_chk hm
  refine Met.ofW (cc := bb_M_isPathHere) (maxL := 1) (ret := (some .boolean)) (by decide) rfl ?_
  intro p e s m args below meth c s₁ B hml hv
  obtain ⟨rfl, hR, hK⟩ := hv
  have hC : CallFix p m c bb_M_isPathHere 1 s _ lw_g sR_12 := ⟨B.exec, B.bytes, hml, findClass_of_methodNamed B.named, fun w hw => atoms_spec (ws := ss_w yy_M_isPathHere bb_M_isPathHere 1 (some .boolean)) B.pre w (List.mem_cons_of_mem _ hw)⟩
  have hx := hC.1
  have hb := hC.2.1
  have hr := B.returns
  have hlocks := B.notSynchronized
  have hS : va_S (ss_A G) s.heap s.heap [] := va_S.rf
  have hl := lv_entry ([ss_v (ss_b G) this]) (n := 1) (by simp [lg_sl, ss_v_cat, ss_cat_i, ss_cat_l, ss_cat_r])
  rw [lg_entry_eq]
  generalize (lg_sl ([ss_v (ss_b G) this]) ++ List.replicate (1 - (lg_sl ([ss_v (ss_b G) this])).length) Slot.unset).toArray = ls at hl ⊢
  have hl : lv_has ls 1 [(0, ss_v (ss_b G) this)] := by simpa [lv_args, ss_v_cat, ss_cat_i, ss_cat_l, ss_cat_r] using hl
  refine ss_aload_n hx hb dd_M_isPathHere_0 rfl (lv_at hl 0 rfl) ?_
  obtain ⟨v1, h2, qh2, hm⟩ := ss_bind2 hm
  refine ss_cV 0 0 (As := []) hC hK hR hS hl.1 (cc_M_areStepsHere l G N _ _ _ _ qh2) km_M_234 (ck_M_areStepsHere qh2) ⟨Nat.le_of_ble_eq_true rfl, Nat.le_of_ble_eq_true rfl⟩ ⟨Nat.le_of_ble_eq_true rfl, Nat.le_of_ble_eq_true rfl, Nat.le_of_ble_eq_true rfl, Nat.le_of_ble_eq_true rfl⟩ rfl rfl (Nat.le_of_ble_eq_true rfl) dd_M_isPathHere_1 (fun H locs hR hS => ?_)
  refine lv_if_ne (tgt := 9) hx hb dd_M_isPathHere_4 (by decide) (fun c3 => ?_) (fun c3 => ?_)
  · have hm := ss_iff hm c3
    refine ss_aload_n hx hb dd_M_isPathHere_9 rfl (lv_at hl 0 rfl) ?_
    obtain ⟨r4, qr4, hm⟩ := ss_bind hm
    refine ss_getr hC hK hR kf_M_26 rfl qr4 dd_M_isPathHere_10 ?_
    refine lv_bipush (v := 30) hx hb dd_M_isPathHere_13 (by decide) ?_
    refine ss_aload_n hx hb dd_M_isPathHere_15 rfl (lv_at hl 0 rfl) ?_
    obtain ⟨v5, qv5, hm⟩ := ss_bind hm
    refine ss_geti hC hK hR kf_M_228 qv5 dd_M_isPathHere_16 ?_
    refine lv_iadd hx hb dd_M_isPathHere_19 ?_
    obtain ⟨v6, qv6, hm⟩ := ss_bind hm
    refine ss_topi qv6 ?_
    refine ss_dup2ir hx hb dd_M_isPathHere_20 ?_
    obtain ⟨v7, qv7, hm⟩ := ss_bind hm
    refine ss_iald hC hK hR qv7 dd_M_isPathHere_21 ?_
    refine lv_iconst (v := 1) hx hb dd_M_isPathHere_22 (by decide) ?_
    refine ss_aload_n hx hb dd_M_isPathHere_23 rfl (lv_at hl 0 rfl) ?_
    obtain ⟨v8, qv8, hm⟩ := ss_bind hm
    refine ss_geti hC hK hR kf_M_231 qv8 dd_M_isPathHere_24 ?_
    refine lv_ishl hx hb dd_M_isPathHere_27 ?_
    refine lv_ior hx hb dd_M_isPathHere_28 ?_
    obtain ⟨h9, qh9, hm⟩ := ss_bind hm
    refine ss_iast hC hK hR hS qh9 dd_M_isPathHere_29 (fun H locs hR hS => ?_)
    refine ss_aload_n hx hb dd_M_isPathHere_30 rfl (lv_at hl 0 rfl) ?_
    obtain ⟨r10, qr10, hm⟩ := ss_bind hm
    refine ss_getr hC hK hR kf_M_26 rfl qr10 dd_M_isPathHere_31 ?_
    refine lv_bipush (v := 30) hx hb dd_M_isPathHere_34 (by decide) ?_
    refine ss_aload_n hx hb dd_M_isPathHere_36 rfl (lv_at hl 0 rfl) ?_
    obtain ⟨v11, qv11, hm⟩ := ss_bind hm
    refine ss_geti hC hK hR kf_M_231 qv11 dd_M_isPathHere_37 ?_
    refine lv_iadd hx hb dd_M_isPathHere_40 ?_
    obtain ⟨v12, qv12, hm⟩ := ss_bind hm
    refine ss_topi qv12 ?_
    refine ss_dup2ir hx hb dd_M_isPathHere_41 ?_
    obtain ⟨v13, qv13, hm⟩ := ss_bind hm
    refine ss_iald hC hK hR qv13 dd_M_isPathHere_42 ?_
    refine lv_iconst (v := 1) hx hb dd_M_isPathHere_43 (by decide) ?_
    refine ss_aload_n hx hb dd_M_isPathHere_44 rfl (lv_at hl 0 rfl) ?_
    obtain ⟨v14, qv14, hm⟩ := ss_bind hm
    refine ss_geti hC hK hR kf_M_228 qv14 dd_M_isPathHere_45 ?_
    refine lv_ishl hx hb dd_M_isPathHere_48 ?_
    refine lv_ior hx hb dd_M_isPathHere_49 ?_
    obtain ⟨h15, qh15, hm⟩ := ss_bind hm
    refine ss_iast hC hK hR hS qh15 dd_M_isPathHere_50 (fun H locs hR hS => ?_)
    refine lv_iconst (v := 1) hx hb dd_M_isPathHere_51 (by decide) ?_
    exact ss_zret hC hr (by decide) hlocks hR hS hm dd_M_isPathHere_52
  · have hm := ss_ift hm c3
    refine lv_iconst (v := 0) hx hb dd_M_isPathHere_7 (by decide) ?_
    exact ss_zret hC hr (by decide) hlocks hR hS hm dd_M_isPathHere_8
theorem dd_M_isWallHere_0 : decode bb_M_isWallHere 0 = .ok (.aload_n 0, 1) := by decide +kernel
theorem dd_M_isWallHere_1 : decode bb_M_isWallHere 1 = .ok (.invokevirtual 234, 3) := by decide +kernel
theorem dd_M_isWallHere_4 : decode bb_M_isWallHere 4 = .ok (.ifCond .ne 5, 3) := by decide +kernel
theorem dd_M_isWallHere_7 : decode bb_M_isWallHere 7 = .ok (.iconst 0, 1) := by decide +kernel
theorem dd_M_isWallHere_8 : decode bb_M_isWallHere 8 = .ok (.ireturn, 1) := by decide +kernel
theorem dd_M_isWallHere_9 : decode bb_M_isWallHere 9 = .ok (.aload_n 0, 1) := by decide +kernel
theorem dd_M_isWallHere_10 : decode bb_M_isWallHere 10 = .ok (.getfield 26, 3) := by decide +kernel
theorem dd_M_isWallHere_13 : decode bb_M_isWallHere 13 = .ok (.bipush 54, 2) := by decide +kernel
theorem dd_M_isWallHere_15 : decode bb_M_isWallHere 15 = .ok (.aload_n 0, 1) := by decide +kernel
theorem dd_M_isWallHere_16 : decode bb_M_isWallHere 16 = .ok (.getfield 228, 3) := by decide +kernel
theorem dd_M_isWallHere_19 : decode bb_M_isWallHere 19 = .ok (.iadd, 1) := by decide +kernel
theorem dd_M_isWallHere_20 : decode bb_M_isWallHere 20 = .ok (.aload_n 0, 1) := by decide +kernel
theorem dd_M_isWallHere_21 : decode bb_M_isWallHere 21 = .ok (.getfield 231, 3) := by decide +kernel
theorem dd_M_isWallHere_24 : decode bb_M_isWallHere 24 = .ok (.iastore, 1) := by decide +kernel
theorem dd_M_isWallHere_25 : decode bb_M_isWallHere 25 = .ok (.iconst 1, 1) := by decide +kernel
theorem dd_M_isWallHere_26 : decode bb_M_isWallHere 26 = .ok (.ireturn, 1) := by decide +kernel
def mm_M_isWallHere (N : Nat) (this : Option Nat) (h : ss_Hp) : Option (Int32 × ss_Hp) :=
  if ss_is h this 12 = true then
    ss_b2 (mm_M_areStepsHere N this h) fun v1 h2 =>
    if v1 = 0 then
      some ((0 : Int32), h2)
    else
      (ss_gr h2 this 12 5).bind fun r4 =>
      (ss_gi h2 this 12 10).bind fun v5 =>
      (ss_gi h2 this 12 11).bind fun v6 =>
      (ss_ui h2 r4 20 ((54 : Int32) + v5) v6).bind fun h7 =>
      some ((1 : Int32), h7)
  else none
abbrev ww_M_isWallHere (p : Program) (l : Launch) (e : Env) (s : State) (m : MethodId) (below : List Frame) (meth : Method) (c : Code) (G : ss_G) (this : Option Nat) (h : ss_Hp) (rr : Int32) (hh : ss_Hp) (H : Heap) (locs : List Loc) (k n : Nat) (g : JFrame) : Prop := W p l e (headSpec (ss_w yy_M_isWallHere bb_M_isWallHere 1 (some .boolean)) ({ frames := 3, cells := 0, slots := 0, locals := 70 })).room s m ([ss_v (ss_b G) this] : List Value).toArray below meth c H locs k n (MQ below (ss_Qc G (some (.int rr)) hh) ([ss_v (ss_b G) this] : List Value).toArray s 0 0 (ss_A G)) g
theorem ck_M_isWallHere {N : Nat} {this : Option Nat} {h : ss_Hp} {res : Int32 × ss_Hp} (hm : mm_M_isWallHere N this h = some res) : ss_is h this 12 = true := (ss_chk hm).1
set_option maxHeartbeats 4000000 in
set_option maxRecDepth 100000 in
theorem cc_M_isWallHere (l : Launch) (G : ss_G) (N : Nat) (this : Option Nat) (h : ss_Hp) (rr : Int32) (hh : ss_Hp) (hm : mm_M_isWallHere N this h = some (rr, hh)) : ss_Ct l G yy_M_isWallHere bb_M_isWallHere 1 (some .boolean) ({ frames := 3, cells := 0, slots := 0, locals := 70 }) [ss_v (ss_b G) this] h (some (.int rr)) hh := by
  obtain ⟨hck, hm⟩ := ss_chk hm
  refine Met.ofW (cc := bb_M_isWallHere) (maxL := 1) (ret := (some .boolean)) (by decide) rfl ?_
  intro p e s m args below meth c s₁ B hml hv
  obtain ⟨rfl, hR, hK⟩ := hv
  have hC : CallFix p m c bb_M_isWallHere 1 s _ lw_g sR_12 := ⟨B.exec, B.bytes, hml, findClass_of_methodNamed B.named, fun w hw => atoms_spec (ws := ss_w yy_M_isWallHere bb_M_isWallHere 1 (some .boolean)) B.pre w (List.mem_cons_of_mem _ hw)⟩
  have hx := hC.1
  have hb := hC.2.1
  have hr := B.returns
  have hlocks := B.notSynchronized
  have hS : va_S (ss_A G) s.heap s.heap [] := va_S.rf
  have hl := lv_entry ([ss_v (ss_b G) this]) (n := 1) (by simp [lg_sl, ss_v_cat, ss_cat_i, ss_cat_l, ss_cat_r])
  rw [lg_entry_eq]
  generalize (lg_sl ([ss_v (ss_b G) this]) ++ List.replicate (1 - (lg_sl ([ss_v (ss_b G) this])).length) Slot.unset).toArray = ls at hl ⊢
  have hl : lv_has ls 1 [(0, ss_v (ss_b G) this)] := by simpa [lv_args, ss_v_cat, ss_cat_i, ss_cat_l, ss_cat_r] using hl
  refine ss_aload_n hx hb dd_M_isWallHere_0 rfl (lv_at hl 0 rfl) ?_
  obtain ⟨v1, h2, qh2, hm⟩ := ss_bind2 hm
  refine ss_cV 0 0 (As := []) hC hK hR hS hl.1 (cc_M_areStepsHere l G N _ _ _ _ qh2) km_M_234 (ck_M_areStepsHere qh2) ⟨Nat.le_of_ble_eq_true rfl, Nat.le_of_ble_eq_true rfl⟩ ⟨Nat.le_of_ble_eq_true rfl, Nat.le_of_ble_eq_true rfl, Nat.le_of_ble_eq_true rfl, Nat.le_of_ble_eq_true rfl⟩ rfl rfl (Nat.le_of_ble_eq_true rfl) dd_M_isWallHere_1 (fun H locs hR hS => ?_)
  refine lv_if_ne (tgt := 9) hx hb dd_M_isWallHere_4 (by decide) (fun c3 => ?_) (fun c3 => ?_)
  · have hm := ss_iff hm c3
    refine ss_aload_n hx hb dd_M_isWallHere_9 rfl (lv_at hl 0 rfl) ?_
    obtain ⟨r4, qr4, hm⟩ := ss_bind hm
    refine ss_getr hC hK hR kf_M_26 rfl qr4 dd_M_isWallHere_10 ?_
    refine lv_bipush (v := 54) hx hb dd_M_isWallHere_13 (by decide) ?_
    refine ss_aload_n hx hb dd_M_isWallHere_15 rfl (lv_at hl 0 rfl) ?_
    obtain ⟨v5, qv5, hm⟩ := ss_bind hm
    refine ss_geti hC hK hR kf_M_228 qv5 dd_M_isWallHere_16 ?_
    refine lv_iadd hx hb dd_M_isWallHere_19 ?_
    refine ss_aload_n hx hb dd_M_isWallHere_20 rfl (lv_at hl 0 rfl) ?_
    obtain ⟨v6, qv6, hm⟩ := ss_bind hm
    refine ss_geti hC hK hR kf_M_231 qv6 dd_M_isWallHere_21 ?_
    obtain ⟨h7, qh7, hm⟩ := ss_bind hm
    refine ss_iast hC hK hR hS qh7 dd_M_isWallHere_24 (fun H locs hR hS => ?_)
    refine lv_iconst (v := 1) hx hb dd_M_isWallHere_25 (by decide) ?_
    exact ss_zret hC hr (by decide) hlocks hR hS hm dd_M_isWallHere_26
  · have hm := ss_ift hm c3
    refine lv_iconst (v := 0) hx hb dd_M_isWallHere_7 (by decide) ?_
    exact ss_zret hC hr (by decide) hlocks hR hS hm dd_M_isWallHere_8
theorem dd_M_isNeedHere_0 : decode bb_M_isNeedHere 0 = .ok (.aload_n 0, 1) := by decide +kernel
theorem dd_M_isNeedHere_1 : decode bb_M_isNeedHere 1 = .ok (.invokevirtual 111, 3) := by decide +kernel
theorem dd_M_isNeedHere_4 : decode bb_M_isNeedHere 4 = .ok (.aload_n 0, 1) := by decide +kernel
theorem dd_M_isNeedHere_5 : decode bb_M_isNeedHere 5 = .ok (.iconst 0, 1) := by decide +kernel
theorem dd_M_isNeedHere_6 : decode bb_M_isNeedHere 6 = .ok (.bipush 30, 2) := by decide +kernel
theorem dd_M_isNeedHere_8 : decode bb_M_isNeedHere 8 = .ok (.invokevirtual 173, 3) := by decide +kernel
theorem dd_M_isNeedHere_11 : decode bb_M_isNeedHere 11 = .ok (.ifCond .ne 5, 3) := by decide +kernel
theorem dd_M_isNeedHere_14 : decode bb_M_isNeedHere 14 = .ok (.iconst 0, 1) := by decide +kernel
theorem dd_M_isNeedHere_15 : decode bb_M_isNeedHere 15 = .ok (.ireturn, 1) := by decide +kernel
theorem dd_M_isNeedHere_16 : decode bb_M_isNeedHere 16 = .ok (.aload_n 0, 1) := by decide +kernel
theorem dd_M_isNeedHere_17 : decode bb_M_isNeedHere 17 = .ok (.getfield 121, 3) := by decide +kernel
theorem dd_M_isNeedHere_20 : decode bb_M_isNeedHere 20 = .ok (.istore_n 1, 1) := by decide +kernel
theorem dd_M_isNeedHere_21 : decode bb_M_isNeedHere 21 = .ok (.aload_n 0, 1) := by decide +kernel
theorem dd_M_isNeedHere_22 : decode bb_M_isNeedHere 22 = .ok (.iconst 0, 1) := by decide +kernel
theorem dd_M_isNeedHere_23 : decode bb_M_isNeedHere 23 = .ok (.aload_n 0, 1) := by decide +kernel
theorem dd_M_isNeedHere_24 : decode bb_M_isNeedHere 24 = .ok (.getfield 26, 3) := by decide +kernel
theorem dd_M_isNeedHere_27 : decode bb_M_isNeedHere 27 = .ok (.iconst 2, 1) := by decide +kernel
theorem dd_M_isNeedHere_28 : decode bb_M_isNeedHere 28 = .ok (.iaload, 1) := by decide +kernel
theorem dd_M_isNeedHere_29 : decode bb_M_isNeedHere 29 = .ok (.iconst 1, 1) := by decide +kernel
theorem dd_M_isNeedHere_30 : decode bb_M_isNeedHere 30 = .ok (.isub, 1) := by decide +kernel
theorem dd_M_isNeedHere_31 : decode bb_M_isNeedHere 31 = .ok (.invokevirtual 173, 3) := by decide +kernel
theorem dd_M_isNeedHere_34 : decode bb_M_isNeedHere 34 = .ok (.ifCond .ne 5, 3) := by decide +kernel
theorem dd_M_isNeedHere_37 : decode bb_M_isNeedHere 37 = .ok (.iconst 0, 1) := by decide +kernel
theorem dd_M_isNeedHere_38 : decode bb_M_isNeedHere 38 = .ok (.ireturn, 1) := by decide +kernel
theorem dd_M_isNeedHere_39 : decode bb_M_isNeedHere 39 = .ok (.aload_n 0, 1) := by decide +kernel
theorem dd_M_isNeedHere_40 : decode bb_M_isNeedHere 40 = .ok (.getfield 26, 3) := by decide +kernel
theorem dd_M_isNeedHere_43 : decode bb_M_isNeedHere 43 = .ok (.bipush 62, 2) := by decide +kernel
theorem dd_M_isNeedHere_45 : decode bb_M_isNeedHere 45 = .ok (.iload_n 1, 1) := by decide +kernel
theorem dd_M_isNeedHere_46 : decode bb_M_isNeedHere 46 = .ok (.iadd, 1) := by decide +kernel
theorem dd_M_isNeedHere_47 : decode bb_M_isNeedHere 47 = .ok (.dup2, 1) := by decide +kernel
theorem dd_M_isNeedHere_48 : decode bb_M_isNeedHere 48 = .ok (.iaload, 1) := by decide +kernel
theorem dd_M_isNeedHere_49 : decode bb_M_isNeedHere 49 = .ok (.iconst 1, 1) := by decide +kernel
theorem dd_M_isNeedHere_50 : decode bb_M_isNeedHere 50 = .ok (.aload_n 0, 1) := by decide +kernel
theorem dd_M_isNeedHere_51 : decode bb_M_isNeedHere 51 = .ok (.getfield 121, 3) := by decide +kernel
theorem dd_M_isNeedHere_54 : decode bb_M_isNeedHere 54 = .ok (.ishl, 1) := by decide +kernel
theorem dd_M_isNeedHere_55 : decode bb_M_isNeedHere 55 = .ok (.ior, 1) := by decide +kernel
theorem dd_M_isNeedHere_56 : decode bb_M_isNeedHere 56 = .ok (.iastore, 1) := by decide +kernel
theorem dd_M_isNeedHere_57 : decode bb_M_isNeedHere 57 = .ok (.iconst 1, 1) := by decide +kernel
theorem dd_M_isNeedHere_58 : decode bb_M_isNeedHere 58 = .ok (.ireturn, 1) := by decide +kernel
def mm_M_isNeedHere (N : Nat) (this : Option Nat) (h : ss_Hp) : Option (Int32 × ss_Hp) :=
  if ss_is h this 12 = true then
    (mm_M_passWord N this h).bind fun h1 =>
    ss_b2 (mm_M_numberHere N this (0 : Int32) (30 : Int32) h1) fun v2 h3 =>
    if v2 = 0 then
      some ((0 : Int32), h3)
    else
      (ss_gi h3 this 12 4).bind fun v5 =>
      (ss_gr h3 this 12 5).bind fun r6 =>
      (ss_ai h3 r6 20 (2 : Int32)).bind fun v7 =>
      ss_b2 (mm_M_numberHere N this (0 : Int32) (v7 - (1 : Int32)) h3) fun v8 h9 =>
      if v8 = 0 then
        some ((0 : Int32), h9)
      else
        (ss_gr h9 this 12 5).bind fun r11 =>
        (some ((62 : Int32) + v5)).bind fun v12 =>
        (ss_ai h9 r11 20 v12).bind fun v13 =>
        (ss_gi h9 this 12 4).bind fun v14 =>
        (ss_ui h9 r11 20 v12 (v13 ||| ((1 : Int32) <<< (v14 &&& 31)))).bind fun h15 =>
        some ((1 : Int32), h15)
  else none
abbrev ww_M_isNeedHere (p : Program) (l : Launch) (e : Env) (s : State) (m : MethodId) (below : List Frame) (meth : Method) (c : Code) (G : ss_G) (this : Option Nat) (h : ss_Hp) (rr : Int32) (hh : ss_Hp) (H : Heap) (locs : List Loc) (k n : Nat) (g : JFrame) : Prop := W p l e (headSpec (ss_w yy_M_isNeedHere bb_M_isNeedHere 2 (some .boolean)) ({ frames := 2, cells := 0, slots := 0, locals := 49 })).room s m ([ss_v (ss_b G) this] : List Value).toArray below meth c H locs k n (MQ below (ss_Qc G (some (.int rr)) hh) ([ss_v (ss_b G) this] : List Value).toArray s 0 0 (ss_A G)) g
theorem ck_M_isNeedHere {N : Nat} {this : Option Nat} {h : ss_Hp} {res : Int32 × ss_Hp} (hm : mm_M_isNeedHere N this h = some res) : ss_is h this 12 = true := (ss_chk hm).1
set_option maxHeartbeats 4000000 in
set_option maxRecDepth 100000 in
theorem cc_M_isNeedHere (l : Launch) (G : ss_G) (N : Nat) (this : Option Nat) (h : ss_Hp) (rr : Int32) (hh : ss_Hp) (hm : mm_M_isNeedHere N this h = some (rr, hh)) : ss_Ct l G yy_M_isNeedHere bb_M_isNeedHere 2 (some .boolean) ({ frames := 2, cells := 0, slots := 0, locals := 49 }) [ss_v (ss_b G) this] h (some (.int rr)) hh := by
  obtain ⟨hck, hm⟩ := ss_chk hm
  refine Met.ofW (cc := bb_M_isNeedHere) (maxL := 2) (ret := (some .boolean)) (by decide) rfl ?_
  intro p e s m args below meth c s₁ B hml hv
  obtain ⟨rfl, hR, hK⟩ := hv
  have hC : CallFix p m c bb_M_isNeedHere 2 s _ lw_g sR_12 := ⟨B.exec, B.bytes, hml, findClass_of_methodNamed B.named, fun w hw => atoms_spec (ws := ss_w yy_M_isNeedHere bb_M_isNeedHere 2 (some .boolean)) B.pre w (List.mem_cons_of_mem _ hw)⟩
  have hx := hC.1
  have hb := hC.2.1
  have hr := B.returns
  have hlocks := B.notSynchronized
  have hS : va_S (ss_A G) s.heap s.heap [] := va_S.rf
  have hl := lv_entry ([ss_v (ss_b G) this]) (n := 2) (by simp [lg_sl, ss_v_cat, ss_cat_i, ss_cat_l, ss_cat_r])
  rw [lg_entry_eq]
  generalize (lg_sl ([ss_v (ss_b G) this]) ++ List.replicate (2 - (lg_sl ([ss_v (ss_b G) this])).length) Slot.unset).toArray = ls at hl ⊢
  have hl : lv_has ls 2 [(0, ss_v (ss_b G) this)] := by simpa [lv_args, ss_v_cat, ss_cat_i, ss_cat_l, ss_cat_r] using hl
  refine ss_aload_n hx hb dd_M_isNeedHere_0 rfl (lv_at hl 0 rfl) ?_
  obtain ⟨h1, qh1, hm⟩ := ss_bind hm
  refine ss_cVv 0 0 (As := []) hC hK hR hS hl.1 (cc_M_passWord l G N _ _ _ qh1) km_M_111 (ck_M_passWord qh1) ⟨Nat.le_of_ble_eq_true rfl, Nat.le_of_ble_eq_true rfl⟩ ⟨Nat.le_of_ble_eq_true rfl, Nat.le_of_ble_eq_true rfl, Nat.le_of_ble_eq_true rfl, Nat.le_of_ble_eq_true rfl⟩ rfl rfl (Nat.le_of_ble_eq_true rfl) dd_M_isNeedHere_1 (fun H locs hR hS => ?_)
  refine ss_aload_n hx hb dd_M_isNeedHere_4 rfl (lv_at hl 0 rfl) ?_
  refine lv_iconst (v := 0) hx hb dd_M_isNeedHere_5 (by decide) ?_
  refine lv_bipush (v := 30) hx hb dd_M_isNeedHere_6 (by decide) ?_
  obtain ⟨v2, h3, qh3, hm⟩ := ss_bind2 hm
  refine ss_cV 0 0 (As := [.int (0 : Int32), .int (30 : Int32)]) hC hK hR hS hl.1 (cc_M_numberHere l G N _ _ _ _ _ _ qh3) km_M_173 (ck_M_numberHere qh3) ⟨Nat.le_of_ble_eq_true rfl, Nat.le_of_ble_eq_true rfl⟩ ⟨Nat.le_of_ble_eq_true rfl, Nat.le_of_ble_eq_true rfl, Nat.le_of_ble_eq_true rfl, Nat.le_of_ble_eq_true rfl⟩ rfl rfl (Nat.le_of_ble_eq_true rfl) dd_M_isNeedHere_8 (fun H locs hR hS => ?_)
  refine lv_if_ne (tgt := 16) hx hb dd_M_isNeedHere_11 (by decide) (fun c4 => ?_) (fun c4 => ?_)
  · have hm := ss_iff hm c4
    refine ss_aload_n hx hb dd_M_isNeedHere_16 rfl (lv_at hl 0 rfl) ?_
    obtain ⟨v5, qv5, hm⟩ := ss_bind hm
    refine ss_geti hC hK hR kf_M_121 qv5 dd_M_isNeedHere_17 ?_
    refine lv_istore_n (lv' := [(1, .int v5), (0, ss_v (ss_b G) this)]) hx hb dd_M_isNeedHere_20 rfl hl (by decide) (by simp only [List.filter_cons, ss_v_cat]; rfl) (fun ls hl => ?_)
    refine ss_aload_n hx hb dd_M_isNeedHere_21 rfl (lv_at hl 1 rfl) ?_
    refine lv_iconst (v := 0) hx hb dd_M_isNeedHere_22 (by decide) ?_
    refine ss_aload_n hx hb dd_M_isNeedHere_23 rfl (lv_at hl 1 rfl) ?_
    obtain ⟨r6, qr6, hm⟩ := ss_bind hm
    refine ss_getr hC hK hR kf_M_26 rfl qr6 dd_M_isNeedHere_24 ?_
    refine lv_iconst (v := 2) hx hb dd_M_isNeedHere_27 (by decide) ?_
    obtain ⟨v7, qv7, hm⟩ := ss_bind hm
    refine ss_iald hC hK hR qv7 dd_M_isNeedHere_28 ?_
    refine lv_iconst (v := 1) hx hb dd_M_isNeedHere_29 (by decide) ?_
    refine lv_isub hx hb dd_M_isNeedHere_30 ?_
    obtain ⟨v8, h9, qh9, hm⟩ := ss_bind2 hm
    refine ss_cV 0 0 (As := [.int (0 : Int32), .int (v7 - (1 : Int32))]) hC hK hR hS hl.1 (cc_M_numberHere l G N _ _ _ _ _ _ qh9) km_M_173 (ck_M_numberHere qh9) ⟨Nat.le_of_ble_eq_true rfl, Nat.le_of_ble_eq_true rfl⟩ ⟨Nat.le_of_ble_eq_true rfl, Nat.le_of_ble_eq_true rfl, Nat.le_of_ble_eq_true rfl, Nat.le_of_ble_eq_true rfl⟩ rfl rfl (Nat.le_of_ble_eq_true rfl) dd_M_isNeedHere_31 (fun H locs hR hS => ?_)
    refine lv_if_ne (tgt := 39) hx hb dd_M_isNeedHere_34 (by decide) (fun c10 => ?_) (fun c10 => ?_)
    · have hm := ss_iff hm c10
      refine ss_aload_n hx hb dd_M_isNeedHere_39 rfl (lv_at hl 1 rfl) ?_
      obtain ⟨r11, qr11, hm⟩ := ss_bind hm
      refine ss_getr hC hK hR kf_M_26 rfl qr11 dd_M_isNeedHere_40 ?_
      refine lv_bipush (v := 62) hx hb dd_M_isNeedHere_43 (by decide) ?_
      refine lv_iload_n hx hb dd_M_isNeedHere_45 rfl (lv_at hl 0 rfl) ?_
      refine lv_iadd hx hb dd_M_isNeedHere_46 ?_
      obtain ⟨v12, qv12, hm⟩ := ss_bind hm
      refine ss_topi qv12 ?_
      refine ss_dup2ir hx hb dd_M_isNeedHere_47 ?_
      obtain ⟨v13, qv13, hm⟩ := ss_bind hm
      refine ss_iald hC hK hR qv13 dd_M_isNeedHere_48 ?_
      refine lv_iconst (v := 1) hx hb dd_M_isNeedHere_49 (by decide) ?_
      refine ss_aload_n hx hb dd_M_isNeedHere_50 rfl (lv_at hl 1 rfl) ?_
      obtain ⟨v14, qv14, hm⟩ := ss_bind hm
      refine ss_geti hC hK hR kf_M_121 qv14 dd_M_isNeedHere_51 ?_
      refine lv_ishl hx hb dd_M_isNeedHere_54 ?_
      refine lv_ior hx hb dd_M_isNeedHere_55 ?_
      obtain ⟨h15, qh15, hm⟩ := ss_bind hm
      refine ss_iast hC hK hR hS qh15 dd_M_isNeedHere_56 (fun H locs hR hS => ?_)
      refine lv_iconst (v := 1) hx hb dd_M_isNeedHere_57 (by decide) ?_
      exact ss_zret hC hr (by decide) hlocks hR hS hm dd_M_isNeedHere_58
    · have hm := ss_ift hm c10
      refine lv_iconst (v := 0) hx hb dd_M_isNeedHere_37 (by decide) ?_
      exact ss_zret hC hr (by decide) hlocks hR hS hm dd_M_isNeedHere_38
  · have hm := ss_ift hm c4
    refine lv_iconst (v := 0) hx hb dd_M_isNeedHere_14 (by decide) ?_
    exact ss_zret hC hr (by decide) hlocks hR hS hm dd_M_isNeedHere_15
theorem dd_M_valleyLineHere_0 : decode bb_M_valleyLineHere 0 = .ok (.aload_n 0, 1) := by decide +kernel
theorem dd_M_valleyLineHere_1 : decode bb_M_valleyLineHere 1 = .ok (.ldc2_w 237, 3) := by decide +kernel
theorem dd_M_valleyLineHere_4 : decode bb_M_valleyLineHere 4 = .ok (.invokevirtual 107, 3) := by decide +kernel
theorem dd_M_valleyLineHere_7 : decode bb_M_valleyLineHere 7 = .ok (.ifCond .eq 9, 3) := by decide +kernel
theorem dd_M_valleyLineHere_10 : decode bb_M_valleyLineHere 10 = .ok (.aload_n 0, 1) := by decide +kernel
theorem dd_M_valleyLineHere_11 : decode bb_M_valleyLineHere 11 = .ok (.iload_n 1, 1) := by decide +kernel
theorem dd_M_valleyLineHere_12 : decode bb_M_valleyLineHere 12 = .ok (.invokevirtual 239, 3) := by decide +kernel
theorem dd_M_valleyLineHere_15 : decode bb_M_valleyLineHere 15 = .ok (.ireturn, 1) := by decide +kernel
theorem dd_M_valleyLineHere_16 : decode bb_M_valleyLineHere 16 = .ok (.aload_n 0, 1) := by decide +kernel
theorem dd_M_valleyLineHere_17 : decode bb_M_valleyLineHere 17 = .ok (.getfield 26, 3) := by decide +kernel
theorem dd_M_valleyLineHere_20 : decode bb_M_valleyLineHere 20 = .ok (.iconst 0, 1) := by decide +kernel
theorem dd_M_valleyLineHere_21 : decode bb_M_valleyLineHere 21 = .ok (.iaload, 1) := by decide +kernel
theorem dd_M_valleyLineHere_22 : decode bb_M_valleyLineHere 22 = .ok (.ifCond .ne 10, 3) := by decide +kernel
theorem dd_M_valleyLineHere_25 : decode bb_M_valleyLineHere 25 = .ok (.aload_n 0, 1) := by decide +kernel
theorem dd_M_valleyLineHere_26 : decode bb_M_valleyLineHere 26 = .ok (.iconst 4, 1) := by decide +kernel
theorem dd_M_valleyLineHere_27 : decode bb_M_valleyLineHere 27 = .ok (.iload_n 1, 1) := by decide +kernel
theorem dd_M_valleyLineHere_28 : decode bb_M_valleyLineHere 28 = .ok (.invokevirtual 117, 3) := by decide +kernel
theorem dd_M_valleyLineHere_31 : decode bb_M_valleyLineHere 31 = .ok (.ireturn, 1) := by decide +kernel
theorem dd_M_valleyLineHere_32 : decode bb_M_valleyLineHere 32 = .ok (.aload_n 0, 1) := by decide +kernel
theorem dd_M_valleyLineHere_33 : decode bb_M_valleyLineHere 33 = .ok (.ldc2_w 130, 3) := by decide +kernel
theorem dd_M_valleyLineHere_36 : decode bb_M_valleyLineHere 36 = .ok (.invokevirtual 107, 3) := by decide +kernel
theorem dd_M_valleyLineHere_39 : decode bb_M_valleyLineHere 39 = .ok (.ifCond .eq 9, 3) := by decide +kernel
theorem dd_M_valleyLineHere_42 : decode bb_M_valleyLineHere 42 = .ok (.aload_n 0, 1) := by decide +kernel
theorem dd_M_valleyLineHere_43 : decode bb_M_valleyLineHere 43 = .ok (.iload_n 1, 1) := by decide +kernel
theorem dd_M_valleyLineHere_44 : decode bb_M_valleyLineHere 44 = .ok (.invokevirtual 242, 3) := by decide +kernel
theorem dd_M_valleyLineHere_47 : decode bb_M_valleyLineHere 47 = .ok (.ireturn, 1) := by decide +kernel
theorem dd_M_valleyLineHere_48 : decode bb_M_valleyLineHere 48 = .ok (.aload_n 0, 1) := by decide +kernel
theorem dd_M_valleyLineHere_49 : decode bb_M_valleyLineHere 49 = .ok (.ldc2_w 128, 3) := by decide +kernel
theorem dd_M_valleyLineHere_52 : decode bb_M_valleyLineHere 52 = .ok (.invokevirtual 107, 3) := by decide +kernel
theorem dd_M_valleyLineHere_55 : decode bb_M_valleyLineHere 55 = .ok (.ifCond .eq 9, 3) := by decide +kernel
theorem dd_M_valleyLineHere_58 : decode bb_M_valleyLineHere 58 = .ok (.aload_n 0, 1) := by decide +kernel
theorem dd_M_valleyLineHere_59 : decode bb_M_valleyLineHere 59 = .ok (.iload_n 1, 1) := by decide +kernel
theorem dd_M_valleyLineHere_60 : decode bb_M_valleyLineHere 60 = .ok (.invokevirtual 245, 3) := by decide +kernel
theorem dd_M_valleyLineHere_63 : decode bb_M_valleyLineHere 63 = .ok (.ireturn, 1) := by decide +kernel
theorem dd_M_valleyLineHere_64 : decode bb_M_valleyLineHere 64 = .ok (.aload_n 0, 1) := by decide +kernel
theorem dd_M_valleyLineHere_65 : decode bb_M_valleyLineHere 65 = .ok (.ldc2_w 248, 3) := by decide +kernel
theorem dd_M_valleyLineHere_68 : decode bb_M_valleyLineHere 68 = .ok (.invokevirtual 107, 3) := by decide +kernel
theorem dd_M_valleyLineHere_71 : decode bb_M_valleyLineHere 71 = .ok (.ifCond .eq 8, 3) := by decide +kernel
theorem dd_M_valleyLineHere_74 : decode bb_M_valleyLineHere 74 = .ok (.aload_n 0, 1) := by decide +kernel
theorem dd_M_valleyLineHere_75 : decode bb_M_valleyLineHere 75 = .ok (.invokevirtual 250, 3) := by decide +kernel
theorem dd_M_valleyLineHere_78 : decode bb_M_valleyLineHere 78 = .ok (.ireturn, 1) := by decide +kernel
theorem dd_M_valleyLineHere_79 : decode bb_M_valleyLineHere 79 = .ok (.aload_n 0, 1) := by decide +kernel
theorem dd_M_valleyLineHere_80 : decode bb_M_valleyLineHere 80 = .ok (.ldc2_w 253, 3) := by decide +kernel
theorem dd_M_valleyLineHere_83 : decode bb_M_valleyLineHere 83 = .ok (.invokevirtual 107, 3) := by decide +kernel
theorem dd_M_valleyLineHere_86 : decode bb_M_valleyLineHere 86 = .ok (.ifCond .eq 10, 3) := by decide +kernel
theorem dd_M_valleyLineHere_89 : decode bb_M_valleyLineHere 89 = .ok (.aload_n 0, 1) := by decide +kernel
theorem dd_M_valleyLineHere_90 : decode bb_M_valleyLineHere 90 = .ok (.invokevirtual 255, 3) := by decide +kernel
theorem dd_M_valleyLineHere_93 : decode bb_M_valleyLineHere 93 = .ok (.goto 7, 3) := by decide +kernel
theorem dd_M_valleyLineHere_96 : decode bb_M_valleyLineHere 96 = .ok (.aload_n 0, 1) := by decide +kernel
theorem dd_M_valleyLineHere_97 : decode bb_M_valleyLineHere 97 = .ok (.invokevirtual 258, 3) := by decide +kernel
theorem dd_M_valleyLineHere_100 : decode bb_M_valleyLineHere 100 = .ok (.ireturn, 1) := by decide +kernel
def mm_M_valleyLineHere_j100 (N : Nat) (this : Option Nat) (a1 : Int32) (s0_100 : Int32) (h_100 : ss_Hp) : Option (Int32 × ss_Hp) :=
  (ss_bz s0_100).bind fun v1 =>
  some (v1, h_100)
def mm_M_valleyLineHere (N : Nat) (this : Option Nat) (a1 : Int32) (h : ss_Hp) : Option (Int32 × ss_Hp) :=
  if ss_is h this 12 = true then
    ss_b2 (mm_M_isWord N this (130160802948473 : Int64) h) fun v2 h3 =>
    if v2 = 0 then
      (ss_gr h3 this 12 5).bind fun r5 =>
      (ss_ai h3 r5 20 (0 : Int32)).bind fun v6 =>
      if v6 = 0 then
        ss_b2 (mm_M_fails N this (4 : Int32) a1 h3) fun v33 h34 =>
        (ss_bz v33).bind fun v35 =>
        some (v35, h34)
      else
        ss_b2 (mm_M_isWord N this (1937007984 : Int64) h3) fun v8 h9 =>
        if v8 = 0 then
          ss_b2 (mm_M_isWord N this (448546567013 : Int64) h9) fun v11 h12 =>
          if v11 = 0 then
            ss_b2 (mm_M_isWord N this (1885434984 : Int64) h12) fun v14 h15 =>
            if v14 = 0 then
              ss_b2 (mm_M_isWord N this (2002873452 : Int64) h15) fun v17 h18 =>
              if v17 = 0 then
                ss_b2 (mm_M_isNeedHere N this h18) fun v20 h21 =>
                mm_M_valleyLineHere_j100 N this a1 v20 h21
              else
                ss_b2 (mm_M_isWallHere N this h18) fun v22 h23 =>
                mm_M_valleyLineHere_j100 N this a1 v22 h23
            else
              ss_b2 (mm_M_isPathHere N this h15) fun v24 h25 =>
              (ss_bz v24).bind fun v26 =>
              some (v26, h25)
          else
            ss_b2 (mm_M_isHouseHere N this a1 h12) fun v27 h28 =>
            (ss_bz v27).bind fun v29 =>
            some (v29, h28)
        else
          ss_b2 (mm_M_isStepHere N this a1 h9) fun v30 h31 =>
          (ss_bz v30).bind fun v32 =>
          some (v32, h31)
    else
      ss_b2 (mm_M_isValleyHere N this a1 h3) fun v36 h37 =>
      (ss_bz v36).bind fun v38 =>
      some (v38, h37)
  else none
abbrev ww_M_valleyLineHere (p : Program) (l : Launch) (e : Env) (s : State) (m : MethodId) (below : List Frame) (meth : Method) (c : Code) (G : ss_G) (this : Option Nat) (a1 : Int32) (h : ss_Hp) (rr : Int32) (hh : ss_Hp) (H : Heap) (locs : List Loc) (k n : Nat) (g : JFrame) : Prop := W p l e (headSpec (ss_w yy_M_valleyLineHere bb_M_valleyLineHere 2 (some .boolean)) ({ frames := 4, cells := 0, slots := 0, locals := 94 })).room s m ([ss_v (ss_b G) this, .int a1] : List Value).toArray below meth c H locs k n (MQ below (ss_Qc G (some (.int rr)) hh) ([ss_v (ss_b G) this, .int a1] : List Value).toArray s 0 0 (ss_A G)) g
theorem ck_M_valleyLineHere {N : Nat} {this : Option Nat} {a1 : Int32} {h : ss_Hp} {res : Int32 × ss_Hp} (hm : mm_M_valleyLineHere N this a1 h = some res) : ss_is h this 12 = true := (ss_chk hm).1
set_option maxHeartbeats 4000000 in
set_option maxRecDepth 100000 in
theorem cc_M_valleyLineHere (l : Launch) (G : ss_G) (N : Nat) (this : Option Nat) (a1 : Int32) (h : ss_Hp) (rr : Int32) (hh : ss_Hp) (hm : mm_M_valleyLineHere N this a1 h = some (rr, hh)) : ss_Ct l G yy_M_valleyLineHere bb_M_valleyLineHere 2 (some .boolean) ({ frames := 4, cells := 0, slots := 0, locals := 94 }) [ss_v (ss_b G) this, .int a1] h (some (.int rr)) hh := by
  obtain ⟨hck, hm⟩ := ss_chk hm
  refine Met.ofW (cc := bb_M_valleyLineHere) (maxL := 2) (ret := (some .boolean)) (by decide) rfl ?_
  intro p e s m args below meth c s₁ B hml hv
  obtain ⟨rfl, hR, hK⟩ := hv
  have hC : CallFix p m c bb_M_valleyLineHere 2 s _ lw_g sR_12 := ⟨B.exec, B.bytes, hml, findClass_of_methodNamed B.named, fun w hw => atoms_spec (ws := ss_w yy_M_valleyLineHere bb_M_valleyLineHere 2 (some .boolean)) B.pre w (List.mem_cons_of_mem _ hw)⟩
  have hx := hC.1
  have hb := hC.2.1
  have hr := B.returns
  have hlocks := B.notSynchronized
  have hS : va_S (ss_A G) s.heap s.heap [] := va_S.rf
  have hl := lv_entry ([ss_v (ss_b G) this, .int a1]) (n := 2) (by simp [lg_sl, ss_v_cat, ss_cat_i, ss_cat_l, ss_cat_r])
  rw [lg_entry_eq]
  generalize (lg_sl ([ss_v (ss_b G) this, .int a1]) ++ List.replicate (2 - (lg_sl ([ss_v (ss_b G) this, .int a1])).length) Slot.unset).toArray = ls at hl ⊢
  have hl : lv_has ls 2 [(0, ss_v (ss_b G) this), (1, .int a1)] := by simpa [lv_args, ss_v_cat, ss_cat_i, ss_cat_l, ss_cat_r] using hl
  have J_100 : ∀ (s0_100 : Int32) (h_100 : ss_Hp) (H : Heap) (locs : List Loc) (ls : Array Slot), mm_M_valleyLineHere_j100 N this a1 s0_100 h_100 = some (rr, hh) → ss_R G h_100 H → va_S (ss_A G) s.heap H locs → lv_has ls 2 [] → ww_M_valleyLineHere p l e s m below meth c G this a1 h rr hh  H locs 0 0 (F0 m 100 ls [.int s0_100]) := by
    intro s0_100 h_100 H locs ls hm hR hS hl
    obtain ⟨v1, qv1, hm⟩ := ss_bind hm
    obtain ⟨hnb, rfl⟩ := ss_bzs qv1
    exact ss_zret hC hr hnb hlocks hR hS hm dd_M_valleyLineHere_100
  refine ss_aload_n hx hb dd_M_valleyLineHere_0 rfl (lv_at hl 0 rfl) ?_
  refine lv_ldc2 (v := 130160802948473) hx hb hC.2.2.2.1 (hC.2.2.2.2 _ kl_M_237) dd_M_valleyLineHere_1 ?_
  obtain ⟨v2, h3, qh3, hm⟩ := ss_bind2 hm
  refine ss_cV 0 0 (As := [.long (130160802948473 : Int64)]) hC hK hR hS hl.1 (cc_M_isWord l G N _ _ _ _ _ qh3) km_M_107 (ck_M_isWord qh3) ⟨Nat.le_of_ble_eq_true rfl, Nat.le_of_ble_eq_true rfl⟩ ⟨Nat.le_of_ble_eq_true rfl, Nat.le_of_ble_eq_true rfl, Nat.le_of_ble_eq_true rfl, Nat.le_of_ble_eq_true rfl⟩ rfl rfl (Nat.le_of_ble_eq_true rfl) dd_M_valleyLineHere_4 (fun H locs hR hS => ?_)
  refine lv_if_eq (tgt := 16) hx hb dd_M_valleyLineHere_7 (by decide) (fun c4 => ?_) (fun c4 => ?_)
  · have hm := ss_ift hm c4
    refine ss_aload_n hx hb dd_M_valleyLineHere_16 rfl (lv_at hl 0 rfl) ?_
    obtain ⟨r5, qr5, hm⟩ := ss_bind hm
    refine ss_getr hC hK hR kf_M_26 rfl qr5 dd_M_valleyLineHere_17 ?_
    refine lv_iconst (v := 0) hx hb dd_M_valleyLineHere_20 (by decide) ?_
    obtain ⟨v6, qv6, hm⟩ := ss_bind hm
    refine ss_iald hC hK hR qv6 dd_M_valleyLineHere_21 ?_
    refine lv_if_ne (tgt := 32) hx hb dd_M_valleyLineHere_22 (by decide) (fun c7 => ?_) (fun c7 => ?_)
    · have hm := ss_iff hm c7
      refine ss_aload_n hx hb dd_M_valleyLineHere_32 rfl (lv_at hl 0 rfl) ?_
      refine lv_ldc2 (v := 1937007984) hx hb hC.2.2.2.1 (hC.2.2.2.2 _ kl_M_130) dd_M_valleyLineHere_33 ?_
      obtain ⟨v8, h9, qh9, hm⟩ := ss_bind2 hm
      refine ss_cV 0 0 (As := [.long (1937007984 : Int64)]) hC hK hR hS hl.1 (cc_M_isWord l G N _ _ _ _ _ qh9) km_M_107 (ck_M_isWord qh9) ⟨Nat.le_of_ble_eq_true rfl, Nat.le_of_ble_eq_true rfl⟩ ⟨Nat.le_of_ble_eq_true rfl, Nat.le_of_ble_eq_true rfl, Nat.le_of_ble_eq_true rfl, Nat.le_of_ble_eq_true rfl⟩ rfl rfl (Nat.le_of_ble_eq_true rfl) dd_M_valleyLineHere_36 (fun H locs hR hS => ?_)
      refine lv_if_eq (tgt := 48) hx hb dd_M_valleyLineHere_39 (by decide) (fun c10 => ?_) (fun c10 => ?_)
      · have hm := ss_ift hm c10
        refine ss_aload_n hx hb dd_M_valleyLineHere_48 rfl (lv_at hl 0 rfl) ?_
        refine lv_ldc2 (v := 448546567013) hx hb hC.2.2.2.1 (hC.2.2.2.2 _ kl_M_128) dd_M_valleyLineHere_49 ?_
        obtain ⟨v11, h12, qh12, hm⟩ := ss_bind2 hm
        refine ss_cV 0 0 (As := [.long (448546567013 : Int64)]) hC hK hR hS hl.1 (cc_M_isWord l G N _ _ _ _ _ qh12) km_M_107 (ck_M_isWord qh12) ⟨Nat.le_of_ble_eq_true rfl, Nat.le_of_ble_eq_true rfl⟩ ⟨Nat.le_of_ble_eq_true rfl, Nat.le_of_ble_eq_true rfl, Nat.le_of_ble_eq_true rfl, Nat.le_of_ble_eq_true rfl⟩ rfl rfl (Nat.le_of_ble_eq_true rfl) dd_M_valleyLineHere_52 (fun H locs hR hS => ?_)
        refine lv_if_eq (tgt := 64) hx hb dd_M_valleyLineHere_55 (by decide) (fun c13 => ?_) (fun c13 => ?_)
        · have hm := ss_ift hm c13
          refine ss_aload_n hx hb dd_M_valleyLineHere_64 rfl (lv_at hl 0 rfl) ?_
          refine lv_ldc2 (v := 1885434984) hx hb hC.2.2.2.1 (hC.2.2.2.2 _ kl_M_248) dd_M_valleyLineHere_65 ?_
          obtain ⟨v14, h15, qh15, hm⟩ := ss_bind2 hm
          refine ss_cV 0 0 (As := [.long (1885434984 : Int64)]) hC hK hR hS hl.1 (cc_M_isWord l G N _ _ _ _ _ qh15) km_M_107 (ck_M_isWord qh15) ⟨Nat.le_of_ble_eq_true rfl, Nat.le_of_ble_eq_true rfl⟩ ⟨Nat.le_of_ble_eq_true rfl, Nat.le_of_ble_eq_true rfl, Nat.le_of_ble_eq_true rfl, Nat.le_of_ble_eq_true rfl⟩ rfl rfl (Nat.le_of_ble_eq_true rfl) dd_M_valleyLineHere_68 (fun H locs hR hS => ?_)
          refine lv_if_eq (tgt := 79) hx hb dd_M_valleyLineHere_71 (by decide) (fun c16 => ?_) (fun c16 => ?_)
          · have hm := ss_ift hm c16
            refine ss_aload_n hx hb dd_M_valleyLineHere_79 rfl (lv_at hl 0 rfl) ?_
            refine lv_ldc2 (v := 2002873452) hx hb hC.2.2.2.1 (hC.2.2.2.2 _ kl_M_253) dd_M_valleyLineHere_80 ?_
            obtain ⟨v17, h18, qh18, hm⟩ := ss_bind2 hm
            refine ss_cV 0 0 (As := [.long (2002873452 : Int64)]) hC hK hR hS hl.1 (cc_M_isWord l G N _ _ _ _ _ qh18) km_M_107 (ck_M_isWord qh18) ⟨Nat.le_of_ble_eq_true rfl, Nat.le_of_ble_eq_true rfl⟩ ⟨Nat.le_of_ble_eq_true rfl, Nat.le_of_ble_eq_true rfl, Nat.le_of_ble_eq_true rfl, Nat.le_of_ble_eq_true rfl⟩ rfl rfl (Nat.le_of_ble_eq_true rfl) dd_M_valleyLineHere_83 (fun H locs hR hS => ?_)
            refine lv_if_eq (tgt := 96) hx hb dd_M_valleyLineHere_86 (by decide) (fun c19 => ?_) (fun c19 => ?_)
            · have hm := ss_ift hm c19
              refine ss_aload_n hx hb dd_M_valleyLineHere_96 rfl (lv_at hl 0 rfl) ?_
              obtain ⟨v20, h21, qh21, hm⟩ := ss_bind2 hm
              refine ss_cV 0 0 (As := []) hC hK hR hS hl.1 (cc_M_isNeedHere l G N _ _ _ _ qh21) km_M_258 (ck_M_isNeedHere qh21) ⟨Nat.le_of_ble_eq_true rfl, Nat.le_of_ble_eq_true rfl⟩ ⟨Nat.le_of_ble_eq_true rfl, Nat.le_of_ble_eq_true rfl, Nat.le_of_ble_eq_true rfl, Nat.le_of_ble_eq_true rfl⟩ rfl rfl (Nat.le_of_ble_eq_true rfl) dd_M_valleyLineHere_97 (fun H locs hR hS => ?_)
              exact J_100 v20 h21 _ _ _ hm hR hS (lv_sub hl [] rfl)
            · have hm := ss_iff hm c19
              refine ss_aload_n hx hb dd_M_valleyLineHere_89 rfl (lv_at hl 0 rfl) ?_
              obtain ⟨v22, h23, qh23, hm⟩ := ss_bind2 hm
              refine ss_cV 0 0 (As := []) hC hK hR hS hl.1 (cc_M_isWallHere l G N _ _ _ _ qh23) km_M_255 (ck_M_isWallHere qh23) ⟨Nat.le_of_ble_eq_true rfl, Nat.le_of_ble_eq_true rfl⟩ ⟨Nat.le_of_ble_eq_true rfl, Nat.le_of_ble_eq_true rfl, Nat.le_of_ble_eq_true rfl, Nat.le_of_ble_eq_true rfl⟩ rfl rfl (Nat.le_of_ble_eq_true rfl) dd_M_valleyLineHere_90 (fun H locs hR hS => ?_)
              refine lv_goto (tgt := 100) hx hb dd_M_valleyLineHere_93 (by decide) ?_
              exact J_100 v22 h23 _ _ _ hm hR hS (lv_sub hl [] rfl)
          · have hm := ss_iff hm c16
            refine ss_aload_n hx hb dd_M_valleyLineHere_74 rfl (lv_at hl 0 rfl) ?_
            obtain ⟨v24, h25, qh25, hm⟩ := ss_bind2 hm
            refine ss_cV 0 0 (As := []) hC hK hR hS hl.1 (cc_M_isPathHere l G N _ _ _ _ qh25) km_M_250 (ck_M_isPathHere qh25) ⟨Nat.le_of_ble_eq_true rfl, Nat.le_of_ble_eq_true rfl⟩ ⟨Nat.le_of_ble_eq_true rfl, Nat.le_of_ble_eq_true rfl, Nat.le_of_ble_eq_true rfl, Nat.le_of_ble_eq_true rfl⟩ rfl rfl (Nat.le_of_ble_eq_true rfl) dd_M_valleyLineHere_75 (fun H locs hR hS => ?_)
            obtain ⟨v26, qv26, hm⟩ := ss_bind hm
            obtain ⟨hnb, rfl⟩ := ss_bzs qv26
            exact ss_zret hC hr hnb hlocks hR hS hm dd_M_valleyLineHere_78
        · have hm := ss_iff hm c13
          refine ss_aload_n hx hb dd_M_valleyLineHere_58 rfl (lv_at hl 0 rfl) ?_
          refine lv_iload_n hx hb dd_M_valleyLineHere_59 rfl (lv_at hl 1 rfl) ?_
          obtain ⟨v27, h28, qh28, hm⟩ := ss_bind2 hm
          refine ss_cV 0 0 (As := [.int a1]) hC hK hR hS hl.1 (cc_M_isHouseHere l G N _ _ _ _ _ qh28) km_M_245 (ck_M_isHouseHere qh28) ⟨Nat.le_of_ble_eq_true rfl, Nat.le_of_ble_eq_true rfl⟩ ⟨Nat.le_of_ble_eq_true rfl, Nat.le_of_ble_eq_true rfl, Nat.le_of_ble_eq_true rfl, Nat.le_of_ble_eq_true rfl⟩ rfl rfl (Nat.le_of_ble_eq_true rfl) dd_M_valleyLineHere_60 (fun H locs hR hS => ?_)
          obtain ⟨v29, qv29, hm⟩ := ss_bind hm
          obtain ⟨hnb, rfl⟩ := ss_bzs qv29
          exact ss_zret hC hr hnb hlocks hR hS hm dd_M_valleyLineHere_63
      · have hm := ss_iff hm c10
        refine ss_aload_n hx hb dd_M_valleyLineHere_42 rfl (lv_at hl 0 rfl) ?_
        refine lv_iload_n hx hb dd_M_valleyLineHere_43 rfl (lv_at hl 1 rfl) ?_
        obtain ⟨v30, h31, qh31, hm⟩ := ss_bind2 hm
        refine ss_cV 0 0 (As := [.int a1]) hC hK hR hS hl.1 (cc_M_isStepHere l G N _ _ _ _ _ qh31) km_M_242 (ck_M_isStepHere qh31) ⟨Nat.le_of_ble_eq_true rfl, Nat.le_of_ble_eq_true rfl⟩ ⟨Nat.le_of_ble_eq_true rfl, Nat.le_of_ble_eq_true rfl, Nat.le_of_ble_eq_true rfl, Nat.le_of_ble_eq_true rfl⟩ rfl rfl (Nat.le_of_ble_eq_true rfl) dd_M_valleyLineHere_44 (fun H locs hR hS => ?_)
        obtain ⟨v32, qv32, hm⟩ := ss_bind hm
        obtain ⟨hnb, rfl⟩ := ss_bzs qv32
        exact ss_zret hC hr hnb hlocks hR hS hm dd_M_valleyLineHere_47
    · have hm := ss_ift hm c7
      refine ss_aload_n hx hb dd_M_valleyLineHere_25 rfl (lv_at hl 0 rfl) ?_
      refine lv_iconst (v := 4) hx hb dd_M_valleyLineHere_26 (by decide) ?_
      refine lv_iload_n hx hb dd_M_valleyLineHere_27 rfl (lv_at hl 1 rfl) ?_
      obtain ⟨v33, h34, qh34, hm⟩ := ss_bind2 hm
      refine ss_cV 0 0 (As := [.int (4 : Int32), .int a1]) hC hK hR hS hl.1 (cc_M_fails l G N _ _ _ _ _ _ qh34) km_M_117 (ck_M_fails qh34) ⟨Nat.le_of_ble_eq_true rfl, Nat.le_of_ble_eq_true rfl⟩ ⟨Nat.le_of_ble_eq_true rfl, Nat.le_of_ble_eq_true rfl, Nat.le_of_ble_eq_true rfl, Nat.le_of_ble_eq_true rfl⟩ rfl rfl (Nat.le_of_ble_eq_true rfl) dd_M_valleyLineHere_28 (fun H locs hR hS => ?_)
      obtain ⟨v35, qv35, hm⟩ := ss_bind hm
      obtain ⟨hnb, rfl⟩ := ss_bzs qv35
      exact ss_zret hC hr hnb hlocks hR hS hm dd_M_valleyLineHere_31
  · have hm := ss_iff hm c4
    refine ss_aload_n hx hb dd_M_valleyLineHere_10 rfl (lv_at hl 0 rfl) ?_
    refine lv_iload_n hx hb dd_M_valleyLineHere_11 rfl (lv_at hl 1 rfl) ?_
    obtain ⟨v36, h37, qh37, hm⟩ := ss_bind2 hm
    refine ss_cV 0 0 (As := [.int a1]) hC hK hR hS hl.1 (cc_M_isValleyHere l G N _ _ _ _ _ qh37) km_M_239 (ck_M_isValleyHere qh37) ⟨Nat.le_of_ble_eq_true rfl, Nat.le_of_ble_eq_true rfl⟩ ⟨Nat.le_of_ble_eq_true rfl, Nat.le_of_ble_eq_true rfl, Nat.le_of_ble_eq_true rfl, Nat.le_of_ble_eq_true rfl⟩ rfl rfl (Nat.le_of_ble_eq_true rfl) dd_M_valleyLineHere_12 (fun H locs hR hS => ?_)
    obtain ⟨v38, qv38, hm⟩ := ss_bind hm
    obtain ⟨hnb, rfl⟩ := ss_bzs qv38
    exact ss_zret hC hr hnb hlocks hR hS hm dd_M_valleyLineHere_15
theorem dd_M_makes_0 : decode bb_M_makes 0 = .ok (.aload_n 0, 1) := by decide +kernel
theorem dd_M_makes_1 : decode bb_M_makes 1 = .ok (.getfield 155, 3) := by decide +kernel
theorem dd_M_makes_4 : decode bb_M_makes 4 = .ok (.bipush 60, 2) := by decide +kernel
theorem dd_M_makes_6 : decode bb_M_makes 6 = .ok (.if_icmp .ne 10, 3) := by decide +kernel
theorem dd_M_makes_9 : decode bb_M_makes 9 = .ok (.aload_n 0, 1) := by decide +kernel
theorem dd_M_makes_10 : decode bb_M_makes 10 = .ok (.iconst 3, 1) := by decide +kernel
theorem dd_M_makes_11 : decode bb_M_makes 11 = .ok (.iload_n 1, 1) := by decide +kernel
theorem dd_M_makes_12 : decode bb_M_makes 12 = .ok (.invokevirtual 117, 3) := by decide +kernel
theorem dd_M_makes_15 : decode bb_M_makes 15 = .ok (.ireturn, 1) := by decide +kernel
theorem dd_M_makes_16 : decode bb_M_makes 16 = .ok (.aload_n 0, 1) := by decide +kernel
theorem dd_M_makes_17 : decode bb_M_makes 17 = .ok (.dup, 1) := by decide +kernel
theorem dd_M_makes_18 : decode bb_M_makes 18 = .ok (.getfield 155, 3) := by decide +kernel
theorem dd_M_makes_21 : decode bb_M_makes 21 = .ok (.iconst 1, 1) := by decide +kernel
theorem dd_M_makes_22 : decode bb_M_makes 22 = .ok (.iadd, 1) := by decide +kernel
theorem dd_M_makes_23 : decode bb_M_makes 23 = .ok (.putfield 155, 3) := by decide +kernel
theorem dd_M_makes_26 : decode bb_M_makes 26 = .ok (.iconst 1, 1) := by decide +kernel
theorem dd_M_makes_27 : decode bb_M_makes 27 = .ok (.ireturn, 1) := by decide +kernel
def mm_M_makes (N : Nat) (this : Option Nat) (a1 : Int32) (h : ss_Hp) : Option (Int32 × ss_Hp) :=
  if ss_is h this 12 = true then
    (ss_gi h this 12 6).bind fun v1 =>
    if v1 = (60 : Int32) then
      ss_b2 (mm_M_fails N this (3 : Int32) a1 h) fun v5 h6 =>
      (ss_bz v5).bind fun v7 =>
      some (v7, h6)
    else
      (ss_gi h this 12 6).bind fun v3 =>
      (ss_pi h this 12 6 (v3 + (1 : Int32))).bind fun h4 =>
      some ((1 : Int32), h4)
  else none
abbrev ww_M_makes (p : Program) (l : Launch) (e : Env) (s : State) (m : MethodId) (below : List Frame) (meth : Method) (c : Code) (G : ss_G) (this : Option Nat) (a1 : Int32) (h : ss_Hp) (rr : Int32) (hh : ss_Hp) (H : Heap) (locs : List Loc) (k n : Nat) (g : JFrame) : Prop := W p l e (headSpec (ss_w yy_M_makes bb_M_makes 2 (some .boolean)) ({ frames := 1, cells := 0, slots := 0, locals := 22 })).room s m ([ss_v (ss_b G) this, .int a1] : List Value).toArray below meth c H locs k n (MQ below (ss_Qc G (some (.int rr)) hh) ([ss_v (ss_b G) this, .int a1] : List Value).toArray s 0 0 (ss_A G)) g
theorem ck_M_makes {N : Nat} {this : Option Nat} {a1 : Int32} {h : ss_Hp} {res : Int32 × ss_Hp} (hm : mm_M_makes N this a1 h = some res) : ss_is h this 12 = true := (ss_chk hm).1
set_option maxHeartbeats 4000000 in
set_option maxRecDepth 100000 in
theorem cc_M_makes (l : Launch) (G : ss_G) (N : Nat) (this : Option Nat) (a1 : Int32) (h : ss_Hp) (rr : Int32) (hh : ss_Hp) (hm : mm_M_makes N this a1 h = some (rr, hh)) : ss_Ct l G yy_M_makes bb_M_makes 2 (some .boolean) ({ frames := 1, cells := 0, slots := 0, locals := 22 }) [ss_v (ss_b G) this, .int a1] h (some (.int rr)) hh := by
  obtain ⟨hck, hm⟩ := ss_chk hm
  refine Met.ofW (cc := bb_M_makes) (maxL := 2) (ret := (some .boolean)) (by decide) rfl ?_
  intro p e s m args below meth c s₁ B hml hv
  obtain ⟨rfl, hR, hK⟩ := hv
  have hC : CallFix p m c bb_M_makes 2 s _ lw_g sR_12 := ⟨B.exec, B.bytes, hml, findClass_of_methodNamed B.named, fun w hw => atoms_spec (ws := ss_w yy_M_makes bb_M_makes 2 (some .boolean)) B.pre w (List.mem_cons_of_mem _ hw)⟩
  have hx := hC.1
  have hb := hC.2.1
  have hr := B.returns
  have hlocks := B.notSynchronized
  have hS : va_S (ss_A G) s.heap s.heap [] := va_S.rf
  have hl := lv_entry ([ss_v (ss_b G) this, .int a1]) (n := 2) (by simp [lg_sl, ss_v_cat, ss_cat_i, ss_cat_l, ss_cat_r])
  rw [lg_entry_eq]
  generalize (lg_sl ([ss_v (ss_b G) this, .int a1]) ++ List.replicate (2 - (lg_sl ([ss_v (ss_b G) this, .int a1])).length) Slot.unset).toArray = ls at hl ⊢
  have hl : lv_has ls 2 [(0, ss_v (ss_b G) this), (1, .int a1)] := by simpa [lv_args, ss_v_cat, ss_cat_i, ss_cat_l, ss_cat_r] using hl
  refine ss_aload_n hx hb dd_M_makes_0 rfl (lv_at hl 0 rfl) ?_
  obtain ⟨v1, qv1, hm⟩ := ss_bind hm
  refine ss_geti hC hK hR kf_M_155 qv1 dd_M_makes_1 ?_
  refine lv_bipush (v := 60) hx hb dd_M_makes_4 (by decide) ?_
  refine lv_icmp_ne (tgt := 16) hx hb dd_M_makes_6 (by decide) (fun c2 => ?_) (fun c2 => ?_)
  · have hm := ss_iff hm c2
    refine ss_aload_n hx hb dd_M_makes_16 rfl (lv_at hl 0 rfl) ?_
    refine ss_dupr hx hb dd_M_makes_17 ?_
    obtain ⟨v3, qv3, hm⟩ := ss_bind hm
    refine ss_geti hC hK hR kf_M_155 qv3 dd_M_makes_18 ?_
    refine lv_iconst (v := 1) hx hb dd_M_makes_21 (by decide) ?_
    refine lv_iadd hx hb dd_M_makes_22 ?_
    obtain ⟨h4, qh4, hm⟩ := ss_bind hm
    refine ss_puti hC hK hR hS kp_M_155 qh4 dd_M_makes_23 (fun H locs hR hS => ?_)
    refine lv_iconst (v := 1) hx hb dd_M_makes_26 (by decide) ?_
    exact ss_zret hC hr (by decide) hlocks hR hS hm dd_M_makes_27
  · have hm := ss_ift hm c2
    refine ss_aload_n hx hb dd_M_makes_9 rfl (lv_at hl 0 rfl) ?_
    refine lv_iconst (v := 3) hx hb dd_M_makes_10 (by decide) ?_
    refine lv_iload_n hx hb dd_M_makes_11 rfl (lv_at hl 1 rfl) ?_
    obtain ⟨v5, h6, qh6, hm⟩ := ss_bind2 hm
    refine ss_cV 0 0 (As := [.int (3 : Int32), .int a1]) hC hK hR hS hl.1 (cc_M_fails l G N _ _ _ _ _ _ qh6) km_M_117 (ck_M_fails qh6) ⟨Nat.le_of_ble_eq_true rfl, Nat.le_of_ble_eq_true rfl⟩ ⟨Nat.le_of_ble_eq_true rfl, Nat.le_of_ble_eq_true rfl, Nat.le_of_ble_eq_true rfl, Nat.le_of_ble_eq_true rfl⟩ rfl rfl (Nat.le_of_ble_eq_true rfl) dd_M_makes_12 (fun H locs hR hS => ?_)
    obtain ⟨v7, qv7, hm⟩ := ss_bind hm
    obtain ⟨hnb, rfl⟩ := ss_bzs qv7
    exact ss_zret hC hr hnb hlocks hR hS hm dd_M_makes_15
theorem dd_M_puts_0 : decode bb_M_puts 0 = .ok (.aload_n 0, 1) := by decide +kernel
theorem dd_M_puts_1 : decode bb_M_puts 1 = .ok (.getfield 13, 3) := by decide +kernel
theorem dd_M_puts_4 : decode bb_M_puts 4 = .ok (.sipush 400, 3) := by decide +kernel
theorem dd_M_puts_7 : decode bb_M_puts 7 = .ok (.aload_n 0, 1) := by decide +kernel
theorem dd_M_puts_8 : decode bb_M_puts 8 = .ok (.getfield 152, 3) := by decide +kernel
theorem dd_M_puts_11 : decode bb_M_puts 11 = .ok (.imul, 1) := by decide +kernel
theorem dd_M_puts_12 : decode bb_M_puts 12 = .ok (.aload_n 0, 1) := by decide +kernel
theorem dd_M_puts_13 : decode bb_M_puts 13 = .ok (.getfield 17, 3) := by decide +kernel
theorem dd_M_puts_16 : decode bb_M_puts 16 = .ok (.aload_n 0, 1) := by decide +kernel
theorem dd_M_puts_17 : decode bb_M_puts 17 = .ok (.getfield 152, 3) := by decide +kernel
theorem dd_M_puts_20 : decode bb_M_puts 20 = .ok (.iaload, 1) := by decide +kernel
theorem dd_M_puts_21 : decode bb_M_puts 21 = .ok (.iadd, 1) := by decide +kernel
theorem dd_M_puts_22 : decode bb_M_puts 22 = .ok (.iload_n 1, 1) := by decide +kernel
theorem dd_M_puts_23 : decode bb_M_puts 23 = .ok (.bipush 16, 2) := by decide +kernel
theorem dd_M_puts_25 : decode bb_M_puts 25 = .ok (.iload_n 2, 1) := by decide +kernel
theorem dd_M_puts_26 : decode bb_M_puts 26 = .ok (.imul, 1) := by decide +kernel
theorem dd_M_puts_27 : decode bb_M_puts 27 = .ok (.iadd, 1) := by decide +kernel
theorem dd_M_puts_28 : decode bb_M_puts 28 = .ok (.iastore, 1) := by decide +kernel
theorem dd_M_puts_29 : decode bb_M_puts 29 = .ok (.aload_n 0, 1) := by decide +kernel
theorem dd_M_puts_30 : decode bb_M_puts 30 = .ok (.getfield 17, 3) := by decide +kernel
theorem dd_M_puts_33 : decode bb_M_puts 33 = .ok (.aload_n 0, 1) := by decide +kernel
theorem dd_M_puts_34 : decode bb_M_puts 34 = .ok (.getfield 152, 3) := by decide +kernel
theorem dd_M_puts_37 : decode bb_M_puts 37 = .ok (.dup2, 1) := by decide +kernel
theorem dd_M_puts_38 : decode bb_M_puts 38 = .ok (.iaload, 1) := by decide +kernel
theorem dd_M_puts_39 : decode bb_M_puts 39 = .ok (.iconst 1, 1) := by decide +kernel
theorem dd_M_puts_40 : decode bb_M_puts 40 = .ok (.iadd, 1) := by decide +kernel
theorem dd_M_puts_41 : decode bb_M_puts 41 = .ok (.iastore, 1) := by decide +kernel
theorem dd_M_puts_42 : decode bb_M_puts 42 = .ok (.return_, 1) := by decide +kernel
def mm_M_puts (N : Nat) (this : Option Nat) (a1 : Int32) (a2 : Int32) (h : ss_Hp) : Option ss_Hp :=
  if ss_is h this 12 = true then
    (ss_gr h this 12 1).bind fun r1 =>
    (ss_gi h this 12 5).bind fun v2 =>
    (ss_gr h this 12 2).bind fun r3 =>
    (ss_gi h this 12 5).bind fun v4 =>
    (ss_ai h r3 20 v4).bind fun v5 =>
    (ss_ui h r1 20 (((400 : Int32) * v2) + v5) (a1 + ((16 : Int32) * a2))).bind fun h6 =>
    (ss_gr h6 this 12 2).bind fun r7 =>
    (ss_gi h6 this 12 5).bind fun v8 =>
    (ss_ai h6 r7 20 v8).bind fun v9 =>
    (ss_ui h6 r7 20 v8 (v9 + (1 : Int32))).bind fun h10 =>
    some h10
  else none
abbrev ww_M_puts (p : Program) (l : Launch) (e : Env) (s : State) (m : MethodId) (below : List Frame) (meth : Method) (c : Code) (G : ss_G) (this : Option Nat) (a1 : Int32) (a2 : Int32) (h : ss_Hp) (hh : ss_Hp) (H : Heap) (locs : List Loc) (k n : Nat) (g : JFrame) : Prop := W p l e (headSpec (ss_w yy_M_puts bb_M_puts 3 none) ({ frames := 0, cells := 0, slots := 0, locals := 0 })).room s m ([ss_v (ss_b G) this, .int a1, .int a2] : List Value).toArray below meth c H locs k n (MQ below (ss_Qc G none hh) ([ss_v (ss_b G) this, .int a1, .int a2] : List Value).toArray s 0 0 (ss_A G)) g
theorem ck_M_puts {N : Nat} {this : Option Nat} {a1 : Int32} {a2 : Int32} {h : ss_Hp} {res : ss_Hp} (hm : mm_M_puts N this a1 a2 h = some res) : ss_is h this 12 = true := (ss_chk hm).1
set_option maxHeartbeats 4000000 in
set_option maxRecDepth 100000 in
theorem cc_M_puts (l : Launch) (G : ss_G) (N : Nat) (this : Option Nat) (a1 : Int32) (a2 : Int32) (h : ss_Hp) (hh : ss_Hp) (hm : mm_M_puts N this a1 a2 h = some hh) : ss_Ct l G yy_M_puts bb_M_puts 3 none ({ frames := 0, cells := 0, slots := 0, locals := 0 }) [ss_v (ss_b G) this, .int a1, .int a2] h none hh := by
  obtain ⟨hck, hm⟩ := ss_chk hm
  refine Met.ofW (cc := bb_M_puts) (maxL := 3) (ret := none) (by decide) rfl ?_
  intro p e s m args below meth c s₁ B hml hv
  obtain ⟨rfl, hR, hK⟩ := hv
  have hC : CallFix p m c bb_M_puts 3 s _ lw_g sR_12 := ⟨B.exec, B.bytes, hml, findClass_of_methodNamed B.named, fun w hw => atoms_spec (ws := ss_w yy_M_puts bb_M_puts 3 none) B.pre w (List.mem_cons_of_mem _ hw)⟩
  have hx := hC.1
  have hb := hC.2.1
  have hr := B.returns
  have hlocks := B.notSynchronized
  have hS : va_S (ss_A G) s.heap s.heap [] := va_S.rf
  have hl := lv_entry ([ss_v (ss_b G) this, .int a1, .int a2]) (n := 3) (by simp [lg_sl, ss_v_cat, ss_cat_i, ss_cat_l, ss_cat_r])
  rw [lg_entry_eq]
  generalize (lg_sl ([ss_v (ss_b G) this, .int a1, .int a2]) ++ List.replicate (3 - (lg_sl ([ss_v (ss_b G) this, .int a1, .int a2])).length) Slot.unset).toArray = ls at hl ⊢
  have hl : lv_has ls 3 [(0, ss_v (ss_b G) this), (1, .int a1), (2, .int a2)] := by simpa [lv_args, ss_v_cat, ss_cat_i, ss_cat_l, ss_cat_r] using hl
  refine ss_aload_n hx hb dd_M_puts_0 rfl (lv_at hl 0 rfl) ?_
  obtain ⟨r1, qr1, hm⟩ := ss_bind hm
  refine ss_getr hC hK hR kf_M_13 rfl qr1 dd_M_puts_1 ?_
  refine lv_sipush (v := 400) hx hb dd_M_puts_4 (by decide) ?_
  refine ss_aload_n hx hb dd_M_puts_7 rfl (lv_at hl 0 rfl) ?_
  obtain ⟨v2, qv2, hm⟩ := ss_bind hm
  refine ss_geti hC hK hR kf_M_152 qv2 dd_M_puts_8 ?_
  refine lv_imul hx hb dd_M_puts_11 ?_
  refine ss_aload_n hx hb dd_M_puts_12 rfl (lv_at hl 0 rfl) ?_
  obtain ⟨r3, qr3, hm⟩ := ss_bind hm
  refine ss_getr hC hK hR kf_M_17 rfl qr3 dd_M_puts_13 ?_
  refine ss_aload_n hx hb dd_M_puts_16 rfl (lv_at hl 0 rfl) ?_
  obtain ⟨v4, qv4, hm⟩ := ss_bind hm
  refine ss_geti hC hK hR kf_M_152 qv4 dd_M_puts_17 ?_
  obtain ⟨v5, qv5, hm⟩ := ss_bind hm
  refine ss_iald hC hK hR qv5 dd_M_puts_20 ?_
  refine lv_iadd hx hb dd_M_puts_21 ?_
  refine lv_iload_n hx hb dd_M_puts_22 rfl (lv_at hl 1 rfl) ?_
  refine lv_bipush (v := 16) hx hb dd_M_puts_23 (by decide) ?_
  refine lv_iload_n hx hb dd_M_puts_25 rfl (lv_at hl 2 rfl) ?_
  refine lv_imul hx hb dd_M_puts_26 ?_
  refine lv_iadd hx hb dd_M_puts_27 ?_
  obtain ⟨h6, qh6, hm⟩ := ss_bind hm
  refine ss_iast hC hK hR hS qh6 dd_M_puts_28 (fun H locs hR hS => ?_)
  refine ss_aload_n hx hb dd_M_puts_29 rfl (lv_at hl 0 rfl) ?_
  obtain ⟨r7, qr7, hm⟩ := ss_bind hm
  refine ss_getr hC hK hR kf_M_17 rfl qr7 dd_M_puts_30 ?_
  refine ss_aload_n hx hb dd_M_puts_33 rfl (lv_at hl 0 rfl) ?_
  obtain ⟨v8, qv8, hm⟩ := ss_bind hm
  refine ss_geti hC hK hR kf_M_152 qv8 dd_M_puts_34 ?_
  refine ss_dup2ir hx hb dd_M_puts_37 ?_
  obtain ⟨v9, qv9, hm⟩ := ss_bind hm
  refine ss_iald hC hK hR qv9 dd_M_puts_38 ?_
  refine lv_iconst (v := 1) hx hb dd_M_puts_39 (by decide) ?_
  refine lv_iadd hx hb dd_M_puts_40 ?_
  obtain ⟨h10, qh10, hm⟩ := ss_bind hm
  refine ss_iast hC hK hR hS qh10 dd_M_puts_41 (fun H locs hR hS => ?_)
  exact ss_vret hC hr hlocks hR hS hm dd_M_puts_42
theorem dd_M_wordHere_0 : decode bb_M_wordHere 0 = .ok (.aload_n 0, 1) := by decide +kernel
theorem dd_M_wordHere_1 : decode bb_M_wordHere 1 = .ok (.ldc2_w 128, 3) := by decide +kernel
theorem dd_M_wordHere_4 : decode bb_M_wordHere 4 = .ok (.invokevirtual 107, 3) := by decide +kernel
theorem dd_M_wordHere_7 : decode bb_M_wordHere 7 = .ok (.ifCond .eq 5, 3) := by decide +kernel
theorem dd_M_wordHere_10 : decode bb_M_wordHere 10 = .ok (.iconst 0, 1) := by decide +kernel
theorem dd_M_wordHere_11 : decode bb_M_wordHere 11 = .ok (.ireturn, 1) := by decide +kernel
theorem dd_M_wordHere_12 : decode bb_M_wordHere 12 = .ok (.aload_n 0, 1) := by decide +kernel
theorem dd_M_wordHere_13 : decode bb_M_wordHere 13 = .ok (.ldc2_w 130, 3) := by decide +kernel
theorem dd_M_wordHere_16 : decode bb_M_wordHere 16 = .ok (.invokevirtual 107, 3) := by decide +kernel
theorem dd_M_wordHere_19 : decode bb_M_wordHere 19 = .ok (.ifCond .eq 5, 3) := by decide +kernel
theorem dd_M_wordHere_22 : decode bb_M_wordHere 22 = .ok (.iconst 1, 1) := by decide +kernel
theorem dd_M_wordHere_23 : decode bb_M_wordHere 23 = .ok (.ireturn, 1) := by decide +kernel
theorem dd_M_wordHere_24 : decode bb_M_wordHere 24 = .ok (.aload_n 0, 1) := by decide +kernel
theorem dd_M_wordHere_25 : decode bb_M_wordHere 25 = .ok (.ldc2_w 132, 3) := by decide +kernel
theorem dd_M_wordHere_28 : decode bb_M_wordHere 28 = .ok (.invokevirtual 107, 3) := by decide +kernel
theorem dd_M_wordHere_31 : decode bb_M_wordHere 31 = .ok (.ifCond .eq 5, 3) := by decide +kernel
theorem dd_M_wordHere_34 : decode bb_M_wordHere 34 = .ok (.iconst 2, 1) := by decide +kernel
theorem dd_M_wordHere_35 : decode bb_M_wordHere 35 = .ok (.ireturn, 1) := by decide +kernel
theorem dd_M_wordHere_36 : decode bb_M_wordHere 36 = .ok (.aload_n 0, 1) := by decide +kernel
theorem dd_M_wordHere_37 : decode bb_M_wordHere 37 = .ok (.ldc2_w 134, 3) := by decide +kernel
theorem dd_M_wordHere_40 : decode bb_M_wordHere 40 = .ok (.invokevirtual 107, 3) := by decide +kernel
theorem dd_M_wordHere_43 : decode bb_M_wordHere 43 = .ok (.ifCond .eq 5, 3) := by decide +kernel
theorem dd_M_wordHere_46 : decode bb_M_wordHere 46 = .ok (.iconst 3, 1) := by decide +kernel
theorem dd_M_wordHere_47 : decode bb_M_wordHere 47 = .ok (.ireturn, 1) := by decide +kernel
theorem dd_M_wordHere_48 : decode bb_M_wordHere 48 = .ok (.aload_n 0, 1) := by decide +kernel
theorem dd_M_wordHere_49 : decode bb_M_wordHere 49 = .ok (.ldc2_w 136, 3) := by decide +kernel
theorem dd_M_wordHere_52 : decode bb_M_wordHere 52 = .ok (.invokevirtual 107, 3) := by decide +kernel
theorem dd_M_wordHere_55 : decode bb_M_wordHere 55 = .ok (.ifCond .eq 5, 3) := by decide +kernel
theorem dd_M_wordHere_58 : decode bb_M_wordHere 58 = .ok (.iconst 4, 1) := by decide +kernel
theorem dd_M_wordHere_59 : decode bb_M_wordHere 59 = .ok (.ireturn, 1) := by decide +kernel
theorem dd_M_wordHere_60 : decode bb_M_wordHere 60 = .ok (.aload_n 0, 1) := by decide +kernel
theorem dd_M_wordHere_61 : decode bb_M_wordHere 61 = .ok (.ldc2_w 138, 3) := by decide +kernel
theorem dd_M_wordHere_64 : decode bb_M_wordHere 64 = .ok (.invokevirtual 107, 3) := by decide +kernel
theorem dd_M_wordHere_67 : decode bb_M_wordHere 67 = .ok (.ifCond .eq 5, 3) := by decide +kernel
theorem dd_M_wordHere_70 : decode bb_M_wordHere 70 = .ok (.iconst 5, 1) := by decide +kernel
theorem dd_M_wordHere_71 : decode bb_M_wordHere 71 = .ok (.ireturn, 1) := by decide +kernel
theorem dd_M_wordHere_72 : decode bb_M_wordHere 72 = .ok (.aload_n 0, 1) := by decide +kernel
theorem dd_M_wordHere_73 : decode bb_M_wordHere 73 = .ok (.ldc2_w 140, 3) := by decide +kernel
theorem dd_M_wordHere_76 : decode bb_M_wordHere 76 = .ok (.invokevirtual 107, 3) := by decide +kernel
theorem dd_M_wordHere_79 : decode bb_M_wordHere 79 = .ok (.ifCond .eq 6, 3) := by decide +kernel
theorem dd_M_wordHere_82 : decode bb_M_wordHere 82 = .ok (.bipush 6, 2) := by decide +kernel
theorem dd_M_wordHere_84 : decode bb_M_wordHere 84 = .ok (.ireturn, 1) := by decide +kernel
theorem dd_M_wordHere_85 : decode bb_M_wordHere 85 = .ok (.aload_n 0, 1) := by decide +kernel
theorem dd_M_wordHere_86 : decode bb_M_wordHere 86 = .ok (.ldc2_w 142, 3) := by decide +kernel
theorem dd_M_wordHere_89 : decode bb_M_wordHere 89 = .ok (.invokevirtual 107, 3) := by decide +kernel
theorem dd_M_wordHere_92 : decode bb_M_wordHere 92 = .ok (.ifCond .eq 6, 3) := by decide +kernel
theorem dd_M_wordHere_95 : decode bb_M_wordHere 95 = .ok (.bipush 7, 2) := by decide +kernel
theorem dd_M_wordHere_97 : decode bb_M_wordHere 97 = .ok (.ireturn, 1) := by decide +kernel
theorem dd_M_wordHere_98 : decode bb_M_wordHere 98 = .ok (.aload_n 0, 1) := by decide +kernel
theorem dd_M_wordHere_99 : decode bb_M_wordHere 99 = .ok (.ldc2_w 144, 3) := by decide +kernel
theorem dd_M_wordHere_102 : decode bb_M_wordHere 102 = .ok (.invokevirtual 107, 3) := by decide +kernel
theorem dd_M_wordHere_105 : decode bb_M_wordHere 105 = .ok (.ifCond .eq 6, 3) := by decide +kernel
theorem dd_M_wordHere_108 : decode bb_M_wordHere 108 = .ok (.bipush 8, 2) := by decide +kernel
theorem dd_M_wordHere_110 : decode bb_M_wordHere 110 = .ok (.ireturn, 1) := by decide +kernel
theorem dd_M_wordHere_111 : decode bb_M_wordHere 111 = .ok (.aload_n 0, 1) := by decide +kernel
theorem dd_M_wordHere_112 : decode bb_M_wordHere 112 = .ok (.ldc2_w 146, 3) := by decide +kernel
theorem dd_M_wordHere_115 : decode bb_M_wordHere 115 = .ok (.invokevirtual 107, 3) := by decide +kernel
theorem dd_M_wordHere_118 : decode bb_M_wordHere 118 = .ok (.ifCond .eq 6, 3) := by decide +kernel
theorem dd_M_wordHere_121 : decode bb_M_wordHere 121 = .ok (.bipush 9, 2) := by decide +kernel
theorem dd_M_wordHere_123 : decode bb_M_wordHere 123 = .ok (.ireturn, 1) := by decide +kernel
theorem dd_M_wordHere_124 : decode bb_M_wordHere 124 = .ok (.aload_n 0, 1) := by decide +kernel
theorem dd_M_wordHere_125 : decode bb_M_wordHere 125 = .ok (.ldc2_w 148, 3) := by decide +kernel
theorem dd_M_wordHere_128 : decode bb_M_wordHere 128 = .ok (.invokevirtual 107, 3) := by decide +kernel
theorem dd_M_wordHere_131 : decode bb_M_wordHere 131 = .ok (.ifCond .eq 8, 3) := by decide +kernel
theorem dd_M_wordHere_134 : decode bb_M_wordHere 134 = .ok (.bipush 10, 2) := by decide +kernel
theorem dd_M_wordHere_136 : decode bb_M_wordHere 136 = .ok (.goto 19, 3) := by decide +kernel
theorem dd_M_wordHere_139 : decode bb_M_wordHere 139 = .ok (.aload_n 0, 1) := by decide +kernel
theorem dd_M_wordHere_140 : decode bb_M_wordHere 140 = .ok (.ldc2_w 150, 3) := by decide +kernel
theorem dd_M_wordHere_143 : decode bb_M_wordHere 143 = .ok (.invokevirtual 107, 3) := by decide +kernel
theorem dd_M_wordHere_146 : decode bb_M_wordHere 146 = .ok (.ifCond .eq 8, 3) := by decide +kernel
theorem dd_M_wordHere_149 : decode bb_M_wordHere 149 = .ok (.bipush 11, 2) := by decide +kernel
theorem dd_M_wordHere_151 : decode bb_M_wordHere 151 = .ok (.goto 4, 3) := by decide +kernel
theorem dd_M_wordHere_154 : decode bb_M_wordHere 154 = .ok (.iconst (-1), 1) := by decide +kernel
theorem dd_M_wordHere_155 : decode bb_M_wordHere 155 = .ok (.ireturn, 1) := by decide +kernel
def mm_M_wordHere_j155 (N : Nat) (this : Option Nat) (s0_155 : Int32) (h_155 : ss_Hp) : Option (Int32 × ss_Hp) :=
  some (s0_155, h_155)
def mm_M_wordHere (N : Nat) (this : Option Nat) (h : ss_Hp) : Option (Int32 × ss_Hp) :=
  if ss_is h this 12 = true then
    ss_b2 (mm_M_isWord N this (448546567013 : Int64) h) fun v1 h2 =>
    if v1 = 0 then
      ss_b2 (mm_M_isWord N this (1937007984 : Int64) h2) fun v4 h5 =>
      if v4 = 0 then
        ss_b2 (mm_M_isWord N this (7305070 : Int64) h5) fun v7 h8 =>
        if v7 = 0 then
          ss_b2 (mm_M_isWord N this (1936617335 : Int64) h8) fun v10 h11 =>
          if v10 = 0 then
            ss_b2 (mm_M_isWord N this (8319400191629685864 : Int64) h11) fun v13 h14 =>
            if v13 = 0 then
              ss_b2 (mm_M_isWord N this (495924375668 : Int64) h14) fun v16 h17 =>
              if v16 = 0 then
                ss_b2 (mm_M_isWord N this (108187649798757 : Int64) h17) fun v19 h20 =>
                if v19 = 0 then
                  ss_b2 (mm_M_isWord N this (109317377451364 : Int64) h20) fun v22 h23 =>
                  if v22 = 0 then
                    ss_b2 (mm_M_isWord N this (121381771830628 : Int64) h23) fun v25 h26 =>
                    if v25 = 0 then
                      ss_b2 (mm_M_isWord N this (1852143732 : Int64) h26) fun v28 h29 =>
                      if v28 = 0 then
                        ss_b2 (mm_M_isWord N this (108187867505765 : Int64) h29) fun v31 h32 =>
                        if v31 = 0 then
                          ss_b2 (mm_M_isWord N this (6578553 : Int64) h32) fun v34 h35 =>
                          if v34 = 0 then
                            mm_M_wordHere_j155 N this (-1 : Int32) h35
                          else
                            mm_M_wordHere_j155 N this (11 : Int32) h35
                        else
                          mm_M_wordHere_j155 N this (10 : Int32) h32
                      else
                        some ((9 : Int32), h29)
                    else
                      some ((8 : Int32), h26)
                  else
                    some ((7 : Int32), h23)
                else
                  some ((6 : Int32), h20)
              else
                some ((5 : Int32), h17)
            else
              some ((4 : Int32), h14)
          else
            some ((3 : Int32), h11)
        else
          some ((2 : Int32), h8)
      else
        some ((1 : Int32), h5)
    else
      some ((0 : Int32), h2)
  else none
abbrev ww_M_wordHere (p : Program) (l : Launch) (e : Env) (s : State) (m : MethodId) (below : List Frame) (meth : Method) (c : Code) (G : ss_G) (this : Option Nat) (h : ss_Hp) (rr : Int32) (hh : ss_Hp) (H : Heap) (locs : List Loc) (k n : Nat) (g : JFrame) : Prop := W p l e (headSpec (ss_w yy_M_wordHere bb_M_wordHere 1 (some (.int))) ({ frames := 2, cells := 0, slots := 0, locals := 46 })).room s m ([ss_v (ss_b G) this] : List Value).toArray below meth c H locs k n (MQ below (ss_Qc G (some (.int rr)) hh) ([ss_v (ss_b G) this] : List Value).toArray s 0 0 (ss_A G)) g
theorem ck_M_wordHere {N : Nat} {this : Option Nat} {h : ss_Hp} {res : Int32 × ss_Hp} (hm : mm_M_wordHere N this h = some res) : ss_is h this 12 = true := (ss_chk hm).1
set_option maxHeartbeats 4000000 in
set_option maxRecDepth 100000 in
theorem cc_M_wordHere (l : Launch) (G : ss_G) (N : Nat) (this : Option Nat) (h : ss_Hp) (rr : Int32) (hh : ss_Hp) (hm : mm_M_wordHere N this h = some (rr, hh)) : ss_Ct l G yy_M_wordHere bb_M_wordHere 1 (some (.int)) ({ frames := 2, cells := 0, slots := 0, locals := 46 }) [ss_v (ss_b G) this] h (some (.int rr)) hh := by
  obtain ⟨hck, hm⟩ := ss_chk hm
  refine Met.ofW (cc := bb_M_wordHere) (maxL := 1) (ret := (some (.int))) (by decide) rfl ?_
  intro p e s m args below meth c s₁ B hml hv
  obtain ⟨rfl, hR, hK⟩ := hv
  have hC : CallFix p m c bb_M_wordHere 1 s _ lw_g sR_12 := ⟨B.exec, B.bytes, hml, findClass_of_methodNamed B.named, fun w hw => atoms_spec (ws := ss_w yy_M_wordHere bb_M_wordHere 1 (some (.int))) B.pre w (List.mem_cons_of_mem _ hw)⟩
  have hx := hC.1
  have hb := hC.2.1
  have hr := B.returns
  have hlocks := B.notSynchronized
  have hS : va_S (ss_A G) s.heap s.heap [] := va_S.rf
  have hl := lv_entry ([ss_v (ss_b G) this]) (n := 1) (by simp [lg_sl, ss_v_cat, ss_cat_i, ss_cat_l, ss_cat_r])
  rw [lg_entry_eq]
  generalize (lg_sl ([ss_v (ss_b G) this]) ++ List.replicate (1 - (lg_sl ([ss_v (ss_b G) this])).length) Slot.unset).toArray = ls at hl ⊢
  have hl : lv_has ls 1 [(0, ss_v (ss_b G) this)] := by simpa [lv_args, ss_v_cat, ss_cat_i, ss_cat_l, ss_cat_r] using hl
  have J_155 : ∀ (s0_155 : Int32) (h_155 : ss_Hp) (H : Heap) (locs : List Loc) (ls : Array Slot), mm_M_wordHere_j155 N this s0_155 h_155 = some (rr, hh) → ss_R G h_155 H → va_S (ss_A G) s.heap H locs → lv_has ls 1 [] → ww_M_wordHere p l e s m below meth c G this h rr hh  H locs 0 0 (F0 m 155 ls [.int s0_155]) := by
    intro s0_155 h_155 H locs ls hm hR hS hl
    exact ss_iret hC hr hlocks hR hS hm dd_M_wordHere_155
  refine ss_aload_n hx hb dd_M_wordHere_0 rfl (lv_at hl 0 rfl) ?_
  refine lv_ldc2 (v := 448546567013) hx hb hC.2.2.2.1 (hC.2.2.2.2 _ kl_M_128) dd_M_wordHere_1 ?_
  obtain ⟨v1, h2, qh2, hm⟩ := ss_bind2 hm
  refine ss_cV 0 0 (As := [.long (448546567013 : Int64)]) hC hK hR hS hl.1 (cc_M_isWord l G N _ _ _ _ _ qh2) km_M_107 (ck_M_isWord qh2) ⟨Nat.le_of_ble_eq_true rfl, Nat.le_of_ble_eq_true rfl⟩ ⟨Nat.le_of_ble_eq_true rfl, Nat.le_of_ble_eq_true rfl, Nat.le_of_ble_eq_true rfl, Nat.le_of_ble_eq_true rfl⟩ rfl rfl (Nat.le_of_ble_eq_true rfl) dd_M_wordHere_4 (fun H locs hR hS => ?_)
  refine lv_if_eq (tgt := 12) hx hb dd_M_wordHere_7 (by decide) (fun c3 => ?_) (fun c3 => ?_)
  · have hm := ss_ift hm c3
    refine ss_aload_n hx hb dd_M_wordHere_12 rfl (lv_at hl 0 rfl) ?_
    refine lv_ldc2 (v := 1937007984) hx hb hC.2.2.2.1 (hC.2.2.2.2 _ kl_M_130) dd_M_wordHere_13 ?_
    obtain ⟨v4, h5, qh5, hm⟩ := ss_bind2 hm
    refine ss_cV 0 0 (As := [.long (1937007984 : Int64)]) hC hK hR hS hl.1 (cc_M_isWord l G N _ _ _ _ _ qh5) km_M_107 (ck_M_isWord qh5) ⟨Nat.le_of_ble_eq_true rfl, Nat.le_of_ble_eq_true rfl⟩ ⟨Nat.le_of_ble_eq_true rfl, Nat.le_of_ble_eq_true rfl, Nat.le_of_ble_eq_true rfl, Nat.le_of_ble_eq_true rfl⟩ rfl rfl (Nat.le_of_ble_eq_true rfl) dd_M_wordHere_16 (fun H locs hR hS => ?_)
    refine lv_if_eq (tgt := 24) hx hb dd_M_wordHere_19 (by decide) (fun c6 => ?_) (fun c6 => ?_)
    · have hm := ss_ift hm c6
      refine ss_aload_n hx hb dd_M_wordHere_24 rfl (lv_at hl 0 rfl) ?_
      refine lv_ldc2 (v := 7305070) hx hb hC.2.2.2.1 (hC.2.2.2.2 _ kl_M_132) dd_M_wordHere_25 ?_
      obtain ⟨v7, h8, qh8, hm⟩ := ss_bind2 hm
      refine ss_cV 0 0 (As := [.long (7305070 : Int64)]) hC hK hR hS hl.1 (cc_M_isWord l G N _ _ _ _ _ qh8) km_M_107 (ck_M_isWord qh8) ⟨Nat.le_of_ble_eq_true rfl, Nat.le_of_ble_eq_true rfl⟩ ⟨Nat.le_of_ble_eq_true rfl, Nat.le_of_ble_eq_true rfl, Nat.le_of_ble_eq_true rfl, Nat.le_of_ble_eq_true rfl⟩ rfl rfl (Nat.le_of_ble_eq_true rfl) dd_M_wordHere_28 (fun H locs hR hS => ?_)
      refine lv_if_eq (tgt := 36) hx hb dd_M_wordHere_31 (by decide) (fun c9 => ?_) (fun c9 => ?_)
      · have hm := ss_ift hm c9
        refine ss_aload_n hx hb dd_M_wordHere_36 rfl (lv_at hl 0 rfl) ?_
        refine lv_ldc2 (v := 1936617335) hx hb hC.2.2.2.1 (hC.2.2.2.2 _ kl_M_134) dd_M_wordHere_37 ?_
        obtain ⟨v10, h11, qh11, hm⟩ := ss_bind2 hm
        refine ss_cV 0 0 (As := [.long (1936617335 : Int64)]) hC hK hR hS hl.1 (cc_M_isWord l G N _ _ _ _ _ qh11) km_M_107 (ck_M_isWord qh11) ⟨Nat.le_of_ble_eq_true rfl, Nat.le_of_ble_eq_true rfl⟩ ⟨Nat.le_of_ble_eq_true rfl, Nat.le_of_ble_eq_true rfl, Nat.le_of_ble_eq_true rfl, Nat.le_of_ble_eq_true rfl⟩ rfl rfl (Nat.le_of_ble_eq_true rfl) dd_M_wordHere_40 (fun H locs hR hS => ?_)
        refine lv_if_eq (tgt := 48) hx hb dd_M_wordHere_43 (by decide) (fun c12 => ?_) (fun c12 => ?_)
        · have hm := ss_ift hm c12
          refine ss_aload_n hx hb dd_M_wordHere_48 rfl (lv_at hl 0 rfl) ?_
          refine lv_ldc2 (v := 8319400191629685864) hx hb hC.2.2.2.1 (hC.2.2.2.2 _ kl_M_136) dd_M_wordHere_49 ?_
          obtain ⟨v13, h14, qh14, hm⟩ := ss_bind2 hm
          refine ss_cV 0 0 (As := [.long (8319400191629685864 : Int64)]) hC hK hR hS hl.1 (cc_M_isWord l G N _ _ _ _ _ qh14) km_M_107 (ck_M_isWord qh14) ⟨Nat.le_of_ble_eq_true rfl, Nat.le_of_ble_eq_true rfl⟩ ⟨Nat.le_of_ble_eq_true rfl, Nat.le_of_ble_eq_true rfl, Nat.le_of_ble_eq_true rfl, Nat.le_of_ble_eq_true rfl⟩ rfl rfl (Nat.le_of_ble_eq_true rfl) dd_M_wordHere_52 (fun H locs hR hS => ?_)
          refine lv_if_eq (tgt := 60) hx hb dd_M_wordHere_55 (by decide) (fun c15 => ?_) (fun c15 => ?_)
          · have hm := ss_ift hm c15
            refine ss_aload_n hx hb dd_M_wordHere_60 rfl (lv_at hl 0 rfl) ?_
            refine lv_ldc2 (v := 495924375668) hx hb hC.2.2.2.1 (hC.2.2.2.2 _ kl_M_138) dd_M_wordHere_61 ?_
            obtain ⟨v16, h17, qh17, hm⟩ := ss_bind2 hm
            refine ss_cV 0 0 (As := [.long (495924375668 : Int64)]) hC hK hR hS hl.1 (cc_M_isWord l G N _ _ _ _ _ qh17) km_M_107 (ck_M_isWord qh17) ⟨Nat.le_of_ble_eq_true rfl, Nat.le_of_ble_eq_true rfl⟩ ⟨Nat.le_of_ble_eq_true rfl, Nat.le_of_ble_eq_true rfl, Nat.le_of_ble_eq_true rfl, Nat.le_of_ble_eq_true rfl⟩ rfl rfl (Nat.le_of_ble_eq_true rfl) dd_M_wordHere_64 (fun H locs hR hS => ?_)
            refine lv_if_eq (tgt := 72) hx hb dd_M_wordHere_67 (by decide) (fun c18 => ?_) (fun c18 => ?_)
            · have hm := ss_ift hm c18
              refine ss_aload_n hx hb dd_M_wordHere_72 rfl (lv_at hl 0 rfl) ?_
              refine lv_ldc2 (v := 108187649798757) hx hb hC.2.2.2.1 (hC.2.2.2.2 _ kl_M_140) dd_M_wordHere_73 ?_
              obtain ⟨v19, h20, qh20, hm⟩ := ss_bind2 hm
              refine ss_cV 0 0 (As := [.long (108187649798757 : Int64)]) hC hK hR hS hl.1 (cc_M_isWord l G N _ _ _ _ _ qh20) km_M_107 (ck_M_isWord qh20) ⟨Nat.le_of_ble_eq_true rfl, Nat.le_of_ble_eq_true rfl⟩ ⟨Nat.le_of_ble_eq_true rfl, Nat.le_of_ble_eq_true rfl, Nat.le_of_ble_eq_true rfl, Nat.le_of_ble_eq_true rfl⟩ rfl rfl (Nat.le_of_ble_eq_true rfl) dd_M_wordHere_76 (fun H locs hR hS => ?_)
              refine lv_if_eq (tgt := 85) hx hb dd_M_wordHere_79 (by decide) (fun c21 => ?_) (fun c21 => ?_)
              · have hm := ss_ift hm c21
                refine ss_aload_n hx hb dd_M_wordHere_85 rfl (lv_at hl 0 rfl) ?_
                refine lv_ldc2 (v := 109317377451364) hx hb hC.2.2.2.1 (hC.2.2.2.2 _ kl_M_142) dd_M_wordHere_86 ?_
                obtain ⟨v22, h23, qh23, hm⟩ := ss_bind2 hm
                refine ss_cV 0 0 (As := [.long (109317377451364 : Int64)]) hC hK hR hS hl.1 (cc_M_isWord l G N _ _ _ _ _ qh23) km_M_107 (ck_M_isWord qh23) ⟨Nat.le_of_ble_eq_true rfl, Nat.le_of_ble_eq_true rfl⟩ ⟨Nat.le_of_ble_eq_true rfl, Nat.le_of_ble_eq_true rfl, Nat.le_of_ble_eq_true rfl, Nat.le_of_ble_eq_true rfl⟩ rfl rfl (Nat.le_of_ble_eq_true rfl) dd_M_wordHere_89 (fun H locs hR hS => ?_)
                refine lv_if_eq (tgt := 98) hx hb dd_M_wordHere_92 (by decide) (fun c24 => ?_) (fun c24 => ?_)
                · have hm := ss_ift hm c24
                  refine ss_aload_n hx hb dd_M_wordHere_98 rfl (lv_at hl 0 rfl) ?_
                  refine lv_ldc2 (v := 121381771830628) hx hb hC.2.2.2.1 (hC.2.2.2.2 _ kl_M_144) dd_M_wordHere_99 ?_
                  obtain ⟨v25, h26, qh26, hm⟩ := ss_bind2 hm
                  refine ss_cV 0 0 (As := [.long (121381771830628 : Int64)]) hC hK hR hS hl.1 (cc_M_isWord l G N _ _ _ _ _ qh26) km_M_107 (ck_M_isWord qh26) ⟨Nat.le_of_ble_eq_true rfl, Nat.le_of_ble_eq_true rfl⟩ ⟨Nat.le_of_ble_eq_true rfl, Nat.le_of_ble_eq_true rfl, Nat.le_of_ble_eq_true rfl, Nat.le_of_ble_eq_true rfl⟩ rfl rfl (Nat.le_of_ble_eq_true rfl) dd_M_wordHere_102 (fun H locs hR hS => ?_)
                  refine lv_if_eq (tgt := 111) hx hb dd_M_wordHere_105 (by decide) (fun c27 => ?_) (fun c27 => ?_)
                  · have hm := ss_ift hm c27
                    refine ss_aload_n hx hb dd_M_wordHere_111 rfl (lv_at hl 0 rfl) ?_
                    refine lv_ldc2 (v := 1852143732) hx hb hC.2.2.2.1 (hC.2.2.2.2 _ kl_M_146) dd_M_wordHere_112 ?_
                    obtain ⟨v28, h29, qh29, hm⟩ := ss_bind2 hm
                    refine ss_cV 0 0 (As := [.long (1852143732 : Int64)]) hC hK hR hS hl.1 (cc_M_isWord l G N _ _ _ _ _ qh29) km_M_107 (ck_M_isWord qh29) ⟨Nat.le_of_ble_eq_true rfl, Nat.le_of_ble_eq_true rfl⟩ ⟨Nat.le_of_ble_eq_true rfl, Nat.le_of_ble_eq_true rfl, Nat.le_of_ble_eq_true rfl, Nat.le_of_ble_eq_true rfl⟩ rfl rfl (Nat.le_of_ble_eq_true rfl) dd_M_wordHere_115 (fun H locs hR hS => ?_)
                    refine lv_if_eq (tgt := 124) hx hb dd_M_wordHere_118 (by decide) (fun c30 => ?_) (fun c30 => ?_)
                    · have hm := ss_ift hm c30
                      refine ss_aload_n hx hb dd_M_wordHere_124 rfl (lv_at hl 0 rfl) ?_
                      refine lv_ldc2 (v := 108187867505765) hx hb hC.2.2.2.1 (hC.2.2.2.2 _ kl_M_148) dd_M_wordHere_125 ?_
                      obtain ⟨v31, h32, qh32, hm⟩ := ss_bind2 hm
                      refine ss_cV 0 0 (As := [.long (108187867505765 : Int64)]) hC hK hR hS hl.1 (cc_M_isWord l G N _ _ _ _ _ qh32) km_M_107 (ck_M_isWord qh32) ⟨Nat.le_of_ble_eq_true rfl, Nat.le_of_ble_eq_true rfl⟩ ⟨Nat.le_of_ble_eq_true rfl, Nat.le_of_ble_eq_true rfl, Nat.le_of_ble_eq_true rfl, Nat.le_of_ble_eq_true rfl⟩ rfl rfl (Nat.le_of_ble_eq_true rfl) dd_M_wordHere_128 (fun H locs hR hS => ?_)
                      refine lv_if_eq (tgt := 139) hx hb dd_M_wordHere_131 (by decide) (fun c33 => ?_) (fun c33 => ?_)
                      · have hm := ss_ift hm c33
                        refine ss_aload_n hx hb dd_M_wordHere_139 rfl (lv_at hl 0 rfl) ?_
                        refine lv_ldc2 (v := 6578553) hx hb hC.2.2.2.1 (hC.2.2.2.2 _ kl_M_150) dd_M_wordHere_140 ?_
                        obtain ⟨v34, h35, qh35, hm⟩ := ss_bind2 hm
                        refine ss_cV 0 0 (As := [.long (6578553 : Int64)]) hC hK hR hS hl.1 (cc_M_isWord l G N _ _ _ _ _ qh35) km_M_107 (ck_M_isWord qh35) ⟨Nat.le_of_ble_eq_true rfl, Nat.le_of_ble_eq_true rfl⟩ ⟨Nat.le_of_ble_eq_true rfl, Nat.le_of_ble_eq_true rfl, Nat.le_of_ble_eq_true rfl, Nat.le_of_ble_eq_true rfl⟩ rfl rfl (Nat.le_of_ble_eq_true rfl) dd_M_wordHere_143 (fun H locs hR hS => ?_)
                        refine lv_if_eq (tgt := 154) hx hb dd_M_wordHere_146 (by decide) (fun c36 => ?_) (fun c36 => ?_)
                        · have hm := ss_ift hm c36
                          refine lv_iconst (v := -1) hx hb dd_M_wordHere_154 (by decide) ?_
                          exact J_155 (-1 : Int32) h35 _ _ _ hm hR hS (lv_sub hl [] rfl)
                        · have hm := ss_iff hm c36
                          refine lv_bipush (v := 11) hx hb dd_M_wordHere_149 (by decide) ?_
                          refine lv_goto (tgt := 155) hx hb dd_M_wordHere_151 (by decide) ?_
                          exact J_155 (11 : Int32) h35 _ _ _ hm hR hS (lv_sub hl [] rfl)
                      · have hm := ss_iff hm c33
                        refine lv_bipush (v := 10) hx hb dd_M_wordHere_134 (by decide) ?_
                        refine lv_goto (tgt := 155) hx hb dd_M_wordHere_136 (by decide) ?_
                        exact J_155 (10 : Int32) h32 _ _ _ hm hR hS (lv_sub hl [] rfl)
                    · have hm := ss_iff hm c30
                      refine lv_bipush (v := 9) hx hb dd_M_wordHere_121 (by decide) ?_
                      exact ss_iret hC hr hlocks hR hS hm dd_M_wordHere_123
                  · have hm := ss_iff hm c27
                    refine lv_bipush (v := 8) hx hb dd_M_wordHere_108 (by decide) ?_
                    exact ss_iret hC hr hlocks hR hS hm dd_M_wordHere_110
                · have hm := ss_iff hm c24
                  refine lv_bipush (v := 7) hx hb dd_M_wordHere_95 (by decide) ?_
                  exact ss_iret hC hr hlocks hR hS hm dd_M_wordHere_97
              · have hm := ss_iff hm c21
                refine lv_bipush (v := 6) hx hb dd_M_wordHere_82 (by decide) ?_
                exact ss_iret hC hr hlocks hR hS hm dd_M_wordHere_84
            · have hm := ss_iff hm c18
              refine lv_iconst (v := 5) hx hb dd_M_wordHere_70 (by decide) ?_
              exact ss_iret hC hr hlocks hR hS hm dd_M_wordHere_71
          · have hm := ss_iff hm c15
            refine lv_iconst (v := 4) hx hb dd_M_wordHere_58 (by decide) ?_
            exact ss_iret hC hr hlocks hR hS hm dd_M_wordHere_59
        · have hm := ss_iff hm c12
          refine lv_iconst (v := 3) hx hb dd_M_wordHere_46 (by decide) ?_
          exact ss_iret hC hr hlocks hR hS hm dd_M_wordHere_47
      · have hm := ss_iff hm c9
        refine lv_iconst (v := 2) hx hb dd_M_wordHere_34 (by decide) ?_
        exact ss_iret hC hr hlocks hR hS hm dd_M_wordHere_35
    · have hm := ss_iff hm c6
      refine lv_iconst (v := 1) hx hb dd_M_wordHere_22 (by decide) ?_
      exact ss_iret hC hr hlocks hR hS hm dd_M_wordHere_23
  · have hm := ss_iff hm c3
    refine lv_iconst (v := 0) hx hb dd_M_wordHere_10 (by decide) ?_
    exact ss_iret hC hr hlocks hR hS hm dd_M_wordHere_11
theorem dd_M_value_0 : decode bb_M_value 0 = .ok (.aload_n 0, 1) := by decide +kernel
theorem dd_M_value_1 : decode bb_M_value 1 = .ok (.invokevirtual 99, 3) := by decide +kernel
theorem dd_M_value_4 : decode bb_M_value 4 = .ok (.pop, 1) := by decide +kernel
theorem dd_M_value_5 : decode bb_M_value 5 = .ok (.aload_n 0, 1) := by decide +kernel
theorem dd_M_value_6 : decode bb_M_value 6 = .ok (.getfield 96, 3) := by decide +kernel
theorem dd_M_value_9 : decode bb_M_value 9 = .ok (.istore_n 1, 1) := by decide +kernel
theorem dd_M_value_10 : decode bb_M_value 10 = .ok (.aload_n 0, 1) := by decide +kernel
theorem dd_M_value_11 : decode bb_M_value 11 = .ok (.aload_n 0, 1) := by decide +kernel
theorem dd_M_value_12 : decode bb_M_value 12 = .ok (.getfield 96, 3) := by decide +kernel
theorem dd_M_value_15 : decode bb_M_value 15 = .ok (.invokevirtual 114, 3) := by decide +kernel
theorem dd_M_value_18 : decode bb_M_value 18 = .ok (.ifCond .eq 34, 3) := by decide +kernel
theorem dd_M_value_21 : decode bb_M_value 21 = .ok (.aload_n 0, 1) := by decide +kernel
theorem dd_M_value_22 : decode bb_M_value 22 = .ok (.iconst 0, 1) := by decide +kernel
theorem dd_M_value_23 : decode bb_M_value 23 = .ok (.ldc 172, 2) := by decide +kernel
theorem dd_M_value_25 : decode bb_M_value 25 = .ok (.invokevirtual 173, 3) := by decide +kernel
theorem dd_M_value_28 : decode bb_M_value 28 = .ok (.ifCond .eq 11, 3) := by decide +kernel
theorem dd_M_value_31 : decode bb_M_value 31 = .ok (.aload_n 0, 1) := by decide +kernel
theorem dd_M_value_32 : decode bb_M_value 32 = .ok (.iload_n 1, 1) := by decide +kernel
theorem dd_M_value_33 : decode bb_M_value 33 = .ok (.invokevirtual 176, 3) := by decide +kernel
theorem dd_M_value_36 : decode bb_M_value 36 = .ok (.ifCond .ne 5, 3) := by decide +kernel
theorem dd_M_value_39 : decode bb_M_value 39 = .ok (.iconst 0, 1) := by decide +kernel
theorem dd_M_value_40 : decode bb_M_value 40 = .ok (.ireturn, 1) := by decide +kernel
theorem dd_M_value_41 : decode bb_M_value 41 = .ok (.aload_n 0, 1) := by decide +kernel
theorem dd_M_value_42 : decode bb_M_value 42 = .ok (.iconst 0, 1) := by decide +kernel
theorem dd_M_value_43 : decode bb_M_value 43 = .ok (.aload_n 0, 1) := by decide +kernel
theorem dd_M_value_44 : decode bb_M_value 44 = .ok (.getfield 121, 3) := by decide +kernel
theorem dd_M_value_47 : decode bb_M_value 47 = .ok (.invokevirtual 168, 3) := by decide +kernel
theorem dd_M_value_50 : decode bb_M_value 50 = .ok (.iconst 1, 1) := by decide +kernel
theorem dd_M_value_51 : decode bb_M_value 51 = .ok (.ireturn, 1) := by decide +kernel
theorem dd_M_value_52 : decode bb_M_value 52 = .ok (.aload_n 0, 1) := by decide +kernel
theorem dd_M_value_53 : decode bb_M_value 53 = .ok (.invokevirtual 179, 3) := by decide +kernel
theorem dd_M_value_56 : decode bb_M_value 56 = .ok (.istore_n 2, 1) := by decide +kernel
theorem dd_M_value_57 : decode bb_M_value 57 = .ok (.iload_n 2, 1) := by decide +kernel
theorem dd_M_value_58 : decode bb_M_value 58 = .ok (.ifCond .ge 10, 3) := by decide +kernel
theorem dd_M_value_61 : decode bb_M_value 61 = .ok (.aload_n 0, 1) := by decide +kernel
theorem dd_M_value_62 : decode bb_M_value 62 = .ok (.iconst 0, 1) := by decide +kernel
theorem dd_M_value_63 : decode bb_M_value 63 = .ok (.iload_n 1, 1) := by decide +kernel
theorem dd_M_value_64 : decode bb_M_value 64 = .ok (.invokevirtual 117, 3) := by decide +kernel
theorem dd_M_value_67 : decode bb_M_value 67 = .ok (.ireturn, 1) := by decide +kernel
theorem dd_M_value_68 : decode bb_M_value 68 = .ok (.aload_n 0, 1) := by decide +kernel
theorem dd_M_value_69 : decode bb_M_value 69 = .ok (.iload_n 1, 1) := by decide +kernel
theorem dd_M_value_70 : decode bb_M_value 70 = .ok (.invokevirtual 176, 3) := by decide +kernel
theorem dd_M_value_73 : decode bb_M_value 73 = .ok (.ifCond .ne 5, 3) := by decide +kernel
theorem dd_M_value_76 : decode bb_M_value 76 = .ok (.iconst 0, 1) := by decide +kernel
theorem dd_M_value_77 : decode bb_M_value 77 = .ok (.ireturn, 1) := by decide +kernel
theorem dd_M_value_78 : decode bb_M_value 78 = .ok (.aload_n 0, 1) := by decide +kernel
theorem dd_M_value_79 : decode bb_M_value 79 = .ok (.invokevirtual 111, 3) := by decide +kernel
theorem dd_M_value_82 : decode bb_M_value 82 = .ok (.aload_n 0, 1) := by decide +kernel
theorem dd_M_value_83 : decode bb_M_value 83 = .ok (.iconst 1, 1) := by decide +kernel
theorem dd_M_value_84 : decode bb_M_value 84 = .ok (.iload_n 2, 1) := by decide +kernel
theorem dd_M_value_85 : decode bb_M_value 85 = .ok (.invokevirtual 168, 3) := by decide +kernel
theorem dd_M_value_88 : decode bb_M_value 88 = .ok (.iconst 1, 1) := by decide +kernel
theorem dd_M_value_89 : decode bb_M_value 89 = .ok (.ireturn, 1) := by decide +kernel
def mm_M_value_j39 (N : Nat) (this : Option Nat) (h_39 : ss_Hp) : Option (Int32 × ss_Hp) :=
  some ((0 : Int32), h_39)
def mm_M_value (N : Nat) (this : Option Nat) (h : ss_Hp) : Option (Int32 × ss_Hp) :=
  if ss_is h this 12 = true then
    ss_b2 (mm_M_see N this h) fun v1 h2 =>
    (ss_gi h2 this 12 2).bind fun v3 =>
    (ss_gi h2 this 12 2).bind fun v4 =>
    (mm_M_isDigit N this v4 h2).bind fun v5 =>
    if v5 = 0 then
      ss_b2 (mm_M_wordHere N this h2) fun v7 h8 =>
      if 0 ≤ v7 then
        ss_b2 (mm_M_makes N this v3 h8) fun v10 h11 =>
        if v10 = 0 then
          some ((0 : Int32), h11)
        else
          (mm_M_passWord N this h11).bind fun h13 =>
          (mm_M_puts N this (1 : Int32) v7 h13).bind fun h14 =>
          some ((1 : Int32), h14)
      else
        ss_b2 (mm_M_fails N this (0 : Int32) v3 h8) fun v15 h16 =>
        (ss_bz v15).bind fun v17 =>
        some (v17, h16)
    else
      ss_b2 (mm_M_numberHere N this (0 : Int32) (99999 : Int32) h2) fun v18 h19 =>
      if v18 = 0 then
        mm_M_value_j39 N this h19
      else
        ss_b2 (mm_M_makes N this v3 h19) fun v21 h22 =>
        if v21 = 0 then
          mm_M_value_j39 N this h22
        else
          (ss_gi h22 this 12 4).bind fun v24 =>
          (mm_M_puts N this (0 : Int32) v24 h22).bind fun h25 =>
          some ((1 : Int32), h25)
  else none
abbrev ww_M_value (p : Program) (l : Launch) (e : Env) (s : State) (m : MethodId) (below : List Frame) (meth : Method) (c : Code) (G : ss_G) (this : Option Nat) (h : ss_Hp) (rr : Int32) (hh : ss_Hp) (H : Heap) (locs : List Loc) (k n : Nat) (g : JFrame) : Prop := W p l e (headSpec (ss_w yy_M_value bb_M_value 3 (some .boolean)) ({ frames := 3, cells := 0, slots := 0, locals := 66 })).room s m ([ss_v (ss_b G) this] : List Value).toArray below meth c H locs k n (MQ below (ss_Qc G (some (.int rr)) hh) ([ss_v (ss_b G) this] : List Value).toArray s 0 0 (ss_A G)) g
theorem ck_M_value {N : Nat} {this : Option Nat} {h : ss_Hp} {res : Int32 × ss_Hp} (hm : mm_M_value N this h = some res) : ss_is h this 12 = true := (ss_chk hm).1
set_option maxHeartbeats 4000000 in
set_option maxRecDepth 100000 in
theorem cc_M_value (l : Launch) (G : ss_G) (N : Nat) (this : Option Nat) (h : ss_Hp) (rr : Int32) (hh : ss_Hp) (hm : mm_M_value N this h = some (rr, hh)) : ss_Ct l G yy_M_value bb_M_value 3 (some .boolean) ({ frames := 3, cells := 0, slots := 0, locals := 66 }) [ss_v (ss_b G) this] h (some (.int rr)) hh := by
  obtain ⟨hck, hm⟩ := ss_chk hm
  refine Met.ofW (cc := bb_M_value) (maxL := 3) (ret := (some .boolean)) (by decide) rfl ?_
  intro p e s m args below meth c s₁ B hml hv
  obtain ⟨rfl, hR, hK⟩ := hv
  have hC : CallFix p m c bb_M_value 3 s _ lw_g sR_12 := ⟨B.exec, B.bytes, hml, findClass_of_methodNamed B.named, fun w hw => atoms_spec (ws := ss_w yy_M_value bb_M_value 3 (some .boolean)) B.pre w (List.mem_cons_of_mem _ hw)⟩
  have hx := hC.1
  have hb := hC.2.1
  have hr := B.returns
  have hlocks := B.notSynchronized
  have hS : va_S (ss_A G) s.heap s.heap [] := va_S.rf
  have hl := lv_entry ([ss_v (ss_b G) this]) (n := 3) (by simp [lg_sl, ss_v_cat, ss_cat_i, ss_cat_l, ss_cat_r])
  rw [lg_entry_eq]
  generalize (lg_sl ([ss_v (ss_b G) this]) ++ List.replicate (3 - (lg_sl ([ss_v (ss_b G) this])).length) Slot.unset).toArray = ls at hl ⊢
  have hl : lv_has ls 3 [(0, ss_v (ss_b G) this)] := by simpa [lv_args, ss_v_cat, ss_cat_i, ss_cat_l, ss_cat_r] using hl
  have J_39 : ∀ (h_39 : ss_Hp) (H : Heap) (locs : List Loc) (ls : Array Slot), mm_M_value_j39 N this h_39 = some (rr, hh) → ss_R G h_39 H → va_S (ss_A G) s.heap H locs → lv_has ls 3 [] → ww_M_value p l e s m below meth c G this h rr hh  H locs 0 0 (F0 m 39 ls []) := by
    intro h_39 H locs ls hm hR hS hl
    refine lv_iconst (v := 0) hx hb dd_M_value_39 (by decide) ?_
    exact ss_zret hC hr (by decide) hlocks hR hS hm dd_M_value_40
  refine ss_aload_n hx hb dd_M_value_0 rfl (lv_at hl 0 rfl) ?_
  obtain ⟨v1, h2, qh2, hm⟩ := ss_bind2 hm
  refine ss_cV 0 0 (As := []) hC hK hR hS hl.1 (cc_M_see l G N _ _ _ _ qh2) km_M_99 (ck_M_see qh2) ⟨Nat.le_of_ble_eq_true rfl, Nat.le_of_ble_eq_true rfl⟩ ⟨Nat.le_of_ble_eq_true rfl, Nat.le_of_ble_eq_true rfl, Nat.le_of_ble_eq_true rfl, Nat.le_of_ble_eq_true rfl⟩ rfl rfl (Nat.le_of_ble_eq_true rfl) dd_M_value_1 (fun H locs hR hS => ?_)
  refine lv_pop hx hb dd_M_value_4 rfl ?_
  refine ss_aload_n hx hb dd_M_value_5 rfl (lv_at hl 0 rfl) ?_
  obtain ⟨v3, qv3, hm⟩ := ss_bind hm
  refine ss_geti hC hK hR kf_M_96 qv3 dd_M_value_6 ?_
  refine lv_istore_n (lv' := [(1, .int v3), (0, ss_v (ss_b G) this)]) hx hb dd_M_value_9 rfl hl (by decide) (by simp only [List.filter_cons, ss_v_cat]; rfl) (fun ls hl => ?_)
  refine ss_aload_n hx hb dd_M_value_10 rfl (lv_at hl 1 rfl) ?_
  refine ss_aload_n hx hb dd_M_value_11 rfl (lv_at hl 1 rfl) ?_
  obtain ⟨v4, qv4, hm⟩ := ss_bind hm
  refine ss_geti hC hK hR kf_M_96 qv4 dd_M_value_12 ?_
  obtain ⟨v5, qv5, hm⟩ := ss_bind hm
  refine ss_cV 0 0 (As := [.int v4]) hC hK hR hS hl.1 (cc_M_isDigit l G N _ _ _ _ qv5) km_M_114 (ck_M_isDigit qv5) ⟨Nat.le_of_ble_eq_true rfl, Nat.le_of_ble_eq_true rfl⟩ ⟨Nat.le_of_ble_eq_true rfl, Nat.le_of_ble_eq_true rfl, Nat.le_of_ble_eq_true rfl, Nat.le_of_ble_eq_true rfl⟩ rfl rfl (Nat.le_of_ble_eq_true rfl) dd_M_value_15 (fun H locs hR hS => ?_)
  refine lv_if_eq (tgt := 52) hx hb dd_M_value_18 (by decide) (fun c6 => ?_) (fun c6 => ?_)
  · have hm := ss_ift hm c6
    refine ss_aload_n hx hb dd_M_value_52 rfl (lv_at hl 1 rfl) ?_
    obtain ⟨v7, h8, qh8, hm⟩ := ss_bind2 hm
    refine ss_cV 0 0 (As := []) hC hK hR hS hl.1 (cc_M_wordHere l G N _ _ _ _ qh8) km_M_179 (ck_M_wordHere qh8) ⟨Nat.le_of_ble_eq_true rfl, Nat.le_of_ble_eq_true rfl⟩ ⟨Nat.le_of_ble_eq_true rfl, Nat.le_of_ble_eq_true rfl, Nat.le_of_ble_eq_true rfl, Nat.le_of_ble_eq_true rfl⟩ rfl rfl (Nat.le_of_ble_eq_true rfl) dd_M_value_53 (fun H locs hR hS => ?_)
    refine lv_istore_n (lv' := [(2, .int v7), (1, .int v3), (0, ss_v (ss_b G) this)]) hx hb dd_M_value_56 rfl hl (by decide) rfl (fun ls hl => ?_)
    refine lv_iload_n hx hb dd_M_value_57 rfl (lv_at hl 0 rfl) ?_
    refine lv_if_ge (tgt := 68) hx hb dd_M_value_58 (by decide) (fun c9 => ?_) (fun c9 => ?_)
    · have hm := ss_ift hm c9
      refine ss_aload_n hx hb dd_M_value_68 rfl (lv_at hl 2 rfl) ?_
      refine lv_iload_n hx hb dd_M_value_69 rfl (lv_at hl 1 rfl) ?_
      obtain ⟨v10, h11, qh11, hm⟩ := ss_bind2 hm
      refine ss_cV 0 0 (As := [.int v3]) hC hK hR hS hl.1 (cc_M_makes l G N _ _ _ _ _ qh11) km_M_176 (ck_M_makes qh11) ⟨Nat.le_of_ble_eq_true rfl, Nat.le_of_ble_eq_true rfl⟩ ⟨Nat.le_of_ble_eq_true rfl, Nat.le_of_ble_eq_true rfl, Nat.le_of_ble_eq_true rfl, Nat.le_of_ble_eq_true rfl⟩ rfl rfl (Nat.le_of_ble_eq_true rfl) dd_M_value_70 (fun H locs hR hS => ?_)
      refine lv_if_ne (tgt := 78) hx hb dd_M_value_73 (by decide) (fun c12 => ?_) (fun c12 => ?_)
      · have hm := ss_iff hm c12
        refine ss_aload_n hx hb dd_M_value_78 rfl (lv_at hl 2 rfl) ?_
        obtain ⟨h13, qh13, hm⟩ := ss_bind hm
        refine ss_cVv 0 0 (As := []) hC hK hR hS hl.1 (cc_M_passWord l G N _ _ _ qh13) km_M_111 (ck_M_passWord qh13) ⟨Nat.le_of_ble_eq_true rfl, Nat.le_of_ble_eq_true rfl⟩ ⟨Nat.le_of_ble_eq_true rfl, Nat.le_of_ble_eq_true rfl, Nat.le_of_ble_eq_true rfl, Nat.le_of_ble_eq_true rfl⟩ rfl rfl (Nat.le_of_ble_eq_true rfl) dd_M_value_79 (fun H locs hR hS => ?_)
        refine ss_aload_n hx hb dd_M_value_82 rfl (lv_at hl 2 rfl) ?_
        refine lv_iconst (v := 1) hx hb dd_M_value_83 (by decide) ?_
        refine lv_iload_n hx hb dd_M_value_84 rfl (lv_at hl 0 rfl) ?_
        obtain ⟨h14, qh14, hm⟩ := ss_bind hm
        refine ss_cVv 0 0 (As := [.int (1 : Int32), .int v7]) hC hK hR hS hl.1 (cc_M_puts l G N _ _ _ _ _ qh14) km_M_168 (ck_M_puts qh14) ⟨Nat.le_of_ble_eq_true rfl, Nat.le_of_ble_eq_true rfl⟩ ⟨Nat.le_of_ble_eq_true rfl, Nat.le_of_ble_eq_true rfl, Nat.le_of_ble_eq_true rfl, Nat.le_of_ble_eq_true rfl⟩ rfl rfl (Nat.le_of_ble_eq_true rfl) dd_M_value_85 (fun H locs hR hS => ?_)
        refine lv_iconst (v := 1) hx hb dd_M_value_88 (by decide) ?_
        exact ss_zret hC hr (by decide) hlocks hR hS hm dd_M_value_89
      · have hm := ss_ift hm c12
        refine lv_iconst (v := 0) hx hb dd_M_value_76 (by decide) ?_
        exact ss_zret hC hr (by decide) hlocks hR hS hm dd_M_value_77
    · have hm := ss_iff hm c9
      refine ss_aload_n hx hb dd_M_value_61 rfl (lv_at hl 2 rfl) ?_
      refine lv_iconst (v := 0) hx hb dd_M_value_62 (by decide) ?_
      refine lv_iload_n hx hb dd_M_value_63 rfl (lv_at hl 1 rfl) ?_
      obtain ⟨v15, h16, qh16, hm⟩ := ss_bind2 hm
      refine ss_cV 0 0 (As := [.int (0 : Int32), .int v3]) hC hK hR hS hl.1 (cc_M_fails l G N _ _ _ _ _ _ qh16) km_M_117 (ck_M_fails qh16) ⟨Nat.le_of_ble_eq_true rfl, Nat.le_of_ble_eq_true rfl⟩ ⟨Nat.le_of_ble_eq_true rfl, Nat.le_of_ble_eq_true rfl, Nat.le_of_ble_eq_true rfl, Nat.le_of_ble_eq_true rfl⟩ rfl rfl (Nat.le_of_ble_eq_true rfl) dd_M_value_64 (fun H locs hR hS => ?_)
      obtain ⟨v17, qv17, hm⟩ := ss_bind hm
      obtain ⟨hnb, rfl⟩ := ss_bzs qv17
      exact ss_zret hC hr hnb hlocks hR hS hm dd_M_value_67
  · have hm := ss_iff hm c6
    refine ss_aload_n hx hb dd_M_value_21 rfl (lv_at hl 1 rfl) ?_
    refine lv_iconst (v := 0) hx hb dd_M_value_22 (by decide) ?_
    refine lv_ldc (v := 99999) hx hb hC.2.2.2.1 (hC.2.2.2.2 _ kc_M_172) dd_M_value_23 ?_
    obtain ⟨v18, h19, qh19, hm⟩ := ss_bind2 hm
    refine ss_cV 0 0 (As := [.int (0 : Int32), .int (99999 : Int32)]) hC hK hR hS hl.1 (cc_M_numberHere l G N _ _ _ _ _ _ qh19) km_M_173 (ck_M_numberHere qh19) ⟨Nat.le_of_ble_eq_true rfl, Nat.le_of_ble_eq_true rfl⟩ ⟨Nat.le_of_ble_eq_true rfl, Nat.le_of_ble_eq_true rfl, Nat.le_of_ble_eq_true rfl, Nat.le_of_ble_eq_true rfl⟩ rfl rfl (Nat.le_of_ble_eq_true rfl) dd_M_value_25 (fun H locs hR hS => ?_)
    refine lv_if_eq (tgt := 39) hx hb dd_M_value_28 (by decide) (fun c20 => ?_) (fun c20 => ?_)
    · have hm := ss_ift hm c20
      exact J_39 h19 _ _ _ hm hR hS (lv_sub hl [] rfl)
    · have hm := ss_iff hm c20
      refine ss_aload_n hx hb dd_M_value_31 rfl (lv_at hl 1 rfl) ?_
      refine lv_iload_n hx hb dd_M_value_32 rfl (lv_at hl 0 rfl) ?_
      obtain ⟨v21, h22, qh22, hm⟩ := ss_bind2 hm
      refine ss_cV 0 0 (As := [.int v3]) hC hK hR hS hl.1 (cc_M_makes l G N _ _ _ _ _ qh22) km_M_176 (ck_M_makes qh22) ⟨Nat.le_of_ble_eq_true rfl, Nat.le_of_ble_eq_true rfl⟩ ⟨Nat.le_of_ble_eq_true rfl, Nat.le_of_ble_eq_true rfl, Nat.le_of_ble_eq_true rfl, Nat.le_of_ble_eq_true rfl⟩ rfl rfl (Nat.le_of_ble_eq_true rfl) dd_M_value_33 (fun H locs hR hS => ?_)
      refine lv_if_ne (tgt := 41) hx hb dd_M_value_36 (by decide) (fun c23 => ?_) (fun c23 => ?_)
      · have hm := ss_iff hm c23
        refine ss_aload_n hx hb dd_M_value_41 rfl (lv_at hl 1 rfl) ?_
        refine lv_iconst (v := 0) hx hb dd_M_value_42 (by decide) ?_
        refine ss_aload_n hx hb dd_M_value_43 rfl (lv_at hl 1 rfl) ?_
        obtain ⟨v24, qv24, hm⟩ := ss_bind hm
        refine ss_geti hC hK hR kf_M_121 qv24 dd_M_value_44 ?_
        obtain ⟨h25, qh25, hm⟩ := ss_bind hm
        refine ss_cVv 0 0 (As := [.int (0 : Int32), .int v24]) hC hK hR hS hl.1 (cc_M_puts l G N _ _ _ _ _ qh25) km_M_168 (ck_M_puts qh25) ⟨Nat.le_of_ble_eq_true rfl, Nat.le_of_ble_eq_true rfl⟩ ⟨Nat.le_of_ble_eq_true rfl, Nat.le_of_ble_eq_true rfl, Nat.le_of_ble_eq_true rfl, Nat.le_of_ble_eq_true rfl⟩ rfl rfl (Nat.le_of_ble_eq_true rfl) dd_M_value_47 (fun H locs hR hS => ?_)
        refine lv_iconst (v := 1) hx hb dd_M_value_50 (by decide) ?_
        exact ss_zret hC hr (by decide) hlocks hR hS hm dd_M_value_51
      · have hm := ss_ift hm c23
        exact J_39 h22 _ _ _ hm hR hS (lv_sub hl [] rfl)
theorem dd_M_term_0 : decode bb_M_term 0 = .ok (.aload_n 0, 1) := by decide +kernel
theorem dd_M_term_1 : decode bb_M_term 1 = .ok (.invokevirtual 182, 3) := by decide +kernel
theorem dd_M_term_4 : decode bb_M_term 4 = .ok (.ifCond .ne 5, 3) := by decide +kernel
theorem dd_M_term_7 : decode bb_M_term 7 = .ok (.iconst 0, 1) := by decide +kernel
theorem dd_M_term_8 : decode bb_M_term 8 = .ok (.ireturn, 1) := by decide +kernel
theorem dd_M_term_9 : decode bb_M_term 9 = .ok (.aload_n 0, 1) := by decide +kernel
theorem dd_M_term_10 : decode bb_M_term 10 = .ok (.invokevirtual 99, 3) := by decide +kernel
theorem dd_M_term_13 : decode bb_M_term 13 = .ok (.bipush 42, 2) := by decide +kernel
theorem dd_M_term_15 : decode bb_M_term 15 = .ok (.if_icmp .eq 21, 3) := by decide +kernel
theorem dd_M_term_18 : decode bb_M_term 18 = .ok (.aload_n 0, 1) := by decide +kernel
theorem dd_M_term_19 : decode bb_M_term 19 = .ok (.invokevirtual 99, 3) := by decide +kernel
theorem dd_M_term_22 : decode bb_M_term 22 = .ok (.bipush 47, 2) := by decide +kernel
theorem dd_M_term_24 : decode bb_M_term 24 = .ok (.if_icmp .eq 12, 3) := by decide +kernel
theorem dd_M_term_27 : decode bb_M_term 27 = .ok (.aload_n 0, 1) := by decide +kernel
theorem dd_M_term_28 : decode bb_M_term 28 = .ok (.invokevirtual 99, 3) := by decide +kernel
theorem dd_M_term_31 : decode bb_M_term 31 = .ok (.bipush 37, 2) := by decide +kernel
theorem dd_M_term_33 : decode bb_M_term 33 = .ok (.if_icmp .ne 70, 3) := by decide +kernel
theorem dd_M_term_36 : decode bb_M_term 36 = .ok (.aload_n 0, 1) := by decide +kernel
theorem dd_M_term_37 : decode bb_M_term 37 = .ok (.getfield 7, 3) := by decide +kernel
theorem dd_M_term_40 : decode bb_M_term 40 = .ok (.aload_n 0, 1) := by decide +kernel
theorem dd_M_term_41 : decode bb_M_term 41 = .ok (.getfield 96, 3) := by decide +kernel
theorem dd_M_term_44 : decode bb_M_term 44 = .ok (.baload, 1) := by decide +kernel
theorem dd_M_term_45 : decode bb_M_term 45 = .ok (.bipush 42, 2) := by decide +kernel
theorem dd_M_term_47 : decode bb_M_term 47 = .ok (.if_icmp .ne 7, 3) := by decide +kernel
theorem dd_M_term_50 : decode bb_M_term 50 = .ok (.iconst 4, 1) := by decide +kernel
theorem dd_M_term_51 : decode bb_M_term 51 = .ok (.goto 23, 3) := by decide +kernel
theorem dd_M_term_54 : decode bb_M_term 54 = .ok (.aload_n 0, 1) := by decide +kernel
theorem dd_M_term_55 : decode bb_M_term 55 = .ok (.getfield 7, 3) := by decide +kernel
theorem dd_M_term_58 : decode bb_M_term 58 = .ok (.aload_n 0, 1) := by decide +kernel
theorem dd_M_term_59 : decode bb_M_term 59 = .ok (.getfield 96, 3) := by decide +kernel
theorem dd_M_term_62 : decode bb_M_term 62 = .ok (.baload, 1) := by decide +kernel
theorem dd_M_term_63 : decode bb_M_term 63 = .ok (.bipush 47, 2) := by decide +kernel
theorem dd_M_term_65 : decode bb_M_term 65 = .ok (.if_icmp .ne 7, 3) := by decide +kernel
theorem dd_M_term_68 : decode bb_M_term 68 = .ok (.iconst 5, 1) := by decide +kernel
theorem dd_M_term_69 : decode bb_M_term 69 = .ok (.goto 5, 3) := by decide +kernel
theorem dd_M_term_72 : decode bb_M_term 72 = .ok (.bipush 14, 2) := by decide +kernel
theorem dd_M_term_74 : decode bb_M_term 74 = .ok (.istore_n 1, 1) := by decide +kernel
theorem dd_M_term_75 : decode bb_M_term 75 = .ok (.aload_n 0, 1) := by decide +kernel
theorem dd_M_term_76 : decode bb_M_term 76 = .ok (.dup, 1) := by decide +kernel
theorem dd_M_term_77 : decode bb_M_term 77 = .ok (.getfield 96, 3) := by decide +kernel
theorem dd_M_term_80 : decode bb_M_term 80 = .ok (.iconst 1, 1) := by decide +kernel
theorem dd_M_term_81 : decode bb_M_term 81 = .ok (.iadd, 1) := by decide +kernel
theorem dd_M_term_82 : decode bb_M_term 82 = .ok (.putfield 96, 3) := by decide +kernel
theorem dd_M_term_85 : decode bb_M_term 85 = .ok (.aload_n 0, 1) := by decide +kernel
theorem dd_M_term_86 : decode bb_M_term 86 = .ok (.invokevirtual 182, 3) := by decide +kernel
theorem dd_M_term_89 : decode bb_M_term 89 = .ok (.ifCond .ne 5, 3) := by decide +kernel
theorem dd_M_term_92 : decode bb_M_term 92 = .ok (.iconst 0, 1) := by decide +kernel
theorem dd_M_term_93 : decode bb_M_term 93 = .ok (.ireturn, 1) := by decide +kernel
theorem dd_M_term_94 : decode bb_M_term 94 = .ok (.aload_n 0, 1) := by decide +kernel
theorem dd_M_term_95 : decode bb_M_term 95 = .ok (.iload_n 1, 1) := by decide +kernel
theorem dd_M_term_96 : decode bb_M_term 96 = .ok (.iconst 0, 1) := by decide +kernel
theorem dd_M_term_97 : decode bb_M_term 97 = .ok (.invokevirtual 168, 3) := by decide +kernel
theorem dd_M_term_100 : decode bb_M_term 100 = .ok (.goto (-91), 3) := by decide +kernel
theorem dd_M_term_103 : decode bb_M_term 103 = .ok (.iconst 1, 1) := by decide +kernel
theorem dd_M_term_104 : decode bb_M_term 104 = .ok (.ireturn, 1) := by decide +kernel
def mm_M_term_j74 (N : Nat) (this : Option Nat) (s0_74 : Int32) (h_74 : ss_Hp) : Option (ss_Hp ⊕ (ss_Hp ⊕ ss_Hp)) :=
  (ss_gi h_74 this 12 2).bind fun v4 =>
  (ss_pi h_74 this 12 2 (v4 + (1 : Int32))).bind fun h5 =>
  ss_b2 (mm_M_value N this h5) fun v6 h7 =>
  if v6 = 0 then
    some (.inr (.inr h7))
  else
    (mm_M_puts N this s0_74 (0 : Int32) h7).bind fun h9 =>
    some (.inl h9)
def mm_M_term_j36 (N : Nat) (this : Option Nat) (h_36 : ss_Hp) : Option (ss_Hp ⊕ (ss_Hp ⊕ ss_Hp)) :=
  (ss_gr h_36 this 12 0).bind fun r10 =>
  (ss_gi h_36 this 12 2).bind fun v11 =>
  (ss_ai h_36 r10 21 v11).bind fun v12 =>
  if v12 = (42 : Int32) then
    mm_M_term_j74 N this (4 : Int32) h_36
  else
    (ss_gr h_36 this 12 0).bind fun r14 =>
    (ss_gi h_36 this 12 2).bind fun v15 =>
    (ss_ai h_36 r14 21 v15).bind fun v16 =>
    if v16 = (47 : Int32) then
      mm_M_term_j74 N this (5 : Int32) h_36
    else
      mm_M_term_j74 N this (14 : Int32) h_36
def mm_M_term_b9 (N : Nat) (this : Option Nat) (st : ss_Hp) : Option (ss_Hp ⊕ (ss_Hp ⊕ ss_Hp)) :=
  match st with
  | h_9 =>
    ss_b2 (mm_M_see N this h_9) fun v18 h19 =>
    if v18 = (42 : Int32) then
      mm_M_term_j36 N this h19
    else
      ss_b2 (mm_M_see N this h19) fun v21 h22 =>
      if v21 = (47 : Int32) then
        mm_M_term_j36 N this h22
      else
        ss_b2 (mm_M_see N this h22) fun v24 h25 =>
        if v24 = (37 : Int32) then
          mm_M_term_j36 N this h25
        else
          some (.inr (.inl h25))
def mm_M_term (N : Nat) (this : Option Nat) (h : ss_Hp) : Option (Int32 × ss_Hp) :=
  if ss_is h this 12 = true then
    ss_b2 (mm_M_value N this h) fun v1 h2 =>
    if v1 = 0 then
      some ((0 : Int32), h2)
    else
      (ss_lp (mm_M_term_b9 N this) N h2).bind fun e_9 =>
      match e_9 with
      | (.inl h_9_103) =>
        some ((1 : Int32), h_9_103)
      | (.inr h_9_92) =>
        some ((0 : Int32), h_9_92)
  else none
abbrev ww_M_term (p : Program) (l : Launch) (e : Env) (s : State) (m : MethodId) (below : List Frame) (meth : Method) (c : Code) (G : ss_G) (this : Option Nat) (h : ss_Hp) (rr : Int32) (hh : ss_Hp) (H : Heap) (locs : List Loc) (k n : Nat) (g : JFrame) : Prop := W p l e (headSpec (ss_w yy_M_term bb_M_term 2 (some .boolean)) ({ frames := 4, cells := 0, slots := 0, locals := 88 })).room s m ([ss_v (ss_b G) this] : List Value).toArray below meth c H locs k n (MQ below (ss_Qc G (some (.int rr)) hh) ([ss_v (ss_b G) this] : List Value).toArray s 0 0 (ss_A G)) g
theorem ck_M_term {N : Nat} {this : Option Nat} {h : ss_Hp} {res : Int32 × ss_Hp} (hm : mm_M_term N this h = some res) : ss_is h this 12 = true := (ss_chk hm).1
set_option maxHeartbeats 4000000 in
set_option maxRecDepth 100000 in
theorem cc_M_term (l : Launch) (G : ss_G) (N : Nat) (this : Option Nat) (h : ss_Hp) (rr : Int32) (hh : ss_Hp) (hm : mm_M_term N this h = some (rr, hh)) : ss_Ct l G yy_M_term bb_M_term 2 (some .boolean) ({ frames := 4, cells := 0, slots := 0, locals := 88 }) [ss_v (ss_b G) this] h (some (.int rr)) hh := by
  obtain ⟨hck, hm⟩ := ss_chk hm
  refine Met.ofW (cc := bb_M_term) (maxL := 2) (ret := (some .boolean)) (by decide) rfl ?_
  intro p e s m args below meth c s₁ B hml hv
  obtain ⟨rfl, hR, hK⟩ := hv
  have hC : CallFix p m c bb_M_term 2 s _ lw_g sR_12 := ⟨B.exec, B.bytes, hml, findClass_of_methodNamed B.named, fun w hw => atoms_spec (ws := ss_w yy_M_term bb_M_term 2 (some .boolean)) B.pre w (List.mem_cons_of_mem _ hw)⟩
  have hx := hC.1
  have hb := hC.2.1
  have hr := B.returns
  have hlocks := B.notSynchronized
  have hS : va_S (ss_A G) s.heap s.heap [] := va_S.rf
  have hl := lv_entry ([ss_v (ss_b G) this]) (n := 2) (by simp [lg_sl, ss_v_cat, ss_cat_i, ss_cat_l, ss_cat_r])
  rw [lg_entry_eq]
  generalize (lg_sl ([ss_v (ss_b G) this]) ++ List.replicate (2 - (lg_sl ([ss_v (ss_b G) this])).length) Slot.unset).toArray = ls at hl ⊢
  have hl : lv_has ls 2 [(0, ss_v (ss_b G) this)] := by simpa [lv_args, ss_v_cat, ss_cat_i, ss_cat_l, ss_cat_r] using hl
  refine ss_aload_n hx hb dd_M_term_0 rfl (lv_at hl 0 rfl) ?_
  obtain ⟨v1, h2, qh2, hm⟩ := ss_bind2 hm
  refine ss_cV 0 0 (As := []) hC hK hR hS hl.1 (cc_M_value l G N _ _ _ _ qh2) km_M_182 (ck_M_value qh2) ⟨Nat.le_of_ble_eq_true rfl, Nat.le_of_ble_eq_true rfl⟩ ⟨Nat.le_of_ble_eq_true rfl, Nat.le_of_ble_eq_true rfl, Nat.le_of_ble_eq_true rfl, Nat.le_of_ble_eq_true rfl⟩ rfl rfl (Nat.le_of_ble_eq_true rfl) dd_M_term_1 (fun H locs hR hS => ?_)
  refine lv_if_ne (tgt := 9) hx hb dd_M_term_4 (by decide) (fun c3 => ?_) (fun c3 => ?_)
  · have hm := ss_iff hm c3
    obtain ⟨e_9, he_9, hm⟩ := ss_bind hm
    have X_9_103 : ∀  (h_9_103 : ss_Hp) (H : Heap) (locs : List Loc) (ls : Array Slot), e_9 = (.inl h_9_103) → ss_R G h_9_103 H → va_S (ss_A G) s.heap H locs → lv_has ls 2 [] → ww_M_term p l e s m below meth c G this h rr hh  H locs 0 0 (F0 m 103 ls []) := by
      intro h_9_103 H locs ls hq hR hS hl
      rw [hq] at hm
      refine lv_iconst (v := 1) hx hb dd_M_term_103 (by decide) ?_
      exact ss_zret hC hr (by decide) hlocks hR hS hm dd_M_term_104
    have X_9_92 : ∀  (h_9_92 : ss_Hp) (H : Heap) (locs : List Loc) (ls : Array Slot), e_9 = (.inr h_9_92) → ss_R G h_9_92 H → va_S (ss_A G) s.heap H locs → lv_has ls 2 [] → ww_M_term p l e s m below meth c G this h rr hh  H locs 0 0 (F0 m 92 ls []) := by
      intro h_9_92 H locs ls hq hR hS hl
      rw [hq] at hm
      refine lv_iconst (v := 0) hx hb dd_M_term_92 (by decide) ?_
      exact ss_zret hC hr (by decide) hlocks hR hS hm dd_M_term_93
    have L_9 : ∀ (n : Nat)  (h_9 : ss_Hp) (H : Heap) (locs : List Loc) (ls : Array Slot), ss_lp (mm_M_term_b9 N this) n h_9 = some e_9 → ss_R G h_9 H → va_S (ss_A G) s.heap H locs → lv_has ls 2 [(0, ss_v (ss_b G) this)] → ww_M_term p l e s m below meth c G this h rr hh  H locs 0 0 (F0 m 9 ls []) := by
      intro n
      induction n with
      | zero => intro h_9 H locs ls hm; cases hm
      | succ n ih_9 =>
        intro h_9 H locs ls hm hR hS hl
        obtain ⟨z_9, hm, hz1_9, hz2_9⟩ := ss_lps hm
        have J_74 : ∀ (s0_74 : Int32) (h_74 : ss_Hp) (H : Heap) (locs : List Loc) (ls : Array Slot), mm_M_term_j74 N this s0_74 h_74 = some z_9 → ss_R G h_74 H → va_S (ss_A G) s.heap H locs → lv_has ls 2 [(0, ss_v (ss_b G) this)] → ww_M_term p l e s m below meth c G this h rr hh  H locs 0 0 (F0 m 74 ls [.int s0_74]) := by
          intro s0_74 h_74 H locs ls hm hR hS hl
          refine lv_istore_n (lv' := [(1, .int s0_74), (0, ss_v (ss_b G) this)]) hx hb dd_M_term_74 rfl hl (by decide) (by simp only [List.filter_cons, ss_v_cat]; rfl) (fun ls hl => ?_)
          refine ss_aload_n hx hb dd_M_term_75 rfl (lv_at hl 1 rfl) ?_
          refine ss_dupr hx hb dd_M_term_76 ?_
          obtain ⟨v4, qv4, hm⟩ := ss_bind hm
          refine ss_geti hC hK hR kf_M_96 qv4 dd_M_term_77 ?_
          refine lv_iconst (v := 1) hx hb dd_M_term_80 (by decide) ?_
          refine lv_iadd hx hb dd_M_term_81 ?_
          obtain ⟨h5, qh5, hm⟩ := ss_bind hm
          refine ss_puti hC hK hR hS kp_M_96 qh5 dd_M_term_82 (fun H locs hR hS => ?_)
          refine ss_aload_n hx hb dd_M_term_85 rfl (lv_at hl 1 rfl) ?_
          obtain ⟨v6, h7, qh7, hm⟩ := ss_bind2 hm
          refine ss_cV 0 0 (As := []) hC hK hR hS hl.1 (cc_M_value l G N _ _ _ _ qh7) km_M_182 (ck_M_value qh7) ⟨Nat.le_of_ble_eq_true rfl, Nat.le_of_ble_eq_true rfl⟩ ⟨Nat.le_of_ble_eq_true rfl, Nat.le_of_ble_eq_true rfl, Nat.le_of_ble_eq_true rfl, Nat.le_of_ble_eq_true rfl⟩ rfl rfl (Nat.le_of_ble_eq_true rfl) dd_M_term_86 (fun H locs hR hS => ?_)
          refine lv_if_ne (tgt := 94) hx hb dd_M_term_89 (by decide) (fun c8 => ?_) (fun c8 => ?_)
          · have hm := ss_iff hm c8
            refine ss_aload_n hx hb dd_M_term_94 rfl (lv_at hl 1 rfl) ?_
            refine lv_iload_n hx hb dd_M_term_95 rfl (lv_at hl 0 rfl) ?_
            refine lv_iconst (v := 0) hx hb dd_M_term_96 (by decide) ?_
            obtain ⟨h9, qh9, hm⟩ := ss_bind hm
            refine ss_cVv 0 0 (As := [.int s0_74, .int (0 : Int32)]) hC hK hR hS hl.1 (cc_M_puts l G N _ _ _ _ _ qh9) km_M_168 (ck_M_puts qh9) ⟨Nat.le_of_ble_eq_true rfl, Nat.le_of_ble_eq_true rfl⟩ ⟨Nat.le_of_ble_eq_true rfl, Nat.le_of_ble_eq_true rfl, Nat.le_of_ble_eq_true rfl, Nat.le_of_ble_eq_true rfl⟩ rfl rfl (Nat.le_of_ble_eq_true rfl) dd_M_term_97 (fun H locs hR hS => ?_)
            refine lv_goto (tgt := 9) hx hb dd_M_term_100 (by decide) ?_
            exact ih_9 h9 _ _ _ (hz1_9 _ (ss_some hm)) hR hS (lv_sub hl [1] rfl)
          · have hm := ss_ift hm c8
            exact X_9_92 h7 _ _ _ (hz2_9 _ (ss_some hm)) hR hS (lv_sub hl [] rfl)
        have J_36 : ∀ (h_36 : ss_Hp) (H : Heap) (locs : List Loc) (ls : Array Slot), mm_M_term_j36 N this h_36 = some z_9 → ss_R G h_36 H → va_S (ss_A G) s.heap H locs → lv_has ls 2 [(0, ss_v (ss_b G) this)] → ww_M_term p l e s m below meth c G this h rr hh  H locs 0 0 (F0 m 36 ls []) := by
          intro h_36 H locs ls hm hR hS hl
          refine ss_aload_n hx hb dd_M_term_36 rfl (lv_at hl 0 rfl) ?_
          obtain ⟨r10, qr10, hm⟩ := ss_bind hm
          refine ss_getr hC hK hR kf_M_7 rfl qr10 dd_M_term_37 ?_
          refine ss_aload_n hx hb dd_M_term_40 rfl (lv_at hl 0 rfl) ?_
          obtain ⟨v11, qv11, hm⟩ := ss_bind hm
          refine ss_geti hC hK hR kf_M_96 qv11 dd_M_term_41 ?_
          obtain ⟨v12, qv12, hm⟩ := ss_bind hm
          refine ss_bald hC hK hR qv12 dd_M_term_44 ?_
          refine lv_bipush (v := 42) hx hb dd_M_term_45 (by decide) ?_
          refine lv_icmp_ne (tgt := 54) hx hb dd_M_term_47 (by decide) (fun c13 => ?_) (fun c13 => ?_)
          · have hm := ss_iff hm c13
            refine ss_aload_n hx hb dd_M_term_54 rfl (lv_at hl 0 rfl) ?_
            obtain ⟨r14, qr14, hm⟩ := ss_bind hm
            refine ss_getr hC hK hR kf_M_7 rfl qr14 dd_M_term_55 ?_
            refine ss_aload_n hx hb dd_M_term_58 rfl (lv_at hl 0 rfl) ?_
            obtain ⟨v15, qv15, hm⟩ := ss_bind hm
            refine ss_geti hC hK hR kf_M_96 qv15 dd_M_term_59 ?_
            obtain ⟨v16, qv16, hm⟩ := ss_bind hm
            refine ss_bald hC hK hR qv16 dd_M_term_62 ?_
            refine lv_bipush (v := 47) hx hb dd_M_term_63 (by decide) ?_
            refine lv_icmp_ne (tgt := 72) hx hb dd_M_term_65 (by decide) (fun c17 => ?_) (fun c17 => ?_)
            · have hm := ss_iff hm c17
              refine lv_bipush (v := 14) hx hb dd_M_term_72 (by decide) ?_
              exact J_74 (14 : Int32) h_36 _ _ _ hm hR hS hl
            · have hm := ss_ift hm c17
              refine lv_iconst (v := 5) hx hb dd_M_term_68 (by decide) ?_
              refine lv_goto (tgt := 74) hx hb dd_M_term_69 (by decide) ?_
              exact J_74 (5 : Int32) h_36 _ _ _ hm hR hS hl
          · have hm := ss_ift hm c13
            refine lv_iconst (v := 4) hx hb dd_M_term_50 (by decide) ?_
            refine lv_goto (tgt := 74) hx hb dd_M_term_51 (by decide) ?_
            exact J_74 (4 : Int32) h_36 _ _ _ hm hR hS hl
        refine ss_aload_n hx hb dd_M_term_9 rfl (lv_at hl 0 rfl) ?_
        obtain ⟨v18, h19, qh19, hm⟩ := ss_bind2 hm
        refine ss_cV 0 0 (As := []) hC hK hR hS hl.1 (cc_M_see l G N _ _ _ _ qh19) km_M_99 (ck_M_see qh19) ⟨Nat.le_of_ble_eq_true rfl, Nat.le_of_ble_eq_true rfl⟩ ⟨Nat.le_of_ble_eq_true rfl, Nat.le_of_ble_eq_true rfl, Nat.le_of_ble_eq_true rfl, Nat.le_of_ble_eq_true rfl⟩ rfl rfl (Nat.le_of_ble_eq_true rfl) dd_M_term_10 (fun H locs hR hS => ?_)
        refine lv_bipush (v := 42) hx hb dd_M_term_13 (by decide) ?_
        refine lv_icmp_eq (tgt := 36) hx hb dd_M_term_15 (by decide) (fun c20 => ?_) (fun c20 => ?_)
        · have hm := ss_ift hm c20
          exact J_36 h19 _ _ _ hm hR hS hl
        · have hm := ss_iff hm c20
          refine ss_aload_n hx hb dd_M_term_18 rfl (lv_at hl 0 rfl) ?_
          obtain ⟨v21, h22, qh22, hm⟩ := ss_bind2 hm
          refine ss_cV 0 0 (As := []) hC hK hR hS hl.1 (cc_M_see l G N _ _ _ _ qh22) km_M_99 (ck_M_see qh22) ⟨Nat.le_of_ble_eq_true rfl, Nat.le_of_ble_eq_true rfl⟩ ⟨Nat.le_of_ble_eq_true rfl, Nat.le_of_ble_eq_true rfl, Nat.le_of_ble_eq_true rfl, Nat.le_of_ble_eq_true rfl⟩ rfl rfl (Nat.le_of_ble_eq_true rfl) dd_M_term_19 (fun H locs hR hS => ?_)
          refine lv_bipush (v := 47) hx hb dd_M_term_22 (by decide) ?_
          refine lv_icmp_eq (tgt := 36) hx hb dd_M_term_24 (by decide) (fun c23 => ?_) (fun c23 => ?_)
          · have hm := ss_ift hm c23
            exact J_36 h22 _ _ _ hm hR hS hl
          · have hm := ss_iff hm c23
            refine ss_aload_n hx hb dd_M_term_27 rfl (lv_at hl 0 rfl) ?_
            obtain ⟨v24, h25, qh25, hm⟩ := ss_bind2 hm
            refine ss_cV 0 0 (As := []) hC hK hR hS hl.1 (cc_M_see l G N _ _ _ _ qh25) km_M_99 (ck_M_see qh25) ⟨Nat.le_of_ble_eq_true rfl, Nat.le_of_ble_eq_true rfl⟩ ⟨Nat.le_of_ble_eq_true rfl, Nat.le_of_ble_eq_true rfl, Nat.le_of_ble_eq_true rfl, Nat.le_of_ble_eq_true rfl⟩ rfl rfl (Nat.le_of_ble_eq_true rfl) dd_M_term_28 (fun H locs hR hS => ?_)
            refine lv_bipush (v := 37) hx hb dd_M_term_31 (by decide) ?_
            refine lv_icmp_ne (tgt := 103) hx hb dd_M_term_33 (by decide) (fun c26 => ?_) (fun c26 => ?_)
            · have hm := ss_iff hm c26
              exact X_9_103 h25 _ _ _ (hz2_9 _ (ss_some hm)) hR hS (lv_sub hl [] rfl)
            · have hm := ss_ift hm c26
              exact J_36 h25 _ _ _ hm hR hS hl
    exact L_9 N h2 _ _ _ he_9 hR hS hl
  · have hm := ss_ift hm c3
    refine lv_iconst (v := 0) hx hb dd_M_term_7 (by decide) ?_
    exact ss_zret hC hr (by decide) hlocks hR hS hm dd_M_term_8
