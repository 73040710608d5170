theorem dd_VR_readClause_0 : decode bb_VR_readClause 0 = .ok (.aload_n 0, 1) := by decide +kernel
theorem dd_VR_readClause_1 : decode bb_VR_readClause 1 = .ok (.getfield 9, 3) := by decide +kernel
theorem dd_VR_readClause_4 : decode bb_VR_readClause 4 = .ok (.ldc 41, 2) := by decide +kernel
theorem dd_VR_readClause_6 : decode bb_VR_readClause 6 = .ok (.invokevirtual 43, 3) := by decide +kernel
theorem dd_VR_readClause_9 : decode bb_VR_readClause 9 = .ok (.istore_n 2, 1) := by decide +kernel
theorem dd_VR_readClause_10 : decode bb_VR_readClause 10 = .ok (.iload_n 2, 1) := by decide +kernel
theorem dd_VR_readClause_11 : decode bb_VR_readClause 11 = .ok (.iconst (-1), 1) := by decide +kernel
theorem dd_VR_readClause_12 : decode bb_VR_readClause 12 = .ok (.if_icmp .ne 12, 3) := by decide +kernel
theorem dd_VR_readClause_15 : decode bb_VR_readClause 15 = .ok (.aload_n 0, 1) := by decide +kernel
theorem dd_VR_readClause_16 : decode bb_VR_readClause 16 = .ok (.getfield 9, 3) := by decide +kernel
theorem dd_VR_readClause_19 : decode bb_VR_readClause 19 = .ok (.iconst 0, 1) := by decide +kernel
theorem dd_VR_readClause_20 : decode bb_VR_readClause 20 = .ok (.invokevirtual 47, 3) := by decide +kernel
theorem dd_VR_readClause_23 : decode bb_VR_readClause 23 = .ok (.return_, 1) := by decide +kernel
theorem dd_VR_readClause_24 : decode bb_VR_readClause 24 = .ok (.aload_n 0, 1) := by decide +kernel
theorem dd_VR_readClause_25 : decode bb_VR_readClause 25 = .ok (.iload_n 2, 1) := by decide +kernel
theorem dd_VR_readClause_26 : decode bb_VR_readClause 26 = .ok (.iload_n 1, 1) := by decide +kernel
theorem dd_VR_readClause_27 : decode bb_VR_readClause 27 = .ok (.invokevirtual 50, 3) := by decide +kernel
theorem dd_VR_readClause_30 : decode bb_VR_readClause 30 = .ok (.ifCond .ne 12, 3) := by decide +kernel
theorem dd_VR_readClause_33 : decode bb_VR_readClause 33 = .ok (.aload_n 0, 1) := by decide +kernel
theorem dd_VR_readClause_34 : decode bb_VR_readClause 34 = .ok (.getfield 9, 3) := by decide +kernel
theorem dd_VR_readClause_37 : decode bb_VR_readClause 37 = .ok (.iconst 4, 1) := by decide +kernel
theorem dd_VR_readClause_38 : decode bb_VR_readClause 38 = .ok (.invokevirtual 47, 3) := by decide +kernel
theorem dd_VR_readClause_41 : decode bb_VR_readClause 41 = .ok (.return_, 1) := by decide +kernel
theorem dd_VR_readClause_42 : decode bb_VR_readClause 42 = .ok (.aload_n 0, 1) := by decide +kernel
theorem dd_VR_readClause_43 : decode bb_VR_readClause 43 = .ok (.getfield 9, 3) := by decide +kernel
theorem dd_VR_readClause_46 : decode bb_VR_readClause 46 = .ok (.invokevirtual 54, 3) := by decide +kernel
theorem dd_VR_readClause_49 : decode bb_VR_readClause 49 = .ok (.iload_n 2, 1) := by decide +kernel
theorem dd_VR_readClause_50 : decode bb_VR_readClause 50 = .ok (.tableswitch 69 0 4 #[34, 41, 48, 55, 62], 34) := by decide +kernel
theorem dd_VR_readClause_84 : decode bb_VR_readClause 84 = .ok (.aload_n 0, 1) := by decide +kernel
theorem dd_VR_readClause_85 : decode bb_VR_readClause 85 = .ok (.invokevirtual 57, 3) := by decide +kernel
theorem dd_VR_readClause_88 : decode bb_VR_readClause 88 = .ok (.goto 35, 3) := by decide +kernel
theorem dd_VR_readClause_91 : decode bb_VR_readClause 91 = .ok (.aload_n 0, 1) := by decide +kernel
theorem dd_VR_readClause_92 : decode bb_VR_readClause 92 = .ok (.invokevirtual 60, 3) := by decide +kernel
theorem dd_VR_readClause_95 : decode bb_VR_readClause 95 = .ok (.goto 28, 3) := by decide +kernel
theorem dd_VR_readClause_98 : decode bb_VR_readClause 98 = .ok (.aload_n 0, 1) := by decide +kernel
theorem dd_VR_readClause_99 : decode bb_VR_readClause 99 = .ok (.invokevirtual 63, 3) := by decide +kernel
theorem dd_VR_readClause_102 : decode bb_VR_readClause 102 = .ok (.goto 21, 3) := by decide +kernel
theorem dd_VR_readClause_105 : decode bb_VR_readClause 105 = .ok (.aload_n 0, 1) := by decide +kernel
theorem dd_VR_readClause_106 : decode bb_VR_readClause 106 = .ok (.invokevirtual 66, 3) := by decide +kernel
theorem dd_VR_readClause_109 : decode bb_VR_readClause 109 = .ok (.goto 14, 3) := by decide +kernel
theorem dd_VR_readClause_112 : decode bb_VR_readClause 112 = .ok (.aload_n 0, 1) := by decide +kernel
theorem dd_VR_readClause_113 : decode bb_VR_readClause 113 = .ok (.invokevirtual 69, 3) := by decide +kernel
theorem dd_VR_readClause_116 : decode bb_VR_readClause 116 = .ok (.goto 7, 3) := by decide +kernel
theorem dd_VR_readClause_119 : decode bb_VR_readClause 119 = .ok (.aload_n 0, 1) := by decide +kernel
theorem dd_VR_readClause_120 : decode bb_VR_readClause 120 = .ok (.invokevirtual 72, 3) := by decide +kernel
theorem dd_VR_readClause_123 : decode bb_VR_readClause 123 = .ok (.return_, 1) := by decide +kernel
def mm_VR_readClause_j123 (N : Nat) (this : Option Nat) (a1 : Int32) (h_123 : ss_Hp) : Option ss_Hp :=
  some h_123
def mm_VR_readClause (N : Nat) (this : Option Nat) (a1 : Int32) (h : ss_Hp) : Option ss_Hp :=
  if ss_is h this 6 = true then
    (ss_gr h this 6 0).bind fun r1 =>
    (mm_T_wordIn N r1 0 h).bind fun v2 =>
    if v2 = (-1 : Int32) then
      (ss_gr h this 6 0).bind fun r21 =>
      (mm_T_fail N r21 (0 : Int32) h).bind fun h22 =>
      some h22
    else
      (mm_VR_mayStand N this v2 a1 h).bind fun v4 =>
      if v4 = 0 then
        (ss_gr h this 6 0).bind fun r19 =>
        (mm_T_fail N r19 (4 : Int32) h).bind fun h20 =>
        some h20
      else
        (ss_gr h this 6 0).bind fun r6 =>
        (mm_T_advance N r6 h).bind fun h7 =>
        if v2 = (0 : Int32) then
          (mm_VR_readMeasures N this h7).bind fun h9 =>
          mm_VR_readClause_j123 N this a1 h9
        else
        if v2 = (1 : Int32) then
          (mm_VR_readStep N this h7).bind fun h11 =>
          mm_VR_readClause_j123 N this a1 h11
        else
        if v2 = (2 : Int32) then
          (mm_VR_readHouse N this h7).bind fun h13 =>
          mm_VR_readClause_j123 N this a1 h13
        else
        if v2 = (3 : Int32) then
          (mm_VR_readPath N this h7).bind fun h15 =>
          mm_VR_readClause_j123 N this a1 h15
        else
        if v2 = (4 : Int32) then
          (mm_VR_readWall N this h7).bind fun h17 =>
          mm_VR_readClause_j123 N this a1 h17
        else
        (mm_VR_readNeed N this h7).bind fun h18 =>
        mm_VR_readClause_j123 N this a1 h18
  else none
abbrev ww_VR_readClause (p : Program) (l : Launch) (e : Env) (s : State) (m : MethodId) (below : List Frame) (meth : Method) (c : Code) (G : ss_G) (this : Option Nat) (a1 : Int32) (h : ss_Hp) (hh : ss_Hp) (H : Heap) (locs : List Loc) (k n : Nat) (g : JFrame) : Prop := W p l e (headSpec (ss_w yy_VR_readClause bb_VR_readClause 3 none) ({ frames := 9, cells := 0, slots := 0, locals := 226 })).room s m ([ss_v (ss_b G) this, .int a1] : List Value).toArray below meth c H locs k n (MQ below (ss_Qc G none hh) ([ss_v (ss_b G) this, .int a1] : List Value).toArray s 0 0 (ss_A G)) g
theorem ck_VR_readClause {N : Nat} {this : Option Nat} {a1 : Int32} {h : ss_Hp} {res : ss_Hp} (hm : mm_VR_readClause N this a1 h = some res) : ss_is h this 6 = true := (ss_chk hm).1
set_option maxHeartbeats 4000000 in
set_option maxRecDepth 100000 in
theorem cc_VR_readClause (l : Launch) (G : ss_G) (N : Nat) (this : Option Nat) (a1 : Int32) (h : ss_Hp) (hh : ss_Hp) (hm : mm_VR_readClause N this a1 h = some hh) : ss_Ct l G yy_VR_readClause bb_VR_readClause 3 none ({ frames := 9, cells := 0, slots := 0, locals := 226 }) [ss_v (ss_b G) this, .int a1] h none hh := by
  obtain ⟨hck, hm⟩ := ss_chk hm
  refine Met.ofW (cc := bb_VR_readClause) (maxL := 3) (ret := none) (by decide) rfl ?_
  intro p e s m args below meth c s₁ B hml hv
  obtain ⟨rfl, hR, hK⟩ := hv
  have hC : CallFix p m c bb_VR_readClause 3 s _ lw_g sR_6 := ⟨B.exec, B.bytes, hml, findClass_of_methodNamed B.named, fun w hw => atoms_spec (ws := ss_w yy_VR_readClause bb_VR_readClause 3 none) B.pre w (List.mem_cons_of_mem _ hw)⟩
  have hx := hC.1
  have hb := hC.2.1
  have hr := B.returns
  have hlocks := B.notSynchronized
  have hS : va_S (ss_A G) s.heap s.heap [] := va_S.rf
  have hl := lv_entry ([ss_v (ss_b G) this, .int a1]) (n := 3) (by simp [lg_sl, ss_v_cat, ss_cat_i, ss_cat_l, ss_cat_r])
  rw [lg_entry_eq]
  generalize (lg_sl ([ss_v (ss_b G) this, .int a1]) ++ List.replicate (3 - (lg_sl ([ss_v (ss_b G) this, .int a1])).length) Slot.unset).toArray = ls at hl ⊢
  have hl : lv_has ls 3 [(0, ss_v (ss_b G) this), (1, .int a1)] := by simpa [lv_args, ss_v_cat, ss_cat_i, ss_cat_l, ss_cat_r] using hl
  have J_123 : ∀ (h_123 : ss_Hp) (H : Heap) (locs : List Loc) (ls : Array Slot), mm_VR_readClause_j123 N this a1 h_123 = some hh → ss_R G h_123 H → va_S (ss_A G) s.heap H locs → lv_has ls 3 [] → ww_VR_readClause p l e s m below meth c G this a1 h hh  H locs 0 0 (F0 m 123 ls []) := by
    intro h_123 H locs ls hm hR hS hl
    exact ss_vret hC hr hlocks hR hS hm dd_VR_readClause_123
  refine ss_aload_n hx hb dd_VR_readClause_0 rfl (lv_at hl 0 rfl) ?_
  obtain ⟨r1, qr1, hm⟩ := ss_bind hm
  refine ss_getr hC hK hR kf_VR_9 rfl qr1 dd_VR_readClause_1 ?_
  refine va_ldcS hx hb hC.2.2.2.1 (ss_sr_0 hK) dd_VR_readClause_4 ?_
  obtain ⟨v2, qv2, hm⟩ := ss_bind hm
  refine ss_cV 0 0 (As := [.ref (G.2.2.2.1 0)]) hC hK hR hS hl.1 (cc_T_wordIn l G N _ _ _ _ qv2) km_VR_43 (ck_T_wordIn qv2) ⟨Nat.le_of_ble_eq_true rfl, Nat.le_of_ble_eq_true rfl⟩ ⟨Nat.le_of_ble_eq_true rfl, Nat.le_of_ble_eq_true rfl, Nat.le_of_ble_eq_true rfl, Nat.le_of_ble_eq_true rfl⟩ rfl rfl (Nat.le_of_ble_eq_true rfl) dd_VR_readClause_6 (fun H locs hR hS => ?_)
  refine lv_istore_n (lv' := [(2, .int v2), (0, ss_v (ss_b G) this), (1, .int a1)]) hx hb dd_VR_readClause_9 rfl hl (by decide) rfl (fun ls hl => ?_)
  refine lv_iload_n hx hb dd_VR_readClause_10 rfl (lv_at hl 0 rfl) ?_
  refine lv_iconst (v := -1) hx hb dd_VR_readClause_11 (by decide) ?_
  refine lv_icmp_ne (tgt := 24) hx hb dd_VR_readClause_12 (by decide) (fun c3 => ?_) (fun c3 => ?_)
  · have hm := ss_iff hm c3
    refine ss_aload_n hx hb dd_VR_readClause_24 rfl (lv_at hl 1 rfl) ?_
    refine lv_iload_n hx hb dd_VR_readClause_25 rfl (lv_at hl 0 rfl) ?_
    refine lv_iload_n hx hb dd_VR_readClause_26 rfl (lv_at hl 2 rfl) ?_
    obtain ⟨v4, qv4, hm⟩ := ss_bind hm
    refine ss_cV 0 0 (As := [.int v2, .int a1]) hC hK hR hS hl.1 (cc_VR_mayStand l G N _ _ _ _ _ qv4) km_VR_50 (ck_VR_mayStand qv4) ⟨Nat.le_of_ble_eq_true rfl, Nat.le_of_ble_eq_true rfl⟩ ⟨Nat.le_of_ble_eq_true rfl, Nat.le_of_ble_eq_true rfl, Nat.le_of_ble_eq_true rfl, Nat.le_of_ble_eq_true rfl⟩ rfl rfl (Nat.le_of_ble_eq_true rfl) dd_VR_readClause_27 (fun H locs hR hS => ?_)
    refine lv_if_ne (tgt := 42) hx hb dd_VR_readClause_30 (by decide) (fun c5 => ?_) (fun c5 => ?_)
    · have hm := ss_iff hm c5
      refine ss_aload_n hx hb dd_VR_readClause_42 rfl (lv_at hl 1 rfl) ?_
      obtain ⟨r6, qr6, hm⟩ := ss_bind hm
      refine ss_getr hC hK hR kf_VR_9 rfl qr6 dd_VR_readClause_43 ?_
      obtain ⟨h7, qh7, hm⟩ := ss_bind hm
      refine ss_cVv 0 0 (As := []) hC hK hR hS hl.1 (cc_T_advance l G N _ _ _ qh7) km_VR_54 (ck_T_advance qh7) ⟨Nat.le_of_ble_eq_true rfl, Nat.le_of_ble_eq_true rfl⟩ ⟨Nat.le_of_ble_eq_true rfl, Nat.le_of_ble_eq_true rfl, Nat.le_of_ble_eq_true rfl, Nat.le_of_ble_eq_true rfl⟩ rfl rfl (Nat.le_of_ble_eq_true rfl) dd_VR_readClause_46 (fun H locs hR hS => ?_)
      refine lv_iload_n hx hb dd_VR_readClause_49 rfl (lv_at hl 0 rfl) ?_
      by_cases c8 : v2 = (0 : Int32)
      · have hm := ss_ift hm c8
        refine lv_tableIn (tgt := 84) hx hb dd_VR_readClause_50 (by rw [c8]; decide) (by rw [c8]; decide) (by rw [c8]; rfl) (by decide) ?_
        refine ss_aload_n hx hb dd_VR_readClause_84 rfl (lv_at hl 1 rfl) ?_
        obtain ⟨h9, qh9, hm⟩ := ss_bind hm
        refine ss_cVv 0 0 (As := []) hC hK hR hS hl.1 (cc_VR_readMeasures l G N _ _ _ qh9) km_VR_57 (ck_VR_readMeasures qh9) ⟨Nat.le_of_ble_eq_true rfl, Nat.le_of_ble_eq_true rfl⟩ ⟨Nat.le_of_ble_eq_true rfl, Nat.le_of_ble_eq_true rfl, Nat.le_of_ble_eq_true rfl, Nat.le_of_ble_eq_true rfl⟩ rfl rfl (Nat.le_of_ble_eq_true rfl) dd_VR_readClause_85 (fun H locs hR hS => ?_)
        refine lv_goto (tgt := 123) hx hb dd_VR_readClause_88 (by decide) ?_
        exact J_123 h9 _ _ _ hm hR hS (lv_sub hl [] rfl)
      have hm := ss_iff hm c8
      by_cases c10 : v2 = (1 : Int32)
      · have hm := ss_ift hm c10
        refine lv_tableIn (tgt := 91) hx hb dd_VR_readClause_50 (by rw [c10]; decide) (by rw [c10]; decide) (by rw [c10]; rfl) (by decide) ?_
        refine ss_aload_n hx hb dd_VR_readClause_91 rfl (lv_at hl 1 rfl) ?_
        obtain ⟨h11, qh11, hm⟩ := ss_bind hm
        refine ss_cVv 0 0 (As := []) hC hK hR hS hl.1 (cc_VR_readStep l G N _ _ _ qh11) km_VR_60 (ck_VR_readStep qh11) ⟨Nat.le_of_ble_eq_true rfl, Nat.le_of_ble_eq_true rfl⟩ ⟨Nat.le_of_ble_eq_true rfl, Nat.le_of_ble_eq_true rfl, Nat.le_of_ble_eq_true rfl, Nat.le_of_ble_eq_true rfl⟩ rfl rfl (Nat.le_of_ble_eq_true rfl) dd_VR_readClause_92 (fun H locs hR hS => ?_)
        refine lv_goto (tgt := 123) hx hb dd_VR_readClause_95 (by decide) ?_
        exact J_123 h11 _ _ _ hm hR hS (lv_sub hl [] rfl)
      have hm := ss_iff hm c10
      by_cases c12 : v2 = (2 : Int32)
      · have hm := ss_ift hm c12
        refine lv_tableIn (tgt := 98) hx hb dd_VR_readClause_50 (by rw [c12]; decide) (by rw [c12]; decide) (by rw [c12]; rfl) (by decide) ?_
        refine ss_aload_n hx hb dd_VR_readClause_98 rfl (lv_at hl 1 rfl) ?_
        obtain ⟨h13, qh13, hm⟩ := ss_bind hm
        refine ss_cVv 0 0 (As := []) hC hK hR hS hl.1 (cc_VR_readHouse l G N _ _ _ qh13) km_VR_63 (ck_VR_readHouse qh13) ⟨Nat.le_of_ble_eq_true rfl, Nat.le_of_ble_eq_true rfl⟩ ⟨Nat.le_of_ble_eq_true rfl, Nat.le_of_ble_eq_true rfl, Nat.le_of_ble_eq_true rfl, Nat.le_of_ble_eq_true rfl⟩ rfl rfl (Nat.le_of_ble_eq_true rfl) dd_VR_readClause_99 (fun H locs hR hS => ?_)
        refine lv_goto (tgt := 123) hx hb dd_VR_readClause_102 (by decide) ?_
        exact J_123 h13 _ _ _ hm hR hS (lv_sub hl [] rfl)
      have hm := ss_iff hm c12
      by_cases c14 : v2 = (3 : Int32)
      · have hm := ss_ift hm c14
        refine lv_tableIn (tgt := 105) hx hb dd_VR_readClause_50 (by rw [c14]; decide) (by rw [c14]; decide) (by rw [c14]; rfl) (by decide) ?_
        refine ss_aload_n hx hb dd_VR_readClause_105 rfl (lv_at hl 1 rfl) ?_
        obtain ⟨h15, qh15, hm⟩ := ss_bind hm
        refine ss_cVv 0 0 (As := []) hC hK hR hS hl.1 (cc_VR_readPath l G N _ _ _ qh15) km_VR_66 (ck_VR_readPath qh15) ⟨Nat.le_of_ble_eq_true rfl, Nat.le_of_ble_eq_true rfl⟩ ⟨Nat.le_of_ble_eq_true rfl, Nat.le_of_ble_eq_true rfl, Nat.le_of_ble_eq_true rfl, Nat.le_of_ble_eq_true rfl⟩ rfl rfl (Nat.le_of_ble_eq_true rfl) dd_VR_readClause_106 (fun H locs hR hS => ?_)
        refine lv_goto (tgt := 123) hx hb dd_VR_readClause_109 (by decide) ?_
        exact J_123 h15 _ _ _ hm hR hS (lv_sub hl [] rfl)
      have hm := ss_iff hm c14
      by_cases c16 : v2 = (4 : Int32)
      · have hm := ss_ift hm c16
        refine lv_tableIn (tgt := 112) hx hb dd_VR_readClause_50 (by rw [c16]; decide) (by rw [c16]; decide) (by rw [c16]; rfl) (by decide) ?_
        refine ss_aload_n hx hb dd_VR_readClause_112 rfl (lv_at hl 1 rfl) ?_
        obtain ⟨h17, qh17, hm⟩ := ss_bind hm
        refine ss_cVv 0 0 (As := []) hC hK hR hS hl.1 (cc_VR_readWall l G N _ _ _ qh17) km_VR_69 (ck_VR_readWall qh17) ⟨Nat.le_of_ble_eq_true rfl, Nat.le_of_ble_eq_true rfl⟩ ⟨Nat.le_of_ble_eq_true rfl, Nat.le_of_ble_eq_true rfl, Nat.le_of_ble_eq_true rfl, Nat.le_of_ble_eq_true rfl⟩ rfl rfl (Nat.le_of_ble_eq_true rfl) dd_VR_readClause_113 (fun H locs hR hS => ?_)
        refine lv_goto (tgt := 123) hx hb dd_VR_readClause_116 (by decide) ?_
        exact J_123 h17 _ _ _ hm hR hS (lv_sub hl [] rfl)
      have hm := ss_iff hm c16
      have nc8 := lv_neT (a := 0) c8 (by decide)
      have nc10 := lv_neT (a := 1) c10 (by decide)
      have nc12 := lv_neT (a := 2) c12 (by decide)
      have nc14 := lv_neT (a := 3) c14 (by decide)
      have nc16 := lv_neT (a := 4) c16 (by decide)
      refine lv_tableOut (tgt := 119) hx hb dd_VR_readClause_50 (by omega) (by decide) ?_
      refine ss_aload_n hx hb dd_VR_readClause_119 rfl (lv_at hl 1 rfl) ?_
      obtain ⟨h18, qh18, hm⟩ := ss_bind hm
      refine ss_cVv 0 0 (As := []) hC hK hR hS hl.1 (cc_VR_readNeed l G N _ _ _ qh18) km_VR_72 (ck_VR_readNeed qh18) ⟨Nat.le_of_ble_eq_true rfl, Nat.le_of_ble_eq_true rfl⟩ ⟨Nat.le_of_ble_eq_true rfl, Nat.le_of_ble_eq_true rfl, Nat.le_of_ble_eq_true rfl, Nat.le_of_ble_eq_true rfl⟩ rfl rfl (Nat.le_of_ble_eq_true rfl) dd_VR_readClause_120 (fun H locs hR hS => ?_)
      exact J_123 h18 _ _ _ hm hR hS (lv_sub hl [] rfl)
    · have hm := ss_ift hm c5
      refine ss_aload_n hx hb dd_VR_readClause_33 rfl (lv_at hl 1 rfl) ?_
      obtain ⟨r19, qr19, hm⟩ := ss_bind hm
      refine ss_getr hC hK hR kf_VR_9 rfl qr19 dd_VR_readClause_34 ?_
      refine lv_iconst (v := 4) hx hb dd_VR_readClause_37 (by decide) ?_
      obtain ⟨h20, qh20, hm⟩ := ss_bind hm
      refine ss_cVv 0 0 (As := [.int (4 : Int32)]) hC hK hR hS hl.1 (cc_T_fail l G N _ _ _ _ qh20) km_VR_47 (ck_T_fail qh20) ⟨Nat.le_of_ble_eq_true rfl, Nat.le_of_ble_eq_true rfl⟩ ⟨Nat.le_of_ble_eq_true rfl, Nat.le_of_ble_eq_true rfl, Nat.le_of_ble_eq_true rfl, Nat.le_of_ble_eq_true rfl⟩ rfl rfl (Nat.le_of_ble_eq_true rfl) dd_VR_readClause_38 (fun H locs hR hS => ?_)
      exact ss_vret hC hr hlocks hR hS hm dd_VR_readClause_41
  · have hm := ss_ift hm c3
    refine ss_aload_n hx hb dd_VR_readClause_15 rfl (lv_at hl 1 rfl) ?_
    obtain ⟨r21, qr21, hm⟩ := ss_bind hm
    refine ss_getr hC hK hR kf_VR_9 rfl qr21 dd_VR_readClause_16 ?_
    refine lv_iconst (v := 0) hx hb dd_VR_readClause_19 (by decide) ?_
    obtain ⟨h22, qh22, hm⟩ := ss_bind hm
    refine ss_cVv 0 0 (As := [.int (0 : Int32)]) hC hK hR hS hl.1 (cc_T_fail l G N _ _ _ _ qh22) km_VR_47 (ck_T_fail qh22) ⟨Nat.le_of_ble_eq_true rfl, Nat.le_of_ble_eq_true rfl⟩ ⟨Nat.le_of_ble_eq_true rfl, Nat.le_of_ble_eq_true rfl, Nat.le_of_ble_eq_true rfl, Nat.le_of_ble_eq_true rfl⟩ rfl rfl (Nat.le_of_ble_eq_true rfl) dd_VR_readClause_20 (fun H locs hR hS => ?_)
    exact ss_vret hC hr hlocks hR hS hm dd_VR_readClause_23
theorem dd_T_isSign_0 : decode bb_T_isSign 0 = .ok (.aload_n 0, 1) := by decide +kernel
theorem dd_T_isSign_1 : decode bb_T_isSign 1 = .ok (.getfield 31, 3) := by decide +kernel
theorem dd_T_isSign_4 : decode bb_T_isSign 4 = .ok (.iconst 3, 1) := by decide +kernel
theorem dd_T_isSign_5 : decode bb_T_isSign 5 = .ok (.if_icmp .ne 33, 3) := by decide +kernel
theorem dd_T_isSign_8 : decode bb_T_isSign 8 = .ok (.aload_n 0, 1) := by decide +kernel
theorem dd_T_isSign_9 : decode bb_T_isSign 9 = .ok (.getfield 22, 3) := by decide +kernel
theorem dd_T_isSign_12 : decode bb_T_isSign 12 = .ok (.aload_n 0, 1) := by decide +kernel
theorem dd_T_isSign_13 : decode bb_T_isSign 13 = .ok (.getfield 28, 3) := by decide +kernel
theorem dd_T_isSign_16 : decode bb_T_isSign 16 = .ok (.iconst 1, 1) := by decide +kernel
theorem dd_T_isSign_17 : decode bb_T_isSign 17 = .ok (.iadd, 1) := by decide +kernel
theorem dd_T_isSign_18 : decode bb_T_isSign 18 = .ok (.if_icmp .ne 20, 3) := by decide +kernel
theorem dd_T_isSign_21 : decode bb_T_isSign 21 = .ok (.aload_n 0, 1) := by decide +kernel
theorem dd_T_isSign_22 : decode bb_T_isSign 22 = .ok (.getfield 11, 3) := by decide +kernel
theorem dd_T_isSign_25 : decode bb_T_isSign 25 = .ok (.aload_n 0, 1) := by decide +kernel
theorem dd_T_isSign_26 : decode bb_T_isSign 26 = .ok (.getfield 28, 3) := by decide +kernel
theorem dd_T_isSign_29 : decode bb_T_isSign 29 = .ok (.iaload, 1) := by decide +kernel
theorem dd_T_isSign_30 : decode bb_T_isSign 30 = .ok (.iload_n 1, 1) := by decide +kernel
theorem dd_T_isSign_31 : decode bb_T_isSign 31 = .ok (.if_icmp .ne 7, 3) := by decide +kernel
theorem dd_T_isSign_34 : decode bb_T_isSign 34 = .ok (.iconst 1, 1) := by decide +kernel
theorem dd_T_isSign_35 : decode bb_T_isSign 35 = .ok (.goto 4, 3) := by decide +kernel
theorem dd_T_isSign_38 : decode bb_T_isSign 38 = .ok (.iconst 0, 1) := by decide +kernel
theorem dd_T_isSign_39 : decode bb_T_isSign 39 = .ok (.ireturn, 1) := by decide +kernel
def mm_T_isSign_j39 (N : Nat) (this : Option Nat) (a1 : Int32) (h : ss_Hp) (s0_39 : Int32) : Option Int32 :=
  (ss_bz s0_39).bind fun v1 =>
  some v1
def mm_T_isSign_j38 (N : Nat) (this : Option Nat) (a1 : Int32) (h : ss_Hp) : Option Int32 :=
  mm_T_isSign_j39 N this a1 h (0 : Int32)
def mm_T_isSign (N : Nat) (this : Option Nat) (a1 : Int32) (h : ss_Hp) : Option Int32 :=
  if ss_is h this 2 = true then
    (ss_gi h this 2 2).bind fun v2 =>
    if v2 = (3 : Int32) then
      (ss_gi h this 2 4).bind fun v4 =>
      (ss_gi h this 2 3).bind fun v5 =>
      if v4 = (v5 + (1 : Int32)) then
        (ss_gr h this 2 0).bind fun r7 =>
        (ss_gi h this 2 3).bind fun v8 =>
        (ss_ai h r7 20 v8).bind fun v9 =>
        if v9 = a1 then
          mm_T_isSign_j39 N this a1 h (1 : Int32)
        else
          mm_T_isSign_j38 N this a1 h
      else
        mm_T_isSign_j38 N this a1 h
    else
      mm_T_isSign_j38 N this a1 h
  else none
abbrev ww_T_isSign (p : Program) (l : Launch) (e : Env) (s : State) (m : MethodId) (below : List Frame) (meth : Method) (c : Code) (G : ss_G) (this : Option Nat) (a1 : Int32) (h : ss_Hp) (rr : Int32) (H : Heap) (locs : List Loc) (k n : Nat) (g : JFrame) : Prop := W p l e (headSpec (ss_w yy_T_isSign bb_T_isSign 2 (some .boolean)) ({ frames := 0, cells := 0, slots := 0, locals := 0 })).room s m ([ss_v (ss_b G) this, .int a1] : List Value).toArray below meth c H locs k n (MQ below (ss_Qc G (some (.int rr)) h) ([ss_v (ss_b G) this, .int a1] : List Value).toArray s 0 0 (ss_A G)) g
theorem ck_T_isSign {N : Nat} {this : Option Nat} {a1 : Int32} {h : ss_Hp} {res : Int32} (hm : mm_T_isSign N this a1 h = some res) : ss_is h this 2 = true := (ss_chk hm).1
set_option maxHeartbeats 4000000 in
set_option maxRecDepth 100000 in
theorem cc_T_isSign (l : Launch) (G : ss_G) (N : Nat) (this : Option Nat) (a1 : Int32) (h : ss_Hp) (rr : Int32) (hm : mm_T_isSign N this a1 h = some rr) : ss_Ct l G yy_T_isSign bb_T_isSign 2 (some .boolean) ({ frames := 0, cells := 0, slots := 0, locals := 0 }) [ss_v (ss_b G) this, .int a1] h (some (.int rr)) h := by
  obtain ⟨hck, hm⟩ := ss_chk hm
  refine Met.ofW (cc := bb_T_isSign) (maxL := 2) (ret := (some .boolean)) (by decide) rfl ?_
  intro p e s m args below meth c s₁ B hml hv
  obtain ⟨rfl, hR, hK⟩ := hv
  have hC : CallFix p m c bb_T_isSign 2 s _ lw_g sR_2 := ⟨B.exec, B.bytes, hml, findClass_of_methodNamed B.named, fun w hw => atoms_spec (ws := ss_w yy_T_isSign bb_T_isSign 2 (some .boolean)) B.pre w (List.mem_cons_of_mem _ hw)⟩
  have hx := hC.1
  have hb := hC.2.1
  have hr := B.returns
  have hlocks := B.notSynchronized
  have hS : va_S (ss_A G) s.heap s.heap [] := va_S.rf
  have hl := lv_entry ([ss_v (ss_b G) this, .int a1]) (n := 2) (by simp [lg_sl, ss_v_cat, ss_cat_i, ss_cat_l, ss_cat_r])
  rw [lg_entry_eq]
  generalize (lg_sl ([ss_v (ss_b G) this, .int a1]) ++ List.replicate (2 - (lg_sl ([ss_v (ss_b G) this, .int a1])).length) Slot.unset).toArray = ls at hl ⊢
  have hl : lv_has ls 2 [(0, ss_v (ss_b G) this), (1, .int a1)] := by simpa [lv_args, ss_v_cat, ss_cat_i, ss_cat_l, ss_cat_r] using hl
  have J_39 : ∀ (s0_39 : Int32) (H : Heap) (locs : List Loc) (ls : Array Slot), mm_T_isSign_j39 N this a1 h s0_39 = some rr → ss_R G h H → va_S (ss_A G) s.heap H locs → lv_has ls 2 [] → ww_T_isSign p l e s m below meth c G this a1 h rr  H locs 0 0 (F0 m 39 ls [.int s0_39]) := by
    intro s0_39 H locs ls hm hR hS hl
    obtain ⟨v1, qv1, hm⟩ := ss_bind hm
    obtain ⟨hnb, rfl⟩ := ss_bzs qv1
    exact ss_zret hC hr hnb hlocks hR hS (ss_with _ hm) dd_T_isSign_39
  have J_38 : ∀  (H : Heap) (locs : List Loc) (ls : Array Slot), mm_T_isSign_j38 N this a1 h = some rr → ss_R G h H → va_S (ss_A G) s.heap H locs → lv_has ls 2 [] → ww_T_isSign p l e s m below meth c G this a1 h rr  H locs 0 0 (F0 m 38 ls []) := by
    intro  H locs ls hm hR hS hl
    refine lv_iconst (v := 0) hx hb dd_T_isSign_38 (by decide) ?_
    exact J_39 (0 : Int32)  _ _ _ hm hR hS hl
  refine ss_aload_n hx hb dd_T_isSign_0 rfl (lv_at hl 0 rfl) ?_
  obtain ⟨v2, qv2, hm⟩ := ss_bind hm
  refine ss_geti hC hK hR kf_T_31 qv2 dd_T_isSign_1 ?_
  refine lv_iconst (v := 3) hx hb dd_T_isSign_4 (by decide) ?_
  refine lv_icmp_ne (tgt := 38) hx hb dd_T_isSign_5 (by decide) (fun c3 => ?_) (fun c3 => ?_)
  · have hm := ss_iff hm c3
    exact J_38  _ _ _ hm hR hS (lv_sub hl [] rfl)
  · have hm := ss_ift hm c3
    refine ss_aload_n hx hb dd_T_isSign_8 rfl (lv_at hl 0 rfl) ?_
    obtain ⟨v4, qv4, hm⟩ := ss_bind hm
    refine ss_geti hC hK hR kf_T_22 qv4 dd_T_isSign_9 ?_
    refine ss_aload_n hx hb dd_T_isSign_12 rfl (lv_at hl 0 rfl) ?_
    obtain ⟨v5, qv5, hm⟩ := ss_bind hm
    refine ss_geti hC hK hR kf_T_28 qv5 dd_T_isSign_13 ?_
    refine lv_iconst (v := 1) hx hb dd_T_isSign_16 (by decide) ?_
    refine lv_iadd hx hb dd_T_isSign_17 ?_
    refine lv_icmp_ne (tgt := 38) hx hb dd_T_isSign_18 (by decide) (fun c6 => ?_) (fun c6 => ?_)
    · have hm := ss_iff hm c6
      exact J_38  _ _ _ hm hR hS (lv_sub hl [] rfl)
    · have hm := ss_ift hm c6
      refine ss_aload_n hx hb dd_T_isSign_21 rfl (lv_at hl 0 rfl) ?_
      obtain ⟨r7, qr7, hm⟩ := ss_bind hm
      refine ss_getr hC hK hR kf_T_11 rfl qr7 dd_T_isSign_22 ?_
      refine ss_aload_n hx hb dd_T_isSign_25 rfl (lv_at hl 0 rfl) ?_
      obtain ⟨v8, qv8, hm⟩ := ss_bind hm
      refine ss_geti hC hK hR kf_T_28 qv8 dd_T_isSign_26 ?_
      obtain ⟨v9, qv9, hm⟩ := ss_bind hm
      refine ss_iald hC hK hR qv9 dd_T_isSign_29 ?_
      refine lv_iload_n hx hb dd_T_isSign_30 rfl (lv_at hl 1 rfl) ?_
      refine lv_icmp_ne (tgt := 38) hx hb dd_T_isSign_31 (by decide) (fun c10 => ?_) (fun c10 => ?_)
      · have hm := ss_iff hm c10
        exact J_38  _ _ _ hm hR hS (lv_sub hl [] rfl)
      · have hm := ss_ift hm c10
        refine lv_iconst (v := 1) hx hb dd_T_isSign_34 (by decide) ?_
        refine lv_goto (tgt := 39) hx hb dd_T_isSign_35 (by decide) ?_
        exact J_39 (1 : Int32)  _ _ _ hm hR hS (lv_sub hl [] rfl)
theorem dd_T_goesOn_0 : decode bb_T_goesOn 0 = .ok (.aload_n 0, 1) := by decide +kernel
theorem dd_T_goesOn_1 : decode bb_T_goesOn 1 = .ok (.invokevirtual 74, 3) := by decide +kernel
theorem dd_T_goesOn_4 : decode bb_T_goesOn 4 = .ok (.ifCond .eq 10, 3) := by decide +kernel
theorem dd_T_goesOn_7 : decode bb_T_goesOn 7 = .ok (.aload_n 0, 1) := by decide +kernel
theorem dd_T_goesOn_8 : decode bb_T_goesOn 8 = .ok (.getfield 31, 3) := by decide +kernel
theorem dd_T_goesOn_11 : decode bb_T_goesOn 11 = .ok (.ifCond .ne 5, 3) := by decide +kernel
theorem dd_T_goesOn_14 : decode bb_T_goesOn 14 = .ok (.iconst 0, 1) := by decide +kernel
theorem dd_T_goesOn_15 : decode bb_T_goesOn 15 = .ok (.ireturn, 1) := by decide +kernel
theorem dd_T_goesOn_16 : decode bb_T_goesOn 16 = .ok (.aload_n 0, 1) := by decide +kernel
theorem dd_T_goesOn_17 : decode bb_T_goesOn 17 = .ok (.bipush 59, 2) := by decide +kernel
theorem dd_T_goesOn_19 : decode bb_T_goesOn 19 = .ok (.invokevirtual 50, 3) := by decide +kernel
theorem dd_T_goesOn_22 : decode bb_T_goesOn 22 = .ok (.ifCond .ne 10, 3) := by decide +kernel
theorem dd_T_goesOn_25 : decode bb_T_goesOn 25 = .ok (.aload_n 0, 1) := by decide +kernel
theorem dd_T_goesOn_26 : decode bb_T_goesOn 26 = .ok (.iconst 0, 1) := by decide +kernel
theorem dd_T_goesOn_27 : decode bb_T_goesOn 27 = .ok (.invokevirtual 67, 3) := by decide +kernel
theorem dd_T_goesOn_30 : decode bb_T_goesOn 30 = .ok (.iconst 0, 1) := by decide +kernel
theorem dd_T_goesOn_31 : decode bb_T_goesOn 31 = .ok (.ireturn, 1) := by decide +kernel
theorem dd_T_goesOn_32 : decode bb_T_goesOn 32 = .ok (.aload_n 0, 1) := by decide +kernel
theorem dd_T_goesOn_33 : decode bb_T_goesOn 33 = .ok (.invokevirtual 25, 3) := by decide +kernel
theorem dd_T_goesOn_36 : decode bb_T_goesOn 36 = .ok (.iconst 1, 1) := by decide +kernel
theorem dd_T_goesOn_37 : decode bb_T_goesOn 37 = .ok (.ireturn, 1) := by decide +kernel
def mm_T_goesOn_j14 (N : Nat) (this : Option Nat) (h_14 : ss_Hp) : Option (Int32 × ss_Hp) :=
  some ((0 : Int32), h_14)
def mm_T_goesOn (N : Nat) (this : Option Nat) (h : ss_Hp) : Option (Int32 × ss_Hp) :=
  if ss_is h this 2 = true then
    (mm_T_isWell N this h).bind fun v1 =>
    if v1 = 0 then
      mm_T_goesOn_j14 N this h
    else
      (ss_gi h this 2 2).bind fun v3 =>
      if v3 = 0 then
        mm_T_goesOn_j14 N this h
      else
        (mm_T_isSign N this (59 : Int32) h).bind fun v5 =>
        if v5 = 0 then
          (mm_T_fail N this (0 : Int32) h).bind fun h8 =>
          some ((0 : Int32), h8)
        else
          (mm_T_advance N this h).bind fun h7 =>
          some ((1 : Int32), h7)
  else none
abbrev ww_T_goesOn (p : Program) (l : Launch) (e : Env) (s : State) (m : MethodId) (below : List Frame) (meth : Method) (c : Code) (G : ss_G) (this : Option Nat) (h : ss_Hp) (rr : Int32) (hh : ss_Hp) (H : Heap) (locs : List Loc) (k n : Nat) (g : JFrame) : Prop := W p l e (headSpec (ss_w yy_T_goesOn bb_T_goesOn 1 (some .boolean)) ({ frames := 2, cells := 0, slots := 0, locals := 42 })).room s m ([ss_v (ss_b G) this] : List Value).toArray below meth c H locs k n (MQ below (ss_Qc G (some (.int rr)) hh) ([ss_v (ss_b G) this] : List Value).toArray s 0 0 (ss_A G)) g
theorem ck_T_goesOn {N : Nat} {this : Option Nat} {h : ss_Hp} {res : Int32 × ss_Hp} (hm : mm_T_goesOn N this h = some res) : ss_is h this 2 = true := (ss_chk hm).1
set_option maxHeartbeats 4000000 in
set_option maxRecDepth 100000 in
theorem cc_T_goesOn (l : Launch) (G : ss_G) (N : Nat) (this : Option Nat) (h : ss_Hp) (rr : Int32) (hh : ss_Hp) (hm : mm_T_goesOn N this h = some (rr, hh)) : ss_Ct l G yy_T_goesOn bb_T_goesOn 1 (some .boolean) ({ frames := 2, cells := 0, slots := 0, locals := 42 }) [ss_v (ss_b G) this] h (some (.int rr)) hh := by
  obtain ⟨hck, hm⟩ := ss_chk hm
  refine Met.ofW (cc := bb_T_goesOn) (maxL := 1) (ret := (some .boolean)) (by decide) rfl ?_
  intro p e s m args below meth c s₁ B hml hv
  obtain ⟨rfl, hR, hK⟩ := hv
  have hC : CallFix p m c bb_T_goesOn 1 s _ lw_g sR_2 := ⟨B.exec, B.bytes, hml, findClass_of_methodNamed B.named, fun w hw => atoms_spec (ws := ss_w yy_T_goesOn bb_T_goesOn 1 (some .boolean)) B.pre w (List.mem_cons_of_mem _ hw)⟩
  have hx := hC.1
  have hb := hC.2.1
  have hr := B.returns
  have hlocks := B.notSynchronized
  have hS : va_S (ss_A G) s.heap s.heap [] := va_S.rf
  have hl := lv_entry ([ss_v (ss_b G) this]) (n := 1) (by simp [lg_sl, ss_v_cat, ss_cat_i, ss_cat_l, ss_cat_r])
  rw [lg_entry_eq]
  generalize (lg_sl ([ss_v (ss_b G) this]) ++ List.replicate (1 - (lg_sl ([ss_v (ss_b G) this])).length) Slot.unset).toArray = ls at hl ⊢
  have hl : lv_has ls 1 [(0, ss_v (ss_b G) this)] := by simpa [lv_args, ss_v_cat, ss_cat_i, ss_cat_l, ss_cat_r] using hl
  have J_14 : ∀ (h_14 : ss_Hp) (H : Heap) (locs : List Loc) (ls : Array Slot), mm_T_goesOn_j14 N this h_14 = some (rr, hh) → ss_R G h_14 H → va_S (ss_A G) s.heap H locs → lv_has ls 1 [] → ww_T_goesOn p l e s m below meth c G this h rr hh  H locs 0 0 (F0 m 14 ls []) := by
    intro h_14 H locs ls hm hR hS hl
    refine lv_iconst (v := 0) hx hb dd_T_goesOn_14 (by decide) ?_
    exact ss_zret hC hr (by decide) hlocks hR hS hm dd_T_goesOn_15
  refine ss_aload_n hx hb dd_T_goesOn_0 rfl (lv_at hl 0 rfl) ?_
  obtain ⟨v1, qv1, hm⟩ := ss_bind hm
  refine ss_cV 0 0 (As := []) hC hK hR hS hl.1 (cc_T_isWell l G N _ _ _ qv1) km_T_74 (ck_T_isWell qv1) ⟨Nat.le_of_ble_eq_true rfl, Nat.le_of_ble_eq_true rfl⟩ ⟨Nat.le_of_ble_eq_true rfl, Nat.le_of_ble_eq_true rfl, Nat.le_of_ble_eq_true rfl, Nat.le_of_ble_eq_true rfl⟩ rfl rfl (Nat.le_of_ble_eq_true rfl) dd_T_goesOn_1 (fun H locs hR hS => ?_)
  refine lv_if_eq (tgt := 14) hx hb dd_T_goesOn_4 (by decide) (fun c2 => ?_) (fun c2 => ?_)
  · have hm := ss_ift hm c2
    exact J_14 h _ _ _ hm hR hS (lv_sub hl [] rfl)
  · have hm := ss_iff hm c2
    refine ss_aload_n hx hb dd_T_goesOn_7 rfl (lv_at hl 0 rfl) ?_
    obtain ⟨v3, qv3, hm⟩ := ss_bind hm
    refine ss_geti hC hK hR kf_T_31 qv3 dd_T_goesOn_8 ?_
    refine lv_if_ne (tgt := 16) hx hb dd_T_goesOn_11 (by decide) (fun c4 => ?_) (fun c4 => ?_)
    · have hm := ss_iff hm c4
      refine ss_aload_n hx hb dd_T_goesOn_16 rfl (lv_at hl 0 rfl) ?_
      refine lv_bipush (v := 59) hx hb dd_T_goesOn_17 (by decide) ?_
      obtain ⟨v5, qv5, hm⟩ := ss_bind hm
      refine ss_cV 0 0 (As := [.int (59 : Int32)]) hC hK hR hS hl.1 (cc_T_isSign l G N _ _ _ _ qv5) km_T_50 (ck_T_isSign qv5) ⟨Nat.le_of_ble_eq_true rfl, Nat.le_of_ble_eq_true rfl⟩ ⟨Nat.le_of_ble_eq_true rfl, Nat.le_of_ble_eq_true rfl, Nat.le_of_ble_eq_true rfl, Nat.le_of_ble_eq_true rfl⟩ rfl rfl (Nat.le_of_ble_eq_true rfl) dd_T_goesOn_19 (fun H locs hR hS => ?_)
      refine lv_if_ne (tgt := 32) hx hb dd_T_goesOn_22 (by decide) (fun c6 => ?_) (fun c6 => ?_)
      · have hm := ss_iff hm c6
        refine ss_aload_n hx hb dd_T_goesOn_32 rfl (lv_at hl 0 rfl) ?_
        obtain ⟨h7, qh7, hm⟩ := ss_bind hm
        refine ss_cVv 0 0 (As := []) hC hK hR hS hl.1 (cc_T_advance l G N _ _ _ qh7) km_T_25 (ck_T_advance qh7) ⟨Nat.le_of_ble_eq_true rfl, Nat.le_of_ble_eq_true rfl⟩ ⟨Nat.le_of_ble_eq_true rfl, Nat.le_of_ble_eq_true rfl, Nat.le_of_ble_eq_true rfl, Nat.le_of_ble_eq_true rfl⟩ rfl rfl (Nat.le_of_ble_eq_true rfl) dd_T_goesOn_33 (fun H locs hR hS => ?_)
        refine lv_iconst (v := 1) hx hb dd_T_goesOn_36 (by decide) ?_
        exact ss_zret hC hr (by decide) hlocks hR hS hm dd_T_goesOn_37
      · have hm := ss_ift hm c6
        refine ss_aload_n hx hb dd_T_goesOn_25 rfl (lv_at hl 0 rfl) ?_
        refine lv_iconst (v := 0) hx hb dd_T_goesOn_26 (by decide) ?_
        obtain ⟨h8, qh8, hm⟩ := ss_bind hm
        refine ss_cVv 0 0 (As := [.int (0 : Int32)]) hC hK hR hS hl.1 (cc_T_fail l G N _ _ _ _ qh8) km_T_67 (ck_T_fail qh8) ⟨Nat.le_of_ble_eq_true rfl, Nat.le_of_ble_eq_true rfl⟩ ⟨Nat.le_of_ble_eq_true rfl, Nat.le_of_ble_eq_true rfl, Nat.le_of_ble_eq_true rfl, Nat.le_of_ble_eq_true rfl⟩ rfl rfl (Nat.le_of_ble_eq_true rfl) dd_T_goesOn_27 (fun H locs hR hS => ?_)
        refine lv_iconst (v := 0) hx hb dd_T_goesOn_30 (by decide) ?_
        exact ss_zret hC hr (by decide) hlocks hR hS hm dd_T_goesOn_31
    · have hm := ss_ift hm c4
      exact J_14 h _ _ _ hm hR hS (lv_sub hl [] rfl)
theorem dd_VR_readValley_0 : decode bb_VR_readValley 0 = .ok (.aload_n 0, 1) := by decide +kernel
theorem dd_VR_readValley_1 : decode bb_VR_readValley 1 = .ok (.new 15, 3) := by decide +kernel
theorem dd_VR_readValley_4 : decode bb_VR_readValley 4 = .ok (.dup, 1) := by decide +kernel
theorem dd_VR_readValley_5 : decode bb_VR_readValley 5 = .ok (.invokespecial 17, 3) := by decide +kernel
theorem dd_VR_readValley_8 : decode bb_VR_readValley 8 = .ok (.putfield 18, 3) := by decide +kernel
theorem dd_VR_readValley_11 : decode bb_VR_readValley 11 = .ok (.aload_n 0, 1) := by decide +kernel
theorem dd_VR_readValley_12 : decode bb_VR_readValley 12 = .ok (.getfield 18, 3) := by decide +kernel
theorem dd_VR_readValley_15 : decode bb_VR_readValley 15 = .ok (.iconst 1, 1) := by decide +kernel
theorem dd_VR_readValley_16 : decode bb_VR_readValley 16 = .ok (.putfield 22, 3) := by decide +kernel
theorem dd_VR_readValley_19 : decode bb_VR_readValley 19 = .ok (.aload_n 0, 1) := by decide +kernel
theorem dd_VR_readValley_20 : decode bb_VR_readValley 20 = .ok (.getfield 9, 3) := by decide +kernel
theorem dd_VR_readValley_23 : decode bb_VR_readValley 23 = .ok (.invokevirtual 25, 3) := by decide +kernel
theorem dd_VR_readValley_26 : decode bb_VR_readValley 26 = .ok (.iconst 1, 1) := by decide +kernel
theorem dd_VR_readValley_27 : decode bb_VR_readValley 27 = .ok (.istore_n 1, 1) := by decide +kernel
theorem dd_VR_readValley_28 : decode bb_VR_readValley 28 = .ok (.iconst 0, 1) := by decide +kernel
theorem dd_VR_readValley_29 : decode bb_VR_readValley 29 = .ok (.istore_n 2, 1) := by decide +kernel
theorem dd_VR_readValley_30 : decode bb_VR_readValley 30 = .ok (.iload_n 1, 1) := by decide +kernel
theorem dd_VR_readValley_31 : decode bb_VR_readValley 31 = .ok (.ifCond .eq 28, 3) := by decide +kernel
theorem dd_VR_readValley_34 : decode bb_VR_readValley 34 = .ok (.iload_n 2, 1) := by decide +kernel
theorem dd_VR_readValley_35 : decode bb_VR_readValley 35 = .ok (.bipush 40, 2) := by decide +kernel
theorem dd_VR_readValley_37 : decode bb_VR_readValley 37 = .ok (.if_icmp .gt 22, 3) := by decide +kernel
theorem dd_VR_readValley_40 : decode bb_VR_readValley 40 = .ok (.aload_n 0, 1) := by decide +kernel
theorem dd_VR_readValley_41 : decode bb_VR_readValley 41 = .ok (.iload_n 2, 1) := by decide +kernel
theorem dd_VR_readValley_42 : decode bb_VR_readValley 42 = .ok (.invokevirtual 30, 3) := by decide +kernel
theorem dd_VR_readValley_45 : decode bb_VR_readValley 45 = .ok (.aload_n 0, 1) := by decide +kernel
theorem dd_VR_readValley_46 : decode bb_VR_readValley 46 = .ok (.getfield 9, 3) := by decide +kernel
theorem dd_VR_readValley_49 : decode bb_VR_readValley 49 = .ok (.invokevirtual 34, 3) := by decide +kernel
theorem dd_VR_readValley_52 : decode bb_VR_readValley 52 = .ok (.istore_n 1, 1) := by decide +kernel
theorem dd_VR_readValley_53 : decode bb_VR_readValley 53 = .ok (.iinc 2 1, 3) := by decide +kernel
theorem dd_VR_readValley_56 : decode bb_VR_readValley 56 = .ok (.goto (-26), 3) := by decide +kernel
theorem dd_VR_readValley_59 : decode bb_VR_readValley 59 = .ok (.aload_n 0, 1) := by decide +kernel
theorem dd_VR_readValley_60 : decode bb_VR_readValley 60 = .ok (.getfield 9, 3) := by decide +kernel
theorem dd_VR_readValley_63 : decode bb_VR_readValley 63 = .ok (.invokevirtual 38, 3) := by decide +kernel
theorem dd_VR_readValley_66 : decode bb_VR_readValley 66 = .ok (.ifCond .eq 10, 3) := by decide +kernel
theorem dd_VR_readValley_69 : decode bb_VR_readValley 69 = .ok (.aload_n 0, 1) := by decide +kernel
theorem dd_VR_readValley_70 : decode bb_VR_readValley 70 = .ok (.getfield 18, 3) := by decide +kernel
theorem dd_VR_readValley_73 : decode bb_VR_readValley 73 = .ok (.goto 4, 3) := by decide +kernel
theorem dd_VR_readValley_76 : decode bb_VR_readValley 76 = .ok (.aconst_null, 1) := by decide +kernel
theorem dd_VR_readValley_77 : decode bb_VR_readValley 77 = .ok (.areturn, 1) := by decide +kernel
def mm_VR_readValley_j77 (N : Nat) (this : Option Nat) (s0_77 : Option Nat) (h_77 : ss_Hp) : Option ((Option Nat) × ss_Hp) :=
  some (s0_77, h_77)
def mm_VR_readValley_b30 (N : Nat) (this : Option Nat) (st : Int32 × Int32 × ss_Hp) : Option ((Int32 × Int32 × ss_Hp) ⊕ ss_Hp) :=
  match st with
  | (x1_30, x2_30, h_30) =>
    if x1_30 = 0 then
      some (.inr h_30)
    else
      if (40 : Int32) < x2_30 then
        some (.inr h_30)
      else
        (mm_VR_readClause N this x2_30 h_30).bind fun h15 =>
        (ss_gr h15 this 6 0).bind fun r16 =>
        ss_b2 (mm_T_goesOn N r16 h15) fun v17 h18 =>
        (some (x2_30 + (1 : Int32))).bind fun v19 =>
        some (.inl (v17, v19, h18))
def mm_VR_readValley (N : Nat) (this : Option Nat) (h : ss_Hp) : Option ((Option Nat) × ss_Hp) :=
  if ss_is h this 6 = true then
    ss_b2 (ss_no h 5 5 0 5) fun r1 h2 =>
    (mm_V_init N r1 h2).bind fun h3 =>
    (ss_pr h3 this 6 1 r1).bind fun h4 =>
    (ss_gr h4 this 6 1).bind fun r5 =>
    (ss_pz h4 r5 5 0 (1 : Int32)).bind fun h6 =>
    (ss_gr h6 this 6 0).bind fun r7 =>
    (mm_T_open N r7 h6).bind fun h8 =>
    (ss_lp (mm_VR_readValley_b30 N this) N ((1 : Int32), (0 : Int32), h8)).bind fun h_30_59 =>
    (ss_gr h_30_59 this 6 0).bind fun r9 =>
    (mm_T_isWell N r9 h_30_59).bind fun v10 =>
    if v10 = 0 then
      mm_VR_readValley_j77 N this none h_30_59
    else
      (ss_gr h_30_59 this 6 1).bind fun r12 =>
      mm_VR_readValley_j77 N this r12 h_30_59
  else none
abbrev ww_VR_readValley (p : Program) (l : Launch) (e : Env) (s : State) (m : MethodId) (below : List Frame) (meth : Method) (c : Code) (G : ss_G) (this : Option Nat) (h : ss_Hp) (rr : Option Nat) (hh : ss_Hp) (H : Heap) (locs : List Loc) (k n : Nat) (g : JFrame) : Prop := W p l e (headSpec (ss_w yy_VR_readValley bb_VR_readValley 3 (some (.object "SweptSnow$Valley"))) ({ frames := 10, cells := 8, slots := 56, locals := 248 })).room s m ([ss_v (ss_b G) this] : List Value).toArray below meth c H locs k n (MQ below (ss_Qc G (some (ss_v (ss_b G) rr)) hh) ([ss_v (ss_b G) this] : List Value).toArray s 8 56 (ss_A G)) g
theorem ck_VR_readValley {N : Nat} {this : Option Nat} {h : ss_Hp} {res : (Option Nat) × ss_Hp} (hm : mm_VR_readValley N this h = some res) : ss_is h this 6 = true := (ss_chk hm).1
set_option maxHeartbeats 4000000 in
set_option maxRecDepth 100000 in
theorem cc_VR_readValley (l : Launch) (G : ss_G) (N : Nat) (this : Option Nat) (h : ss_Hp) (rr : Option Nat) (hh : ss_Hp) (hm : mm_VR_readValley N this h = some (rr, hh)) : ss_Ct l G yy_VR_readValley bb_VR_readValley 3 (some (.object "SweptSnow$Valley")) ({ frames := 10, cells := 8, slots := 56, locals := 248 }) [ss_v (ss_b G) this] h (some (ss_v (ss_b G) rr)) hh := by
  obtain ⟨hck, hm⟩ := ss_chk hm
  refine Met.ofW (cc := bb_VR_readValley) (maxL := 3) (ret := (some (.object "SweptSnow$Valley"))) (by decide) rfl ?_
  intro p e s m args below meth c s₁ B hml hv
  obtain ⟨rfl, hR, hK⟩ := hv
  have hC : CallFix p m c bb_VR_readValley 3 s _ lw_g sR_6 := ⟨B.exec, B.bytes, hml, findClass_of_methodNamed B.named, fun w hw => atoms_spec (ws := ss_w yy_VR_readValley bb_VR_readValley 3 (some (.object "SweptSnow$Valley"))) B.pre w (List.mem_cons_of_mem _ hw)⟩
  have hx := hC.1
  have hb := hC.2.1
  have hr := B.returns
  have hlocks := B.notSynchronized
  have hS : va_S (ss_A G) s.heap s.heap [] := va_S.rf
  have hl := lv_entry ([ss_v (ss_b G) this]) (n := 3) (by simp [lg_sl, ss_v_cat, ss_cat_i, ss_cat_l, ss_cat_r])
  rw [lg_entry_eq]
  generalize (lg_sl ([ss_v (ss_b G) this]) ++ List.replicate (3 - (lg_sl ([ss_v (ss_b G) this])).length) Slot.unset).toArray = ls at hl ⊢
  have hl : lv_has ls 3 [(0, ss_v (ss_b G) this)] := by simpa [lv_args, ss_v_cat, ss_cat_i, ss_cat_l, ss_cat_r] using hl
  have J_77 : ∀ (s0_77 : Option Nat) (h_77 : ss_Hp) (H : Heap) (locs : List Loc) (ls : Array Slot), mm_VR_readValley_j77 N this s0_77 h_77 = some (rr, hh) → ss_R G h_77 H → va_S (ss_A G) s.heap H locs → lv_has ls 3 [] → ww_VR_readValley p l e s m below meth c G this h rr hh  H locs 8 56 (F0 m 77 ls [ss_v (ss_b G) s0_77]) := by
    intro s0_77 h_77 H locs ls hm hR hS hl
    exact ss_aret hC hr (Or.inl ⟨_, rfl⟩) hlocks hR hS hm dd_VR_readValley_77
  refine ss_aload_n hx hb dd_VR_readValley_0 rfl (lv_at hl 0 rfl) ?_
  obtain ⟨r1, h2, qh2, hm⟩ := ss_bind2 hm
  refine ss_newo (N := 10) hC hK hR hS rfl kn_VR_15 rfl qh2 (Nat.le_of_ble_eq_true rfl) (Nat.le_of_ble_eq_true rfl) dd_VR_readValley_1 (fun H hR hS => ?_)
  refine W.widen (k := 1) (n := 10) (Nat.le_of_ble_eq_true rfl) (Nat.le_of_ble_eq_true rfl) ?_
  refine ss_dupr hx hb dd_VR_readValley_4 ?_
  obtain ⟨h3, qh3, hm⟩ := ss_bind hm
  refine ss_cN 8 56 (As := []) hC hK hR hS hl.1 (cc_V_init l G N _ _ _ qh3) km_VR_17 (ck_V_init qh3) ⟨Nat.le_of_ble_eq_true rfl, Nat.le_of_ble_eq_true rfl⟩ ⟨Nat.le_of_ble_eq_true rfl, Nat.le_of_ble_eq_true rfl, Nat.le_of_ble_eq_true rfl, Nat.le_of_ble_eq_true rfl⟩ rfl rfl (by simp [ss_v_cat, ss_cat_i, ss_cat_l, ss_cat_r]) dd_VR_readValley_5 (fun H locs hR hS => ?_)
  obtain ⟨h4, qh4, hm⟩ := ss_bind hm
  refine ss_putr hC hK hR hS kp_VR_18 rfl (Or.inl ⟨_, rfl⟩) qh4 dd_VR_readValley_8 (fun H locs hR hS => ?_)
  refine ss_aload_n hx hb dd_VR_readValley_11 rfl (lv_at hl 0 rfl) ?_
  obtain ⟨r5, qr5, hm⟩ := ss_bind hm
  refine ss_getr hC hK hR kf_VR_18 rfl qr5 dd_VR_readValley_12 ?_
  refine lv_iconst (v := 1) hx hb dd_VR_readValley_15 (by decide) ?_
  obtain ⟨h6, qh6, hm⟩ := ss_bind hm
  refine ss_putz hC hK hR hS kp_VR_22 qh6 dd_VR_readValley_16 (fun H locs hR hS => ?_)
  refine ss_aload_n hx hb dd_VR_readValley_19 rfl (lv_at hl 0 rfl) ?_
  obtain ⟨r7, qr7, hm⟩ := ss_bind hm
  refine ss_getr hC hK hR kf_VR_9 rfl qr7 dd_VR_readValley_20 ?_
  obtain ⟨h8, qh8, hm⟩ := ss_bind hm
  refine ss_cVv 8 56 (As := []) hC hK hR hS hl.1 (cc_T_open l G N _ _ _ qh8) km_VR_25 (ck_T_open qh8) ⟨Nat.le_of_ble_eq_true rfl, Nat.le_of_ble_eq_true rfl⟩ ⟨Nat.le_of_ble_eq_true rfl, Nat.le_of_ble_eq_true rfl, Nat.le_of_ble_eq_true rfl, Nat.le_of_ble_eq_true rfl⟩ rfl rfl (Nat.le_of_ble_eq_true rfl) dd_VR_readValley_23 (fun H locs hR hS => ?_)
  refine lv_iconst (v := 1) hx hb dd_VR_readValley_26 (by decide) ?_
  refine lv_istore_n (lv' := [(1, .int (1 : Int32)), (0, ss_v (ss_b G) this)]) hx hb dd_VR_readValley_27 rfl hl (by decide) (by simp only [List.filter_cons, ss_v_cat]; rfl) (fun ls hl => ?_)
  refine lv_iconst (v := 0) hx hb dd_VR_readValley_28 (by decide) ?_
  refine lv_istore_n (lv' := [(2, .int (0 : Int32)), (1, .int (1 : Int32)), (0, ss_v (ss_b G) this)]) hx hb dd_VR_readValley_29 rfl hl (by decide) rfl (fun ls hl => ?_)
  obtain ⟨e_30, he_30, hm⟩ := ss_bind hm
  have X_30_59 : ∀  (h_30_59 : ss_Hp) (H : Heap) (locs : List Loc) (ls : Array Slot), e_30 = h_30_59 → ss_R G h_30_59 H → va_S (ss_A G) s.heap H locs → lv_has ls 3 [(0, ss_v (ss_b G) this)] → ww_VR_readValley p l e s m below meth c G this h rr hh  H locs 8 56 (F0 m 59 ls []) := by
    intro h_30_59 H locs ls hq hR hS hl
    rw [hq] at hm
    refine ss_aload_n hx hb dd_VR_readValley_59 rfl (lv_at hl 0 rfl) ?_
    obtain ⟨r9, qr9, hm⟩ := ss_bind hm
    refine ss_getr hC hK hR kf_VR_9 rfl qr9 dd_VR_readValley_60 ?_
    obtain ⟨v10, qv10, hm⟩ := ss_bind hm
    refine ss_cV 8 56 (As := []) hC hK hR hS hl.1 (cc_T_isWell l G N _ _ _ qv10) km_VR_38 (ck_T_isWell qv10) ⟨Nat.le_of_ble_eq_true rfl, Nat.le_of_ble_eq_true rfl⟩ ⟨Nat.le_of_ble_eq_true rfl, Nat.le_of_ble_eq_true rfl, Nat.le_of_ble_eq_true rfl, Nat.le_of_ble_eq_true rfl⟩ rfl rfl (Nat.le_of_ble_eq_true rfl) dd_VR_readValley_63 (fun H locs hR hS => ?_)
    refine lv_if_eq (tgt := 76) hx hb dd_VR_readValley_66 (by decide) (fun c11 => ?_) (fun c11 => ?_)
    · have hm := ss_ift hm c11
      refine ss_null hx hb (ss_b G) dd_VR_readValley_76 ?_
      exact J_77 none h_30_59 _ _ _ hm hR hS (lv_sub hl [] rfl)
    · have hm := ss_iff hm c11
      refine ss_aload_n hx hb dd_VR_readValley_69 rfl (lv_at hl 0 rfl) ?_
      obtain ⟨r12, qr12, hm⟩ := ss_bind hm
      refine ss_getr hC hK hR kf_VR_18 rfl qr12 dd_VR_readValley_70 ?_
      refine lv_goto (tgt := 77) hx hb dd_VR_readValley_73 (by decide) ?_
      exact J_77 r12 h_30_59 _ _ _ hm hR hS (lv_sub hl [] rfl)
  have L_30 : ∀ (n : Nat) (x1_30 : Int32) (x2_30 : Int32) (h_30 : ss_Hp) (H : Heap) (locs : List Loc) (ls : Array Slot), ss_lp (mm_VR_readValley_b30 N this) n (x1_30, x2_30, h_30) = some e_30 → ss_R G h_30 H → va_S (ss_A G) s.heap H locs → lv_has ls 3 [(0, ss_v (ss_b G) this), (1, .int x1_30), (2, .int x2_30)] → ww_VR_readValley p l e s m below meth c G this h rr hh  H locs 8 56 (F0 m 30 ls []) := by
    intro n
    induction n with
    | zero => intro x1_30 x2_30 h_30 H locs ls hm; cases hm
    | succ n ih_30 =>
      intro x1_30 x2_30 h_30 H locs ls hm hR hS hl
      obtain ⟨z_30, hm, hz1_30, hz2_30⟩ := ss_lps hm
      refine lv_iload_n hx hb dd_VR_readValley_30 rfl (lv_at hl 1 rfl) ?_
      refine lv_if_eq (tgt := 59) hx hb dd_VR_readValley_31 (by decide) (fun c13 => ?_) (fun c13 => ?_)
      · have hm := ss_ift hm c13
        exact X_30_59 h_30 _ _ _ (hz2_30 _ (ss_some hm)) hR hS (lv_sub hl [0] rfl)
      · have hm := ss_iff hm c13
        refine lv_iload_n hx hb dd_VR_readValley_34 rfl (lv_at hl 2 rfl) ?_
        refine lv_bipush (v := 40) hx hb dd_VR_readValley_35 (by decide) ?_
        refine lv_icmp_gt (tgt := 59) hx hb dd_VR_readValley_37 (by decide) (fun c14 => ?_) (fun c14 => ?_)
        · have hm := ss_ift hm c14
          exact X_30_59 h_30 _ _ _ (hz2_30 _ (ss_some hm)) hR hS (lv_sub hl [0] rfl)
        · have hm := ss_iff hm c14
          refine ss_aload_n hx hb dd_VR_readValley_40 rfl (lv_at hl 0 rfl) ?_
          refine lv_iload_n hx hb dd_VR_readValley_41 rfl (lv_at hl 2 rfl) ?_
          obtain ⟨h15, qh15, hm⟩ := ss_bind hm
          refine ss_cVv 8 56 (As := [.int x2_30]) hC hK hR hS hl.1 (cc_VR_readClause l G N _ _ _ _ qh15) km_VR_30 (ck_VR_readClause qh15) ⟨Nat.le_of_ble_eq_true rfl, Nat.le_of_ble_eq_true rfl⟩ ⟨Nat.le_of_ble_eq_true rfl, Nat.le_of_ble_eq_true rfl, Nat.le_of_ble_eq_true rfl, Nat.le_of_ble_eq_true rfl⟩ rfl rfl (Nat.le_of_ble_eq_true rfl) dd_VR_readValley_42 (fun H locs hR hS => ?_)
          refine ss_aload_n hx hb dd_VR_readValley_45 rfl (lv_at hl 0 rfl) ?_
          obtain ⟨r16, qr16, hm⟩ := ss_bind hm
          refine ss_getr hC hK hR kf_VR_9 rfl qr16 dd_VR_readValley_46 ?_
          obtain ⟨v17, h18, qh18, hm⟩ := ss_bind2 hm
          refine ss_cV 8 56 (As := []) hC hK hR hS hl.1 (cc_T_goesOn l G N _ _ _ _ qh18) km_VR_34 (ck_T_goesOn qh18) ⟨Nat.le_of_ble_eq_true rfl, Nat.le_of_ble_eq_true rfl⟩ ⟨Nat.le_of_ble_eq_true rfl, Nat.le_of_ble_eq_true rfl, Nat.le_of_ble_eq_true rfl, Nat.le_of_ble_eq_true rfl⟩ rfl rfl (Nat.le_of_ble_eq_true rfl) dd_VR_readValley_49 (fun H locs hR hS => ?_)
          refine lv_istore_n (lv' := [(1, .int v17), (0, ss_v (ss_b G) this), (2, .int x2_30)]) hx hb dd_VR_readValley_52 rfl hl (by decide) (by simp only [List.filter_cons, ss_v_cat]; rfl) (fun ls hl => ?_)
          obtain ⟨v19, qv19, hm⟩ := ss_bind hm
          refine lv_iinc (v := v19) (lv' := [(2, .int v19), (1, .int v17), (0, ss_v (ss_b G) this)]) hx hb dd_VR_readValley_53 hl (k := 2) rfl (ss_inc (by decide) qv19) (by decide) rfl (fun ls hl => ?_)
          refine lv_goto (tgt := 30) hx hb dd_VR_readValley_56 (by decide) ?_
          exact ih_30 v17 v19 h18 _ _ _ (hz1_30 _ (ss_some hm)) hR hS (lv_sub hl [2, 1, 0] rfl)
  exact L_30 N (1 : Int32) (0 : Int32) h8 _ _ _ he_30 hR hS (lv_sub hl [2, 1, 0] rfl)
theorem dd_G_copyFrom_0 : decode bb_G_copyFrom 0 = .ok (.aload_n 1, 1) := by decide +kernel
theorem dd_G_copyFrom_1 : decode bb_G_copyFrom 1 = .ok (.getfield 9, 3) := by decide +kernel
theorem dd_G_copyFrom_4 : decode bb_G_copyFrom 4 = .ok (.iconst 0, 1) := by decide +kernel
theorem dd_G_copyFrom_5 : decode bb_G_copyFrom 5 = .ok (.aload_n 0, 1) := by decide +kernel
theorem dd_G_copyFrom_6 : decode bb_G_copyFrom 6 = .ok (.getfield 9, 3) := by decide +kernel
theorem dd_G_copyFrom_9 : decode bb_G_copyFrom 9 = .ok (.iconst 0, 1) := by decide +kernel
theorem dd_G_copyFrom_10 : decode bb_G_copyFrom 10 = .ok (.bipush 8, 2) := by decide +kernel
theorem dd_G_copyFrom_12 : decode bb_G_copyFrom 12 = .ok (.invokestatic 18, 3) := by decide +kernel
theorem dd_G_copyFrom_15 : decode bb_G_copyFrom 15 = .ok (.aload_n 1, 1) := by decide +kernel
theorem dd_G_copyFrom_16 : decode bb_G_copyFrom 16 = .ok (.getfield 15, 3) := by decide +kernel
theorem dd_G_copyFrom_19 : decode bb_G_copyFrom 19 = .ok (.iconst 0, 1) := by decide +kernel
theorem dd_G_copyFrom_20 : decode bb_G_copyFrom 20 = .ok (.aload_n 0, 1) := by decide +kernel
theorem dd_G_copyFrom_21 : decode bb_G_copyFrom 21 = .ok (.getfield 15, 3) := by decide +kernel
theorem dd_G_copyFrom_24 : decode bb_G_copyFrom 24 = .ok (.iconst 0, 1) := by decide +kernel
theorem dd_G_copyFrom_25 : decode bb_G_copyFrom 25 = .ok (.bipush 8, 2) := by decide +kernel
theorem dd_G_copyFrom_27 : decode bb_G_copyFrom 27 = .ok (.invokestatic 18, 3) := by decide +kernel
theorem dd_G_copyFrom_30 : decode bb_G_copyFrom 30 = .ok (.aload_n 0, 1) := by decide +kernel
theorem dd_G_copyFrom_31 : decode bb_G_copyFrom 31 = .ok (.aload_n 1, 1) := by decide +kernel
theorem dd_G_copyFrom_32 : decode bb_G_copyFrom 32 = .ok (.getfield 24, 3) := by decide +kernel
theorem dd_G_copyFrom_35 : decode bb_G_copyFrom 35 = .ok (.putfield 24, 3) := by decide +kernel
theorem dd_G_copyFrom_38 : decode bb_G_copyFrom 38 = .ok (.aload_n 0, 1) := by decide +kernel
theorem dd_G_copyFrom_39 : decode bb_G_copyFrom 39 = .ok (.aload_n 1, 1) := by decide +kernel
theorem dd_G_copyFrom_40 : decode bb_G_copyFrom 40 = .ok (.getfield 28, 3) := by decide +kernel
theorem dd_G_copyFrom_43 : decode bb_G_copyFrom 43 = .ok (.putfield 28, 3) := by decide +kernel
theorem dd_G_copyFrom_46 : decode bb_G_copyFrom 46 = .ok (.aload_n 0, 1) := by decide +kernel
theorem dd_G_copyFrom_47 : decode bb_G_copyFrom 47 = .ok (.aload_n 1, 1) := by decide +kernel
theorem dd_G_copyFrom_48 : decode bb_G_copyFrom 48 = .ok (.getfield 31, 3) := by decide +kernel
theorem dd_G_copyFrom_51 : decode bb_G_copyFrom 51 = .ok (.putfield 31, 3) := by decide +kernel
theorem dd_G_copyFrom_54 : decode bb_G_copyFrom 54 = .ok (.aload_n 0, 1) := by decide +kernel
theorem dd_G_copyFrom_55 : decode bb_G_copyFrom 55 = .ok (.aload_n 1, 1) := by decide +kernel
theorem dd_G_copyFrom_56 : decode bb_G_copyFrom 56 = .ok (.getfield 34, 3) := by decide +kernel
theorem dd_G_copyFrom_59 : decode bb_G_copyFrom 59 = .ok (.putfield 34, 3) := by decide +kernel
theorem dd_G_copyFrom_62 : decode bb_G_copyFrom 62 = .ok (.return_, 1) := by decide +kernel
def mm_G_copyFrom (N : Nat) (this : Option Nat) (a1 : Option Nat) (h : ss_Hp) : Option ss_Hp :=
  if ss_is h this 0 = true then
    (ss_gr h a1 0 0).bind fun r1 =>
    (ss_gr h this 0 0).bind fun r2 =>
    (ss_cp h r1 (0 : Int32) r2 (0 : Int32) (8 : Int32)).bind fun h3 =>
    (ss_gr h3 a1 0 1).bind fun r4 =>
    (ss_gr h3 this 0 1).bind fun r5 =>
    (ss_cp h3 r4 (0 : Int32) r5 (0 : Int32) (8 : Int32)).bind fun h6 =>
    (ss_gi h6 a1 0 0).bind fun v7 =>
    (ss_pi h6 this 0 0 v7).bind fun h8 =>
    (ss_gi h8 a1 0 1).bind fun v9 =>
    (ss_pi h8 this 0 1 v9).bind fun h10 =>
    (ss_gi h10 a1 0 2).bind fun v11 =>
    (ss_pi h10 this 0 2 v11).bind fun h12 =>
    (ss_gi h12 a1 0 3).bind fun v13 =>
    (ss_pi h12 this 0 3 v13).bind fun h14 =>
    some h14
  else none
abbrev ww_G_copyFrom (p : Program) (l : Launch) (e : Env) (s : State) (m : MethodId) (below : List Frame) (meth : Method) (c : Code) (G : ss_G) (this : Option Nat) (a1 : Option Nat) (h : ss_Hp) (hh : ss_Hp) (H : Heap) (locs : List Loc) (k n : Nat) (g : JFrame) : Prop := W p l e (headSpec (ss_w yy_G_copyFrom bb_G_copyFrom 2 none) ({ frames := 1, cells := 0, slots := 0, locals := 80 })).room s m ([ss_v (ss_b G) this, ss_v (ss_b G) a1] : List Value).toArray below meth c H locs k n (MQ below (ss_Qc G none hh) ([ss_v (ss_b G) this, ss_v (ss_b G) a1] : List Value).toArray s 0 0 (ss_A G)) g
theorem ck_G_copyFrom {N : Nat} {this : Option Nat} {a1 : Option Nat} {h : ss_Hp} {res : ss_Hp} (hm : mm_G_copyFrom N this a1 h = some res) : ss_is h this 0 = true := (ss_chk hm).1
set_option maxHeartbeats 4000000 in
set_option maxRecDepth 100000 in
theorem cc_G_copyFrom (l : Launch) (G : ss_G) (N : Nat) (this : Option Nat) (a1 : Option Nat) (h : ss_Hp) (hh : ss_Hp) (hm : mm_G_copyFrom N this a1 h = some hh) : ss_Ct l G yy_G_copyFrom bb_G_copyFrom 2 none ({ frames := 1, cells := 0, slots := 0, locals := 80 }) [ss_v (ss_b G) this, ss_v (ss_b G) a1] h none hh := by
  obtain ⟨hck, hm⟩ := ss_chk hm
  refine Met.ofW (cc := bb_G_copyFrom) (maxL := 2) (ret := none) (by decide) rfl ?_
  intro p e s m args below meth c s₁ B hml hv
  obtain ⟨rfl, hR, hK⟩ := hv
  have hC : CallFix p m c bb_G_copyFrom 2 s _ lw_g sR_0 := ⟨B.exec, B.bytes, hml, findClass_of_methodNamed B.named, fun w hw => atoms_spec (ws := ss_w yy_G_copyFrom bb_G_copyFrom 2 none) B.pre w (List.mem_cons_of_mem _ hw)⟩
  have hx := hC.1
  have hb := hC.2.1
  have hr := B.returns
  have hlocks := B.notSynchronized
  have hS : va_S (ss_A G) s.heap s.heap [] := va_S.rf
  have hl := lv_entry ([ss_v (ss_b G) this, ss_v (ss_b G) a1]) (n := 2) (by simp [lg_sl, ss_v_cat, ss_cat_i, ss_cat_l, ss_cat_r])
  rw [lg_entry_eq]
  generalize (lg_sl ([ss_v (ss_b G) this, ss_v (ss_b G) a1]) ++ List.replicate (2 - (lg_sl ([ss_v (ss_b G) this, ss_v (ss_b G) a1])).length) Slot.unset).toArray = ls at hl ⊢
  have hl : lv_has ls 2 [(0, ss_v (ss_b G) this), (1, ss_v (ss_b G) a1)] := by simpa [lv_args, ss_v_cat, ss_cat_i, ss_cat_l, ss_cat_r] using hl
  refine ss_aload_n hx hb dd_G_copyFrom_0 rfl (lv_at hl 1 rfl) ?_
  obtain ⟨r1, qr1, hm⟩ := ss_bind hm
  refine ss_getr hC hK hR kf_G_9 rfl qr1 dd_G_copyFrom_1 ?_
  refine lv_iconst (v := 0) hx hb dd_G_copyFrom_4 (by decide) ?_
  refine ss_aload_n hx hb dd_G_copyFrom_5 rfl (lv_at hl 0 rfl) ?_
  obtain ⟨r2, qr2, hm⟩ := ss_bind hm
  refine ss_getr hC hK hR kf_G_9 rfl qr2 dd_G_copyFrom_6 ?_
  refine lv_iconst (v := 0) hx hb dd_G_copyFrom_9 (by decide) ?_
  refine lv_bipush (v := 8) hx hb dd_G_copyFrom_10 (by decide) ?_
  obtain ⟨h3, qh3, hm⟩ := ss_bind hm
  refine ss_copy hC hK hR hS hl.1 kj_G_18 kj_ac_n kj_ac_s kj_sys qh3 (Nat.le_of_ble_eq_true rfl) (Nat.le_of_ble_eq_true rfl) (by decide) dd_G_copyFrom_12 (fun H locs hR hS => ?_)
  refine ss_aload_n hx hb dd_G_copyFrom_15 rfl (lv_at hl 1 rfl) ?_
  obtain ⟨r4, qr4, hm⟩ := ss_bind hm
  refine ss_getr hC hK hR kf_G_15 rfl qr4 dd_G_copyFrom_16 ?_
  refine lv_iconst (v := 0) hx hb dd_G_copyFrom_19 (by decide) ?_
  refine ss_aload_n hx hb dd_G_copyFrom_20 rfl (lv_at hl 0 rfl) ?_
  obtain ⟨r5, qr5, hm⟩ := ss_bind hm
  refine ss_getr hC hK hR kf_G_15 rfl qr5 dd_G_copyFrom_21 ?_
  refine lv_iconst (v := 0) hx hb dd_G_copyFrom_24 (by decide) ?_
  refine lv_bipush (v := 8) hx hb dd_G_copyFrom_25 (by decide) ?_
  obtain ⟨h6, qh6, hm⟩ := ss_bind hm
  refine ss_copy hC hK hR hS hl.1 kj_G_18 kj_ac_n kj_ac_s kj_sys qh6 (Nat.le_of_ble_eq_true rfl) (Nat.le_of_ble_eq_true rfl) (by decide) dd_G_copyFrom_27 (fun H locs hR hS => ?_)
  refine ss_aload_n hx hb dd_G_copyFrom_30 rfl (lv_at hl 0 rfl) ?_
  refine ss_aload_n hx hb dd_G_copyFrom_31 rfl (lv_at hl 1 rfl) ?_
  obtain ⟨v7, qv7, hm⟩ := ss_bind hm
  refine ss_geti hC hK hR kf_G_24 qv7 dd_G_copyFrom_32 ?_
  obtain ⟨h8, qh8, hm⟩ := ss_bind hm
  refine ss_puti hC hK hR hS kp_G_24 qh8 dd_G_copyFrom_35 (fun H locs hR hS => ?_)
  refine ss_aload_n hx hb dd_G_copyFrom_38 rfl (lv_at hl 0 rfl) ?_
  refine ss_aload_n hx hb dd_G_copyFrom_39 rfl (lv_at hl 1 rfl) ?_
  obtain ⟨v9, qv9, hm⟩ := ss_bind hm
  refine ss_geti hC hK hR kf_G_28 qv9 dd_G_copyFrom_40 ?_
  obtain ⟨h10, qh10, hm⟩ := ss_bind hm
  refine ss_puti hC hK hR hS kp_G_28 qh10 dd_G_copyFrom_43 (fun H locs hR hS => ?_)
  refine ss_aload_n hx hb dd_G_copyFrom_46 rfl (lv_at hl 0 rfl) ?_
  refine ss_aload_n hx hb dd_G_copyFrom_47 rfl (lv_at hl 1 rfl) ?_
  obtain ⟨v11, qv11, hm⟩ := ss_bind hm
  refine ss_geti hC hK hR kf_G_31 qv11 dd_G_copyFrom_48 ?_
  obtain ⟨h12, qh12, hm⟩ := ss_bind hm
  refine ss_puti hC hK hR hS kp_G_31 qh12 dd_G_copyFrom_51 (fun H locs hR hS => ?_)
  refine ss_aload_n hx hb dd_G_copyFrom_54 rfl (lv_at hl 0 rfl) ?_
  refine ss_aload_n hx hb dd_G_copyFrom_55 rfl (lv_at hl 1 rfl) ?_
  obtain ⟨v13, qv13, hm⟩ := ss_bind hm
  refine ss_geti hC hK hR kf_G_34 qv13 dd_G_copyFrom_56 ?_
  obtain ⟨h14, qh14, hm⟩ := ss_bind hm
  refine ss_puti hC hK hR hS kp_G_34 qh14 dd_G_copyFrom_59 (fun H locs hR hS => ?_)
  exact ss_vret hC hr hlocks hR hS hm dd_G_copyFrom_62
theorem dd_Wo_settle_0 : decode bb_Wo_settle 0 = .ok (.aload_n 0, 1) := by decide +kernel
theorem dd_Wo_settle_1 : decode bb_Wo_settle 1 = .ok (.aload_n 1, 1) := by decide +kernel
theorem dd_Wo_settle_2 : decode bb_Wo_settle 2 = .ok (.putfield 32, 3) := by decide +kernel
theorem dd_Wo_settle_5 : decode bb_Wo_settle 5 = .ok (.aload_n 0, 1) := by decide +kernel
theorem dd_Wo_settle_6 : decode bb_Wo_settle 6 = .ok (.getfield 12, 3) := by decide +kernel
theorem dd_Wo_settle_9 : decode bb_Wo_settle 9 = .ok (.aload_n 1, 1) := by decide +kernel
theorem dd_Wo_settle_10 : decode bb_Wo_settle 10 = .ok (.getfield 36, 3) := by decide +kernel
theorem dd_Wo_settle_13 : decode bb_Wo_settle 13 = .ok (.invokevirtual 41, 3) := by decide +kernel
theorem dd_Wo_settle_16 : decode bb_Wo_settle 16 = .ok (.aload_n 0, 1) := by decide +kernel
theorem dd_Wo_settle_17 : decode bb_Wo_settle 17 = .ok (.iconst 0, 1) := by decide +kernel
theorem dd_Wo_settle_18 : decode bb_Wo_settle 18 = .ok (.putfield 45, 3) := by decide +kernel
theorem dd_Wo_settle_21 : decode bb_Wo_settle 21 = .ok (.return_, 1) := by decide +kernel
def mm_Wo_settle (N : Nat) (this : Option Nat) (a1 : Option Nat) (h : ss_Hp) : Option ss_Hp :=
  if ss_is h this 8 = true then
    (ss_pr h this 8 0 a1).bind fun h1 =>
    (ss_gr h1 this 8 1).bind fun r2 =>
    (ss_gr h1 a1 5 4).bind fun r3 =>
    (mm_G_copyFrom N r2 r3 h1).bind fun h4 =>
    (ss_pi h4 this 8 2 (0 : Int32)).bind fun h5 =>
    some h5
  else none
abbrev ww_Wo_settle (p : Program) (l : Launch) (e : Env) (s : State) (m : MethodId) (below : List Frame) (meth : Method) (c : Code) (G : ss_G) (this : Option Nat) (a1 : Option Nat) (h : ss_Hp) (hh : ss_Hp) (H : Heap) (locs : List Loc) (k n : Nat) (g : JFrame) : Prop := W p l e (headSpec (ss_w yy_Wo_settle bb_Wo_settle 2 none) ({ frames := 2, cells := 0, slots := 0, locals := 101 })).room s m ([ss_v (ss_b G) this, ss_v (ss_b G) a1] : List Value).toArray below meth c H locs k n (MQ below (ss_Qc G none hh) ([ss_v (ss_b G) this, ss_v (ss_b G) a1] : List Value).toArray s 0 0 (ss_A G)) g
theorem ck_Wo_settle {N : Nat} {this : Option Nat} {a1 : Option Nat} {h : ss_Hp} {res : ss_Hp} (hm : mm_Wo_settle N this a1 h = some res) : ss_is h this 8 = true := (ss_chk hm).1
set_option maxHeartbeats 4000000 in
set_option maxRecDepth 100000 in
theorem cc_Wo_settle (l : Launch) (G : ss_G) (N : Nat) (this : Option Nat) (a1 : Option Nat) (h : ss_Hp) (hh : ss_Hp) (hm : mm_Wo_settle N this a1 h = some hh) : ss_Ct l G yy_Wo_settle bb_Wo_settle 2 none ({ frames := 2, cells := 0, slots := 0, locals := 101 }) [ss_v (ss_b G) this, ss_v (ss_b G) a1] h none hh := by
  obtain ⟨hck, hm⟩ := ss_chk hm
  refine Met.ofW (cc := bb_Wo_settle) (maxL := 2) (ret := none) (by decide) rfl ?_
  intro p e s m args below meth c s₁ B hml hv
  obtain ⟨rfl, hR, hK⟩ := hv
  have hC : CallFix p m c bb_Wo_settle 2 s _ lw_g sR_8 := ⟨B.exec, B.bytes, hml, findClass_of_methodNamed B.named, fun w hw => atoms_spec (ws := ss_w yy_Wo_settle bb_Wo_settle 2 none) B.pre w (List.mem_cons_of_mem _ hw)⟩
  have hx := hC.1
  have hb := hC.2.1
  have hr := B.returns
  have hlocks := B.notSynchronized
  have hS : va_S (ss_A G) s.heap s.heap [] := va_S.rf
  have hl := lv_entry ([ss_v (ss_b G) this, ss_v (ss_b G) a1]) (n := 2) (by simp [lg_sl, ss_v_cat, ss_cat_i, ss_cat_l, ss_cat_r])
  rw [lg_entry_eq]
  generalize (lg_sl ([ss_v (ss_b G) this, ss_v (ss_b G) a1]) ++ List.replicate (2 - (lg_sl ([ss_v (ss_b G) this, ss_v (ss_b G) a1])).length) Slot.unset).toArray = ls at hl ⊢
  have hl : lv_has ls 2 [(0, ss_v (ss_b G) this), (1, ss_v (ss_b G) a1)] := by simpa [lv_args, ss_v_cat, ss_cat_i, ss_cat_l, ss_cat_r] using hl
  refine ss_aload_n hx hb dd_Wo_settle_0 rfl (lv_at hl 0 rfl) ?_
  refine ss_aload_n hx hb dd_Wo_settle_1 rfl (lv_at hl 1 rfl) ?_
  obtain ⟨h1, qh1, hm⟩ := ss_bind hm
  refine ss_putr hC hK hR hS kp_Wo_32 rfl (Or.inl ⟨_, rfl⟩) qh1 dd_Wo_settle_2 (fun H locs hR hS => ?_)
  refine ss_aload_n hx hb dd_Wo_settle_5 rfl (lv_at hl 0 rfl) ?_
  obtain ⟨r2, qr2, hm⟩ := ss_bind hm
  refine ss_getr hC hK hR kf_Wo_12 rfl qr2 dd_Wo_settle_6 ?_
  refine ss_aload_n hx hb dd_Wo_settle_9 rfl (lv_at hl 1 rfl) ?_
  obtain ⟨r3, qr3, hm⟩ := ss_bind hm
  refine ss_getr hC hK hR kf_Wo_36 rfl qr3 dd_Wo_settle_10 ?_
  obtain ⟨h4, qh4, hm⟩ := ss_bind hm
  refine ss_cVv 0 0 (As := [ss_v (ss_b G) r3]) hC hK hR hS hl.1 (cc_G_copyFrom l G N _ _ _ _ qh4) km_Wo_41 (ck_G_copyFrom qh4) ⟨Nat.le_of_ble_eq_true rfl, Nat.le_of_ble_eq_true rfl⟩ ⟨Nat.le_of_ble_eq_true rfl, Nat.le_of_ble_eq_true rfl, Nat.le_of_ble_eq_true rfl, Nat.le_of_ble_eq_true rfl⟩ rfl rfl (Nat.le_of_ble_eq_true rfl) dd_Wo_settle_13 (fun H locs hR hS => ?_)
  refine ss_aload_n hx hb dd_Wo_settle_16 rfl (lv_at hl 0 rfl) ?_
  refine lv_iconst (v := 0) hx hb dd_Wo_settle_17 (by decide) ?_
  obtain ⟨h5, qh5, hm⟩ := ss_bind hm
  refine ss_puti hC hK hR hS kp_Wo_45 qh5 dd_Wo_settle_18 (fun H locs hR hS => ?_)
  exact ss_vret hC hr hlocks hR hS hm dd_Wo_settle_21
theorem dd_A_forget_0 : decode bb_A_forget 0 = .ok (.aload_n 0, 1) := by decide +kernel
theorem dd_A_forget_1 : decode bb_A_forget 1 = .ok (.iconst 0, 1) := by decide +kernel
theorem dd_A_forget_2 : decode bb_A_forget 2 = .ok (.putfield 26, 3) := by decide +kernel
theorem dd_A_forget_5 : decode bb_A_forget 5 = .ok (.return_, 1) := by decide +kernel
def mm_A_forget (N : Nat) (this : Option Nat) (h : ss_Hp) : Option ss_Hp :=
  if ss_is h this 3 = true then
    (ss_pi h this 3 1 (0 : Int32)).bind fun h1 =>
    some h1
  else none
abbrev ww_A_forget (p : Program) (l : Launch) (e : Env) (s : State) (m : MethodId) (below : List Frame) (meth : Method) (c : Code) (G : ss_G) (this : Option Nat) (h : ss_Hp) (hh : ss_Hp) (H : Heap) (locs : List Loc) (k n : Nat) (g : JFrame) : Prop := W p l e (headSpec (ss_w yy_A_forget bb_A_forget 1 none) ({ frames := 0, cells := 0, slots := 0, locals := 0 })).room s m ([ss_v (ss_b G) this] : List Value).toArray below meth c H locs k n (MQ below (ss_Qc G none hh) ([ss_v (ss_b G) this] : List Value).toArray s 0 0 (ss_A G)) g
theorem ck_A_forget {N : Nat} {this : Option Nat} {h : ss_Hp} {res : ss_Hp} (hm : mm_A_forget N this h = some res) : ss_is h this 3 = true := (ss_chk hm).1
set_option maxHeartbeats 4000000 in
set_option maxRecDepth 100000 in
theorem cc_A_forget (l : Launch) (G : ss_G) (N : Nat) (this : Option Nat) (h : ss_Hp) (hh : ss_Hp) (hm : mm_A_forget N this h = some hh) : ss_Ct l G yy_A_forget bb_A_forget 1 none ({ frames := 0, cells := 0, slots := 0, locals := 0 }) [ss_v (ss_b G) this] h none hh := by
  obtain ⟨hck, hm⟩ := ss_chk hm
  refine Met.ofW (cc := bb_A_forget) (maxL := 1) (ret := none) (by decide) rfl ?_
  intro p e s m args below meth c s₁ B hml hv
  obtain ⟨rfl, hR, hK⟩ := hv
  have hC : CallFix p m c bb_A_forget 1 s _ lw_g sR_3 := ⟨B.exec, B.bytes, hml, findClass_of_methodNamed B.named, fun w hw => atoms_spec (ws := ss_w yy_A_forget bb_A_forget 1 none) B.pre w (List.mem_cons_of_mem _ hw)⟩
  have hx := hC.1
  have hb := hC.2.1
  have hr := B.returns
  have hlocks := B.notSynchronized
  have hS : va_S (ss_A G) s.heap s.heap [] := va_S.rf
  have hl := lv_entry ([ss_v (ss_b G) this]) (n := 1) (by simp [lg_sl, ss_v_cat, ss_cat_i, ss_cat_l, ss_cat_r])
  rw [lg_entry_eq]
  generalize (lg_sl ([ss_v (ss_b G) this]) ++ List.replicate (1 - (lg_sl ([ss_v (ss_b G) this])).length) Slot.unset).toArray = ls at hl ⊢
  have hl : lv_has ls 1 [(0, ss_v (ss_b G) this)] := by simpa [lv_args, ss_v_cat, ss_cat_i, ss_cat_l, ss_cat_r] using hl
  refine ss_aload_n hx hb dd_A_forget_0 rfl (lv_at hl 0 rfl) ?_
  refine lv_iconst (v := 0) hx hb dd_A_forget_1 (by decide) ?_
  obtain ⟨h1, qh1, hm⟩ := ss_bind hm
  refine ss_puti hC hK hR hS kp_A_26 qh1 dd_A_forget_2 (fun H locs hR hS => ?_)
  exact ss_vret hC hr hlocks hR hS hm dd_A_forget_5
theorem dd_S_valley_0 : decode bb_S_valley 0 = .ok (.aload_n 0, 1) := by decide +kernel
theorem dd_S_valley_1 : decode bb_S_valley 1 = .ok (.getfield 21, 3) := by decide +kernel
theorem dd_S_valley_4 : decode bb_S_valley 4 = .ok (.invokevirtual 98, 3) := by decide +kernel
theorem dd_S_valley_7 : decode bb_S_valley 7 = .ok (.astore_n 1, 1) := by decide +kernel
theorem dd_S_valley_8 : decode bb_S_valley 8 = .ok (.aload_n 0, 1) := by decide +kernel
theorem dd_S_valley_9 : decode bb_S_valley 9 = .ok (.getfield 10, 3) := by decide +kernel
theorem dd_S_valley_12 : decode bb_S_valley 12 = .ok (.iconst 0, 1) := by decide +kernel
theorem dd_S_valley_13 : decode bb_S_valley 13 = .ok (.putfield 90, 3) := by decide +kernel
theorem dd_S_valley_16 : decode bb_S_valley 16 = .ok (.aload_n 1, 1) := by decide +kernel
theorem dd_S_valley_17 : decode bb_S_valley 17 = .ok (.ifnonnull 14, 3) := by decide +kernel
theorem dd_S_valley_20 : decode bb_S_valley 20 = .ok (.bipush (-2), 2) := by decide +kernel
theorem dd_S_valley_22 : decode bb_S_valley 22 = .ok (.aload_n 0, 1) := by decide +kernel
theorem dd_S_valley_23 : decode bb_S_valley 23 = .ok (.getfield 10, 3) := by decide +kernel
theorem dd_S_valley_26 : decode bb_S_valley 26 = .ok (.getfield 102, 3) := by decide +kernel
theorem dd_S_valley_29 : decode bb_S_valley 29 = .ok (.isub, 1) := by decide +kernel
theorem dd_S_valley_30 : decode bb_S_valley 30 = .ok (.ireturn, 1) := by decide +kernel
theorem dd_S_valley_31 : decode bb_S_valley 31 = .ok (.aload_n 0, 1) := by decide +kernel
theorem dd_S_valley_32 : decode bb_S_valley 32 = .ok (.getfield 46, 3) := by decide +kernel
theorem dd_S_valley_35 : decode bb_S_valley 35 = .ok (.aload_n 1, 1) := by decide +kernel
theorem dd_S_valley_36 : decode bb_S_valley 36 = .ok (.invokevirtual 105, 3) := by decide +kernel
theorem dd_S_valley_39 : decode bb_S_valley 39 = .ok (.aload_n 0, 1) := by decide +kernel
theorem dd_S_valley_40 : decode bb_S_valley 40 = .ok (.getfield 57, 3) := by decide +kernel
theorem dd_S_valley_43 : decode bb_S_valley 43 = .ok (.invokevirtual 108, 3) := by decide +kernel
theorem dd_S_valley_46 : decode bb_S_valley 46 = .ok (.aload_n 1, 1) := by decide +kernel
theorem dd_S_valley_47 : decode bb_S_valley 47 = .ok (.getfield 111, 3) := by decide +kernel
theorem dd_S_valley_50 : decode bb_S_valley 50 = .ok (.ireturn, 1) := by decide +kernel
def mm_S_valley (N : Nat) (this : Option Nat) (h : ss_Hp) : Option (Int32 × ss_Hp) :=
  if ss_is h this 11 = true then
    (ss_gr h this 11 1).bind fun r1 =>
    ss_b2 (mm_VR_readValley N r1 h) fun r2 h3 =>
    (ss_gr h3 this 11 0).bind fun r4 =>
    (ss_pi h3 r4 2 0 (0 : Int32)).bind fun h5 =>
    if r2.isSome = true then
      (ss_gr h5 this 11 4).bind fun r7 =>
      (mm_Wo_settle N r7 r2 h5).bind fun h8 =>
      (ss_gr h8 this 11 6).bind fun r9 =>
      (mm_A_forget N r9 h8).bind fun h10 =>
      (ss_gi h10 r2 5 3).bind fun v11 =>
      some (v11, h10)
    else
      (ss_gr h5 this 11 0).bind fun r12 =>
      (ss_gi h5 r12 2 1).bind fun v13 =>
      some (((-2 : Int32) - v13), h5)
  else none
abbrev ww_S_valley (p : Program) (l : Launch) (e : Env) (s : State) (m : MethodId) (below : List Frame) (meth : Method) (c : Code) (G : ss_G) (this : Option Nat) (h : ss_Hp) (rr : Int32) (hh : ss_Hp) (H : Heap) (locs : List Loc) (k n : Nat) (g : JFrame) : Prop := W p l e (headSpec (ss_w yy_S_valley bb_S_valley 2 (some (.int))) ({ frames := 11, cells := 8, slots := 56, locals := 270 })).room s m ([ss_v (ss_b G) this] : List Value).toArray below meth c H locs k n (MQ below (ss_Qc G (some (.int rr)) hh) ([ss_v (ss_b G) this] : List Value).toArray s 8 56 (ss_A G)) g
theorem ck_S_valley {N : Nat} {this : Option Nat} {h : ss_Hp} {res : Int32 × ss_Hp} (hm : mm_S_valley N this h = some res) : ss_is h this 11 = true := (ss_chk hm).1
set_option maxHeartbeats 4000000 in
set_option maxRecDepth 100000 in
theorem cc_S_valley (l : Launch) (G : ss_G) (N : Nat) (this : Option Nat) (h : ss_Hp) (rr : Int32) (hh : ss_Hp) (hm : mm_S_valley N this h = some (rr, hh)) : ss_Ct l G yy_S_valley bb_S_valley 2 (some (.int)) ({ frames := 11, cells := 8, slots := 56, locals := 270 }) [ss_v (ss_b G) this] h (some (.int rr)) hh := by
  obtain ⟨hck, hm⟩ := ss_chk hm
  refine Met.ofW (cc := bb_S_valley) (maxL := 2) (ret := (some (.int))) (by decide) rfl ?_
  intro p e s m args below meth c s₁ B hml hv
  obtain ⟨rfl, hR, hK⟩ := hv
  have hC : CallFix p m c bb_S_valley 2 s _ lw_g sR_11 := ⟨B.exec, B.bytes, hml, findClass_of_methodNamed B.named, fun w hw => atoms_spec (ws := ss_w yy_S_valley bb_S_valley 2 (some (.int))) B.pre w (List.mem_cons_of_mem _ hw)⟩
  have hx := hC.1
  have hb := hC.2.1
  have hr := B.returns
  have hlocks := B.notSynchronized
  have hS : va_S (ss_A G) s.heap s.heap [] := va_S.rf
  have hl := lv_entry ([ss_v (ss_b G) this]) (n := 2) (by simp [lg_sl, ss_v_cat, ss_cat_i, ss_cat_l, ss_cat_r])
  rw [lg_entry_eq]
  generalize (lg_sl ([ss_v (ss_b G) this]) ++ List.replicate (2 - (lg_sl ([ss_v (ss_b G) this])).length) Slot.unset).toArray = ls at hl ⊢
  have hl : lv_has ls 2 [(0, ss_v (ss_b G) this)] := by simpa [lv_args, ss_v_cat, ss_cat_i, ss_cat_l, ss_cat_r] using hl
  refine ss_aload_n hx hb dd_S_valley_0 rfl (lv_at hl 0 rfl) ?_
  obtain ⟨r1, qr1, hm⟩ := ss_bind hm
  refine ss_getr hC hK hR kf_S_21 rfl qr1 dd_S_valley_1 ?_
  obtain ⟨r2, h3, qh3, hm⟩ := ss_bind2 hm
  refine ss_cV 8 56 (As := []) hC hK hR hS hl.1 (cc_VR_readValley l G N _ _ _ _ qh3) km_S_98 (ck_VR_readValley qh3) ⟨Nat.le_of_ble_eq_true rfl, Nat.le_of_ble_eq_true rfl⟩ ⟨Nat.le_of_ble_eq_true rfl, Nat.le_of_ble_eq_true rfl, Nat.le_of_ble_eq_true rfl, Nat.le_of_ble_eq_true rfl⟩ rfl rfl (Nat.le_of_ble_eq_true rfl) dd_S_valley_4 (fun H locs hR hS => ?_)
  refine ss_astore_n (lv' := [(1, ss_v (ss_b G) r2), (0, ss_v (ss_b G) this)]) hx hb dd_S_valley_7 rfl hl (by decide) (by simp only [List.filter_cons, ss_v_cat]; rfl) (fun ls hl => ?_)
  refine ss_aload_n hx hb dd_S_valley_8 rfl (lv_at hl 1 rfl) ?_
  obtain ⟨r4, qr4, hm⟩ := ss_bind hm
  refine ss_getr hC hK hR kf_S_10 rfl qr4 dd_S_valley_9 ?_
  refine lv_iconst (v := 0) hx hb dd_S_valley_12 (by decide) ?_
  obtain ⟨h5, qh5, hm⟩ := ss_bind hm
  refine ss_puti hC hK hR hS kp_S_90 qh5 dd_S_valley_13 (fun H locs hR hS => ?_)
  refine ss_aload_n hx hb dd_S_valley_16 rfl (lv_at hl 0 rfl) ?_
  refine ss_ifnonnull (tgt := 31) hx hb dd_S_valley_17 (by decide) (fun c6 => ?_) (fun c6 => ?_)
  · have hm := ss_ift hm c6
    refine ss_aload_n hx hb dd_S_valley_31 rfl (lv_at hl 1 rfl) ?_
    obtain ⟨r7, qr7, hm⟩ := ss_bind hm
    refine ss_getr hC hK hR kf_S_46 rfl qr7 dd_S_valley_32 ?_
    refine ss_aload_n hx hb dd_S_valley_35 rfl (lv_at hl 0 rfl) ?_
    obtain ⟨h8, qh8, hm⟩ := ss_bind hm
    refine ss_cVv 8 56 (As := [ss_v (ss_b G) r2]) hC hK hR hS hl.1 (cc_Wo_settle l G N _ _ _ _ qh8) km_S_105 (ck_Wo_settle qh8) ⟨Nat.le_of_ble_eq_true rfl, Nat.le_of_ble_eq_true rfl⟩ ⟨Nat.le_of_ble_eq_true rfl, Nat.le_of_ble_eq_true rfl, Nat.le_of_ble_eq_true rfl, Nat.le_of_ble_eq_true rfl⟩ rfl rfl (Nat.le_of_ble_eq_true rfl) dd_S_valley_36 (fun H locs hR hS => ?_)
    refine ss_aload_n hx hb dd_S_valley_39 rfl (lv_at hl 1 rfl) ?_
    obtain ⟨r9, qr9, hm⟩ := ss_bind hm
    refine ss_getr hC hK hR kf_S_57 rfl qr9 dd_S_valley_40 ?_
    obtain ⟨h10, qh10, hm⟩ := ss_bind hm
    refine ss_cVv 8 56 (As := []) hC hK hR hS hl.1 (cc_A_forget l G N _ _ _ qh10) km_S_108 (ck_A_forget qh10) ⟨Nat.le_of_ble_eq_true rfl, Nat.le_of_ble_eq_true rfl⟩ ⟨Nat.le_of_ble_eq_true rfl, Nat.le_of_ble_eq_true rfl, Nat.le_of_ble_eq_true rfl, Nat.le_of_ble_eq_true rfl⟩ rfl rfl (Nat.le_of_ble_eq_true rfl) dd_S_valley_43 (fun H locs hR hS => ?_)
    refine ss_aload_n hx hb dd_S_valley_46 rfl (lv_at hl 0 rfl) ?_
    obtain ⟨v11, qv11, hm⟩ := ss_bind hm
    refine ss_geti hC hK hR kf_S_111 qv11 dd_S_valley_47 ?_
    exact ss_iret hC hr hlocks hR hS hm dd_S_valley_50
  · have hm := ss_iff hm c6
    refine lv_bipush (v := -2) hx hb dd_S_valley_20 (by decide) ?_
    refine ss_aload_n hx hb dd_S_valley_22 rfl (lv_at hl 1 rfl) ?_
    obtain ⟨r12, qr12, hm⟩ := ss_bind hm
    refine ss_getr hC hK hR kf_S_10 rfl qr12 dd_S_valley_23 ?_
    obtain ⟨v13, qv13, hm⟩ := ss_bind hm
    refine ss_geti hC hK hR kf_S_102 qv13 dd_S_valley_26 ?_
    refine lv_isub hx hb dd_S_valley_29 ?_
    exact ss_iret hC hr hlocks hR hS hm dd_S_valley_30
theorem dd_T_isWord_0 : decode bb_T_isWord 0 = .ok (.aload_n 0, 1) := by decide +kernel
theorem dd_T_isWord_1 : decode bb_T_isWord 1 = .ok (.aload_n 1, 1) := by decide +kernel
theorem dd_T_isWord_2 : decode bb_T_isWord 2 = .ok (.invokevirtual 60, 3) := by decide +kernel
theorem dd_T_isWord_5 : decode bb_T_isWord 5 = .ok (.ifCond .ne 7, 3) := by decide +kernel
theorem dd_T_isWord_8 : decode bb_T_isWord 8 = .ok (.iconst 1, 1) := by decide +kernel
theorem dd_T_isWord_9 : decode bb_T_isWord 9 = .ok (.goto 4, 3) := by decide +kernel
theorem dd_T_isWord_12 : decode bb_T_isWord 12 = .ok (.iconst 0, 1) := by decide +kernel
theorem dd_T_isWord_13 : decode bb_T_isWord 13 = .ok (.ireturn, 1) := by decide +kernel
def mm_T_isWord_j13 (N : Nat) (this : Option Nat) (a1 : Nat) (h : ss_Hp) (s0_13 : Int32) : Option Int32 :=
  (ss_bz s0_13).bind fun v1 =>
  some v1
def mm_T_isWord (N : Nat) (this : Option Nat) (a1 : Nat) (h : ss_Hp) : Option Int32 :=
  if ss_is h this 2 = true then
    (mm_T_wordIn N this a1 h).bind fun v2 =>
    if v2 = 0 then
      mm_T_isWord_j13 N this a1 h (1 : Int32)
    else
      mm_T_isWord_j13 N this a1 h (0 : Int32)
  else none
abbrev ww_T_isWord (p : Program) (l : Launch) (e : Env) (s : State) (m : MethodId) (below : List Frame) (meth : Method) (c : Code) (G : ss_G) (this : Option Nat) (a1 : Nat) (h : ss_Hp) (rr : Int32) (H : Heap) (locs : List Loc) (k n : Nat) (g : JFrame) : Prop := W p l e (headSpec (ss_w yy_T_isWord bb_T_isWord 2 (some .boolean)) ({ frames := 9, cells := 0, slots := 0, locals := 226 })).room s m ([ss_v (ss_b G) this, .ref (G.2.2.2.1 a1)] : List Value).toArray below meth c H locs k n (MQ below (ss_Qc G (some (.int rr)) h) ([ss_v (ss_b G) this, .ref (G.2.2.2.1 a1)] : List Value).toArray s 0 0 (ss_A G)) g
theorem ck_T_isWord {N : Nat} {this : Option Nat} {a1 : Nat} {h : ss_Hp} {res : Int32} (hm : mm_T_isWord N this a1 h = some res) : ss_is h this 2 = true := (ss_chk hm).1
set_option maxHeartbeats 4000000 in
set_option maxRecDepth 100000 in
theorem cc_T_isWord (l : Launch) (G : ss_G) (N : Nat) (this : Option Nat) (a1 : Nat) (h : ss_Hp) (rr : Int32) (hm : mm_T_isWord N this a1 h = some rr) : ss_Ct l G yy_T_isWord bb_T_isWord 2 (some .boolean) ({ frames := 9, cells := 0, slots := 0, locals := 226 }) [ss_v (ss_b G) this, .ref (G.2.2.2.1 a1)] h (some (.int rr)) h := by
  obtain ⟨hck, hm⟩ := ss_chk hm
  refine Met.ofW (cc := bb_T_isWord) (maxL := 2) (ret := (some .boolean)) (by decide) rfl ?_
  intro p e s m args below meth c s₁ B hml hv
  obtain ⟨rfl, hR, hK⟩ := hv
  have hC : CallFix p m c bb_T_isWord 2 s _ lw_g sR_2 := ⟨B.exec, B.bytes, hml, findClass_of_methodNamed B.named, fun w hw => atoms_spec (ws := ss_w yy_T_isWord bb_T_isWord 2 (some .boolean)) B.pre w (List.mem_cons_of_mem _ hw)⟩
  have hx := hC.1
  have hb := hC.2.1
  have hr := B.returns
  have hlocks := B.notSynchronized
  have hS : va_S (ss_A G) s.heap s.heap [] := va_S.rf
  have hl := lv_entry ([ss_v (ss_b G) this, .ref (G.2.2.2.1 a1)]) (n := 2) (by simp [lg_sl, ss_v_cat, ss_cat_i, ss_cat_l, ss_cat_r])
  rw [lg_entry_eq]
  generalize (lg_sl ([ss_v (ss_b G) this, .ref (G.2.2.2.1 a1)]) ++ List.replicate (2 - (lg_sl ([ss_v (ss_b G) this, .ref (G.2.2.2.1 a1)])).length) Slot.unset).toArray = ls at hl ⊢
  have hl : lv_has ls 2 [(0, ss_v (ss_b G) this), (1, .ref (G.2.2.2.1 a1))] := by simpa [lv_args, ss_v_cat, ss_cat_i, ss_cat_l, ss_cat_r] using hl
  have J_13 : ∀ (s0_13 : Int32) (H : Heap) (locs : List Loc) (ls : Array Slot), mm_T_isWord_j13 N this a1 h s0_13 = some rr → ss_R G h H → va_S (ss_A G) s.heap H locs → lv_has ls 2 [] → ww_T_isWord p l e s m below meth c G this a1 h rr  H locs 0 0 (F0 m 13 ls [.int s0_13]) := by
    intro s0_13 H locs ls hm hR hS hl
    obtain ⟨v1, qv1, hm⟩ := ss_bind hm
    obtain ⟨hnb, rfl⟩ := ss_bzs qv1
    exact ss_zret hC hr hnb hlocks hR hS (ss_with _ hm) dd_T_isWord_13
  refine ss_aload_n hx hb dd_T_isWord_0 rfl (lv_at hl 0 rfl) ?_
  refine lv_aload_n hx hb dd_T_isWord_1 rfl (lv_at hl 1 rfl) ?_
  obtain ⟨v2, qv2, hm⟩ := ss_bind hm
  refine ss_cV 0 0 (As := [.ref (G.2.2.2.1 a1)]) hC hK hR hS hl.1 (cc_T_wordIn l G N _ _ _ _ qv2) km_T_60 (ck_T_wordIn qv2) ⟨Nat.le_of_ble_eq_true rfl, Nat.le_of_ble_eq_true rfl⟩ ⟨Nat.le_of_ble_eq_true rfl, Nat.le_of_ble_eq_true rfl, Nat.le_of_ble_eq_true rfl, Nat.le_of_ble_eq_true rfl⟩ rfl rfl (Nat.le_of_ble_eq_true rfl) dd_T_isWord_2 (fun H locs hR hS => ?_)
  refine lv_if_ne (tgt := 12) hx hb dd_T_isWord_5 (by decide) (fun c3 => ?_) (fun c3 => ?_)
  · have hm := ss_iff hm c3
    refine lv_iconst (v := 0) hx hb dd_T_isWord_12 (by decide) ?_
    exact J_13 (0 : Int32)  _ _ _ hm hR hS (lv_sub hl [] rfl)
  · have hm := ss_ift hm c3
    refine lv_iconst (v := 1) hx hb dd_T_isWord_8 (by decide) ?_
    refine lv_goto (tgt := 13) hx hb dd_T_isWord_9 (by decide) ?_
    exact J_13 (1 : Int32)  _ _ _ hm hR hS (lv_sub hl [] rfl)
theorem dd_RR_begins_0 : decode bb_RR_begins 0 = .ok (.aload_n 0, 1) := by decide +kernel
theorem dd_RR_begins_1 : decode bb_RR_begins 1 = .ok (.getfield 20, 3) := by decide +kernel
theorem dd_RR_begins_4 : decode bb_RR_begins 4 = .ok (.ldc 68, 2) := by decide +kernel
theorem dd_RR_begins_6 : decode bb_RR_begins 6 = .ok (.invokevirtual 52, 3) := by decide +kernel
theorem dd_RR_begins_9 : decode bb_RR_begins 9 = .ok (.ifCond .ne 14, 3) := by decide +kernel
theorem dd_RR_begins_12 : decode bb_RR_begins 12 = .ok (.aload_n 0, 1) := by decide +kernel
theorem dd_RR_begins_13 : decode bb_RR_begins 13 = .ok (.getfield 20, 3) := by decide +kernel
theorem dd_RR_begins_16 : decode bb_RR_begins 16 = .ok (.iconst 0, 1) := by decide +kernel
theorem dd_RR_begins_17 : decode bb_RR_begins 17 = .ok (.invokevirtual 70, 3) := by decide +kernel
theorem dd_RR_begins_20 : decode bb_RR_begins 20 = .ok (.goto 20, 3) := by decide +kernel
theorem dd_RR_begins_23 : decode bb_RR_begins 23 = .ok (.aload_n 0, 1) := by decide +kernel
theorem dd_RR_begins_24 : decode bb_RR_begins 24 = .ok (.getfield 28, 3) := by decide +kernel
theorem dd_RR_begins_27 : decode bb_RR_begins 27 = .ok (.bipush 12, 2) := by decide +kernel
theorem dd_RR_begins_29 : decode bb_RR_begins 29 = .ok (.if_icmp .lt 11, 3) := by decide +kernel
theorem dd_RR_begins_32 : decode bb_RR_begins 32 = .ok (.aload_n 0, 1) := by decide +kernel
theorem dd_RR_begins_33 : decode bb_RR_begins 33 = .ok (.getfield 20, 3) := by decide +kernel
theorem dd_RR_begins_36 : decode bb_RR_begins 36 = .ok (.iconst 4, 1) := by decide +kernel
theorem dd_RR_begins_37 : decode bb_RR_begins 37 = .ok (.invokevirtual 70, 3) := by decide +kernel
theorem dd_RR_begins_40 : decode bb_RR_begins 40 = .ok (.aload_n 0, 1) := by decide +kernel
theorem dd_RR_begins_41 : decode bb_RR_begins 41 = .ok (.getfield 20, 3) := by decide +kernel
theorem dd_RR_begins_44 : decode bb_RR_begins 44 = .ok (.invokevirtual 47, 3) := by decide +kernel
theorem dd_RR_begins_47 : decode bb_RR_begins 47 = .ok (.ireturn, 1) := by decide +kernel
def mm_RR_begins_j40 (N : Nat) (this : Option Nat) (h_40 : ss_Hp) : Option (Int32 × ss_Hp) :=
  (ss_gr h_40 this 4 0).bind fun r1 =>
  (mm_T_isWell N r1 h_40).bind fun v2 =>
  (ss_bz v2).bind fun v3 =>
  some (v3, h_40)
def mm_RR_begins (N : Nat) (this : Option Nat) (h : ss_Hp) : Option (Int32 × ss_Hp) :=
  if ss_is h this 4 = true then
    (ss_gr h this 4 0).bind fun r4 =>
    (mm_T_isWord N r4 1 h).bind fun v5 =>
    if v5 = 0 then
      (ss_gr h this 4 0).bind fun r11 =>
      (mm_T_fail N r11 (0 : Int32) h).bind fun h12 =>
      mm_RR_begins_j40 N this h12
    else
      (ss_gi h this 4 1).bind fun v7 =>
      if v7 < (12 : Int32) then
        mm_RR_begins_j40 N this h
      else
        (ss_gr h this 4 0).bind fun r9 =>
        (mm_T_fail N r9 (4 : Int32) h).bind fun h10 =>
        mm_RR_begins_j40 N this h10
  else none
abbrev ww_RR_begins (p : Program) (l : Launch) (e : Env) (s : State) (m : MethodId) (below : List Frame) (meth : Method) (c : Code) (G : ss_G) (this : Option Nat) (h : ss_Hp) (rr : Int32) (hh : ss_Hp) (H : Heap) (locs : List Loc) (k n : Nat) (g : JFrame) : Prop := W p l e (headSpec (ss_w yy_RR_begins bb_RR_begins 1 (some .boolean)) ({ frames := 10, cells := 0, slots := 0, locals := 247 })).room s m ([ss_v (ss_b G) this] : List Value).toArray below meth c H locs k n (MQ below (ss_Qc G (some (.int rr)) hh) ([ss_v (ss_b G) this] : List Value).toArray s 0 0 (ss_A G)) g
theorem ck_RR_begins {N : Nat} {this : Option Nat} {h : ss_Hp} {res : Int32 × ss_Hp} (hm : mm_RR_begins N this h = some res) : ss_is h this 4 = true := (ss_chk hm).1
set_option maxHeartbeats 4000000 in
set_option maxRecDepth 100000 in
theorem cc_RR_begins (l : Launch) (G : ss_G) (N : Nat) (this : Option Nat) (h : ss_Hp) (rr : Int32) (hh : ss_Hp) (hm : mm_RR_begins N this h = some (rr, hh)) : ss_Ct l G yy_RR_begins bb_RR_begins 1 (some .boolean) ({ frames := 10, cells := 0, slots := 0, locals := 247 }) [ss_v (ss_b G) this] h (some (.int rr)) hh := by
  obtain ⟨hck, hm⟩ := ss_chk hm
  refine Met.ofW (cc := bb_RR_begins) (maxL := 1) (ret := (some .boolean)) (by decide) rfl ?_
  intro p e s m args below meth c s₁ B hml hv
  obtain ⟨rfl, hR, hK⟩ := hv
  have hC : CallFix p m c bb_RR_begins 1 s _ lw_g sR_4 := ⟨B.exec, B.bytes, hml, findClass_of_methodNamed B.named, fun w hw => atoms_spec (ws := ss_w yy_RR_begins bb_RR_begins 1 (some .boolean)) B.pre w (List.mem_cons_of_mem _ hw)⟩
  have hx := hC.1
  have hb := hC.2.1
  have hr := B.returns
  have hlocks := B.notSynchronized
  have hS : va_S (ss_A G) s.heap s.heap [] := va_S.rf
  have hl := lv_entry ([ss_v (ss_b G) this]) (n := 1) (by simp [lg_sl, ss_v_cat, ss_cat_i, ss_cat_l, ss_cat_r])
  rw [lg_entry_eq]
  generalize (lg_sl ([ss_v (ss_b G) this]) ++ List.replicate (1 - (lg_sl ([ss_v (ss_b G) this])).length) Slot.unset).toArray = ls at hl ⊢
  have hl : lv_has ls 1 [(0, ss_v (ss_b G) this)] := by simpa [lv_args, ss_v_cat, ss_cat_i, ss_cat_l, ss_cat_r] using hl
  have J_40 : ∀ (h_40 : ss_Hp) (H : Heap) (locs : List Loc) (ls : Array Slot), mm_RR_begins_j40 N this h_40 = some (rr, hh) → ss_R G h_40 H → va_S (ss_A G) s.heap H locs → lv_has ls 1 [(0, ss_v (ss_b G) this)] → ww_RR_begins p l e s m below meth c G this h rr hh  H locs 0 0 (F0 m 40 ls []) := by
    intro h_40 H locs ls hm hR hS hl
    refine ss_aload_n hx hb dd_RR_begins_40 rfl (lv_at hl 0 rfl) ?_
    obtain ⟨r1, qr1, hm⟩ := ss_bind hm
    refine ss_getr hC hK hR kf_RR_20 rfl qr1 dd_RR_begins_41 ?_
    obtain ⟨v2, qv2, hm⟩ := ss_bind hm
    refine ss_cV 0 0 (As := []) hC hK hR hS hl.1 (cc_T_isWell l G N _ _ _ qv2) km_RR_47 (ck_T_isWell qv2) ⟨Nat.le_of_ble_eq_true rfl, Nat.le_of_ble_eq_true rfl⟩ ⟨Nat.le_of_ble_eq_true rfl, Nat.le_of_ble_eq_true rfl, Nat.le_of_ble_eq_true rfl, Nat.le_of_ble_eq_true rfl⟩ rfl rfl (Nat.le_of_ble_eq_true rfl) dd_RR_begins_44 (fun H locs hR hS => ?_)
    obtain ⟨v3, qv3, hm⟩ := ss_bind hm
    obtain ⟨hnb, rfl⟩ := ss_bzs qv3
    exact ss_zret hC hr hnb hlocks hR hS hm dd_RR_begins_47
  refine ss_aload_n hx hb dd_RR_begins_0 rfl (lv_at hl 0 rfl) ?_
  obtain ⟨r4, qr4, hm⟩ := ss_bind hm
  refine ss_getr hC hK hR kf_RR_20 rfl qr4 dd_RR_begins_1 ?_
  refine va_ldcS hx hb hC.2.2.2.1 (ss_sr_1 hK) dd_RR_begins_4 ?_
  obtain ⟨v5, qv5, hm⟩ := ss_bind hm
  refine ss_cV 0 0 (As := [.ref (G.2.2.2.1 1)]) hC hK hR hS hl.1 (cc_T_isWord l G N _ _ _ _ qv5) km_RR_52 (ck_T_isWord qv5) ⟨Nat.le_of_ble_eq_true rfl, Nat.le_of_ble_eq_true rfl⟩ ⟨Nat.le_of_ble_eq_true rfl, Nat.le_of_ble_eq_true rfl, Nat.le_of_ble_eq_true rfl, Nat.le_of_ble_eq_true rfl⟩ rfl rfl (Nat.le_of_ble_eq_true rfl) dd_RR_begins_6 (fun H locs hR hS => ?_)
  refine lv_if_ne (tgt := 23) hx hb dd_RR_begins_9 (by decide) (fun c6 => ?_) (fun c6 => ?_)
  · have hm := ss_iff hm c6
    refine ss_aload_n hx hb dd_RR_begins_23 rfl (lv_at hl 0 rfl) ?_
    obtain ⟨v7, qv7, hm⟩ := ss_bind hm
    refine ss_geti hC hK hR kf_RR_28 qv7 dd_RR_begins_24 ?_
    refine lv_bipush (v := 12) hx hb dd_RR_begins_27 (by decide) ?_
    refine lv_icmp_lt (tgt := 40) hx hb dd_RR_begins_29 (by decide) (fun c8 => ?_) (fun c8 => ?_)
    · have hm := ss_ift hm c8
      exact J_40 h _ _ _ hm hR hS hl
    · have hm := ss_iff hm c8
      refine ss_aload_n hx hb dd_RR_begins_32 rfl (lv_at hl 0 rfl) ?_
      obtain ⟨r9, qr9, hm⟩ := ss_bind hm
      refine ss_getr hC hK hR kf_RR_20 rfl qr9 dd_RR_begins_33 ?_
      refine lv_iconst (v := 4) hx hb dd_RR_begins_36 (by decide) ?_
      obtain ⟨h10, qh10, hm⟩ := ss_bind hm
      refine ss_cVv 0 0 (As := [.int (4 : Int32)]) hC hK hR hS hl.1 (cc_T_fail l G N _ _ _ _ qh10) km_RR_70 (ck_T_fail qh10) ⟨Nat.le_of_ble_eq_true rfl, Nat.le_of_ble_eq_true rfl⟩ ⟨Nat.le_of_ble_eq_true rfl, Nat.le_of_ble_eq_true rfl, Nat.le_of_ble_eq_true rfl, Nat.le_of_ble_eq_true rfl⟩ rfl rfl (Nat.le_of_ble_eq_true rfl) dd_RR_begins_37 (fun H locs hR hS => ?_)
      exact J_40 h10 _ _ _ hm hR hS hl
  · have hm := ss_ift hm c6
    refine ss_aload_n hx hb dd_RR_begins_12 rfl (lv_at hl 0 rfl) ?_
    obtain ⟨r11, qr11, hm⟩ := ss_bind hm
    refine ss_getr hC hK hR kf_RR_20 rfl qr11 dd_RR_begins_13 ?_
    refine lv_iconst (v := 0) hx hb dd_RR_begins_16 (by decide) ?_
    obtain ⟨h12, qh12, hm⟩ := ss_bind hm
    refine ss_cVv 0 0 (As := [.int (0 : Int32)]) hC hK hR hS hl.1 (cc_T_fail l G N _ _ _ _ qh12) km_RR_70 (ck_T_fail qh12) ⟨Nat.le_of_ble_eq_true rfl, Nat.le_of_ble_eq_true rfl⟩ ⟨Nat.le_of_ble_eq_true rfl, Nat.le_of_ble_eq_true rfl, Nat.le_of_ble_eq_true rfl, Nat.le_of_ble_eq_true rfl⟩ rfl rfl (Nat.le_of_ble_eq_true rfl) dd_RR_begins_17 (fun H locs hR hS => ?_)
    refine lv_goto (tgt := 40) hx hb dd_RR_begins_20 (by decide) ?_
    exact J_40 h12 _ _ _ hm hR hS hl
theorem dd_RR_countPart_0 : decode bb_RR_countPart 0 = .ok (.aload_n 0, 1) := by decide +kernel
theorem dd_RR_countPart_1 : decode bb_RR_countPart 1 = .ok (.getfield 31, 3) := by decide +kernel
theorem dd_RR_countPart_4 : decode bb_RR_countPart 4 = .ok (.bipush 60, 2) := by decide +kernel
theorem dd_RR_countPart_6 : decode bb_RR_countPart 6 = .ok (.if_icmp .lt 11, 3) := by decide +kernel
theorem dd_RR_countPart_9 : decode bb_RR_countPart 9 = .ok (.aload_n 0, 1) := by decide +kernel
theorem dd_RR_countPart_10 : decode bb_RR_countPart 10 = .ok (.getfield 20, 3) := by decide +kernel
theorem dd_RR_countPart_13 : decode bb_RR_countPart 13 = .ok (.iconst 3, 1) := by decide +kernel
theorem dd_RR_countPart_14 : decode bb_RR_countPart 14 = .ok (.invokevirtual 70, 3) := by decide +kernel
theorem dd_RR_countPart_17 : decode bb_RR_countPart 17 = .ok (.aload_n 0, 1) := by decide +kernel
theorem dd_RR_countPart_18 : decode bb_RR_countPart 18 = .ok (.dup, 1) := by decide +kernel
theorem dd_RR_countPart_19 : decode bb_RR_countPart 19 = .ok (.getfield 31, 3) := by decide +kernel
theorem dd_RR_countPart_22 : decode bb_RR_countPart 22 = .ok (.iconst 1, 1) := by decide +kernel
theorem dd_RR_countPart_23 : decode bb_RR_countPart 23 = .ok (.iadd, 1) := by decide +kernel
theorem dd_RR_countPart_24 : decode bb_RR_countPart 24 = .ok (.putfield 31, 3) := by decide +kernel
theorem dd_RR_countPart_27 : decode bb_RR_countPart 27 = .ok (.return_, 1) := by decide +kernel
def mm_RR_countPart_j17 (N : Nat) (this : Option Nat) (h_17 : ss_Hp) : Option ss_Hp :=
  (ss_gi h_17 this 4 2).bind fun v1 =>
  (ss_pi h_17 this 4 2 (v1 + (1 : Int32))).bind fun h2 =>
  some h2
def mm_RR_countPart (N : Nat) (this : Option Nat) (h : ss_Hp) : Option ss_Hp :=
  if ss_is h this 4 = true then
    (ss_gi h this 4 2).bind fun v3 =>
    if v3 < (60 : Int32) then
      mm_RR_countPart_j17 N this h
    else
      (ss_gr h this 4 0).bind fun r5 =>
      (mm_T_fail N r5 (3 : Int32) h).bind fun h6 =>
      mm_RR_countPart_j17 N this h6
  else none
abbrev ww_RR_countPart (p : Program) (l : Launch) (e : Env) (s : State) (m : MethodId) (below : List Frame) (meth : Method) (c : Code) (G : ss_G) (this : Option Nat) (h : ss_Hp) (hh : ss_Hp) (H : Heap) (locs : List Loc) (k n : Nat) (g : JFrame) : Prop := W p l e (headSpec (ss_w yy_RR_countPart bb_RR_countPart 1 none) ({ frames := 1, cells := 0, slots := 0, locals := 21 })).room s m ([ss_v (ss_b G) this] : List Value).toArray below meth c H locs k n (MQ below (ss_Qc G none hh) ([ss_v (ss_b G) this] : List Value).toArray s 0 0 (ss_A G)) g
theorem ck_RR_countPart {N : Nat} {this : Option Nat} {h : ss_Hp} {res : ss_Hp} (hm : mm_RR_countPart N this h = some res) : ss_is h this 4 = true := (ss_chk hm).1
set_option maxHeartbeats 4000000 in
set_option maxRecDepth 100000 in
theorem cc_RR_countPart (l : Launch) (G : ss_G) (N : Nat) (this : Option Nat) (h : ss_Hp) (hh : ss_Hp) (hm : mm_RR_countPart N this h = some hh) : ss_Ct l G yy_RR_countPart bb_RR_countPart 1 none ({ frames := 1, cells := 0, slots := 0, locals := 21 }) [ss_v (ss_b G) this] h none hh := by
  obtain ⟨hck, hm⟩ := ss_chk hm
  refine Met.ofW (cc := bb_RR_countPart) (maxL := 1) (ret := none) (by decide) rfl ?_
  intro p e s m args below meth c s₁ B hml hv
  obtain ⟨rfl, hR, hK⟩ := hv
  have hC : CallFix p m c bb_RR_countPart 1 s _ lw_g sR_4 := ⟨B.exec, B.bytes, hml, findClass_of_methodNamed B.named, fun w hw => atoms_spec (ws := ss_w yy_RR_countPart bb_RR_countPart 1 none) B.pre w (List.mem_cons_of_mem _ hw)⟩
  have hx := hC.1
  have hb := hC.2.1
  have hr := B.returns
  have hlocks := B.notSynchronized
  have hS : va_S (ss_A G) s.heap s.heap [] := va_S.rf
  have hl := lv_entry ([ss_v (ss_b G) this]) (n := 1) (by simp [lg_sl, ss_v_cat, ss_cat_i, ss_cat_l, ss_cat_r])
  rw [lg_entry_eq]
  generalize (lg_sl ([ss_v (ss_b G) this]) ++ List.replicate (1 - (lg_sl ([ss_v (ss_b G) this])).length) Slot.unset).toArray = ls at hl ⊢
  have hl : lv_has ls 1 [(0, ss_v (ss_b G) this)] := by simpa [lv_args, ss_v_cat, ss_cat_i, ss_cat_l, ss_cat_r] using hl
  have J_17 : ∀ (h_17 : ss_Hp) (H : Heap) (locs : List Loc) (ls : Array Slot), mm_RR_countPart_j17 N this h_17 = some hh → ss_R G h_17 H → va_S (ss_A G) s.heap H locs → lv_has ls 1 [(0, ss_v (ss_b G) this)] → ww_RR_countPart p l e s m below meth c G this h hh  H locs 0 0 (F0 m 17 ls []) := by
    intro h_17 H locs ls hm hR hS hl
    refine ss_aload_n hx hb dd_RR_countPart_17 rfl (lv_at hl 0 rfl) ?_
    refine ss_dupr hx hb dd_RR_countPart_18 ?_
    obtain ⟨v1, qv1, hm⟩ := ss_bind hm
    refine ss_geti hC hK hR kf_RR_31 qv1 dd_RR_countPart_19 ?_
    refine lv_iconst (v := 1) hx hb dd_RR_countPart_22 (by decide) ?_
    refine lv_iadd hx hb dd_RR_countPart_23 ?_
    obtain ⟨h2, qh2, hm⟩ := ss_bind hm
    refine ss_puti hC hK hR hS kp_RR_31 qh2 dd_RR_countPart_24 (fun H locs hR hS => ?_)
    exact ss_vret hC hr hlocks hR hS hm dd_RR_countPart_27
  refine ss_aload_n hx hb dd_RR_countPart_0 rfl (lv_at hl 0 rfl) ?_
  obtain ⟨v3, qv3, hm⟩ := ss_bind hm
  refine ss_geti hC hK hR kf_RR_31 qv3 dd_RR_countPart_1 ?_
  refine lv_bipush (v := 60) hx hb dd_RR_countPart_4 (by decide) ?_
  refine lv_icmp_lt (tgt := 17) hx hb dd_RR_countPart_6 (by decide) (fun c4 => ?_) (fun c4 => ?_)
  · have hm := ss_ift hm c4
    exact J_17 h _ _ _ hm hR hS hl
  · have hm := ss_iff hm c4
    refine ss_aload_n hx hb dd_RR_countPart_9 rfl (lv_at hl 0 rfl) ?_
    obtain ⟨r5, qr5, hm⟩ := ss_bind hm
    refine ss_getr hC hK hR kf_RR_20 rfl qr5 dd_RR_countPart_10 ?_
    refine lv_iconst (v := 3) hx hb dd_RR_countPart_13 (by decide) ?_
    obtain ⟨h6, qh6, hm⟩ := ss_bind hm
    refine ss_cVv 0 0 (As := [.int (3 : Int32)]) hC hK hR hS hl.1 (cc_T_fail l G N _ _ _ _ qh6) km_RR_70 (ck_T_fail qh6) ⟨Nat.le_of_ble_eq_true rfl, Nat.le_of_ble_eq_true rfl⟩ ⟨Nat.le_of_ble_eq_true rfl, Nat.le_of_ble_eq_true rfl, Nat.le_of_ble_eq_true rfl, Nat.le_of_ble_eq_true rfl⟩ rfl rfl (Nat.le_of_ble_eq_true rfl) dd_RR_countPart_14 (fun H locs hR hS => ?_)
    exact J_17 h6 _ _ _ hm hR hS hl
theorem dd_RR_emit_0 : decode bb_RR_emit 0 = .ok (.aload_n 0, 1) := by decide +kernel
theorem dd_RR_emit_1 : decode bb_RR_emit 1 = .ok (.getfield 24, 3) := by decide +kernel
theorem dd_RR_emit_4 : decode bb_RR_emit 4 = .ok (.aload_n 0, 1) := by decide +kernel
theorem dd_RR_emit_5 : decode bb_RR_emit 5 = .ok (.getfield 11, 3) := by decide +kernel
theorem dd_RR_emit_8 : decode bb_RR_emit 8 = .ok (.arraylength, 1) := by decide +kernel
theorem dd_RR_emit_9 : decode bb_RR_emit 9 = .ok (.if_icmp .ge 23, 3) := by decide +kernel
theorem dd_RR_emit_12 : decode bb_RR_emit 12 = .ok (.aload_n 0, 1) := by decide +kernel
theorem dd_RR_emit_13 : decode bb_RR_emit 13 = .ok (.getfield 11, 3) := by decide +kernel
theorem dd_RR_emit_16 : decode bb_RR_emit 16 = .ok (.aload_n 0, 1) := by decide +kernel
theorem dd_RR_emit_17 : decode bb_RR_emit 17 = .ok (.getfield 24, 3) := by decide +kernel
theorem dd_RR_emit_20 : decode bb_RR_emit 20 = .ok (.iload_n 1, 1) := by decide +kernel
theorem dd_RR_emit_21 : decode bb_RR_emit 21 = .ok (.iastore, 1) := by decide +kernel
theorem dd_RR_emit_22 : decode bb_RR_emit 22 = .ok (.aload_n 0, 1) := by decide +kernel
theorem dd_RR_emit_23 : decode bb_RR_emit 23 = .ok (.dup, 1) := by decide +kernel
theorem dd_RR_emit_24 : decode bb_RR_emit 24 = .ok (.getfield 24, 3) := by decide +kernel
theorem dd_RR_emit_27 : decode bb_RR_emit 27 = .ok (.iconst 1, 1) := by decide +kernel
theorem dd_RR_emit_28 : decode bb_RR_emit 28 = .ok (.iadd, 1) := by decide +kernel
theorem dd_RR_emit_29 : decode bb_RR_emit 29 = .ok (.putfield 24, 3) := by decide +kernel
theorem dd_RR_emit_32 : decode bb_RR_emit 32 = .ok (.return_, 1) := by decide +kernel
def mm_RR_emit_j32 (N : Nat) (this : Option Nat) (a1 : Int32) (h_32 : ss_Hp) : Option ss_Hp :=
  some h_32
def mm_RR_emit (N : Nat) (this : Option Nat) (a1 : Int32) (h : ss_Hp) : Option ss_Hp :=
  if ss_is h this 4 = true then
    (ss_gi h this 4 0).bind fun v1 =>
    (ss_gr h this 4 1).bind fun r2 =>
    (ss_len h r2 20).bind fun v3 =>
    if v3 ≤ v1 then
      mm_RR_emit_j32 N this a1 h
    else
      (ss_gr h this 4 1).bind fun r5 =>
      (ss_gi h this 4 0).bind fun v6 =>
      (ss_ui h r5 20 v6 a1).bind fun h7 =>
      (ss_gi h7 this 4 0).bind fun v8 =>
      (ss_pi h7 this 4 0 (v8 + (1 : Int32))).bind fun h9 =>
      mm_RR_emit_j32 N this a1 h9
  else none
abbrev ww_RR_emit (p : Program) (l : Launch) (e : Env) (s : State) (m : MethodId) (below : List Frame) (meth : Method) (c : Code) (G : ss_G) (this : Option Nat) (a1 : Int32) (h : ss_Hp) (hh : ss_Hp) (H : Heap) (locs : List Loc) (k n : Nat) (g : JFrame) : Prop := W p l e (headSpec (ss_w yy_RR_emit bb_RR_emit 2 none) ({ frames := 0, cells := 0, slots := 0, locals := 0 })).room s m ([ss_v (ss_b G) this, .int a1] : List Value).toArray below meth c H locs k n (MQ below (ss_Qc G none hh) ([ss_v (ss_b G) this, .int a1] : List Value).toArray s 0 0 (ss_A G)) g
theorem ck_RR_emit {N : Nat} {this : Option Nat} {a1 : Int32} {h : ss_Hp} {res : ss_Hp} (hm : mm_RR_emit N this a1 h = some res) : ss_is h this 4 = true := (ss_chk hm).1
set_option maxHeartbeats 4000000 in
set_option maxRecDepth 100000 in
theorem cc_RR_emit (l : Launch) (G : ss_G) (N : Nat) (this : Option Nat) (a1 : Int32) (h : ss_Hp) (hh : ss_Hp) (hm : mm_RR_emit N this a1 h = some hh) : ss_Ct l G yy_RR_emit bb_RR_emit 2 none ({ frames := 0, cells := 0, slots := 0, locals := 0 }) [ss_v (ss_b G) this, .int a1] h none hh := by
  obtain ⟨hck, hm⟩ := ss_chk hm
  refine Met.ofW (cc := bb_RR_emit) (maxL := 2) (ret := none) (by decide) rfl ?_
  intro p e s m args below meth c s₁ B hml hv
  obtain ⟨rfl, hR, hK⟩ := hv
  have hC : CallFix p m c bb_RR_emit 2 s _ lw_g sR_4 := ⟨B.exec, B.bytes, hml, findClass_of_methodNamed B.named, fun w hw => atoms_spec (ws := ss_w yy_RR_emit bb_RR_emit 2 none) B.pre w (List.mem_cons_of_mem _ hw)⟩
  have hx := hC.1
  have hb := hC.2.1
  have hr := B.returns
  have hlocks := B.notSynchronized
  have hS : va_S (ss_A G) s.heap s.heap [] := va_S.rf
  have hl := lv_entry ([ss_v (ss_b G) this, .int a1]) (n := 2) (by simp [lg_sl, ss_v_cat, ss_cat_i, ss_cat_l, ss_cat_r])
  rw [lg_entry_eq]
  generalize (lg_sl ([ss_v (ss_b G) this, .int a1]) ++ List.replicate (2 - (lg_sl ([ss_v (ss_b G) this, .int a1])).length) Slot.unset).toArray = ls at hl ⊢
  have hl : lv_has ls 2 [(0, ss_v (ss_b G) this), (1, .int a1)] := by simpa [lv_args, ss_v_cat, ss_cat_i, ss_cat_l, ss_cat_r] using hl
  have J_32 : ∀ (h_32 : ss_Hp) (H : Heap) (locs : List Loc) (ls : Array Slot), mm_RR_emit_j32 N this a1 h_32 = some hh → ss_R G h_32 H → va_S (ss_A G) s.heap H locs → lv_has ls 2 [] → ww_RR_emit p l e s m below meth c G this a1 h hh  H locs 0 0 (F0 m 32 ls []) := by
    intro h_32 H locs ls hm hR hS hl
    exact ss_vret hC hr hlocks hR hS hm dd_RR_emit_32
  refine ss_aload_n hx hb dd_RR_emit_0 rfl (lv_at hl 0 rfl) ?_
  obtain ⟨v1, qv1, hm⟩ := ss_bind hm
  refine ss_geti hC hK hR kf_RR_24 qv1 dd_RR_emit_1 ?_
  refine ss_aload_n hx hb dd_RR_emit_4 rfl (lv_at hl 0 rfl) ?_
  obtain ⟨r2, qr2, hm⟩ := ss_bind hm
  refine ss_getr hC hK hR kf_RR_11 rfl qr2 dd_RR_emit_5 ?_
  obtain ⟨v3, qv3, hm⟩ := ss_bind hm
  refine ss_alenI hC hK hR qv3 dd_RR_emit_8 ?_
  refine lv_icmp_ge (tgt := 32) hx hb dd_RR_emit_9 (by decide) (fun c4 => ?_) (fun c4 => ?_)
  · have hm := ss_ift hm c4
    exact J_32 h _ _ _ hm hR hS (lv_sub hl [] rfl)
  · have hm := ss_iff hm c4
    refine ss_aload_n hx hb dd_RR_emit_12 rfl (lv_at hl 0 rfl) ?_
    obtain ⟨r5, qr5, hm⟩ := ss_bind hm
    refine ss_getr hC hK hR kf_RR_11 rfl qr5 dd_RR_emit_13 ?_
    refine ss_aload_n hx hb dd_RR_emit_16 rfl (lv_at hl 0 rfl) ?_
    obtain ⟨v6, qv6, hm⟩ := ss_bind hm
    refine ss_geti hC hK hR kf_RR_24 qv6 dd_RR_emit_17 ?_
    refine lv_iload_n hx hb dd_RR_emit_20 rfl (lv_at hl 1 rfl) ?_
    obtain ⟨h7, qh7, hm⟩ := ss_bind hm
    refine ss_iast hC hK hR hS qh7 dd_RR_emit_21 (fun H locs hR hS => ?_)
    refine ss_aload_n hx hb dd_RR_emit_22 rfl (lv_at hl 0 rfl) ?_
    refine ss_dupr hx hb dd_RR_emit_23 ?_
    obtain ⟨v8, qv8, hm⟩ := ss_bind hm
    refine ss_geti hC hK hR kf_RR_24 qv8 dd_RR_emit_24 ?_
    refine lv_iconst (v := 1) hx hb dd_RR_emit_27 (by decide) ?_
    refine lv_iadd hx hb dd_RR_emit_28 ?_
    obtain ⟨h9, qh9, hm⟩ := ss_bind hm
    refine ss_puti hC hK hR hS kp_RR_24 qh9 dd_RR_emit_29 (fun H locs hR hS => ?_)
    exact J_32 h9 _ _ _ hm hR hS (lv_sub hl [] rfl)
theorem dd_RR_readValue_0 : decode bb_RR_readValue 0 = .ok (.aload_n 0, 1) := by decide +kernel
theorem dd_RR_readValue_1 : decode bb_RR_readValue 1 = .ok (.getfield 20, 3) := by decide +kernel
theorem dd_RR_readValue_4 : decode bb_RR_readValue 4 = .ok (.invokevirtual 109, 3) := by decide +kernel
theorem dd_RR_readValue_7 : decode bb_RR_readValue 7 = .ok (.ifCond .eq 27, 3) := by decide +kernel
theorem dd_RR_readValue_10 : decode bb_RR_readValue 10 = .ok (.aload_n 0, 1) := by decide +kernel
theorem dd_RR_readValue_11 : decode bb_RR_readValue 11 = .ok (.getfield 20, 3) := by decide +kernel
theorem dd_RR_readValue_14 : decode bb_RR_readValue 14 = .ok (.invokevirtual 112, 3) := by decide +kernel
theorem dd_RR_readValue_17 : decode bb_RR_readValue 17 = .ok (.istore_n 1, 1) := by decide +kernel
theorem dd_RR_readValue_18 : decode bb_RR_readValue 18 = .ok (.iload_n 1, 1) := by decide +kernel
theorem dd_RR_readValue_19 : decode bb_RR_readValue 19 = .ok (.iconst (-1), 1) := by decide +kernel
theorem dd_RR_readValue_20 : decode bb_RR_readValue 20 = .ok (.if_icmp .ne 42, 3) := by decide +kernel
theorem dd_RR_readValue_23 : decode bb_RR_readValue 23 = .ok (.aload_n 0, 1) := by decide +kernel
theorem dd_RR_readValue_24 : decode bb_RR_readValue 24 = .ok (.getfield 20, 3) := by decide +kernel
theorem dd_RR_readValue_27 : decode bb_RR_readValue 27 = .ok (.iconst 1, 1) := by decide +kernel
theorem dd_RR_readValue_28 : decode bb_RR_readValue 28 = .ok (.invokevirtual 70, 3) := by decide +kernel
theorem dd_RR_readValue_31 : decode bb_RR_readValue 31 = .ok (.goto 31, 3) := by decide +kernel
theorem dd_RR_readValue_34 : decode bb_RR_readValue 34 = .ok (.aload_n 0, 1) := by decide +kernel
theorem dd_RR_readValue_35 : decode bb_RR_readValue 35 = .ok (.getfield 20, 3) := by decide +kernel
theorem dd_RR_readValue_38 : decode bb_RR_readValue 38 = .ok (.ldc 115, 2) := by decide +kernel
theorem dd_RR_readValue_40 : decode bb_RR_readValue 40 = .ok (.invokevirtual 117, 3) := by decide +kernel
theorem dd_RR_readValue_43 : decode bb_RR_readValue 43 = .ok (.istore_n 2, 1) := by decide +kernel
theorem dd_RR_readValue_44 : decode bb_RR_readValue 44 = .ok (.bipush (-14), 2) := by decide +kernel
theorem dd_RR_readValue_46 : decode bb_RR_readValue 46 = .ok (.iload_n 2, 1) := by decide +kernel
theorem dd_RR_readValue_47 : decode bb_RR_readValue 47 = .ok (.isub, 1) := by decide +kernel
theorem dd_RR_readValue_48 : decode bb_RR_readValue 48 = .ok (.istore_n 1, 1) := by decide +kernel
theorem dd_RR_readValue_49 : decode bb_RR_readValue 49 = .ok (.iload_n 2, 1) := by decide +kernel
theorem dd_RR_readValue_50 : decode bb_RR_readValue 50 = .ok (.iconst (-1), 1) := by decide +kernel
theorem dd_RR_readValue_51 : decode bb_RR_readValue 51 = .ok (.if_icmp .ne 11, 3) := by decide +kernel
theorem dd_RR_readValue_54 : decode bb_RR_readValue 54 = .ok (.aload_n 0, 1) := by decide +kernel
theorem dd_RR_readValue_55 : decode bb_RR_readValue 55 = .ok (.getfield 20, 3) := by decide +kernel
theorem dd_RR_readValue_58 : decode bb_RR_readValue 58 = .ok (.iconst 0, 1) := by decide +kernel
theorem dd_RR_readValue_59 : decode bb_RR_readValue 59 = .ok (.invokevirtual 70, 3) := by decide +kernel
theorem dd_RR_readValue_62 : decode bb_RR_readValue 62 = .ok (.aload_n 0, 1) := by decide +kernel
theorem dd_RR_readValue_63 : decode bb_RR_readValue 63 = .ok (.invokevirtual 97, 3) := by decide +kernel
theorem dd_RR_readValue_66 : decode bb_RR_readValue 66 = .ok (.aload_n 0, 1) := by decide +kernel
theorem dd_RR_readValue_67 : decode bb_RR_readValue 67 = .ok (.getfield 20, 3) := by decide +kernel
theorem dd_RR_readValue_70 : decode bb_RR_readValue 70 = .ok (.invokevirtual 47, 3) := by decide +kernel
theorem dd_RR_readValue_73 : decode bb_RR_readValue 73 = .ok (.ifCond .eq 15, 3) := by decide +kernel
theorem dd_RR_readValue_76 : decode bb_RR_readValue 76 = .ok (.aload_n 0, 1) := by decide +kernel
theorem dd_RR_readValue_77 : decode bb_RR_readValue 77 = .ok (.iload_n 1, 1) := by decide +kernel
theorem dd_RR_readValue_78 : decode bb_RR_readValue 78 = .ok (.invokevirtual 76, 3) := by decide +kernel
theorem dd_RR_readValue_81 : decode bb_RR_readValue 81 = .ok (.aload_n 0, 1) := by decide +kernel
theorem dd_RR_readValue_82 : decode bb_RR_readValue 82 = .ok (.getfield 20, 3) := by decide +kernel
theorem dd_RR_readValue_85 : decode bb_RR_readValue 85 = .ok (.invokevirtual 41, 3) := by decide +kernel
theorem dd_RR_readValue_88 : decode bb_RR_readValue 88 = .ok (.return_, 1) := by decide +kernel
def mm_RR_readValue_j88 (N : Nat) (this : Option Nat) (h_88 : ss_Hp) : Option ss_Hp :=
  some h_88
def mm_RR_readValue_j62 (N : Nat) (this : Option Nat) (x1_62 : Int32) (h_62 : ss_Hp) : Option ss_Hp :=
  (mm_RR_countPart N this h_62).bind fun h1 =>
  (ss_gr h1 this 4 0).bind fun r2 =>
  (mm_T_isWell N r2 h1).bind fun v3 =>
  if v3 = 0 then
    mm_RR_readValue_j88 N this h1
  else
    (mm_RR_emit N this x1_62 h1).bind fun h5 =>
    (ss_gr h5 this 4 0).bind fun r6 =>
    (mm_T_advance N r6 h5).bind fun h7 =>
    mm_RR_readValue_j88 N this h7
def mm_RR_readValue (N : Nat) (this : Option Nat) (h : ss_Hp) : Option ss_Hp :=
  if ss_is h this 4 = true then
    (ss_gr h this 4 0).bind fun r8 =>
    (mm_T_isDigits N r8 h).bind fun v9 =>
    if v9 = 0 then
      (ss_gr h this 4 0).bind fun r11 =>
      (mm_T_wordIn N r11 2 h).bind fun v12 =>
      (some ((-14 : Int32) - v12)).bind fun v13 =>
      if v12 = (-1 : Int32) then
        (ss_gr h this 4 0).bind fun r15 =>
        (mm_T_fail N r15 (0 : Int32) h).bind fun h16 =>
        mm_RR_readValue_j62 N this v13 h16
      else
        mm_RR_readValue_j62 N this v13 h
    else
      (ss_gr h this 4 0).bind fun r17 =>
      (mm_T_digits N r17 h).bind fun v18 =>
      if v18 = (-1 : Int32) then
        (ss_gr h this 4 0).bind fun r20 =>
        (mm_T_fail N r20 (1 : Int32) h).bind fun h21 =>
        mm_RR_readValue_j62 N this v18 h21
      else
        mm_RR_readValue_j62 N this v18 h
  else none
abbrev ww_RR_readValue (p : Program) (l : Launch) (e : Env) (s : State) (m : MethodId) (below : List Frame) (meth : Method) (c : Code) (G : ss_G) (this : Option Nat) (h : ss_Hp) (hh : ss_Hp) (H : Heap) (locs : List Loc) (k n : Nat) (g : JFrame) : Prop := W p l e (headSpec (ss_w yy_RR_readValue bb_RR_readValue 3 none) ({ frames := 9, cells := 0, slots := 0, locals := 226 })).room s m ([ss_v (ss_b G) this] : List Value).toArray below meth c H locs k n (MQ below (ss_Qc G none hh) ([ss_v (ss_b G) this] : List Value).toArray s 0 0 (ss_A G)) g
theorem ck_RR_readValue {N : Nat} {this : Option Nat} {h : ss_Hp} {res : ss_Hp} (hm : mm_RR_readValue N this h = some res) : ss_is h this 4 = true := (ss_chk hm).1
set_option maxHeartbeats 4000000 in
set_option maxRecDepth 100000 in
theorem cc_RR_readValue (l : Launch) (G : ss_G) (N : Nat) (this : Option Nat) (h : ss_Hp) (hh : ss_Hp) (hm : mm_RR_readValue N this h = some hh) : ss_Ct l G yy_RR_readValue bb_RR_readValue 3 none ({ frames := 9, cells := 0, slots := 0, locals := 226 }) [ss_v (ss_b G) this] h none hh := by
  obtain ⟨hck, hm⟩ := ss_chk hm
  refine Met.ofW (cc := bb_RR_readValue) (maxL := 3) (ret := none) (by decide) rfl ?_
  intro p e s m args below meth c s₁ B hml hv
  obtain ⟨rfl, hR, hK⟩ := hv
  have hC : CallFix p m c bb_RR_readValue 3 s _ lw_g sR_4 := ⟨B.exec, B.bytes, hml, findClass_of_methodNamed B.named, fun w hw => atoms_spec (ws := ss_w yy_RR_readValue bb_RR_readValue 3 none) B.pre w (List.mem_cons_of_mem _ hw)⟩
  have hx := hC.1
  have hb := hC.2.1
  have hr := B.returns
  have hlocks := B.notSynchronized
  have hS : va_S (ss_A G) s.heap s.heap [] := va_S.rf
  have hl := lv_entry ([ss_v (ss_b G) this]) (n := 3) (by simp [lg_sl, ss_v_cat, ss_cat_i, ss_cat_l, ss_cat_r])
  rw [lg_entry_eq]
  generalize (lg_sl ([ss_v (ss_b G) this]) ++ List.replicate (3 - (lg_sl ([ss_v (ss_b G) this])).length) Slot.unset).toArray = ls at hl ⊢
  have hl : lv_has ls 3 [(0, ss_v (ss_b G) this)] := by simpa [lv_args, ss_v_cat, ss_cat_i, ss_cat_l, ss_cat_r] using hl
  have J_88 : ∀ (h_88 : ss_Hp) (H : Heap) (locs : List Loc) (ls : Array Slot), mm_RR_readValue_j88 N this h_88 = some hh → ss_R G h_88 H → va_S (ss_A G) s.heap H locs → lv_has ls 3 [] → ww_RR_readValue p l e s m below meth c G this h hh  H locs 0 0 (F0 m 88 ls []) := by
    intro h_88 H locs ls hm hR hS hl
    exact ss_vret hC hr hlocks hR hS hm dd_RR_readValue_88
  have J_62 : ∀ (x1_62 : Int32) (h_62 : ss_Hp) (H : Heap) (locs : List Loc) (ls : Array Slot), mm_RR_readValue_j62 N this x1_62 h_62 = some hh → ss_R G h_62 H → va_S (ss_A G) s.heap H locs → lv_has ls 3 [(0, ss_v (ss_b G) this), (1, .int x1_62)] → ww_RR_readValue p l e s m below meth c G this h hh  H locs 0 0 (F0 m 62 ls []) := by
    intro x1_62 h_62 H locs ls hm hR hS hl
    refine ss_aload_n hx hb dd_RR_readValue_62 rfl (lv_at hl 0 rfl) ?_
    obtain ⟨h1, qh1, hm⟩ := ss_bind hm
    refine ss_cVv 0 0 (As := []) hC hK hR hS hl.1 (cc_RR_countPart l G N _ _ _ qh1) km_RR_97 (ck_RR_countPart qh1) ⟨Nat.le_of_ble_eq_true rfl, Nat.le_of_ble_eq_true rfl⟩ ⟨Nat.le_of_ble_eq_true rfl, Nat.le_of_ble_eq_true rfl, Nat.le_of_ble_eq_true rfl, Nat.le_of_ble_eq_true rfl⟩ rfl rfl (Nat.le_of_ble_eq_true rfl) dd_RR_readValue_63 (fun H locs hR hS => ?_)
    refine ss_aload_n hx hb dd_RR_readValue_66 rfl (lv_at hl 0 rfl) ?_
    obtain ⟨r2, qr2, hm⟩ := ss_bind hm
    refine ss_getr hC hK hR kf_RR_20 rfl qr2 dd_RR_readValue_67 ?_
    obtain ⟨v3, qv3, hm⟩ := ss_bind hm
    refine ss_cV 0 0 (As := []) hC hK hR hS hl.1 (cc_T_isWell l G N _ _ _ qv3) km_RR_47 (ck_T_isWell qv3) ⟨Nat.le_of_ble_eq_true rfl, Nat.le_of_ble_eq_true rfl⟩ ⟨Nat.le_of_ble_eq_true rfl, Nat.le_of_ble_eq_true rfl, Nat.le_of_ble_eq_true rfl, Nat.le_of_ble_eq_true rfl⟩ rfl rfl (Nat.le_of_ble_eq_true rfl) dd_RR_readValue_70 (fun H locs hR hS => ?_)
    refine lv_if_eq (tgt := 88) hx hb dd_RR_readValue_73 (by decide) (fun c4 => ?_) (fun c4 => ?_)
    · have hm := ss_ift hm c4
      exact J_88 h1 _ _ _ hm hR hS (lv_sub hl [] rfl)
    · have hm := ss_iff hm c4
      refine ss_aload_n hx hb dd_RR_readValue_76 rfl (lv_at hl 0 rfl) ?_
      refine lv_iload_n hx hb dd_RR_readValue_77 rfl (lv_at hl 1 rfl) ?_
      obtain ⟨h5, qh5, hm⟩ := ss_bind hm
      refine ss_cVv 0 0 (As := [.int x1_62]) hC hK hR hS hl.1 (cc_RR_emit l G N _ _ _ _ qh5) km_RR_76 (ck_RR_emit qh5) ⟨Nat.le_of_ble_eq_true rfl, Nat.le_of_ble_eq_true rfl⟩ ⟨Nat.le_of_ble_eq_true rfl, Nat.le_of_ble_eq_true rfl, Nat.le_of_ble_eq_true rfl, Nat.le_of_ble_eq_true rfl⟩ rfl rfl (Nat.le_of_ble_eq_true rfl) dd_RR_readValue_78 (fun H locs hR hS => ?_)
      refine ss_aload_n hx hb dd_RR_readValue_81 rfl (lv_at hl 0 rfl) ?_
      obtain ⟨r6, qr6, hm⟩ := ss_bind hm
      refine ss_getr hC hK hR kf_RR_20 rfl qr6 dd_RR_readValue_82 ?_
      obtain ⟨h7, qh7, hm⟩ := ss_bind hm
      refine ss_cVv 0 0 (As := []) hC hK hR hS hl.1 (cc_T_advance l G N _ _ _ qh7) km_RR_41 (ck_T_advance qh7) ⟨Nat.le_of_ble_eq_true rfl, Nat.le_of_ble_eq_true rfl⟩ ⟨Nat.le_of_ble_eq_true rfl, Nat.le_of_ble_eq_true rfl, Nat.le_of_ble_eq_true rfl, Nat.le_of_ble_eq_true rfl⟩ rfl rfl (Nat.le_of_ble_eq_true rfl) dd_RR_readValue_85 (fun H locs hR hS => ?_)
      exact J_88 h7 _ _ _ hm hR hS (lv_sub hl [] rfl)
  refine ss_aload_n hx hb dd_RR_readValue_0 rfl (lv_at hl 0 rfl) ?_
  obtain ⟨r8, qr8, hm⟩ := ss_bind hm
  refine ss_getr hC hK hR kf_RR_20 rfl qr8 dd_RR_readValue_1 ?_
  obtain ⟨v9, qv9, hm⟩ := ss_bind hm
  refine ss_cV 0 0 (As := []) hC hK hR hS hl.1 (cc_T_isDigits l G N _ _ _ qv9) km_RR_109 (ck_T_isDigits qv9) ⟨Nat.le_of_ble_eq_true rfl, Nat.le_of_ble_eq_true rfl⟩ ⟨Nat.le_of_ble_eq_true rfl, Nat.le_of_ble_eq_true rfl, Nat.le_of_ble_eq_true rfl, Nat.le_of_ble_eq_true rfl⟩ rfl rfl (Nat.le_of_ble_eq_true rfl) dd_RR_readValue_4 (fun H locs hR hS => ?_)
  refine lv_if_eq (tgt := 34) hx hb dd_RR_readValue_7 (by decide) (fun c10 => ?_) (fun c10 => ?_)
  · have hm := ss_ift hm c10
    refine ss_aload_n hx hb dd_RR_readValue_34 rfl (lv_at hl 0 rfl) ?_
    obtain ⟨r11, qr11, hm⟩ := ss_bind hm
    refine ss_getr hC hK hR kf_RR_20 rfl qr11 dd_RR_readValue_35 ?_
    refine va_ldcS hx hb hC.2.2.2.1 (ss_sr_2 hK) dd_RR_readValue_38 ?_
    obtain ⟨v12, qv12, hm⟩ := ss_bind hm
    refine ss_cV 0 0 (As := [.ref (G.2.2.2.1 2)]) hC hK hR hS hl.1 (cc_T_wordIn l G N _ _ _ _ qv12) km_RR_117 (ck_T_wordIn qv12) ⟨Nat.le_of_ble_eq_true rfl, Nat.le_of_ble_eq_true rfl⟩ ⟨Nat.le_of_ble_eq_true rfl, Nat.le_of_ble_eq_true rfl, Nat.le_of_ble_eq_true rfl, Nat.le_of_ble_eq_true rfl⟩ rfl rfl (Nat.le_of_ble_eq_true rfl) dd_RR_readValue_40 (fun H locs hR hS => ?_)
    refine lv_istore_n (lv' := [(2, .int v12), (0, ss_v (ss_b G) this)]) hx hb dd_RR_readValue_43 rfl hl (by decide) rfl (fun ls hl => ?_)
    refine lv_bipush (v := -14) hx hb dd_RR_readValue_44 (by decide) ?_
    refine lv_iload_n hx hb dd_RR_readValue_46 rfl (lv_at hl 0 rfl) ?_
    refine lv_isub hx hb dd_RR_readValue_47 ?_
    obtain ⟨v13, qv13, hm⟩ := ss_bind hm
    refine ss_topi qv13 ?_
    refine lv_istore_n (lv' := [(1, .int v13), (2, .int v12), (0, ss_v (ss_b G) this)]) hx hb dd_RR_readValue_48 rfl hl (by decide) (by simp only [List.filter_cons, ss_v_cat]; rfl) (fun ls hl => ?_)
    refine lv_iload_n hx hb dd_RR_readValue_49 rfl (lv_at hl 1 rfl) ?_
    refine lv_iconst (v := -1) hx hb dd_RR_readValue_50 (by decide) ?_
    refine lv_icmp_ne (tgt := 62) hx hb dd_RR_readValue_51 (by decide) (fun c14 => ?_) (fun c14 => ?_)
    · have hm := ss_iff hm c14
      exact J_62 v13 h _ _ _ hm hR hS (lv_sub hl [2, 0] rfl)
    · have hm := ss_ift hm c14
      refine ss_aload_n hx hb dd_RR_readValue_54 rfl (lv_at hl 2 rfl) ?_
      obtain ⟨r15, qr15, hm⟩ := ss_bind hm
      refine ss_getr hC hK hR kf_RR_20 rfl qr15 dd_RR_readValue_55 ?_
      refine lv_iconst (v := 0) hx hb dd_RR_readValue_58 (by decide) ?_
      obtain ⟨h16, qh16, hm⟩ := ss_bind hm
      refine ss_cVv 0 0 (As := [.int (0 : Int32)]) hC hK hR hS hl.1 (cc_T_fail l G N _ _ _ _ qh16) km_RR_70 (ck_T_fail qh16) ⟨Nat.le_of_ble_eq_true rfl, Nat.le_of_ble_eq_true rfl⟩ ⟨Nat.le_of_ble_eq_true rfl, Nat.le_of_ble_eq_true rfl, Nat.le_of_ble_eq_true rfl, Nat.le_of_ble_eq_true rfl⟩ rfl rfl (Nat.le_of_ble_eq_true rfl) dd_RR_readValue_59 (fun H locs hR hS => ?_)
      exact J_62 v13 h16 _ _ _ hm hR hS (lv_sub hl [2, 0] rfl)
  · have hm := ss_iff hm c10
    refine ss_aload_n hx hb dd_RR_readValue_10 rfl (lv_at hl 0 rfl) ?_
    obtain ⟨r17, qr17, hm⟩ := ss_bind hm
    refine ss_getr hC hK hR kf_RR_20 rfl qr17 dd_RR_readValue_11 ?_
    obtain ⟨v18, qv18, hm⟩ := ss_bind hm
    refine ss_cV 0 0 (As := []) hC hK hR hS hl.1 (cc_T_digits l G N _ _ _ qv18) km_RR_112 (ck_T_digits qv18) ⟨Nat.le_of_ble_eq_true rfl, Nat.le_of_ble_eq_true rfl⟩ ⟨Nat.le_of_ble_eq_true rfl, Nat.le_of_ble_eq_true rfl, Nat.le_of_ble_eq_true rfl, Nat.le_of_ble_eq_true rfl⟩ rfl rfl (Nat.le_of_ble_eq_true rfl) dd_RR_readValue_14 (fun H locs hR hS => ?_)
    refine lv_istore_n (lv' := [(1, .int v18), (0, ss_v (ss_b G) this)]) hx hb dd_RR_readValue_17 rfl hl (by decide) (by simp only [List.filter_cons, ss_v_cat]; rfl) (fun ls hl => ?_)
    refine lv_iload_n hx hb dd_RR_readValue_18 rfl (lv_at hl 0 rfl) ?_
    refine lv_iconst (v := -1) hx hb dd_RR_readValue_19 (by decide) ?_
    refine lv_icmp_ne (tgt := 62) hx hb dd_RR_readValue_20 (by decide) (fun c19 => ?_) (fun c19 => ?_)
    · have hm := ss_iff hm c19
      exact J_62 v18 h _ _ _ hm hR hS (lv_sub hl [1, 0] rfl)
    · have hm := ss_ift hm c19
      refine ss_aload_n hx hb dd_RR_readValue_23 rfl (lv_at hl 1 rfl) ?_
      obtain ⟨r20, qr20, hm⟩ := ss_bind hm
      refine ss_getr hC hK hR kf_RR_20 rfl qr20 dd_RR_readValue_24 ?_
      refine lv_iconst (v := 1) hx hb dd_RR_readValue_27 (by decide) ?_
      obtain ⟨h21, qh21, hm⟩ := ss_bind hm
      refine ss_cVv 0 0 (As := [.int (1 : Int32)]) hC hK hR hS hl.1 (cc_T_fail l G N _ _ _ _ qh21) km_RR_70 (ck_T_fail qh21) ⟨Nat.le_of_ble_eq_true rfl, Nat.le_of_ble_eq_true rfl⟩ ⟨Nat.le_of_ble_eq_true rfl, Nat.le_of_ble_eq_true rfl, Nat.le_of_ble_eq_true rfl, Nat.le_of_ble_eq_true rfl⟩ rfl rfl (Nat.le_of_ble_eq_true rfl) dd_RR_readValue_28 (fun H locs hR hS => ?_)
      refine lv_goto (tgt := 62) hx hb dd_RR_readValue_31 (by decide) ?_
      exact J_62 v18 h21 _ _ _ hm hR hS (lv_sub hl [1, 0] rfl)
theorem dd_T_signIn_0 : decode bb_T_signIn 0 = .ok (.iconst 0, 1) := by decide +kernel
theorem dd_T_signIn_1 : decode bb_T_signIn 1 = .ok (.istore_n 2, 1) := by decide +kernel
theorem dd_T_signIn_2 : decode bb_T_signIn 2 = .ok (.iload_n 2, 1) := by decide +kernel
theorem dd_T_signIn_3 : decode bb_T_signIn 3 = .ok (.aload_n 1, 1) := by decide +kernel
theorem dd_T_signIn_4 : decode bb_T_signIn 4 = .ok (.invokevirtual 41, 3) := by decide +kernel
theorem dd_T_signIn_7 : decode bb_T_signIn 7 = .ok (.if_icmp .ge 23, 3) := by decide +kernel
theorem dd_T_signIn_10 : decode bb_T_signIn 10 = .ok (.aload_n 0, 1) := by decide +kernel
theorem dd_T_signIn_11 : decode bb_T_signIn 11 = .ok (.aload_n 1, 1) := by decide +kernel
theorem dd_T_signIn_12 : decode bb_T_signIn 12 = .ok (.iload_n 2, 1) := by decide +kernel
theorem dd_T_signIn_13 : decode bb_T_signIn 13 = .ok (.invokevirtual 46, 3) := by decide +kernel
theorem dd_T_signIn_16 : decode bb_T_signIn 16 = .ok (.invokevirtual 50, 3) := by decide +kernel
theorem dd_T_signIn_19 : decode bb_T_signIn 19 = .ok (.ifCond .eq 5, 3) := by decide +kernel
theorem dd_T_signIn_22 : decode bb_T_signIn 22 = .ok (.iload_n 2, 1) := by decide +kernel
theorem dd_T_signIn_23 : decode bb_T_signIn 23 = .ok (.ireturn, 1) := by decide +kernel
theorem dd_T_signIn_24 : decode bb_T_signIn 24 = .ok (.iinc 2 1, 3) := by decide +kernel
theorem dd_T_signIn_27 : decode bb_T_signIn 27 = .ok (.goto (-25), 3) := by decide +kernel
theorem dd_T_signIn_30 : decode bb_T_signIn 30 = .ok (.iconst (-1), 1) := by decide +kernel
theorem dd_T_signIn_31 : decode bb_T_signIn 31 = .ok (.ireturn, 1) := by decide +kernel
def mm_T_signIn_b2 (N : Nat) (this : Option Nat) (a1 : Nat) (h : ss_Hp) (st : Int32) : Option (Int32 ⊕ (Unit ⊕ Int32)) :=
  match st with
  | x2_2 =>
    (ss_sl a1).bind fun v1 =>
    if v1 ≤ x2_2 then
      some (.inr (.inl ()))
    else
      (ss_sc a1 x2_2).bind fun v3 =>
      (mm_T_isSign N this v3 h).bind fun v4 =>
      if v4 = 0 then
        (some (x2_2 + (1 : Int32))).bind fun v6 =>
        some (.inl v6)
      else
        some (.inr (.inr x2_2))
def mm_T_signIn (N : Nat) (this : Option Nat) (a1 : Nat) (h : ss_Hp) : Option Int32 :=
  if ss_is h this 2 = true then
    (ss_lp (mm_T_signIn_b2 N this a1 h) N (0 : Int32)).bind fun e_2 =>
    match e_2 with
    | (.inl ()) =>
      some (-1 : Int32)
    | (.inr y2_2_22) =>
      some y2_2_22
  else none
abbrev ww_T_signIn (p : Program) (l : Launch) (e : Env) (s : State) (m : MethodId) (below : List Frame) (meth : Method) (c : Code) (G : ss_G) (this : Option Nat) (a1 : Nat) (h : ss_Hp) (rr : Int32) (H : Heap) (locs : List Loc) (k n : Nat) (g : JFrame) : Prop := W p l e (headSpec (ss_w yy_T_signIn bb_T_signIn 3 (some (.int))) ({ frames := 8, cells := 0, slots := 0, locals := 200 })).room s m ([ss_v (ss_b G) this, .ref (G.2.2.2.1 a1)] : List Value).toArray below meth c H locs k n (MQ below (ss_Qc G (some (.int rr)) h) ([ss_v (ss_b G) this, .ref (G.2.2.2.1 a1)] : List Value).toArray s 0 0 (ss_A G)) g
theorem ck_T_signIn {N : Nat} {this : Option Nat} {a1 : Nat} {h : ss_Hp} {res : Int32} (hm : mm_T_signIn N this a1 h = some res) : ss_is h this 2 = true := (ss_chk hm).1
set_option maxHeartbeats 4000000 in
set_option maxRecDepth 100000 in
theorem cc_T_signIn (l : Launch) (G : ss_G) (N : Nat) (this : Option Nat) (a1 : Nat) (h : ss_Hp) (rr : Int32) (hm : mm_T_signIn N this a1 h = some rr) : ss_Ct l G yy_T_signIn bb_T_signIn 3 (some (.int)) ({ frames := 8, cells := 0, slots := 0, locals := 200 }) [ss_v (ss_b G) this, .ref (G.2.2.2.1 a1)] h (some (.int rr)) h := by
  obtain ⟨hck, hm⟩ := ss_chk hm
  refine Met.ofW (cc := bb_T_signIn) (maxL := 3) (ret := (some (.int))) (by decide) rfl ?_
  intro p e s m args below meth c s₁ B hml hv
  obtain ⟨rfl, hR, hK⟩ := hv
  have hC : CallFix p m c bb_T_signIn 3 s _ lw_g sR_2 := ⟨B.exec, B.bytes, hml, findClass_of_methodNamed B.named, fun w hw => atoms_spec (ws := ss_w yy_T_signIn bb_T_signIn 3 (some (.int))) B.pre w (List.mem_cons_of_mem _ hw)⟩
  have hx := hC.1
  have hb := hC.2.1
  have hr := B.returns
  have hlocks := B.notSynchronized
  have hS : va_S (ss_A G) s.heap s.heap [] := va_S.rf
  have hl := lv_entry ([ss_v (ss_b G) this, .ref (G.2.2.2.1 a1)]) (n := 3) (by simp [lg_sl, ss_v_cat, ss_cat_i, ss_cat_l, ss_cat_r])
  rw [lg_entry_eq]
  generalize (lg_sl ([ss_v (ss_b G) this, .ref (G.2.2.2.1 a1)]) ++ List.replicate (3 - (lg_sl ([ss_v (ss_b G) this, .ref (G.2.2.2.1 a1)])).length) Slot.unset).toArray = ls at hl ⊢
  have hl : lv_has ls 3 [(0, ss_v (ss_b G) this), (1, .ref (G.2.2.2.1 a1))] := by simpa [lv_args, ss_v_cat, ss_cat_i, ss_cat_l, ss_cat_r] using hl
  refine lv_iconst (v := 0) hx hb dd_T_signIn_0 (by decide) ?_
  refine lv_istore_n (lv' := [(2, .int (0 : Int32)), (0, ss_v (ss_b G) this), (1, .ref (G.2.2.2.1 a1))]) hx hb dd_T_signIn_1 rfl hl (by decide) rfl (fun ls hl => ?_)
  obtain ⟨e_2, he_2, hm⟩ := ss_bind hm
  have X_2_30 : ∀  (H : Heap) (locs : List Loc) (ls : Array Slot), e_2 = (.inl ()) → ss_R G h H → va_S (ss_A G) s.heap H locs → lv_has ls 3 [] → ww_T_signIn p l e s m below meth c G this a1 h rr  H locs 0 0 (F0 m 30 ls []) := by
    intro  H locs ls hq hR hS hl
    rw [hq] at hm
    refine lv_iconst (v := -1) hx hb dd_T_signIn_30 (by decide) ?_
    exact ss_iret hC hr hlocks hR hS (ss_with _ hm) dd_T_signIn_31
  have X_2_22 : ∀ (y2_2_22 : Int32) (H : Heap) (locs : List Loc) (ls : Array Slot), e_2 = (.inr y2_2_22) → ss_R G h H → va_S (ss_A G) s.heap H locs → lv_has ls 3 [(2, .int y2_2_22)] → ww_T_signIn p l e s m below meth c G this a1 h rr  H locs 0 0 (F0 m 22 ls []) := by
    intro y2_2_22 H locs ls hq hR hS hl
    rw [hq] at hm
    refine lv_iload_n hx hb dd_T_signIn_22 rfl (lv_at hl 0 rfl) ?_
    exact ss_iret hC hr hlocks hR hS (ss_with _ hm) dd_T_signIn_23
  have L_2 : ∀ (n : Nat) (x2_2 : Int32) (H : Heap) (locs : List Loc) (ls : Array Slot), ss_lp (mm_T_signIn_b2 N this a1 h) n x2_2 = some e_2 → ss_R G h H → va_S (ss_A G) s.heap H locs → lv_has ls 3 [(0, ss_v (ss_b G) this), (1, .ref (G.2.2.2.1 a1)), (2, .int x2_2)] → ww_T_signIn p l e s m below meth c G this a1 h rr  H locs 0 0 (F0 m 2 ls []) := by
    intro n
    induction n with
    | zero => intro x2_2 H locs ls hm; cases hm
    | succ n ih_2 =>
      intro x2_2 H locs ls hm hR hS hl
      obtain ⟨z_2, hm, hz1_2, hz2_2⟩ := ss_lps hm
      refine lv_iload_n hx hb dd_T_signIn_2 rfl (lv_at hl 2 rfl) ?_
      refine lv_aload_n hx hb dd_T_signIn_3 rfl (lv_at hl 1 rfl) ?_
      obtain ⟨v1, qv1, hm⟩ := ss_bind hm
      refine ss_slen hC hK hR hS hl.1 qv1 ks_T_41 (Nat.le_of_ble_eq_true rfl) (Nat.le_of_ble_eq_true rfl) ⟨Nat.le_of_ble_eq_true rfl, Nat.le_of_ble_eq_true rfl⟩ (Nat.le_of_ble_eq_true rfl) dd_T_signIn_4 (fun H locs hR hS => ?_)
      refine lv_icmp_ge (tgt := 30) hx hb dd_T_signIn_7 (by decide) (fun c2 => ?_) (fun c2 => ?_)
      · have hm := ss_ift hm c2
        exact X_2_30  _ _ _ (hz2_2 _ (ss_some hm)) hR hS (lv_sub hl [] rfl)
      · have hm := ss_iff hm c2
        refine ss_aload_n hx hb dd_T_signIn_10 rfl (lv_at hl 0 rfl) ?_
        refine lv_aload_n hx hb dd_T_signIn_11 rfl (lv_at hl 1 rfl) ?_
        refine lv_iload_n hx hb dd_T_signIn_12 rfl (lv_at hl 2 rfl) ?_
        obtain ⟨v3, qv3, hm⟩ := ss_bind hm
        refine ss_schr hC hK hR hS hl.1 qv3 ks_T_46 (Nat.le_of_ble_eq_true rfl) (Nat.le_of_ble_eq_true rfl) ⟨Nat.le_of_ble_eq_true rfl, Nat.le_of_ble_eq_true rfl⟩ (by simp [ss_v_cat, ss_cat_i, ss_cat_l, ss_cat_r]) dd_T_signIn_13 (fun H locs hR hS => ?_)
        obtain ⟨v4, qv4, hm⟩ := ss_bind hm
        refine ss_cV 0 0 (As := [.int v3]) hC hK hR hS hl.1 (cc_T_isSign l G N _ _ _ _ qv4) km_T_50 (ck_T_isSign qv4) ⟨Nat.le_of_ble_eq_true rfl, Nat.le_of_ble_eq_true rfl⟩ ⟨Nat.le_of_ble_eq_true rfl, Nat.le_of_ble_eq_true rfl, Nat.le_of_ble_eq_true rfl, Nat.le_of_ble_eq_true rfl⟩ rfl rfl (Nat.le_of_ble_eq_true rfl) dd_T_signIn_16 (fun H locs hR hS => ?_)
        refine lv_if_eq (tgt := 24) hx hb dd_T_signIn_19 (by decide) (fun c5 => ?_) (fun c5 => ?_)
        · have hm := ss_ift hm c5
          obtain ⟨v6, qv6, hm⟩ := ss_bind hm
          refine lv_iinc (v := v6) (lv' := [(2, .int v6), (0, ss_v (ss_b G) this), (1, .ref (G.2.2.2.1 a1))]) hx hb dd_T_signIn_24 hl (k := 2) rfl (ss_inc (by decide) qv6) (by decide) rfl (fun ls hl => ?_)
          refine lv_goto (tgt := 2) hx hb dd_T_signIn_27 (by decide) ?_
          exact ih_2 v6  _ _ _ (hz1_2 _ (ss_some hm)) hR hS (lv_sub hl [1, 2, 0] rfl)
        · have hm := ss_iff hm c5
          exact X_2_22 x2_2  _ _ _ (hz2_2 _ (ss_some hm)) hR hS (lv_sub hl [2] rfl)
  exact L_2 N (0 : Int32) _ _ _ he_2 hR hS (lv_sub hl [1, 2, 0] rfl)
theorem dd_RR_readSum_0 : decode bb_RR_readSum 0 = .ok (.iconst 0, 1) := by decide +kernel
theorem dd_RR_readSum_1 : decode bb_RR_readSum 1 = .ok (.istore_n 1, 1) := by decide +kernel
theorem dd_RR_readSum_2 : decode bb_RR_readSum 2 = .ok (.iconst 0, 1) := by decide +kernel
theorem dd_RR_readSum_3 : decode bb_RR_readSum 3 = .ok (.istore_n 2, 1) := by decide +kernel
theorem dd_RR_readSum_4 : decode bb_RR_readSum 4 = .ok (.iconst 0, 1) := by decide +kernel
theorem dd_RR_readSum_5 : decode bb_RR_readSum 5 = .ok (.istore_n 3, 1) := by decide +kernel
theorem dd_RR_readSum_6 : decode bb_RR_readSum 6 = .ok (.iload_n 3, 1) := by decide +kernel
theorem dd_RR_readSum_7 : decode bb_RR_readSum 7 = .ok (.sipush 400, 3) := by decide +kernel
theorem dd_RR_readSum_10 : decode bb_RR_readSum 10 = .ok (.if_icmp .ge 93, 3) := by decide +kernel
theorem dd_RR_readSum_13 : decode bb_RR_readSum 13 = .ok (.aload_n 0, 1) := by decide +kernel
theorem dd_RR_readSum_14 : decode bb_RR_readSum 14 = .ok (.getfield 20, 3) := by decide +kernel
theorem dd_RR_readSum_17 : decode bb_RR_readSum 17 = .ok (.invokevirtual 47, 3) := by decide +kernel
theorem dd_RR_readSum_20 : decode bb_RR_readSum 20 = .ok (.ifCond .eq 83, 3) := by decide +kernel
theorem dd_RR_readSum_23 : decode bb_RR_readSum 23 = .ok (.aload_n 0, 1) := by decide +kernel
theorem dd_RR_readSum_24 : decode bb_RR_readSum 24 = .ok (.invokevirtual 100, 3) := by decide +kernel
theorem dd_RR_readSum_27 : decode bb_RR_readSum 27 = .ok (.iload_n 2, 1) := by decide +kernel
theorem dd_RR_readSum_28 : decode bb_RR_readSum 28 = .ok (.ifCond .eq 8, 3) := by decide +kernel
theorem dd_RR_readSum_31 : decode bb_RR_readSum 31 = .ok (.aload_n 0, 1) := by decide +kernel
theorem dd_RR_readSum_32 : decode bb_RR_readSum 32 = .ok (.iload_n 2, 1) := by decide +kernel
theorem dd_RR_readSum_33 : decode bb_RR_readSum 33 = .ok (.invokevirtual 76, 3) := by decide +kernel
theorem dd_RR_readSum_36 : decode bb_RR_readSum 36 = .ok (.iconst (-1), 1) := by decide +kernel
theorem dd_RR_readSum_37 : decode bb_RR_readSum 37 = .ok (.aload_n 0, 1) := by decide +kernel
theorem dd_RR_readSum_38 : decode bb_RR_readSum 38 = .ok (.getfield 20, 3) := by decide +kernel
theorem dd_RR_readSum_41 : decode bb_RR_readSum 41 = .ok (.ldc 103, 2) := by decide +kernel
theorem dd_RR_readSum_43 : decode bb_RR_readSum 43 = .ok (.invokevirtual 105, 3) := by decide +kernel
theorem dd_RR_readSum_46 : decode bb_RR_readSum 46 = .ok (.isub, 1) := by decide +kernel
theorem dd_RR_readSum_47 : decode bb_RR_readSum 47 = .ok (.istore_n 2, 1) := by decide +kernel
theorem dd_RR_readSum_48 : decode bb_RR_readSum 48 = .ok (.iload_n 2, 1) := by decide +kernel
theorem dd_RR_readSum_49 : decode bb_RR_readSum 49 = .ok (.bipush (-2), 2) := by decide +kernel
theorem dd_RR_readSum_51 : decode bb_RR_readSum 51 = .ok (.if_icmp .ge 7, 3) := by decide +kernel
theorem dd_RR_readSum_54 : decode bb_RR_readSum 54 = .ok (.iconst 1, 1) := by decide +kernel
theorem dd_RR_readSum_55 : decode bb_RR_readSum 55 = .ok (.goto 4, 3) := by decide +kernel
theorem dd_RR_readSum_58 : decode bb_RR_readSum 58 = .ok (.iconst 0, 1) := by decide +kernel
theorem dd_RR_readSum_59 : decode bb_RR_readSum 59 = .ok (.istore 4, 2) := by decide +kernel
theorem dd_RR_readSum_61 : decode bb_RR_readSum 61 = .ok (.iload 4, 2) := by decide +kernel
theorem dd_RR_readSum_63 : decode bb_RR_readSum 63 = .ok (.ifCond .ne 12, 3) := by decide +kernel
theorem dd_RR_readSum_66 : decode bb_RR_readSum 66 = .ok (.iload_n 1, 1) := by decide +kernel
theorem dd_RR_readSum_67 : decode bb_RR_readSum 67 = .ok (.ifCond .eq 8, 3) := by decide +kernel
theorem dd_RR_readSum_70 : decode bb_RR_readSum 70 = .ok (.aload_n 0, 1) := by decide +kernel
theorem dd_RR_readSum_71 : decode bb_RR_readSum 71 = .ok (.iload_n 1, 1) := by decide +kernel
theorem dd_RR_readSum_72 : decode bb_RR_readSum 72 = .ok (.invokevirtual 76, 3) := by decide +kernel
theorem dd_RR_readSum_75 : decode bb_RR_readSum 75 = .ok (.iload_n 2, 1) := by decide +kernel
theorem dd_RR_readSum_76 : decode bb_RR_readSum 76 = .ok (.iconst (-1), 1) := by decide +kernel
theorem dd_RR_readSum_77 : decode bb_RR_readSum 77 = .ok (.if_icmp .le 4, 3) := by decide +kernel
theorem dd_RR_readSum_80 : decode bb_RR_readSum 80 = .ok (.return_, 1) := by decide +kernel
theorem dd_RR_readSum_81 : decode bb_RR_readSum 81 = .ok (.iload 4, 2) := by decide +kernel
theorem dd_RR_readSum_83 : decode bb_RR_readSum 83 = .ok (.ifCond .ne 7, 3) := by decide +kernel
theorem dd_RR_readSum_86 : decode bb_RR_readSum 86 = .ok (.iload_n 2, 1) := by decide +kernel
theorem dd_RR_readSum_87 : decode bb_RR_readSum 87 = .ok (.istore_n 1, 1) := by decide +kernel
theorem dd_RR_readSum_88 : decode bb_RR_readSum 88 = .ok (.iconst 0, 1) := by decide +kernel
theorem dd_RR_readSum_89 : decode bb_RR_readSum 89 = .ok (.istore_n 2, 1) := by decide +kernel
theorem dd_RR_readSum_90 : decode bb_RR_readSum 90 = .ok (.aload_n 0, 1) := by decide +kernel
theorem dd_RR_readSum_91 : decode bb_RR_readSum 91 = .ok (.getfield 20, 3) := by decide +kernel
theorem dd_RR_readSum_94 : decode bb_RR_readSum 94 = .ok (.invokevirtual 41, 3) := by decide +kernel
theorem dd_RR_readSum_97 : decode bb_RR_readSum 97 = .ok (.iinc 3 1, 3) := by decide +kernel
theorem dd_RR_readSum_100 : decode bb_RR_readSum 100 = .ok (.goto (-94), 3) := by decide +kernel
theorem dd_RR_readSum_103 : decode bb_RR_readSum 103 = .ok (.return_, 1) := by decide +kernel
def mm_RR_readSum_j90 (N : Nat) (this : Option Nat) (x1_90 : Int32) (x2_90 : Int32) (x3_90 : Int32) (h_90 : ss_Hp) : Option ((Int32 × Int32 × Int32 × ss_Hp) ⊕ (ss_Hp ⊕ ss_Hp)) :=
  (ss_gr h_90 this 4 0).bind fun r1 =>
  (mm_T_advance N r1 h_90).bind fun h2 =>
  (some (x3_90 + (1 : Int32))).bind fun v3 =>
  some (.inl (x1_90, x2_90, v3, h2))
def mm_RR_readSum_j75 (N : Nat) (this : Option Nat) (x1_75 : Int32) (x2_75 : Int32) (x3_75 : Int32) (x4_75 : Int32) (h_75 : ss_Hp) : Option ((Int32 × Int32 × Int32 × ss_Hp) ⊕ (ss_Hp ⊕ ss_Hp)) :=
  if x2_75 ≤ (-1 : Int32) then
    if x4_75 = 0 then
      mm_RR_readSum_j90 N this x2_75 (0 : Int32) x3_75 h_75
    else
      mm_RR_readSum_j90 N this x1_75 x2_75 x3_75 h_75
  else
    some (.inr (.inr h_75))
def mm_RR_readSum_j59 (N : Nat) (this : Option Nat) (x1_59 : Int32) (x2_59 : Int32) (x3_59 : Int32) (s0_59 : Int32) (h_59 : ss_Hp) : Option ((Int32 × Int32 × Int32 × ss_Hp) ⊕ (ss_Hp ⊕ ss_Hp)) :=
  if s0_59 = 0 then
    if x1_59 = 0 then
      mm_RR_readSum_j75 N this x1_59 x2_59 x3_59 s0_59 h_59
    else
      (mm_RR_emit N this x1_59 h_59).bind fun h8 =>
      mm_RR_readSum_j75 N this x1_59 x2_59 x3_59 s0_59 h8
  else
    mm_RR_readSum_j75 N this x1_59 x2_59 x3_59 s0_59 h_59
def mm_RR_readSum_j36 (N : Nat) (this : Option Nat) (x1_36 : Int32) (x3_36 : Int32) (h_36 : ss_Hp) : Option ((Int32 × Int32 × Int32 × ss_Hp) ⊕ (ss_Hp ⊕ ss_Hp)) :=
  (ss_gr h_36 this 4 0).bind fun r9 =>
  (mm_T_signIn N r9 3 h_36).bind fun v10 =>
  (some ((-1 : Int32) - v10)).bind fun v11 =>
  if (-2 : Int32) ≤ v11 then
    mm_RR_readSum_j59 N this x1_36 v11 x3_36 (0 : Int32) h_36
  else
    mm_RR_readSum_j59 N this x1_36 v11 x3_36 (1 : Int32) h_36
def mm_RR_readSum_b6 (N : Nat) (this : Option Nat) (st : Int32 × Int32 × Int32 × ss_Hp) : Option ((Int32 × Int32 × Int32 × ss_Hp) ⊕ (ss_Hp ⊕ ss_Hp)) :=
  match st with
  | (x1_6, x2_6, x3_6, h_6) =>
    if (400 : Int32) ≤ x3_6 then
      some (.inr (.inl h_6))
    else
      (ss_gr h_6 this 4 0).bind fun r14 =>
      (mm_T_isWell N r14 h_6).bind fun v15 =>
      if v15 = 0 then
        some (.inr (.inl h_6))
      else
        (mm_RR_readValue N this h_6).bind fun h17 =>
        if x2_6 = 0 then
          mm_RR_readSum_j36 N this x1_6 x3_6 h17
        else
          (mm_RR_emit N this x2_6 h17).bind fun h19 =>
          mm_RR_readSum_j36 N this x1_6 x3_6 h19
def mm_RR_readSum (N : Nat) (this : Option Nat) (h : ss_Hp) : Option ss_Hp :=
  if ss_is h this 4 = true then
    (ss_lp (mm_RR_readSum_b6 N this) N ((0 : Int32), (0 : Int32), (0 : Int32), h)).bind fun e_6 =>
    match e_6 with
    | (.inl h_6_103) =>
      some h_6_103
    | (.inr h_6_80) =>
      some h_6_80
  else none
abbrev ww_RR_readSum (p : Program) (l : Launch) (e : Env) (s : State) (m : MethodId) (below : List Frame) (meth : Method) (c : Code) (G : ss_G) (this : Option Nat) (h : ss_Hp) (hh : ss_Hp) (H : Heap) (locs : List Loc) (k n : Nat) (g : JFrame) : Prop := W p l e (headSpec (ss_w yy_RR_readSum bb_RR_readSum 5 none) ({ frames := 10, cells := 0, slots := 0, locals := 248 })).room s m ([ss_v (ss_b G) this] : List Value).toArray below meth c H locs k n (MQ below (ss_Qc G none hh) ([ss_v (ss_b G) this] : List Value).toArray s 0 0 (ss_A G)) g
theorem ck_RR_readSum {N : Nat} {this : Option Nat} {h : ss_Hp} {res : ss_Hp} (hm : mm_RR_readSum N this h = some res) : ss_is h this 4 = true := (ss_chk hm).1
set_option maxHeartbeats 4000000 in
set_option maxRecDepth 100000 in
theorem cc_RR_readSum (l : Launch) (G : ss_G) (N : Nat) (this : Option Nat) (h : ss_Hp) (hh : ss_Hp) (hm : mm_RR_readSum N this h = some hh) : ss_Ct l G yy_RR_readSum bb_RR_readSum 5 none ({ frames := 10, cells := 0, slots := 0, locals := 248 }) [ss_v (ss_b G) this] h none hh := by
  obtain ⟨hck, hm⟩ := ss_chk hm
  refine Met.ofW (cc := bb_RR_readSum) (maxL := 5) (ret := none) (by decide) rfl ?_
  intro p e s m args below meth c s₁ B hml hv
  obtain ⟨rfl, hR, hK⟩ := hv
  have hC : CallFix p m c bb_RR_readSum 5 s _ lw_g sR_4 := ⟨B.exec, B.bytes, hml, findClass_of_methodNamed B.named, fun w hw => atoms_spec (ws := ss_w yy_RR_readSum bb_RR_readSum 5 none) B.pre w (List.mem_cons_of_mem _ hw)⟩
  have hx := hC.1
  have hb := hC.2.1
  have hr := B.returns
  have hlocks := B.notSynchronized
  have hS : va_S (ss_A G) s.heap s.heap [] := va_S.rf
  have hl := lv_entry ([ss_v (ss_b G) this]) (n := 5) (by simp [lg_sl, ss_v_cat, ss_cat_i, ss_cat_l, ss_cat_r])
  rw [lg_entry_eq]
  generalize (lg_sl ([ss_v (ss_b G) this]) ++ List.replicate (5 - (lg_sl ([ss_v (ss_b G) this])).length) Slot.unset).toArray = ls at hl ⊢
  have hl : lv_has ls 5 [(0, ss_v (ss_b G) this)] := by simpa [lv_args, ss_v_cat, ss_cat_i, ss_cat_l, ss_cat_r] using hl
  refine lv_iconst (v := 0) hx hb dd_RR_readSum_0 (by decide) ?_
  refine lv_istore_n (lv' := [(1, .int (0 : Int32)), (0, ss_v (ss_b G) this)]) hx hb dd_RR_readSum_1 rfl hl (by decide) (by simp only [List.filter_cons, ss_v_cat]; rfl) (fun ls hl => ?_)
  refine lv_iconst (v := 0) hx hb dd_RR_readSum_2 (by decide) ?_
  refine lv_istore_n (lv' := [(2, .int (0 : Int32)), (1, .int (0 : Int32)), (0, ss_v (ss_b G) this)]) hx hb dd_RR_readSum_3 rfl hl (by decide) rfl (fun ls hl => ?_)
  refine lv_iconst (v := 0) hx hb dd_RR_readSum_4 (by decide) ?_
  refine lv_istore_n (lv' := [(3, .int (0 : Int32)), (2, .int (0 : Int32)), (1, .int (0 : Int32)), (0, ss_v (ss_b G) this)]) hx hb dd_RR_readSum_5 rfl hl (by decide) rfl (fun ls hl => ?_)
  obtain ⟨e_6, he_6, hm⟩ := ss_bind hm
  have X_6_103 : ∀  (h_6_103 : ss_Hp) (H : Heap) (locs : List Loc) (ls : Array Slot), e_6 = (.inl h_6_103) → ss_R G h_6_103 H → va_S (ss_A G) s.heap H locs → lv_has ls 5 [] → ww_RR_readSum p l e s m below meth c G this h hh  H locs 0 0 (F0 m 103 ls []) := by
    intro h_6_103 H locs ls hq hR hS hl
    rw [hq] at hm
    exact ss_vret hC hr hlocks hR hS hm dd_RR_readSum_103
  have X_6_80 : ∀  (h_6_80 : ss_Hp) (H : Heap) (locs : List Loc) (ls : Array Slot), e_6 = (.inr h_6_80) → ss_R G h_6_80 H → va_S (ss_A G) s.heap H locs → lv_has ls 5 [] → ww_RR_readSum p l e s m below meth c G this h hh  H locs 0 0 (F0 m 80 ls []) := by
    intro h_6_80 H locs ls hq hR hS hl
    rw [hq] at hm
    exact ss_vret hC hr hlocks hR hS hm dd_RR_readSum_80
  have L_6 : ∀ (n : Nat) (x1_6 : Int32) (x2_6 : Int32) (x3_6 : Int32) (h_6 : ss_Hp) (H : Heap) (locs : List Loc) (ls : Array Slot), ss_lp (mm_RR_readSum_b6 N this) n (x1_6, x2_6, x3_6, h_6) = some e_6 → ss_R G h_6 H → va_S (ss_A G) s.heap H locs → lv_has ls 5 [(0, ss_v (ss_b G) this), (1, .int x1_6), (2, .int x2_6), (3, .int x3_6)] → ww_RR_readSum p l e s m below meth c G this h hh  H locs 0 0 (F0 m 6 ls []) := by
    intro n
    induction n with
    | zero => intro x1_6 x2_6 x3_6 h_6 H locs ls hm; cases hm
    | succ n ih_6 =>
      intro x1_6 x2_6 x3_6 h_6 H locs ls hm hR hS hl
      obtain ⟨z_6, hm, hz1_6, hz2_6⟩ := ss_lps hm
      have J_90 : ∀ (x1_90 : Int32) (x2_90 : Int32) (x3_90 : Int32) (h_90 : ss_Hp) (H : Heap) (locs : List Loc) (ls : Array Slot), mm_RR_readSum_j90 N this x1_90 x2_90 x3_90 h_90 = some z_6 → ss_R G h_90 H → va_S (ss_A G) s.heap H locs → lv_has ls 5 [(0, ss_v (ss_b G) this), (1, .int x1_90), (2, .int x2_90), (3, .int x3_90)] → ww_RR_readSum p l e s m below meth c G this h hh  H locs 0 0 (F0 m 90 ls []) := by
        intro x1_90 x2_90 x3_90 h_90 H locs ls hm hR hS hl
        refine ss_aload_n hx hb dd_RR_readSum_90 rfl (lv_at hl 0 rfl) ?_
        obtain ⟨r1, qr1, hm⟩ := ss_bind hm
        refine ss_getr hC hK hR kf_RR_20 rfl qr1 dd_RR_readSum_91 ?_
        obtain ⟨h2, qh2, hm⟩ := ss_bind hm
        refine ss_cVv 0 0 (As := []) hC hK hR hS hl.1 (cc_T_advance l G N _ _ _ qh2) km_RR_41 (ck_T_advance qh2) ⟨Nat.le_of_ble_eq_true rfl, Nat.le_of_ble_eq_true rfl⟩ ⟨Nat.le_of_ble_eq_true rfl, Nat.le_of_ble_eq_true rfl, Nat.le_of_ble_eq_true rfl, Nat.le_of_ble_eq_true rfl⟩ rfl rfl (Nat.le_of_ble_eq_true rfl) dd_RR_readSum_94 (fun H locs hR hS => ?_)
        obtain ⟨v3, qv3, hm⟩ := ss_bind hm
        refine lv_iinc (v := v3) (lv' := [(3, .int v3), (0, ss_v (ss_b G) this), (1, .int x1_90), (2, .int x2_90)]) hx hb dd_RR_readSum_97 hl (k := 3) rfl (ss_inc (by decide) qv3) (by decide) rfl (fun ls hl => ?_)
        refine lv_goto (tgt := 6) hx hb dd_RR_readSum_100 (by decide) ?_
        exact ih_6 x1_90 x2_90 v3 h2 _ _ _ (hz1_6 _ (ss_some hm)) hR hS (lv_sub hl [1, 2, 3, 0] rfl)
      have J_75 : ∀ (x1_75 : Int32) (x2_75 : Int32) (x3_75 : Int32) (x4_75 : Int32) (h_75 : ss_Hp) (H : Heap) (locs : List Loc) (ls : Array Slot), mm_RR_readSum_j75 N this x1_75 x2_75 x3_75 x4_75 h_75 = some z_6 → ss_R G h_75 H → va_S (ss_A G) s.heap H locs → lv_has ls 5 [(0, ss_v (ss_b G) this), (1, .int x1_75), (2, .int x2_75), (3, .int x3_75), (4, .int x4_75)] → ww_RR_readSum p l e s m below meth c G this h hh  H locs 0 0 (F0 m 75 ls []) := by
        intro x1_75 x2_75 x3_75 x4_75 h_75 H locs ls hm hR hS hl
        refine lv_iload_n hx hb dd_RR_readSum_75 rfl (lv_at hl 2 rfl) ?_
        refine lv_iconst (v := -1) hx hb dd_RR_readSum_76 (by decide) ?_
        refine lv_icmp_le (tgt := 81) hx hb dd_RR_readSum_77 (by decide) (fun c4 => ?_) (fun c4 => ?_)
        · have hm := ss_ift hm c4
          refine lv_iload hx hb dd_RR_readSum_81 (lv_at hl 4 rfl) ?_
          refine lv_if_ne (tgt := 90) hx hb dd_RR_readSum_83 (by decide) (fun c5 => ?_) (fun c5 => ?_)
          · have hm := ss_iff hm c5
            exact J_90 x1_75 x2_75 x3_75 h_75 _ _ _ hm hR hS (lv_sub hl [0, 1, 2, 3] rfl)
          · have hm := ss_ift hm c5
            refine lv_iload_n hx hb dd_RR_readSum_86 rfl (lv_at hl 2 rfl) ?_
            refine lv_istore_n (lv' := [(1, .int x2_75), (0, ss_v (ss_b G) this), (2, .int x2_75), (3, .int x3_75), (4, .int x4_75)]) hx hb dd_RR_readSum_87 rfl hl (by decide) (by simp only [List.filter_cons, ss_v_cat]; rfl) (fun ls hl => ?_)
            refine lv_iconst (v := 0) hx hb dd_RR_readSum_88 (by decide) ?_
            refine lv_istore_n (lv' := [(2, .int (0 : Int32)), (1, .int x2_75), (0, ss_v (ss_b G) this), (3, .int x3_75), (4, .int x4_75)]) hx hb dd_RR_readSum_89 rfl hl (by decide) rfl (fun ls hl => ?_)
            exact J_90 x2_75 (0 : Int32) x3_75 h_75 _ _ _ hm hR hS (lv_sub hl [2, 1, 0, 3] rfl)
        · have hm := ss_iff hm c4
          exact X_6_80 h_75 _ _ _ (hz2_6 _ (ss_some hm)) hR hS (lv_sub hl [] rfl)
      have J_59 : ∀ (x1_59 : Int32) (x2_59 : Int32) (x3_59 : Int32) (s0_59 : Int32) (h_59 : ss_Hp) (H : Heap) (locs : List Loc) (ls : Array Slot), mm_RR_readSum_j59 N this x1_59 x2_59 x3_59 s0_59 h_59 = some z_6 → ss_R G h_59 H → va_S (ss_A G) s.heap H locs → lv_has ls 5 [(0, ss_v (ss_b G) this), (1, .int x1_59), (2, .int x2_59), (3, .int x3_59)] → ww_RR_readSum p l e s m below meth c G this h hh  H locs 0 0 (F0 m 59 ls [.int s0_59]) := by
        intro x1_59 x2_59 x3_59 s0_59 h_59 H locs ls hm hR hS hl
        refine lv_istore (lv' := [(4, .int s0_59), (0, ss_v (ss_b G) this), (1, .int x1_59), (2, .int x2_59), (3, .int x3_59)]) hx hb dd_RR_readSum_59 hl (by decide) rfl (fun ls hl => ?_)
        refine lv_iload hx hb dd_RR_readSum_61 (lv_at hl 0 rfl) ?_
        refine lv_if_ne (tgt := 75) hx hb dd_RR_readSum_63 (by decide) (fun c6 => ?_) (fun c6 => ?_)
        · have hm := ss_iff hm c6
          exact J_75 x1_59 x2_59 x3_59 s0_59 h_59 _ _ _ hm hR hS (lv_sub hl [1, 2, 3, 4, 0] rfl)
        · have hm := ss_ift hm c6
          refine lv_iload_n hx hb dd_RR_readSum_66 rfl (lv_at hl 2 rfl) ?_
          refine lv_if_eq (tgt := 75) hx hb dd_RR_readSum_67 (by decide) (fun c7 => ?_) (fun c7 => ?_)
          · have hm := ss_ift hm c7
            exact J_75 x1_59 x2_59 x3_59 s0_59 h_59 _ _ _ hm hR hS (lv_sub hl [1, 2, 3, 4, 0] rfl)
          · have hm := ss_iff hm c7
            refine ss_aload_n hx hb dd_RR_readSum_70 rfl (lv_at hl 1 rfl) ?_
            refine lv_iload_n hx hb dd_RR_readSum_71 rfl (lv_at hl 2 rfl) ?_
            obtain ⟨h8, qh8, hm⟩ := ss_bind hm
            refine ss_cVv 0 0 (As := [.int x1_59]) hC hK hR hS hl.1 (cc_RR_emit l G N _ _ _ _ qh8) km_RR_76 (ck_RR_emit qh8) ⟨Nat.le_of_ble_eq_true rfl, Nat.le_of_ble_eq_true rfl⟩ ⟨Nat.le_of_ble_eq_true rfl, Nat.le_of_ble_eq_true rfl, Nat.le_of_ble_eq_true rfl, Nat.le_of_ble_eq_true rfl⟩ rfl rfl (Nat.le_of_ble_eq_true rfl) dd_RR_readSum_72 (fun H locs hR hS => ?_)
            exact J_75 x1_59 x2_59 x3_59 s0_59 h8 _ _ _ hm hR hS (lv_sub hl [1, 2, 3, 4, 0] rfl)
      have J_36 : ∀ (x1_36 : Int32) (x3_36 : Int32) (h_36 : ss_Hp) (H : Heap) (locs : List Loc) (ls : Array Slot), mm_RR_readSum_j36 N this x1_36 x3_36 h_36 = some z_6 → ss_R G h_36 H → va_S (ss_A G) s.heap H locs → lv_has ls 5 [(0, ss_v (ss_b G) this), (1, .int x1_36), (3, .int x3_36)] → ww_RR_readSum p l e s m below meth c G this h hh  H locs 0 0 (F0 m 36 ls []) := by
        intro x1_36 x3_36 h_36 H locs ls hm hR hS hl
        refine lv_iconst (v := -1) hx hb dd_RR_readSum_36 (by decide) ?_
        refine ss_aload_n hx hb dd_RR_readSum_37 rfl (lv_at hl 0 rfl) ?_
        obtain ⟨r9, qr9, hm⟩ := ss_bind hm
        refine ss_getr hC hK hR kf_RR_20 rfl qr9 dd_RR_readSum_38 ?_
        refine va_ldcS hx hb hC.2.2.2.1 (ss_sr_3 hK) dd_RR_readSum_41 ?_
        obtain ⟨v10, qv10, hm⟩ := ss_bind hm
        refine ss_cV 0 0 (As := [.ref (G.2.2.2.1 3)]) hC hK hR hS hl.1 (cc_T_signIn l G N _ _ _ _ qv10) km_RR_105 (ck_T_signIn qv10) ⟨Nat.le_of_ble_eq_true rfl, Nat.le_of_ble_eq_true rfl⟩ ⟨Nat.le_of_ble_eq_true rfl, Nat.le_of_ble_eq_true rfl, Nat.le_of_ble_eq_true rfl, Nat.le_of_ble_eq_true rfl⟩ rfl rfl (Nat.le_of_ble_eq_true rfl) dd_RR_readSum_43 (fun H locs hR hS => ?_)
        refine lv_isub hx hb dd_RR_readSum_46 ?_
        obtain ⟨v11, qv11, hm⟩ := ss_bind hm
        refine ss_topi qv11 ?_
        refine lv_istore_n (lv' := [(2, .int v11), (0, ss_v (ss_b G) this), (1, .int x1_36), (3, .int x3_36)]) hx hb dd_RR_readSum_47 rfl hl (by decide) rfl (fun ls hl => ?_)
        refine lv_iload_n hx hb dd_RR_readSum_48 rfl (lv_at hl 0 rfl) ?_
        refine lv_bipush (v := -2) hx hb dd_RR_readSum_49 (by decide) ?_
        refine lv_icmp_ge (tgt := 58) hx hb dd_RR_readSum_51 (by decide) (fun c12 => ?_) (fun c12 => ?_)
        · have hm := ss_ift hm c12
          refine lv_iconst (v := 0) hx hb dd_RR_readSum_58 (by decide) ?_
          exact J_59 x1_36 v11 x3_36 (0 : Int32) h_36 _ _ _ hm hR hS (lv_sub hl [1, 2, 0, 3] rfl)
        · have hm := ss_iff hm c12
          refine lv_iconst (v := 1) hx hb dd_RR_readSum_54 (by decide) ?_
          refine lv_goto (tgt := 59) hx hb dd_RR_readSum_55 (by decide) ?_
          exact J_59 x1_36 v11 x3_36 (1 : Int32) h_36 _ _ _ hm hR hS (lv_sub hl [1, 2, 0, 3] rfl)
      refine lv_iload_n hx hb dd_RR_readSum_6 rfl (lv_at hl 3 rfl) ?_
      refine lv_sipush (v := 400) hx hb dd_RR_readSum_7 (by decide) ?_
      refine lv_icmp_ge (tgt := 103) hx hb dd_RR_readSum_10 (by decide) (fun c13 => ?_) (fun c13 => ?_)
      · have hm := ss_ift hm c13
        exact X_6_103 h_6 _ _ _ (hz2_6 _ (ss_some hm)) hR hS (lv_sub hl [] rfl)
      · have hm := ss_iff hm c13
        refine ss_aload_n hx hb dd_RR_readSum_13 rfl (lv_at hl 0 rfl) ?_
        obtain ⟨r14, qr14, hm⟩ := ss_bind hm
        refine ss_getr hC hK hR kf_RR_20 rfl qr14 dd_RR_readSum_14 ?_
        obtain ⟨v15, qv15, hm⟩ := ss_bind hm
        refine ss_cV 0 0 (As := []) hC hK hR hS hl.1 (cc_T_isWell l G N _ _ _ qv15) km_RR_47 (ck_T_isWell qv15) ⟨Nat.le_of_ble_eq_true rfl, Nat.le_of_ble_eq_true rfl⟩ ⟨Nat.le_of_ble_eq_true rfl, Nat.le_of_ble_eq_true rfl, Nat.le_of_ble_eq_true rfl, Nat.le_of_ble_eq_true rfl⟩ rfl rfl (Nat.le_of_ble_eq_true rfl) dd_RR_readSum_17 (fun H locs hR hS => ?_)
        refine lv_if_eq (tgt := 103) hx hb dd_RR_readSum_20 (by decide) (fun c16 => ?_) (fun c16 => ?_)
        · have hm := ss_ift hm c16
          exact X_6_103 h_6 _ _ _ (hz2_6 _ (ss_some hm)) hR hS (lv_sub hl [] rfl)
        · have hm := ss_iff hm c16
          refine ss_aload_n hx hb dd_RR_readSum_23 rfl (lv_at hl 0 rfl) ?_
          obtain ⟨h17, qh17, hm⟩ := ss_bind hm
          refine ss_cVv 0 0 (As := []) hC hK hR hS hl.1 (cc_RR_readValue l G N _ _ _ qh17) km_RR_100 (ck_RR_readValue qh17) ⟨Nat.le_of_ble_eq_true rfl, Nat.le_of_ble_eq_true rfl⟩ ⟨Nat.le_of_ble_eq_true rfl, Nat.le_of_ble_eq_true rfl, Nat.le_of_ble_eq_true rfl, Nat.le_of_ble_eq_true rfl⟩ rfl rfl (Nat.le_of_ble_eq_true rfl) dd_RR_readSum_24 (fun H locs hR hS => ?_)
          refine lv_iload_n hx hb dd_RR_readSum_27 rfl (lv_at hl 2 rfl) ?_
          refine lv_if_eq (tgt := 36) hx hb dd_RR_readSum_28 (by decide) (fun c18 => ?_) (fun c18 => ?_)
          · have hm := ss_ift hm c18
            exact J_36 x1_6 x3_6 h17 _ _ _ hm hR hS (lv_sub hl [0, 1, 3] rfl)
          · have hm := ss_iff hm c18
            refine ss_aload_n hx hb dd_RR_readSum_31 rfl (lv_at hl 0 rfl) ?_
            refine lv_iload_n hx hb dd_RR_readSum_32 rfl (lv_at hl 2 rfl) ?_
            obtain ⟨h19, qh19, hm⟩ := ss_bind hm
            refine ss_cVv 0 0 (As := [.int x2_6]) hC hK hR hS hl.1 (cc_RR_emit l G N _ _ _ _ qh19) km_RR_76 (ck_RR_emit qh19) ⟨Nat.le_of_ble_eq_true rfl, Nat.le_of_ble_eq_true rfl⟩ ⟨Nat.le_of_ble_eq_true rfl, Nat.le_of_ble_eq_true rfl, Nat.le_of_ble_eq_true rfl, Nat.le_of_ble_eq_true rfl⟩ rfl rfl (Nat.le_of_ble_eq_true rfl) dd_RR_readSum_33 (fun H locs hR hS => ?_)
            exact J_36 x1_6 x3_6 h19 _ _ _ hm hR hS (lv_sub hl [0, 1, 3] rfl)
  exact L_6 N (0 : Int32) (0 : Int32) (0 : Int32) h _ _ _ he_6 hR hS (lv_sub hl [3, 2, 1, 0] rfl)
theorem dd_RR_readWithin_0 : decode bb_RR_readWithin 0 = .ok (.iload_n 1, 1) := by decide +kernel
theorem dd_RR_readWithin_1 : decode bb_RR_readWithin 1 = .ok (.bipush 10, 2) := by decide +kernel
theorem dd_RR_readWithin_3 : decode bb_RR_readWithin 3 = .ok (.if_icmp .lt 12, 3) := by decide +kernel
theorem dd_RR_readWithin_6 : decode bb_RR_readWithin 6 = .ok (.aload_n 0, 1) := by decide +kernel
theorem dd_RR_readWithin_7 : decode bb_RR_readWithin 7 = .ok (.getfield 20, 3) := by decide +kernel
theorem dd_RR_readWithin_10 : decode bb_RR_readWithin 10 = .ok (.iconst 2, 1) := by decide +kernel
theorem dd_RR_readWithin_11 : decode bb_RR_readWithin 11 = .ok (.invokevirtual 70, 3) := by decide +kernel
theorem dd_RR_readWithin_14 : decode bb_RR_readWithin 14 = .ok (.return_, 1) := by decide +kernel
theorem dd_RR_readWithin_15 : decode bb_RR_readWithin 15 = .ok (.aload_n 0, 1) := by decide +kernel
theorem dd_RR_readWithin_16 : decode bb_RR_readWithin 16 = .ok (.getfield 20, 3) := by decide +kernel
theorem dd_RR_readWithin_19 : decode bb_RR_readWithin 19 = .ok (.invokevirtual 41, 3) := by decide +kernel
theorem dd_RR_readWithin_22 : decode bb_RR_readWithin 22 = .ok (.iload_n 2, 1) := by decide +kernel
theorem dd_RR_readWithin_23 : decode bb_RR_readWithin 23 = .ok (.ifCond .eq 17, 3) := by decide +kernel
theorem dd_RR_readWithin_26 : decode bb_RR_readWithin 26 = .ok (.aload_n 0, 1) := by decide +kernel
theorem dd_RR_readWithin_27 : decode bb_RR_readWithin 27 = .ok (.iload_n 1, 1) := by decide +kernel
theorem dd_RR_readWithin_28 : decode bb_RR_readWithin 28 = .ok (.iconst 1, 1) := by decide +kernel
theorem dd_RR_readWithin_29 : decode bb_RR_readWithin 29 = .ok (.iadd, 1) := by decide +kernel
theorem dd_RR_readWithin_30 : decode bb_RR_readWithin 30 = .ok (.invokevirtual 73, 3) := by decide +kernel
theorem dd_RR_readWithin_33 : decode bb_RR_readWithin 33 = .ok (.aload_n 0, 1) := by decide +kernel
theorem dd_RR_readWithin_34 : decode bb_RR_readWithin 34 = .ok (.bipush (-13), 2) := by decide +kernel
theorem dd_RR_readWithin_36 : decode bb_RR_readWithin 36 = .ok (.invokevirtual 76, 3) := by decide +kernel
theorem dd_RR_readWithin_39 : decode bb_RR_readWithin 39 = .ok (.return_, 1) := by decide +kernel
theorem dd_RR_readWithin_40 : decode bb_RR_readWithin 40 = .ok (.aload_n 0, 1) := by decide +kernel
theorem dd_RR_readWithin_41 : decode bb_RR_readWithin 41 = .ok (.iload_n 1, 1) := by decide +kernel
theorem dd_RR_readWithin_42 : decode bb_RR_readWithin 42 = .ok (.iconst 1, 1) := by decide +kernel
theorem dd_RR_readWithin_43 : decode bb_RR_readWithin 43 = .ok (.iadd, 1) := by decide +kernel
theorem dd_RR_readWithin_44 : decode bb_RR_readWithin 44 = .ok (.invokevirtual 56, 3) := by decide +kernel
theorem dd_RR_readWithin_47 : decode bb_RR_readWithin 47 = .ok (.aload_n 0, 1) := by decide +kernel
theorem dd_RR_readWithin_48 : decode bb_RR_readWithin 48 = .ok (.getfield 20, 3) := by decide +kernel
theorem dd_RR_readWithin_51 : decode bb_RR_readWithin 51 = .ok (.invokevirtual 47, 3) := by decide +kernel
theorem dd_RR_readWithin_54 : decode bb_RR_readWithin 54 = .ok (.ifCond .eq 25, 3) := by decide +kernel
theorem dd_RR_readWithin_57 : decode bb_RR_readWithin 57 = .ok (.aload_n 0, 1) := by decide +kernel
theorem dd_RR_readWithin_58 : decode bb_RR_readWithin 58 = .ok (.getfield 20, 3) := by decide +kernel
theorem dd_RR_readWithin_61 : decode bb_RR_readWithin 61 = .ok (.bipush 93, 2) := by decide +kernel
theorem dd_RR_readWithin_63 : decode bb_RR_readWithin 63 = .ok (.invokevirtual 85, 3) := by decide +kernel
theorem dd_RR_readWithin_66 : decode bb_RR_readWithin 66 = .ok (.ifCond .eq 13, 3) := by decide +kernel
theorem dd_RR_readWithin_69 : decode bb_RR_readWithin 69 = .ok (.aload_n 0, 1) := by decide +kernel
theorem dd_RR_readWithin_70 : decode bb_RR_readWithin 70 = .ok (.getfield 20, 3) := by decide +kernel
theorem dd_RR_readWithin_73 : decode bb_RR_readWithin 73 = .ok (.invokevirtual 41, 3) := by decide +kernel
theorem dd_RR_readWithin_76 : decode bb_RR_readWithin 76 = .ok (.goto 11, 3) := by decide +kernel
theorem dd_RR_readWithin_79 : decode bb_RR_readWithin 79 = .ok (.aload_n 0, 1) := by decide +kernel
theorem dd_RR_readWithin_80 : decode bb_RR_readWithin 80 = .ok (.getfield 20, 3) := by decide +kernel
theorem dd_RR_readWithin_83 : decode bb_RR_readWithin 83 = .ok (.iconst 0, 1) := by decide +kernel
theorem dd_RR_readWithin_84 : decode bb_RR_readWithin 84 = .ok (.invokevirtual 70, 3) := by decide +kernel
theorem dd_RR_readWithin_87 : decode bb_RR_readWithin 87 = .ok (.return_, 1) := by decide +kernel
def mm_RR_readWithin_j87 (N : Nat) (fK : Option Nat → Int32 → ss_Hp → Option ss_Hp) (tK : Option Nat → Int32 → ss_Hp → Option ss_Hp) (this : Option Nat) (a1 : Int32) (a2 : Int32) (h_87 : ss_Hp) : Option ss_Hp :=
  some h_87
def mm_RR_readWithin_j79 (N : Nat) (fK : Option Nat → Int32 → ss_Hp → Option ss_Hp) (tK : Option Nat → Int32 → ss_Hp → Option ss_Hp) (this : Option Nat) (a1 : Int32) (a2 : Int32) (h_79 : ss_Hp) : Option ss_Hp :=
  (ss_gr h_79 this 4 0).bind fun r1 =>
  (mm_T_fail N r1 (0 : Int32) h_79).bind fun h2 =>
  mm_RR_readWithin_j87 N fK tK this a1 a2 h2
def mm_RR_readWithin (N : Nat) (fK : Option Nat → Int32 → ss_Hp → Option ss_Hp) (tK : Option Nat → Int32 → ss_Hp → Option ss_Hp) (this : Option Nat) (a1 : Int32) (a2 : Int32) (h : ss_Hp) : Option ss_Hp :=
  if ss_is h this 4 = true then
    if a1 < (10 : Int32) then
      (ss_gr h this 4 0).bind fun r4 =>
      (mm_T_advance N r4 h).bind fun h5 =>
      if a2 = 0 then
        (tK this (a1 + (1 : Int32)) h5).bind fun h7 =>
        (ss_gr h7 this 4 0).bind fun r8 =>
        (mm_T_isWell N r8 h7).bind fun v9 =>
        if v9 = 0 then
          mm_RR_readWithin_j79 N fK tK this a1 a2 h7
        else
          (ss_gr h7 this 4 0).bind fun r11 =>
          (mm_T_isSign N r11 (93 : Int32) h7).bind fun v12 =>
          if v12 = 0 then
            mm_RR_readWithin_j79 N fK tK this a1 a2 h7
          else
            (ss_gr h7 this 4 0).bind fun r14 =>
            (mm_T_advance N r14 h7).bind fun h15 =>
            mm_RR_readWithin_j87 N fK tK this a1 a2 h15
      else
        (fK this (a1 + (1 : Int32)) h5).bind fun h16 =>
        (mm_RR_emit N this (-13 : Int32) h16).bind fun h17 =>
        some h17
    else
      (ss_gr h this 4 0).bind fun r18 =>
      (mm_T_fail N r18 (2 : Int32) h).bind fun h19 =>
      some h19
  else none
abbrev ww_RR_readWithin (p : Program) (l : Launch) (e : Env) (s : State) (m : MethodId) (below : List Frame) (meth : Method) (c : Code) (G : ss_G) (kk : Nat) (this : Option Nat) (a1 : Int32) (a2 : Int32) (h : ss_Hp) (hh : ss_Hp) (H : Heap) (locs : List Loc) (k n : Nat) (g : JFrame) : Prop := W p l e (headSpec (ss_w yy_RR_readWithin bb_RR_readWithin 3 none) ({ frames := 19 + 4 * kk, cells := 0, slots := 0, locals := 370 + 100 * kk })).room s m ([ss_v (ss_b G) this, .int a1, .int a2] : List Value).toArray below meth c H locs k n (MQ below (ss_Qc G none hh) ([ss_v (ss_b G) this, .int a1, .int a2] : List Value).toArray s 0 0 (ss_A G)) g
theorem ck_RR_readWithin {N : Nat} {fK : Option Nat → Int32 → ss_Hp → Option ss_Hp} {tK : Option Nat → Int32 → ss_Hp → Option ss_Hp} {this : Option Nat} {a1 : Int32} {a2 : Int32} {h : ss_Hp} {res : ss_Hp} (hm : mm_RR_readWithin N fK tK this a1 a2 h = some res) : ss_is h this 4 = true := (ss_chk hm).1
set_option maxHeartbeats 4000000 in
set_option maxRecDepth 100000 in
theorem cc_RR_readWithin (l : Launch) (G : ss_G) (N : Nat) (fK : Option Nat → Int32 → ss_Hp → Option ss_Hp) (tK : Option Nat → Int32 → ss_Hp → Option ss_Hp) (kk k0 : Nat) (hk0 : kk = k0 + 1) (hfK : ∀ (t : Option Nat) (d1 : Int32) (g g1 : ss_Hp), fK t d1 g = some g1 → ss_is g t 4 = true ∧ ss_Ct l G yy_RR_readFact bb_RR_readFact 4 none ({ frames := 20 + 4 * k0, cells := 0, slots := 0, locals := 400 + 100 * k0 }) [ss_v (ss_b G) t, .int d1] g none g1) (htK : ∀ (t : Option Nat) (d1 : Int32) (g g1 : ss_Hp), tK t d1 g = some g1 → ss_is g t 4 = true ∧ ss_Ct l G yy_RR_readTest bb_RR_readTest 5 none ({ frames := 21 + 4 * k0, cells := 0, slots := 0, locals := 430 + 100 * k0 }) [ss_v (ss_b G) t, .int d1] g none g1) (this : Option Nat) (a1 : Int32) (a2 : Int32) (h : ss_Hp) (hh : ss_Hp) (hm : mm_RR_readWithin N fK tK this a1 a2 h = some hh) : ss_Ct l G yy_RR_readWithin bb_RR_readWithin 3 none ({ frames := 19 + 4 * kk, cells := 0, slots := 0, locals := 370 + 100 * kk }) [ss_v (ss_b G) this, .int a1, .int a2] h none hh := by
  subst hk0
  obtain ⟨hck, hm⟩ := ss_chk hm
  refine Met.ofW (cc := bb_RR_readWithin) (maxL := 3) (ret := none) (by decide) rfl ?_
  intro p e s m args below meth c s₁ B hml hv
  obtain ⟨rfl, hR, hK⟩ := hv
  have hC : CallFix p m c bb_RR_readWithin 3 s _ lw_g sR_4 := ⟨B.exec, B.bytes, hml, findClass_of_methodNamed B.named, fun w hw => atoms_spec (ws := ss_w yy_RR_readWithin bb_RR_readWithin 3 none) B.pre w (List.mem_cons_of_mem _ hw)⟩
  have hx := hC.1
  have hb := hC.2.1
  have hr := B.returns
  have hlocks := B.notSynchronized
  have hS : va_S (ss_A G) s.heap s.heap [] := va_S.rf
  have hl := lv_entry ([ss_v (ss_b G) this, .int a1, .int a2]) (n := 3) (by simp [lg_sl, ss_v_cat, ss_cat_i, ss_cat_l, ss_cat_r])
  rw [lg_entry_eq]
  generalize (lg_sl ([ss_v (ss_b G) this, .int a1, .int a2]) ++ List.replicate (3 - (lg_sl ([ss_v (ss_b G) this, .int a1, .int a2])).length) Slot.unset).toArray = ls at hl ⊢
  have hl : lv_has ls 3 [(0, ss_v (ss_b G) this), (1, .int a1), (2, .int a2)] := by simpa [lv_args, ss_v_cat, ss_cat_i, ss_cat_l, ss_cat_r] using hl
  have J_87 : ∀ (h_87 : ss_Hp) (H : Heap) (locs : List Loc) (ls : Array Slot), mm_RR_readWithin_j87 N fK tK this a1 a2 h_87 = some hh → ss_R G h_87 H → va_S (ss_A G) s.heap H locs → lv_has ls 3 [] → ww_RR_readWithin p l e s m below meth c G (k0 + 1) this a1 a2 h hh  H locs 0 0 (F0 m 87 ls []) := by
    intro h_87 H locs ls hm hR hS hl
    exact ss_vret hC hr hlocks hR hS hm dd_RR_readWithin_87
  have J_79 : ∀ (h_79 : ss_Hp) (H : Heap) (locs : List Loc) (ls : Array Slot), mm_RR_readWithin_j79 N fK tK this a1 a2 h_79 = some hh → ss_R G h_79 H → va_S (ss_A G) s.heap H locs → lv_has ls 3 [(0, ss_v (ss_b G) this)] → ww_RR_readWithin p l e s m below meth c G (k0 + 1) this a1 a2 h hh  H locs 0 0 (F0 m 79 ls []) := by
    intro h_79 H locs ls hm hR hS hl
    refine ss_aload_n hx hb dd_RR_readWithin_79 rfl (lv_at hl 0 rfl) ?_
    obtain ⟨r1, qr1, hm⟩ := ss_bind hm
    refine ss_getr hC hK hR kf_RR_20 rfl qr1 dd_RR_readWithin_80 ?_
    refine lv_iconst (v := 0) hx hb dd_RR_readWithin_83 (by decide) ?_
    obtain ⟨h2, qh2, hm⟩ := ss_bind hm
    refine ss_cVv 0 0 (As := [.int (0 : Int32)]) hC hK hR hS hl.1 (cc_T_fail l G N _ _ _ _ qh2) km_RR_70 (ck_T_fail qh2) ⟨(by first | exact Nat.le_of_ble_eq_true rfl | (dsimp only [headSpec]; omega)), (by first | exact Nat.le_of_ble_eq_true rfl | (dsimp only [headSpec]; omega))⟩ ⟨(by first | exact Nat.le_of_ble_eq_true rfl | (dsimp only [headSpec]; omega)), (by first | exact Nat.le_of_ble_eq_true rfl | (dsimp only [headSpec]; omega)), (by first | exact Nat.le_of_ble_eq_true rfl | (dsimp only [headSpec]; omega)), (by first | exact Nat.le_of_ble_eq_true rfl | (dsimp only [headSpec]; omega))⟩ rfl rfl (by first | exact Nat.le_of_ble_eq_true rfl | (dsimp only [headSpec]; omega)) dd_RR_readWithin_84 (fun H locs hR hS => ?_)
    exact J_87 h2 _ _ _ hm hR hS (lv_sub hl [] rfl)
  refine lv_iload_n hx hb dd_RR_readWithin_0 rfl (lv_at hl 1 rfl) ?_
  refine lv_bipush (v := 10) hx hb dd_RR_readWithin_1 (by decide) ?_
  refine lv_icmp_lt (tgt := 15) hx hb dd_RR_readWithin_3 (by decide) (fun c3 => ?_) (fun c3 => ?_)
  · have hm := ss_ift hm c3
    refine ss_aload_n hx hb dd_RR_readWithin_15 rfl (lv_at hl 0 rfl) ?_
    obtain ⟨r4, qr4, hm⟩ := ss_bind hm
    refine ss_getr hC hK hR kf_RR_20 rfl qr4 dd_RR_readWithin_16 ?_
    obtain ⟨h5, qh5, hm⟩ := ss_bind hm
    refine ss_cVv 0 0 (As := []) hC hK hR hS hl.1 (cc_T_advance l G N _ _ _ qh5) km_RR_41 (ck_T_advance qh5) ⟨(by first | exact Nat.le_of_ble_eq_true rfl | (dsimp only [headSpec]; omega)), (by first | exact Nat.le_of_ble_eq_true rfl | (dsimp only [headSpec]; omega))⟩ ⟨(by first | exact Nat.le_of_ble_eq_true rfl | (dsimp only [headSpec]; omega)), (by first | exact Nat.le_of_ble_eq_true rfl | (dsimp only [headSpec]; omega)), (by first | exact Nat.le_of_ble_eq_true rfl | (dsimp only [headSpec]; omega)), (by first | exact Nat.le_of_ble_eq_true rfl | (dsimp only [headSpec]; omega))⟩ rfl rfl (by first | exact Nat.le_of_ble_eq_true rfl | (dsimp only [headSpec]; omega)) dd_RR_readWithin_19 (fun H locs hR hS => ?_)
    refine lv_iload_n hx hb dd_RR_readWithin_22 rfl (lv_at hl 2 rfl) ?_
    refine lv_if_eq (tgt := 40) hx hb dd_RR_readWithin_23 (by decide) (fun c6 => ?_) (fun c6 => ?_)
    · have hm := ss_ift hm c6
      refine ss_aload_n hx hb dd_RR_readWithin_40 rfl (lv_at hl 0 rfl) ?_
      refine lv_iload_n hx hb dd_RR_readWithin_41 rfl (lv_at hl 1 rfl) ?_
      refine lv_iconst (v := 1) hx hb dd_RR_readWithin_42 (by decide) ?_
      refine lv_iadd hx hb dd_RR_readWithin_43 ?_
      obtain ⟨h7, qh7, hm⟩ := ss_bind hm
      refine ss_cVv 0 0 (As := [.int (a1 + (1 : Int32))]) hC hK hR hS hl.1 (htK _ _ _ _ qh7).2 km_RR_56 (htK _ _ _ _ qh7).1 ⟨(by first | exact Nat.le_of_ble_eq_true rfl | (dsimp only [headSpec]; omega)), (by first | exact Nat.le_of_ble_eq_true rfl | (dsimp only [headSpec]; omega))⟩ ⟨(by first | exact Nat.le_of_ble_eq_true rfl | (dsimp only [headSpec]; omega)), (by first | exact Nat.le_of_ble_eq_true rfl | (dsimp only [headSpec]; omega)), (by first | exact Nat.le_of_ble_eq_true rfl | (dsimp only [headSpec]; omega)), (by first | exact Nat.le_of_ble_eq_true rfl | (dsimp only [headSpec]; omega))⟩ rfl rfl (by first | exact Nat.le_of_ble_eq_true rfl | (dsimp only [headSpec]; omega)) dd_RR_readWithin_44 (fun H locs hR hS => ?_)
      refine ss_aload_n hx hb dd_RR_readWithin_47 rfl (lv_at hl 0 rfl) ?_
      obtain ⟨r8, qr8, hm⟩ := ss_bind hm
      refine ss_getr hC hK hR kf_RR_20 rfl qr8 dd_RR_readWithin_48 ?_
      obtain ⟨v9, qv9, hm⟩ := ss_bind hm
      refine ss_cV 0 0 (As := []) hC hK hR hS hl.1 (cc_T_isWell l G N _ _ _ qv9) km_RR_47 (ck_T_isWell qv9) ⟨(by first | exact Nat.le_of_ble_eq_true rfl | (dsimp only [headSpec]; omega)), (by first | exact Nat.le_of_ble_eq_true rfl | (dsimp only [headSpec]; omega))⟩ ⟨(by first | exact Nat.le_of_ble_eq_true rfl | (dsimp only [headSpec]; omega)), (by first | exact Nat.le_of_ble_eq_true rfl | (dsimp only [headSpec]; omega)), (by first | exact Nat.le_of_ble_eq_true rfl | (dsimp only [headSpec]; omega)), (by first | exact Nat.le_of_ble_eq_true rfl | (dsimp only [headSpec]; omega))⟩ rfl rfl (by first | exact Nat.le_of_ble_eq_true rfl | (dsimp only [headSpec]; omega)) dd_RR_readWithin_51 (fun H locs hR hS => ?_)
      refine lv_if_eq (tgt := 79) hx hb dd_RR_readWithin_54 (by decide) (fun c10 => ?_) (fun c10 => ?_)
      · have hm := ss_ift hm c10
        exact J_79 h7 _ _ _ hm hR hS (lv_sub hl [0] rfl)
      · have hm := ss_iff hm c10
        refine ss_aload_n hx hb dd_RR_readWithin_57 rfl (lv_at hl 0 rfl) ?_
        obtain ⟨r11, qr11, hm⟩ := ss_bind hm
        refine ss_getr hC hK hR kf_RR_20 rfl qr11 dd_RR_readWithin_58 ?_
        refine lv_bipush (v := 93) hx hb dd_RR_readWithin_61 (by decide) ?_
        obtain ⟨v12, qv12, hm⟩ := ss_bind hm
        refine ss_cV 0 0 (As := [.int (93 : Int32)]) hC hK hR hS hl.1 (cc_T_isSign l G N _ _ _ _ qv12) km_RR_85 (ck_T_isSign qv12) ⟨(by first | exact Nat.le_of_ble_eq_true rfl | (dsimp only [headSpec]; omega)), (by first | exact Nat.le_of_ble_eq_true rfl | (dsimp only [headSpec]; omega))⟩ ⟨(by first | exact Nat.le_of_ble_eq_true rfl | (dsimp only [headSpec]; omega)), (by first | exact Nat.le_of_ble_eq_true rfl | (dsimp only [headSpec]; omega)), (by first | exact Nat.le_of_ble_eq_true rfl | (dsimp only [headSpec]; omega)), (by first | exact Nat.le_of_ble_eq_true rfl | (dsimp only [headSpec]; omega))⟩ rfl rfl (by first | exact Nat.le_of_ble_eq_true rfl | (dsimp only [headSpec]; omega)) dd_RR_readWithin_63 (fun H locs hR hS => ?_)
        refine lv_if_eq (tgt := 79) hx hb dd_RR_readWithin_66 (by decide) (fun c13 => ?_) (fun c13 => ?_)
        · have hm := ss_ift hm c13
          exact J_79 h7 _ _ _ hm hR hS (lv_sub hl [0] rfl)
        · have hm := ss_iff hm c13
          refine ss_aload_n hx hb dd_RR_readWithin_69 rfl (lv_at hl 0 rfl) ?_
          obtain ⟨r14, qr14, hm⟩ := ss_bind hm
          refine ss_getr hC hK hR kf_RR_20 rfl qr14 dd_RR_readWithin_70 ?_
          obtain ⟨h15, qh15, hm⟩ := ss_bind hm
          refine ss_cVv 0 0 (As := []) hC hK hR hS hl.1 (cc_T_advance l G N _ _ _ qh15) km_RR_41 (ck_T_advance qh15) ⟨(by first | exact Nat.le_of_ble_eq_true rfl | (dsimp only [headSpec]; omega)), (by first | exact Nat.le_of_ble_eq_true rfl | (dsimp only [headSpec]; omega))⟩ ⟨(by first | exact Nat.le_of_ble_eq_true rfl | (dsimp only [headSpec]; omega)), (by first | exact Nat.le_of_ble_eq_true rfl | (dsimp only [headSpec]; omega)), (by first | exact Nat.le_of_ble_eq_true rfl | (dsimp only [headSpec]; omega)), (by first | exact Nat.le_of_ble_eq_true rfl | (dsimp only [headSpec]; omega))⟩ rfl rfl (by first | exact Nat.le_of_ble_eq_true rfl | (dsimp only [headSpec]; omega)) dd_RR_readWithin_73 (fun H locs hR hS => ?_)
          refine lv_goto (tgt := 87) hx hb dd_RR_readWithin_76 (by decide) ?_
          exact J_87 h15 _ _ _ hm hR hS (lv_sub hl [] rfl)
    · have hm := ss_iff hm c6
      refine ss_aload_n hx hb dd_RR_readWithin_26 rfl (lv_at hl 0 rfl) ?_
      refine lv_iload_n hx hb dd_RR_readWithin_27 rfl (lv_at hl 1 rfl) ?_
      refine lv_iconst (v := 1) hx hb dd_RR_readWithin_28 (by decide) ?_
      refine lv_iadd hx hb dd_RR_readWithin_29 ?_
      obtain ⟨h16, qh16, hm⟩ := ss_bind hm
      refine ss_cVv 0 0 (As := [.int (a1 + (1 : Int32))]) hC hK hR hS hl.1 (hfK _ _ _ _ qh16).2 km_RR_73 (hfK _ _ _ _ qh16).1 ⟨(by first | exact Nat.le_of_ble_eq_true rfl | (dsimp only [headSpec]; omega)), (by first | exact Nat.le_of_ble_eq_true rfl | (dsimp only [headSpec]; omega))⟩ ⟨(by first | exact Nat.le_of_ble_eq_true rfl | (dsimp only [headSpec]; omega)), (by first | exact Nat.le_of_ble_eq_true rfl | (dsimp only [headSpec]; omega)), (by first | exact Nat.le_of_ble_eq_true rfl | (dsimp only [headSpec]; omega)), (by first | exact Nat.le_of_ble_eq_true rfl | (dsimp only [headSpec]; omega))⟩ rfl rfl (by first | exact Nat.le_of_ble_eq_true rfl | (dsimp only [headSpec]; omega)) dd_RR_readWithin_30 (fun H locs hR hS => ?_)
      refine ss_aload_n hx hb dd_RR_readWithin_33 rfl (lv_at hl 0 rfl) ?_
      refine lv_bipush (v := -13) hx hb dd_RR_readWithin_34 (by decide) ?_
      obtain ⟨h17, qh17, hm⟩ := ss_bind hm
      refine ss_cVv 0 0 (As := [.int (-13 : Int32)]) hC hK hR hS hl.1 (cc_RR_emit l G N _ _ _ _ qh17) km_RR_76 (ck_RR_emit qh17) ⟨(by first | exact Nat.le_of_ble_eq_true rfl | (dsimp only [headSpec]; omega)), (by first | exact Nat.le_of_ble_eq_true rfl | (dsimp only [headSpec]; omega))⟩ ⟨(by first | exact Nat.le_of_ble_eq_true rfl | (dsimp only [headSpec]; omega)), (by first | exact Nat.le_of_ble_eq_true rfl | (dsimp only [headSpec]; omega)), (by first | exact Nat.le_of_ble_eq_true rfl | (dsimp only [headSpec]; omega)), (by first | exact Nat.le_of_ble_eq_true rfl | (dsimp only [headSpec]; omega))⟩ rfl rfl (by first | exact Nat.le_of_ble_eq_true rfl | (dsimp only [headSpec]; omega)) dd_RR_readWithin_36 (fun H locs hR hS => ?_)
      exact ss_vret hC hr hlocks hR hS hm dd_RR_readWithin_39
  · have hm := ss_iff hm c3
    refine ss_aload_n hx hb dd_RR_readWithin_6 rfl (lv_at hl 0 rfl) ?_
    obtain ⟨r18, qr18, hm⟩ := ss_bind hm
    refine ss_getr hC hK hR kf_RR_20 rfl qr18 dd_RR_readWithin_7 ?_
    refine lv_iconst (v := 2) hx hb dd_RR_readWithin_10 (by decide) ?_
    obtain ⟨h19, qh19, hm⟩ := ss_bind hm
    refine ss_cVv 0 0 (As := [.int (2 : Int32)]) hC hK hR hS hl.1 (cc_T_fail l G N _ _ _ _ qh19) km_RR_70 (ck_T_fail qh19) ⟨(by first | exact Nat.le_of_ble_eq_true rfl | (dsimp only [headSpec]; omega)), (by first | exact Nat.le_of_ble_eq_true rfl | (dsimp only [headSpec]; omega))⟩ ⟨(by first | exact Nat.le_of_ble_eq_true rfl | (dsimp only [headSpec]; omega)), (by first | exact Nat.le_of_ble_eq_true rfl | (dsimp only [headSpec]; omega)), (by first | exact Nat.le_of_ble_eq_true rfl | (dsimp only [headSpec]; omega)), (by first | exact Nat.le_of_ble_eq_true rfl | (dsimp only [headSpec]; omega))⟩ rfl rfl (by first | exact Nat.le_of_ble_eq_true rfl | (dsimp only [headSpec]; omega)) dd_RR_readWithin_11 (fun H locs hR hS => ?_)
    exact ss_vret hC hr hlocks hR hS hm dd_RR_readWithin_14
