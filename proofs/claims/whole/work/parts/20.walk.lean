theorem dd_S_note_0 : decode bb_S_note 0 = .ok (.iload_n 1, 1) := by decide +kernel
theorem dd_S_note_1 : decode bb_S_note 1 = .ok (.iconst (-1), 1) := by decide +kernel
theorem dd_S_note_2 : decode bb_S_note 2 = .ok (.if_icmp .ne 13, 3) := by decide +kernel
theorem dd_S_note_5 : decode bb_S_note 5 = .ok (.aload_n 0, 1) := by decide +kernel
theorem dd_S_note_6 : decode bb_S_note 6 = .ok (.getfield 41, 3) := by decide +kernel
theorem dd_S_note_9 : decode bb_S_note 9 = .ok (.iconst 0, 1) := by decide +kernel
theorem dd_S_note_10 : decode bb_S_note 10 = .ok (.putfield 271, 3) := by decide +kernel
theorem dd_S_note_13 : decode bb_S_note 13 = .ok (.iconst 0, 1) := by decide +kernel
theorem dd_S_note_14 : decode bb_S_note 14 = .ok (.ireturn, 1) := by decide +kernel
theorem dd_S_note_15 : decode bb_S_note 15 = .ok (.iload_n 1, 1) := by decide +kernel
theorem dd_S_note_16 : decode bb_S_note 16 = .ok (.iconst 0, 1) := by decide +kernel
theorem dd_S_note_17 : decode bb_S_note 17 = .ok (.bipush 60, 2) := by decide +kernel
theorem dd_S_note_19 : decode bb_S_note 19 = .ok (.invokestatic 194, 3) := by decide +kernel
theorem dd_S_note_22 : decode bb_S_note 22 = .ok (.ifCond .eq 34, 3) := by decide +kernel
theorem dd_S_note_25 : decode bb_S_note 25 = .ok (.aload_n 0, 1) := by decide +kernel
theorem dd_S_note_26 : decode bb_S_note 26 = .ok (.iload_n 2, 1) := by decide +kernel
theorem dd_S_note_27 : decode bb_S_note 27 = .ok (.invokevirtual 123, 3) := by decide +kernel
theorem dd_S_note_30 : decode bb_S_note 30 = .ok (.ifCond .eq 26, 3) := by decide +kernel
theorem dd_S_note_33 : decode bb_S_note 33 = .ok (.iload_n 3, 1) := by decide +kernel
theorem dd_S_note_34 : decode bb_S_note 34 = .ok (.iconst 0, 1) := by decide +kernel
theorem dd_S_note_35 : decode bb_S_note 35 = .ok (.sipush 999, 3) := by decide +kernel
theorem dd_S_note_38 : decode bb_S_note 38 = .ok (.invokestatic 194, 3) := by decide +kernel
theorem dd_S_note_41 : decode bb_S_note 41 = .ok (.ifCond .eq 15, 3) := by decide +kernel
theorem dd_S_note_44 : decode bb_S_note 44 = .ok (.aload_n 0, 1) := by decide +kernel
theorem dd_S_note_45 : decode bb_S_note 45 = .ok (.getfield 41, 3) := by decide +kernel
theorem dd_S_note_48 : decode bb_S_note 48 = .ok (.getfield 271, 3) := by decide +kernel
theorem dd_S_note_51 : decode bb_S_note 51 = .ok (.bipush 10, 2) := by decide +kernel
theorem dd_S_note_53 : decode bb_S_note 53 = .ok (.if_icmp .lt 6, 3) := by decide +kernel
theorem dd_S_note_56 : decode bb_S_note 56 = .ok (.bipush (-2), 2) := by decide +kernel
theorem dd_S_note_58 : decode bb_S_note 58 = .ok (.ireturn, 1) := by decide +kernel
theorem dd_S_note_59 : decode bb_S_note 59 = .ok (.aload_n 0, 1) := by decide +kernel
theorem dd_S_note_60 : decode bb_S_note 60 = .ok (.getfield 41, 3) := by decide +kernel
theorem dd_S_note_63 : decode bb_S_note 63 = .ok (.iload_n 1, 1) := by decide +kernel
theorem dd_S_note_64 : decode bb_S_note 64 = .ok (.iload_n 2, 1) := by decide +kernel
theorem dd_S_note_65 : decode bb_S_note 65 = .ok (.iload_n 3, 1) := by decide +kernel
theorem dd_S_note_66 : decode bb_S_note 66 = .ok (.invokevirtual 274, 3) := by decide +kernel
theorem dd_S_note_69 : decode bb_S_note 69 = .ok (.ireturn, 1) := by decide +kernel
def mm_S_note_j56 (N : Nat) (this : Option Nat) (a1 : Int32) (a2 : Int32) (a3 : Int32) (h_56 : ss_Hp) : Option (Int32 × ss_Hp) :=
  some ((-2 : Int32), h_56)
def mm_S_note (N : Nat) (this : Option Nat) (a1 : Int32) (a2 : Int32) (a3 : Int32) (h : ss_Hp) : Option (Int32 × ss_Hp) :=
  if ss_is h this 11 = true then
    if a1 = (-1 : Int32) then
      (ss_gr h this 11 4).bind fun r14 =>
      (ss_pi h r14 8 2 (0 : Int32)).bind fun h15 =>
      some ((0 : Int32), h15)
    else
      (mm_S_isWithin N a1 (0 : Int32) (60 : Int32)).bind fun v2 =>
      if v2 = 0 then
        mm_S_note_j56 N this a1 a2 a3 h
      else
        (mm_S_isStep N this a2 h).bind fun v4 =>
        if v4 = 0 then
          mm_S_note_j56 N this a1 a2 a3 h
        else
          (mm_S_isWithin N a3 (0 : Int32) (999 : Int32)).bind fun v6 =>
          if v6 = 0 then
            mm_S_note_j56 N this a1 a2 a3 h
          else
            (ss_gr h this 11 4).bind fun r8 =>
            (ss_gi h r8 8 2).bind fun v9 =>
            if v9 < (10 : Int32) then
              (ss_gr h this 11 4).bind fun r11 =>
              ss_b2 (mm_Wo_addNote N r11 a1 a2 a3 h) fun v12 h13 =>
              some (v12, h13)
            else
              mm_S_note_j56 N this a1 a2 a3 h
  else none
abbrev ww_S_note (p : Program) (l : Launch) (e : Env) (s : State) (m : MethodId) (below : List Frame) (meth : Method) (c : Code) (G : ss_G) (this : Option Nat) (a1 : Int32) (a2 : Int32) (a3 : Int32) (h : ss_Hp) (rr : Int32) (hh : ss_Hp) (H : Heap) (locs : List Loc) (k n : Nat) (g : JFrame) : Prop := W p l e (headSpec (ss_w yy_S_note bb_S_note 4 (some (.int))) ({ frames := 1, cells := 0, slots := 0, locals := 23 })).room s m ([ss_v (ss_b G) this, .int a1, .int a2, .int a3] : List Value).toArray below meth c H locs k n (MQ below (ss_Qc G (some (.int rr)) hh) ([ss_v (ss_b G) this, .int a1, .int a2, .int a3] : List Value).toArray s 0 0 (ss_A G)) g
theorem ck_S_note {N : Nat} {this : Option Nat} {a1 : Int32} {a2 : Int32} {a3 : Int32} {h : ss_Hp} {res : Int32 × ss_Hp} (hm : mm_S_note N this a1 a2 a3 h = some res) : ss_is h this 11 = true := (ss_chk hm).1
set_option maxHeartbeats 4000000 in
set_option maxRecDepth 100000 in
theorem cc_S_note (l : Launch) (G : ss_G) (N : Nat) (this : Option Nat) (a1 : Int32) (a2 : Int32) (a3 : Int32) (h : ss_Hp) (rr : Int32) (hh : ss_Hp) (hm : mm_S_note N this a1 a2 a3 h = some (rr, hh)) : ss_Ct l G yy_S_note bb_S_note 4 (some (.int)) ({ frames := 1, cells := 0, slots := 0, locals := 23 }) [ss_v (ss_b G) this, .int a1, .int a2, .int a3] h (some (.int rr)) hh := by
  obtain ⟨hck, hm⟩ := ss_chk hm
  refine Met.ofW (cc := bb_S_note) (maxL := 4) (ret := (some (.int))) (by decide) rfl ?_
  intro p e s m args below meth c s₁ B hml hv
  obtain ⟨rfl, hR, hK⟩ := hv
  have hC : CallFix p m c bb_S_note 4 s _ lw_g sR_11 := ⟨B.exec, B.bytes, hml, findClass_of_methodNamed B.named, fun w hw => atoms_spec (ws := ss_w yy_S_note bb_S_note 4 (some (.int))) B.pre w (List.mem_cons_of_mem _ hw)⟩
  have hx := hC.1
  have hb := hC.2.1
  have hr := B.returns
  have hlocks := B.notSynchronized
  have hS : va_S (ss_A G) s.heap s.heap [] := va_S.rf
  have hl := lv_entry ([ss_v (ss_b G) this, .int a1, .int a2, .int a3]) (n := 4) (by simp [lg_sl, ss_v_cat, ss_cat_i, ss_cat_l, ss_cat_r])
  rw [lg_entry_eq]
  generalize (lg_sl ([ss_v (ss_b G) this, .int a1, .int a2, .int a3]) ++ List.replicate (4 - (lg_sl ([ss_v (ss_b G) this, .int a1, .int a2, .int a3])).length) Slot.unset).toArray = ls at hl ⊢
  have hl : lv_has ls 4 [(0, ss_v (ss_b G) this), (1, .int a1), (2, .int a2), (3, .int a3)] := by simpa [lv_args, ss_v_cat, ss_cat_i, ss_cat_l, ss_cat_r] using hl
  have J_56 : ∀ (h_56 : ss_Hp) (H : Heap) (locs : List Loc) (ls : Array Slot), mm_S_note_j56 N this a1 a2 a3 h_56 = some (rr, hh) → ss_R G h_56 H → va_S (ss_A G) s.heap H locs → lv_has ls 4 [] → ww_S_note p l e s m below meth c G this a1 a2 a3 h rr hh  H locs 0 0 (F0 m 56 ls []) := by
    intro h_56 H locs ls hm hR hS hl
    refine lv_bipush (v := -2) hx hb dd_S_note_56 (by decide) ?_
    exact ss_iret hC hr hlocks hR hS hm dd_S_note_58
  refine lv_iload_n hx hb dd_S_note_0 rfl (lv_at hl 1 rfl) ?_
  refine lv_iconst (v := -1) hx hb dd_S_note_1 (by decide) ?_
  refine lv_icmp_ne (tgt := 15) hx hb dd_S_note_2 (by decide) (fun c1 => ?_) (fun c1 => ?_)
  · have hm := ss_iff hm c1
    refine lv_iload_n hx hb dd_S_note_15 rfl (lv_at hl 1 rfl) ?_
    refine lv_iconst (v := 0) hx hb dd_S_note_16 (by decide) ?_
    refine lv_bipush (v := 60) hx hb dd_S_note_17 (by decide) ?_
    obtain ⟨v2, qv2, hm⟩ := ss_bind hm
    refine ss_cS 0 0 (As := [.int a1, .int (0 : Int32), .int (60 : Int32)]) hC hK hR hS hl.1 (cc_S_isWithin l G N _ _ _ _ _ qv2) km_S_194 ⟨Nat.le_of_ble_eq_true rfl, Nat.le_of_ble_eq_true rfl⟩ ⟨Nat.le_of_ble_eq_true rfl, Nat.le_of_ble_eq_true rfl, Nat.le_of_ble_eq_true rfl, Nat.le_of_ble_eq_true rfl⟩ rfl rfl (Nat.le_of_ble_eq_true rfl) dd_S_note_19 (fun H locs hR hS => ?_)
    refine lv_if_eq (tgt := 56) hx hb dd_S_note_22 (by decide) (fun c3 => ?_) (fun c3 => ?_)
    · have hm := ss_ift hm c3
      exact J_56 h _ _ _ hm hR hS (lv_sub hl [] rfl)
    · have hm := ss_iff hm c3
      refine ss_aload_n hx hb dd_S_note_25 rfl (lv_at hl 0 rfl) ?_
      refine lv_iload_n hx hb dd_S_note_26 rfl (lv_at hl 2 rfl) ?_
      obtain ⟨v4, qv4, hm⟩ := ss_bind hm
      refine ss_cV 0 0 (As := [.int a2]) hC hK hR hS hl.1 (cc_S_isStep l G N _ _ _ _ qv4) km_S_123 (ck_S_isStep qv4) ⟨Nat.le_of_ble_eq_true rfl, Nat.le_of_ble_eq_true rfl⟩ ⟨Nat.le_of_ble_eq_true rfl, Nat.le_of_ble_eq_true rfl, Nat.le_of_ble_eq_true rfl, Nat.le_of_ble_eq_true rfl⟩ rfl rfl (Nat.le_of_ble_eq_true rfl) dd_S_note_27 (fun H locs hR hS => ?_)
      refine lv_if_eq (tgt := 56) hx hb dd_S_note_30 (by decide) (fun c5 => ?_) (fun c5 => ?_)
      · have hm := ss_ift hm c5
        exact J_56 h _ _ _ hm hR hS (lv_sub hl [] rfl)
      · have hm := ss_iff hm c5
        refine lv_iload_n hx hb dd_S_note_33 rfl (lv_at hl 3 rfl) ?_
        refine lv_iconst (v := 0) hx hb dd_S_note_34 (by decide) ?_
        refine lv_sipush (v := 999) hx hb dd_S_note_35 (by decide) ?_
        obtain ⟨v6, qv6, hm⟩ := ss_bind hm
        refine ss_cS 0 0 (As := [.int a3, .int (0 : Int32), .int (999 : Int32)]) hC hK hR hS hl.1 (cc_S_isWithin l G N _ _ _ _ _ qv6) km_S_194 ⟨Nat.le_of_ble_eq_true rfl, Nat.le_of_ble_eq_true rfl⟩ ⟨Nat.le_of_ble_eq_true rfl, Nat.le_of_ble_eq_true rfl, Nat.le_of_ble_eq_true rfl, Nat.le_of_ble_eq_true rfl⟩ rfl rfl (Nat.le_of_ble_eq_true rfl) dd_S_note_38 (fun H locs hR hS => ?_)
        refine lv_if_eq (tgt := 56) hx hb dd_S_note_41 (by decide) (fun c7 => ?_) (fun c7 => ?_)
        · have hm := ss_ift hm c7
          exact J_56 h _ _ _ hm hR hS (lv_sub hl [] rfl)
        · have hm := ss_iff hm c7
          refine ss_aload_n hx hb dd_S_note_44 rfl (lv_at hl 0 rfl) ?_
          obtain ⟨r8, qr8, hm⟩ := ss_bind hm
          refine ss_getr hC hK hR kf_S_41 rfl qr8 dd_S_note_45 ?_
          obtain ⟨v9, qv9, hm⟩ := ss_bind hm
          refine ss_geti hC hK hR kf_S_271 qv9 dd_S_note_48 ?_
          refine lv_bipush (v := 10) hx hb dd_S_note_51 (by decide) ?_
          refine lv_icmp_lt (tgt := 59) hx hb dd_S_note_53 (by decide) (fun c10 => ?_) (fun c10 => ?_)
          · have hm := ss_ift hm c10
            refine ss_aload_n hx hb dd_S_note_59 rfl (lv_at hl 0 rfl) ?_
            obtain ⟨r11, qr11, hm⟩ := ss_bind hm
            refine ss_getr hC hK hR kf_S_41 rfl qr11 dd_S_note_60 ?_
            refine lv_iload_n hx hb dd_S_note_63 rfl (lv_at hl 1 rfl) ?_
            refine lv_iload_n hx hb dd_S_note_64 rfl (lv_at hl 2 rfl) ?_
            refine lv_iload_n hx hb dd_S_note_65 rfl (lv_at hl 3 rfl) ?_
            obtain ⟨v12, h13, qh13, hm⟩ := ss_bind2 hm
            refine ss_cV 0 0 (As := [.int a1, .int a2, .int a3]) hC hK hR hS hl.1 (cc_Wo_addNote l G N _ _ _ _ _ _ _ qh13) km_S_274 (ck_Wo_addNote qh13) ⟨Nat.le_of_ble_eq_true rfl, Nat.le_of_ble_eq_true rfl⟩ ⟨Nat.le_of_ble_eq_true rfl, Nat.le_of_ble_eq_true rfl, Nat.le_of_ble_eq_true rfl, Nat.le_of_ble_eq_true rfl⟩ rfl rfl (Nat.le_of_ble_eq_true rfl) dd_S_note_66 (fun H locs hR hS => ?_)
            exact ss_iret hC hr hlocks hR hS hm dd_S_note_69
          · have hm := ss_iff hm c10
            exact J_56 h _ _ _ hm hR hS (lv_sub hl [] rfl)
  · have hm := ss_ift hm c1
    refine ss_aload_n hx hb dd_S_note_5 rfl (lv_at hl 0 rfl) ?_
    obtain ⟨r14, qr14, hm⟩ := ss_bind hm
    refine ss_getr hC hK hR kf_S_41 rfl qr14 dd_S_note_6 ?_
    refine lv_iconst (v := 0) hx hb dd_S_note_9 (by decide) ?_
    obtain ⟨h15, qh15, hm⟩ := ss_bind hm
    refine ss_puti hC hK hR hS kp_S_271 qh15 dd_S_note_10 (fun H locs hR hS => ?_)
    refine lv_iconst (v := 0) hx hb dd_S_note_13 (by decide) ?_
    exact ss_iret hC hr hlocks hR hS hm dd_S_note_14
theorem dd_F_lastNoted_0 : decode bb_F_lastNoted 0 = .ok (.iload_n 1, 1) := by decide +kernel
theorem dd_F_lastNoted_1 : decode bb_F_lastNoted 1 = .ok (.istore_n 2, 1) := by decide +kernel
theorem dd_F_lastNoted_2 : decode bb_F_lastNoted 2 = .ok (.iconst 0, 1) := by decide +kernel
theorem dd_F_lastNoted_3 : decode bb_F_lastNoted 3 = .ok (.istore_n 3, 1) := by decide +kernel
theorem dd_F_lastNoted_4 : decode bb_F_lastNoted 4 = .ok (.iload_n 3, 1) := by decide +kernel
theorem dd_F_lastNoted_5 : decode bb_F_lastNoted 5 = .ok (.aload_n 0, 1) := by decide +kernel
theorem dd_F_lastNoted_6 : decode bb_F_lastNoted 6 = .ok (.getfield 19, 3) := by decide +kernel
theorem dd_F_lastNoted_9 : decode bb_F_lastNoted 9 = .ok (.getfield 133, 3) := by decide +kernel
theorem dd_F_lastNoted_12 : decode bb_F_lastNoted 12 = .ok (.if_icmp .ge 23, 3) := by decide +kernel
theorem dd_F_lastNoted_15 : decode bb_F_lastNoted 15 = .ok (.iload_n 2, 1) := by decide +kernel
theorem dd_F_lastNoted_16 : decode bb_F_lastNoted 16 = .ok (.aload_n 0, 1) := by decide +kernel
theorem dd_F_lastNoted_17 : decode bb_F_lastNoted 17 = .ok (.getfield 19, 3) := by decide +kernel
theorem dd_F_lastNoted_20 : decode bb_F_lastNoted 20 = .ok (.getfield 136, 3) := by decide +kernel
theorem dd_F_lastNoted_23 : decode bb_F_lastNoted 23 = .ok (.iload_n 3, 1) := by decide +kernel
theorem dd_F_lastNoted_24 : decode bb_F_lastNoted 24 = .ok (.iaload, 1) := by decide +kernel
theorem dd_F_lastNoted_25 : decode bb_F_lastNoted 25 = .ok (.invokestatic 139, 3) := by decide +kernel
theorem dd_F_lastNoted_28 : decode bb_F_lastNoted 28 = .ok (.istore_n 2, 1) := by decide +kernel
theorem dd_F_lastNoted_29 : decode bb_F_lastNoted 29 = .ok (.iinc 3 1, 3) := by decide +kernel
theorem dd_F_lastNoted_32 : decode bb_F_lastNoted 32 = .ok (.goto (-28), 3) := by decide +kernel
theorem dd_F_lastNoted_35 : decode bb_F_lastNoted 35 = .ok (.iload_n 2, 1) := by decide +kernel
theorem dd_F_lastNoted_36 : decode bb_F_lastNoted 36 = .ok (.ireturn, 1) := by decide +kernel
def mm_F_lastNoted_b4 (N : Nat) (this : Option Nat) (h : ss_Hp) (st : Int32 × Int32) : Option ((Int32 × Int32) ⊕ Int32) :=
  match st with
  | (x2_4, x3_4) =>
    (ss_gr h this 9 0).bind fun r1 =>
    (ss_gi h r1 8 2).bind fun v2 =>
    if v2 ≤ x3_4 then
      some (.inr x2_4)
    else
      (ss_gr h this 9 0).bind fun r4 =>
      (ss_gr h r4 8 2).bind fun r5 =>
      (ss_ai h r5 20 x3_4).bind fun v6 =>
      (some (if x2_4 < v6 then v6 else x2_4)).bind fun v7 =>
      (some (x3_4 + (1 : Int32))).bind fun v8 =>
      some (.inl (v7, v8))
def mm_F_lastNoted (N : Nat) (this : Option Nat) (a1 : Int32) (h : ss_Hp) : Option Int32 :=
  if ss_is h this 9 = true then
    (ss_lp (mm_F_lastNoted_b4 N this h) N (a1, (0 : Int32))).bind fun y2_4_35 =>
    some y2_4_35
  else none
abbrev ww_F_lastNoted (p : Program) (l : Launch) (e : Env) (s : State) (m : MethodId) (below : List Frame) (meth : Method) (c : Code) (G : ss_G) (this : Option Nat) (a1 : Int32) (h : ss_Hp) (rr : Int32) (H : Heap) (locs : List Loc) (k n : Nat) (g : JFrame) : Prop := W p l e (headSpec (ss_w yy_F_lastNoted bb_F_lastNoted 4 (some (.int))) ({ frames := 1, cells := 0, slots := 0, locals := 80 })).room s m ([ss_v (ss_b G) this, .int a1] : List Value).toArray below meth c H locs k n (MQ below (ss_Qc G (some (.int rr)) h) ([ss_v (ss_b G) this, .int a1] : List Value).toArray s 0 0 (ss_A G)) g
theorem ck_F_lastNoted {N : Nat} {this : Option Nat} {a1 : Int32} {h : ss_Hp} {res : Int32} (hm : mm_F_lastNoted N this a1 h = some res) : ss_is h this 9 = true := (ss_chk hm).1
set_option maxHeartbeats 4000000 in
set_option maxRecDepth 100000 in
theorem cc_F_lastNoted (l : Launch) (G : ss_G) (N : Nat) (this : Option Nat) (a1 : Int32) (h : ss_Hp) (rr : Int32) (hm : mm_F_lastNoted N this a1 h = some rr) : ss_Ct l G yy_F_lastNoted bb_F_lastNoted 4 (some (.int)) ({ frames := 1, cells := 0, slots := 0, locals := 80 }) [ss_v (ss_b G) this, .int a1] h (some (.int rr)) h := by
  obtain ⟨hck, hm⟩ := ss_chk hm
  refine Met.ofW (cc := bb_F_lastNoted) (maxL := 4) (ret := (some (.int))) (by decide) rfl ?_
  intro p e s m args below meth c s₁ B hml hv
  obtain ⟨rfl, hR, hK⟩ := hv
  have hC : CallFix p m c bb_F_lastNoted 4 s _ lw_g sR_9 := ⟨B.exec, B.bytes, hml, findClass_of_methodNamed B.named, fun w hw => atoms_spec (ws := ss_w yy_F_lastNoted bb_F_lastNoted 4 (some (.int))) B.pre w (List.mem_cons_of_mem _ hw)⟩
  have hx := hC.1
  have hb := hC.2.1
  have hr := B.returns
  have hlocks := B.notSynchronized
  have hS : va_S (ss_A G) s.heap s.heap [] := va_S.rf
  have hl := lv_entry ([ss_v (ss_b G) this, .int a1]) (n := 4) (by simp [lg_sl, ss_v_cat, ss_cat_i, ss_cat_l, ss_cat_r])
  rw [lg_entry_eq]
  generalize (lg_sl ([ss_v (ss_b G) this, .int a1]) ++ List.replicate (4 - (lg_sl ([ss_v (ss_b G) this, .int a1])).length) Slot.unset).toArray = ls at hl ⊢
  have hl : lv_has ls 4 [(0, ss_v (ss_b G) this), (1, .int a1)] := by simpa [lv_args, ss_v_cat, ss_cat_i, ss_cat_l, ss_cat_r] using hl
  refine lv_iload_n hx hb dd_F_lastNoted_0 rfl (lv_at hl 1 rfl) ?_
  refine lv_istore_n (lv' := [(2, .int a1), (0, ss_v (ss_b G) this), (1, .int a1)]) hx hb dd_F_lastNoted_1 rfl hl (by decide) rfl (fun ls hl => ?_)
  refine lv_iconst (v := 0) hx hb dd_F_lastNoted_2 (by decide) ?_
  refine lv_istore_n (lv' := [(3, .int (0 : Int32)), (2, .int a1), (0, ss_v (ss_b G) this), (1, .int a1)]) hx hb dd_F_lastNoted_3 rfl hl (by decide) rfl (fun ls hl => ?_)
  obtain ⟨e_4, he_4, hm⟩ := ss_bind hm
  have X_4_35 : ∀ (y2_4_35 : Int32) (H : Heap) (locs : List Loc) (ls : Array Slot), e_4 = y2_4_35 → ss_R G h H → va_S (ss_A G) s.heap H locs → lv_has ls 4 [(2, .int y2_4_35)] → ww_F_lastNoted p l e s m below meth c G this a1 h rr  H locs 0 0 (F0 m 35 ls []) := by
    intro y2_4_35 H locs ls hq hR hS hl
    rw [hq] at hm
    refine lv_iload_n hx hb dd_F_lastNoted_35 rfl (lv_at hl 0 rfl) ?_
    exact ss_iret hC hr hlocks hR hS (ss_with _ hm) dd_F_lastNoted_36
  have L_4 : ∀ (n : Nat) (x2_4 : Int32) (x3_4 : Int32) (H : Heap) (locs : List Loc) (ls : Array Slot), ss_lp (mm_F_lastNoted_b4 N this h) n (x2_4, x3_4) = some e_4 → ss_R G h H → va_S (ss_A G) s.heap H locs → lv_has ls 4 [(0, ss_v (ss_b G) this), (2, .int x2_4), (3, .int x3_4)] → ww_F_lastNoted p l e s m below meth c G this a1 h rr  H locs 0 0 (F0 m 4 ls []) := by
    intro n
    induction n with
    | zero => intro x2_4 x3_4 H locs ls hm; cases hm
    | succ n ih_4 =>
      intro x2_4 x3_4 H locs ls hm hR hS hl
      obtain ⟨z_4, hm, hz1_4, hz2_4⟩ := ss_lps hm
      refine lv_iload_n hx hb dd_F_lastNoted_4 rfl (lv_at hl 2 rfl) ?_
      refine ss_aload_n hx hb dd_F_lastNoted_5 rfl (lv_at hl 0 rfl) ?_
      obtain ⟨r1, qr1, hm⟩ := ss_bind hm
      refine ss_getr hC hK hR kf_F_19 rfl qr1 dd_F_lastNoted_6 ?_
      obtain ⟨v2, qv2, hm⟩ := ss_bind hm
      refine ss_geti hC hK hR kf_F_133 qv2 dd_F_lastNoted_9 ?_
      refine lv_icmp_ge (tgt := 35) hx hb dd_F_lastNoted_12 (by decide) (fun c3 => ?_) (fun c3 => ?_)
      · have hm := ss_ift hm c3
        exact X_4_35 x2_4  _ _ _ (hz2_4 _ (ss_some hm)) hR hS (lv_sub hl [1] rfl)
      · have hm := ss_iff hm c3
        refine lv_iload_n hx hb dd_F_lastNoted_15 rfl (lv_at hl 1 rfl) ?_
        refine ss_aload_n hx hb dd_F_lastNoted_16 rfl (lv_at hl 0 rfl) ?_
        obtain ⟨r4, qr4, hm⟩ := ss_bind hm
        refine ss_getr hC hK hR kf_F_19 rfl qr4 dd_F_lastNoted_17 ?_
        obtain ⟨r5, qr5, hm⟩ := ss_bind hm
        refine ss_getr hC hK hR kf_F_136 rfl qr5 dd_F_lastNoted_20 ?_
        refine lv_iload_n hx hb dd_F_lastNoted_23 rfl (lv_at hl 2 rfl) ?_
        obtain ⟨v6, qv6, hm⟩ := ss_bind hm
        refine ss_iald hC hK hR qv6 dd_F_lastNoted_24 ?_
        refine ss_max hC hl.1 kj_F_139 kj_max_s kj_math kj_max_c (Nat.le_of_ble_eq_true rfl) (Nat.le_of_ble_eq_true rfl) (Nat.le_of_ble_eq_true rfl) ⟨Nat.le_of_ble_eq_true rfl, Nat.le_of_ble_eq_true rfl⟩ dd_F_lastNoted_25 ?_
        obtain ⟨v7, qv7, hm⟩ := ss_bind hm
        refine ss_topi qv7 ?_
        refine lv_istore_n (lv' := [(2, .int v7), (0, ss_v (ss_b G) this), (3, .int x3_4)]) hx hb dd_F_lastNoted_28 rfl hl (by decide) rfl (fun ls hl => ?_)
        obtain ⟨v8, qv8, hm⟩ := ss_bind hm
        refine lv_iinc (v := v8) (lv' := [(3, .int v8), (2, .int v7), (0, ss_v (ss_b G) this)]) hx hb dd_F_lastNoted_29 hl (k := 2) rfl (ss_inc (by decide) qv8) (by decide) rfl (fun ls hl => ?_)
        refine lv_goto (tgt := 4) hx hb dd_F_lastNoted_32 (by decide) ?_
        exact ih_4 v7 v8  _ _ _ (hz1_4 _ (ss_some hm)) hR hS (lv_sub hl [2, 1, 0] rfl)
  exact L_4 N a1 (0 : Int32) _ _ _ he_4 hR hS (lv_sub hl [2, 1, 0] rfl)
theorem dd_F_isAsNoted_0 : decode bb_F_isAsNoted 0 = .ok (.iconst 0, 1) := by decide +kernel
theorem dd_F_isAsNoted_1 : decode bb_F_isAsNoted 1 = .ok (.istore_n 2, 1) := by decide +kernel
theorem dd_F_isAsNoted_2 : decode bb_F_isAsNoted 2 = .ok (.iload_n 2, 1) := by decide +kernel
theorem dd_F_isAsNoted_3 : decode bb_F_isAsNoted 3 = .ok (.aload_n 0, 1) := by decide +kernel
theorem dd_F_isAsNoted_4 : decode bb_F_isAsNoted 4 = .ok (.getfield 19, 3) := by decide +kernel
theorem dd_F_isAsNoted_7 : decode bb_F_isAsNoted 7 = .ok (.getfield 133, 3) := by decide +kernel
theorem dd_F_isAsNoted_10 : decode bb_F_isAsNoted 10 = .ok (.if_icmp .ge 56, 3) := by decide +kernel
theorem dd_F_isAsNoted_13 : decode bb_F_isAsNoted 13 = .ok (.aload_n 0, 1) := by decide +kernel
theorem dd_F_isAsNoted_14 : decode bb_F_isAsNoted 14 = .ok (.getfield 19, 3) := by decide +kernel
theorem dd_F_isAsNoted_17 : decode bb_F_isAsNoted 17 = .ok (.getfield 136, 3) := by decide +kernel
theorem dd_F_isAsNoted_20 : decode bb_F_isAsNoted 20 = .ok (.iload_n 2, 1) := by decide +kernel
theorem dd_F_isAsNoted_21 : decode bb_F_isAsNoted 21 = .ok (.iaload, 1) := by decide +kernel
theorem dd_F_isAsNoted_22 : decode bb_F_isAsNoted 22 = .ok (.iload_n 1, 1) := by decide +kernel
theorem dd_F_isAsNoted_23 : decode bb_F_isAsNoted 23 = .ok (.if_icmp .ne 37, 3) := by decide +kernel
theorem dd_F_isAsNoted_26 : decode bb_F_isAsNoted 26 = .ok (.aload_n 0, 1) := by decide +kernel
theorem dd_F_isAsNoted_27 : decode bb_F_isAsNoted 27 = .ok (.getfield 27, 3) := by decide +kernel
theorem dd_F_isAsNoted_30 : decode bb_F_isAsNoted 30 = .ok (.getfield 62, 3) := by decide +kernel
theorem dd_F_isAsNoted_33 : decode bb_F_isAsNoted 33 = .ok (.getfield 63, 3) := by decide +kernel
theorem dd_F_isAsNoted_36 : decode bb_F_isAsNoted 36 = .ok (.aload_n 0, 1) := by decide +kernel
theorem dd_F_isAsNoted_37 : decode bb_F_isAsNoted 37 = .ok (.getfield 19, 3) := by decide +kernel
theorem dd_F_isAsNoted_40 : decode bb_F_isAsNoted 40 = .ok (.getfield 144, 3) := by decide +kernel
theorem dd_F_isAsNoted_43 : decode bb_F_isAsNoted 43 = .ok (.iload_n 2, 1) := by decide +kernel
theorem dd_F_isAsNoted_44 : decode bb_F_isAsNoted 44 = .ok (.iaload, 1) := by decide +kernel
theorem dd_F_isAsNoted_45 : decode bb_F_isAsNoted 45 = .ok (.iaload, 1) := by decide +kernel
theorem dd_F_isAsNoted_46 : decode bb_F_isAsNoted 46 = .ok (.aload_n 0, 1) := by decide +kernel
theorem dd_F_isAsNoted_47 : decode bb_F_isAsNoted 47 = .ok (.getfield 19, 3) := by decide +kernel
theorem dd_F_isAsNoted_50 : decode bb_F_isAsNoted 50 = .ok (.getfield 147, 3) := by decide +kernel
theorem dd_F_isAsNoted_53 : decode bb_F_isAsNoted 53 = .ok (.iload_n 2, 1) := by decide +kernel
theorem dd_F_isAsNoted_54 : decode bb_F_isAsNoted 54 = .ok (.iaload, 1) := by decide +kernel
theorem dd_F_isAsNoted_55 : decode bb_F_isAsNoted 55 = .ok (.if_icmp .eq 5, 3) := by decide +kernel
theorem dd_F_isAsNoted_58 : decode bb_F_isAsNoted 58 = .ok (.iconst 0, 1) := by decide +kernel
theorem dd_F_isAsNoted_59 : decode bb_F_isAsNoted 59 = .ok (.ireturn, 1) := by decide +kernel
theorem dd_F_isAsNoted_60 : decode bb_F_isAsNoted 60 = .ok (.iinc 2 1, 3) := by decide +kernel
theorem dd_F_isAsNoted_63 : decode bb_F_isAsNoted 63 = .ok (.goto (-61), 3) := by decide +kernel
theorem dd_F_isAsNoted_66 : decode bb_F_isAsNoted 66 = .ok (.iconst 1, 1) := by decide +kernel
theorem dd_F_isAsNoted_67 : decode bb_F_isAsNoted 67 = .ok (.ireturn, 1) := by decide +kernel
def mm_F_isAsNoted_j60 (N : Nat) (this : Option Nat) (a1 : Int32) (h : ss_Hp) (x2_60 : Int32) : Option (Int32 ⊕ (Unit ⊕ Unit)) :=
  (some (x2_60 + (1 : Int32))).bind fun v1 =>
  some (.inl v1)
def mm_F_isAsNoted_b2 (N : Nat) (this : Option Nat) (a1 : Int32) (h : ss_Hp) (st : Int32) : Option (Int32 ⊕ (Unit ⊕ Unit)) :=
  match st with
  | x2_2 =>
    (ss_gr h this 9 0).bind fun r2 =>
    (ss_gi h r2 8 2).bind fun v3 =>
    if v3 ≤ x2_2 then
      some (.inr (.inl ()))
    else
      (ss_gr h this 9 0).bind fun r5 =>
      (ss_gr h r5 8 2).bind fun r6 =>
      (ss_ai h r6 20 x2_2).bind fun v7 =>
      if v7 = a1 then
        (ss_gr h this 9 2).bind fun r9 =>
        (ss_gr h r9 7 0).bind fun r10 =>
        (ss_gr h r10 0 0).bind fun r11 =>
        (ss_gr h this 9 0).bind fun r12 =>
        (ss_gr h r12 8 3).bind fun r13 =>
        (ss_ai h r13 20 x2_2).bind fun v14 =>
        (ss_ai h r11 20 v14).bind fun v15 =>
        (ss_gr h this 9 0).bind fun r16 =>
        (ss_gr h r16 8 4).bind fun r17 =>
        (ss_ai h r17 20 x2_2).bind fun v18 =>
        if v15 = v18 then
          mm_F_isAsNoted_j60 N this a1 h x2_2
        else
          some (.inr (.inr ()))
      else
        mm_F_isAsNoted_j60 N this a1 h x2_2
def mm_F_isAsNoted (N : Nat) (this : Option Nat) (a1 : Int32) (h : ss_Hp) : Option Int32 :=
  if ss_is h this 9 = true then
    (ss_lp (mm_F_isAsNoted_b2 N this a1 h) N (0 : Int32)).bind fun e_2 =>
    match e_2 with
    | (.inl ()) =>
      some (1 : Int32)
    | (.inr ()) =>
      some (0 : Int32)
  else none
abbrev ww_F_isAsNoted (p : Program) (l : Launch) (e : Env) (s : State) (m : MethodId) (below : List Frame) (meth : Method) (c : Code) (G : ss_G) (this : Option Nat) (a1 : Int32) (h : ss_Hp) (rr : Int32) (H : Heap) (locs : List Loc) (k n : Nat) (g : JFrame) : Prop := W p l e (headSpec (ss_w yy_F_isAsNoted bb_F_isAsNoted 3 (some .boolean)) ({ frames := 0, cells := 0, slots := 0, locals := 0 })).room s m ([ss_v (ss_b G) this, .int a1] : List Value).toArray below meth c H locs k n (MQ below (ss_Qc G (some (.int rr)) h) ([ss_v (ss_b G) this, .int a1] : List Value).toArray s 0 0 (ss_A G)) g
theorem ck_F_isAsNoted {N : Nat} {this : Option Nat} {a1 : Int32} {h : ss_Hp} {res : Int32} (hm : mm_F_isAsNoted N this a1 h = some res) : ss_is h this 9 = true := (ss_chk hm).1
set_option maxHeartbeats 4000000 in
set_option maxRecDepth 100000 in
theorem cc_F_isAsNoted (l : Launch) (G : ss_G) (N : Nat) (this : Option Nat) (a1 : Int32) (h : ss_Hp) (rr : Int32) (hm : mm_F_isAsNoted N this a1 h = some rr) : ss_Ct l G yy_F_isAsNoted bb_F_isAsNoted 3 (some .boolean) ({ frames := 0, cells := 0, slots := 0, locals := 0 }) [ss_v (ss_b G) this, .int a1] h (some (.int rr)) h := by
  obtain ⟨hck, hm⟩ := ss_chk hm
  refine Met.ofW (cc := bb_F_isAsNoted) (maxL := 3) (ret := (some .boolean)) (by decide) rfl ?_
  intro p e s m args below meth c s₁ B hml hv
  obtain ⟨rfl, hR, hK⟩ := hv
  have hC : CallFix p m c bb_F_isAsNoted 3 s _ lw_g sR_9 := ⟨B.exec, B.bytes, hml, findClass_of_methodNamed B.named, fun w hw => atoms_spec (ws := ss_w yy_F_isAsNoted bb_F_isAsNoted 3 (some .boolean)) B.pre w (List.mem_cons_of_mem _ hw)⟩
  have hx := hC.1
  have hb := hC.2.1
  have hr := B.returns
  have hlocks := B.notSynchronized
  have hS : va_S (ss_A G) s.heap s.heap [] := va_S.rf
  have hl := lv_entry ([ss_v (ss_b G) this, .int a1]) (n := 3) (by simp [lg_sl, ss_v_cat, ss_cat_i, ss_cat_l, ss_cat_r])
  rw [lg_entry_eq]
  generalize (lg_sl ([ss_v (ss_b G) this, .int a1]) ++ List.replicate (3 - (lg_sl ([ss_v (ss_b G) this, .int a1])).length) Slot.unset).toArray = ls at hl ⊢
  have hl : lv_has ls 3 [(0, ss_v (ss_b G) this), (1, .int a1)] := by simpa [lv_args, ss_v_cat, ss_cat_i, ss_cat_l, ss_cat_r] using hl
  refine lv_iconst (v := 0) hx hb dd_F_isAsNoted_0 (by decide) ?_
  refine lv_istore_n (lv' := [(2, .int (0 : Int32)), (0, ss_v (ss_b G) this), (1, .int a1)]) hx hb dd_F_isAsNoted_1 rfl hl (by decide) rfl (fun ls hl => ?_)
  obtain ⟨e_2, he_2, hm⟩ := ss_bind hm
  have X_2_66 : ∀  (H : Heap) (locs : List Loc) (ls : Array Slot), e_2 = (.inl ()) → ss_R G h H → va_S (ss_A G) s.heap H locs → lv_has ls 3 [] → ww_F_isAsNoted p l e s m below meth c G this a1 h rr  H locs 0 0 (F0 m 66 ls []) := by
    intro  H locs ls hq hR hS hl
    rw [hq] at hm
    refine lv_iconst (v := 1) hx hb dd_F_isAsNoted_66 (by decide) ?_
    exact ss_zret hC hr (by decide) hlocks hR hS (ss_with _ hm) dd_F_isAsNoted_67
  have X_2_58 : ∀  (H : Heap) (locs : List Loc) (ls : Array Slot), e_2 = (.inr ()) → ss_R G h H → va_S (ss_A G) s.heap H locs → lv_has ls 3 [] → ww_F_isAsNoted p l e s m below meth c G this a1 h rr  H locs 0 0 (F0 m 58 ls []) := by
    intro  H locs ls hq hR hS hl
    rw [hq] at hm
    refine lv_iconst (v := 0) hx hb dd_F_isAsNoted_58 (by decide) ?_
    exact ss_zret hC hr (by decide) hlocks hR hS (ss_with _ hm) dd_F_isAsNoted_59
  have L_2 : ∀ (n : Nat) (x2_2 : Int32) (H : Heap) (locs : List Loc) (ls : Array Slot), ss_lp (mm_F_isAsNoted_b2 N this a1 h) n x2_2 = some e_2 → ss_R G h H → va_S (ss_A G) s.heap H locs → lv_has ls 3 [(0, ss_v (ss_b G) this), (1, .int a1), (2, .int x2_2)] → ww_F_isAsNoted p l e s m below meth c G this a1 h rr  H locs 0 0 (F0 m 2 ls []) := by
    intro n
    induction n with
    | zero => intro x2_2 H locs ls hm; cases hm
    | succ n ih_2 =>
      intro x2_2 H locs ls hm hR hS hl
      obtain ⟨z_2, hm, hz1_2, hz2_2⟩ := ss_lps hm
      have J_60 : ∀ (x2_60 : Int32) (H : Heap) (locs : List Loc) (ls : Array Slot), mm_F_isAsNoted_j60 N this a1 h x2_60 = some z_2 → ss_R G h H → va_S (ss_A G) s.heap H locs → lv_has ls 3 [(0, ss_v (ss_b G) this), (1, .int a1), (2, .int x2_60)] → ww_F_isAsNoted p l e s m below meth c G this a1 h rr  H locs 0 0 (F0 m 60 ls []) := by
        intro x2_60 H locs ls hm hR hS hl
        obtain ⟨v1, qv1, hm⟩ := ss_bind hm
        refine lv_iinc (v := v1) (lv' := [(2, .int v1), (0, ss_v (ss_b G) this), (1, .int a1)]) hx hb dd_F_isAsNoted_60 hl (k := 2) rfl (ss_inc (by decide) qv1) (by decide) rfl (fun ls hl => ?_)
        refine lv_goto (tgt := 2) hx hb dd_F_isAsNoted_63 (by decide) ?_
        exact ih_2 v1  _ _ _ (hz1_2 _ (ss_some hm)) hR hS (lv_sub hl [1, 2, 0] rfl)
      refine lv_iload_n hx hb dd_F_isAsNoted_2 rfl (lv_at hl 2 rfl) ?_
      refine ss_aload_n hx hb dd_F_isAsNoted_3 rfl (lv_at hl 0 rfl) ?_
      obtain ⟨r2, qr2, hm⟩ := ss_bind hm
      refine ss_getr hC hK hR kf_F_19 rfl qr2 dd_F_isAsNoted_4 ?_
      obtain ⟨v3, qv3, hm⟩ := ss_bind hm
      refine ss_geti hC hK hR kf_F_133 qv3 dd_F_isAsNoted_7 ?_
      refine lv_icmp_ge (tgt := 66) hx hb dd_F_isAsNoted_10 (by decide) (fun c4 => ?_) (fun c4 => ?_)
      · have hm := ss_ift hm c4
        exact X_2_66  _ _ _ (hz2_2 _ (ss_some hm)) hR hS (lv_sub hl [] rfl)
      · have hm := ss_iff hm c4
        refine ss_aload_n hx hb dd_F_isAsNoted_13 rfl (lv_at hl 0 rfl) ?_
        obtain ⟨r5, qr5, hm⟩ := ss_bind hm
        refine ss_getr hC hK hR kf_F_19 rfl qr5 dd_F_isAsNoted_14 ?_
        obtain ⟨r6, qr6, hm⟩ := ss_bind hm
        refine ss_getr hC hK hR kf_F_136 rfl qr6 dd_F_isAsNoted_17 ?_
        refine lv_iload_n hx hb dd_F_isAsNoted_20 rfl (lv_at hl 2 rfl) ?_
        obtain ⟨v7, qv7, hm⟩ := ss_bind hm
        refine ss_iald hC hK hR qv7 dd_F_isAsNoted_21 ?_
        refine lv_iload_n hx hb dd_F_isAsNoted_22 rfl (lv_at hl 1 rfl) ?_
        refine lv_icmp_ne (tgt := 60) hx hb dd_F_isAsNoted_23 (by decide) (fun c8 => ?_) (fun c8 => ?_)
        · have hm := ss_iff hm c8
          exact J_60 x2_2  _ _ _ hm hR hS hl
        · have hm := ss_ift hm c8
          refine ss_aload_n hx hb dd_F_isAsNoted_26 rfl (lv_at hl 0 rfl) ?_
          obtain ⟨r9, qr9, hm⟩ := ss_bind hm
          refine ss_getr hC hK hR kf_F_27 rfl qr9 dd_F_isAsNoted_27 ?_
          obtain ⟨r10, qr10, hm⟩ := ss_bind hm
          refine ss_getr hC hK hR kf_F_62 rfl qr10 dd_F_isAsNoted_30 ?_
          obtain ⟨r11, qr11, hm⟩ := ss_bind hm
          refine ss_getr hC hK hR kf_F_63 rfl qr11 dd_F_isAsNoted_33 ?_
          refine ss_aload_n hx hb dd_F_isAsNoted_36 rfl (lv_at hl 0 rfl) ?_
          obtain ⟨r12, qr12, hm⟩ := ss_bind hm
          refine ss_getr hC hK hR kf_F_19 rfl qr12 dd_F_isAsNoted_37 ?_
          obtain ⟨r13, qr13, hm⟩ := ss_bind hm
          refine ss_getr hC hK hR kf_F_144 rfl qr13 dd_F_isAsNoted_40 ?_
          refine lv_iload_n hx hb dd_F_isAsNoted_43 rfl (lv_at hl 2 rfl) ?_
          obtain ⟨v14, qv14, hm⟩ := ss_bind hm
          refine ss_iald hC hK hR qv14 dd_F_isAsNoted_44 ?_
          obtain ⟨v15, qv15, hm⟩ := ss_bind hm
          refine ss_iald hC hK hR qv15 dd_F_isAsNoted_45 ?_
          refine ss_aload_n hx hb dd_F_isAsNoted_46 rfl (lv_at hl 0 rfl) ?_
          obtain ⟨r16, qr16, hm⟩ := ss_bind hm
          refine ss_getr hC hK hR kf_F_19 rfl qr16 dd_F_isAsNoted_47 ?_
          obtain ⟨r17, qr17, hm⟩ := ss_bind hm
          refine ss_getr hC hK hR kf_F_147 rfl qr17 dd_F_isAsNoted_50 ?_
          refine lv_iload_n hx hb dd_F_isAsNoted_53 rfl (lv_at hl 2 rfl) ?_
          obtain ⟨v18, qv18, hm⟩ := ss_bind hm
          refine ss_iald hC hK hR qv18 dd_F_isAsNoted_54 ?_
          refine lv_icmp_eq (tgt := 60) hx hb dd_F_isAsNoted_55 (by decide) (fun c19 => ?_) (fun c19 => ?_)
          · have hm := ss_ift hm c19
            exact J_60 x2_2  _ _ _ hm hR hS hl
          · have hm := ss_iff hm c19
            exact X_2_58  _ _ _ (hz2_2 _ (ss_some hm)) hR hS (lv_sub hl [] rfl)
  exact L_2 N (0 : Int32) _ _ _ he_2 hR hS (lv_sub hl [1, 2, 0] rfl)
theorem dd_F_agrees_0 : decode bb_F_agrees 0 = .ok (.aload_n 0, 1) := by decide +kernel
theorem dd_F_agrees_1 : decode bb_F_agrees 1 = .ok (.getfield 27, 3) := by decide +kernel
theorem dd_F_agrees_4 : decode bb_F_agrees 4 = .ok (.aload_n 0, 1) := by decide +kernel
theorem dd_F_agrees_5 : decode bb_F_agrees 5 = .ok (.iload_n 1, 1) := by decide +kernel
theorem dd_F_agrees_6 : decode bb_F_agrees 6 = .ok (.iconst 1, 1) := by decide +kernel
theorem dd_F_agrees_7 : decode bb_F_agrees 7 = .ok (.isub, 1) := by decide +kernel
theorem dd_F_agrees_8 : decode bb_F_agrees 8 = .ok (.invokevirtual 37, 3) := by decide +kernel
theorem dd_F_agrees_11 : decode bb_F_agrees 11 = .ok (.aload_n 0, 1) := by decide +kernel
theorem dd_F_agrees_12 : decode bb_F_agrees 12 = .ok (.getfield 19, 3) := by decide +kernel
theorem dd_F_agrees_15 : decode bb_F_agrees 15 = .ok (.getfield 77, 3) := by decide +kernel
theorem dd_F_agrees_18 : decode bb_F_agrees 18 = .ok (.getfield 123, 3) := by decide +kernel
theorem dd_F_agrees_21 : decode bb_F_agrees 21 = .ok (.invokevirtual 45, 3) := by decide +kernel
theorem dd_F_agrees_24 : decode bb_F_agrees 24 = .ok (.aload_n 0, 1) := by decide +kernel
theorem dd_F_agrees_25 : decode bb_F_agrees 25 = .ok (.iload_n 2, 1) := by decide +kernel
theorem dd_F_agrees_26 : decode bb_F_agrees 26 = .ok (.invokevirtual 126, 3) := by decide +kernel
theorem dd_F_agrees_29 : decode bb_F_agrees 29 = .ok (.istore_n 3, 1) := by decide +kernel
theorem dd_F_agrees_30 : decode bb_F_agrees 30 = .ok (.iconst 0, 1) := by decide +kernel
theorem dd_F_agrees_31 : decode bb_F_agrees 31 = .ok (.istore 4, 2) := by decide +kernel
theorem dd_F_agrees_33 : decode bb_F_agrees 33 = .ok (.iload 4, 2) := by decide +kernel
theorem dd_F_agrees_35 : decode bb_F_agrees 35 = .ok (.iload_n 3, 1) := by decide +kernel
theorem dd_F_agrees_36 : decode bb_F_agrees 36 = .ok (.if_icmp .gt 58, 3) := by decide +kernel
theorem dd_F_agrees_39 : decode bb_F_agrees 39 = .ok (.aload_n 0, 1) := by decide +kernel
theorem dd_F_agrees_40 : decode bb_F_agrees 40 = .ok (.iload 4, 2) := by decide +kernel
theorem dd_F_agrees_42 : decode bb_F_agrees 42 = .ok (.invokevirtual 129, 3) := by decide +kernel
theorem dd_F_agrees_45 : decode bb_F_agrees 45 = .ok (.ifCond .ne 5, 3) := by decide +kernel
theorem dd_F_agrees_48 : decode bb_F_agrees 48 = .ok (.iconst 0, 1) := by decide +kernel
theorem dd_F_agrees_49 : decode bb_F_agrees 49 = .ok (.ireturn, 1) := by decide +kernel
theorem dd_F_agrees_50 : decode bb_F_agrees 50 = .ok (.iload 4, 2) := by decide +kernel
theorem dd_F_agrees_52 : decode bb_F_agrees 52 = .ok (.iload_n 2, 1) := by decide +kernel
theorem dd_F_agrees_53 : decode bb_F_agrees 53 = .ok (.if_icmp .ne 27, 3) := by decide +kernel
theorem dd_F_agrees_56 : decode bb_F_agrees 56 = .ok (.aload_n 0, 1) := by decide +kernel
theorem dd_F_agrees_57 : decode bb_F_agrees 57 = .ok (.getfield 27, 3) := by decide +kernel
theorem dd_F_agrees_60 : decode bb_F_agrees 60 = .ok (.getfield 62, 3) := by decide +kernel
theorem dd_F_agrees_63 : decode bb_F_agrees 63 = .ok (.getfield 63, 3) := by decide +kernel
theorem dd_F_agrees_66 : decode bb_F_agrees 66 = .ok (.iconst 0, 1) := by decide +kernel
theorem dd_F_agrees_67 : decode bb_F_agrees 67 = .ok (.aload_n 0, 1) := by decide +kernel
theorem dd_F_agrees_68 : decode bb_F_agrees 68 = .ok (.getfield 11, 3) := by decide +kernel
theorem dd_F_agrees_71 : decode bb_F_agrees 71 = .ok (.iload_n 1, 1) := by decide +kernel
theorem dd_F_agrees_72 : decode bb_F_agrees 72 = .ok (.bipush 8, 2) := by decide +kernel
theorem dd_F_agrees_74 : decode bb_F_agrees 74 = .ok (.imul, 1) := by decide +kernel
theorem dd_F_agrees_75 : decode bb_F_agrees 75 = .ok (.bipush 8, 2) := by decide +kernel
theorem dd_F_agrees_77 : decode bb_F_agrees 77 = .ok (.invokestatic 89, 3) := by decide +kernel
theorem dd_F_agrees_80 : decode bb_F_agrees 80 = .ok (.aload_n 0, 1) := by decide +kernel
theorem dd_F_agrees_81 : decode bb_F_agrees 81 = .ok (.getfield 27, 3) := by decide +kernel
theorem dd_F_agrees_84 : decode bb_F_agrees 84 = .ok (.invokevirtual 54, 3) := by decide +kernel
theorem dd_F_agrees_87 : decode bb_F_agrees 87 = .ok (.pop, 1) := by decide +kernel
theorem dd_F_agrees_88 : decode bb_F_agrees 88 = .ok (.iinc 4 1, 3) := by decide +kernel
theorem dd_F_agrees_91 : decode bb_F_agrees 91 = .ok (.goto (-58), 3) := by decide +kernel
theorem dd_F_agrees_94 : decode bb_F_agrees 94 = .ok (.iconst 1, 1) := by decide +kernel
theorem dd_F_agrees_95 : decode bb_F_agrees 95 = .ok (.ireturn, 1) := by decide +kernel
def mm_F_agrees_j80 (N : Nat) (this : Option Nat) (a1 : Int32) (a2 : Int32) (v7 : Int32) (x4_80 : Int32) (h_80 : ss_Hp) : Option ((Int32 × ss_Hp) ⊕ (ss_Hp ⊕ ss_Hp)) :=
  (ss_gr h_80 this 9 2).bind fun r8 =>
  ss_b2 (mm_Wi_passDay N r8 h_80) fun v9 h10 =>
  (some (x4_80 + (1 : Int32))).bind fun v11 =>
  some (.inl (v11, h10))
def mm_F_agrees_b33 (N : Nat) (this : Option Nat) (a1 : Int32) (a2 : Int32) (v7 : Int32) (st : Int32 × ss_Hp) : Option ((Int32 × ss_Hp) ⊕ (ss_Hp ⊕ ss_Hp)) :=
  match st with
  | (x4_33, h_33) =>
    if v7 < x4_33 then
      some (.inr (.inl h_33))
    else
      (mm_F_isAsNoted N this x4_33 h_33).bind fun v13 =>
      if v13 = 0 then
        some (.inr (.inr h_33))
      else
        if x4_33 = a2 then
          (ss_gr h_33 this 9 2).bind fun r16 =>
          (ss_gr h_33 r16 7 0).bind fun r17 =>
          (ss_gr h_33 r17 0 0).bind fun r18 =>
          (ss_gr h_33 this 9 3).bind fun r19 =>
          (ss_cp h_33 r18 (0 : Int32) r19 (a1 * (8 : Int32)) (8 : Int32)).bind fun h20 =>
          mm_F_agrees_j80 N this a1 a2 v7 x4_33 h20
        else
          mm_F_agrees_j80 N this a1 a2 v7 x4_33 h_33
def mm_F_agrees (N : Nat) (this : Option Nat) (a1 : Int32) (a2 : Int32) (h : ss_Hp) : Option (Int32 × ss_Hp) :=
  if ss_is h this 9 = true then
    (ss_gr h this 9 2).bind fun r1 =>
    (mm_F_ruleAt N this (a1 - (1 : Int32)) h).bind fun r2 =>
    (ss_gr h this 9 0).bind fun r3 =>
    (ss_gr h r3 8 0).bind fun r4 =>
    (ss_gr h r4 5 4).bind fun r5 =>
    (mm_Wi_begin N r1 r2 r5 h).bind fun h6 =>
    (mm_F_lastNoted N this a2 h6).bind fun v7 =>
    (ss_lp (mm_F_agrees_b33 N this a1 a2 v7) N ((0 : Int32), h6)).bind fun e_33 =>
    match e_33 with
    | (.inl h_33_94) =>
      some ((1 : Int32), h_33_94)
    | (.inr h_33_48) =>
      some ((0 : Int32), h_33_48)
  else none
abbrev ww_F_agrees (p : Program) (l : Launch) (e : Env) (s : State) (m : MethodId) (below : List Frame) (meth : Method) (c : Code) (G : ss_G) (this : Option Nat) (a1 : Int32) (a2 : Int32) (h : ss_Hp) (rr : Int32) (hh : ss_Hp) (H : Heap) (locs : List Loc) (k n : Nat) (g : JFrame) : Prop := W p l e (headSpec (ss_w yy_F_agrees bb_F_agrees 5 (some .boolean)) ({ frames := 5, cells := 0, slots := 0, locals := 148 })).room s m ([ss_v (ss_b G) this, .int a1, .int a2] : List Value).toArray below meth c H locs k n (MQ below (ss_Qc G (some (.int rr)) hh) ([ss_v (ss_b G) this, .int a1, .int a2] : List Value).toArray s 0 0 (ss_A G)) g
theorem ck_F_agrees {N : Nat} {this : Option Nat} {a1 : Int32} {a2 : Int32} {h : ss_Hp} {res : Int32 × ss_Hp} (hm : mm_F_agrees N this a1 a2 h = some res) : ss_is h this 9 = true := (ss_chk hm).1
set_option maxHeartbeats 4000000 in
set_option maxRecDepth 100000 in
theorem cc_F_agrees (l : Launch) (G : ss_G) (N : Nat) (this : Option Nat) (a1 : Int32) (a2 : Int32) (h : ss_Hp) (rr : Int32) (hh : ss_Hp) (hm : mm_F_agrees N this a1 a2 h = some (rr, hh)) : ss_Ct l G yy_F_agrees bb_F_agrees 5 (some .boolean) ({ frames := 5, cells := 0, slots := 0, locals := 148 }) [ss_v (ss_b G) this, .int a1, .int a2] h (some (.int rr)) hh := by
  obtain ⟨hck, hm⟩ := ss_chk hm
  refine Met.ofW (cc := bb_F_agrees) (maxL := 5) (ret := (some .boolean)) (by decide) rfl ?_
  intro p e s m args below meth c s₁ B hml hv
  obtain ⟨rfl, hR, hK⟩ := hv
  have hC : CallFix p m c bb_F_agrees 5 s _ lw_g sR_9 := ⟨B.exec, B.bytes, hml, findClass_of_methodNamed B.named, fun w hw => atoms_spec (ws := ss_w yy_F_agrees bb_F_agrees 5 (some .boolean)) B.pre w (List.mem_cons_of_mem _ hw)⟩
  have hx := hC.1
  have hb := hC.2.1
  have hr := B.returns
  have hlocks := B.notSynchronized
  have hS : va_S (ss_A G) s.heap s.heap [] := va_S.rf
  have hl := lv_entry ([ss_v (ss_b G) this, .int a1, .int a2]) (n := 5) (by simp [lg_sl, ss_v_cat, ss_cat_i, ss_cat_l, ss_cat_r])
  rw [lg_entry_eq]
  generalize (lg_sl ([ss_v (ss_b G) this, .int a1, .int a2]) ++ List.replicate (5 - (lg_sl ([ss_v (ss_b G) this, .int a1, .int a2])).length) Slot.unset).toArray = ls at hl ⊢
  have hl : lv_has ls 5 [(0, ss_v (ss_b G) this), (1, .int a1), (2, .int a2)] := by simpa [lv_args, ss_v_cat, ss_cat_i, ss_cat_l, ss_cat_r] using hl
  refine ss_aload_n hx hb dd_F_agrees_0 rfl (lv_at hl 0 rfl) ?_
  obtain ⟨r1, qr1, hm⟩ := ss_bind hm
  refine ss_getr hC hK hR kf_F_27 rfl qr1 dd_F_agrees_1 ?_
  refine ss_aload_n hx hb dd_F_agrees_4 rfl (lv_at hl 0 rfl) ?_
  refine lv_iload_n hx hb dd_F_agrees_5 rfl (lv_at hl 1 rfl) ?_
  refine lv_iconst (v := 1) hx hb dd_F_agrees_6 (by decide) ?_
  refine lv_isub hx hb dd_F_agrees_7 ?_
  obtain ⟨r2, qr2, hm⟩ := ss_bind hm
  refine ss_cV 0 0 (As := [.int (a1 - (1 : Int32))]) hC hK hR hS hl.1 (cc_F_ruleAt l G N _ _ _ _ qr2) km_F_37 (ck_F_ruleAt qr2) ⟨Nat.le_of_ble_eq_true rfl, Nat.le_of_ble_eq_true rfl⟩ ⟨Nat.le_of_ble_eq_true rfl, Nat.le_of_ble_eq_true rfl, Nat.le_of_ble_eq_true rfl, Nat.le_of_ble_eq_true rfl⟩ rfl rfl (by simp [ss_v_cat, ss_cat_i, ss_cat_l, ss_cat_r]) dd_F_agrees_8 (fun H locs hR hS => ?_)
  refine ss_aload_n hx hb dd_F_agrees_11 rfl (lv_at hl 0 rfl) ?_
  obtain ⟨r3, qr3, hm⟩ := ss_bind hm
  refine ss_getr hC hK hR kf_F_19 rfl qr3 dd_F_agrees_12 ?_
  obtain ⟨r4, qr4, hm⟩ := ss_bind hm
  refine ss_getr hC hK hR kf_F_77 rfl qr4 dd_F_agrees_15 ?_
  obtain ⟨r5, qr5, hm⟩ := ss_bind hm
  refine ss_getr hC hK hR kf_F_123 rfl qr5 dd_F_agrees_18 ?_
  obtain ⟨h6, qh6, hm⟩ := ss_bind hm
  refine ss_cVv 0 0 (As := [ss_v (ss_b G) r2, ss_v (ss_b G) r5]) hC hK hR hS hl.1 (cc_Wi_begin l G N _ _ _ _ _ qh6) km_F_45 (ck_Wi_begin qh6) ⟨Nat.le_of_ble_eq_true rfl, Nat.le_of_ble_eq_true rfl⟩ ⟨Nat.le_of_ble_eq_true rfl, Nat.le_of_ble_eq_true rfl, Nat.le_of_ble_eq_true rfl, Nat.le_of_ble_eq_true rfl⟩ rfl rfl (Nat.le_of_ble_eq_true rfl) dd_F_agrees_21 (fun H locs hR hS => ?_)
  refine ss_aload_n hx hb dd_F_agrees_24 rfl (lv_at hl 0 rfl) ?_
  refine lv_iload_n hx hb dd_F_agrees_25 rfl (lv_at hl 2 rfl) ?_
  obtain ⟨v7, qv7, hm⟩ := ss_bind hm
  refine ss_cV 0 0 (As := [.int a2]) hC hK hR hS hl.1 (cc_F_lastNoted l G N _ _ _ _ qv7) km_F_126 (ck_F_lastNoted qv7) ⟨Nat.le_of_ble_eq_true rfl, Nat.le_of_ble_eq_true rfl⟩ ⟨Nat.le_of_ble_eq_true rfl, Nat.le_of_ble_eq_true rfl, Nat.le_of_ble_eq_true rfl, Nat.le_of_ble_eq_true rfl⟩ rfl rfl (Nat.le_of_ble_eq_true rfl) dd_F_agrees_26 (fun H locs hR hS => ?_)
  refine lv_istore_n (lv' := [(3, .int v7), (0, ss_v (ss_b G) this), (1, .int a1), (2, .int a2)]) hx hb dd_F_agrees_29 rfl hl (by decide) rfl (fun ls hl => ?_)
  refine lv_iconst (v := 0) hx hb dd_F_agrees_30 (by decide) ?_
  refine lv_istore (lv' := [(4, .int (0 : Int32)), (3, .int v7), (0, ss_v (ss_b G) this), (1, .int a1), (2, .int a2)]) hx hb dd_F_agrees_31 hl (by decide) rfl (fun ls hl => ?_)
  obtain ⟨e_33, he_33, hm⟩ := ss_bind hm
  have X_33_94 : ∀  (h_33_94 : ss_Hp) (H : Heap) (locs : List Loc) (ls : Array Slot), e_33 = (.inl h_33_94) → ss_R G h_33_94 H → va_S (ss_A G) s.heap H locs → lv_has ls 5 [] → ww_F_agrees p l e s m below meth c G this a1 a2 h rr hh  H locs 0 0 (F0 m 94 ls []) := by
    intro h_33_94 H locs ls hq hR hS hl
    rw [hq] at hm
    refine lv_iconst (v := 1) hx hb dd_F_agrees_94 (by decide) ?_
    exact ss_zret hC hr (by decide) hlocks hR hS hm dd_F_agrees_95
  have X_33_48 : ∀  (h_33_48 : ss_Hp) (H : Heap) (locs : List Loc) (ls : Array Slot), e_33 = (.inr h_33_48) → ss_R G h_33_48 H → va_S (ss_A G) s.heap H locs → lv_has ls 5 [] → ww_F_agrees p l e s m below meth c G this a1 a2 h rr hh  H locs 0 0 (F0 m 48 ls []) := by
    intro h_33_48 H locs ls hq hR hS hl
    rw [hq] at hm
    refine lv_iconst (v := 0) hx hb dd_F_agrees_48 (by decide) ?_
    exact ss_zret hC hr (by decide) hlocks hR hS hm dd_F_agrees_49
  have L_33 : ∀ (n : Nat) (x4_33 : Int32) (h_33 : ss_Hp) (H : Heap) (locs : List Loc) (ls : Array Slot), ss_lp (mm_F_agrees_b33 N this a1 a2 v7) n (x4_33, h_33) = some e_33 → ss_R G h_33 H → va_S (ss_A G) s.heap H locs → lv_has ls 5 [(0, ss_v (ss_b G) this), (1, .int a1), (2, .int a2), (3, .int v7), (4, .int x4_33)] → ww_F_agrees p l e s m below meth c G this a1 a2 h rr hh  H locs 0 0 (F0 m 33 ls []) := by
    intro n
    induction n with
    | zero => intro x4_33 h_33 H locs ls hm; cases hm
    | succ n ih_33 =>
      intro x4_33 h_33 H locs ls hm hR hS hl
      obtain ⟨z_33, hm, hz1_33, hz2_33⟩ := ss_lps hm
      have J_80 : ∀ (x4_80 : Int32) (h_80 : ss_Hp) (H : Heap) (locs : List Loc) (ls : Array Slot), mm_F_agrees_j80 N this a1 a2 v7 x4_80 h_80 = some z_33 → ss_R G h_80 H → va_S (ss_A G) s.heap H locs → lv_has ls 5 [(0, ss_v (ss_b G) this), (1, .int a1), (2, .int a2), (3, .int v7), (4, .int x4_80)] → ww_F_agrees p l e s m below meth c G this a1 a2 h rr hh  H locs 0 0 (F0 m 80 ls []) := by
        intro x4_80 h_80 H locs ls hm hR hS hl
        refine ss_aload_n hx hb dd_F_agrees_80 rfl (lv_at hl 0 rfl) ?_
        obtain ⟨r8, qr8, hm⟩ := ss_bind hm
        refine ss_getr hC hK hR kf_F_27 rfl qr8 dd_F_agrees_81 ?_
        obtain ⟨v9, h10, qh10, hm⟩ := ss_bind2 hm
        refine ss_cV 0 0 (As := []) hC hK hR hS hl.1 (cc_Wi_passDay l G N _ _ _ _ qh10) km_F_54 (ck_Wi_passDay qh10) ⟨Nat.le_of_ble_eq_true rfl, Nat.le_of_ble_eq_true rfl⟩ ⟨Nat.le_of_ble_eq_true rfl, Nat.le_of_ble_eq_true rfl, Nat.le_of_ble_eq_true rfl, Nat.le_of_ble_eq_true rfl⟩ rfl rfl (Nat.le_of_ble_eq_true rfl) dd_F_agrees_84 (fun H locs hR hS => ?_)
        refine lv_pop hx hb dd_F_agrees_87 rfl ?_
        obtain ⟨v11, qv11, hm⟩ := ss_bind hm
        refine lv_iinc (v := v11) (lv' := [(4, .int v11), (0, ss_v (ss_b G) this), (1, .int a1), (2, .int a2), (3, .int v7)]) hx hb dd_F_agrees_88 hl (k := 4) rfl (ss_inc (by decide) qv11) (by decide) rfl (fun ls hl => ?_)
        refine lv_goto (tgt := 33) hx hb dd_F_agrees_91 (by decide) ?_
        exact ih_33 v11 h10 _ _ _ (hz1_33 _ (ss_some hm)) hR hS (lv_sub hl [1, 2, 3, 4, 0] rfl)
      refine lv_iload hx hb dd_F_agrees_33 (lv_at hl 4 rfl) ?_
      refine lv_iload_n hx hb dd_F_agrees_35 rfl (lv_at hl 3 rfl) ?_
      refine lv_icmp_gt (tgt := 94) hx hb dd_F_agrees_36 (by decide) (fun c12 => ?_) (fun c12 => ?_)
      · have hm := ss_ift hm c12
        exact X_33_94 h_33 _ _ _ (hz2_33 _ (ss_some hm)) hR hS (lv_sub hl [] rfl)
      · have hm := ss_iff hm c12
        refine ss_aload_n hx hb dd_F_agrees_39 rfl (lv_at hl 0 rfl) ?_
        refine lv_iload hx hb dd_F_agrees_40 (lv_at hl 4 rfl) ?_
        obtain ⟨v13, qv13, hm⟩ := ss_bind hm
        refine ss_cV 0 0 (As := [.int x4_33]) hC hK hR hS hl.1 (cc_F_isAsNoted l G N _ _ _ _ qv13) km_F_129 (ck_F_isAsNoted qv13) ⟨Nat.le_of_ble_eq_true rfl, Nat.le_of_ble_eq_true rfl⟩ ⟨Nat.le_of_ble_eq_true rfl, Nat.le_of_ble_eq_true rfl, Nat.le_of_ble_eq_true rfl, Nat.le_of_ble_eq_true rfl⟩ rfl rfl (Nat.le_of_ble_eq_true rfl) dd_F_agrees_42 (fun H locs hR hS => ?_)
        refine lv_if_ne (tgt := 50) hx hb dd_F_agrees_45 (by decide) (fun c14 => ?_) (fun c14 => ?_)
        · have hm := ss_iff hm c14
          refine lv_iload hx hb dd_F_agrees_50 (lv_at hl 4 rfl) ?_
          refine lv_iload_n hx hb dd_F_agrees_52 rfl (lv_at hl 2 rfl) ?_
          refine lv_icmp_ne (tgt := 80) hx hb dd_F_agrees_53 (by decide) (fun c15 => ?_) (fun c15 => ?_)
          · have hm := ss_iff hm c15
            exact J_80 x4_33 h_33 _ _ _ hm hR hS hl
          · have hm := ss_ift hm c15
            refine ss_aload_n hx hb dd_F_agrees_56 rfl (lv_at hl 0 rfl) ?_
            obtain ⟨r16, qr16, hm⟩ := ss_bind hm
            refine ss_getr hC hK hR kf_F_27 rfl qr16 dd_F_agrees_57 ?_
            obtain ⟨r17, qr17, hm⟩ := ss_bind hm
            refine ss_getr hC hK hR kf_F_62 rfl qr17 dd_F_agrees_60 ?_
            obtain ⟨r18, qr18, hm⟩ := ss_bind hm
            refine ss_getr hC hK hR kf_F_63 rfl qr18 dd_F_agrees_63 ?_
            refine lv_iconst (v := 0) hx hb dd_F_agrees_66 (by decide) ?_
            refine ss_aload_n hx hb dd_F_agrees_67 rfl (lv_at hl 0 rfl) ?_
            obtain ⟨r19, qr19, hm⟩ := ss_bind hm
            refine ss_getr hC hK hR kf_F_11 rfl qr19 dd_F_agrees_68 ?_
            refine lv_iload_n hx hb dd_F_agrees_71 rfl (lv_at hl 1 rfl) ?_
            refine lv_bipush (v := 8) hx hb dd_F_agrees_72 (by decide) ?_
            refine lv_imul hx hb dd_F_agrees_74 ?_
            refine lv_bipush (v := 8) hx hb dd_F_agrees_75 (by decide) ?_
            obtain ⟨h20, qh20, hm⟩ := ss_bind hm
            refine ss_copy hC hK hR hS hl.1 kj_F_89 kj_ac_n kj_ac_s kj_sys qh20 (Nat.le_of_ble_eq_true rfl) (Nat.le_of_ble_eq_true rfl) (by decide) dd_F_agrees_77 (fun H locs hR hS => ?_)
            exact J_80 x4_33 h20 _ _ _ hm hR hS hl
        · have hm := ss_ift hm c14
          exact X_33_48 h_33 _ _ _ (hz2_33 _ (ss_some hm)) hR hS (lv_sub hl [] rfl)
  exact L_33 N (0 : Int32) h6 _ _ _ he_33 hR hS (lv_sub hl [2, 3, 4, 1, 0] rfl)
theorem dd_F_judge_0 : decode bb_F_judge 0 = .ok (.iconst 0, 1) := by decide +kernel
theorem dd_F_judge_1 : decode bb_F_judge 1 = .ok (.istore_n 3, 1) := by decide +kernel
theorem dd_F_judge_2 : decode bb_F_judge 2 = .ok (.iload_n 3, 1) := by decide +kernel
theorem dd_F_judge_3 : decode bb_F_judge 3 = .ok (.bipush 7, 2) := by decide +kernel
theorem dd_F_judge_5 : decode bb_F_judge 5 = .ok (.if_icmp .ge 34, 3) := by decide +kernel
theorem dd_F_judge_8 : decode bb_F_judge 8 = .ok (.aload_n 0, 1) := by decide +kernel
theorem dd_F_judge_9 : decode bb_F_judge 9 = .ok (.getfield 15, 3) := by decide +kernel
theorem dd_F_judge_12 : decode bb_F_judge 12 = .ok (.iload_n 3, 1) := by decide +kernel
theorem dd_F_judge_13 : decode bb_F_judge 13 = .ok (.iload_n 3, 1) := by decide +kernel
theorem dd_F_judge_14 : decode bb_F_judge 14 = .ok (.iload_n 1, 1) := by decide +kernel
theorem dd_F_judge_15 : decode bb_F_judge 15 = .ok (.if_icmp .gt 16, 3) := by decide +kernel
theorem dd_F_judge_18 : decode bb_F_judge 18 = .ok (.aload_n 0, 1) := by decide +kernel
theorem dd_F_judge_19 : decode bb_F_judge 19 = .ok (.iload_n 3, 1) := by decide +kernel
theorem dd_F_judge_20 : decode bb_F_judge 20 = .ok (.iload_n 2, 1) := by decide +kernel
theorem dd_F_judge_21 : decode bb_F_judge 21 = .ok (.invokevirtual 120, 3) := by decide +kernel
theorem dd_F_judge_24 : decode bb_F_judge 24 = .ok (.ifCond .eq 7, 3) := by decide +kernel
theorem dd_F_judge_27 : decode bb_F_judge 27 = .ok (.iconst 1, 1) := by decide +kernel
theorem dd_F_judge_28 : decode bb_F_judge 28 = .ok (.goto 4, 3) := by decide +kernel
theorem dd_F_judge_31 : decode bb_F_judge 31 = .ok (.iconst 0, 1) := by decide +kernel
theorem dd_F_judge_32 : decode bb_F_judge 32 = .ok (.bastore, 1) := by decide +kernel
theorem dd_F_judge_33 : decode bb_F_judge 33 = .ok (.iinc 3 1, 3) := by decide +kernel
theorem dd_F_judge_36 : decode bb_F_judge 36 = .ok (.goto (-34), 3) := by decide +kernel
theorem dd_F_judge_39 : decode bb_F_judge 39 = .ok (.return_, 1) := by decide +kernel
def mm_F_judge_j32 (N : Nat) (this : Option Nat) (a1 : Int32) (a2 : Int32) (x3_32 : Int32) (s0_32 : Option Nat) (s1_32 : Int32) (s2_32 : Int32) (h_32 : ss_Hp) : Option ((Int32 × ss_Hp) ⊕ ss_Hp) :=
  (ss_ui h_32 s0_32 22 s1_32 (vp_nar .boolean s2_32)).bind fun h1 =>
  (some (x3_32 + (1 : Int32))).bind fun v2 =>
  some (.inl (v2, h1))
def mm_F_judge_j31 (N : Nat) (this : Option Nat) (a1 : Int32) (a2 : Int32) (x3_31 : Int32) (s0_31 : Option Nat) (s1_31 : Int32) (h_31 : ss_Hp) : Option ((Int32 × ss_Hp) ⊕ ss_Hp) :=
  mm_F_judge_j32 N this a1 a2 x3_31 s0_31 s1_31 (0 : Int32) h_31
def mm_F_judge_b2 (N : Nat) (this : Option Nat) (a1 : Int32) (a2 : Int32) (st : Int32 × ss_Hp) : Option ((Int32 × ss_Hp) ⊕ ss_Hp) :=
  match st with
  | (x3_2, h_2) =>
    if (7 : Int32) ≤ x3_2 then
      some (.inr h_2)
    else
      (ss_gr h_2 this 9 4).bind fun r4 =>
      if a1 < x3_2 then
        mm_F_judge_j31 N this a1 a2 x3_2 r4 x3_2 h_2
      else
        ss_b2 (mm_F_agrees N this x3_2 a2 h_2) fun v6 h7 =>
        if v6 = 0 then
          mm_F_judge_j31 N this a1 a2 x3_2 r4 x3_2 h7
        else
          mm_F_judge_j32 N this a1 a2 x3_2 r4 x3_2 (1 : Int32) h7
def mm_F_judge (N : Nat) (this : Option Nat) (a1 : Int32) (a2 : Int32) (h : ss_Hp) : Option ss_Hp :=
  if ss_is h this 9 = true then
    (ss_lp (mm_F_judge_b2 N this a1 a2) N ((0 : Int32), h)).bind fun h_2_39 =>
    some h_2_39
  else none
abbrev ww_F_judge (p : Program) (l : Launch) (e : Env) (s : State) (m : MethodId) (below : List Frame) (meth : Method) (c : Code) (G : ss_G) (this : Option Nat) (a1 : Int32) (a2 : Int32) (h : ss_Hp) (hh : ss_Hp) (H : Heap) (locs : List Loc) (k n : Nat) (g : JFrame) : Prop := W p l e (headSpec (ss_w yy_F_judge bb_F_judge 4 none) ({ frames := 6, cells := 0, slots := 0, locals := 172 })).room s m ([ss_v (ss_b G) this, .int a1, .int a2] : List Value).toArray below meth c H locs k n (MQ below (ss_Qc G none hh) ([ss_v (ss_b G) this, .int a1, .int a2] : List Value).toArray s 0 0 (ss_A G)) g
theorem ck_F_judge {N : Nat} {this : Option Nat} {a1 : Int32} {a2 : Int32} {h : ss_Hp} {res : ss_Hp} (hm : mm_F_judge N this a1 a2 h = some res) : ss_is h this 9 = true := (ss_chk hm).1
set_option maxHeartbeats 4000000 in
set_option maxRecDepth 100000 in
theorem cc_F_judge (l : Launch) (G : ss_G) (N : Nat) (this : Option Nat) (a1 : Int32) (a2 : Int32) (h : ss_Hp) (hh : ss_Hp) (hm : mm_F_judge N this a1 a2 h = some hh) : ss_Ct l G yy_F_judge bb_F_judge 4 none ({ frames := 6, cells := 0, slots := 0, locals := 172 }) [ss_v (ss_b G) this, .int a1, .int a2] h none hh := by
  obtain ⟨hck, hm⟩ := ss_chk hm
  refine Met.ofW (cc := bb_F_judge) (maxL := 4) (ret := none) (by decide) rfl ?_
  intro p e s m args below meth c s₁ B hml hv
  obtain ⟨rfl, hR, hK⟩ := hv
  have hC : CallFix p m c bb_F_judge 4 s _ lw_g sR_9 := ⟨B.exec, B.bytes, hml, findClass_of_methodNamed B.named, fun w hw => atoms_spec (ws := ss_w yy_F_judge bb_F_judge 4 none) B.pre w (List.mem_cons_of_mem _ hw)⟩
  have hx := hC.1
  have hb := hC.2.1
  have hr := B.returns
  have hlocks := B.notSynchronized
  have hS : va_S (ss_A G) s.heap s.heap [] := va_S.rf
  have hl := lv_entry ([ss_v (ss_b G) this, .int a1, .int a2]) (n := 4) (by simp [lg_sl, ss_v_cat, ss_cat_i, ss_cat_l, ss_cat_r])
  rw [lg_entry_eq]
  generalize (lg_sl ([ss_v (ss_b G) this, .int a1, .int a2]) ++ List.replicate (4 - (lg_sl ([ss_v (ss_b G) this, .int a1, .int a2])).length) Slot.unset).toArray = ls at hl ⊢
  have hl : lv_has ls 4 [(0, ss_v (ss_b G) this), (1, .int a1), (2, .int a2)] := by simpa [lv_args, ss_v_cat, ss_cat_i, ss_cat_l, ss_cat_r] using hl
  refine lv_iconst (v := 0) hx hb dd_F_judge_0 (by decide) ?_
  refine lv_istore_n (lv' := [(3, .int (0 : Int32)), (0, ss_v (ss_b G) this), (1, .int a1), (2, .int a2)]) hx hb dd_F_judge_1 rfl hl (by decide) rfl (fun ls hl => ?_)
  obtain ⟨e_2, he_2, hm⟩ := ss_bind hm
  have X_2_39 : ∀  (h_2_39 : ss_Hp) (H : Heap) (locs : List Loc) (ls : Array Slot), e_2 = h_2_39 → ss_R G h_2_39 H → va_S (ss_A G) s.heap H locs → lv_has ls 4 [] → ww_F_judge p l e s m below meth c G this a1 a2 h hh  H locs 0 0 (F0 m 39 ls []) := by
    intro h_2_39 H locs ls hq hR hS hl
    rw [hq] at hm
    exact ss_vret hC hr hlocks hR hS hm dd_F_judge_39
  have L_2 : ∀ (n : Nat) (x3_2 : Int32) (h_2 : ss_Hp) (H : Heap) (locs : List Loc) (ls : Array Slot), ss_lp (mm_F_judge_b2 N this a1 a2) n (x3_2, h_2) = some e_2 → ss_R G h_2 H → va_S (ss_A G) s.heap H locs → lv_has ls 4 [(0, ss_v (ss_b G) this), (1, .int a1), (2, .int a2), (3, .int x3_2)] → ww_F_judge p l e s m below meth c G this a1 a2 h hh  H locs 0 0 (F0 m 2 ls []) := by
    intro n
    induction n with
    | zero => intro x3_2 h_2 H locs ls hm; cases hm
    | succ n ih_2 =>
      intro x3_2 h_2 H locs ls hm hR hS hl
      obtain ⟨z_2, hm, hz1_2, hz2_2⟩ := ss_lps hm
      have J_32 : ∀ (x3_32 : Int32) (s0_32 : Option Nat) (s1_32 : Int32) (s2_32 : Int32) (h_32 : ss_Hp) (H : Heap) (locs : List Loc) (ls : Array Slot), mm_F_judge_j32 N this a1 a2 x3_32 s0_32 s1_32 s2_32 h_32 = some z_2 → ss_R G h_32 H → va_S (ss_A G) s.heap H locs → lv_has ls 4 [(0, ss_v (ss_b G) this), (1, .int a1), (2, .int a2), (3, .int x3_32)] → ww_F_judge p l e s m below meth c G this a1 a2 h hh  H locs 0 0 (F0 m 32 ls [.int s2_32, .int s1_32, ss_v (ss_b G) s0_32]) := by
        intro x3_32 s0_32 s1_32 s2_32 h_32 H locs ls hm hR hS hl
        obtain ⟨h1, qh1, hm⟩ := ss_bind hm
        refine ss_zast hC hK hR hS qh1 dd_F_judge_32 (fun H locs hR hS => ?_)
        obtain ⟨v2, qv2, hm⟩ := ss_bind hm
        refine lv_iinc (v := v2) (lv' := [(3, .int v2), (0, ss_v (ss_b G) this), (1, .int a1), (2, .int a2)]) hx hb dd_F_judge_33 hl (k := 3) rfl (ss_inc (by decide) qv2) (by decide) rfl (fun ls hl => ?_)
        refine lv_goto (tgt := 2) hx hb dd_F_judge_36 (by decide) ?_
        exact ih_2 v2 h1 _ _ _ (hz1_2 _ (ss_some hm)) hR hS (lv_sub hl [1, 2, 3, 0] rfl)
      have J_31 : ∀ (x3_31 : Int32) (s0_31 : Option Nat) (s1_31 : Int32) (h_31 : ss_Hp) (H : Heap) (locs : List Loc) (ls : Array Slot), mm_F_judge_j31 N this a1 a2 x3_31 s0_31 s1_31 h_31 = some z_2 → ss_R G h_31 H → va_S (ss_A G) s.heap H locs → lv_has ls 4 [(0, ss_v (ss_b G) this), (1, .int a1), (2, .int a2), (3, .int x3_31)] → ww_F_judge p l e s m below meth c G this a1 a2 h hh  H locs 0 0 (F0 m 31 ls [.int s1_31, ss_v (ss_b G) s0_31]) := by
        intro x3_31 s0_31 s1_31 h_31 H locs ls hm hR hS hl
        refine lv_iconst (v := 0) hx hb dd_F_judge_31 (by decide) ?_
        exact J_32 x3_31 s0_31 s1_31 (0 : Int32) h_31 _ _ _ hm hR hS hl
      refine lv_iload_n hx hb dd_F_judge_2 rfl (lv_at hl 3 rfl) ?_
      refine lv_bipush (v := 7) hx hb dd_F_judge_3 (by decide) ?_
      refine lv_icmp_ge (tgt := 39) hx hb dd_F_judge_5 (by decide) (fun c3 => ?_) (fun c3 => ?_)
      · have hm := ss_ift hm c3
        exact X_2_39 h_2 _ _ _ (hz2_2 _ (ss_some hm)) hR hS (lv_sub hl [] rfl)
      · have hm := ss_iff hm c3
        refine ss_aload_n hx hb dd_F_judge_8 rfl (lv_at hl 0 rfl) ?_
        obtain ⟨r4, qr4, hm⟩ := ss_bind hm
        refine ss_getr hC hK hR kf_F_15 rfl qr4 dd_F_judge_9 ?_
        refine lv_iload_n hx hb dd_F_judge_12 rfl (lv_at hl 3 rfl) ?_
        refine lv_iload_n hx hb dd_F_judge_13 rfl (lv_at hl 3 rfl) ?_
        refine lv_iload_n hx hb dd_F_judge_14 rfl (lv_at hl 1 rfl) ?_
        refine lv_icmp_gt (tgt := 31) hx hb dd_F_judge_15 (by decide) (fun c5 => ?_) (fun c5 => ?_)
        · have hm := ss_ift hm c5
          exact J_31 x3_2 r4 x3_2 h_2 _ _ _ hm hR hS hl
        · have hm := ss_iff hm c5
          refine ss_aload_n hx hb dd_F_judge_18 rfl (lv_at hl 0 rfl) ?_
          refine lv_iload_n hx hb dd_F_judge_19 rfl (lv_at hl 3 rfl) ?_
          refine lv_iload_n hx hb dd_F_judge_20 rfl (lv_at hl 2 rfl) ?_
          obtain ⟨v6, h7, qh7, hm⟩ := ss_bind2 hm
          refine ss_cV 0 0 (As := [.int x3_2, .int a2]) hC hK hR hS hl.1 (cc_F_agrees l G N _ _ _ _ _ _ qh7) km_F_120 (ck_F_agrees qh7) ⟨Nat.le_of_ble_eq_true rfl, Nat.le_of_ble_eq_true rfl⟩ ⟨Nat.le_of_ble_eq_true rfl, Nat.le_of_ble_eq_true rfl, Nat.le_of_ble_eq_true rfl, Nat.le_of_ble_eq_true rfl⟩ rfl rfl (by simp [ss_v_cat, ss_cat_i, ss_cat_l, ss_cat_r]) dd_F_judge_21 (fun H locs hR hS => ?_)
          refine lv_if_eq (tgt := 31) hx hb dd_F_judge_24 (by decide) (fun c8 => ?_) (fun c8 => ?_)
          · have hm := ss_ift hm c8
            exact J_31 x3_2 r4 x3_2 h7 _ _ _ hm hR hS hl
          · have hm := ss_iff hm c8
            refine lv_iconst (v := 1) hx hb dd_F_judge_27 (by decide) ?_
            refine lv_goto (tgt := 32) hx hb dd_F_judge_28 (by decide) ?_
            exact J_32 x3_2 r4 x3_2 (1 : Int32) h7 _ _ _ hm hR hS hl
  exact L_2 N (0 : Int32) h _ _ _ he_2 hR hS (lv_sub hl [1, 2, 3, 0] rfl)
theorem dd_F_rightCount_0 : decode bb_F_rightCount 0 = .ok (.iconst 0, 1) := by decide +kernel
theorem dd_F_rightCount_1 : decode bb_F_rightCount 1 = .ok (.istore_n 1, 1) := by decide +kernel
theorem dd_F_rightCount_2 : decode bb_F_rightCount 2 = .ok (.iconst 0, 1) := by decide +kernel
theorem dd_F_rightCount_3 : decode bb_F_rightCount 3 = .ok (.istore_n 2, 1) := by decide +kernel
theorem dd_F_rightCount_4 : decode bb_F_rightCount 4 = .ok (.iload_n 2, 1) := by decide +kernel
theorem dd_F_rightCount_5 : decode bb_F_rightCount 5 = .ok (.bipush 7, 2) := by decide +kernel
theorem dd_F_rightCount_7 : decode bb_F_rightCount 7 = .ok (.if_icmp .ge 26, 3) := by decide +kernel
theorem dd_F_rightCount_10 : decode bb_F_rightCount 10 = .ok (.iload_n 1, 1) := by decide +kernel
theorem dd_F_rightCount_11 : decode bb_F_rightCount 11 = .ok (.aload_n 0, 1) := by decide +kernel
theorem dd_F_rightCount_12 : decode bb_F_rightCount 12 = .ok (.getfield 15, 3) := by decide +kernel
theorem dd_F_rightCount_15 : decode bb_F_rightCount 15 = .ok (.iload_n 2, 1) := by decide +kernel
theorem dd_F_rightCount_16 : decode bb_F_rightCount 16 = .ok (.baload, 1) := by decide +kernel
theorem dd_F_rightCount_17 : decode bb_F_rightCount 17 = .ok (.ifCond .eq 7, 3) := by decide +kernel
theorem dd_F_rightCount_20 : decode bb_F_rightCount 20 = .ok (.iconst 1, 1) := by decide +kernel
theorem dd_F_rightCount_21 : decode bb_F_rightCount 21 = .ok (.goto 4, 3) := by decide +kernel
theorem dd_F_rightCount_24 : decode bb_F_rightCount 24 = .ok (.iconst 0, 1) := by decide +kernel
theorem dd_F_rightCount_25 : decode bb_F_rightCount 25 = .ok (.iadd, 1) := by decide +kernel
theorem dd_F_rightCount_26 : decode bb_F_rightCount 26 = .ok (.istore_n 1, 1) := by decide +kernel
theorem dd_F_rightCount_27 : decode bb_F_rightCount 27 = .ok (.iinc 2 1, 3) := by decide +kernel
theorem dd_F_rightCount_30 : decode bb_F_rightCount 30 = .ok (.goto (-26), 3) := by decide +kernel
theorem dd_F_rightCount_33 : decode bb_F_rightCount 33 = .ok (.iload_n 1, 1) := by decide +kernel
theorem dd_F_rightCount_34 : decode bb_F_rightCount 34 = .ok (.ireturn, 1) := by decide +kernel
def mm_F_rightCount_j25 (N : Nat) (this : Option Nat) (h : ss_Hp) (x2_25 : Int32) (s0_25 : Int32) (s1_25 : Int32) : Option ((Int32 × Int32) ⊕ Int32) :=
  (some (s0_25 + s1_25)).bind fun v1 =>
  (some (x2_25 + (1 : Int32))).bind fun v2 =>
  some (.inl (v1, v2))
def mm_F_rightCount_b4 (N : Nat) (this : Option Nat) (h : ss_Hp) (st : Int32 × Int32) : Option ((Int32 × Int32) ⊕ Int32) :=
  match st with
  | (x1_4, x2_4) =>
    if (7 : Int32) ≤ x2_4 then
      some (.inr x1_4)
    else
      (ss_gr h this 9 4).bind fun r4 =>
      (ss_ai h r4 22 x2_4).bind fun v5 =>
      if v5 = 0 then
        mm_F_rightCount_j25 N this h x2_4 x1_4 (0 : Int32)
      else
        mm_F_rightCount_j25 N this h x2_4 x1_4 (1 : Int32)
def mm_F_rightCount (N : Nat) (this : Option Nat) (h : ss_Hp) : Option Int32 :=
  if ss_is h this 9 = true then
    (ss_lp (mm_F_rightCount_b4 N this h) N ((0 : Int32), (0 : Int32))).bind fun y1_4_33 =>
    some y1_4_33
  else none
abbrev ww_F_rightCount (p : Program) (l : Launch) (e : Env) (s : State) (m : MethodId) (below : List Frame) (meth : Method) (c : Code) (G : ss_G) (this : Option Nat) (h : ss_Hp) (rr : Int32) (H : Heap) (locs : List Loc) (k n : Nat) (g : JFrame) : Prop := W p l e (headSpec (ss_w yy_F_rightCount bb_F_rightCount 3 (some (.int))) ({ frames := 0, cells := 0, slots := 0, locals := 0 })).room s m ([ss_v (ss_b G) this] : List Value).toArray below meth c H locs k n (MQ below (ss_Qc G (some (.int rr)) h) ([ss_v (ss_b G) this] : List Value).toArray s 0 0 (ss_A G)) g
theorem ck_F_rightCount {N : Nat} {this : Option Nat} {h : ss_Hp} {res : Int32} (hm : mm_F_rightCount N this h = some res) : ss_is h this 9 = true := (ss_chk hm).1
set_option maxHeartbeats 4000000 in
set_option maxRecDepth 100000 in
theorem cc_F_rightCount (l : Launch) (G : ss_G) (N : Nat) (this : Option Nat) (h : ss_Hp) (rr : Int32) (hm : mm_F_rightCount N this h = some rr) : ss_Ct l G yy_F_rightCount bb_F_rightCount 3 (some (.int)) ({ frames := 0, cells := 0, slots := 0, locals := 0 }) [ss_v (ss_b G) this] h (some (.int rr)) h := by
  obtain ⟨hck, hm⟩ := ss_chk hm
  refine Met.ofW (cc := bb_F_rightCount) (maxL := 3) (ret := (some (.int))) (by decide) rfl ?_
  intro p e s m args below meth c s₁ B hml hv
  obtain ⟨rfl, hR, hK⟩ := hv
  have hC : CallFix p m c bb_F_rightCount 3 s _ lw_g sR_9 := ⟨B.exec, B.bytes, hml, findClass_of_methodNamed B.named, fun w hw => atoms_spec (ws := ss_w yy_F_rightCount bb_F_rightCount 3 (some (.int))) B.pre w (List.mem_cons_of_mem _ hw)⟩
  have hx := hC.1
  have hb := hC.2.1
  have hr := B.returns
  have hlocks := B.notSynchronized
  have hS : va_S (ss_A G) s.heap s.heap [] := va_S.rf
  have hl := lv_entry ([ss_v (ss_b G) this]) (n := 3) (by simp [lg_sl, ss_v_cat, ss_cat_i, ss_cat_l, ss_cat_r])
  rw [lg_entry_eq]
  generalize (lg_sl ([ss_v (ss_b G) this]) ++ List.replicate (3 - (lg_sl ([ss_v (ss_b G) this])).length) Slot.unset).toArray = ls at hl ⊢
  have hl : lv_has ls 3 [(0, ss_v (ss_b G) this)] := by simpa [lv_args, ss_v_cat, ss_cat_i, ss_cat_l, ss_cat_r] using hl
  refine lv_iconst (v := 0) hx hb dd_F_rightCount_0 (by decide) ?_
  refine lv_istore_n (lv' := [(1, .int (0 : Int32)), (0, ss_v (ss_b G) this)]) hx hb dd_F_rightCount_1 rfl hl (by decide) (by simp only [List.filter_cons, ss_v_cat]; rfl) (fun ls hl => ?_)
  refine lv_iconst (v := 0) hx hb dd_F_rightCount_2 (by decide) ?_
  refine lv_istore_n (lv' := [(2, .int (0 : Int32)), (1, .int (0 : Int32)), (0, ss_v (ss_b G) this)]) hx hb dd_F_rightCount_3 rfl hl (by decide) rfl (fun ls hl => ?_)
  obtain ⟨e_4, he_4, hm⟩ := ss_bind hm
  have X_4_33 : ∀ (y1_4_33 : Int32) (H : Heap) (locs : List Loc) (ls : Array Slot), e_4 = y1_4_33 → ss_R G h H → va_S (ss_A G) s.heap H locs → lv_has ls 3 [(1, .int y1_4_33)] → ww_F_rightCount p l e s m below meth c G this h rr  H locs 0 0 (F0 m 33 ls []) := by
    intro y1_4_33 H locs ls hq hR hS hl
    rw [hq] at hm
    refine lv_iload_n hx hb dd_F_rightCount_33 rfl (lv_at hl 0 rfl) ?_
    exact ss_iret hC hr hlocks hR hS (ss_with _ hm) dd_F_rightCount_34
  have L_4 : ∀ (n : Nat) (x1_4 : Int32) (x2_4 : Int32) (H : Heap) (locs : List Loc) (ls : Array Slot), ss_lp (mm_F_rightCount_b4 N this h) n (x1_4, x2_4) = some e_4 → ss_R G h H → va_S (ss_A G) s.heap H locs → lv_has ls 3 [(0, ss_v (ss_b G) this), (1, .int x1_4), (2, .int x2_4)] → ww_F_rightCount p l e s m below meth c G this h rr  H locs 0 0 (F0 m 4 ls []) := by
    intro n
    induction n with
    | zero => intro x1_4 x2_4 H locs ls hm; cases hm
    | succ n ih_4 =>
      intro x1_4 x2_4 H locs ls hm hR hS hl
      obtain ⟨z_4, hm, hz1_4, hz2_4⟩ := ss_lps hm
      have J_25 : ∀ (x2_25 : Int32) (s0_25 : Int32) (s1_25 : Int32) (H : Heap) (locs : List Loc) (ls : Array Slot), mm_F_rightCount_j25 N this h x2_25 s0_25 s1_25 = some z_4 → ss_R G h H → va_S (ss_A G) s.heap H locs → lv_has ls 3 [(0, ss_v (ss_b G) this), (2, .int x2_25)] → ww_F_rightCount p l e s m below meth c G this h rr  H locs 0 0 (F0 m 25 ls [.int s1_25, .int s0_25]) := by
        intro x2_25 s0_25 s1_25 H locs ls hm hR hS hl
        refine lv_iadd hx hb dd_F_rightCount_25 ?_
        obtain ⟨v1, qv1, hm⟩ := ss_bind hm
        refine ss_topi qv1 ?_
        refine lv_istore_n (lv' := [(1, .int v1), (0, ss_v (ss_b G) this), (2, .int x2_25)]) hx hb dd_F_rightCount_26 rfl hl (by decide) (by simp only [List.filter_cons, ss_v_cat]; rfl) (fun ls hl => ?_)
        obtain ⟨v2, qv2, hm⟩ := ss_bind hm
        refine lv_iinc (v := v2) (lv' := [(2, .int v2), (1, .int v1), (0, ss_v (ss_b G) this)]) hx hb dd_F_rightCount_27 hl (k := 2) rfl (ss_inc (by decide) qv2) (by decide) rfl (fun ls hl => ?_)
        refine lv_goto (tgt := 4) hx hb dd_F_rightCount_30 (by decide) ?_
        exact ih_4 v1 v2  _ _ _ (hz1_4 _ (ss_some hm)) hR hS (lv_sub hl [2, 1, 0] rfl)
      refine lv_iload_n hx hb dd_F_rightCount_4 rfl (lv_at hl 2 rfl) ?_
      refine lv_bipush (v := 7) hx hb dd_F_rightCount_5 (by decide) ?_
      refine lv_icmp_ge (tgt := 33) hx hb dd_F_rightCount_7 (by decide) (fun c3 => ?_) (fun c3 => ?_)
      · have hm := ss_ift hm c3
        exact X_4_33 x1_4  _ _ _ (hz2_4 _ (ss_some hm)) hR hS (lv_sub hl [1] rfl)
      · have hm := ss_iff hm c3
        refine lv_iload_n hx hb dd_F_rightCount_10 rfl (lv_at hl 1 rfl) ?_
        refine ss_aload_n hx hb dd_F_rightCount_11 rfl (lv_at hl 0 rfl) ?_
        obtain ⟨r4, qr4, hm⟩ := ss_bind hm
        refine ss_getr hC hK hR kf_F_15 rfl qr4 dd_F_rightCount_12 ?_
        refine lv_iload_n hx hb dd_F_rightCount_15 rfl (lv_at hl 2 rfl) ?_
        obtain ⟨v5, qv5, hm⟩ := ss_bind hm
        refine ss_zald hC hK hR qv5 dd_F_rightCount_16 ?_
        refine lv_if_eq (tgt := 24) hx hb dd_F_rightCount_17 (by decide) (fun c6 => ?_) (fun c6 => ?_)
        · have hm := ss_ift hm c6
          refine lv_iconst (v := 0) hx hb dd_F_rightCount_24 (by decide) ?_
          exact J_25 x2_4 x1_4 (0 : Int32)  _ _ _ hm hR hS (lv_sub hl [0, 2] rfl)
        · have hm := ss_iff hm c6
          refine lv_iconst (v := 1) hx hb dd_F_rightCount_20 (by decide) ?_
          refine lv_goto (tgt := 25) hx hb dd_F_rightCount_21 (by decide) ?_
          exact J_25 x2_4 x1_4 (1 : Int32)  _ _ _ hm hR hS (lv_sub hl [0, 2] rfl)
  exact L_4 N (0 : Int32) (0 : Int32) _ _ _ he_4 hR hS (lv_sub hl [2, 1, 0] rfl)
theorem dd_F_firstRight_0 : decode bb_F_firstRight 0 = .ok (.iconst 0, 1) := by decide +kernel
theorem dd_F_firstRight_1 : decode bb_F_firstRight 1 = .ok (.istore_n 1, 1) := by decide +kernel
theorem dd_F_firstRight_2 : decode bb_F_firstRight 2 = .ok (.iload_n 1, 1) := by decide +kernel
theorem dd_F_firstRight_3 : decode bb_F_firstRight 3 = .ok (.bipush 7, 2) := by decide +kernel
theorem dd_F_firstRight_5 : decode bb_F_firstRight 5 = .ok (.if_icmp .ge 22, 3) := by decide +kernel
theorem dd_F_firstRight_8 : decode bb_F_firstRight 8 = .ok (.aload_n 0, 1) := by decide +kernel
theorem dd_F_firstRight_9 : decode bb_F_firstRight 9 = .ok (.getfield 15, 3) := by decide +kernel
theorem dd_F_firstRight_12 : decode bb_F_firstRight 12 = .ok (.iload_n 1, 1) := by decide +kernel
theorem dd_F_firstRight_13 : decode bb_F_firstRight 13 = .ok (.baload, 1) := by decide +kernel
theorem dd_F_firstRight_14 : decode bb_F_firstRight 14 = .ok (.ifCond .eq 7, 3) := by decide +kernel
theorem dd_F_firstRight_17 : decode bb_F_firstRight 17 = .ok (.iload_n 1, 1) := by decide +kernel
theorem dd_F_firstRight_18 : decode bb_F_firstRight 18 = .ok (.iconst 1, 1) := by decide +kernel
theorem dd_F_firstRight_19 : decode bb_F_firstRight 19 = .ok (.isub, 1) := by decide +kernel
theorem dd_F_firstRight_20 : decode bb_F_firstRight 20 = .ok (.ireturn, 1) := by decide +kernel
theorem dd_F_firstRight_21 : decode bb_F_firstRight 21 = .ok (.iinc 1 1, 3) := by decide +kernel
theorem dd_F_firstRight_24 : decode bb_F_firstRight 24 = .ok (.goto (-22), 3) := by decide +kernel
theorem dd_F_firstRight_27 : decode bb_F_firstRight 27 = .ok (.bipush (-2), 2) := by decide +kernel
theorem dd_F_firstRight_29 : decode bb_F_firstRight 29 = .ok (.ireturn, 1) := by decide +kernel
def mm_F_firstRight_b2 (N : Nat) (this : Option Nat) (h : ss_Hp) (st : Int32) : Option (Int32 ⊕ (Unit ⊕ Int32)) :=
  match st with
  | x1_2 =>
    if (7 : Int32) ≤ x1_2 then
      some (.inr (.inl ()))
    else
      (ss_gr h this 9 4).bind fun r2 =>
      (ss_ai h r2 22 x1_2).bind fun v3 =>
      if v3 = 0 then
        (some (x1_2 + (1 : Int32))).bind fun v5 =>
        some (.inl v5)
      else
        some (.inr (.inr x1_2))
def mm_F_firstRight (N : Nat) (this : Option Nat) (h : ss_Hp) : Option Int32 :=
  if ss_is h this 9 = true then
    (ss_lp (mm_F_firstRight_b2 N this h) N (0 : Int32)).bind fun e_2 =>
    match e_2 with
    | (.inl ()) =>
      some (-2 : Int32)
    | (.inr y1_2_17) =>
      some (y1_2_17 - (1 : Int32))
  else none
abbrev ww_F_firstRight (p : Program) (l : Launch) (e : Env) (s : State) (m : MethodId) (below : List Frame) (meth : Method) (c : Code) (G : ss_G) (this : Option Nat) (h : ss_Hp) (rr : Int32) (H : Heap) (locs : List Loc) (k n : Nat) (g : JFrame) : Prop := W p l e (headSpec (ss_w yy_F_firstRight bb_F_firstRight 2 (some (.int))) ({ frames := 0, cells := 0, slots := 0, locals := 0 })).room s m ([ss_v (ss_b G) this] : List Value).toArray below meth c H locs k n (MQ below (ss_Qc G (some (.int rr)) h) ([ss_v (ss_b G) this] : List Value).toArray s 0 0 (ss_A G)) g
theorem ck_F_firstRight {N : Nat} {this : Option Nat} {h : ss_Hp} {res : Int32} (hm : mm_F_firstRight N this h = some res) : ss_is h this 9 = true := (ss_chk hm).1
set_option maxHeartbeats 4000000 in
set_option maxRecDepth 100000 in
theorem cc_F_firstRight (l : Launch) (G : ss_G) (N : Nat) (this : Option Nat) (h : ss_Hp) (rr : Int32) (hm : mm_F_firstRight N this h = some rr) : ss_Ct l G yy_F_firstRight bb_F_firstRight 2 (some (.int)) ({ frames := 0, cells := 0, slots := 0, locals := 0 }) [ss_v (ss_b G) this] h (some (.int rr)) h := by
  obtain ⟨hck, hm⟩ := ss_chk hm
  refine Met.ofW (cc := bb_F_firstRight) (maxL := 2) (ret := (some (.int))) (by decide) rfl ?_
  intro p e s m args below meth c s₁ B hml hv
  obtain ⟨rfl, hR, hK⟩ := hv
  have hC : CallFix p m c bb_F_firstRight 2 s _ lw_g sR_9 := ⟨B.exec, B.bytes, hml, findClass_of_methodNamed B.named, fun w hw => atoms_spec (ws := ss_w yy_F_firstRight bb_F_firstRight 2 (some (.int))) B.pre w (List.mem_cons_of_mem _ hw)⟩
  have hx := hC.1
  have hb := hC.2.1
  have hr := B.returns
  have hlocks := B.notSynchronized
  have hS : va_S (ss_A G) s.heap s.heap [] := va_S.rf
  have hl := lv_entry ([ss_v (ss_b G) this]) (n := 2) (by simp [lg_sl, ss_v_cat, ss_cat_i, ss_cat_l, ss_cat_r])
  rw [lg_entry_eq]
  generalize (lg_sl ([ss_v (ss_b G) this]) ++ List.replicate (2 - (lg_sl ([ss_v (ss_b G) this])).length) Slot.unset).toArray = ls at hl ⊢
  have hl : lv_has ls 2 [(0, ss_v (ss_b G) this)] := by simpa [lv_args, ss_v_cat, ss_cat_i, ss_cat_l, ss_cat_r] using hl
  refine lv_iconst (v := 0) hx hb dd_F_firstRight_0 (by decide) ?_
  refine lv_istore_n (lv' := [(1, .int (0 : Int32)), (0, ss_v (ss_b G) this)]) hx hb dd_F_firstRight_1 rfl hl (by decide) (by simp only [List.filter_cons, ss_v_cat]; rfl) (fun ls hl => ?_)
  obtain ⟨e_2, he_2, hm⟩ := ss_bind hm
  have X_2_27 : ∀  (H : Heap) (locs : List Loc) (ls : Array Slot), e_2 = (.inl ()) → ss_R G h H → va_S (ss_A G) s.heap H locs → lv_has ls 2 [] → ww_F_firstRight p l e s m below meth c G this h rr  H locs 0 0 (F0 m 27 ls []) := by
    intro  H locs ls hq hR hS hl
    rw [hq] at hm
    refine lv_bipush (v := -2) hx hb dd_F_firstRight_27 (by decide) ?_
    exact ss_iret hC hr hlocks hR hS (ss_with _ hm) dd_F_firstRight_29
  have X_2_17 : ∀ (y1_2_17 : Int32) (H : Heap) (locs : List Loc) (ls : Array Slot), e_2 = (.inr y1_2_17) → ss_R G h H → va_S (ss_A G) s.heap H locs → lv_has ls 2 [(1, .int y1_2_17)] → ww_F_firstRight p l e s m below meth c G this h rr  H locs 0 0 (F0 m 17 ls []) := by
    intro y1_2_17 H locs ls hq hR hS hl
    rw [hq] at hm
    refine lv_iload_n hx hb dd_F_firstRight_17 rfl (lv_at hl 0 rfl) ?_
    refine lv_iconst (v := 1) hx hb dd_F_firstRight_18 (by decide) ?_
    refine lv_isub hx hb dd_F_firstRight_19 ?_
    exact ss_iret hC hr hlocks hR hS (ss_with _ hm) dd_F_firstRight_20
  have L_2 : ∀ (n : Nat) (x1_2 : Int32) (H : Heap) (locs : List Loc) (ls : Array Slot), ss_lp (mm_F_firstRight_b2 N this h) n x1_2 = some e_2 → ss_R G h H → va_S (ss_A G) s.heap H locs → lv_has ls 2 [(0, ss_v (ss_b G) this), (1, .int x1_2)] → ww_F_firstRight p l e s m below meth c G this h rr  H locs 0 0 (F0 m 2 ls []) := by
    intro n
    induction n with
    | zero => intro x1_2 H locs ls hm; cases hm
    | succ n ih_2 =>
      intro x1_2 H locs ls hm hR hS hl
      obtain ⟨z_2, hm, hz1_2, hz2_2⟩ := ss_lps hm
      refine lv_iload_n hx hb dd_F_firstRight_2 rfl (lv_at hl 1 rfl) ?_
      refine lv_bipush (v := 7) hx hb dd_F_firstRight_3 (by decide) ?_
      refine lv_icmp_ge (tgt := 27) hx hb dd_F_firstRight_5 (by decide) (fun c1 => ?_) (fun c1 => ?_)
      · have hm := ss_ift hm c1
        exact X_2_27  _ _ _ (hz2_2 _ (ss_some hm)) hR hS (lv_sub hl [] rfl)
      · have hm := ss_iff hm c1
        refine ss_aload_n hx hb dd_F_firstRight_8 rfl (lv_at hl 0 rfl) ?_
        obtain ⟨r2, qr2, hm⟩ := ss_bind hm
        refine ss_getr hC hK hR kf_F_15 rfl qr2 dd_F_firstRight_9 ?_
        refine lv_iload_n hx hb dd_F_firstRight_12 rfl (lv_at hl 1 rfl) ?_
        obtain ⟨v3, qv3, hm⟩ := ss_bind hm
        refine ss_zald hC hK hR qv3 dd_F_firstRight_13 ?_
        refine lv_if_eq (tgt := 21) hx hb dd_F_firstRight_14 (by decide) (fun c4 => ?_) (fun c4 => ?_)
        · have hm := ss_ift hm c4
          obtain ⟨v5, qv5, hm⟩ := ss_bind hm
          refine lv_iinc (v := v5) (lv' := [(1, .int v5), (0, ss_v (ss_b G) this)]) hx hb dd_F_firstRight_21 hl (k := 1) rfl (ss_inc (by decide) qv5) (by decide) (by simp only [List.filter_cons, ss_v_cat]; rfl) (fun ls hl => ?_)
          refine lv_goto (tgt := 2) hx hb dd_F_firstRight_24 (by decide) ?_
          exact ih_2 v5  _ _ _ (hz1_2 _ (ss_some hm)) hR hS (lv_sub hl [1, 0] rfl)
        · have hm := ss_iff hm c4
          exact X_2_17 x1_2  _ _ _ (hz2_2 _ (ss_some hm)) hR hS (lv_sub hl [1] rfl)
  exact L_2 N (0 : Int32) _ _ _ he_2 hR hS (lv_sub hl [1, 0] rfl)
theorem dd_S_ruled_0 : decode bb_S_ruled 0 = .ok (.aload_n 0, 1) := by decide +kernel
theorem dd_S_ruled_1 : decode bb_S_ruled 1 = .ok (.getfield 41, 3) := by decide +kernel
theorem dd_S_ruled_4 : decode bb_S_ruled 4 = .ok (.getfield 58, 3) := by decide +kernel
theorem dd_S_ruled_7 : decode bb_S_ruled 7 = .ok (.getfield 169, 3) := by decide +kernel
theorem dd_S_ruled_10 : decode bb_S_ruled 10 = .ok (.ifCond .eq 12, 3) := by decide +kernel
theorem dd_S_ruled_13 : decode bb_S_ruled 13 = .ok (.iload_n 1, 1) := by decide +kernel
theorem dd_S_ruled_14 : decode bb_S_ruled 14 = .ok (.iconst 0, 1) := by decide +kernel
theorem dd_S_ruled_15 : decode bb_S_ruled 15 = .ok (.iconst 1, 1) := by decide +kernel
theorem dd_S_ruled_16 : decode bb_S_ruled 16 = .ok (.invokestatic 194, 3) := by decide +kernel
theorem dd_S_ruled_19 : decode bb_S_ruled 19 = .ok (.ifCond .ne 6, 3) := by decide +kernel
theorem dd_S_ruled_22 : decode bb_S_ruled 22 = .ok (.bipush (-3), 2) := by decide +kernel
theorem dd_S_ruled_24 : decode bb_S_ruled 24 = .ok (.ireturn, 1) := by decide +kernel
theorem dd_S_ruled_25 : decode bb_S_ruled 25 = .ok (.aload_n 0, 1) := by decide +kernel
theorem dd_S_ruled_26 : decode bb_S_ruled 26 = .ok (.getfield 74, 3) := by decide +kernel
theorem dd_S_ruled_29 : decode bb_S_ruled 29 = .ok (.aload_n 0, 1) := by decide +kernel
theorem dd_S_ruled_30 : decode bb_S_ruled 30 = .ok (.getfield 113, 3) := by decide +kernel
theorem dd_S_ruled_33 : decode bb_S_ruled 33 = .ok (.iconst 0, 1) := by decide +kernel
theorem dd_S_ruled_34 : decode bb_S_ruled 34 = .ok (.invokevirtual 277, 3) := by decide +kernel
theorem dd_S_ruled_37 : decode bb_S_ruled 37 = .ok (.iload_n 1, 1) := by decide +kernel
theorem dd_S_ruled_38 : decode bb_S_ruled 38 = .ok (.ifCond .ne 13, 3) := by decide +kernel
theorem dd_S_ruled_41 : decode bb_S_ruled 41 = .ok (.aload_n 0, 1) := by decide +kernel
theorem dd_S_ruled_42 : decode bb_S_ruled 42 = .ok (.getfield 74, 3) := by decide +kernel
theorem dd_S_ruled_45 : decode bb_S_ruled 45 = .ok (.invokevirtual 280, 3) := by decide +kernel
theorem dd_S_ruled_48 : decode bb_S_ruled 48 = .ok (.goto 10, 3) := by decide +kernel
theorem dd_S_ruled_51 : decode bb_S_ruled 51 = .ok (.aload_n 0, 1) := by decide +kernel
theorem dd_S_ruled_52 : decode bb_S_ruled 52 = .ok (.getfield 74, 3) := by decide +kernel
theorem dd_S_ruled_55 : decode bb_S_ruled 55 = .ok (.invokevirtual 283, 3) := by decide +kernel
theorem dd_S_ruled_58 : decode bb_S_ruled 58 = .ok (.ireturn, 1) := by decide +kernel
def mm_S_ruled_j22 (N : Nat) (this : Option Nat) (a1 : Int32) (h_22 : ss_Hp) : Option (Int32 × ss_Hp) :=
  some ((-3 : Int32), h_22)
def mm_S_ruled_j58 (N : Nat) (this : Option Nat) (a1 : Int32) (s0_58 : Int32) (h_58 : ss_Hp) : Option (Int32 × ss_Hp) :=
  some (s0_58, h_58)
def mm_S_ruled (N : Nat) (this : Option Nat) (a1 : Int32) (h : ss_Hp) : Option (Int32 × ss_Hp) :=
  if ss_is h this 11 = true then
    (ss_gr h this 11 4).bind fun r1 =>
    (ss_gr h r1 8 0).bind fun r2 =>
    (ss_gi h r2 5 0).bind fun v3 =>
    if v3 = 0 then
      mm_S_ruled_j22 N this a1 h
    else
      (mm_S_isWithin N a1 (0 : Int32) (1 : Int32)).bind fun v5 =>
      if v5 = 0 then
        mm_S_ruled_j22 N this a1 h
      else
        (ss_gr h this 11 8).bind fun r7 =>
        (ss_gi h this 11 0).bind fun v8 =>
        (mm_F_judge N r7 v8 (0 : Int32) h).bind fun h9 =>
        if a1 = 0 then
          (ss_gr h9 this 11 8).bind fun r13 =>
          (mm_F_rightCount N r13 h9).bind fun v14 =>
          mm_S_ruled_j58 N this a1 v14 h9
        else
          (ss_gr h9 this 11 8).bind fun r11 =>
          (mm_F_firstRight N r11 h9).bind fun v12 =>
          mm_S_ruled_j58 N this a1 v12 h9
  else none
abbrev ww_S_ruled (p : Program) (l : Launch) (e : Env) (s : State) (m : MethodId) (below : List Frame) (meth : Method) (c : Code) (G : ss_G) (this : Option Nat) (a1 : Int32) (h : ss_Hp) (rr : Int32) (hh : ss_Hp) (H : Heap) (locs : List Loc) (k n : Nat) (g : JFrame) : Prop := W p l e (headSpec (ss_w yy_S_ruled bb_S_ruled 2 (some (.int))) ({ frames := 7, cells := 0, slots := 0, locals := 195 })).room s m ([ss_v (ss_b G) this, .int a1] : List Value).toArray below meth c H locs k n (MQ below (ss_Qc G (some (.int rr)) hh) ([ss_v (ss_b G) this, .int a1] : List Value).toArray s 0 0 (ss_A G)) g
theorem ck_S_ruled {N : Nat} {this : Option Nat} {a1 : Int32} {h : ss_Hp} {res : Int32 × ss_Hp} (hm : mm_S_ruled N this a1 h = some res) : ss_is h this 11 = true := (ss_chk hm).1
set_option maxHeartbeats 4000000 in
set_option maxRecDepth 100000 in
theorem cc_S_ruled (l : Launch) (G : ss_G) (N : Nat) (this : Option Nat) (a1 : Int32) (h : ss_Hp) (rr : Int32) (hh : ss_Hp) (hm : mm_S_ruled N this a1 h = some (rr, hh)) : ss_Ct l G yy_S_ruled bb_S_ruled 2 (some (.int)) ({ frames := 7, cells := 0, slots := 0, locals := 195 }) [ss_v (ss_b G) this, .int a1] h (some (.int rr)) hh := by
  obtain ⟨hck, hm⟩ := ss_chk hm
  refine Met.ofW (cc := bb_S_ruled) (maxL := 2) (ret := (some (.int))) (by decide) rfl ?_
  intro p e s m args below meth c s₁ B hml hv
  obtain ⟨rfl, hR, hK⟩ := hv
  have hC : CallFix p m c bb_S_ruled 2 s _ lw_g sR_11 := ⟨B.exec, B.bytes, hml, findClass_of_methodNamed B.named, fun w hw => atoms_spec (ws := ss_w yy_S_ruled bb_S_ruled 2 (some (.int))) B.pre w (List.mem_cons_of_mem _ hw)⟩
  have hx := hC.1
  have hb := hC.2.1
  have hr := B.returns
  have hlocks := B.notSynchronized
  have hS : va_S (ss_A G) s.heap s.heap [] := va_S.rf
  have hl := lv_entry ([ss_v (ss_b G) this, .int a1]) (n := 2) (by simp [lg_sl, ss_v_cat, ss_cat_i, ss_cat_l, ss_cat_r])
  rw [lg_entry_eq]
  generalize (lg_sl ([ss_v (ss_b G) this, .int a1]) ++ List.replicate (2 - (lg_sl ([ss_v (ss_b G) this, .int a1])).length) Slot.unset).toArray = ls at hl ⊢
  have hl : lv_has ls 2 [(0, ss_v (ss_b G) this), (1, .int a1)] := by simpa [lv_args, ss_v_cat, ss_cat_i, ss_cat_l, ss_cat_r] using hl
  have J_22 : ∀ (h_22 : ss_Hp) (H : Heap) (locs : List Loc) (ls : Array Slot), mm_S_ruled_j22 N this a1 h_22 = some (rr, hh) → ss_R G h_22 H → va_S (ss_A G) s.heap H locs → lv_has ls 2 [] → ww_S_ruled p l e s m below meth c G this a1 h rr hh  H locs 0 0 (F0 m 22 ls []) := by
    intro h_22 H locs ls hm hR hS hl
    refine lv_bipush (v := -3) hx hb dd_S_ruled_22 (by decide) ?_
    exact ss_iret hC hr hlocks hR hS hm dd_S_ruled_24
  have J_58 : ∀ (s0_58 : Int32) (h_58 : ss_Hp) (H : Heap) (locs : List Loc) (ls : Array Slot), mm_S_ruled_j58 N this a1 s0_58 h_58 = some (rr, hh) → ss_R G h_58 H → va_S (ss_A G) s.heap H locs → lv_has ls 2 [] → ww_S_ruled p l e s m below meth c G this a1 h rr hh  H locs 0 0 (F0 m 58 ls [.int s0_58]) := by
    intro s0_58 h_58 H locs ls hm hR hS hl
    exact ss_iret hC hr hlocks hR hS hm dd_S_ruled_58
  refine ss_aload_n hx hb dd_S_ruled_0 rfl (lv_at hl 0 rfl) ?_
  obtain ⟨r1, qr1, hm⟩ := ss_bind hm
  refine ss_getr hC hK hR kf_S_41 rfl qr1 dd_S_ruled_1 ?_
  obtain ⟨r2, qr2, hm⟩ := ss_bind hm
  refine ss_getr hC hK hR kf_S_58 rfl qr2 dd_S_ruled_4 ?_
  obtain ⟨v3, qv3, hm⟩ := ss_bind hm
  refine ss_geti hC hK hR kf_S_169 qv3 dd_S_ruled_7 ?_
  refine lv_if_eq (tgt := 22) hx hb dd_S_ruled_10 (by decide) (fun c4 => ?_) (fun c4 => ?_)
  · have hm := ss_ift hm c4
    exact J_22 h _ _ _ hm hR hS (lv_sub hl [] rfl)
  · have hm := ss_iff hm c4
    refine lv_iload_n hx hb dd_S_ruled_13 rfl (lv_at hl 1 rfl) ?_
    refine lv_iconst (v := 0) hx hb dd_S_ruled_14 (by decide) ?_
    refine lv_iconst (v := 1) hx hb dd_S_ruled_15 (by decide) ?_
    obtain ⟨v5, qv5, hm⟩ := ss_bind hm
    refine ss_cS 0 0 (As := [.int a1, .int (0 : Int32), .int (1 : Int32)]) hC hK hR hS hl.1 (cc_S_isWithin l G N _ _ _ _ _ qv5) km_S_194 ⟨Nat.le_of_ble_eq_true rfl, Nat.le_of_ble_eq_true rfl⟩ ⟨Nat.le_of_ble_eq_true rfl, Nat.le_of_ble_eq_true rfl, Nat.le_of_ble_eq_true rfl, Nat.le_of_ble_eq_true rfl⟩ rfl rfl (Nat.le_of_ble_eq_true rfl) dd_S_ruled_16 (fun H locs hR hS => ?_)
    refine lv_if_ne (tgt := 25) hx hb dd_S_ruled_19 (by decide) (fun c6 => ?_) (fun c6 => ?_)
    · have hm := ss_iff hm c6
      refine ss_aload_n hx hb dd_S_ruled_25 rfl (lv_at hl 0 rfl) ?_
      obtain ⟨r7, qr7, hm⟩ := ss_bind hm
      refine ss_getr hC hK hR kf_S_74 rfl qr7 dd_S_ruled_26 ?_
      refine ss_aload_n hx hb dd_S_ruled_29 rfl (lv_at hl 0 rfl) ?_
      obtain ⟨v8, qv8, hm⟩ := ss_bind hm
      refine ss_geti hC hK hR kf_S_113 qv8 dd_S_ruled_30 ?_
      refine lv_iconst (v := 0) hx hb dd_S_ruled_33 (by decide) ?_
      obtain ⟨h9, qh9, hm⟩ := ss_bind hm
      refine ss_cVv 0 0 (As := [.int v8, .int (0 : Int32)]) hC hK hR hS hl.1 (cc_F_judge l G N _ _ _ _ _ qh9) km_S_277 (ck_F_judge qh9) ⟨Nat.le_of_ble_eq_true rfl, Nat.le_of_ble_eq_true rfl⟩ ⟨Nat.le_of_ble_eq_true rfl, Nat.le_of_ble_eq_true rfl, Nat.le_of_ble_eq_true rfl, Nat.le_of_ble_eq_true rfl⟩ rfl rfl (Nat.le_of_ble_eq_true rfl) dd_S_ruled_34 (fun H locs hR hS => ?_)
      refine lv_iload_n hx hb dd_S_ruled_37 rfl (lv_at hl 1 rfl) ?_
      refine lv_if_ne (tgt := 51) hx hb dd_S_ruled_38 (by decide) (fun c10 => ?_) (fun c10 => ?_)
      · have hm := ss_iff hm c10
        refine ss_aload_n hx hb dd_S_ruled_51 rfl (lv_at hl 0 rfl) ?_
        obtain ⟨r11, qr11, hm⟩ := ss_bind hm
        refine ss_getr hC hK hR kf_S_74 rfl qr11 dd_S_ruled_52 ?_
        obtain ⟨v12, qv12, hm⟩ := ss_bind hm
        refine ss_cV 0 0 (As := []) hC hK hR hS hl.1 (cc_F_firstRight l G N _ _ _ qv12) km_S_283 (ck_F_firstRight qv12) ⟨Nat.le_of_ble_eq_true rfl, Nat.le_of_ble_eq_true rfl⟩ ⟨Nat.le_of_ble_eq_true rfl, Nat.le_of_ble_eq_true rfl, Nat.le_of_ble_eq_true rfl, Nat.le_of_ble_eq_true rfl⟩ rfl rfl (Nat.le_of_ble_eq_true rfl) dd_S_ruled_55 (fun H locs hR hS => ?_)
        exact J_58 v12 h9 _ _ _ hm hR hS (lv_sub hl [] rfl)
      · have hm := ss_ift hm c10
        refine ss_aload_n hx hb dd_S_ruled_41 rfl (lv_at hl 0 rfl) ?_
        obtain ⟨r13, qr13, hm⟩ := ss_bind hm
        refine ss_getr hC hK hR kf_S_74 rfl qr13 dd_S_ruled_42 ?_
        obtain ⟨v14, qv14, hm⟩ := ss_bind hm
        refine ss_cV 0 0 (As := []) hC hK hR hS hl.1 (cc_F_rightCount l G N _ _ _ qv14) km_S_280 (ck_F_rightCount qv14) ⟨Nat.le_of_ble_eq_true rfl, Nat.le_of_ble_eq_true rfl⟩ ⟨Nat.le_of_ble_eq_true rfl, Nat.le_of_ble_eq_true rfl, Nat.le_of_ble_eq_true rfl, Nat.le_of_ble_eq_true rfl⟩ rfl rfl (Nat.le_of_ble_eq_true rfl) dd_S_ruled_45 (fun H locs hR hS => ?_)
        refine lv_goto (tgt := 58) hx hb dd_S_ruled_48 (by decide) ?_
        exact J_58 v14 h9 _ _ _ hm hR hS (lv_sub hl [] rfl)
    · have hm := ss_ift hm c6
      exact J_22 h _ _ _ hm hR hS (lv_sub hl [] rfl)
theorem dd_F_mostAlike_0 : decode bb_F_mostAlike 0 = .ok (.iconst 0, 1) := by decide +kernel
theorem dd_F_mostAlike_1 : decode bb_F_mostAlike 1 = .ok (.istore_n 2, 1) := by decide +kernel
theorem dd_F_mostAlike_2 : decode bb_F_mostAlike 2 = .ok (.iconst 0, 1) := by decide +kernel
theorem dd_F_mostAlike_3 : decode bb_F_mostAlike 3 = .ok (.istore_n 3, 1) := by decide +kernel
theorem dd_F_mostAlike_4 : decode bb_F_mostAlike 4 = .ok (.iload_n 3, 1) := by decide +kernel
theorem dd_F_mostAlike_5 : decode bb_F_mostAlike 5 = .ok (.bipush 7, 2) := by decide +kernel
theorem dd_F_mostAlike_7 : decode bb_F_mostAlike 7 = .ok (.if_icmp .ge 83, 3) := by decide +kernel
theorem dd_F_mostAlike_10 : decode bb_F_mostAlike 10 = .ok (.iconst 0, 1) := by decide +kernel
theorem dd_F_mostAlike_11 : decode bb_F_mostAlike 11 = .ok (.istore 4, 2) := by decide +kernel
theorem dd_F_mostAlike_13 : decode bb_F_mostAlike 13 = .ok (.iconst 0, 1) := by decide +kernel
theorem dd_F_mostAlike_14 : decode bb_F_mostAlike 14 = .ok (.istore 5, 2) := by decide +kernel
theorem dd_F_mostAlike_16 : decode bb_F_mostAlike 16 = .ok (.iload 5, 2) := by decide +kernel
theorem dd_F_mostAlike_18 : decode bb_F_mostAlike 18 = .ok (.bipush 7, 2) := by decide +kernel
theorem dd_F_mostAlike_20 : decode bb_F_mostAlike 20 = .ok (.if_icmp .ge 57, 3) := by decide +kernel
theorem dd_F_mostAlike_23 : decode bb_F_mostAlike 23 = .ok (.aload_n 0, 1) := by decide +kernel
theorem dd_F_mostAlike_24 : decode bb_F_mostAlike 24 = .ok (.getfield 15, 3) := by decide +kernel
theorem dd_F_mostAlike_27 : decode bb_F_mostAlike 27 = .ok (.iload_n 3, 1) := by decide +kernel
theorem dd_F_mostAlike_28 : decode bb_F_mostAlike 28 = .ok (.baload, 1) := by decide +kernel
theorem dd_F_mostAlike_29 : decode bb_F_mostAlike 29 = .ok (.ifCond .eq 48, 3) := by decide +kernel
theorem dd_F_mostAlike_32 : decode bb_F_mostAlike 32 = .ok (.aload_n 0, 1) := by decide +kernel
theorem dd_F_mostAlike_33 : decode bb_F_mostAlike 33 = .ok (.getfield 15, 3) := by decide +kernel
theorem dd_F_mostAlike_36 : decode bb_F_mostAlike 36 = .ok (.iload 5, 2) := by decide +kernel
theorem dd_F_mostAlike_38 : decode bb_F_mostAlike 38 = .ok (.baload, 1) := by decide +kernel
theorem dd_F_mostAlike_39 : decode bb_F_mostAlike 39 = .ok (.ifCond .eq 32, 3) := by decide +kernel
theorem dd_F_mostAlike_42 : decode bb_F_mostAlike 42 = .ok (.aload_n 0, 1) := by decide +kernel
theorem dd_F_mostAlike_43 : decode bb_F_mostAlike 43 = .ok (.getfield 11, 3) := by decide +kernel
theorem dd_F_mostAlike_46 : decode bb_F_mostAlike 46 = .ok (.iload 5, 2) := by decide +kernel
theorem dd_F_mostAlike_48 : decode bb_F_mostAlike 48 = .ok (.bipush 8, 2) := by decide +kernel
theorem dd_F_mostAlike_50 : decode bb_F_mostAlike 50 = .ok (.imul, 1) := by decide +kernel
theorem dd_F_mostAlike_51 : decode bb_F_mostAlike 51 = .ok (.iload_n 1, 1) := by decide +kernel
theorem dd_F_mostAlike_52 : decode bb_F_mostAlike 52 = .ok (.iadd, 1) := by decide +kernel
theorem dd_F_mostAlike_53 : decode bb_F_mostAlike 53 = .ok (.iaload, 1) := by decide +kernel
theorem dd_F_mostAlike_54 : decode bb_F_mostAlike 54 = .ok (.aload_n 0, 1) := by decide +kernel
theorem dd_F_mostAlike_55 : decode bb_F_mostAlike 55 = .ok (.getfield 11, 3) := by decide +kernel
theorem dd_F_mostAlike_58 : decode bb_F_mostAlike 58 = .ok (.iload_n 3, 1) := by decide +kernel
theorem dd_F_mostAlike_59 : decode bb_F_mostAlike 59 = .ok (.bipush 8, 2) := by decide +kernel
theorem dd_F_mostAlike_61 : decode bb_F_mostAlike 61 = .ok (.imul, 1) := by decide +kernel
theorem dd_F_mostAlike_62 : decode bb_F_mostAlike 62 = .ok (.iload_n 1, 1) := by decide +kernel
theorem dd_F_mostAlike_63 : decode bb_F_mostAlike 63 = .ok (.iadd, 1) := by decide +kernel
theorem dd_F_mostAlike_64 : decode bb_F_mostAlike 64 = .ok (.iaload, 1) := by decide +kernel
theorem dd_F_mostAlike_65 : decode bb_F_mostAlike 65 = .ok (.if_icmp .ne 6, 3) := by decide +kernel
theorem dd_F_mostAlike_68 : decode bb_F_mostAlike 68 = .ok (.iinc 4 1, 3) := by decide +kernel
theorem dd_F_mostAlike_71 : decode bb_F_mostAlike 71 = .ok (.iinc 5 1, 3) := by decide +kernel
theorem dd_F_mostAlike_74 : decode bb_F_mostAlike 74 = .ok (.goto (-58), 3) := by decide +kernel
theorem dd_F_mostAlike_77 : decode bb_F_mostAlike 77 = .ok (.iload_n 2, 1) := by decide +kernel
theorem dd_F_mostAlike_78 : decode bb_F_mostAlike 78 = .ok (.iload 4, 2) := by decide +kernel
theorem dd_F_mostAlike_80 : decode bb_F_mostAlike 80 = .ok (.invokestatic 139, 3) := by decide +kernel
theorem dd_F_mostAlike_83 : decode bb_F_mostAlike 83 = .ok (.istore_n 2, 1) := by decide +kernel
theorem dd_F_mostAlike_84 : decode bb_F_mostAlike 84 = .ok (.iinc 3 1, 3) := by decide +kernel
theorem dd_F_mostAlike_87 : decode bb_F_mostAlike 87 = .ok (.goto (-83), 3) := by decide +kernel
theorem dd_F_mostAlike_90 : decode bb_F_mostAlike 90 = .ok (.iload_n 2, 1) := by decide +kernel
theorem dd_F_mostAlike_91 : decode bb_F_mostAlike 91 = .ok (.ireturn, 1) := by decide +kernel
def mm_F_mostAlike_j71 (N : Nat) (this : Option Nat) (a1 : Int32) (x2_4 : Int32) (x3_4 : Int32) (h : ss_Hp) (x4_71 : Int32) (x5_71 : Int32) : Option ((Int32 × Int32) ⊕ Int32) :=
  (some (x5_71 + (1 : Int32))).bind fun v4 =>
  some (.inl (x4_71, v4))
def mm_F_mostAlike_b16 (N : Nat) (this : Option Nat) (a1 : Int32) (x2_4 : Int32) (x3_4 : Int32) (h : ss_Hp) (st : Int32 × Int32) : Option ((Int32 × Int32) ⊕ Int32) :=
  match st with
  | (x4_16, x5_16) =>
    if (7 : Int32) ≤ x5_16 then
      some (.inr x4_16)
    else
      (ss_gr h this 9 4).bind fun r6 =>
      (ss_ai h r6 22 x3_4).bind fun v7 =>
      if v7 = 0 then
        some (.inr x4_16)
      else
        (ss_gr h this 9 4).bind fun r9 =>
        (ss_ai h r9 22 x5_16).bind fun v10 =>
        if v10 = 0 then
          mm_F_mostAlike_j71 N this a1 x2_4 x3_4 h x4_16 x5_16
        else
          (ss_gr h this 9 3).bind fun r12 =>
          (ss_ai h r12 20 ((x5_16 * (8 : Int32)) + a1)).bind fun v13 =>
          (ss_gr h this 9 3).bind fun r14 =>
          (ss_ai h r14 20 ((x3_4 * (8 : Int32)) + a1)).bind fun v15 =>
          if v13 = v15 then
            (some (x4_16 + (1 : Int32))).bind fun v17 =>
            mm_F_mostAlike_j71 N this a1 x2_4 x3_4 h v17 x5_16
          else
            mm_F_mostAlike_j71 N this a1 x2_4 x3_4 h x4_16 x5_16
def mm_F_mostAlike_b4 (N : Nat) (this : Option Nat) (a1 : Int32) (h : ss_Hp) (st : Int32 × Int32) : Option ((Int32 × Int32) ⊕ Int32) :=
  match st with
  | (x2_4, x3_4) =>
    if (7 : Int32) ≤ x3_4 then
      some (.inr x2_4)
    else
      (ss_lp (mm_F_mostAlike_b16 N this a1 x2_4 x3_4 h) N ((0 : Int32), (0 : Int32))).bind fun y4_16_77 =>
      (some (if x2_4 < y4_16_77 then y4_16_77 else x2_4)).bind fun v2 =>
      (some (x3_4 + (1 : Int32))).bind fun v3 =>
      some (.inl (v2, v3))
def mm_F_mostAlike (N : Nat) (this : Option Nat) (a1 : Int32) (h : ss_Hp) : Option Int32 :=
  if ss_is h this 9 = true then
    (ss_lp (mm_F_mostAlike_b4 N this a1 h) N ((0 : Int32), (0 : Int32))).bind fun y2_4_90 =>
    some y2_4_90
  else none
abbrev ww_F_mostAlike (p : Program) (l : Launch) (e : Env) (s : State) (m : MethodId) (below : List Frame) (meth : Method) (c : Code) (G : ss_G) (this : Option Nat) (a1 : Int32) (h : ss_Hp) (rr : Int32) (H : Heap) (locs : List Loc) (k n : Nat) (g : JFrame) : Prop := W p l e (headSpec (ss_w yy_F_mostAlike bb_F_mostAlike 6 (some (.int))) ({ frames := 1, cells := 0, slots := 0, locals := 80 })).room s m ([ss_v (ss_b G) this, .int a1] : List Value).toArray below meth c H locs k n (MQ below (ss_Qc G (some (.int rr)) h) ([ss_v (ss_b G) this, .int a1] : List Value).toArray s 0 0 (ss_A G)) g
theorem ck_F_mostAlike {N : Nat} {this : Option Nat} {a1 : Int32} {h : ss_Hp} {res : Int32} (hm : mm_F_mostAlike N this a1 h = some res) : ss_is h this 9 = true := (ss_chk hm).1
set_option maxHeartbeats 4000000 in
set_option maxRecDepth 100000 in
theorem cc_F_mostAlike (l : Launch) (G : ss_G) (N : Nat) (this : Option Nat) (a1 : Int32) (h : ss_Hp) (rr : Int32) (hm : mm_F_mostAlike N this a1 h = some rr) : ss_Ct l G yy_F_mostAlike bb_F_mostAlike 6 (some (.int)) ({ frames := 1, cells := 0, slots := 0, locals := 80 }) [ss_v (ss_b G) this, .int a1] h (some (.int rr)) h := by
  obtain ⟨hck, hm⟩ := ss_chk hm
  refine Met.ofW (cc := bb_F_mostAlike) (maxL := 6) (ret := (some (.int))) (by decide) rfl ?_
  intro p e s m args below meth c s₁ B hml hv
  obtain ⟨rfl, hR, hK⟩ := hv
  have hC : CallFix p m c bb_F_mostAlike 6 s _ lw_g sR_9 := ⟨B.exec, B.bytes, hml, findClass_of_methodNamed B.named, fun w hw => atoms_spec (ws := ss_w yy_F_mostAlike bb_F_mostAlike 6 (some (.int))) B.pre w (List.mem_cons_of_mem _ hw)⟩
  have hx := hC.1
  have hb := hC.2.1
  have hr := B.returns
  have hlocks := B.notSynchronized
  have hS : va_S (ss_A G) s.heap s.heap [] := va_S.rf
  have hl := lv_entry ([ss_v (ss_b G) this, .int a1]) (n := 6) (by simp [lg_sl, ss_v_cat, ss_cat_i, ss_cat_l, ss_cat_r])
  rw [lg_entry_eq]
  generalize (lg_sl ([ss_v (ss_b G) this, .int a1]) ++ List.replicate (6 - (lg_sl ([ss_v (ss_b G) this, .int a1])).length) Slot.unset).toArray = ls at hl ⊢
  have hl : lv_has ls 6 [(0, ss_v (ss_b G) this), (1, .int a1)] := by simpa [lv_args, ss_v_cat, ss_cat_i, ss_cat_l, ss_cat_r] using hl
  refine lv_iconst (v := 0) hx hb dd_F_mostAlike_0 (by decide) ?_
  refine lv_istore_n (lv' := [(2, .int (0 : Int32)), (0, ss_v (ss_b G) this), (1, .int a1)]) hx hb dd_F_mostAlike_1 rfl hl (by decide) rfl (fun ls hl => ?_)
  refine lv_iconst (v := 0) hx hb dd_F_mostAlike_2 (by decide) ?_
  refine lv_istore_n (lv' := [(3, .int (0 : Int32)), (2, .int (0 : Int32)), (0, ss_v (ss_b G) this), (1, .int a1)]) hx hb dd_F_mostAlike_3 rfl hl (by decide) rfl (fun ls hl => ?_)
  obtain ⟨e_4, he_4, hm⟩ := ss_bind hm
  have X_4_90 : ∀ (y2_4_90 : Int32) (H : Heap) (locs : List Loc) (ls : Array Slot), e_4 = y2_4_90 → ss_R G h H → va_S (ss_A G) s.heap H locs → lv_has ls 6 [(2, .int y2_4_90)] → ww_F_mostAlike p l e s m below meth c G this a1 h rr  H locs 0 0 (F0 m 90 ls []) := by
    intro y2_4_90 H locs ls hq hR hS hl
    rw [hq] at hm
    refine lv_iload_n hx hb dd_F_mostAlike_90 rfl (lv_at hl 0 rfl) ?_
    exact ss_iret hC hr hlocks hR hS (ss_with _ hm) dd_F_mostAlike_91
  have L_4 : ∀ (n : Nat) (x2_4 : Int32) (x3_4 : Int32) (H : Heap) (locs : List Loc) (ls : Array Slot), ss_lp (mm_F_mostAlike_b4 N this a1 h) n (x2_4, x3_4) = some e_4 → ss_R G h H → va_S (ss_A G) s.heap H locs → lv_has ls 6 [(0, ss_v (ss_b G) this), (1, .int a1), (2, .int x2_4), (3, .int x3_4)] → ww_F_mostAlike p l e s m below meth c G this a1 h rr  H locs 0 0 (F0 m 4 ls []) := by
    intro n
    induction n with
    | zero => intro x2_4 x3_4 H locs ls hm; cases hm
    | succ n ih_4 =>
      intro x2_4 x3_4 H locs ls hm hR hS hl
      obtain ⟨z_4, hm, hz1_4, hz2_4⟩ := ss_lps hm
      refine lv_iload_n hx hb dd_F_mostAlike_4 rfl (lv_at hl 3 rfl) ?_
      refine lv_bipush (v := 7) hx hb dd_F_mostAlike_5 (by decide) ?_
      refine lv_icmp_ge (tgt := 90) hx hb dd_F_mostAlike_7 (by decide) (fun c1 => ?_) (fun c1 => ?_)
      · have hm := ss_ift hm c1
        exact X_4_90 x2_4  _ _ _ (hz2_4 _ (ss_some hm)) hR hS (lv_sub hl [2] rfl)
      · have hm := ss_iff hm c1
        refine lv_iconst (v := 0) hx hb dd_F_mostAlike_10 (by decide) ?_
        refine lv_istore (lv' := [(4, .int (0 : Int32)), (0, ss_v (ss_b G) this), (1, .int a1), (2, .int x2_4), (3, .int x3_4)]) hx hb dd_F_mostAlike_11 hl (by decide) rfl (fun ls hl => ?_)
        refine lv_iconst (v := 0) hx hb dd_F_mostAlike_13 (by decide) ?_
        refine lv_istore (lv' := [(5, .int (0 : Int32)), (4, .int (0 : Int32)), (0, ss_v (ss_b G) this), (1, .int a1), (2, .int x2_4), (3, .int x3_4)]) hx hb dd_F_mostAlike_14 hl (by decide) rfl (fun ls hl => ?_)
        obtain ⟨e_16, he_16, hm⟩ := ss_bind hm
        have X_16_77 : ∀ (y4_16_77 : Int32) (H : Heap) (locs : List Loc) (ls : Array Slot), e_16 = y4_16_77 → ss_R G h H → va_S (ss_A G) s.heap H locs → lv_has ls 6 [(0, ss_v (ss_b G) this), (1, .int a1), (2, .int x2_4), (3, .int x3_4), (4, .int y4_16_77)] → ww_F_mostAlike p l e s m below meth c G this a1 h rr  H locs 0 0 (F0 m 77 ls []) := by
          intro y4_16_77 H locs ls hq hR hS hl
          rw [hq] at hm
          refine lv_iload_n hx hb dd_F_mostAlike_77 rfl (lv_at hl 2 rfl) ?_
          refine lv_iload hx hb dd_F_mostAlike_78 (lv_at hl 4 rfl) ?_
          refine ss_max hC hl.1 kj_F_139 kj_max_s kj_math kj_max_c (Nat.le_of_ble_eq_true rfl) (Nat.le_of_ble_eq_true rfl) (Nat.le_of_ble_eq_true rfl) ⟨Nat.le_of_ble_eq_true rfl, Nat.le_of_ble_eq_true rfl⟩ dd_F_mostAlike_80 ?_
          obtain ⟨v2, qv2, hm⟩ := ss_bind hm
          refine ss_topi qv2 ?_
          refine lv_istore_n (lv' := [(2, .int v2), (0, ss_v (ss_b G) this), (1, .int a1), (3, .int x3_4), (4, .int y4_16_77)]) hx hb dd_F_mostAlike_83 rfl hl (by decide) rfl (fun ls hl => ?_)
          obtain ⟨v3, qv3, hm⟩ := ss_bind hm
          refine lv_iinc (v := v3) (lv' := [(3, .int v3), (2, .int v2), (0, ss_v (ss_b G) this), (1, .int a1), (4, .int y4_16_77)]) hx hb dd_F_mostAlike_84 hl (k := 3) rfl (ss_inc (by decide) qv3) (by decide) rfl (fun ls hl => ?_)
          refine lv_goto (tgt := 4) hx hb dd_F_mostAlike_87 (by decide) ?_
          exact ih_4 v2 v3  _ _ _ (hz1_4 _ (ss_some hm)) hR hS (lv_sub hl [2, 3, 1, 0] rfl)
        have L_16 : ∀ (n : Nat) (x4_16 : Int32) (x5_16 : Int32) (H : Heap) (locs : List Loc) (ls : Array Slot), ss_lp (mm_F_mostAlike_b16 N this a1 x2_4 x3_4 h) n (x4_16, x5_16) = some e_16 → ss_R G h H → va_S (ss_A G) s.heap H locs → lv_has ls 6 [(0, ss_v (ss_b G) this), (1, .int a1), (2, .int x2_4), (3, .int x3_4), (4, .int x4_16), (5, .int x5_16)] → ww_F_mostAlike p l e s m below meth c G this a1 h rr  H locs 0 0 (F0 m 16 ls []) := by
          intro n
          induction n with
          | zero => intro x4_16 x5_16 H locs ls hm; cases hm
          | succ n ih_16 =>
            intro x4_16 x5_16 H locs ls hm hR hS hl
            obtain ⟨z_16, hm, hz1_16, hz2_16⟩ := ss_lps hm
            have J_71 : ∀ (x4_71 : Int32) (x5_71 : Int32) (H : Heap) (locs : List Loc) (ls : Array Slot), mm_F_mostAlike_j71 N this a1 x2_4 x3_4 h x4_71 x5_71 = some z_16 → ss_R G h H → va_S (ss_A G) s.heap H locs → lv_has ls 6 [(0, ss_v (ss_b G) this), (1, .int a1), (2, .int x2_4), (3, .int x3_4), (4, .int x4_71), (5, .int x5_71)] → ww_F_mostAlike p l e s m below meth c G this a1 h rr  H locs 0 0 (F0 m 71 ls []) := by
              intro x4_71 x5_71 H locs ls hm hR hS hl
              obtain ⟨v4, qv4, hm⟩ := ss_bind hm
              refine lv_iinc (v := v4) (lv' := [(5, .int v4), (0, ss_v (ss_b G) this), (1, .int a1), (2, .int x2_4), (3, .int x3_4), (4, .int x4_71)]) hx hb dd_F_mostAlike_71 hl (k := 5) rfl (ss_inc (by decide) qv4) (by decide) rfl (fun ls hl => ?_)
              refine lv_goto (tgt := 16) hx hb dd_F_mostAlike_74 (by decide) ?_
              exact ih_16 x4_71 v4  _ _ _ (hz1_16 _ (ss_some hm)) hR hS (lv_sub hl [1, 2, 3, 4, 5, 0] rfl)
            refine lv_iload hx hb dd_F_mostAlike_16 (lv_at hl 5 rfl) ?_
            refine lv_bipush (v := 7) hx hb dd_F_mostAlike_18 (by decide) ?_
            refine lv_icmp_ge (tgt := 77) hx hb dd_F_mostAlike_20 (by decide) (fun c5 => ?_) (fun c5 => ?_)
            · have hm := ss_ift hm c5
              exact X_16_77 x4_16  _ _ _ (hz2_16 _ (ss_some hm)) hR hS (lv_sub hl [0, 1, 2, 3, 4] rfl)
            · have hm := ss_iff hm c5
              refine ss_aload_n hx hb dd_F_mostAlike_23 rfl (lv_at hl 0 rfl) ?_
              obtain ⟨r6, qr6, hm⟩ := ss_bind hm
              refine ss_getr hC hK hR kf_F_15 rfl qr6 dd_F_mostAlike_24 ?_
              refine lv_iload_n hx hb dd_F_mostAlike_27 rfl (lv_at hl 3 rfl) ?_
              obtain ⟨v7, qv7, hm⟩ := ss_bind hm
              refine ss_zald hC hK hR qv7 dd_F_mostAlike_28 ?_
              refine lv_if_eq (tgt := 77) hx hb dd_F_mostAlike_29 (by decide) (fun c8 => ?_) (fun c8 => ?_)
              · have hm := ss_ift hm c8
                exact X_16_77 x4_16  _ _ _ (hz2_16 _ (ss_some hm)) hR hS (lv_sub hl [0, 1, 2, 3, 4] rfl)
              · have hm := ss_iff hm c8
                refine ss_aload_n hx hb dd_F_mostAlike_32 rfl (lv_at hl 0 rfl) ?_
                obtain ⟨r9, qr9, hm⟩ := ss_bind hm
                refine ss_getr hC hK hR kf_F_15 rfl qr9 dd_F_mostAlike_33 ?_
                refine lv_iload hx hb dd_F_mostAlike_36 (lv_at hl 5 rfl) ?_
                obtain ⟨v10, qv10, hm⟩ := ss_bind hm
                refine ss_zald hC hK hR qv10 dd_F_mostAlike_38 ?_
                refine lv_if_eq (tgt := 71) hx hb dd_F_mostAlike_39 (by decide) (fun c11 => ?_) (fun c11 => ?_)
                · have hm := ss_ift hm c11
                  exact J_71 x4_16 x5_16  _ _ _ hm hR hS hl
                · have hm := ss_iff hm c11
                  refine ss_aload_n hx hb dd_F_mostAlike_42 rfl (lv_at hl 0 rfl) ?_
                  obtain ⟨r12, qr12, hm⟩ := ss_bind hm
                  refine ss_getr hC hK hR kf_F_11 rfl qr12 dd_F_mostAlike_43 ?_
                  refine lv_iload hx hb dd_F_mostAlike_46 (lv_at hl 5 rfl) ?_
                  refine lv_bipush (v := 8) hx hb dd_F_mostAlike_48 (by decide) ?_
                  refine lv_imul hx hb dd_F_mostAlike_50 ?_
                  refine lv_iload_n hx hb dd_F_mostAlike_51 rfl (lv_at hl 1 rfl) ?_
                  refine lv_iadd hx hb dd_F_mostAlike_52 ?_
                  obtain ⟨v13, qv13, hm⟩ := ss_bind hm
                  refine ss_iald hC hK hR qv13 dd_F_mostAlike_53 ?_
                  refine ss_aload_n hx hb dd_F_mostAlike_54 rfl (lv_at hl 0 rfl) ?_
                  obtain ⟨r14, qr14, hm⟩ := ss_bind hm
                  refine ss_getr hC hK hR kf_F_11 rfl qr14 dd_F_mostAlike_55 ?_
                  refine lv_iload_n hx hb dd_F_mostAlike_58 rfl (lv_at hl 3 rfl) ?_
                  refine lv_bipush (v := 8) hx hb dd_F_mostAlike_59 (by decide) ?_
                  refine lv_imul hx hb dd_F_mostAlike_61 ?_
                  refine lv_iload_n hx hb dd_F_mostAlike_62 rfl (lv_at hl 1 rfl) ?_
                  refine lv_iadd hx hb dd_F_mostAlike_63 ?_
                  obtain ⟨v15, qv15, hm⟩ := ss_bind hm
                  refine ss_iald hC hK hR qv15 dd_F_mostAlike_64 ?_
                  refine lv_icmp_ne (tgt := 71) hx hb dd_F_mostAlike_65 (by decide) (fun c16 => ?_) (fun c16 => ?_)
                  · have hm := ss_iff hm c16
                    exact J_71 x4_16 x5_16  _ _ _ hm hR hS hl
                  · have hm := ss_ift hm c16
                    obtain ⟨v17, qv17, hm⟩ := ss_bind hm
                    refine lv_iinc (v := v17) (lv' := [(4, .int v17), (0, ss_v (ss_b G) this), (1, .int a1), (2, .int x2_4), (3, .int x3_4), (5, .int x5_16)]) hx hb dd_F_mostAlike_68 hl (k := 4) rfl (ss_inc (by decide) qv17) (by decide) rfl (fun ls hl => ?_)
                    exact J_71 v17 x5_16  _ _ _ hm hR hS (lv_sub hl [1, 2, 3, 4, 0, 5] rfl)
        exact L_16 N (0 : Int32) (0 : Int32) _ _ _ he_16 hR hS (lv_sub hl [2, 3, 4, 5, 1, 0] rfl)
  exact L_4 N (0 : Int32) (0 : Int32) _ _ _ he_4 hR hS (lv_sub hl [2, 3, 1, 0] rfl)
theorem dd_F_partingStep_0 : decode bb_F_partingStep 0 = .ok (.bipush (-2), 2) := by decide +kernel
theorem dd_F_partingStep_2 : decode bb_F_partingStep 2 = .ok (.istore_n 2, 1) := by decide +kernel
theorem dd_F_partingStep_3 : decode bb_F_partingStep 3 = .ok (.bipush 8, 2) := by decide +kernel
theorem dd_F_partingStep_5 : decode bb_F_partingStep 5 = .ok (.istore_n 3, 1) := by decide +kernel
theorem dd_F_partingStep_6 : decode bb_F_partingStep 6 = .ok (.iconst 0, 1) := by decide +kernel
theorem dd_F_partingStep_7 : decode bb_F_partingStep 7 = .ok (.istore 4, 2) := by decide +kernel
theorem dd_F_partingStep_9 : decode bb_F_partingStep 9 = .ok (.iload 4, 2) := by decide +kernel
theorem dd_F_partingStep_11 : decode bb_F_partingStep 11 = .ok (.aload_n 0, 1) := by decide +kernel
theorem dd_F_partingStep_12 : decode bb_F_partingStep 12 = .ok (.getfield 19, 3) := by decide +kernel
theorem dd_F_partingStep_15 : decode bb_F_partingStep 15 = .ok (.getfield 77, 3) := by decide +kernel
theorem dd_F_partingStep_18 : decode bb_F_partingStep 18 = .ok (.getfield 81, 3) := by decide +kernel
theorem dd_F_partingStep_21 : decode bb_F_partingStep 21 = .ok (.if_icmp .ge 36, 3) := by decide +kernel
theorem dd_F_partingStep_24 : decode bb_F_partingStep 24 = .ok (.aload_n 0, 1) := by decide +kernel
theorem dd_F_partingStep_25 : decode bb_F_partingStep 25 = .ok (.invokevirtual 150, 3) := by decide +kernel
theorem dd_F_partingStep_28 : decode bb_F_partingStep 28 = .ok (.ifCond .le 29, 3) := by decide +kernel
theorem dd_F_partingStep_31 : decode bb_F_partingStep 31 = .ok (.aload_n 0, 1) := by decide +kernel
theorem dd_F_partingStep_32 : decode bb_F_partingStep 32 = .ok (.iload 4, 2) := by decide +kernel
theorem dd_F_partingStep_34 : decode bb_F_partingStep 34 = .ok (.invokevirtual 153, 3) := by decide +kernel
theorem dd_F_partingStep_37 : decode bb_F_partingStep 37 = .ok (.istore 5, 2) := by decide +kernel
theorem dd_F_partingStep_39 : decode bb_F_partingStep 39 = .ok (.iload 5, 2) := by decide +kernel
theorem dd_F_partingStep_41 : decode bb_F_partingStep 41 = .ok (.iload_n 3, 1) := by decide +kernel
theorem dd_F_partingStep_42 : decode bb_F_partingStep 42 = .ok (.if_icmp .ge 9, 3) := by decide +kernel
theorem dd_F_partingStep_45 : decode bb_F_partingStep 45 = .ok (.iload 5, 2) := by decide +kernel
theorem dd_F_partingStep_47 : decode bb_F_partingStep 47 = .ok (.istore_n 3, 1) := by decide +kernel
theorem dd_F_partingStep_48 : decode bb_F_partingStep 48 = .ok (.iload 4, 2) := by decide +kernel
theorem dd_F_partingStep_50 : decode bb_F_partingStep 50 = .ok (.istore_n 2, 1) := by decide +kernel
theorem dd_F_partingStep_51 : decode bb_F_partingStep 51 = .ok (.iinc 4 1, 3) := by decide +kernel
theorem dd_F_partingStep_54 : decode bb_F_partingStep 54 = .ok (.goto (-45), 3) := by decide +kernel
theorem dd_F_partingStep_57 : decode bb_F_partingStep 57 = .ok (.iload_n 2, 1) := by decide +kernel
theorem dd_F_partingStep_58 : decode bb_F_partingStep 58 = .ok (.bipush (-2), 2) := by decide +kernel
theorem dd_F_partingStep_60 : decode bb_F_partingStep 60 = .ok (.if_icmp .eq 11, 3) := by decide +kernel
theorem dd_F_partingStep_63 : decode bb_F_partingStep 63 = .ok (.iload_n 1, 1) := by decide +kernel
theorem dd_F_partingStep_64 : decode bb_F_partingStep 64 = .ok (.ifCond .eq 7, 3) := by decide +kernel
theorem dd_F_partingStep_67 : decode bb_F_partingStep 67 = .ok (.iload_n 3, 1) := by decide +kernel
theorem dd_F_partingStep_68 : decode bb_F_partingStep 68 = .ok (.goto 4, 3) := by decide +kernel
theorem dd_F_partingStep_71 : decode bb_F_partingStep 71 = .ok (.iload_n 2, 1) := by decide +kernel
theorem dd_F_partingStep_72 : decode bb_F_partingStep 72 = .ok (.ireturn, 1) := by decide +kernel
def mm_F_partingStep_j72 (N : Nat) (this : Option Nat) (a1 : Int32) (h : ss_Hp) (s0_72 : Int32) : Option Int32 :=
  some s0_72
def mm_F_partingStep_j71 (N : Nat) (this : Option Nat) (a1 : Int32) (h : ss_Hp) (x2_71 : Int32) : Option Int32 :=
  mm_F_partingStep_j72 N this a1 h x2_71
def mm_F_partingStep_j51 (N : Nat) (this : Option Nat) (a1 : Int32) (h : ss_Hp) (x2_51 : Int32) (x3_51 : Int32) (x4_51 : Int32) : Option ((Int32 × Int32 × Int32) ⊕ (Int32 × Int32)) :=
  (some (x4_51 + (1 : Int32))).bind fun v3 =>
  some (.inl (x2_51, x3_51, v3))
def mm_F_partingStep_b9 (N : Nat) (this : Option Nat) (a1 : Int32) (h : ss_Hp) (st : Int32 × Int32 × Int32) : Option ((Int32 × Int32 × Int32) ⊕ (Int32 × Int32)) :=
  match st with
  | (x2_9, x3_9, x4_9) =>
    (ss_gr h this 9 0).bind fun r4 =>
    (ss_gr h r4 8 0).bind fun r5 =>
    (ss_gi h r5 5 3).bind fun v6 =>
    if v6 ≤ x4_9 then
      some (.inr (x2_9, x3_9))
    else
      (mm_F_rightCount N this h).bind fun v8 =>
      if v8 ≤ 0 then
        some (.inr (x2_9, x3_9))
      else
        (mm_F_mostAlike N this x4_9 h).bind fun v10 =>
        if x3_9 ≤ v10 then
          mm_F_partingStep_j51 N this a1 h x2_9 x3_9 x4_9
        else
          mm_F_partingStep_j51 N this a1 h x4_9 v10 x4_9
def mm_F_partingStep (N : Nat) (this : Option Nat) (a1 : Int32) (h : ss_Hp) : Option Int32 :=
  if ss_is h this 9 = true then
    (ss_lp (mm_F_partingStep_b9 N this a1 h) N ((-2 : Int32), (8 : Int32), (0 : Int32))).bind fun e_9 =>
    match e_9 with
    | (y2_9_57, y3_9_57) =>
      if y2_9_57 = (-2 : Int32) then
        mm_F_partingStep_j71 N this a1 h y2_9_57
      else
        if a1 = 0 then
          mm_F_partingStep_j71 N this a1 h y2_9_57
        else
          mm_F_partingStep_j72 N this a1 h y3_9_57
  else none
abbrev ww_F_partingStep (p : Program) (l : Launch) (e : Env) (s : State) (m : MethodId) (below : List Frame) (meth : Method) (c : Code) (G : ss_G) (this : Option Nat) (a1 : Int32) (h : ss_Hp) (rr : Int32) (H : Heap) (locs : List Loc) (k n : Nat) (g : JFrame) : Prop := W p l e (headSpec (ss_w yy_F_partingStep bb_F_partingStep 6 (some (.int))) ({ frames := 2, cells := 0, slots := 0, locals := 105 })).room s m ([ss_v (ss_b G) this, .int a1] : List Value).toArray below meth c H locs k n (MQ below (ss_Qc G (some (.int rr)) h) ([ss_v (ss_b G) this, .int a1] : List Value).toArray s 0 0 (ss_A G)) g
theorem ck_F_partingStep {N : Nat} {this : Option Nat} {a1 : Int32} {h : ss_Hp} {res : Int32} (hm : mm_F_partingStep N this a1 h = some res) : ss_is h this 9 = true := (ss_chk hm).1
set_option maxHeartbeats 4000000 in
set_option maxRecDepth 100000 in
theorem cc_F_partingStep (l : Launch) (G : ss_G) (N : Nat) (this : Option Nat) (a1 : Int32) (h : ss_Hp) (rr : Int32) (hm : mm_F_partingStep N this a1 h = some rr) : ss_Ct l G yy_F_partingStep bb_F_partingStep 6 (some (.int)) ({ frames := 2, cells := 0, slots := 0, locals := 105 }) [ss_v (ss_b G) this, .int a1] h (some (.int rr)) h := by
  obtain ⟨hck, hm⟩ := ss_chk hm
  refine Met.ofW (cc := bb_F_partingStep) (maxL := 6) (ret := (some (.int))) (by decide) rfl ?_
  intro p e s m args below meth c s₁ B hml hv
  obtain ⟨rfl, hR, hK⟩ := hv
  have hC : CallFix p m c bb_F_partingStep 6 s _ lw_g sR_9 := ⟨B.exec, B.bytes, hml, findClass_of_methodNamed B.named, fun w hw => atoms_spec (ws := ss_w yy_F_partingStep bb_F_partingStep 6 (some (.int))) B.pre w (List.mem_cons_of_mem _ hw)⟩
  have hx := hC.1
  have hb := hC.2.1
  have hr := B.returns
  have hlocks := B.notSynchronized
  have hS : va_S (ss_A G) s.heap s.heap [] := va_S.rf
  have hl := lv_entry ([ss_v (ss_b G) this, .int a1]) (n := 6) (by simp [lg_sl, ss_v_cat, ss_cat_i, ss_cat_l, ss_cat_r])
  rw [lg_entry_eq]
  generalize (lg_sl ([ss_v (ss_b G) this, .int a1]) ++ List.replicate (6 - (lg_sl ([ss_v (ss_b G) this, .int a1])).length) Slot.unset).toArray = ls at hl ⊢
  have hl : lv_has ls 6 [(0, ss_v (ss_b G) this), (1, .int a1)] := by simpa [lv_args, ss_v_cat, ss_cat_i, ss_cat_l, ss_cat_r] using hl
  have J_72 : ∀ (s0_72 : Int32) (H : Heap) (locs : List Loc) (ls : Array Slot), mm_F_partingStep_j72 N this a1 h s0_72 = some rr → ss_R G h H → va_S (ss_A G) s.heap H locs → lv_has ls 6 [] → ww_F_partingStep p l e s m below meth c G this a1 h rr  H locs 0 0 (F0 m 72 ls [.int s0_72]) := by
    intro s0_72 H locs ls hm hR hS hl
    exact ss_iret hC hr hlocks hR hS (ss_with _ hm) dd_F_partingStep_72
  have J_71 : ∀ (x2_71 : Int32) (H : Heap) (locs : List Loc) (ls : Array Slot), mm_F_partingStep_j71 N this a1 h x2_71 = some rr → ss_R G h H → va_S (ss_A G) s.heap H locs → lv_has ls 6 [(2, .int x2_71)] → ww_F_partingStep p l e s m below meth c G this a1 h rr  H locs 0 0 (F0 m 71 ls []) := by
    intro x2_71 H locs ls hm hR hS hl
    refine lv_iload_n hx hb dd_F_partingStep_71 rfl (lv_at hl 0 rfl) ?_
    exact J_72 x2_71  _ _ _ hm hR hS (lv_sub hl [] rfl)
  refine lv_bipush (v := -2) hx hb dd_F_partingStep_0 (by decide) ?_
  refine lv_istore_n (lv' := [(2, .int (-2 : Int32)), (0, ss_v (ss_b G) this), (1, .int a1)]) hx hb dd_F_partingStep_2 rfl hl (by decide) rfl (fun ls hl => ?_)
  refine lv_bipush (v := 8) hx hb dd_F_partingStep_3 (by decide) ?_
  refine lv_istore_n (lv' := [(3, .int (8 : Int32)), (2, .int (-2 : Int32)), (0, ss_v (ss_b G) this), (1, .int a1)]) hx hb dd_F_partingStep_5 rfl hl (by decide) rfl (fun ls hl => ?_)
  refine lv_iconst (v := 0) hx hb dd_F_partingStep_6 (by decide) ?_
  refine lv_istore (lv' := [(4, .int (0 : Int32)), (3, .int (8 : Int32)), (2, .int (-2 : Int32)), (0, ss_v (ss_b G) this), (1, .int a1)]) hx hb dd_F_partingStep_7 hl (by decide) rfl (fun ls hl => ?_)
  obtain ⟨e_9, he_9, hm⟩ := ss_bind hm
  have X_9_57 : ∀ (y2_9_57 : Int32) (y3_9_57 : Int32) (H : Heap) (locs : List Loc) (ls : Array Slot), e_9 = (y2_9_57, y3_9_57) → ss_R G h H → va_S (ss_A G) s.heap H locs → lv_has ls 6 [(1, .int a1), (2, .int y2_9_57), (3, .int y3_9_57)] → ww_F_partingStep p l e s m below meth c G this a1 h rr  H locs 0 0 (F0 m 57 ls []) := by
    intro y2_9_57 y3_9_57 H locs ls hq hR hS hl
    rw [hq] at hm
    refine lv_iload_n hx hb dd_F_partingStep_57 rfl (lv_at hl 1 rfl) ?_
    refine lv_bipush (v := -2) hx hb dd_F_partingStep_58 (by decide) ?_
    refine lv_icmp_eq (tgt := 71) hx hb dd_F_partingStep_60 (by decide) (fun c1 => ?_) (fun c1 => ?_)
    · have hm := ss_ift hm c1
      exact J_71 y2_9_57  _ _ _ hm hR hS (lv_sub hl [1] rfl)
    · have hm := ss_iff hm c1
      refine lv_iload_n hx hb dd_F_partingStep_63 rfl (lv_at hl 0 rfl) ?_
      refine lv_if_eq (tgt := 71) hx hb dd_F_partingStep_64 (by decide) (fun c2 => ?_) (fun c2 => ?_)
      · have hm := ss_ift hm c2
        exact J_71 y2_9_57  _ _ _ hm hR hS (lv_sub hl [1] rfl)
      · have hm := ss_iff hm c2
        refine lv_iload_n hx hb dd_F_partingStep_67 rfl (lv_at hl 2 rfl) ?_
        refine lv_goto (tgt := 72) hx hb dd_F_partingStep_68 (by decide) ?_
        exact J_72 y3_9_57  _ _ _ hm hR hS (lv_sub hl [] rfl)
  have L_9 : ∀ (n : Nat) (x2_9 : Int32) (x3_9 : Int32) (x4_9 : Int32) (H : Heap) (locs : List Loc) (ls : Array Slot), ss_lp (mm_F_partingStep_b9 N this a1 h) n (x2_9, x3_9, x4_9) = some e_9 → ss_R G h H → va_S (ss_A G) s.heap H locs → lv_has ls 6 [(0, ss_v (ss_b G) this), (1, .int a1), (2, .int x2_9), (3, .int x3_9), (4, .int x4_9)] → ww_F_partingStep p l e s m below meth c G this a1 h rr  H locs 0 0 (F0 m 9 ls []) := by
    intro n
    induction n with
    | zero => intro x2_9 x3_9 x4_9 H locs ls hm; cases hm
    | succ n ih_9 =>
      intro x2_9 x3_9 x4_9 H locs ls hm hR hS hl
      obtain ⟨z_9, hm, hz1_9, hz2_9⟩ := ss_lps hm
      have J_51 : ∀ (x2_51 : Int32) (x3_51 : Int32) (x4_51 : Int32) (H : Heap) (locs : List Loc) (ls : Array Slot), mm_F_partingStep_j51 N this a1 h x2_51 x3_51 x4_51 = some z_9 → ss_R G h H → va_S (ss_A G) s.heap H locs → lv_has ls 6 [(0, ss_v (ss_b G) this), (1, .int a1), (2, .int x2_51), (3, .int x3_51), (4, .int x4_51)] → ww_F_partingStep p l e s m below meth c G this a1 h rr  H locs 0 0 (F0 m 51 ls []) := by
        intro x2_51 x3_51 x4_51 H locs ls hm hR hS hl
        obtain ⟨v3, qv3, hm⟩ := ss_bind hm
        refine lv_iinc (v := v3) (lv' := [(4, .int v3), (0, ss_v (ss_b G) this), (1, .int a1), (2, .int x2_51), (3, .int x3_51)]) hx hb dd_F_partingStep_51 hl (k := 4) rfl (ss_inc (by decide) qv3) (by decide) rfl (fun ls hl => ?_)
        refine lv_goto (tgt := 9) hx hb dd_F_partingStep_54 (by decide) ?_
        exact ih_9 x2_51 x3_51 v3  _ _ _ (hz1_9 _ (ss_some hm)) hR hS (lv_sub hl [1, 2, 3, 4, 0] rfl)
      refine lv_iload hx hb dd_F_partingStep_9 (lv_at hl 4 rfl) ?_
      refine ss_aload_n hx hb dd_F_partingStep_11 rfl (lv_at hl 0 rfl) ?_
      obtain ⟨r4, qr4, hm⟩ := ss_bind hm
      refine ss_getr hC hK hR kf_F_19 rfl qr4 dd_F_partingStep_12 ?_
      obtain ⟨r5, qr5, hm⟩ := ss_bind hm
      refine ss_getr hC hK hR kf_F_77 rfl qr5 dd_F_partingStep_15 ?_
      obtain ⟨v6, qv6, hm⟩ := ss_bind hm
      refine ss_geti hC hK hR kf_F_81 qv6 dd_F_partingStep_18 ?_
      refine lv_icmp_ge (tgt := 57) hx hb dd_F_partingStep_21 (by decide) (fun c7 => ?_) (fun c7 => ?_)
      · have hm := ss_ift hm c7
        exact X_9_57 x2_9 x3_9  _ _ _ (hz2_9 _ (ss_some hm)) hR hS (lv_sub hl [1, 2, 3] rfl)
      · have hm := ss_iff hm c7
        refine ss_aload_n hx hb dd_F_partingStep_24 rfl (lv_at hl 0 rfl) ?_
        obtain ⟨v8, qv8, hm⟩ := ss_bind hm
        refine ss_cV 0 0 (As := []) hC hK hR hS hl.1 (cc_F_rightCount l G N _ _ _ qv8) km_F_150 (ck_F_rightCount qv8) ⟨Nat.le_of_ble_eq_true rfl, Nat.le_of_ble_eq_true rfl⟩ ⟨Nat.le_of_ble_eq_true rfl, Nat.le_of_ble_eq_true rfl, Nat.le_of_ble_eq_true rfl, Nat.le_of_ble_eq_true rfl⟩ rfl rfl (Nat.le_of_ble_eq_true rfl) dd_F_partingStep_25 (fun H locs hR hS => ?_)
        refine lv_if_le (tgt := 57) hx hb dd_F_partingStep_28 (by decide) (fun c9 => ?_) (fun c9 => ?_)
        · have hm := ss_ift hm c9
          exact X_9_57 x2_9 x3_9  _ _ _ (hz2_9 _ (ss_some hm)) hR hS (lv_sub hl [1, 2, 3] rfl)
        · have hm := ss_iff hm c9
          refine ss_aload_n hx hb dd_F_partingStep_31 rfl (lv_at hl 0 rfl) ?_
          refine lv_iload hx hb dd_F_partingStep_32 (lv_at hl 4 rfl) ?_
          obtain ⟨v10, qv10, hm⟩ := ss_bind hm
          refine ss_cV 0 0 (As := [.int x4_9]) hC hK hR hS hl.1 (cc_F_mostAlike l G N _ _ _ _ qv10) km_F_153 (ck_F_mostAlike qv10) ⟨Nat.le_of_ble_eq_true rfl, Nat.le_of_ble_eq_true rfl⟩ ⟨Nat.le_of_ble_eq_true rfl, Nat.le_of_ble_eq_true rfl, Nat.le_of_ble_eq_true rfl, Nat.le_of_ble_eq_true rfl⟩ rfl rfl (Nat.le_of_ble_eq_true rfl) dd_F_partingStep_34 (fun H locs hR hS => ?_)
          refine lv_istore (lv' := [(5, .int v10), (0, ss_v (ss_b G) this), (1, .int a1), (2, .int x2_9), (3, .int x3_9), (4, .int x4_9)]) hx hb dd_F_partingStep_37 hl (by decide) rfl (fun ls hl => ?_)
          refine lv_iload hx hb dd_F_partingStep_39 (lv_at hl 0 rfl) ?_
          refine lv_iload_n hx hb dd_F_partingStep_41 rfl (lv_at hl 4 rfl) ?_
          refine lv_icmp_ge (tgt := 51) hx hb dd_F_partingStep_42 (by decide) (fun c11 => ?_) (fun c11 => ?_)
          · have hm := ss_ift hm c11
            exact J_51 x2_9 x3_9 x4_9  _ _ _ hm hR hS (lv_sub hl [1, 2, 3, 4, 5] rfl)
          · have hm := ss_iff hm c11
            refine lv_iload hx hb dd_F_partingStep_45 (lv_at hl 0 rfl) ?_
            refine lv_istore_n (lv' := [(3, .int v10), (5, .int v10), (0, ss_v (ss_b G) this), (1, .int a1), (2, .int x2_9), (4, .int x4_9)]) hx hb dd_F_partingStep_47 rfl hl (by decide) rfl (fun ls hl => ?_)
            refine lv_iload hx hb dd_F_partingStep_48 (lv_at hl 5 rfl) ?_
            refine lv_istore_n (lv' := [(2, .int x4_9), (3, .int v10), (5, .int v10), (0, ss_v (ss_b G) this), (1, .int a1), (4, .int x4_9)]) hx hb dd_F_partingStep_50 rfl hl (by decide) rfl (fun ls hl => ?_)
            exact J_51 x4_9 v10 x4_9  _ _ _ hm hR hS (lv_sub hl [3, 4, 0, 1, 5] rfl)
  exact L_9 N (-2 : Int32) (8 : Int32) (0 : Int32) _ _ _ he_9 hR hS (lv_sub hl [3, 4, 2, 1, 0] rfl)
theorem dd_S_look_0 : decode bb_S_look 0 = .ok (.aload_n 0, 1) := by decide +kernel
theorem dd_S_look_1 : decode bb_S_look 1 = .ok (.getfield 41, 3) := by decide +kernel
theorem dd_S_look_4 : decode bb_S_look 4 = .ok (.getfield 58, 3) := by decide +kernel
theorem dd_S_look_7 : decode bb_S_look 7 = .ok (.getfield 169, 3) := by decide +kernel
theorem dd_S_look_10 : decode bb_S_look 10 = .ok (.ifCond .eq 22, 3) := by decide +kernel
theorem dd_S_look_13 : decode bb_S_look 13 = .ok (.iload_n 1, 1) := by decide +kernel
theorem dd_S_look_14 : decode bb_S_look 14 = .ok (.iconst 0, 1) := by decide +kernel
theorem dd_S_look_15 : decode bb_S_look 15 = .ok (.bipush 60, 2) := by decide +kernel
theorem dd_S_look_17 : decode bb_S_look 17 = .ok (.invokestatic 194, 3) := by decide +kernel
theorem dd_S_look_20 : decode bb_S_look 20 = .ok (.ifCond .eq 12, 3) := by decide +kernel
theorem dd_S_look_23 : decode bb_S_look 23 = .ok (.iload_n 2, 1) := by decide +kernel
theorem dd_S_look_24 : decode bb_S_look 24 = .ok (.iconst 0, 1) := by decide +kernel
theorem dd_S_look_25 : decode bb_S_look 25 = .ok (.iconst 1, 1) := by decide +kernel
theorem dd_S_look_26 : decode bb_S_look 26 = .ok (.invokestatic 194, 3) := by decide +kernel
theorem dd_S_look_29 : decode bb_S_look 29 = .ok (.ifCond .ne 5, 3) := by decide +kernel
theorem dd_S_look_32 : decode bb_S_look 32 = .ok (.iconst (-1), 1) := by decide +kernel
theorem dd_S_look_33 : decode bb_S_look 33 = .ok (.ireturn, 1) := by decide +kernel
theorem dd_S_look_34 : decode bb_S_look 34 = .ok (.aload_n 0, 1) := by decide +kernel
theorem dd_S_look_35 : decode bb_S_look 35 = .ok (.getfield 74, 3) := by decide +kernel
theorem dd_S_look_38 : decode bb_S_look 38 = .ok (.aload_n 0, 1) := by decide +kernel
theorem dd_S_look_39 : decode bb_S_look 39 = .ok (.getfield 113, 3) := by decide +kernel
theorem dd_S_look_42 : decode bb_S_look 42 = .ok (.iload_n 1, 1) := by decide +kernel
theorem dd_S_look_43 : decode bb_S_look 43 = .ok (.invokevirtual 277, 3) := by decide +kernel
theorem dd_S_look_46 : decode bb_S_look 46 = .ok (.aload_n 0, 1) := by decide +kernel
theorem dd_S_look_47 : decode bb_S_look 47 = .ok (.getfield 74, 3) := by decide +kernel
theorem dd_S_look_50 : decode bb_S_look 50 = .ok (.iload_n 2, 1) := by decide +kernel
theorem dd_S_look_51 : decode bb_S_look 51 = .ok (.iconst 1, 1) := by decide +kernel
theorem dd_S_look_52 : decode bb_S_look 52 = .ok (.if_icmp .ne 7, 3) := by decide +kernel
theorem dd_S_look_55 : decode bb_S_look 55 = .ok (.iconst 1, 1) := by decide +kernel
theorem dd_S_look_56 : decode bb_S_look 56 = .ok (.goto 4, 3) := by decide +kernel
theorem dd_S_look_59 : decode bb_S_look 59 = .ok (.iconst 0, 1) := by decide +kernel
theorem dd_S_look_60 : decode bb_S_look 60 = .ok (.invokevirtual 286, 3) := by decide +kernel
theorem dd_S_look_63 : decode bb_S_look 63 = .ok (.ireturn, 1) := by decide +kernel
def mm_S_look_j32 (N : Nat) (this : Option Nat) (a1 : Int32) (a2 : Int32) (h_32 : ss_Hp) : Option (Int32 × ss_Hp) :=
  some ((-1 : Int32), h_32)
def mm_S_look_j60 (N : Nat) (this : Option Nat) (a1 : Int32) (a2 : Int32) (s0_60 : Option Nat) (s1_60 : Int32) (h_60 : ss_Hp) : Option (Int32 × ss_Hp) :=
  (mm_F_partingStep N s0_60 s1_60 h_60).bind fun v1 =>
  some (v1, h_60)
def mm_S_look (N : Nat) (this : Option Nat) (a1 : Int32) (a2 : Int32) (h : ss_Hp) : Option (Int32 × ss_Hp) :=
  if ss_is h this 11 = true then
    (ss_gr h this 11 4).bind fun r2 =>
    (ss_gr h r2 8 0).bind fun r3 =>
    (ss_gi h r3 5 0).bind fun v4 =>
    if v4 = 0 then
      mm_S_look_j32 N this a1 a2 h
    else
      (mm_S_isWithin N a1 (0 : Int32) (60 : Int32)).bind fun v6 =>
      if v6 = 0 then
        mm_S_look_j32 N this a1 a2 h
      else
        (mm_S_isWithin N a2 (0 : Int32) (1 : Int32)).bind fun v8 =>
        if v8 = 0 then
          mm_S_look_j32 N this a1 a2 h
        else
          (ss_gr h this 11 8).bind fun r10 =>
          (ss_gi h this 11 0).bind fun v11 =>
          (mm_F_judge N r10 v11 a1 h).bind fun h12 =>
          (ss_gr h12 this 11 8).bind fun r13 =>
          if a2 = (1 : Int32) then
            mm_S_look_j60 N this a1 a2 r13 (1 : Int32) h12
          else
            mm_S_look_j60 N this a1 a2 r13 (0 : Int32) h12
  else none
abbrev ww_S_look (p : Program) (l : Launch) (e : Env) (s : State) (m : MethodId) (below : List Frame) (meth : Method) (c : Code) (G : ss_G) (this : Option Nat) (a1 : Int32) (a2 : Int32) (h : ss_Hp) (rr : Int32) (hh : ss_Hp) (H : Heap) (locs : List Loc) (k n : Nat) (g : JFrame) : Prop := W p l e (headSpec (ss_w yy_S_look bb_S_look 3 (some (.int))) ({ frames := 7, cells := 0, slots := 0, locals := 195 })).room s m ([ss_v (ss_b G) this, .int a1, .int a2] : List Value).toArray below meth c H locs k n (MQ below (ss_Qc G (some (.int rr)) hh) ([ss_v (ss_b G) this, .int a1, .int a2] : List Value).toArray s 0 0 (ss_A G)) g
theorem ck_S_look {N : Nat} {this : Option Nat} {a1 : Int32} {a2 : Int32} {h : ss_Hp} {res : Int32 × ss_Hp} (hm : mm_S_look N this a1 a2 h = some res) : ss_is h this 11 = true := (ss_chk hm).1
set_option maxHeartbeats 4000000 in
set_option maxRecDepth 100000 in
theorem cc_S_look (l : Launch) (G : ss_G) (N : Nat) (this : Option Nat) (a1 : Int32) (a2 : Int32) (h : ss_Hp) (rr : Int32) (hh : ss_Hp) (hm : mm_S_look N this a1 a2 h = some (rr, hh)) : ss_Ct l G yy_S_look bb_S_look 3 (some (.int)) ({ frames := 7, cells := 0, slots := 0, locals := 195 }) [ss_v (ss_b G) this, .int a1, .int a2] h (some (.int rr)) hh := by
  obtain ⟨hck, hm⟩ := ss_chk hm
  refine Met.ofW (cc := bb_S_look) (maxL := 3) (ret := (some (.int))) (by decide) rfl ?_
  intro p e s m args below meth c s₁ B hml hv
  obtain ⟨rfl, hR, hK⟩ := hv
  have hC : CallFix p m c bb_S_look 3 s _ lw_g sR_11 := ⟨B.exec, B.bytes, hml, findClass_of_methodNamed B.named, fun w hw => atoms_spec (ws := ss_w yy_S_look bb_S_look 3 (some (.int))) B.pre w (List.mem_cons_of_mem _ hw)⟩
  have hx := hC.1
  have hb := hC.2.1
  have hr := B.returns
  have hlocks := B.notSynchronized
  have hS : va_S (ss_A G) s.heap s.heap [] := va_S.rf
  have hl := lv_entry ([ss_v (ss_b G) this, .int a1, .int a2]) (n := 3) (by simp [lg_sl, ss_v_cat, ss_cat_i, ss_cat_l, ss_cat_r])
  rw [lg_entry_eq]
  generalize (lg_sl ([ss_v (ss_b G) this, .int a1, .int a2]) ++ List.replicate (3 - (lg_sl ([ss_v (ss_b G) this, .int a1, .int a2])).length) Slot.unset).toArray = ls at hl ⊢
  have hl : lv_has ls 3 [(0, ss_v (ss_b G) this), (1, .int a1), (2, .int a2)] := by simpa [lv_args, ss_v_cat, ss_cat_i, ss_cat_l, ss_cat_r] using hl
  have J_32 : ∀ (h_32 : ss_Hp) (H : Heap) (locs : List Loc) (ls : Array Slot), mm_S_look_j32 N this a1 a2 h_32 = some (rr, hh) → ss_R G h_32 H → va_S (ss_A G) s.heap H locs → lv_has ls 3 [] → ww_S_look p l e s m below meth c G this a1 a2 h rr hh  H locs 0 0 (F0 m 32 ls []) := by
    intro h_32 H locs ls hm hR hS hl
    refine lv_iconst (v := -1) hx hb dd_S_look_32 (by decide) ?_
    exact ss_iret hC hr hlocks hR hS hm dd_S_look_33
  have J_60 : ∀ (s0_60 : Option Nat) (s1_60 : Int32) (h_60 : ss_Hp) (H : Heap) (locs : List Loc) (ls : Array Slot), mm_S_look_j60 N this a1 a2 s0_60 s1_60 h_60 = some (rr, hh) → ss_R G h_60 H → va_S (ss_A G) s.heap H locs → lv_has ls 3 [] → ww_S_look p l e s m below meth c G this a1 a2 h rr hh  H locs 0 0 (F0 m 60 ls [.int s1_60, ss_v (ss_b G) s0_60]) := by
    intro s0_60 s1_60 h_60 H locs ls hm hR hS hl
    obtain ⟨v1, qv1, hm⟩ := ss_bind hm
    refine ss_cV 0 0 (As := [.int s1_60]) hC hK hR hS hl.1 (cc_F_partingStep l G N _ _ _ _ qv1) km_S_286 (ck_F_partingStep qv1) ⟨Nat.le_of_ble_eq_true rfl, Nat.le_of_ble_eq_true rfl⟩ ⟨Nat.le_of_ble_eq_true rfl, Nat.le_of_ble_eq_true rfl, Nat.le_of_ble_eq_true rfl, Nat.le_of_ble_eq_true rfl⟩ rfl rfl (Nat.le_of_ble_eq_true rfl) dd_S_look_60 (fun H locs hR hS => ?_)
    exact ss_iret hC hr hlocks hR hS hm dd_S_look_63
  refine ss_aload_n hx hb dd_S_look_0 rfl (lv_at hl 0 rfl) ?_
  obtain ⟨r2, qr2, hm⟩ := ss_bind hm
  refine ss_getr hC hK hR kf_S_41 rfl qr2 dd_S_look_1 ?_
  obtain ⟨r3, qr3, hm⟩ := ss_bind hm
  refine ss_getr hC hK hR kf_S_58 rfl qr3 dd_S_look_4 ?_
  obtain ⟨v4, qv4, hm⟩ := ss_bind hm
  refine ss_geti hC hK hR kf_S_169 qv4 dd_S_look_7 ?_
  refine lv_if_eq (tgt := 32) hx hb dd_S_look_10 (by decide) (fun c5 => ?_) (fun c5 => ?_)
  · have hm := ss_ift hm c5
    exact J_32 h _ _ _ hm hR hS (lv_sub hl [] rfl)
  · have hm := ss_iff hm c5
    refine lv_iload_n hx hb dd_S_look_13 rfl (lv_at hl 1 rfl) ?_
    refine lv_iconst (v := 0) hx hb dd_S_look_14 (by decide) ?_
    refine lv_bipush (v := 60) hx hb dd_S_look_15 (by decide) ?_
    obtain ⟨v6, qv6, hm⟩ := ss_bind hm
    refine ss_cS 0 0 (As := [.int a1, .int (0 : Int32), .int (60 : Int32)]) hC hK hR hS hl.1 (cc_S_isWithin l G N _ _ _ _ _ qv6) km_S_194 ⟨Nat.le_of_ble_eq_true rfl, Nat.le_of_ble_eq_true rfl⟩ ⟨Nat.le_of_ble_eq_true rfl, Nat.le_of_ble_eq_true rfl, Nat.le_of_ble_eq_true rfl, Nat.le_of_ble_eq_true rfl⟩ rfl rfl (Nat.le_of_ble_eq_true rfl) dd_S_look_17 (fun H locs hR hS => ?_)
    refine lv_if_eq (tgt := 32) hx hb dd_S_look_20 (by decide) (fun c7 => ?_) (fun c7 => ?_)
    · have hm := ss_ift hm c7
      exact J_32 h _ _ _ hm hR hS (lv_sub hl [] rfl)
    · have hm := ss_iff hm c7
      refine lv_iload_n hx hb dd_S_look_23 rfl (lv_at hl 2 rfl) ?_
      refine lv_iconst (v := 0) hx hb dd_S_look_24 (by decide) ?_
      refine lv_iconst (v := 1) hx hb dd_S_look_25 (by decide) ?_
      obtain ⟨v8, qv8, hm⟩ := ss_bind hm
      refine ss_cS 0 0 (As := [.int a2, .int (0 : Int32), .int (1 : Int32)]) hC hK hR hS hl.1 (cc_S_isWithin l G N _ _ _ _ _ qv8) km_S_194 ⟨Nat.le_of_ble_eq_true rfl, Nat.le_of_ble_eq_true rfl⟩ ⟨Nat.le_of_ble_eq_true rfl, Nat.le_of_ble_eq_true rfl, Nat.le_of_ble_eq_true rfl, Nat.le_of_ble_eq_true rfl⟩ rfl rfl (Nat.le_of_ble_eq_true rfl) dd_S_look_26 (fun H locs hR hS => ?_)
      refine lv_if_ne (tgt := 34) hx hb dd_S_look_29 (by decide) (fun c9 => ?_) (fun c9 => ?_)
      · have hm := ss_iff hm c9
        refine ss_aload_n hx hb dd_S_look_34 rfl (lv_at hl 0 rfl) ?_
        obtain ⟨r10, qr10, hm⟩ := ss_bind hm
        refine ss_getr hC hK hR kf_S_74 rfl qr10 dd_S_look_35 ?_
        refine ss_aload_n hx hb dd_S_look_38 rfl (lv_at hl 0 rfl) ?_
        obtain ⟨v11, qv11, hm⟩ := ss_bind hm
        refine ss_geti hC hK hR kf_S_113 qv11 dd_S_look_39 ?_
        refine lv_iload_n hx hb dd_S_look_42 rfl (lv_at hl 1 rfl) ?_
        obtain ⟨h12, qh12, hm⟩ := ss_bind hm
        refine ss_cVv 0 0 (As := [.int v11, .int a1]) hC hK hR hS hl.1 (cc_F_judge l G N _ _ _ _ _ qh12) km_S_277 (ck_F_judge qh12) ⟨Nat.le_of_ble_eq_true rfl, Nat.le_of_ble_eq_true rfl⟩ ⟨Nat.le_of_ble_eq_true rfl, Nat.le_of_ble_eq_true rfl, Nat.le_of_ble_eq_true rfl, Nat.le_of_ble_eq_true rfl⟩ rfl rfl (Nat.le_of_ble_eq_true rfl) dd_S_look_43 (fun H locs hR hS => ?_)
        refine ss_aload_n hx hb dd_S_look_46 rfl (lv_at hl 0 rfl) ?_
        obtain ⟨r13, qr13, hm⟩ := ss_bind hm
        refine ss_getr hC hK hR kf_S_74 rfl qr13 dd_S_look_47 ?_
        refine lv_iload_n hx hb dd_S_look_50 rfl (lv_at hl 2 rfl) ?_
        refine lv_iconst (v := 1) hx hb dd_S_look_51 (by decide) ?_
        refine lv_icmp_ne (tgt := 59) hx hb dd_S_look_52 (by decide) (fun c14 => ?_) (fun c14 => ?_)
        · have hm := ss_iff hm c14
          refine lv_iconst (v := 0) hx hb dd_S_look_59 (by decide) ?_
          exact J_60 r13 (0 : Int32) h12 _ _ _ hm hR hS (lv_sub hl [] rfl)
        · have hm := ss_ift hm c14
          refine lv_iconst (v := 1) hx hb dd_S_look_55 (by decide) ?_
          refine lv_goto (tgt := 60) hx hb dd_S_look_56 (by decide) ?_
          exact J_60 r13 (1 : Int32) h12 _ _ _ hm hR hS (lv_sub hl [] rfl)
      · have hm := ss_ift hm c9
        exact J_32 h _ _ _ hm hR hS (lv_sub hl [] rfl)
theorem dd_S_seed_0 : decode bb_S_seed 0 = .ok (.iload_n 1, 1) := by decide +kernel
theorem dd_S_seed_1 : decode bb_S_seed 1 = .ok (.ifCond .ge 5, 3) := by decide +kernel
theorem dd_S_seed_4 : decode bb_S_seed 4 = .ok (.iconst (-1), 1) := by decide +kernel
theorem dd_S_seed_5 : decode bb_S_seed 5 = .ok (.ireturn, 1) := by decide +kernel
theorem dd_S_seed_6 : decode bb_S_seed 6 = .ok (.aload_n 0, 1) := by decide +kernel
theorem dd_S_seed_7 : decode bb_S_seed 7 = .ok (.getfield 41, 3) := by decide +kernel
theorem dd_S_seed_10 : decode bb_S_seed 10 = .ok (.getfield 289, 3) := by decide +kernel
theorem dd_S_seed_13 : decode bb_S_seed 13 = .ok (.istore_n 2, 1) := by decide +kernel
theorem dd_S_seed_14 : decode bb_S_seed 14 = .ok (.aload_n 0, 1) := by decide +kernel
theorem dd_S_seed_15 : decode bb_S_seed 15 = .ok (.getfield 41, 3) := by decide +kernel
theorem dd_S_seed_18 : decode bb_S_seed 18 = .ok (.iload_n 1, 1) := by decide +kernel
theorem dd_S_seed_19 : decode bb_S_seed 19 = .ok (.putfield 289, 3) := by decide +kernel
theorem dd_S_seed_22 : decode bb_S_seed 22 = .ok (.iload_n 2, 1) := by decide +kernel
theorem dd_S_seed_23 : decode bb_S_seed 23 = .ok (.ireturn, 1) := by decide +kernel
def mm_S_seed (N : Nat) (this : Option Nat) (a1 : Int32) (h : ss_Hp) : Option (Int32 × ss_Hp) :=
  if ss_is h this 11 = true then
    if 0 ≤ a1 then
      (ss_gr h this 11 4).bind fun r2 =>
      (ss_gi h r2 8 1).bind fun v3 =>
      (ss_gr h this 11 4).bind fun r4 =>
      (ss_pi h r4 8 1 a1).bind fun h5 =>
      some (v3, h5)
    else
      some ((-1 : Int32), h)
  else none
abbrev ww_S_seed (p : Program) (l : Launch) (e : Env) (s : State) (m : MethodId) (below : List Frame) (meth : Method) (c : Code) (G : ss_G) (this : Option Nat) (a1 : Int32) (h : ss_Hp) (rr : Int32) (hh : ss_Hp) (H : Heap) (locs : List Loc) (k n : Nat) (g : JFrame) : Prop := W p l e (headSpec (ss_w yy_S_seed bb_S_seed 3 (some (.int))) ({ frames := 0, cells := 0, slots := 0, locals := 0 })).room s m ([ss_v (ss_b G) this, .int a1] : List Value).toArray below meth c H locs k n (MQ below (ss_Qc G (some (.int rr)) hh) ([ss_v (ss_b G) this, .int a1] : List Value).toArray s 0 0 (ss_A G)) g
theorem ck_S_seed {N : Nat} {this : Option Nat} {a1 : Int32} {h : ss_Hp} {res : Int32 × ss_Hp} (hm : mm_S_seed N this a1 h = some res) : ss_is h this 11 = true := (ss_chk hm).1
set_option maxHeartbeats 4000000 in
set_option maxRecDepth 100000 in
theorem cc_S_seed (l : Launch) (G : ss_G) (N : Nat) (this : Option Nat) (a1 : Int32) (h : ss_Hp) (rr : Int32) (hh : ss_Hp) (hm : mm_S_seed N this a1 h = some (rr, hh)) : ss_Ct l G yy_S_seed bb_S_seed 3 (some (.int)) ({ frames := 0, cells := 0, slots := 0, locals := 0 }) [ss_v (ss_b G) this, .int a1] h (some (.int rr)) hh := by
  obtain ⟨hck, hm⟩ := ss_chk hm
  refine Met.ofW (cc := bb_S_seed) (maxL := 3) (ret := (some (.int))) (by decide) rfl ?_
  intro p e s m args below meth c s₁ B hml hv
  obtain ⟨rfl, hR, hK⟩ := hv
  have hC : CallFix p m c bb_S_seed 3 s _ lw_g sR_11 := ⟨B.exec, B.bytes, hml, findClass_of_methodNamed B.named, fun w hw => atoms_spec (ws := ss_w yy_S_seed bb_S_seed 3 (some (.int))) B.pre w (List.mem_cons_of_mem _ hw)⟩
  have hx := hC.1
  have hb := hC.2.1
  have hr := B.returns
  have hlocks := B.notSynchronized
  have hS : va_S (ss_A G) s.heap s.heap [] := va_S.rf
  have hl := lv_entry ([ss_v (ss_b G) this, .int a1]) (n := 3) (by simp [lg_sl, ss_v_cat, ss_cat_i, ss_cat_l, ss_cat_r])
  rw [lg_entry_eq]
  generalize (lg_sl ([ss_v (ss_b G) this, .int a1]) ++ List.replicate (3 - (lg_sl ([ss_v (ss_b G) this, .int a1])).length) Slot.unset).toArray = ls at hl ⊢
  have hl : lv_has ls 3 [(0, ss_v (ss_b G) this), (1, .int a1)] := by simpa [lv_args, ss_v_cat, ss_cat_i, ss_cat_l, ss_cat_r] using hl
  refine lv_iload_n hx hb dd_S_seed_0 rfl (lv_at hl 1 rfl) ?_
  refine lv_if_ge (tgt := 6) hx hb dd_S_seed_1 (by decide) (fun c1 => ?_) (fun c1 => ?_)
  · have hm := ss_ift hm c1
    refine ss_aload_n hx hb dd_S_seed_6 rfl (lv_at hl 0 rfl) ?_
    obtain ⟨r2, qr2, hm⟩ := ss_bind hm
    refine ss_getr hC hK hR kf_S_41 rfl qr2 dd_S_seed_7 ?_
    obtain ⟨v3, qv3, hm⟩ := ss_bind hm
    refine ss_geti hC hK hR kf_S_289 qv3 dd_S_seed_10 ?_
    refine lv_istore_n (lv' := [(2, .int v3), (0, ss_v (ss_b G) this), (1, .int a1)]) hx hb dd_S_seed_13 rfl hl (by decide) rfl (fun ls hl => ?_)
    refine ss_aload_n hx hb dd_S_seed_14 rfl (lv_at hl 1 rfl) ?_
    obtain ⟨r4, qr4, hm⟩ := ss_bind hm
    refine ss_getr hC hK hR kf_S_41 rfl qr4 dd_S_seed_15 ?_
    refine lv_iload_n hx hb dd_S_seed_18 rfl (lv_at hl 2 rfl) ?_
    obtain ⟨h5, qh5, hm⟩ := ss_bind hm
    refine ss_puti hC hK hR hS kp_S_289 qh5 dd_S_seed_19 (fun H locs hR hS => ?_)
    refine lv_iload_n hx hb dd_S_seed_22 rfl (lv_at hl 0 rfl) ?_
    exact ss_iret hC hr hlocks hR hS hm dd_S_seed_23
  · have hm := ss_iff hm c1
    refine lv_iconst (v := -1) hx hb dd_S_seed_4 (by decide) ?_
    exact ss_iret hC hr hlocks hR hS hm dd_S_seed_5
theorem dd_F_draw_0 : decode bb_F_draw 0 = .ok (.aload_n 0, 1) := by decide +kernel
theorem dd_F_draw_1 : decode bb_F_draw 1 = .ok (.getfield 19, 3) := by decide +kernel
theorem dd_F_draw_4 : decode bb_F_draw 4 = .ok (.aload_n 0, 1) := by decide +kernel
theorem dd_F_draw_5 : decode bb_F_draw 5 = .ok (.getfield 19, 3) := by decide +kernel
theorem dd_F_draw_8 : decode bb_F_draw 8 = .ok (.getfield 156, 3) := by decide +kernel
theorem dd_F_draw_11 : decode bb_F_draw 11 = .ok (.i2l, 1) := by decide +kernel
theorem dd_F_draw_12 : decode bb_F_draw 12 = .ok (.ldc2_w 175, 3) := by decide +kernel
theorem dd_F_draw_15 : decode bb_F_draw 15 = .ok (.lmul, 1) := by decide +kernel
theorem dd_F_draw_16 : decode bb_F_draw 16 = .ok (.ldc2_w 177, 3) := by decide +kernel
theorem dd_F_draw_19 : decode bb_F_draw 19 = .ok (.ladd, 1) := by decide +kernel
theorem dd_F_draw_20 : decode bb_F_draw 20 = .ok (.ldc2_w 179, 3) := by decide +kernel
theorem dd_F_draw_23 : decode bb_F_draw 23 = .ok (.land, 1) := by decide +kernel
theorem dd_F_draw_24 : decode bb_F_draw 24 = .ok (.l2i, 1) := by decide +kernel
theorem dd_F_draw_25 : decode bb_F_draw 25 = .ok (.putfield 156, 3) := by decide +kernel
theorem dd_F_draw_28 : decode bb_F_draw 28 = .ok (.aload_n 0, 1) := by decide +kernel
theorem dd_F_draw_29 : decode bb_F_draw 29 = .ok (.getfield 19, 3) := by decide +kernel
theorem dd_F_draw_32 : decode bb_F_draw 32 = .ok (.getfield 156, 3) := by decide +kernel
theorem dd_F_draw_35 : decode bb_F_draw 35 = .ok (.ldc 181, 2) := by decide +kernel
theorem dd_F_draw_37 : decode bb_F_draw 37 = .ok (.idiv, 1) := by decide +kernel
theorem dd_F_draw_38 : decode bb_F_draw 38 = .ok (.ireturn, 1) := by decide +kernel
def mm_F_draw (N : Nat) (this : Option Nat) (h : ss_Hp) : Option (Int32 × ss_Hp) :=
  if ss_is h this 9 = true then
    (ss_gr h this 9 0).bind fun r1 =>
    (ss_gr h this 9 0).bind fun r2 =>
    (ss_gi h r2 8 1).bind fun v3 =>
    (ss_pi h r1 8 1 (((((((v3).toInt64) * (1103515245 : Int64)) + (12345 : Int64)) &&& (2147483647 : Int64))).toInt32)).bind fun h4 =>
    (ss_gr h4 this 9 0).bind fun r5 =>
    (ss_gi h4 r5 8 1).bind fun v6 =>
    (ss_div v6 (65536 : Int32)).bind fun v7 =>
    some (v7, h4)
  else none
abbrev ww_F_draw (p : Program) (l : Launch) (e : Env) (s : State) (m : MethodId) (below : List Frame) (meth : Method) (c : Code) (G : ss_G) (this : Option Nat) (h : ss_Hp) (rr : Int32) (hh : ss_Hp) (H : Heap) (locs : List Loc) (k n : Nat) (g : JFrame) : Prop := W p l e (headSpec (ss_w yy_F_draw bb_F_draw 1 (some (.int))) ({ frames := 0, cells := 0, slots := 0, locals := 0 })).room s m ([ss_v (ss_b G) this] : List Value).toArray below meth c H locs k n (MQ below (ss_Qc G (some (.int rr)) hh) ([ss_v (ss_b G) this] : List Value).toArray s 0 0 (ss_A G)) g
theorem ck_F_draw {N : Nat} {this : Option Nat} {h : ss_Hp} {res : Int32 × ss_Hp} (hm : mm_F_draw N this h = some res) : ss_is h this 9 = true := (ss_chk hm).1
set_option maxHeartbeats 4000000 in
set_option maxRecDepth 100000 in
theorem cc_F_draw (l : Launch) (G : ss_G) (N : Nat) (this : Option Nat) (h : ss_Hp) (rr : Int32) (hh : ss_Hp) (hm : mm_F_draw N this h = some (rr, hh)) : ss_Ct l G yy_F_draw bb_F_draw 1 (some (.int)) ({ frames := 0, cells := 0, slots := 0, locals := 0 }) [ss_v (ss_b G) this] h (some (.int rr)) hh := by
  obtain ⟨hck, hm⟩ := ss_chk hm
  refine Met.ofW (cc := bb_F_draw) (maxL := 1) (ret := (some (.int))) (by decide) rfl ?_
  intro p e s m args below meth c s₁ B hml hv
  obtain ⟨rfl, hR, hK⟩ := hv
  have hC : CallFix p m c bb_F_draw 1 s _ lw_g sR_9 := ⟨B.exec, B.bytes, hml, findClass_of_methodNamed B.named, fun w hw => atoms_spec (ws := ss_w yy_F_draw bb_F_draw 1 (some (.int))) B.pre w (List.mem_cons_of_mem _ hw)⟩
  have hx := hC.1
  have hb := hC.2.1
  have hr := B.returns
  have hlocks := B.notSynchronized
  have hS : va_S (ss_A G) s.heap s.heap [] := va_S.rf
  have hl := lv_entry ([ss_v (ss_b G) this]) (n := 1) (by simp [lg_sl, ss_v_cat, ss_cat_i, ss_cat_l, ss_cat_r])
  rw [lg_entry_eq]
  generalize (lg_sl ([ss_v (ss_b G) this]) ++ List.replicate (1 - (lg_sl ([ss_v (ss_b G) this])).length) Slot.unset).toArray = ls at hl ⊢
  have hl : lv_has ls 1 [(0, ss_v (ss_b G) this)] := by simpa [lv_args, ss_v_cat, ss_cat_i, ss_cat_l, ss_cat_r] using hl
  refine ss_aload_n hx hb dd_F_draw_0 rfl (lv_at hl 0 rfl) ?_
  obtain ⟨r1, qr1, hm⟩ := ss_bind hm
  refine ss_getr hC hK hR kf_F_19 rfl qr1 dd_F_draw_1 ?_
  refine ss_aload_n hx hb dd_F_draw_4 rfl (lv_at hl 0 rfl) ?_
  obtain ⟨r2, qr2, hm⟩ := ss_bind hm
  refine ss_getr hC hK hR kf_F_19 rfl qr2 dd_F_draw_5 ?_
  obtain ⟨v3, qv3, hm⟩ := ss_bind hm
  refine ss_geti hC hK hR kf_F_156 qv3 dd_F_draw_8 ?_
  refine lv_i2l hx hb dd_F_draw_11 rfl ?_
  refine lv_ldc2 (v := 1103515245) hx hb hC.2.2.2.1 (hC.2.2.2.2 _ kl_F_175) dd_F_draw_12 ?_
  refine lv_lmul hx hb dd_F_draw_15 ?_
  refine lv_ldc2 (v := 12345) hx hb hC.2.2.2.1 (hC.2.2.2.2 _ kl_F_177) dd_F_draw_16 ?_
  refine lv_ladd hx hb dd_F_draw_19 ?_
  refine lv_ldc2 (v := 2147483647) hx hb hC.2.2.2.1 (hC.2.2.2.2 _ kl_F_179) dd_F_draw_20 ?_
  refine lv_land hx hb dd_F_draw_23 ?_
  refine lv_l2i hx hb dd_F_draw_24 rfl ?_
  obtain ⟨h4, qh4, hm⟩ := ss_bind hm
  refine ss_puti hC hK hR hS kp_F_156 qh4 dd_F_draw_25 (fun H locs hR hS => ?_)
  refine ss_aload_n hx hb dd_F_draw_28 rfl (lv_at hl 0 rfl) ?_
  obtain ⟨r5, qr5, hm⟩ := ss_bind hm
  refine ss_getr hC hK hR kf_F_19 rfl qr5 dd_F_draw_29 ?_
  obtain ⟨v6, qv6, hm⟩ := ss_bind hm
  refine ss_geti hC hK hR kf_F_156 qv6 dd_F_draw_32 ?_
  refine lv_ldc (v := 65536) hx hb hC.2.2.2.1 (hC.2.2.2.2 _ kc_F_181) dd_F_draw_35 ?_
  obtain ⟨v7, qv7, hm⟩ := ss_bind hm
  refine ss_idiv hx hb qv7 dd_F_draw_37 ?_
  exact ss_iret hC hr hlocks hR hS hm dd_F_draw_38
theorem dd_F_blow_0 : decode bb_F_blow 0 = .ok (.aload_n 0, 1) := by decide +kernel
theorem dd_F_blow_1 : decode bb_F_blow 1 = .ok (.invokevirtual 165, 3) := by decide +kernel
theorem dd_F_blow_4 : decode bb_F_blow 4 = .ok (.bipush 100, 2) := by decide +kernel
theorem dd_F_blow_6 : decode bb_F_blow 6 = .ok (.irem, 1) := by decide +kernel
theorem dd_F_blow_7 : decode bb_F_blow 7 = .ok (.iload_n 1, 1) := by decide +kernel
theorem dd_F_blow_8 : decode bb_F_blow 8 = .ok (.if_icmp .ge 7, 3) := by decide +kernel
theorem dd_F_blow_11 : decode bb_F_blow 11 = .ok (.iconst 1, 1) := by decide +kernel
theorem dd_F_blow_12 : decode bb_F_blow 12 = .ok (.goto 4, 3) := by decide +kernel
theorem dd_F_blow_15 : decode bb_F_blow 15 = .ok (.iconst 0, 1) := by decide +kernel
theorem dd_F_blow_16 : decode bb_F_blow 16 = .ok (.istore_n 2, 1) := by decide +kernel
theorem dd_F_blow_17 : decode bb_F_blow 17 = .ok (.aload_n 0, 1) := by decide +kernel
theorem dd_F_blow_18 : decode bb_F_blow 18 = .ok (.getfield 19, 3) := by decide +kernel
theorem dd_F_blow_21 : decode bb_F_blow 21 = .ok (.getfield 77, 3) := by decide +kernel
theorem dd_F_blow_24 : decode bb_F_blow 24 = .ok (.getfield 81, 3) := by decide +kernel
theorem dd_F_blow_27 : decode bb_F_blow 27 = .ok (.istore_n 3, 1) := by decide +kernel
theorem dd_F_blow_28 : decode bb_F_blow 28 = .ok (.iload_n 2, 1) := by decide +kernel
theorem dd_F_blow_29 : decode bb_F_blow 29 = .ok (.ifCond .eq 33, 3) := by decide +kernel
theorem dd_F_blow_32 : decode bb_F_blow 32 = .ok (.iload_n 3, 1) := by decide +kernel
theorem dd_F_blow_33 : decode bb_F_blow 33 = .ok (.ifCond .le 29, 3) := by decide +kernel
theorem dd_F_blow_36 : decode bb_F_blow 36 = .ok (.aload_n 0, 1) := by decide +kernel
theorem dd_F_blow_37 : decode bb_F_blow 37 = .ok (.getfield 27, 3) := by decide +kernel
theorem dd_F_blow_40 : decode bb_F_blow 40 = .ok (.getfield 62, 3) := by decide +kernel
theorem dd_F_blow_43 : decode bb_F_blow 43 = .ok (.aload_n 0, 1) := by decide +kernel
theorem dd_F_blow_44 : decode bb_F_blow 44 = .ok (.invokevirtual 165, 3) := by decide +kernel
theorem dd_F_blow_47 : decode bb_F_blow 47 = .ok (.iload_n 3, 1) := by decide +kernel
theorem dd_F_blow_48 : decode bb_F_blow 48 = .ok (.irem, 1) := by decide +kernel
theorem dd_F_blow_49 : decode bb_F_blow 49 = .ok (.aload_n 0, 1) := by decide +kernel
theorem dd_F_blow_50 : decode bb_F_blow 50 = .ok (.getfield 19, 3) := by decide +kernel
theorem dd_F_blow_53 : decode bb_F_blow 53 = .ok (.getfield 77, 3) := by decide +kernel
theorem dd_F_blow_56 : decode bb_F_blow 56 = .ok (.getfield 168, 3) := by decide +kernel
theorem dd_F_blow_59 : decode bb_F_blow 59 = .ok (.invokevirtual 171, 3) := by decide +kernel
theorem dd_F_blow_62 : decode bb_F_blow 62 = .ok (.return_, 1) := by decide +kernel
def mm_F_blow_j62 (N : Nat) (this : Option Nat) (a1 : Int32) (h_62 : ss_Hp) : Option ss_Hp :=
  some h_62
def mm_F_blow_j16 (N : Nat) (this : Option Nat) (a1 : Int32) (s0_16 : Int32) (h_16 : ss_Hp) : Option ss_Hp :=
  (ss_gr h_16 this 9 0).bind fun r1 =>
  (ss_gr h_16 r1 8 0).bind fun r2 =>
  (ss_gi h_16 r2 5 3).bind fun v3 =>
  if s0_16 = 0 then
    mm_F_blow_j62 N this a1 h_16
  else
    if v3 ≤ 0 then
      mm_F_blow_j62 N this a1 h_16
    else
      (ss_gr h_16 this 9 2).bind fun r6 =>
      (ss_gr h_16 r6 7 0).bind fun r7 =>
      ss_b2 (mm_F_draw N this h_16) fun v8 h9 =>
      (ss_rem v8 v3).bind fun v10 =>
      (ss_gr h9 this 9 0).bind fun r11 =>
      (ss_gr h9 r11 8 0).bind fun r12 =>
      (ss_gi h9 r12 5 1).bind fun v13 =>
      (mm_G_lay N r7 v10 v13 h9).bind fun h14 =>
      mm_F_blow_j62 N this a1 h14
def mm_F_blow (N : Nat) (this : Option Nat) (a1 : Int32) (h : ss_Hp) : Option ss_Hp :=
  if ss_is h this 9 = true then
    ss_b2 (mm_F_draw N this h) fun v15 h16 =>
    (ss_rem v15 (100 : Int32)).bind fun v17 =>
    if a1 ≤ v17 then
      mm_F_blow_j16 N this a1 (0 : Int32) h16
    else
      mm_F_blow_j16 N this a1 (1 : Int32) h16
  else none
abbrev ww_F_blow (p : Program) (l : Launch) (e : Env) (s : State) (m : MethodId) (below : List Frame) (meth : Method) (c : Code) (G : ss_G) (this : Option Nat) (a1 : Int32) (h : ss_Hp) (hh : ss_Hp) (H : Heap) (locs : List Loc) (k n : Nat) (g : JFrame) : Prop := W p l e (headSpec (ss_w yy_F_blow bb_F_blow 4 none) ({ frames := 2, cells := 0, slots := 0, locals := 102 })).room s m ([ss_v (ss_b G) this, .int a1] : List Value).toArray below meth c H locs k n (MQ below (ss_Qc G none hh) ([ss_v (ss_b G) this, .int a1] : List Value).toArray s 0 0 (ss_A G)) g
theorem ck_F_blow {N : Nat} {this : Option Nat} {a1 : Int32} {h : ss_Hp} {res : ss_Hp} (hm : mm_F_blow N this a1 h = some res) : ss_is h this 9 = true := (ss_chk hm).1
set_option maxHeartbeats 4000000 in
set_option maxRecDepth 100000 in
theorem cc_F_blow (l : Launch) (G : ss_G) (N : Nat) (this : Option Nat) (a1 : Int32) (h : ss_Hp) (hh : ss_Hp) (hm : mm_F_blow N this a1 h = some hh) : ss_Ct l G yy_F_blow bb_F_blow 4 none ({ frames := 2, cells := 0, slots := 0, locals := 102 }) [ss_v (ss_b G) this, .int a1] h none hh := by
  obtain ⟨hck, hm⟩ := ss_chk hm
  refine Met.ofW (cc := bb_F_blow) (maxL := 4) (ret := none) (by decide) rfl ?_
  intro p e s m args below meth c s₁ B hml hv
  obtain ⟨rfl, hR, hK⟩ := hv
  have hC : CallFix p m c bb_F_blow 4 s _ lw_g sR_9 := ⟨B.exec, B.bytes, hml, findClass_of_methodNamed B.named, fun w hw => atoms_spec (ws := ss_w yy_F_blow bb_F_blow 4 none) B.pre w (List.mem_cons_of_mem _ hw)⟩
  have hx := hC.1
  have hb := hC.2.1
  have hr := B.returns
  have hlocks := B.notSynchronized
  have hS : va_S (ss_A G) s.heap s.heap [] := va_S.rf
  have hl := lv_entry ([ss_v (ss_b G) this, .int a1]) (n := 4) (by simp [lg_sl, ss_v_cat, ss_cat_i, ss_cat_l, ss_cat_r])
  rw [lg_entry_eq]
  generalize (lg_sl ([ss_v (ss_b G) this, .int a1]) ++ List.replicate (4 - (lg_sl ([ss_v (ss_b G) this, .int a1])).length) Slot.unset).toArray = ls at hl ⊢
  have hl : lv_has ls 4 [(0, ss_v (ss_b G) this), (1, .int a1)] := by simpa [lv_args, ss_v_cat, ss_cat_i, ss_cat_l, ss_cat_r] using hl
  have J_62 : ∀ (h_62 : ss_Hp) (H : Heap) (locs : List Loc) (ls : Array Slot), mm_F_blow_j62 N this a1 h_62 = some hh → ss_R G h_62 H → va_S (ss_A G) s.heap H locs → lv_has ls 4 [] → ww_F_blow p l e s m below meth c G this a1 h hh  H locs 0 0 (F0 m 62 ls []) := by
    intro h_62 H locs ls hm hR hS hl
    exact ss_vret hC hr hlocks hR hS hm dd_F_blow_62
  have J_16 : ∀ (s0_16 : Int32) (h_16 : ss_Hp) (H : Heap) (locs : List Loc) (ls : Array Slot), mm_F_blow_j16 N this a1 s0_16 h_16 = some hh → ss_R G h_16 H → va_S (ss_A G) s.heap H locs → lv_has ls 4 [(0, ss_v (ss_b G) this)] → ww_F_blow p l e s m below meth c G this a1 h hh  H locs 0 0 (F0 m 16 ls [.int s0_16]) := by
    intro s0_16 h_16 H locs ls hm hR hS hl
    refine lv_istore_n (lv' := [(2, .int s0_16), (0, ss_v (ss_b G) this)]) hx hb dd_F_blow_16 rfl hl (by decide) rfl (fun ls hl => ?_)
    refine ss_aload_n hx hb dd_F_blow_17 rfl (lv_at hl 1 rfl) ?_
    obtain ⟨r1, qr1, hm⟩ := ss_bind hm
    refine ss_getr hC hK hR kf_F_19 rfl qr1 dd_F_blow_18 ?_
    obtain ⟨r2, qr2, hm⟩ := ss_bind hm
    refine ss_getr hC hK hR kf_F_77 rfl qr2 dd_F_blow_21 ?_
    obtain ⟨v3, qv3, hm⟩ := ss_bind hm
    refine ss_geti hC hK hR kf_F_81 qv3 dd_F_blow_24 ?_
    refine lv_istore_n (lv' := [(3, .int v3), (2, .int s0_16), (0, ss_v (ss_b G) this)]) hx hb dd_F_blow_27 rfl hl (by decide) rfl (fun ls hl => ?_)
    refine lv_iload_n hx hb dd_F_blow_28 rfl (lv_at hl 1 rfl) ?_
    refine lv_if_eq (tgt := 62) hx hb dd_F_blow_29 (by decide) (fun c4 => ?_) (fun c4 => ?_)
    · have hm := ss_ift hm c4
      exact J_62 h_16 _ _ _ hm hR hS (lv_sub hl [] rfl)
    · have hm := ss_iff hm c4
      refine lv_iload_n hx hb dd_F_blow_32 rfl (lv_at hl 0 rfl) ?_
      refine lv_if_le (tgt := 62) hx hb dd_F_blow_33 (by decide) (fun c5 => ?_) (fun c5 => ?_)
      · have hm := ss_ift hm c5
        exact J_62 h_16 _ _ _ hm hR hS (lv_sub hl [] rfl)
      · have hm := ss_iff hm c5
        refine ss_aload_n hx hb dd_F_blow_36 rfl (lv_at hl 2 rfl) ?_
        obtain ⟨r6, qr6, hm⟩ := ss_bind hm
        refine ss_getr hC hK hR kf_F_27 rfl qr6 dd_F_blow_37 ?_
        obtain ⟨r7, qr7, hm⟩ := ss_bind hm
        refine ss_getr hC hK hR kf_F_62 rfl qr7 dd_F_blow_40 ?_
        refine ss_aload_n hx hb dd_F_blow_43 rfl (lv_at hl 2 rfl) ?_
        obtain ⟨v8, h9, qh9, hm⟩ := ss_bind2 hm
        refine ss_cV 0 0 (As := []) hC hK hR hS hl.1 (cc_F_draw l G N _ _ _ _ qh9) km_F_165 (ck_F_draw qh9) ⟨Nat.le_of_ble_eq_true rfl, Nat.le_of_ble_eq_true rfl⟩ ⟨Nat.le_of_ble_eq_true rfl, Nat.le_of_ble_eq_true rfl, Nat.le_of_ble_eq_true rfl, Nat.le_of_ble_eq_true rfl⟩ rfl rfl (by simp [ss_v_cat, ss_cat_i, ss_cat_l, ss_cat_r]) dd_F_blow_44 (fun H locs hR hS => ?_)
        refine lv_iload_n hx hb dd_F_blow_47 rfl (lv_at hl 0 rfl) ?_
        obtain ⟨v10, qv10, hm⟩ := ss_bind hm
        refine ss_irem hx hb qv10 dd_F_blow_48 ?_
        refine ss_aload_n hx hb dd_F_blow_49 rfl (lv_at hl 2 rfl) ?_
        obtain ⟨r11, qr11, hm⟩ := ss_bind hm
        refine ss_getr hC hK hR kf_F_19 rfl qr11 dd_F_blow_50 ?_
        obtain ⟨r12, qr12, hm⟩ := ss_bind hm
        refine ss_getr hC hK hR kf_F_77 rfl qr12 dd_F_blow_53 ?_
        obtain ⟨v13, qv13, hm⟩ := ss_bind hm
        refine ss_geti hC hK hR kf_F_168 qv13 dd_F_blow_56 ?_
        obtain ⟨h14, qh14, hm⟩ := ss_bind hm
        refine ss_cVv 0 0 (As := [.int v10, .int v13]) hC hK hR hS hl.1 (cc_G_lay l G N _ _ _ _ _ qh14) km_F_171 (ck_G_lay qh14) ⟨Nat.le_of_ble_eq_true rfl, Nat.le_of_ble_eq_true rfl⟩ ⟨Nat.le_of_ble_eq_true rfl, Nat.le_of_ble_eq_true rfl, Nat.le_of_ble_eq_true rfl, Nat.le_of_ble_eq_true rfl⟩ rfl rfl (Nat.le_of_ble_eq_true rfl) dd_F_blow_59 (fun H locs hR hS => ?_)
        exact J_62 h14 _ _ _ hm hR hS (lv_sub hl [] rfl)
  refine ss_aload_n hx hb dd_F_blow_0 rfl (lv_at hl 0 rfl) ?_
  obtain ⟨v15, h16, qh16, hm⟩ := ss_bind2 hm
  refine ss_cV 0 0 (As := []) hC hK hR hS hl.1 (cc_F_draw l G N _ _ _ _ qh16) km_F_165 (ck_F_draw qh16) ⟨Nat.le_of_ble_eq_true rfl, Nat.le_of_ble_eq_true rfl⟩ ⟨Nat.le_of_ble_eq_true rfl, Nat.le_of_ble_eq_true rfl, Nat.le_of_ble_eq_true rfl, Nat.le_of_ble_eq_true rfl⟩ rfl rfl (Nat.le_of_ble_eq_true rfl) dd_F_blow_1 (fun H locs hR hS => ?_)
  refine lv_bipush (v := 100) hx hb dd_F_blow_4 (by decide) ?_
  obtain ⟨v17, qv17, hm⟩ := ss_bind hm
  refine ss_irem hx hb qv17 dd_F_blow_6 ?_
  refine lv_iload_n hx hb dd_F_blow_7 rfl (lv_at hl 1 rfl) ?_
  refine lv_icmp_ge (tgt := 15) hx hb dd_F_blow_8 (by decide) (fun c18 => ?_) (fun c18 => ?_)
  · have hm := ss_ift hm c18
    refine lv_iconst (v := 0) hx hb dd_F_blow_15 (by decide) ?_
    exact J_16 (0 : Int32) h16 _ _ _ hm hR hS (lv_sub hl [0] rfl)
  · have hm := ss_iff hm c18
    refine lv_iconst (v := 1) hx hb dd_F_blow_11 (by decide) ?_
    refine lv_goto (tgt := 16) hx hb dd_F_blow_12 (by decide) ?_
    exact J_16 (1 : Int32) h16 _ _ _ hm hR hS (lv_sub hl [0] rfl)
