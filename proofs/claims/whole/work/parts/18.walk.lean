theorem dd_P_weight_0 : decode bb_P_weight 0 = .ok (.iconst 1, 1) := by decide +kernel
theorem dd_P_weight_1 : decode bb_P_weight 1 = .ok (.aload_n 0, 1) := by decide +kernel
theorem dd_P_weight_2 : decode bb_P_weight 2 = .ok (.getfield 21, 3) := by decide +kernel
theorem dd_P_weight_5 : decode bb_P_weight 5 = .ok (.invokevirtual 90, 3) := by decide +kernel
theorem dd_P_weight_8 : decode bb_P_weight 8 = .ok (.iload_n 1, 1) := by decide +kernel
theorem dd_P_weight_9 : decode bb_P_weight 9 = .ok (.ishr, 1) := by decide +kernel
theorem dd_P_weight_10 : decode bb_P_weight 10 = .ok (.iconst 1, 1) := by decide +kernel
theorem dd_P_weight_11 : decode bb_P_weight 11 = .ok (.iand, 1) := by decide +kernel
theorem dd_P_weight_12 : decode bb_P_weight 12 = .ok (.bipush 16, 2) := by decide +kernel
theorem dd_P_weight_14 : decode bb_P_weight 14 = .ok (.imul, 1) := by decide +kernel
theorem dd_P_weight_15 : decode bb_P_weight 15 = .ok (.iadd, 1) := by decide +kernel
theorem dd_P_weight_16 : decode bb_P_weight 16 = .ok (.ireturn, 1) := by decide +kernel
def mm_P_weight (N : Nat) (this : Option Nat) (a1 : Int32) (h : ss_Hp) : Option Int32 :=
  if ss_is h this 10 = true then
    (ss_gr h this 10 0).bind fun r1 =>
    (mm_Wo_closedBits N r1 h).bind fun v2 =>
    some ((1 : Int32) + (((v2 >>> (a1 &&& 31)) &&& (1 : Int32)) * (16 : Int32)))
  else none
abbrev ww_P_weight (p : Program) (l : Launch) (e : Env) (s : State) (m : MethodId) (below : List Frame) (meth : Method) (c : Code) (G : ss_G) (this : Option Nat) (a1 : Int32) (h : ss_Hp) (rr : Int32) (H : Heap) (locs : List Loc) (k n : Nat) (g : JFrame) : Prop := W p l e (headSpec (ss_w yy_P_weight bb_P_weight 2 (some (.int))) ({ frames := 2, cells := 0, slots := 0, locals := 43 })).room s m ([ss_v (ss_b G) this, .int a1] : List Value).toArray below meth c H locs k n (MQ below (ss_Qc G (some (.int rr)) h) ([ss_v (ss_b G) this, .int a1] : List Value).toArray s 0 0 (ss_A G)) g
theorem ck_P_weight {N : Nat} {this : Option Nat} {a1 : Int32} {h : ss_Hp} {res : Int32} (hm : mm_P_weight N this a1 h = some res) : ss_is h this 10 = true := (ss_chk hm).1
set_option maxHeartbeats 4000000 in
set_option maxRecDepth 100000 in
theorem cc_P_weight (l : Launch) (G : ss_G) (N : Nat) (this : Option Nat) (a1 : Int32) (h : ss_Hp) (rr : Int32) (hm : mm_P_weight N this a1 h = some rr) : ss_Ct l G yy_P_weight bb_P_weight 2 (some (.int)) ({ frames := 2, cells := 0, slots := 0, locals := 43 }) [ss_v (ss_b G) this, .int a1] h (some (.int rr)) h := by
  obtain ⟨hck, hm⟩ := ss_chk hm
  refine Met.ofW (cc := bb_P_weight) (maxL := 2) (ret := (some (.int))) (by decide) rfl ?_
  intro p e s m args below meth c s₁ B hml hv
  obtain ⟨rfl, hR, hK⟩ := hv
  have hC : CallFix p m c bb_P_weight 2 s _ lw_g sR_10 := ⟨B.exec, B.bytes, hml, findClass_of_methodNamed B.named, fun w hw => atoms_spec (ws := ss_w yy_P_weight bb_P_weight 2 (some (.int))) B.pre w (List.mem_cons_of_mem _ hw)⟩
  have hx := hC.1
  have hb := hC.2.1
  have hr := B.returns
  have hlocks := B.notSynchronized
  have hS : va_S (ss_A G) s.heap s.heap [] := va_S.rf
  have hl := lv_entry ([ss_v (ss_b G) this, .int a1]) (n := 2) (by simp [lg_sl, ss_v_cat, ss_cat_i, ss_cat_l, ss_cat_r])
  rw [lg_entry_eq]
  generalize (lg_sl ([ss_v (ss_b G) this, .int a1]) ++ List.replicate (2 - (lg_sl ([ss_v (ss_b G) this, .int a1])).length) Slot.unset).toArray = ls at hl ⊢
  have hl : lv_has ls 2 [(0, ss_v (ss_b G) this), (1, .int a1)] := by simpa [lv_args, ss_v_cat, ss_cat_i, ss_cat_l, ss_cat_r] using hl
  refine lv_iconst (v := 1) hx hb dd_P_weight_0 (by decide) ?_
  refine ss_aload_n hx hb dd_P_weight_1 rfl (lv_at hl 0 rfl) ?_
  obtain ⟨r1, qr1, hm⟩ := ss_bind hm
  refine ss_getr hC hK hR kf_P_21 rfl qr1 dd_P_weight_2 ?_
  obtain ⟨v2, qv2, hm⟩ := ss_bind hm
  refine ss_cV 0 0 (As := []) hC hK hR hS hl.1 (cc_Wo_closedBits l G N _ _ _ qv2) km_P_90 (ck_Wo_closedBits qv2) ⟨Nat.le_of_ble_eq_true rfl, Nat.le_of_ble_eq_true rfl⟩ ⟨Nat.le_of_ble_eq_true rfl, Nat.le_of_ble_eq_true rfl, Nat.le_of_ble_eq_true rfl, Nat.le_of_ble_eq_true rfl⟩ rfl rfl (Nat.le_of_ble_eq_true rfl) dd_P_weight_5 (fun H locs hR hS => ?_)
  refine lv_iload_n hx hb dd_P_weight_8 rfl (lv_at hl 1 rfl) ?_
  refine lv_ishr hx hb dd_P_weight_9 ?_
  refine lv_iconst (v := 1) hx hb dd_P_weight_10 (by decide) ?_
  refine lv_iand hx hb dd_P_weight_11 ?_
  refine lv_bipush (v := 16) hx hb dd_P_weight_12 (by decide) ?_
  refine lv_imul hx hb dd_P_weight_14 ?_
  refine lv_iadd hx hb dd_P_weight_15 ?_
  exact ss_iret hC hr hlocks hR hS (ss_with _ hm) dd_P_weight_16
theorem dd_P_cheapestBeside_0 : decode bb_P_cheapestBeside 0 = .ok (.ldc 86, 2) := by decide +kernel
theorem dd_P_cheapestBeside_2 : decode bb_P_cheapestBeside 2 = .ok (.istore_n 2, 1) := by decide +kernel
theorem dd_P_cheapestBeside_3 : decode bb_P_cheapestBeside 3 = .ok (.iconst 0, 1) := by decide +kernel
theorem dd_P_cheapestBeside_4 : decode bb_P_cheapestBeside 4 = .ok (.istore_n 3, 1) := by decide +kernel
theorem dd_P_cheapestBeside_5 : decode bb_P_cheapestBeside 5 = .ok (.iload_n 3, 1) := by decide +kernel
theorem dd_P_cheapestBeside_6 : decode bb_P_cheapestBeside 6 = .ok (.aload_n 0, 1) := by decide +kernel
theorem dd_P_cheapestBeside_7 : decode bb_P_cheapestBeside 7 = .ok (.getfield 21, 3) := by decide +kernel
theorem dd_P_cheapestBeside_10 : decode bb_P_cheapestBeside 10 = .ok (.getfield 50, 3) := by decide +kernel
theorem dd_P_cheapestBeside_13 : decode bb_P_cheapestBeside 13 = .ok (.getfield 70, 3) := by decide +kernel
theorem dd_P_cheapestBeside_16 : decode bb_P_cheapestBeside 16 = .ok (.if_icmp .ge 40, 3) := by decide +kernel
theorem dd_P_cheapestBeside_19 : decode bb_P_cheapestBeside 19 = .ok (.aload_n 0, 1) := by decide +kernel
theorem dd_P_cheapestBeside_20 : decode bb_P_cheapestBeside 20 = .ok (.getfield 21, 3) := by decide +kernel
theorem dd_P_cheapestBeside_23 : decode bb_P_cheapestBeside 23 = .ok (.getfield 50, 3) := by decide +kernel
theorem dd_P_cheapestBeside_26 : decode bb_P_cheapestBeside 26 = .ok (.getfield 106, 3) := by decide +kernel
theorem dd_P_cheapestBeside_29 : decode bb_P_cheapestBeside 29 = .ok (.iload_n 1, 1) := by decide +kernel
theorem dd_P_cheapestBeside_30 : decode bb_P_cheapestBeside 30 = .ok (.iaload, 1) := by decide +kernel
theorem dd_P_cheapestBeside_31 : decode bb_P_cheapestBeside 31 = .ok (.iload_n 3, 1) := by decide +kernel
theorem dd_P_cheapestBeside_32 : decode bb_P_cheapestBeside 32 = .ok (.ishr, 1) := by decide +kernel
theorem dd_P_cheapestBeside_33 : decode bb_P_cheapestBeside 33 = .ok (.iconst 1, 1) := by decide +kernel
theorem dd_P_cheapestBeside_34 : decode bb_P_cheapestBeside 34 = .ok (.iand, 1) := by decide +kernel
theorem dd_P_cheapestBeside_35 : decode bb_P_cheapestBeside 35 = .ok (.iconst 1, 1) := by decide +kernel
theorem dd_P_cheapestBeside_36 : decode bb_P_cheapestBeside 36 = .ok (.if_icmp .ne 14, 3) := by decide +kernel
theorem dd_P_cheapestBeside_39 : decode bb_P_cheapestBeside 39 = .ok (.iload_n 2, 1) := by decide +kernel
theorem dd_P_cheapestBeside_40 : decode bb_P_cheapestBeside 40 = .ok (.aload_n 0, 1) := by decide +kernel
theorem dd_P_cheapestBeside_41 : decode bb_P_cheapestBeside 41 = .ok (.getfield 15, 3) := by decide +kernel
theorem dd_P_cheapestBeside_44 : decode bb_P_cheapestBeside 44 = .ok (.iload_n 3, 1) := by decide +kernel
theorem dd_P_cheapestBeside_45 : decode bb_P_cheapestBeside 45 = .ok (.iaload, 1) := by decide +kernel
theorem dd_P_cheapestBeside_46 : decode bb_P_cheapestBeside 46 = .ok (.invokestatic 100, 3) := by decide +kernel
theorem dd_P_cheapestBeside_49 : decode bb_P_cheapestBeside 49 = .ok (.istore_n 2, 1) := by decide +kernel
theorem dd_P_cheapestBeside_50 : decode bb_P_cheapestBeside 50 = .ok (.iinc 3 1, 3) := by decide +kernel
theorem dd_P_cheapestBeside_53 : decode bb_P_cheapestBeside 53 = .ok (.goto (-48), 3) := by decide +kernel
theorem dd_P_cheapestBeside_56 : decode bb_P_cheapestBeside 56 = .ok (.iload_n 2, 1) := by decide +kernel
theorem dd_P_cheapestBeside_57 : decode bb_P_cheapestBeside 57 = .ok (.ireturn, 1) := by decide +kernel
def mm_P_cheapestBeside_j50 (N : Nat) (this : Option Nat) (a1 : Int32) (h : ss_Hp) (x2_50 : Int32) (x3_50 : Int32) : Option ((Int32 × Int32) ⊕ Int32) :=
  (some (x3_50 + (1 : Int32))).bind fun v1 =>
  some (.inl (x2_50, v1))
def mm_P_cheapestBeside_b5 (N : Nat) (this : Option Nat) (a1 : Int32) (h : ss_Hp) (st : Int32 × Int32) : Option ((Int32 × Int32) ⊕ Int32) :=
  match st with
  | (x2_5, x3_5) =>
    (ss_gr h this 10 0).bind fun r2 =>
    (ss_gr h r2 8 0).bind fun r3 =>
    (ss_gi h r3 5 3).bind fun v4 =>
    if v4 ≤ x3_5 then
      some (.inr x2_5)
    else
      (ss_gr h this 10 0).bind fun r6 =>
      (ss_gr h r6 8 0).bind fun r7 =>
      (ss_gr h r7 5 2).bind fun r8 =>
      (ss_ai h r8 20 a1).bind fun v9 =>
      if ((v9 >>> (x3_5 &&& 31)) &&& (1 : Int32)) = (1 : Int32) then
        (ss_gr h this 10 3).bind fun r11 =>
        (ss_ai h r11 20 x3_5).bind fun v12 =>
        (some (if v12 < x2_5 then v12 else x2_5)).bind fun v13 =>
        mm_P_cheapestBeside_j50 N this a1 h v13 x3_5
      else
        mm_P_cheapestBeside_j50 N this a1 h x2_5 x3_5
def mm_P_cheapestBeside (N : Nat) (this : Option Nat) (a1 : Int32) (h : ss_Hp) : Option Int32 :=
  if ss_is h this 10 = true then
    (ss_lp (mm_P_cheapestBeside_b5 N this a1 h) N ((1000000 : Int32), (0 : Int32))).bind fun y2_5_56 =>
    some y2_5_56
  else none
abbrev ww_P_cheapestBeside (p : Program) (l : Launch) (e : Env) (s : State) (m : MethodId) (below : List Frame) (meth : Method) (c : Code) (G : ss_G) (this : Option Nat) (a1 : Int32) (h : ss_Hp) (rr : Int32) (H : Heap) (locs : List Loc) (k n : Nat) (g : JFrame) : Prop := W p l e (headSpec (ss_w yy_P_cheapestBeside bb_P_cheapestBeside 4 (some (.int))) ({ frames := 1, cells := 0, slots := 0, locals := 80 })).room s m ([ss_v (ss_b G) this, .int a1] : List Value).toArray below meth c H locs k n (MQ below (ss_Qc G (some (.int rr)) h) ([ss_v (ss_b G) this, .int a1] : List Value).toArray s 0 0 (ss_A G)) g
theorem ck_P_cheapestBeside {N : Nat} {this : Option Nat} {a1 : Int32} {h : ss_Hp} {res : Int32} (hm : mm_P_cheapestBeside N this a1 h = some res) : ss_is h this 10 = true := (ss_chk hm).1
set_option maxHeartbeats 4000000 in
set_option maxRecDepth 100000 in
theorem cc_P_cheapestBeside (l : Launch) (G : ss_G) (N : Nat) (this : Option Nat) (a1 : Int32) (h : ss_Hp) (rr : Int32) (hm : mm_P_cheapestBeside N this a1 h = some rr) : ss_Ct l G yy_P_cheapestBeside bb_P_cheapestBeside 4 (some (.int)) ({ frames := 1, cells := 0, slots := 0, locals := 80 }) [ss_v (ss_b G) this, .int a1] h (some (.int rr)) h := by
  obtain ⟨hck, hm⟩ := ss_chk hm
  refine Met.ofW (cc := bb_P_cheapestBeside) (maxL := 4) (ret := (some (.int))) (by decide) rfl ?_
  intro p e s m args below meth c s₁ B hml hv
  obtain ⟨rfl, hR, hK⟩ := hv
  have hC : CallFix p m c bb_P_cheapestBeside 4 s _ lw_g sR_10 := ⟨B.exec, B.bytes, hml, findClass_of_methodNamed B.named, fun w hw => atoms_spec (ws := ss_w yy_P_cheapestBeside bb_P_cheapestBeside 4 (some (.int))) B.pre w (List.mem_cons_of_mem _ hw)⟩
  have hx := hC.1
  have hb := hC.2.1
  have hr := B.returns
  have hlocks := B.notSynchronized
  have hS : va_S (ss_A G) s.heap s.heap [] := va_S.rf
  have hl := lv_entry ([ss_v (ss_b G) this, .int a1]) (n := 4) (by simp [lg_sl, ss_v_cat, ss_cat_i, ss_cat_l, ss_cat_r])
  rw [lg_entry_eq]
  generalize (lg_sl ([ss_v (ss_b G) this, .int a1]) ++ List.replicate (4 - (lg_sl ([ss_v (ss_b G) this, .int a1])).length) Slot.unset).toArray = ls at hl ⊢
  have hl : lv_has ls 4 [(0, ss_v (ss_b G) this), (1, .int a1)] := by simpa [lv_args, ss_v_cat, ss_cat_i, ss_cat_l, ss_cat_r] using hl
  refine lv_ldc (v := 1000000) hx hb hC.2.2.2.1 (hC.2.2.2.2 _ kc_P_86) dd_P_cheapestBeside_0 ?_
  refine lv_istore_n (lv' := [(2, .int (1000000 : Int32)), (0, ss_v (ss_b G) this), (1, .int a1)]) hx hb dd_P_cheapestBeside_2 rfl hl (by decide) rfl (fun ls hl => ?_)
  refine lv_iconst (v := 0) hx hb dd_P_cheapestBeside_3 (by decide) ?_
  refine lv_istore_n (lv' := [(3, .int (0 : Int32)), (2, .int (1000000 : Int32)), (0, ss_v (ss_b G) this), (1, .int a1)]) hx hb dd_P_cheapestBeside_4 rfl hl (by decide) rfl (fun ls hl => ?_)
  obtain ⟨e_5, he_5, hm⟩ := ss_bind hm
  have X_5_56 : ∀ (y2_5_56 : Int32) (H : Heap) (locs : List Loc) (ls : Array Slot), e_5 = y2_5_56 → ss_R G h H → va_S (ss_A G) s.heap H locs → lv_has ls 4 [(2, .int y2_5_56)] → ww_P_cheapestBeside p l e s m below meth c G this a1 h rr  H locs 0 0 (F0 m 56 ls []) := by
    intro y2_5_56 H locs ls hq hR hS hl
    rw [hq] at hm
    refine lv_iload_n hx hb dd_P_cheapestBeside_56 rfl (lv_at hl 0 rfl) ?_
    exact ss_iret hC hr hlocks hR hS (ss_with _ hm) dd_P_cheapestBeside_57
  have L_5 : ∀ (n : Nat) (x2_5 : Int32) (x3_5 : Int32) (H : Heap) (locs : List Loc) (ls : Array Slot), ss_lp (mm_P_cheapestBeside_b5 N this a1 h) n (x2_5, x3_5) = some e_5 → ss_R G h H → va_S (ss_A G) s.heap H locs → lv_has ls 4 [(0, ss_v (ss_b G) this), (1, .int a1), (2, .int x2_5), (3, .int x3_5)] → ww_P_cheapestBeside p l e s m below meth c G this a1 h rr  H locs 0 0 (F0 m 5 ls []) := by
    intro n
    induction n with
    | zero => intro x2_5 x3_5 H locs ls hm; cases hm
    | succ n ih_5 =>
      intro x2_5 x3_5 H locs ls hm hR hS hl
      obtain ⟨z_5, hm, hz1_5, hz2_5⟩ := ss_lps hm
      have J_50 : ∀ (x2_50 : Int32) (x3_50 : Int32) (H : Heap) (locs : List Loc) (ls : Array Slot), mm_P_cheapestBeside_j50 N this a1 h x2_50 x3_50 = some z_5 → ss_R G h H → va_S (ss_A G) s.heap H locs → lv_has ls 4 [(0, ss_v (ss_b G) this), (1, .int a1), (2, .int x2_50), (3, .int x3_50)] → ww_P_cheapestBeside p l e s m below meth c G this a1 h rr  H locs 0 0 (F0 m 50 ls []) := by
        intro x2_50 x3_50 H locs ls hm hR hS hl
        obtain ⟨v1, qv1, hm⟩ := ss_bind hm
        refine lv_iinc (v := v1) (lv' := [(3, .int v1), (0, ss_v (ss_b G) this), (1, .int a1), (2, .int x2_50)]) hx hb dd_P_cheapestBeside_50 hl (k := 3) rfl (ss_inc (by decide) qv1) (by decide) rfl (fun ls hl => ?_)
        refine lv_goto (tgt := 5) hx hb dd_P_cheapestBeside_53 (by decide) ?_
        exact ih_5 x2_50 v1  _ _ _ (hz1_5 _ (ss_some hm)) hR hS (lv_sub hl [1, 2, 3, 0] rfl)
      refine lv_iload_n hx hb dd_P_cheapestBeside_5 rfl (lv_at hl 3 rfl) ?_
      refine ss_aload_n hx hb dd_P_cheapestBeside_6 rfl (lv_at hl 0 rfl) ?_
      obtain ⟨r2, qr2, hm⟩ := ss_bind hm
      refine ss_getr hC hK hR kf_P_21 rfl qr2 dd_P_cheapestBeside_7 ?_
      obtain ⟨r3, qr3, hm⟩ := ss_bind hm
      refine ss_getr hC hK hR kf_P_50 rfl qr3 dd_P_cheapestBeside_10 ?_
      obtain ⟨v4, qv4, hm⟩ := ss_bind hm
      refine ss_geti hC hK hR kf_P_70 qv4 dd_P_cheapestBeside_13 ?_
      refine lv_icmp_ge (tgt := 56) hx hb dd_P_cheapestBeside_16 (by decide) (fun c5 => ?_) (fun c5 => ?_)
      · have hm := ss_ift hm c5
        exact X_5_56 x2_5  _ _ _ (hz2_5 _ (ss_some hm)) hR hS (lv_sub hl [2] rfl)
      · have hm := ss_iff hm c5
        refine ss_aload_n hx hb dd_P_cheapestBeside_19 rfl (lv_at hl 0 rfl) ?_
        obtain ⟨r6, qr6, hm⟩ := ss_bind hm
        refine ss_getr hC hK hR kf_P_21 rfl qr6 dd_P_cheapestBeside_20 ?_
        obtain ⟨r7, qr7, hm⟩ := ss_bind hm
        refine ss_getr hC hK hR kf_P_50 rfl qr7 dd_P_cheapestBeside_23 ?_
        obtain ⟨r8, qr8, hm⟩ := ss_bind hm
        refine ss_getr hC hK hR kf_P_106 rfl qr8 dd_P_cheapestBeside_26 ?_
        refine lv_iload_n hx hb dd_P_cheapestBeside_29 rfl (lv_at hl 1 rfl) ?_
        obtain ⟨v9, qv9, hm⟩ := ss_bind hm
        refine ss_iald hC hK hR qv9 dd_P_cheapestBeside_30 ?_
        refine lv_iload_n hx hb dd_P_cheapestBeside_31 rfl (lv_at hl 3 rfl) ?_
        refine lv_ishr hx hb dd_P_cheapestBeside_32 ?_
        refine lv_iconst (v := 1) hx hb dd_P_cheapestBeside_33 (by decide) ?_
        refine lv_iand hx hb dd_P_cheapestBeside_34 ?_
        refine lv_iconst (v := 1) hx hb dd_P_cheapestBeside_35 (by decide) ?_
        refine lv_icmp_ne (tgt := 50) hx hb dd_P_cheapestBeside_36 (by decide) (fun c10 => ?_) (fun c10 => ?_)
        · have hm := ss_iff hm c10
          exact J_50 x2_5 x3_5  _ _ _ hm hR hS hl
        · have hm := ss_ift hm c10
          refine lv_iload_n hx hb dd_P_cheapestBeside_39 rfl (lv_at hl 2 rfl) ?_
          refine ss_aload_n hx hb dd_P_cheapestBeside_40 rfl (lv_at hl 0 rfl) ?_
          obtain ⟨r11, qr11, hm⟩ := ss_bind hm
          refine ss_getr hC hK hR kf_P_15 rfl qr11 dd_P_cheapestBeside_41 ?_
          refine lv_iload_n hx hb dd_P_cheapestBeside_44 rfl (lv_at hl 3 rfl) ?_
          obtain ⟨v12, qv12, hm⟩ := ss_bind hm
          refine ss_iald hC hK hR qv12 dd_P_cheapestBeside_45 ?_
          refine ss_min hC hl.1 kj_P_100 kj_min_s kj_math kj_min_c (Nat.le_of_ble_eq_true rfl) (Nat.le_of_ble_eq_true rfl) (Nat.le_of_ble_eq_true rfl) ⟨Nat.le_of_ble_eq_true rfl, Nat.le_of_ble_eq_true rfl⟩ dd_P_cheapestBeside_46 ?_
          obtain ⟨v13, qv13, hm⟩ := ss_bind hm
          refine ss_topi qv13 ?_
          refine lv_istore_n (lv' := [(2, .int v13), (0, ss_v (ss_b G) this), (1, .int a1), (3, .int x3_5)]) hx hb dd_P_cheapestBeside_49 rfl hl (by decide) rfl (fun ls hl => ?_)
          exact J_50 v13 x3_5  _ _ _ hm hR hS (lv_sub hl [1, 2, 0, 3] rfl)
  exact L_5 N (1000000 : Int32) (0 : Int32) _ _ _ he_5 hR hS (lv_sub hl [2, 3, 1, 0] rfl)
theorem dd_P_spreadCosts_0 : decode bb_P_spreadCosts 0 = .ok (.aload_n 0, 1) := by decide +kernel
theorem dd_P_spreadCosts_1 : decode bb_P_spreadCosts 1 = .ok (.getfield 21, 3) := by decide +kernel
theorem dd_P_spreadCosts_4 : decode bb_P_spreadCosts 4 = .ok (.getfield 50, 3) := by decide +kernel
theorem dd_P_spreadCosts_7 : decode bb_P_spreadCosts 7 = .ok (.getfield 70, 3) := by decide +kernel
theorem dd_P_spreadCosts_10 : decode bb_P_spreadCosts 10 = .ok (.istore_n 2, 1) := by decide +kernel
theorem dd_P_spreadCosts_11 : decode bb_P_spreadCosts 11 = .ok (.iconst 0, 1) := by decide +kernel
theorem dd_P_spreadCosts_12 : decode bb_P_spreadCosts 12 = .ok (.istore_n 3, 1) := by decide +kernel
theorem dd_P_spreadCosts_13 : decode bb_P_spreadCosts 13 = .ok (.iload_n 3, 1) := by decide +kernel
theorem dd_P_spreadCosts_14 : decode bb_P_spreadCosts 14 = .ok (.iload_n 2, 1) := by decide +kernel
theorem dd_P_spreadCosts_15 : decode bb_P_spreadCosts 15 = .ok (.if_icmp .ge 30, 3) := by decide +kernel
theorem dd_P_spreadCosts_18 : decode bb_P_spreadCosts 18 = .ok (.aload_n 0, 1) := by decide +kernel
theorem dd_P_spreadCosts_19 : decode bb_P_spreadCosts 19 = .ok (.getfield 15, 3) := by decide +kernel
theorem dd_P_spreadCosts_22 : decode bb_P_spreadCosts 22 = .ok (.iload_n 3, 1) := by decide +kernel
theorem dd_P_spreadCosts_23 : decode bb_P_spreadCosts 23 = .ok (.iload_n 3, 1) := by decide +kernel
theorem dd_P_spreadCosts_24 : decode bb_P_spreadCosts 24 = .ok (.iload_n 1, 1) := by decide +kernel
theorem dd_P_spreadCosts_25 : decode bb_P_spreadCosts 25 = .ok (.if_icmp .ne 11, 3) := by decide +kernel
theorem dd_P_spreadCosts_28 : decode bb_P_spreadCosts 28 = .ok (.aload_n 0, 1) := by decide +kernel
theorem dd_P_spreadCosts_29 : decode bb_P_spreadCosts 29 = .ok (.iload_n 3, 1) := by decide +kernel
theorem dd_P_spreadCosts_30 : decode bb_P_spreadCosts 30 = .ok (.invokevirtual 94, 3) := by decide +kernel
theorem dd_P_spreadCosts_33 : decode bb_P_spreadCosts 33 = .ok (.goto 5, 3) := by decide +kernel
theorem dd_P_spreadCosts_36 : decode bb_P_spreadCosts 36 = .ok (.ldc 86, 2) := by decide +kernel
theorem dd_P_spreadCosts_38 : decode bb_P_spreadCosts 38 = .ok (.iastore, 1) := by decide +kernel
theorem dd_P_spreadCosts_39 : decode bb_P_spreadCosts 39 = .ok (.iinc 3 1, 3) := by decide +kernel
theorem dd_P_spreadCosts_42 : decode bb_P_spreadCosts 42 = .ok (.goto (-29), 3) := by decide +kernel
theorem dd_P_spreadCosts_45 : decode bb_P_spreadCosts 45 = .ok (.iconst 0, 1) := by decide +kernel
theorem dd_P_spreadCosts_46 : decode bb_P_spreadCosts 46 = .ok (.istore_n 3, 1) := by decide +kernel
theorem dd_P_spreadCosts_47 : decode bb_P_spreadCosts 47 = .ok (.iload_n 3, 1) := by decide +kernel
theorem dd_P_spreadCosts_48 : decode bb_P_spreadCosts 48 = .ok (.iload_n 2, 1) := by decide +kernel
theorem dd_P_spreadCosts_49 : decode bb_P_spreadCosts 49 = .ok (.if_icmp .ge 54, 3) := by decide +kernel
theorem dd_P_spreadCosts_52 : decode bb_P_spreadCosts 52 = .ok (.iconst 0, 1) := by decide +kernel
theorem dd_P_spreadCosts_53 : decode bb_P_spreadCosts 53 = .ok (.istore 4, 2) := by decide +kernel
theorem dd_P_spreadCosts_55 : decode bb_P_spreadCosts 55 = .ok (.iload 4, 2) := by decide +kernel
theorem dd_P_spreadCosts_57 : decode bb_P_spreadCosts 57 = .ok (.iload_n 2, 1) := by decide +kernel
theorem dd_P_spreadCosts_58 : decode bb_P_spreadCosts 58 = .ok (.if_icmp .ge 39, 3) := by decide +kernel
theorem dd_P_spreadCosts_61 : decode bb_P_spreadCosts 61 = .ok (.aload_n 0, 1) := by decide +kernel
theorem dd_P_spreadCosts_62 : decode bb_P_spreadCosts 62 = .ok (.getfield 15, 3) := by decide +kernel
theorem dd_P_spreadCosts_65 : decode bb_P_spreadCosts 65 = .ok (.iload 4, 2) := by decide +kernel
theorem dd_P_spreadCosts_67 : decode bb_P_spreadCosts 67 = .ok (.aload_n 0, 1) := by decide +kernel
theorem dd_P_spreadCosts_68 : decode bb_P_spreadCosts 68 = .ok (.getfield 15, 3) := by decide +kernel
theorem dd_P_spreadCosts_71 : decode bb_P_spreadCosts 71 = .ok (.iload 4, 2) := by decide +kernel
theorem dd_P_spreadCosts_73 : decode bb_P_spreadCosts 73 = .ok (.iaload, 1) := by decide +kernel
theorem dd_P_spreadCosts_74 : decode bb_P_spreadCosts 74 = .ok (.aload_n 0, 1) := by decide +kernel
theorem dd_P_spreadCosts_75 : decode bb_P_spreadCosts 75 = .ok (.iload 4, 2) := by decide +kernel
theorem dd_P_spreadCosts_77 : decode bb_P_spreadCosts 77 = .ok (.invokevirtual 94, 3) := by decide +kernel
theorem dd_P_spreadCosts_80 : decode bb_P_spreadCosts 80 = .ok (.aload_n 0, 1) := by decide +kernel
theorem dd_P_spreadCosts_81 : decode bb_P_spreadCosts 81 = .ok (.iload 4, 2) := by decide +kernel
theorem dd_P_spreadCosts_83 : decode bb_P_spreadCosts 83 = .ok (.invokevirtual 97, 3) := by decide +kernel
theorem dd_P_spreadCosts_86 : decode bb_P_spreadCosts 86 = .ok (.iadd, 1) := by decide +kernel
theorem dd_P_spreadCosts_87 : decode bb_P_spreadCosts 87 = .ok (.invokestatic 100, 3) := by decide +kernel
theorem dd_P_spreadCosts_90 : decode bb_P_spreadCosts 90 = .ok (.iastore, 1) := by decide +kernel
theorem dd_P_spreadCosts_91 : decode bb_P_spreadCosts 91 = .ok (.iinc 4 1, 3) := by decide +kernel
theorem dd_P_spreadCosts_94 : decode bb_P_spreadCosts 94 = .ok (.goto (-39), 3) := by decide +kernel
theorem dd_P_spreadCosts_97 : decode bb_P_spreadCosts 97 = .ok (.iinc 3 1, 3) := by decide +kernel
theorem dd_P_spreadCosts_100 : decode bb_P_spreadCosts 100 = .ok (.goto (-53), 3) := by decide +kernel
theorem dd_P_spreadCosts_103 : decode bb_P_spreadCosts 103 = .ok (.return_, 1) := by decide +kernel
def mm_P_spreadCosts_b55 (N : Nat) (this : Option Nat) (v3 : Int32) (x3_47 : Int32) (st : Int32 × ss_Hp) : Option ((Int32 × ss_Hp) ⊕ ss_Hp) :=
  match st with
  | (x4_55, h_55) =>
    if v3 ≤ x4_55 then
      some (.inr h_55)
    else
      (ss_gr h_55 this 10 3).bind fun r7 =>
      (ss_gr h_55 this 10 3).bind fun r8 =>
      (ss_ai h_55 r8 20 x4_55).bind fun v9 =>
      (mm_P_weight N this x4_55 h_55).bind fun v10 =>
      (mm_P_cheapestBeside N this x4_55 h_55).bind fun v11 =>
      (ss_ui h_55 r7 20 x4_55 (if (v10 + v11) < v9 then (v10 + v11) else v9)).bind fun h12 =>
      (some (x4_55 + (1 : Int32))).bind fun v13 =>
      some (.inl (v13, h12))
def mm_P_spreadCosts_b47 (N : Nat) (this : Option Nat) (v3 : Int32) (st : Int32 × ss_Hp) : Option ((Int32 × ss_Hp) ⊕ ss_Hp) :=
  match st with
  | (x3_47, h_47) =>
    if v3 ≤ x3_47 then
      some (.inr h_47)
    else
      (ss_lp (mm_P_spreadCosts_b55 N this v3 x3_47) N ((0 : Int32), h_47)).bind fun h_55_97 =>
      (some (x3_47 + (1 : Int32))).bind fun v5 =>
      some (.inl (v5, h_55_97))
def mm_P_spreadCosts_j38 (N : Nat) (this : Option Nat) (a1 : Int32) (v3 : Int32) (x3_38 : Int32) (s0_38 : Option Nat) (s1_38 : Int32) (s2_38 : Int32) (h_38 : ss_Hp) : Option ((Int32 × ss_Hp) ⊕ ss_Hp) :=
  (ss_ui h_38 s0_38 20 s1_38 s2_38).bind fun h14 =>
  (some (x3_38 + (1 : Int32))).bind fun v15 =>
  some (.inl (v15, h14))
def mm_P_spreadCosts_b13 (N : Nat) (this : Option Nat) (a1 : Int32) (v3 : Int32) (st : Int32 × ss_Hp) : Option ((Int32 × ss_Hp) ⊕ ss_Hp) :=
  match st with
  | (x3_13, h_13) =>
    if v3 ≤ x3_13 then
      some (.inr h_13)
    else
      (ss_gr h_13 this 10 3).bind fun r17 =>
      if x3_13 = a1 then
        (mm_P_weight N this x3_13 h_13).bind fun v19 =>
        mm_P_spreadCosts_j38 N this a1 v3 x3_13 r17 x3_13 v19 h_13
      else
        mm_P_spreadCosts_j38 N this a1 v3 x3_13 r17 x3_13 (1000000 : Int32) h_13
def mm_P_spreadCosts (N : Nat) (this : Option Nat) (a1 : Int32) (h : ss_Hp) : Option ss_Hp :=
  if ss_is h this 10 = true then
    (ss_gr h this 10 0).bind fun r1 =>
    (ss_gr h r1 8 0).bind fun r2 =>
    (ss_gi h r2 5 3).bind fun v3 =>
    (ss_lp (mm_P_spreadCosts_b13 N this a1 v3) N ((0 : Int32), h)).bind fun h_13_45 =>
    (ss_lp (mm_P_spreadCosts_b47 N this v3) N ((0 : Int32), h_13_45)).bind fun h_47_103 =>
    some h_47_103
  else none
abbrev ww_P_spreadCosts (p : Program) (l : Launch) (e : Env) (s : State) (m : MethodId) (below : List Frame) (meth : Method) (c : Code) (G : ss_G) (this : Option Nat) (a1 : Int32) (h : ss_Hp) (hh : ss_Hp) (H : Heap) (locs : List Loc) (k n : Nat) (g : JFrame) : Prop := W p l e (headSpec (ss_w yy_P_spreadCosts bb_P_spreadCosts 5 none) ({ frames := 3, cells := 0, slots := 0, locals := 103 })).room s m ([ss_v (ss_b G) this, .int a1] : List Value).toArray below meth c H locs k n (MQ below (ss_Qc G none hh) ([ss_v (ss_b G) this, .int a1] : List Value).toArray s 0 0 (ss_A G)) g
theorem ck_P_spreadCosts {N : Nat} {this : Option Nat} {a1 : Int32} {h : ss_Hp} {res : ss_Hp} (hm : mm_P_spreadCosts N this a1 h = some res) : ss_is h this 10 = true := (ss_chk hm).1
set_option maxHeartbeats 4000000 in
set_option maxRecDepth 100000 in
theorem cc_P_spreadCosts (l : Launch) (G : ss_G) (N : Nat) (this : Option Nat) (a1 : Int32) (h : ss_Hp) (hh : ss_Hp) (hm : mm_P_spreadCosts N this a1 h = some hh) : ss_Ct l G yy_P_spreadCosts bb_P_spreadCosts 5 none ({ frames := 3, cells := 0, slots := 0, locals := 103 }) [ss_v (ss_b G) this, .int a1] h none hh := by
  obtain ⟨hck, hm⟩ := ss_chk hm
  refine Met.ofW (cc := bb_P_spreadCosts) (maxL := 5) (ret := none) (by decide) rfl ?_
  intro p e s m args below meth c s₁ B hml hv
  obtain ⟨rfl, hR, hK⟩ := hv
  have hC : CallFix p m c bb_P_spreadCosts 5 s _ lw_g sR_10 := ⟨B.exec, B.bytes, hml, findClass_of_methodNamed B.named, fun w hw => atoms_spec (ws := ss_w yy_P_spreadCosts bb_P_spreadCosts 5 none) B.pre w (List.mem_cons_of_mem _ hw)⟩
  have hx := hC.1
  have hb := hC.2.1
  have hr := B.returns
  have hlocks := B.notSynchronized
  have hS : va_S (ss_A G) s.heap s.heap [] := va_S.rf
  have hl := lv_entry ([ss_v (ss_b G) this, .int a1]) (n := 5) (by simp [lg_sl, ss_v_cat, ss_cat_i, ss_cat_l, ss_cat_r])
  rw [lg_entry_eq]
  generalize (lg_sl ([ss_v (ss_b G) this, .int a1]) ++ List.replicate (5 - (lg_sl ([ss_v (ss_b G) this, .int a1])).length) Slot.unset).toArray = ls at hl ⊢
  have hl : lv_has ls 5 [(0, ss_v (ss_b G) this), (1, .int a1)] := by simpa [lv_args, ss_v_cat, ss_cat_i, ss_cat_l, ss_cat_r] using hl
  refine ss_aload_n hx hb dd_P_spreadCosts_0 rfl (lv_at hl 0 rfl) ?_
  obtain ⟨r1, qr1, hm⟩ := ss_bind hm
  refine ss_getr hC hK hR kf_P_21 rfl qr1 dd_P_spreadCosts_1 ?_
  obtain ⟨r2, qr2, hm⟩ := ss_bind hm
  refine ss_getr hC hK hR kf_P_50 rfl qr2 dd_P_spreadCosts_4 ?_
  obtain ⟨v3, qv3, hm⟩ := ss_bind hm
  refine ss_geti hC hK hR kf_P_70 qv3 dd_P_spreadCosts_7 ?_
  refine lv_istore_n (lv' := [(2, .int v3), (0, ss_v (ss_b G) this), (1, .int a1)]) hx hb dd_P_spreadCosts_10 rfl hl (by decide) rfl (fun ls hl => ?_)
  refine lv_iconst (v := 0) hx hb dd_P_spreadCosts_11 (by decide) ?_
  refine lv_istore_n (lv' := [(3, .int (0 : Int32)), (2, .int v3), (0, ss_v (ss_b G) this), (1, .int a1)]) hx hb dd_P_spreadCosts_12 rfl hl (by decide) rfl (fun ls hl => ?_)
  obtain ⟨e_13, he_13, hm⟩ := ss_bind hm
  have X_13_45 : ∀  (h_13_45 : ss_Hp) (H : Heap) (locs : List Loc) (ls : Array Slot), e_13 = h_13_45 → ss_R G h_13_45 H → va_S (ss_A G) s.heap H locs → lv_has ls 5 [(0, ss_v (ss_b G) this), (2, .int v3)] → ww_P_spreadCosts p l e s m below meth c G this a1 h hh  H locs 0 0 (F0 m 45 ls []) := by
    intro h_13_45 H locs ls hq hR hS hl
    rw [hq] at hm
    refine lv_iconst (v := 0) hx hb dd_P_spreadCosts_45 (by decide) ?_
    refine lv_istore_n (lv' := [(3, .int (0 : Int32)), (0, ss_v (ss_b G) this), (2, .int v3)]) hx hb dd_P_spreadCosts_46 rfl hl (by decide) rfl (fun ls hl => ?_)
    obtain ⟨e_47, he_47, hm⟩ := ss_bind hm
    have X_47_103 : ∀  (h_47_103 : ss_Hp) (H : Heap) (locs : List Loc) (ls : Array Slot), e_47 = h_47_103 → ss_R G h_47_103 H → va_S (ss_A G) s.heap H locs → lv_has ls 5 [] → ww_P_spreadCosts p l e s m below meth c G this a1 h hh  H locs 0 0 (F0 m 103 ls []) := by
      intro h_47_103 H locs ls hq hR hS hl
      rw [hq] at hm
      exact ss_vret hC hr hlocks hR hS hm dd_P_spreadCosts_103
    have L_47 : ∀ (n : Nat) (x3_47 : Int32) (h_47 : ss_Hp) (H : Heap) (locs : List Loc) (ls : Array Slot), ss_lp (mm_P_spreadCosts_b47 N this v3) n (x3_47, h_47) = some e_47 → ss_R G h_47 H → va_S (ss_A G) s.heap H locs → lv_has ls 5 [(0, ss_v (ss_b G) this), (2, .int v3), (3, .int x3_47)] → ww_P_spreadCosts p l e s m below meth c G this a1 h hh  H locs 0 0 (F0 m 47 ls []) := by
      intro n
      induction n with
      | zero => intro x3_47 h_47 H locs ls hm; cases hm
      | succ n ih_47 =>
        intro x3_47 h_47 H locs ls hm hR hS hl
        obtain ⟨z_47, hm, hz1_47, hz2_47⟩ := ss_lps hm
        refine lv_iload_n hx hb dd_P_spreadCosts_47 rfl (lv_at hl 2 rfl) ?_
        refine lv_iload_n hx hb dd_P_spreadCosts_48 rfl (lv_at hl 1 rfl) ?_
        refine lv_icmp_ge (tgt := 103) hx hb dd_P_spreadCosts_49 (by decide) (fun c4 => ?_) (fun c4 => ?_)
        · have hm := ss_ift hm c4
          exact X_47_103 h_47 _ _ _ (hz2_47 _ (ss_some hm)) hR hS (lv_sub hl [] rfl)
        · have hm := ss_iff hm c4
          refine lv_iconst (v := 0) hx hb dd_P_spreadCosts_52 (by decide) ?_
          refine lv_istore (lv' := [(4, .int (0 : Int32)), (0, ss_v (ss_b G) this), (2, .int v3), (3, .int x3_47)]) hx hb dd_P_spreadCosts_53 hl (by decide) rfl (fun ls hl => ?_)
          obtain ⟨e_55, he_55, hm⟩ := ss_bind hm
          have X_55_97 : ∀  (h_55_97 : ss_Hp) (H : Heap) (locs : List Loc) (ls : Array Slot), e_55 = h_55_97 → ss_R G h_55_97 H → va_S (ss_A G) s.heap H locs → lv_has ls 5 [(0, ss_v (ss_b G) this), (2, .int v3), (3, .int x3_47)] → ww_P_spreadCosts p l e s m below meth c G this a1 h hh  H locs 0 0 (F0 m 97 ls []) := by
            intro h_55_97 H locs ls hq hR hS hl
            rw [hq] at hm
            obtain ⟨v5, qv5, hm⟩ := ss_bind hm
            refine lv_iinc (v := v5) (lv' := [(3, .int v5), (0, ss_v (ss_b G) this), (2, .int v3)]) hx hb dd_P_spreadCosts_97 hl (k := 2) rfl (ss_inc (by decide) qv5) (by decide) rfl (fun ls hl => ?_)
            refine lv_goto (tgt := 47) hx hb dd_P_spreadCosts_100 (by decide) ?_
            exact ih_47 v5 h_55_97 _ _ _ (hz1_47 _ (ss_some hm)) hR hS (lv_sub hl [1, 2, 0] rfl)
          have L_55 : ∀ (n : Nat) (x4_55 : Int32) (h_55 : ss_Hp) (H : Heap) (locs : List Loc) (ls : Array Slot), ss_lp (mm_P_spreadCosts_b55 N this v3 x3_47) n (x4_55, h_55) = some e_55 → ss_R G h_55 H → va_S (ss_A G) s.heap H locs → lv_has ls 5 [(0, ss_v (ss_b G) this), (2, .int v3), (3, .int x3_47), (4, .int x4_55)] → ww_P_spreadCosts p l e s m below meth c G this a1 h hh  H locs 0 0 (F0 m 55 ls []) := by
            intro n
            induction n with
            | zero => intro x4_55 h_55 H locs ls hm; cases hm
            | succ n ih_55 =>
              intro x4_55 h_55 H locs ls hm hR hS hl
              obtain ⟨z_55, hm, hz1_55, hz2_55⟩ := ss_lps hm
              refine lv_iload hx hb dd_P_spreadCosts_55 (lv_at hl 3 rfl) ?_
              refine lv_iload_n hx hb dd_P_spreadCosts_57 rfl (lv_at hl 1 rfl) ?_
              refine lv_icmp_ge (tgt := 97) hx hb dd_P_spreadCosts_58 (by decide) (fun c6 => ?_) (fun c6 => ?_)
              · have hm := ss_ift hm c6
                exact X_55_97 h_55 _ _ _ (hz2_55 _ (ss_some hm)) hR hS (lv_sub hl [0, 1, 2] rfl)
              · have hm := ss_iff hm c6
                refine ss_aload_n hx hb dd_P_spreadCosts_61 rfl (lv_at hl 0 rfl) ?_
                obtain ⟨r7, qr7, hm⟩ := ss_bind hm
                refine ss_getr hC hK hR kf_P_15 rfl qr7 dd_P_spreadCosts_62 ?_
                refine lv_iload hx hb dd_P_spreadCosts_65 (lv_at hl 3 rfl) ?_
                refine ss_aload_n hx hb dd_P_spreadCosts_67 rfl (lv_at hl 0 rfl) ?_
                obtain ⟨r8, qr8, hm⟩ := ss_bind hm
                refine ss_getr hC hK hR kf_P_15 rfl qr8 dd_P_spreadCosts_68 ?_
                refine lv_iload hx hb dd_P_spreadCosts_71 (lv_at hl 3 rfl) ?_
                obtain ⟨v9, qv9, hm⟩ := ss_bind hm
                refine ss_iald hC hK hR qv9 dd_P_spreadCosts_73 ?_
                refine ss_aload_n hx hb dd_P_spreadCosts_74 rfl (lv_at hl 0 rfl) ?_
                refine lv_iload hx hb dd_P_spreadCosts_75 (lv_at hl 3 rfl) ?_
                obtain ⟨v10, qv10, hm⟩ := ss_bind hm
                refine ss_cV 0 0 (As := [.int x4_55]) hC hK hR hS hl.1 (cc_P_weight l G N _ _ _ _ qv10) km_P_94 (ck_P_weight qv10) ⟨Nat.le_of_ble_eq_true rfl, Nat.le_of_ble_eq_true rfl⟩ ⟨Nat.le_of_ble_eq_true rfl, Nat.le_of_ble_eq_true rfl, Nat.le_of_ble_eq_true rfl, Nat.le_of_ble_eq_true rfl⟩ rfl rfl (by simp [ss_v_cat, ss_cat_i, ss_cat_l, ss_cat_r]) dd_P_spreadCosts_77 (fun H locs hR hS => ?_)
                refine ss_aload_n hx hb dd_P_spreadCosts_80 rfl (lv_at hl 0 rfl) ?_
                refine lv_iload hx hb dd_P_spreadCosts_81 (lv_at hl 3 rfl) ?_
                obtain ⟨v11, qv11, hm⟩ := ss_bind hm
                refine ss_cV 0 0 (As := [.int x4_55]) hC hK hR hS hl.1 (cc_P_cheapestBeside l G N _ _ _ _ qv11) km_P_97 (ck_P_cheapestBeside qv11) ⟨Nat.le_of_ble_eq_true rfl, Nat.le_of_ble_eq_true rfl⟩ ⟨Nat.le_of_ble_eq_true rfl, Nat.le_of_ble_eq_true rfl, Nat.le_of_ble_eq_true rfl, Nat.le_of_ble_eq_true rfl⟩ rfl rfl (by simp [ss_v_cat, ss_cat_i, ss_cat_l, ss_cat_r]) dd_P_spreadCosts_83 (fun H locs hR hS => ?_)
                refine lv_iadd hx hb dd_P_spreadCosts_86 ?_
                refine ss_min hC hl.1 kj_P_100 kj_min_s kj_math kj_min_c (Nat.le_of_ble_eq_true rfl) (by simp [ss_v_cat, ss_cat_i, ss_cat_l, ss_cat_r]) (Nat.le_of_ble_eq_true rfl) ⟨Nat.le_of_ble_eq_true rfl, Nat.le_of_ble_eq_true rfl⟩ dd_P_spreadCosts_87 ?_
                obtain ⟨h12, qh12, hm⟩ := ss_bind hm
                refine ss_iast hC hK hR hS qh12 dd_P_spreadCosts_90 (fun H locs hR hS => ?_)
                obtain ⟨v13, qv13, hm⟩ := ss_bind hm
                refine lv_iinc (v := v13) (lv' := [(4, .int v13), (0, ss_v (ss_b G) this), (2, .int v3), (3, .int x3_47)]) hx hb dd_P_spreadCosts_91 hl (k := 3) rfl (ss_inc (by decide) qv13) (by decide) rfl (fun ls hl => ?_)
                refine lv_goto (tgt := 55) hx hb dd_P_spreadCosts_94 (by decide) ?_
                exact ih_55 v13 h12 _ _ _ (hz1_55 _ (ss_some hm)) hR hS (lv_sub hl [1, 2, 3, 0] rfl)
          exact L_55 N (0 : Int32) h_47 _ _ _ he_55 hR hS (lv_sub hl [1, 2, 3, 0] rfl)
    exact L_47 N (0 : Int32) h_13_45 _ _ _ he_47 hR hS (lv_sub hl [1, 2, 0] rfl)
  have L_13 : ∀ (n : Nat) (x3_13 : Int32) (h_13 : ss_Hp) (H : Heap) (locs : List Loc) (ls : Array Slot), ss_lp (mm_P_spreadCosts_b13 N this a1 v3) n (x3_13, h_13) = some e_13 → ss_R G h_13 H → va_S (ss_A G) s.heap H locs → lv_has ls 5 [(0, ss_v (ss_b G) this), (1, .int a1), (2, .int v3), (3, .int x3_13)] → ww_P_spreadCosts p l e s m below meth c G this a1 h hh  H locs 0 0 (F0 m 13 ls []) := by
    intro n
    induction n with
    | zero => intro x3_13 h_13 H locs ls hm; cases hm
    | succ n ih_13 =>
      intro x3_13 h_13 H locs ls hm hR hS hl
      obtain ⟨z_13, hm, hz1_13, hz2_13⟩ := ss_lps hm
      have J_38 : ∀ (x3_38 : Int32) (s0_38 : Option Nat) (s1_38 : Int32) (s2_38 : Int32) (h_38 : ss_Hp) (H : Heap) (locs : List Loc) (ls : Array Slot), mm_P_spreadCosts_j38 N this a1 v3 x3_38 s0_38 s1_38 s2_38 h_38 = some z_13 → ss_R G h_38 H → va_S (ss_A G) s.heap H locs → lv_has ls 5 [(0, ss_v (ss_b G) this), (1, .int a1), (2, .int v3), (3, .int x3_38)] → ww_P_spreadCosts p l e s m below meth c G this a1 h hh  H locs 0 0 (F0 m 38 ls [.int s2_38, .int s1_38, ss_v (ss_b G) s0_38]) := by
        intro x3_38 s0_38 s1_38 s2_38 h_38 H locs ls hm hR hS hl
        obtain ⟨h14, qh14, hm⟩ := ss_bind hm
        refine ss_iast hC hK hR hS qh14 dd_P_spreadCosts_38 (fun H locs hR hS => ?_)
        obtain ⟨v15, qv15, hm⟩ := ss_bind hm
        refine lv_iinc (v := v15) (lv' := [(3, .int v15), (0, ss_v (ss_b G) this), (1, .int a1), (2, .int v3)]) hx hb dd_P_spreadCosts_39 hl (k := 3) rfl (ss_inc (by decide) qv15) (by decide) rfl (fun ls hl => ?_)
        refine lv_goto (tgt := 13) hx hb dd_P_spreadCosts_42 (by decide) ?_
        exact ih_13 v15 h14 _ _ _ (hz1_13 _ (ss_some hm)) hR hS (lv_sub hl [1, 2, 3, 0] rfl)
      refine lv_iload_n hx hb dd_P_spreadCosts_13 rfl (lv_at hl 3 rfl) ?_
      refine lv_iload_n hx hb dd_P_spreadCosts_14 rfl (lv_at hl 2 rfl) ?_
      refine lv_icmp_ge (tgt := 45) hx hb dd_P_spreadCosts_15 (by decide) (fun c16 => ?_) (fun c16 => ?_)
      · have hm := ss_ift hm c16
        exact X_13_45 h_13 _ _ _ (hz2_13 _ (ss_some hm)) hR hS (lv_sub hl [0, 2] rfl)
      · have hm := ss_iff hm c16
        refine ss_aload_n hx hb dd_P_spreadCosts_18 rfl (lv_at hl 0 rfl) ?_
        obtain ⟨r17, qr17, hm⟩ := ss_bind hm
        refine ss_getr hC hK hR kf_P_15 rfl qr17 dd_P_spreadCosts_19 ?_
        refine lv_iload_n hx hb dd_P_spreadCosts_22 rfl (lv_at hl 3 rfl) ?_
        refine lv_iload_n hx hb dd_P_spreadCosts_23 rfl (lv_at hl 3 rfl) ?_
        refine lv_iload_n hx hb dd_P_spreadCosts_24 rfl (lv_at hl 1 rfl) ?_
        refine lv_icmp_ne (tgt := 36) hx hb dd_P_spreadCosts_25 (by decide) (fun c18 => ?_) (fun c18 => ?_)
        · have hm := ss_iff hm c18
          refine lv_ldc (v := 1000000) hx hb hC.2.2.2.1 (hC.2.2.2.2 _ kc_P_86) dd_P_spreadCosts_36 ?_
          exact J_38 x3_13 r17 x3_13 (1000000 : Int32) h_13 _ _ _ hm hR hS hl
        · have hm := ss_ift hm c18
          refine ss_aload_n hx hb dd_P_spreadCosts_28 rfl (lv_at hl 0 rfl) ?_
          refine lv_iload_n hx hb dd_P_spreadCosts_29 rfl (lv_at hl 3 rfl) ?_
          obtain ⟨v19, qv19, hm⟩ := ss_bind hm
          refine ss_cV 0 0 (As := [.int x3_13]) hC hK hR hS hl.1 (cc_P_weight l G N _ _ _ _ qv19) km_P_94 (ck_P_weight qv19) ⟨Nat.le_of_ble_eq_true rfl, Nat.le_of_ble_eq_true rfl⟩ ⟨Nat.le_of_ble_eq_true rfl, Nat.le_of_ble_eq_true rfl, Nat.le_of_ble_eq_true rfl, Nat.le_of_ble_eq_true rfl⟩ rfl rfl (by simp [ss_v_cat, ss_cat_i, ss_cat_l, ss_cat_r]) dd_P_spreadCosts_30 (fun H locs hR hS => ?_)
          refine lv_goto (tgt := 38) hx hb dd_P_spreadCosts_33 (by decide) ?_
          exact J_38 x3_13 r17 x3_13 v19 h_13 _ _ _ hm hR hS hl
  exact L_13 N (0 : Int32) h _ _ _ he_13 hR hS (lv_sub hl [2, 3, 1, 0] rfl)
theorem dd_P_nextOnWay_0 : decode bb_P_nextOnWay 0 = .ok (.aload_n 0, 1) := by decide +kernel
theorem dd_P_nextOnWay_1 : decode bb_P_nextOnWay 1 = .ok (.getfield 15, 3) := by decide +kernel
theorem dd_P_nextOnWay_4 : decode bb_P_nextOnWay 4 = .ok (.iload_n 1, 1) := by decide +kernel
theorem dd_P_nextOnWay_5 : decode bb_P_nextOnWay 5 = .ok (.iaload, 1) := by decide +kernel
theorem dd_P_nextOnWay_6 : decode bb_P_nextOnWay 6 = .ok (.aload_n 0, 1) := by decide +kernel
theorem dd_P_nextOnWay_7 : decode bb_P_nextOnWay 7 = .ok (.iload_n 1, 1) := by decide +kernel
theorem dd_P_nextOnWay_8 : decode bb_P_nextOnWay 8 = .ok (.invokevirtual 94, 3) := by decide +kernel
theorem dd_P_nextOnWay_11 : decode bb_P_nextOnWay 11 = .ok (.isub, 1) := by decide +kernel
theorem dd_P_nextOnWay_12 : decode bb_P_nextOnWay 12 = .ok (.istore_n 2, 1) := by decide +kernel
theorem dd_P_nextOnWay_13 : decode bb_P_nextOnWay 13 = .ok (.iconst 0, 1) := by decide +kernel
theorem dd_P_nextOnWay_14 : decode bb_P_nextOnWay 14 = .ok (.istore_n 3, 1) := by decide +kernel
theorem dd_P_nextOnWay_15 : decode bb_P_nextOnWay 15 = .ok (.iload_n 3, 1) := by decide +kernel
theorem dd_P_nextOnWay_16 : decode bb_P_nextOnWay 16 = .ok (.aload_n 0, 1) := by decide +kernel
theorem dd_P_nextOnWay_17 : decode bb_P_nextOnWay 17 = .ok (.getfield 21, 3) := by decide +kernel
theorem dd_P_nextOnWay_20 : decode bb_P_nextOnWay 20 = .ok (.getfield 50, 3) := by decide +kernel
theorem dd_P_nextOnWay_23 : decode bb_P_nextOnWay 23 = .ok (.getfield 70, 3) := by decide +kernel
theorem dd_P_nextOnWay_26 : decode bb_P_nextOnWay 26 = .ok (.if_icmp .ge 41, 3) := by decide +kernel
theorem dd_P_nextOnWay_29 : decode bb_P_nextOnWay 29 = .ok (.aload_n 0, 1) := by decide +kernel
theorem dd_P_nextOnWay_30 : decode bb_P_nextOnWay 30 = .ok (.getfield 21, 3) := by decide +kernel
theorem dd_P_nextOnWay_33 : decode bb_P_nextOnWay 33 = .ok (.getfield 50, 3) := by decide +kernel
theorem dd_P_nextOnWay_36 : decode bb_P_nextOnWay 36 = .ok (.getfield 106, 3) := by decide +kernel
theorem dd_P_nextOnWay_39 : decode bb_P_nextOnWay 39 = .ok (.iload_n 1, 1) := by decide +kernel
theorem dd_P_nextOnWay_40 : decode bb_P_nextOnWay 40 = .ok (.iaload, 1) := by decide +kernel
theorem dd_P_nextOnWay_41 : decode bb_P_nextOnWay 41 = .ok (.iload_n 3, 1) := by decide +kernel
theorem dd_P_nextOnWay_42 : decode bb_P_nextOnWay 42 = .ok (.ishr, 1) := by decide +kernel
theorem dd_P_nextOnWay_43 : decode bb_P_nextOnWay 43 = .ok (.iconst 1, 1) := by decide +kernel
theorem dd_P_nextOnWay_44 : decode bb_P_nextOnWay 44 = .ok (.iand, 1) := by decide +kernel
theorem dd_P_nextOnWay_45 : decode bb_P_nextOnWay 45 = .ok (.iconst 1, 1) := by decide +kernel
theorem dd_P_nextOnWay_46 : decode bb_P_nextOnWay 46 = .ok (.if_icmp .ne 15, 3) := by decide +kernel
theorem dd_P_nextOnWay_49 : decode bb_P_nextOnWay 49 = .ok (.aload_n 0, 1) := by decide +kernel
theorem dd_P_nextOnWay_50 : decode bb_P_nextOnWay 50 = .ok (.getfield 15, 3) := by decide +kernel
theorem dd_P_nextOnWay_53 : decode bb_P_nextOnWay 53 = .ok (.iload_n 3, 1) := by decide +kernel
theorem dd_P_nextOnWay_54 : decode bb_P_nextOnWay 54 = .ok (.iaload, 1) := by decide +kernel
theorem dd_P_nextOnWay_55 : decode bb_P_nextOnWay 55 = .ok (.iload_n 2, 1) := by decide +kernel
theorem dd_P_nextOnWay_56 : decode bb_P_nextOnWay 56 = .ok (.if_icmp .ne 5, 3) := by decide +kernel
theorem dd_P_nextOnWay_59 : decode bb_P_nextOnWay 59 = .ok (.iload_n 3, 1) := by decide +kernel
theorem dd_P_nextOnWay_60 : decode bb_P_nextOnWay 60 = .ok (.ireturn, 1) := by decide +kernel
theorem dd_P_nextOnWay_61 : decode bb_P_nextOnWay 61 = .ok (.iinc 3 1, 3) := by decide +kernel
theorem dd_P_nextOnWay_64 : decode bb_P_nextOnWay 64 = .ok (.goto (-49), 3) := by decide +kernel
theorem dd_P_nextOnWay_67 : decode bb_P_nextOnWay 67 = .ok (.iconst (-1), 1) := by decide +kernel
theorem dd_P_nextOnWay_68 : decode bb_P_nextOnWay 68 = .ok (.ireturn, 1) := by decide +kernel
def mm_P_nextOnWay_j61 (N : Nat) (this : Option Nat) (a1 : Int32) (v4 : Int32) (h : ss_Hp) (x3_61 : Int32) : Option (Int32 ⊕ (Unit ⊕ Int32)) :=
  (some (x3_61 + (1 : Int32))).bind fun v5 =>
  some (.inl v5)
def mm_P_nextOnWay_b15 (N : Nat) (this : Option Nat) (a1 : Int32) (v4 : Int32) (h : ss_Hp) (st : Int32) : Option (Int32 ⊕ (Unit ⊕ Int32)) :=
  match st with
  | x3_15 =>
    (ss_gr h this 10 0).bind fun r6 =>
    (ss_gr h r6 8 0).bind fun r7 =>
    (ss_gi h r7 5 3).bind fun v8 =>
    if v8 ≤ x3_15 then
      some (.inr (.inl ()))
    else
      (ss_gr h this 10 0).bind fun r10 =>
      (ss_gr h r10 8 0).bind fun r11 =>
      (ss_gr h r11 5 2).bind fun r12 =>
      (ss_ai h r12 20 a1).bind fun v13 =>
      if ((v13 >>> (x3_15 &&& 31)) &&& (1 : Int32)) = (1 : Int32) then
        (ss_gr h this 10 3).bind fun r15 =>
        (ss_ai h r15 20 x3_15).bind fun v16 =>
        if v16 = v4 then
          some (.inr (.inr x3_15))
        else
          mm_P_nextOnWay_j61 N this a1 v4 h x3_15
      else
        mm_P_nextOnWay_j61 N this a1 v4 h x3_15
def mm_P_nextOnWay (N : Nat) (this : Option Nat) (a1 : Int32) (h : ss_Hp) : Option Int32 :=
  if ss_is h this 10 = true then
    (ss_gr h this 10 3).bind fun r1 =>
    (ss_ai h r1 20 a1).bind fun v2 =>
    (mm_P_weight N this a1 h).bind fun v3 =>
    (some (v2 - v3)).bind fun v4 =>
    (ss_lp (mm_P_nextOnWay_b15 N this a1 v4 h) N (0 : Int32)).bind fun e_15 =>
    match e_15 with
    | (.inl ()) =>
      some (-1 : Int32)
    | (.inr y3_15_59) =>
      some y3_15_59
  else none
abbrev ww_P_nextOnWay (p : Program) (l : Launch) (e : Env) (s : State) (m : MethodId) (below : List Frame) (meth : Method) (c : Code) (G : ss_G) (this : Option Nat) (a1 : Int32) (h : ss_Hp) (rr : Int32) (H : Heap) (locs : List Loc) (k n : Nat) (g : JFrame) : Prop := W p l e (headSpec (ss_w yy_P_nextOnWay bb_P_nextOnWay 4 (some (.int))) ({ frames := 3, cells := 0, slots := 0, locals := 64 })).room s m ([ss_v (ss_b G) this, .int a1] : List Value).toArray below meth c H locs k n (MQ below (ss_Qc G (some (.int rr)) h) ([ss_v (ss_b G) this, .int a1] : List Value).toArray s 0 0 (ss_A G)) g
theorem ck_P_nextOnWay {N : Nat} {this : Option Nat} {a1 : Int32} {h : ss_Hp} {res : Int32} (hm : mm_P_nextOnWay N this a1 h = some res) : ss_is h this 10 = true := (ss_chk hm).1
set_option maxHeartbeats 4000000 in
set_option maxRecDepth 100000 in
theorem cc_P_nextOnWay (l : Launch) (G : ss_G) (N : Nat) (this : Option Nat) (a1 : Int32) (h : ss_Hp) (rr : Int32) (hm : mm_P_nextOnWay N this a1 h = some rr) : ss_Ct l G yy_P_nextOnWay bb_P_nextOnWay 4 (some (.int)) ({ frames := 3, cells := 0, slots := 0, locals := 64 }) [ss_v (ss_b G) this, .int a1] h (some (.int rr)) h := by
  obtain ⟨hck, hm⟩ := ss_chk hm
  refine Met.ofW (cc := bb_P_nextOnWay) (maxL := 4) (ret := (some (.int))) (by decide) rfl ?_
  intro p e s m args below meth c s₁ B hml hv
  obtain ⟨rfl, hR, hK⟩ := hv
  have hC : CallFix p m c bb_P_nextOnWay 4 s _ lw_g sR_10 := ⟨B.exec, B.bytes, hml, findClass_of_methodNamed B.named, fun w hw => atoms_spec (ws := ss_w yy_P_nextOnWay bb_P_nextOnWay 4 (some (.int))) B.pre w (List.mem_cons_of_mem _ hw)⟩
  have hx := hC.1
  have hb := hC.2.1
  have hr := B.returns
  have hlocks := B.notSynchronized
  have hS : va_S (ss_A G) s.heap s.heap [] := va_S.rf
  have hl := lv_entry ([ss_v (ss_b G) this, .int a1]) (n := 4) (by simp [lg_sl, ss_v_cat, ss_cat_i, ss_cat_l, ss_cat_r])
  rw [lg_entry_eq]
  generalize (lg_sl ([ss_v (ss_b G) this, .int a1]) ++ List.replicate (4 - (lg_sl ([ss_v (ss_b G) this, .int a1])).length) Slot.unset).toArray = ls at hl ⊢
  have hl : lv_has ls 4 [(0, ss_v (ss_b G) this), (1, .int a1)] := by simpa [lv_args, ss_v_cat, ss_cat_i, ss_cat_l, ss_cat_r] using hl
  refine ss_aload_n hx hb dd_P_nextOnWay_0 rfl (lv_at hl 0 rfl) ?_
  obtain ⟨r1, qr1, hm⟩ := ss_bind hm
  refine ss_getr hC hK hR kf_P_15 rfl qr1 dd_P_nextOnWay_1 ?_
  refine lv_iload_n hx hb dd_P_nextOnWay_4 rfl (lv_at hl 1 rfl) ?_
  obtain ⟨v2, qv2, hm⟩ := ss_bind hm
  refine ss_iald hC hK hR qv2 dd_P_nextOnWay_5 ?_
  refine ss_aload_n hx hb dd_P_nextOnWay_6 rfl (lv_at hl 0 rfl) ?_
  refine lv_iload_n hx hb dd_P_nextOnWay_7 rfl (lv_at hl 1 rfl) ?_
  obtain ⟨v3, qv3, hm⟩ := ss_bind hm
  refine ss_cV 0 0 (As := [.int a1]) hC hK hR hS hl.1 (cc_P_weight l G N _ _ _ _ qv3) km_P_94 (ck_P_weight qv3) ⟨Nat.le_of_ble_eq_true rfl, Nat.le_of_ble_eq_true rfl⟩ ⟨Nat.le_of_ble_eq_true rfl, Nat.le_of_ble_eq_true rfl, Nat.le_of_ble_eq_true rfl, Nat.le_of_ble_eq_true rfl⟩ rfl rfl (Nat.le_of_ble_eq_true rfl) dd_P_nextOnWay_8 (fun H locs hR hS => ?_)
  refine lv_isub hx hb dd_P_nextOnWay_11 ?_
  obtain ⟨v4, qv4, hm⟩ := ss_bind hm
  refine ss_topi qv4 ?_
  refine lv_istore_n (lv' := [(2, .int v4), (0, ss_v (ss_b G) this), (1, .int a1)]) hx hb dd_P_nextOnWay_12 rfl hl (by decide) rfl (fun ls hl => ?_)
  refine lv_iconst (v := 0) hx hb dd_P_nextOnWay_13 (by decide) ?_
  refine lv_istore_n (lv' := [(3, .int (0 : Int32)), (2, .int v4), (0, ss_v (ss_b G) this), (1, .int a1)]) hx hb dd_P_nextOnWay_14 rfl hl (by decide) rfl (fun ls hl => ?_)
  obtain ⟨e_15, he_15, hm⟩ := ss_bind hm
  have X_15_67 : ∀  (H : Heap) (locs : List Loc) (ls : Array Slot), e_15 = (.inl ()) → ss_R G h H → va_S (ss_A G) s.heap H locs → lv_has ls 4 [] → ww_P_nextOnWay p l e s m below meth c G this a1 h rr  H locs 0 0 (F0 m 67 ls []) := by
    intro  H locs ls hq hR hS hl
    rw [hq] at hm
    refine lv_iconst (v := -1) hx hb dd_P_nextOnWay_67 (by decide) ?_
    exact ss_iret hC hr hlocks hR hS (ss_with _ hm) dd_P_nextOnWay_68
  have X_15_59 : ∀ (y3_15_59 : Int32) (H : Heap) (locs : List Loc) (ls : Array Slot), e_15 = (.inr y3_15_59) → ss_R G h H → va_S (ss_A G) s.heap H locs → lv_has ls 4 [(3, .int y3_15_59)] → ww_P_nextOnWay p l e s m below meth c G this a1 h rr  H locs 0 0 (F0 m 59 ls []) := by
    intro y3_15_59 H locs ls hq hR hS hl
    rw [hq] at hm
    refine lv_iload_n hx hb dd_P_nextOnWay_59 rfl (lv_at hl 0 rfl) ?_
    exact ss_iret hC hr hlocks hR hS (ss_with _ hm) dd_P_nextOnWay_60
  have L_15 : ∀ (n : Nat) (x3_15 : Int32) (H : Heap) (locs : List Loc) (ls : Array Slot), ss_lp (mm_P_nextOnWay_b15 N this a1 v4 h) n x3_15 = some e_15 → ss_R G h H → va_S (ss_A G) s.heap H locs → lv_has ls 4 [(0, ss_v (ss_b G) this), (1, .int a1), (2, .int v4), (3, .int x3_15)] → ww_P_nextOnWay p l e s m below meth c G this a1 h rr  H locs 0 0 (F0 m 15 ls []) := by
    intro n
    induction n with
    | zero => intro x3_15 H locs ls hm; cases hm
    | succ n ih_15 =>
      intro x3_15 H locs ls hm hR hS hl
      obtain ⟨z_15, hm, hz1_15, hz2_15⟩ := ss_lps hm
      have J_61 : ∀ (x3_61 : Int32) (H : Heap) (locs : List Loc) (ls : Array Slot), mm_P_nextOnWay_j61 N this a1 v4 h x3_61 = some z_15 → ss_R G h H → va_S (ss_A G) s.heap H locs → lv_has ls 4 [(0, ss_v (ss_b G) this), (1, .int a1), (2, .int v4), (3, .int x3_61)] → ww_P_nextOnWay p l e s m below meth c G this a1 h rr  H locs 0 0 (F0 m 61 ls []) := by
        intro x3_61 H locs ls hm hR hS hl
        obtain ⟨v5, qv5, hm⟩ := ss_bind hm
        refine lv_iinc (v := v5) (lv' := [(3, .int v5), (0, ss_v (ss_b G) this), (1, .int a1), (2, .int v4)]) hx hb dd_P_nextOnWay_61 hl (k := 3) rfl (ss_inc (by decide) qv5) (by decide) rfl (fun ls hl => ?_)
        refine lv_goto (tgt := 15) hx hb dd_P_nextOnWay_64 (by decide) ?_
        exact ih_15 v5  _ _ _ (hz1_15 _ (ss_some hm)) hR hS (lv_sub hl [1, 2, 3, 0] rfl)
      refine lv_iload_n hx hb dd_P_nextOnWay_15 rfl (lv_at hl 3 rfl) ?_
      refine ss_aload_n hx hb dd_P_nextOnWay_16 rfl (lv_at hl 0 rfl) ?_
      obtain ⟨r6, qr6, hm⟩ := ss_bind hm
      refine ss_getr hC hK hR kf_P_21 rfl qr6 dd_P_nextOnWay_17 ?_
      obtain ⟨r7, qr7, hm⟩ := ss_bind hm
      refine ss_getr hC hK hR kf_P_50 rfl qr7 dd_P_nextOnWay_20 ?_
      obtain ⟨v8, qv8, hm⟩ := ss_bind hm
      refine ss_geti hC hK hR kf_P_70 qv8 dd_P_nextOnWay_23 ?_
      refine lv_icmp_ge (tgt := 67) hx hb dd_P_nextOnWay_26 (by decide) (fun c9 => ?_) (fun c9 => ?_)
      · have hm := ss_ift hm c9
        exact X_15_67  _ _ _ (hz2_15 _ (ss_some hm)) hR hS (lv_sub hl [] rfl)
      · have hm := ss_iff hm c9
        refine ss_aload_n hx hb dd_P_nextOnWay_29 rfl (lv_at hl 0 rfl) ?_
        obtain ⟨r10, qr10, hm⟩ := ss_bind hm
        refine ss_getr hC hK hR kf_P_21 rfl qr10 dd_P_nextOnWay_30 ?_
        obtain ⟨r11, qr11, hm⟩ := ss_bind hm
        refine ss_getr hC hK hR kf_P_50 rfl qr11 dd_P_nextOnWay_33 ?_
        obtain ⟨r12, qr12, hm⟩ := ss_bind hm
        refine ss_getr hC hK hR kf_P_106 rfl qr12 dd_P_nextOnWay_36 ?_
        refine lv_iload_n hx hb dd_P_nextOnWay_39 rfl (lv_at hl 1 rfl) ?_
        obtain ⟨v13, qv13, hm⟩ := ss_bind hm
        refine ss_iald hC hK hR qv13 dd_P_nextOnWay_40 ?_
        refine lv_iload_n hx hb dd_P_nextOnWay_41 rfl (lv_at hl 3 rfl) ?_
        refine lv_ishr hx hb dd_P_nextOnWay_42 ?_
        refine lv_iconst (v := 1) hx hb dd_P_nextOnWay_43 (by decide) ?_
        refine lv_iand hx hb dd_P_nextOnWay_44 ?_
        refine lv_iconst (v := 1) hx hb dd_P_nextOnWay_45 (by decide) ?_
        refine lv_icmp_ne (tgt := 61) hx hb dd_P_nextOnWay_46 (by decide) (fun c14 => ?_) (fun c14 => ?_)
        · have hm := ss_iff hm c14
          exact J_61 x3_15  _ _ _ hm hR hS hl
        · have hm := ss_ift hm c14
          refine ss_aload_n hx hb dd_P_nextOnWay_49 rfl (lv_at hl 0 rfl) ?_
          obtain ⟨r15, qr15, hm⟩ := ss_bind hm
          refine ss_getr hC hK hR kf_P_15 rfl qr15 dd_P_nextOnWay_50 ?_
          refine lv_iload_n hx hb dd_P_nextOnWay_53 rfl (lv_at hl 3 rfl) ?_
          obtain ⟨v16, qv16, hm⟩ := ss_bind hm
          refine ss_iald hC hK hR qv16 dd_P_nextOnWay_54 ?_
          refine lv_iload_n hx hb dd_P_nextOnWay_55 rfl (lv_at hl 2 rfl) ?_
          refine lv_icmp_ne (tgt := 61) hx hb dd_P_nextOnWay_56 (by decide) (fun c17 => ?_) (fun c17 => ?_)
          · have hm := ss_iff hm c17
            exact J_61 x3_15  _ _ _ hm hR hS hl
          · have hm := ss_ift hm c17
            exact X_15_59 x3_15  _ _ _ (hz2_15 _ (ss_some hm)) hR hS (lv_sub hl [3] rfl)
  exact L_15 N (0 : Int32) _ _ _ he_15 hR hS (lv_sub hl [2, 3, 1, 0] rfl)
theorem dd_P_wayOf_0 : decode bb_P_wayOf 0 = .ok (.aload_n 0, 1) := by decide +kernel
theorem dd_P_wayOf_1 : decode bb_P_wayOf 1 = .ok (.iload_n 2, 1) := by decide +kernel
theorem dd_P_wayOf_2 : decode bb_P_wayOf 2 = .ok (.invokevirtual 82, 3) := by decide +kernel
theorem dd_P_wayOf_5 : decode bb_P_wayOf 5 = .ok (.aload_n 0, 1) := by decide +kernel
theorem dd_P_wayOf_6 : decode bb_P_wayOf 6 = .ok (.getfield 15, 3) := by decide +kernel
theorem dd_P_wayOf_9 : decode bb_P_wayOf 9 = .ok (.iload_n 1, 1) := by decide +kernel
theorem dd_P_wayOf_10 : decode bb_P_wayOf 10 = .ok (.iaload, 1) := by decide +kernel
theorem dd_P_wayOf_11 : decode bb_P_wayOf 11 = .ok (.ldc 86, 2) := by decide +kernel
theorem dd_P_wayOf_13 : decode bb_P_wayOf 13 = .ok (.if_icmp .lt 6, 3) := by decide +kernel
theorem dd_P_wayOf_16 : decode bb_P_wayOf 16 = .ok (.bipush (-2), 2) := by decide +kernel
theorem dd_P_wayOf_18 : decode bb_P_wayOf 18 = .ok (.ireturn, 1) := by decide +kernel
theorem dd_P_wayOf_19 : decode bb_P_wayOf 19 = .ok (.iload_n 3, 1) := by decide +kernel
theorem dd_P_wayOf_20 : decode bb_P_wayOf 20 = .ok (.ifCond .ne 13, 3) := by decide +kernel
theorem dd_P_wayOf_23 : decode bb_P_wayOf 23 = .ok (.aload_n 0, 1) := by decide +kernel
theorem dd_P_wayOf_24 : decode bb_P_wayOf 24 = .ok (.getfield 15, 3) := by decide +kernel
theorem dd_P_wayOf_27 : decode bb_P_wayOf 27 = .ok (.iload_n 1, 1) := by decide +kernel
theorem dd_P_wayOf_28 : decode bb_P_wayOf 28 = .ok (.iaload, 1) := by decide +kernel
theorem dd_P_wayOf_29 : decode bb_P_wayOf 29 = .ok (.bipush 16, 2) := by decide +kernel
theorem dd_P_wayOf_31 : decode bb_P_wayOf 31 = .ok (.idiv, 1) := by decide +kernel
theorem dd_P_wayOf_32 : decode bb_P_wayOf 32 = .ok (.ireturn, 1) := by decide +kernel
theorem dd_P_wayOf_33 : decode bb_P_wayOf 33 = .ok (.iload_n 3, 1) := by decide +kernel
theorem dd_P_wayOf_34 : decode bb_P_wayOf 34 = .ok (.iconst 1, 1) := by decide +kernel
theorem dd_P_wayOf_35 : decode bb_P_wayOf 35 = .ok (.if_icmp .ne 13, 3) := by decide +kernel
theorem dd_P_wayOf_38 : decode bb_P_wayOf 38 = .ok (.aload_n 0, 1) := by decide +kernel
theorem dd_P_wayOf_39 : decode bb_P_wayOf 39 = .ok (.getfield 15, 3) := by decide +kernel
theorem dd_P_wayOf_42 : decode bb_P_wayOf 42 = .ok (.iload_n 1, 1) := by decide +kernel
theorem dd_P_wayOf_43 : decode bb_P_wayOf 43 = .ok (.iaload, 1) := by decide +kernel
theorem dd_P_wayOf_44 : decode bb_P_wayOf 44 = .ok (.bipush 16, 2) := by decide +kernel
theorem dd_P_wayOf_46 : decode bb_P_wayOf 46 = .ok (.irem, 1) := by decide +kernel
theorem dd_P_wayOf_47 : decode bb_P_wayOf 47 = .ok (.ireturn, 1) := by decide +kernel
theorem dd_P_wayOf_48 : decode bb_P_wayOf 48 = .ok (.iload_n 1, 1) := by decide +kernel
theorem dd_P_wayOf_49 : decode bb_P_wayOf 49 = .ok (.iload_n 2, 1) := by decide +kernel
theorem dd_P_wayOf_50 : decode bb_P_wayOf 50 = .ok (.if_icmp .ne 7, 3) := by decide +kernel
theorem dd_P_wayOf_53 : decode bb_P_wayOf 53 = .ok (.iconst (-1), 1) := by decide +kernel
theorem dd_P_wayOf_54 : decode bb_P_wayOf 54 = .ok (.goto 8, 3) := by decide +kernel
theorem dd_P_wayOf_57 : decode bb_P_wayOf 57 = .ok (.aload_n 0, 1) := by decide +kernel
theorem dd_P_wayOf_58 : decode bb_P_wayOf 58 = .ok (.iload_n 1, 1) := by decide +kernel
theorem dd_P_wayOf_59 : decode bb_P_wayOf 59 = .ok (.invokevirtual 87, 3) := by decide +kernel
theorem dd_P_wayOf_62 : decode bb_P_wayOf 62 = .ok (.ireturn, 1) := by decide +kernel
def mm_P_wayOf_j62 (N : Nat) (this : Option Nat) (a1 : Int32) (a2 : Int32) (a3 : Int32) (s0_62 : Int32) (h_62 : ss_Hp) : Option (Int32 × ss_Hp) :=
  some (s0_62, h_62)
def mm_P_wayOf (N : Nat) (this : Option Nat) (a1 : Int32) (a2 : Int32) (a3 : Int32) (h : ss_Hp) : Option (Int32 × ss_Hp) :=
  if ss_is h this 10 = true then
    (mm_P_spreadCosts N this a2 h).bind fun h1 =>
    (ss_gr h1 this 10 3).bind fun r2 =>
    (ss_ai h1 r2 20 a1).bind fun v3 =>
    if v3 < (1000000 : Int32) then
      if a3 = 0 then
        (ss_gr h1 this 10 3).bind fun r12 =>
        (ss_ai h1 r12 20 a1).bind fun v13 =>
        (ss_div v13 (16 : Int32)).bind fun v14 =>
        some (v14, h1)
      else
        if a3 = (1 : Int32) then
          (ss_gr h1 this 10 3).bind fun r9 =>
          (ss_ai h1 r9 20 a1).bind fun v10 =>
          (ss_rem v10 (16 : Int32)).bind fun v11 =>
          some (v11, h1)
        else
          if a1 = a2 then
            mm_P_wayOf_j62 N this a1 a2 a3 (-1 : Int32) h1
          else
            (mm_P_nextOnWay N this a1 h1).bind fun v8 =>
            mm_P_wayOf_j62 N this a1 a2 a3 v8 h1
    else
      some ((-2 : Int32), h1)
  else none
abbrev ww_P_wayOf (p : Program) (l : Launch) (e : Env) (s : State) (m : MethodId) (below : List Frame) (meth : Method) (c : Code) (G : ss_G) (this : Option Nat) (a1 : Int32) (a2 : Int32) (a3 : Int32) (h : ss_Hp) (rr : Int32) (hh : ss_Hp) (H : Heap) (locs : List Loc) (k n : Nat) (g : JFrame) : Prop := W p l e (headSpec (ss_w yy_P_wayOf bb_P_wayOf 4 (some (.int))) ({ frames := 4, cells := 0, slots := 0, locals := 127 })).room s m ([ss_v (ss_b G) this, .int a1, .int a2, .int a3] : List Value).toArray below meth c H locs k n (MQ below (ss_Qc G (some (.int rr)) hh) ([ss_v (ss_b G) this, .int a1, .int a2, .int a3] : List Value).toArray s 0 0 (ss_A G)) g
theorem ck_P_wayOf {N : Nat} {this : Option Nat} {a1 : Int32} {a2 : Int32} {a3 : Int32} {h : ss_Hp} {res : Int32 × ss_Hp} (hm : mm_P_wayOf N this a1 a2 a3 h = some res) : ss_is h this 10 = true := (ss_chk hm).1
set_option maxHeartbeats 4000000 in
set_option maxRecDepth 100000 in
theorem cc_P_wayOf (l : Launch) (G : ss_G) (N : Nat) (this : Option Nat) (a1 : Int32) (a2 : Int32) (a3 : Int32) (h : ss_Hp) (rr : Int32) (hh : ss_Hp) (hm : mm_P_wayOf N this a1 a2 a3 h = some (rr, hh)) : ss_Ct l G yy_P_wayOf bb_P_wayOf 4 (some (.int)) ({ frames := 4, cells := 0, slots := 0, locals := 127 }) [ss_v (ss_b G) this, .int a1, .int a2, .int a3] h (some (.int rr)) hh := by
  obtain ⟨hck, hm⟩ := ss_chk hm
  refine Met.ofW (cc := bb_P_wayOf) (maxL := 4) (ret := (some (.int))) (by decide) rfl ?_
  intro p e s m args below meth c s₁ B hml hv
  obtain ⟨rfl, hR, hK⟩ := hv
  have hC : CallFix p m c bb_P_wayOf 4 s _ lw_g sR_10 := ⟨B.exec, B.bytes, hml, findClass_of_methodNamed B.named, fun w hw => atoms_spec (ws := ss_w yy_P_wayOf bb_P_wayOf 4 (some (.int))) B.pre w (List.mem_cons_of_mem _ hw)⟩
  have hx := hC.1
  have hb := hC.2.1
  have hr := B.returns
  have hlocks := B.notSynchronized
  have hS : va_S (ss_A G) s.heap s.heap [] := va_S.rf
  have hl := lv_entry ([ss_v (ss_b G) this, .int a1, .int a2, .int a3]) (n := 4) (by simp [lg_sl, ss_v_cat, ss_cat_i, ss_cat_l, ss_cat_r])
  rw [lg_entry_eq]
  generalize (lg_sl ([ss_v (ss_b G) this, .int a1, .int a2, .int a3]) ++ List.replicate (4 - (lg_sl ([ss_v (ss_b G) this, .int a1, .int a2, .int a3])).length) Slot.unset).toArray = ls at hl ⊢
  have hl : lv_has ls 4 [(0, ss_v (ss_b G) this), (1, .int a1), (2, .int a2), (3, .int a3)] := by simpa [lv_args, ss_v_cat, ss_cat_i, ss_cat_l, ss_cat_r] using hl
  have J_62 : ∀ (s0_62 : Int32) (h_62 : ss_Hp) (H : Heap) (locs : List Loc) (ls : Array Slot), mm_P_wayOf_j62 N this a1 a2 a3 s0_62 h_62 = some (rr, hh) → ss_R G h_62 H → va_S (ss_A G) s.heap H locs → lv_has ls 4 [] → ww_P_wayOf p l e s m below meth c G this a1 a2 a3 h rr hh  H locs 0 0 (F0 m 62 ls [.int s0_62]) := by
    intro s0_62 h_62 H locs ls hm hR hS hl
    exact ss_iret hC hr hlocks hR hS hm dd_P_wayOf_62
  refine ss_aload_n hx hb dd_P_wayOf_0 rfl (lv_at hl 0 rfl) ?_
  refine lv_iload_n hx hb dd_P_wayOf_1 rfl (lv_at hl 2 rfl) ?_
  obtain ⟨h1, qh1, hm⟩ := ss_bind hm
  refine ss_cVv 0 0 (As := [.int a2]) hC hK hR hS hl.1 (cc_P_spreadCosts l G N _ _ _ _ qh1) km_P_82 (ck_P_spreadCosts qh1) ⟨Nat.le_of_ble_eq_true rfl, Nat.le_of_ble_eq_true rfl⟩ ⟨Nat.le_of_ble_eq_true rfl, Nat.le_of_ble_eq_true rfl, Nat.le_of_ble_eq_true rfl, Nat.le_of_ble_eq_true rfl⟩ rfl rfl (Nat.le_of_ble_eq_true rfl) dd_P_wayOf_2 (fun H locs hR hS => ?_)
  refine ss_aload_n hx hb dd_P_wayOf_5 rfl (lv_at hl 0 rfl) ?_
  obtain ⟨r2, qr2, hm⟩ := ss_bind hm
  refine ss_getr hC hK hR kf_P_15 rfl qr2 dd_P_wayOf_6 ?_
  refine lv_iload_n hx hb dd_P_wayOf_9 rfl (lv_at hl 1 rfl) ?_
  obtain ⟨v3, qv3, hm⟩ := ss_bind hm
  refine ss_iald hC hK hR qv3 dd_P_wayOf_10 ?_
  refine lv_ldc (v := 1000000) hx hb hC.2.2.2.1 (hC.2.2.2.2 _ kc_P_86) dd_P_wayOf_11 ?_
  refine lv_icmp_lt (tgt := 19) hx hb dd_P_wayOf_13 (by decide) (fun c4 => ?_) (fun c4 => ?_)
  · have hm := ss_ift hm c4
    refine lv_iload_n hx hb dd_P_wayOf_19 rfl (lv_at hl 3 rfl) ?_
    refine lv_if_ne (tgt := 33) hx hb dd_P_wayOf_20 (by decide) (fun c5 => ?_) (fun c5 => ?_)
    · have hm := ss_iff hm c5
      refine lv_iload_n hx hb dd_P_wayOf_33 rfl (lv_at hl 3 rfl) ?_
      refine lv_iconst (v := 1) hx hb dd_P_wayOf_34 (by decide) ?_
      refine lv_icmp_ne (tgt := 48) hx hb dd_P_wayOf_35 (by decide) (fun c6 => ?_) (fun c6 => ?_)
      · have hm := ss_iff hm c6
        refine lv_iload_n hx hb dd_P_wayOf_48 rfl (lv_at hl 1 rfl) ?_
        refine lv_iload_n hx hb dd_P_wayOf_49 rfl (lv_at hl 2 rfl) ?_
        refine lv_icmp_ne (tgt := 57) hx hb dd_P_wayOf_50 (by decide) (fun c7 => ?_) (fun c7 => ?_)
        · have hm := ss_iff hm c7
          refine ss_aload_n hx hb dd_P_wayOf_57 rfl (lv_at hl 0 rfl) ?_
          refine lv_iload_n hx hb dd_P_wayOf_58 rfl (lv_at hl 1 rfl) ?_
          obtain ⟨v8, qv8, hm⟩ := ss_bind hm
          refine ss_cV 0 0 (As := [.int a1]) hC hK hR hS hl.1 (cc_P_nextOnWay l G N _ _ _ _ qv8) km_P_87 (ck_P_nextOnWay qv8) ⟨Nat.le_of_ble_eq_true rfl, Nat.le_of_ble_eq_true rfl⟩ ⟨Nat.le_of_ble_eq_true rfl, Nat.le_of_ble_eq_true rfl, Nat.le_of_ble_eq_true rfl, Nat.le_of_ble_eq_true rfl⟩ rfl rfl (Nat.le_of_ble_eq_true rfl) dd_P_wayOf_59 (fun H locs hR hS => ?_)
          exact J_62 v8 h1 _ _ _ hm hR hS (lv_sub hl [] rfl)
        · have hm := ss_ift hm c7
          refine lv_iconst (v := -1) hx hb dd_P_wayOf_53 (by decide) ?_
          refine lv_goto (tgt := 62) hx hb dd_P_wayOf_54 (by decide) ?_
          exact J_62 (-1 : Int32) h1 _ _ _ hm hR hS (lv_sub hl [] rfl)
      · have hm := ss_ift hm c6
        refine ss_aload_n hx hb dd_P_wayOf_38 rfl (lv_at hl 0 rfl) ?_
        obtain ⟨r9, qr9, hm⟩ := ss_bind hm
        refine ss_getr hC hK hR kf_P_15 rfl qr9 dd_P_wayOf_39 ?_
        refine lv_iload_n hx hb dd_P_wayOf_42 rfl (lv_at hl 1 rfl) ?_
        obtain ⟨v10, qv10, hm⟩ := ss_bind hm
        refine ss_iald hC hK hR qv10 dd_P_wayOf_43 ?_
        refine lv_bipush (v := 16) hx hb dd_P_wayOf_44 (by decide) ?_
        obtain ⟨v11, qv11, hm⟩ := ss_bind hm
        refine ss_irem hx hb qv11 dd_P_wayOf_46 ?_
        exact ss_iret hC hr hlocks hR hS hm dd_P_wayOf_47
    · have hm := ss_ift hm c5
      refine ss_aload_n hx hb dd_P_wayOf_23 rfl (lv_at hl 0 rfl) ?_
      obtain ⟨r12, qr12, hm⟩ := ss_bind hm
      refine ss_getr hC hK hR kf_P_15 rfl qr12 dd_P_wayOf_24 ?_
      refine lv_iload_n hx hb dd_P_wayOf_27 rfl (lv_at hl 1 rfl) ?_
      obtain ⟨v13, qv13, hm⟩ := ss_bind hm
      refine ss_iald hC hK hR qv13 dd_P_wayOf_28 ?_
      refine lv_bipush (v := 16) hx hb dd_P_wayOf_29 (by decide) ?_
      obtain ⟨v14, qv14, hm⟩ := ss_bind hm
      refine ss_idiv hx hb qv14 dd_P_wayOf_31 ?_
      exact ss_iret hC hr hlocks hR hS hm dd_P_wayOf_32
  · have hm := ss_iff hm c4
    refine lv_bipush (v := -2) hx hb dd_P_wayOf_16 (by decide) ?_
    exact ss_iret hC hr hlocks hR hS hm dd_P_wayOf_18
theorem dd_S_way_0 : decode bb_S_way 0 = .ok (.aload_n 0, 1) := by decide +kernel
theorem dd_S_way_1 : decode bb_S_way 1 = .ok (.iload_n 1, 1) := by decide +kernel
theorem dd_S_way_2 : decode bb_S_way 2 = .ok (.invokevirtual 124, 3) := by decide +kernel
theorem dd_S_way_5 : decode bb_S_way 5 = .ok (.ifCond .eq 20, 3) := by decide +kernel
theorem dd_S_way_8 : decode bb_S_way 8 = .ok (.aload_n 0, 1) := by decide +kernel
theorem dd_S_way_9 : decode bb_S_way 9 = .ok (.iload_n 2, 1) := by decide +kernel
theorem dd_S_way_10 : decode bb_S_way 10 = .ok (.invokevirtual 124, 3) := by decide +kernel
theorem dd_S_way_13 : decode bb_S_way 13 = .ok (.ifCond .eq 12, 3) := by decide +kernel
theorem dd_S_way_16 : decode bb_S_way 16 = .ok (.iload_n 3, 1) := by decide +kernel
theorem dd_S_way_17 : decode bb_S_way 17 = .ok (.iconst 0, 1) := by decide +kernel
theorem dd_S_way_18 : decode bb_S_way 18 = .ok (.iconst 2, 1) := by decide +kernel
theorem dd_S_way_19 : decode bb_S_way 19 = .ok (.invokestatic 195, 3) := by decide +kernel
theorem dd_S_way_22 : decode bb_S_way 22 = .ok (.ifCond .ne 6, 3) := by decide +kernel
theorem dd_S_way_25 : decode bb_S_way 25 = .ok (.bipush (-3), 2) := by decide +kernel
theorem dd_S_way_27 : decode bb_S_way 27 = .ok (.ireturn, 1) := by decide +kernel
theorem dd_S_way_28 : decode bb_S_way 28 = .ok (.aload_n 0, 1) := by decide +kernel
theorem dd_S_way_29 : decode bb_S_way 29 = .ok (.getfield 86, 3) := by decide +kernel
theorem dd_S_way_32 : decode bb_S_way 32 = .ok (.iload_n 1, 1) := by decide +kernel
theorem dd_S_way_33 : decode bb_S_way 33 = .ok (.iload_n 2, 1) := by decide +kernel
theorem dd_S_way_34 : decode bb_S_way 34 = .ok (.iload_n 3, 1) := by decide +kernel
theorem dd_S_way_35 : decode bb_S_way 35 = .ok (.invokevirtual 240, 3) := by decide +kernel
theorem dd_S_way_38 : decode bb_S_way 38 = .ok (.ireturn, 1) := by decide +kernel
def mm_S_way_j25 (N : Nat) (this : Option Nat) (a1 : Int32) (a2 : Int32) (a3 : Int32) (h_25 : ss_Hp) : Option (Int32 × ss_Hp) :=
  some ((-3 : Int32), h_25)
def mm_S_way (N : Nat) (this : Option Nat) (a1 : Int32) (a2 : Int32) (a3 : Int32) (h : ss_Hp) : Option (Int32 × ss_Hp) :=
  if ss_is h this 11 = true then
    (mm_S_isStep N this a1 h).bind fun v1 =>
    if v1 = 0 then
      mm_S_way_j25 N this a1 a2 a3 h
    else
      (mm_S_isStep N this a2 h).bind fun v3 =>
      if v3 = 0 then
        mm_S_way_j25 N this a1 a2 a3 h
      else
        (mm_S_isWithin N a3 (0 : Int32) (2 : Int32)).bind fun v5 =>
        if v5 = 0 then
          mm_S_way_j25 N this a1 a2 a3 h
        else
          (ss_gr h this 11 9).bind fun r7 =>
          ss_b2 (mm_P_wayOf N r7 a1 a2 a3 h) fun v8 h9 =>
          some (v8, h9)
  else none
abbrev ww_S_way (p : Program) (l : Launch) (e : Env) (s : State) (m : MethodId) (below : List Frame) (meth : Method) (c : Code) (G : ss_G) (this : Option Nat) (a1 : Int32) (a2 : Int32) (a3 : Int32) (h : ss_Hp) (rr : Int32) (hh : ss_Hp) (H : Heap) (locs : List Loc) (k n : Nat) (g : JFrame) : Prop := W p l e (headSpec (ss_w yy_S_way bb_S_way 4 (some (.int))) ({ frames := 5, cells := 0, slots := 0, locals := 150 })).room s m ([ss_v (ss_b G) this, .int a1, .int a2, .int a3] : List Value).toArray below meth c H locs k n (MQ below (ss_Qc G (some (.int rr)) hh) ([ss_v (ss_b G) this, .int a1, .int a2, .int a3] : List Value).toArray s 0 0 (ss_A G)) g
theorem ck_S_way {N : Nat} {this : Option Nat} {a1 : Int32} {a2 : Int32} {a3 : Int32} {h : ss_Hp} {res : Int32 × ss_Hp} (hm : mm_S_way N this a1 a2 a3 h = some res) : ss_is h this 11 = true := (ss_chk hm).1
set_option maxHeartbeats 4000000 in
set_option maxRecDepth 100000 in
theorem cc_S_way (l : Launch) (G : ss_G) (N : Nat) (this : Option Nat) (a1 : Int32) (a2 : Int32) (a3 : Int32) (h : ss_Hp) (rr : Int32) (hh : ss_Hp) (hm : mm_S_way N this a1 a2 a3 h = some (rr, hh)) : ss_Ct l G yy_S_way bb_S_way 4 (some (.int)) ({ frames := 5, cells := 0, slots := 0, locals := 150 }) [ss_v (ss_b G) this, .int a1, .int a2, .int a3] h (some (.int rr)) hh := by
  obtain ⟨hck, hm⟩ := ss_chk hm
  refine Met.ofW (cc := bb_S_way) (maxL := 4) (ret := (some (.int))) (by decide) rfl ?_
  intro p e s m args below meth c s₁ B hml hv
  obtain ⟨rfl, hR, hK⟩ := hv
  have hC : CallFix p m c bb_S_way 4 s _ lw_g sR_11 := ⟨B.exec, B.bytes, hml, findClass_of_methodNamed B.named, fun w hw => atoms_spec (ws := ss_w yy_S_way bb_S_way 4 (some (.int))) B.pre w (List.mem_cons_of_mem _ hw)⟩
  have hx := hC.1
  have hb := hC.2.1
  have hr := B.returns
  have hlocks := B.notSynchronized
  have hS : va_S (ss_A G) s.heap s.heap [] := va_S.rf
  have hl := lv_entry ([ss_v (ss_b G) this, .int a1, .int a2, .int a3]) (n := 4) (by simp [lg_sl, ss_v_cat, ss_cat_i, ss_cat_l, ss_cat_r])
  rw [lg_entry_eq]
  generalize (lg_sl ([ss_v (ss_b G) this, .int a1, .int a2, .int a3]) ++ List.replicate (4 - (lg_sl ([ss_v (ss_b G) this, .int a1, .int a2, .int a3])).length) Slot.unset).toArray = ls at hl ⊢
  have hl : lv_has ls 4 [(0, ss_v (ss_b G) this), (1, .int a1), (2, .int a2), (3, .int a3)] := by simpa [lv_args, ss_v_cat, ss_cat_i, ss_cat_l, ss_cat_r] using hl
  have J_25 : ∀ (h_25 : ss_Hp) (H : Heap) (locs : List Loc) (ls : Array Slot), mm_S_way_j25 N this a1 a2 a3 h_25 = some (rr, hh) → ss_R G h_25 H → va_S (ss_A G) s.heap H locs → lv_has ls 4 [] → ww_S_way p l e s m below meth c G this a1 a2 a3 h rr hh  H locs 0 0 (F0 m 25 ls []) := by
    intro h_25 H locs ls hm hR hS hl
    refine lv_bipush (v := -3) hx hb dd_S_way_25 (by decide) ?_
    exact ss_iret hC hr hlocks hR hS hm dd_S_way_27
  refine ss_aload_n hx hb dd_S_way_0 rfl (lv_at hl 0 rfl) ?_
  refine lv_iload_n hx hb dd_S_way_1 rfl (lv_at hl 1 rfl) ?_
  obtain ⟨v1, qv1, hm⟩ := ss_bind hm
  refine ss_cV 0 0 (As := [.int a1]) hC hK hR hS hl.1 (cc_S_isStep l G N _ _ _ _ qv1) km_S_124 (ck_S_isStep qv1) ⟨Nat.le_of_ble_eq_true rfl, Nat.le_of_ble_eq_true rfl⟩ ⟨Nat.le_of_ble_eq_true rfl, Nat.le_of_ble_eq_true rfl, Nat.le_of_ble_eq_true rfl, Nat.le_of_ble_eq_true rfl⟩ rfl rfl (Nat.le_of_ble_eq_true rfl) dd_S_way_2 (fun H locs hR hS => ?_)
  refine lv_if_eq (tgt := 25) hx hb dd_S_way_5 (by decide) (fun c2 => ?_) (fun c2 => ?_)
  · have hm := ss_ift hm c2
    exact J_25 h _ _ _ hm hR hS (lv_sub hl [] rfl)
  · have hm := ss_iff hm c2
    refine ss_aload_n hx hb dd_S_way_8 rfl (lv_at hl 0 rfl) ?_
    refine lv_iload_n hx hb dd_S_way_9 rfl (lv_at hl 2 rfl) ?_
    obtain ⟨v3, qv3, hm⟩ := ss_bind hm
    refine ss_cV 0 0 (As := [.int a2]) hC hK hR hS hl.1 (cc_S_isStep l G N _ _ _ _ qv3) km_S_124 (ck_S_isStep qv3) ⟨Nat.le_of_ble_eq_true rfl, Nat.le_of_ble_eq_true rfl⟩ ⟨Nat.le_of_ble_eq_true rfl, Nat.le_of_ble_eq_true rfl, Nat.le_of_ble_eq_true rfl, Nat.le_of_ble_eq_true rfl⟩ rfl rfl (Nat.le_of_ble_eq_true rfl) dd_S_way_10 (fun H locs hR hS => ?_)
    refine lv_if_eq (tgt := 25) hx hb dd_S_way_13 (by decide) (fun c4 => ?_) (fun c4 => ?_)
    · have hm := ss_ift hm c4
      exact J_25 h _ _ _ hm hR hS (lv_sub hl [] rfl)
    · have hm := ss_iff hm c4
      refine lv_iload_n hx hb dd_S_way_16 rfl (lv_at hl 3 rfl) ?_
      refine lv_iconst (v := 0) hx hb dd_S_way_17 (by decide) ?_
      refine lv_iconst (v := 2) hx hb dd_S_way_18 (by decide) ?_
      obtain ⟨v5, qv5, hm⟩ := ss_bind hm
      refine ss_cS 0 0 (As := [.int a3, .int (0 : Int32), .int (2 : Int32)]) hC hK hR hS hl.1 (cc_S_isWithin l G N _ _ _ _ _ qv5) km_S_195 ⟨Nat.le_of_ble_eq_true rfl, Nat.le_of_ble_eq_true rfl⟩ ⟨Nat.le_of_ble_eq_true rfl, Nat.le_of_ble_eq_true rfl, Nat.le_of_ble_eq_true rfl, Nat.le_of_ble_eq_true rfl⟩ rfl rfl (Nat.le_of_ble_eq_true rfl) dd_S_way_19 (fun H locs hR hS => ?_)
      refine lv_if_ne (tgt := 28) hx hb dd_S_way_22 (by decide) (fun c6 => ?_) (fun c6 => ?_)
      · have hm := ss_iff hm c6
        refine ss_aload_n hx hb dd_S_way_28 rfl (lv_at hl 0 rfl) ?_
        obtain ⟨r7, qr7, hm⟩ := ss_bind hm
        refine ss_getr hC hK hR kf_S_86 rfl qr7 dd_S_way_29 ?_
        refine lv_iload_n hx hb dd_S_way_32 rfl (lv_at hl 1 rfl) ?_
        refine lv_iload_n hx hb dd_S_way_33 rfl (lv_at hl 2 rfl) ?_
        refine lv_iload_n hx hb dd_S_way_34 rfl (lv_at hl 3 rfl) ?_
        obtain ⟨v8, h9, qh9, hm⟩ := ss_bind2 hm
        refine ss_cV 0 0 (As := [.int a1, .int a2, .int a3]) hC hK hR hS hl.1 (cc_P_wayOf l G N _ _ _ _ _ _ _ qh9) km_S_240 (ck_P_wayOf qh9) ⟨Nat.le_of_ble_eq_true rfl, Nat.le_of_ble_eq_true rfl⟩ ⟨Nat.le_of_ble_eq_true rfl, Nat.le_of_ble_eq_true rfl, Nat.le_of_ble_eq_true rfl, Nat.le_of_ble_eq_true rfl⟩ rfl rfl (Nat.le_of_ble_eq_true rfl) dd_S_way_35 (fun H locs hR hS => ?_)
        exact ss_iret hC hr hlocks hR hS hm dd_S_way_38
      · have hm := ss_ift hm c6
        exact J_25 h _ _ _ hm hR hS (lv_sub hl [] rfl)
theorem dd_P_setCount_0 : decode bb_P_setCount 0 = .ok (.iconst 1, 1) := by decide +kernel
theorem dd_P_setCount_1 : decode bb_P_setCount 1 = .ok (.aload_n 0, 1) := by decide +kernel
theorem dd_P_setCount_2 : decode bb_P_setCount 2 = .ok (.getfield 21, 3) := by decide +kernel
theorem dd_P_setCount_5 : decode bb_P_setCount 5 = .ok (.getfield 50, 3) := by decide +kernel
theorem dd_P_setCount_8 : decode bb_P_setCount 8 = .ok (.getfield 109, 3) := by decide +kernel
theorem dd_P_setCount_11 : decode bb_P_setCount 11 = .ok (.ishl, 1) := by decide +kernel
theorem dd_P_setCount_12 : decode bb_P_setCount 12 = .ok (.ireturn, 1) := by decide +kernel
def mm_P_setCount (N : Nat) (this : Option Nat) (h : ss_Hp) : Option Int32 :=
  if ss_is h this 10 = true then
    (ss_gr h this 10 0).bind fun r1 =>
    (ss_gr h r1 8 0).bind fun r2 =>
    (ss_gi h r2 5 4).bind fun v3 =>
    some ((1 : Int32) <<< (v3 &&& 31))
  else none
abbrev ww_P_setCount (p : Program) (l : Launch) (e : Env) (s : State) (m : MethodId) (below : List Frame) (meth : Method) (c : Code) (G : ss_G) (this : Option Nat) (h : ss_Hp) (rr : Int32) (H : Heap) (locs : List Loc) (k n : Nat) (g : JFrame) : Prop := W p l e (headSpec (ss_w yy_P_setCount bb_P_setCount 1 (some (.int))) ({ frames := 0, cells := 0, slots := 0, locals := 0 })).room s m ([ss_v (ss_b G) this] : List Value).toArray below meth c H locs k n (MQ below (ss_Qc G (some (.int rr)) h) ([ss_v (ss_b G) this] : List Value).toArray s 0 0 (ss_A G)) g
theorem ck_P_setCount {N : Nat} {this : Option Nat} {h : ss_Hp} {res : Int32} (hm : mm_P_setCount N this h = some res) : ss_is h this 10 = true := (ss_chk hm).1
set_option maxHeartbeats 4000000 in
set_option maxRecDepth 100000 in
theorem cc_P_setCount (l : Launch) (G : ss_G) (N : Nat) (this : Option Nat) (h : ss_Hp) (rr : Int32) (hm : mm_P_setCount N this h = some rr) : ss_Ct l G yy_P_setCount bb_P_setCount 1 (some (.int)) ({ frames := 0, cells := 0, slots := 0, locals := 0 }) [ss_v (ss_b G) this] h (some (.int rr)) h := by
  obtain ⟨hck, hm⟩ := ss_chk hm
  refine Met.ofW (cc := bb_P_setCount) (maxL := 1) (ret := (some (.int))) (by decide) rfl ?_
  intro p e s m args below meth c s₁ B hml hv
  obtain ⟨rfl, hR, hK⟩ := hv
  have hC : CallFix p m c bb_P_setCount 1 s _ lw_g sR_10 := ⟨B.exec, B.bytes, hml, findClass_of_methodNamed B.named, fun w hw => atoms_spec (ws := ss_w yy_P_setCount bb_P_setCount 1 (some (.int))) B.pre w (List.mem_cons_of_mem _ hw)⟩
  have hx := hC.1
  have hb := hC.2.1
  have hr := B.returns
  have hlocks := B.notSynchronized
  have hS : va_S (ss_A G) s.heap s.heap [] := va_S.rf
  have hl := lv_entry ([ss_v (ss_b G) this]) (n := 1) (by simp [lg_sl, ss_v_cat, ss_cat_i, ss_cat_l, ss_cat_r])
  rw [lg_entry_eq]
  generalize (lg_sl ([ss_v (ss_b G) this]) ++ List.replicate (1 - (lg_sl ([ss_v (ss_b G) this])).length) Slot.unset).toArray = ls at hl ⊢
  have hl : lv_has ls 1 [(0, ss_v (ss_b G) this)] := by simpa [lv_args, ss_v_cat, ss_cat_i, ss_cat_l, ss_cat_r] using hl
  refine lv_iconst (v := 1) hx hb dd_P_setCount_0 (by decide) ?_
  refine ss_aload_n hx hb dd_P_setCount_1 rfl (lv_at hl 0 rfl) ?_
  obtain ⟨r1, qr1, hm⟩ := ss_bind hm
  refine ss_getr hC hK hR kf_P_21 rfl qr1 dd_P_setCount_2 ?_
  obtain ⟨r2, qr2, hm⟩ := ss_bind hm
  refine ss_getr hC hK hR kf_P_50 rfl qr2 dd_P_setCount_5 ?_
  obtain ⟨v3, qv3, hm⟩ := ss_bind hm
  refine ss_geti hC hK hR kf_P_109 qv3 dd_P_setCount_8 ?_
  refine lv_ishl hx hb dd_P_setCount_11 ?_
  exact ss_iret hC hr hlocks hR hS (ss_with _ hm) dd_P_setCount_12
theorem dd_P_sweepAsAgreed_0 : decode bb_P_sweepAsAgreed 0 = .ok (.iconst 0, 1) := by decide +kernel
theorem dd_P_sweepAsAgreed_1 : decode bb_P_sweepAsAgreed 1 = .ok (.istore_n 2, 1) := by decide +kernel
theorem dd_P_sweepAsAgreed_2 : decode bb_P_sweepAsAgreed 2 = .ok (.iload_n 2, 1) := by decide +kernel
theorem dd_P_sweepAsAgreed_3 : decode bb_P_sweepAsAgreed 3 = .ok (.aload_n 0, 1) := by decide +kernel
theorem dd_P_sweepAsAgreed_4 : decode bb_P_sweepAsAgreed 4 = .ok (.getfield 21, 3) := by decide +kernel
theorem dd_P_sweepAsAgreed_7 : decode bb_P_sweepAsAgreed 7 = .ok (.getfield 50, 3) := by decide +kernel
theorem dd_P_sweepAsAgreed_10 : decode bb_P_sweepAsAgreed 10 = .ok (.getfield 109, 3) := by decide +kernel
theorem dd_P_sweepAsAgreed_13 : decode bb_P_sweepAsAgreed 13 = .ok (.if_icmp .ge 70, 3) := by decide +kernel
theorem dd_P_sweepAsAgreed_16 : decode bb_P_sweepAsAgreed 16 = .ok (.aload_n 0, 1) := by decide +kernel
theorem dd_P_sweepAsAgreed_17 : decode bb_P_sweepAsAgreed 17 = .ok (.getfield 21, 3) := by decide +kernel
theorem dd_P_sweepAsAgreed_20 : decode bb_P_sweepAsAgreed 20 = .ok (.getfield 50, 3) := by decide +kernel
theorem dd_P_sweepAsAgreed_23 : decode bb_P_sweepAsAgreed 23 = .ok (.getfield 130, 3) := by decide +kernel
theorem dd_P_sweepAsAgreed_26 : decode bb_P_sweepAsAgreed 26 = .ok (.iload_n 2, 1) := by decide +kernel
theorem dd_P_sweepAsAgreed_27 : decode bb_P_sweepAsAgreed 27 = .ok (.iaload, 1) := by decide +kernel
theorem dd_P_sweepAsAgreed_28 : decode bb_P_sweepAsAgreed 28 = .ok (.istore_n 3, 1) := by decide +kernel
theorem dd_P_sweepAsAgreed_29 : decode bb_P_sweepAsAgreed 29 = .ok (.iload_n 1, 1) := by decide +kernel
theorem dd_P_sweepAsAgreed_30 : decode bb_P_sweepAsAgreed 30 = .ok (.iload_n 2, 1) := by decide +kernel
theorem dd_P_sweepAsAgreed_31 : decode bb_P_sweepAsAgreed 31 = .ok (.ishr, 1) := by decide +kernel
theorem dd_P_sweepAsAgreed_32 : decode bb_P_sweepAsAgreed 32 = .ok (.iconst 1, 1) := by decide +kernel
theorem dd_P_sweepAsAgreed_33 : decode bb_P_sweepAsAgreed 33 = .ok (.iand, 1) := by decide +kernel
theorem dd_P_sweepAsAgreed_34 : decode bb_P_sweepAsAgreed 34 = .ok (.iconst 1, 1) := by decide +kernel
theorem dd_P_sweepAsAgreed_35 : decode bb_P_sweepAsAgreed 35 = .ok (.if_icmp .ne 42, 3) := by decide +kernel
theorem dd_P_sweepAsAgreed_38 : decode bb_P_sweepAsAgreed 38 = .ok (.aload_n 0, 1) := by decide +kernel
theorem dd_P_sweepAsAgreed_39 : decode bb_P_sweepAsAgreed 39 = .ok (.getfield 25, 3) := by decide +kernel
theorem dd_P_sweepAsAgreed_42 : decode bb_P_sweepAsAgreed 42 = .ok (.getfield 133, 3) := by decide +kernel
theorem dd_P_sweepAsAgreed_45 : decode bb_P_sweepAsAgreed 45 = .ok (.getfield 45, 3) := by decide +kernel
theorem dd_P_sweepAsAgreed_48 : decode bb_P_sweepAsAgreed 48 = .ok (.iload_n 3, 1) := by decide +kernel
theorem dd_P_sweepAsAgreed_49 : decode bb_P_sweepAsAgreed 49 = .ok (.iaload, 1) := by decide +kernel
theorem dd_P_sweepAsAgreed_50 : decode bb_P_sweepAsAgreed 50 = .ok (.ifCond .le 27, 3) := by decide +kernel
theorem dd_P_sweepAsAgreed_53 : decode bb_P_sweepAsAgreed 53 = .ok (.aload_n 0, 1) := by decide +kernel
theorem dd_P_sweepAsAgreed_54 : decode bb_P_sweepAsAgreed 54 = .ok (.getfield 25, 3) := by decide +kernel
theorem dd_P_sweepAsAgreed_57 : decode bb_P_sweepAsAgreed 57 = .ok (.iload_n 2, 1) := by decide +kernel
theorem dd_P_sweepAsAgreed_58 : decode bb_P_sweepAsAgreed 58 = .ok (.iload_n 3, 1) := by decide +kernel
theorem dd_P_sweepAsAgreed_59 : decode bb_P_sweepAsAgreed 59 = .ok (.invokevirtual 134, 3) := by decide +kernel
theorem dd_P_sweepAsAgreed_62 : decode bb_P_sweepAsAgreed 62 = .ok (.pop, 1) := by decide +kernel
theorem dd_P_sweepAsAgreed_63 : decode bb_P_sweepAsAgreed 63 = .ok (.aload_n 0, 1) := by decide +kernel
theorem dd_P_sweepAsAgreed_64 : decode bb_P_sweepAsAgreed 64 = .ok (.getfield 18, 3) := by decide +kernel
theorem dd_P_sweepAsAgreed_67 : decode bb_P_sweepAsAgreed 67 = .ok (.iload_n 1, 1) := by decide +kernel
theorem dd_P_sweepAsAgreed_68 : decode bb_P_sweepAsAgreed 68 = .ok (.iconst 4, 1) := by decide +kernel
theorem dd_P_sweepAsAgreed_69 : decode bb_P_sweepAsAgreed 69 = .ok (.imul, 1) := by decide +kernel
theorem dd_P_sweepAsAgreed_70 : decode bb_P_sweepAsAgreed 70 = .ok (.iload_n 2, 1) := by decide +kernel
theorem dd_P_sweepAsAgreed_71 : decode bb_P_sweepAsAgreed 71 = .ok (.iadd, 1) := by decide +kernel
theorem dd_P_sweepAsAgreed_72 : decode bb_P_sweepAsAgreed 72 = .ok (.dup2, 1) := by decide +kernel
theorem dd_P_sweepAsAgreed_73 : decode bb_P_sweepAsAgreed 73 = .ok (.iaload, 1) := by decide +kernel
theorem dd_P_sweepAsAgreed_74 : decode bb_P_sweepAsAgreed 74 = .ok (.iconst 1, 1) := by decide +kernel
theorem dd_P_sweepAsAgreed_75 : decode bb_P_sweepAsAgreed 75 = .ok (.isub, 1) := by decide +kernel
theorem dd_P_sweepAsAgreed_76 : decode bb_P_sweepAsAgreed 76 = .ok (.iastore, 1) := by decide +kernel
theorem dd_P_sweepAsAgreed_77 : decode bb_P_sweepAsAgreed 77 = .ok (.iinc 2 1, 3) := by decide +kernel
theorem dd_P_sweepAsAgreed_80 : decode bb_P_sweepAsAgreed 80 = .ok (.goto (-78), 3) := by decide +kernel
theorem dd_P_sweepAsAgreed_83 : decode bb_P_sweepAsAgreed 83 = .ok (.return_, 1) := by decide +kernel
def mm_P_sweepAsAgreed_j77 (N : Nat) (this : Option Nat) (a1 : Int32) (x2_77 : Int32) (h_77 : ss_Hp) : Option ((Int32 × ss_Hp) ⊕ ss_Hp) :=
  (some (x2_77 + (1 : Int32))).bind fun v1 =>
  some (.inl (v1, h_77))
def mm_P_sweepAsAgreed_b2 (N : Nat) (this : Option Nat) (a1 : Int32) (st : Int32 × ss_Hp) : Option ((Int32 × ss_Hp) ⊕ ss_Hp) :=
  match st with
  | (x2_2, h_2) =>
    (ss_gr h_2 this 10 0).bind fun r2 =>
    (ss_gr h_2 r2 8 0).bind fun r3 =>
    (ss_gi h_2 r3 5 4).bind fun v4 =>
    if v4 ≤ x2_2 then
      some (.inr h_2)
    else
      (ss_gr h_2 this 10 0).bind fun r6 =>
      (ss_gr h_2 r6 8 0).bind fun r7 =>
      (ss_gr h_2 r7 5 0).bind fun r8 =>
      (ss_ai h_2 r8 20 x2_2).bind fun v9 =>
      if ((a1 >>> (x2_2 &&& 31)) &&& (1 : Int32)) = (1 : Int32) then
        (ss_gr h_2 this 10 1).bind fun r11 =>
        (ss_gr h_2 r11 7 0).bind fun r12 =>
        (ss_gr h_2 r12 0 0).bind fun r13 =>
        (ss_ai h_2 r13 20 v9).bind fun v14 =>
        if v14 ≤ 0 then
          mm_P_sweepAsAgreed_j77 N this a1 x2_2 h_2
        else
          (ss_gr h_2 this 10 1).bind fun r16 =>
          ss_b2 (mm_Wi_sweepBy N r16 x2_2 v9 h_2) fun v17 h18 =>
          (ss_gr h18 this 10 4).bind fun r19 =>
          (some ((a1 * (4 : Int32)) + x2_2)).bind fun v20 =>
          (ss_ai h18 r19 20 v20).bind fun v21 =>
          (ss_ui h18 r19 20 v20 (v21 - (1 : Int32))).bind fun h22 =>
          mm_P_sweepAsAgreed_j77 N this a1 x2_2 h22
      else
        mm_P_sweepAsAgreed_j77 N this a1 x2_2 h_2
def mm_P_sweepAsAgreed (N : Nat) (this : Option Nat) (a1 : Int32) (h : ss_Hp) : Option ss_Hp :=
  if ss_is h this 10 = true then
    (ss_lp (mm_P_sweepAsAgreed_b2 N this a1) N ((0 : Int32), h)).bind fun h_2_83 =>
    some h_2_83
  else none
abbrev ww_P_sweepAsAgreed (p : Program) (l : Launch) (e : Env) (s : State) (m : MethodId) (below : List Frame) (meth : Method) (c : Code) (G : ss_G) (this : Option Nat) (a1 : Int32) (h : ss_Hp) (hh : ss_Hp) (H : Heap) (locs : List Loc) (k n : Nat) (g : JFrame) : Prop := W p l e (headSpec (ss_w yy_P_sweepAsAgreed bb_P_sweepAsAgreed 4 none) ({ frames := 3, cells := 0, slots := 0, locals := 126 })).room s m ([ss_v (ss_b G) this, .int a1] : List Value).toArray below meth c H locs k n (MQ below (ss_Qc G none hh) ([ss_v (ss_b G) this, .int a1] : List Value).toArray s 0 0 (ss_A G)) g
theorem ck_P_sweepAsAgreed {N : Nat} {this : Option Nat} {a1 : Int32} {h : ss_Hp} {res : ss_Hp} (hm : mm_P_sweepAsAgreed N this a1 h = some res) : ss_is h this 10 = true := (ss_chk hm).1
set_option maxHeartbeats 4000000 in
set_option maxRecDepth 100000 in
theorem cc_P_sweepAsAgreed (l : Launch) (G : ss_G) (N : Nat) (this : Option Nat) (a1 : Int32) (h : ss_Hp) (hh : ss_Hp) (hm : mm_P_sweepAsAgreed N this a1 h = some hh) : ss_Ct l G yy_P_sweepAsAgreed bb_P_sweepAsAgreed 4 none ({ frames := 3, cells := 0, slots := 0, locals := 126 }) [ss_v (ss_b G) this, .int a1] h none hh := by
  obtain ⟨hck, hm⟩ := ss_chk hm
  refine Met.ofW (cc := bb_P_sweepAsAgreed) (maxL := 4) (ret := none) (by decide) rfl ?_
  intro p e s m args below meth c s₁ B hml hv
  obtain ⟨rfl, hR, hK⟩ := hv
  have hC : CallFix p m c bb_P_sweepAsAgreed 4 s _ lw_g sR_10 := ⟨B.exec, B.bytes, hml, findClass_of_methodNamed B.named, fun w hw => atoms_spec (ws := ss_w yy_P_sweepAsAgreed bb_P_sweepAsAgreed 4 none) B.pre w (List.mem_cons_of_mem _ hw)⟩
  have hx := hC.1
  have hb := hC.2.1
  have hr := B.returns
  have hlocks := B.notSynchronized
  have hS : va_S (ss_A G) s.heap s.heap [] := va_S.rf
  have hl := lv_entry ([ss_v (ss_b G) this, .int a1]) (n := 4) (by simp [lg_sl, ss_v_cat, ss_cat_i, ss_cat_l, ss_cat_r])
  rw [lg_entry_eq]
  generalize (lg_sl ([ss_v (ss_b G) this, .int a1]) ++ List.replicate (4 - (lg_sl ([ss_v (ss_b G) this, .int a1])).length) Slot.unset).toArray = ls at hl ⊢
  have hl : lv_has ls 4 [(0, ss_v (ss_b G) this), (1, .int a1)] := by simpa [lv_args, ss_v_cat, ss_cat_i, ss_cat_l, ss_cat_r] using hl
  refine lv_iconst (v := 0) hx hb dd_P_sweepAsAgreed_0 (by decide) ?_
  refine lv_istore_n (lv' := [(2, .int (0 : Int32)), (0, ss_v (ss_b G) this), (1, .int a1)]) hx hb dd_P_sweepAsAgreed_1 rfl hl (by decide) rfl (fun ls hl => ?_)
  obtain ⟨e_2, he_2, hm⟩ := ss_bind hm
  have X_2_83 : ∀  (h_2_83 : ss_Hp) (H : Heap) (locs : List Loc) (ls : Array Slot), e_2 = h_2_83 → ss_R G h_2_83 H → va_S (ss_A G) s.heap H locs → lv_has ls 4 [] → ww_P_sweepAsAgreed p l e s m below meth c G this a1 h hh  H locs 0 0 (F0 m 83 ls []) := by
    intro h_2_83 H locs ls hq hR hS hl
    rw [hq] at hm
    exact ss_vret hC hr hlocks hR hS hm dd_P_sweepAsAgreed_83
  have L_2 : ∀ (n : Nat) (x2_2 : Int32) (h_2 : ss_Hp) (H : Heap) (locs : List Loc) (ls : Array Slot), ss_lp (mm_P_sweepAsAgreed_b2 N this a1) n (x2_2, h_2) = some e_2 → ss_R G h_2 H → va_S (ss_A G) s.heap H locs → lv_has ls 4 [(0, ss_v (ss_b G) this), (1, .int a1), (2, .int x2_2)] → ww_P_sweepAsAgreed p l e s m below meth c G this a1 h hh  H locs 0 0 (F0 m 2 ls []) := by
    intro n
    induction n with
    | zero => intro x2_2 h_2 H locs ls hm; cases hm
    | succ n ih_2 =>
      intro x2_2 h_2 H locs ls hm hR hS hl
      obtain ⟨z_2, hm, hz1_2, hz2_2⟩ := ss_lps hm
      have J_77 : ∀ (x2_77 : Int32) (h_77 : ss_Hp) (H : Heap) (locs : List Loc) (ls : Array Slot), mm_P_sweepAsAgreed_j77 N this a1 x2_77 h_77 = some z_2 → ss_R G h_77 H → va_S (ss_A G) s.heap H locs → lv_has ls 4 [(0, ss_v (ss_b G) this), (1, .int a1), (2, .int x2_77)] → ww_P_sweepAsAgreed p l e s m below meth c G this a1 h hh  H locs 0 0 (F0 m 77 ls []) := by
        intro x2_77 h_77 H locs ls hm hR hS hl
        obtain ⟨v1, qv1, hm⟩ := ss_bind hm
        refine lv_iinc (v := v1) (lv' := [(2, .int v1), (0, ss_v (ss_b G) this), (1, .int a1)]) hx hb dd_P_sweepAsAgreed_77 hl (k := 2) rfl (ss_inc (by decide) qv1) (by decide) rfl (fun ls hl => ?_)
        refine lv_goto (tgt := 2) hx hb dd_P_sweepAsAgreed_80 (by decide) ?_
        exact ih_2 v1 h_77 _ _ _ (hz1_2 _ (ss_some hm)) hR hS (lv_sub hl [1, 2, 0] rfl)
      refine lv_iload_n hx hb dd_P_sweepAsAgreed_2 rfl (lv_at hl 2 rfl) ?_
      refine ss_aload_n hx hb dd_P_sweepAsAgreed_3 rfl (lv_at hl 0 rfl) ?_
      obtain ⟨r2, qr2, hm⟩ := ss_bind hm
      refine ss_getr hC hK hR kf_P_21 rfl qr2 dd_P_sweepAsAgreed_4 ?_
      obtain ⟨r3, qr3, hm⟩ := ss_bind hm
      refine ss_getr hC hK hR kf_P_50 rfl qr3 dd_P_sweepAsAgreed_7 ?_
      obtain ⟨v4, qv4, hm⟩ := ss_bind hm
      refine ss_geti hC hK hR kf_P_109 qv4 dd_P_sweepAsAgreed_10 ?_
      refine lv_icmp_ge (tgt := 83) hx hb dd_P_sweepAsAgreed_13 (by decide) (fun c5 => ?_) (fun c5 => ?_)
      · have hm := ss_ift hm c5
        exact X_2_83 h_2 _ _ _ (hz2_2 _ (ss_some hm)) hR hS (lv_sub hl [] rfl)
      · have hm := ss_iff hm c5
        refine ss_aload_n hx hb dd_P_sweepAsAgreed_16 rfl (lv_at hl 0 rfl) ?_
        obtain ⟨r6, qr6, hm⟩ := ss_bind hm
        refine ss_getr hC hK hR kf_P_21 rfl qr6 dd_P_sweepAsAgreed_17 ?_
        obtain ⟨r7, qr7, hm⟩ := ss_bind hm
        refine ss_getr hC hK hR kf_P_50 rfl qr7 dd_P_sweepAsAgreed_20 ?_
        obtain ⟨r8, qr8, hm⟩ := ss_bind hm
        refine ss_getr hC hK hR kf_P_130 rfl qr8 dd_P_sweepAsAgreed_23 ?_
        refine lv_iload_n hx hb dd_P_sweepAsAgreed_26 rfl (lv_at hl 2 rfl) ?_
        obtain ⟨v9, qv9, hm⟩ := ss_bind hm
        refine ss_iald hC hK hR qv9 dd_P_sweepAsAgreed_27 ?_
        refine lv_istore_n (lv' := [(3, .int v9), (0, ss_v (ss_b G) this), (1, .int a1), (2, .int x2_2)]) hx hb dd_P_sweepAsAgreed_28 rfl hl (by decide) rfl (fun ls hl => ?_)
        refine lv_iload_n hx hb dd_P_sweepAsAgreed_29 rfl (lv_at hl 2 rfl) ?_
        refine lv_iload_n hx hb dd_P_sweepAsAgreed_30 rfl (lv_at hl 3 rfl) ?_
        refine lv_ishr hx hb dd_P_sweepAsAgreed_31 ?_
        refine lv_iconst (v := 1) hx hb dd_P_sweepAsAgreed_32 (by decide) ?_
        refine lv_iand hx hb dd_P_sweepAsAgreed_33 ?_
        refine lv_iconst (v := 1) hx hb dd_P_sweepAsAgreed_34 (by decide) ?_
        refine lv_icmp_ne (tgt := 77) hx hb dd_P_sweepAsAgreed_35 (by decide) (fun c10 => ?_) (fun c10 => ?_)
        · have hm := ss_iff hm c10
          exact J_77 x2_2 h_2 _ _ _ hm hR hS (lv_sub hl [1, 2, 3] rfl)
        · have hm := ss_ift hm c10
          refine ss_aload_n hx hb dd_P_sweepAsAgreed_38 rfl (lv_at hl 1 rfl) ?_
          obtain ⟨r11, qr11, hm⟩ := ss_bind hm
          refine ss_getr hC hK hR kf_P_25 rfl qr11 dd_P_sweepAsAgreed_39 ?_
          obtain ⟨r12, qr12, hm⟩ := ss_bind hm
          refine ss_getr hC hK hR kf_P_133 rfl qr12 dd_P_sweepAsAgreed_42 ?_
          obtain ⟨r13, qr13, hm⟩ := ss_bind hm
          refine ss_getr hC hK hR kf_P_45 rfl qr13 dd_P_sweepAsAgreed_45 ?_
          refine lv_iload_n hx hb dd_P_sweepAsAgreed_48 rfl (lv_at hl 0 rfl) ?_
          obtain ⟨v14, qv14, hm⟩ := ss_bind hm
          refine ss_iald hC hK hR qv14 dd_P_sweepAsAgreed_49 ?_
          refine lv_if_le (tgt := 77) hx hb dd_P_sweepAsAgreed_50 (by decide) (fun c15 => ?_) (fun c15 => ?_)
          · have hm := ss_ift hm c15
            exact J_77 x2_2 h_2 _ _ _ hm hR hS (lv_sub hl [1, 2, 3] rfl)
          · have hm := ss_iff hm c15
            refine ss_aload_n hx hb dd_P_sweepAsAgreed_53 rfl (lv_at hl 1 rfl) ?_
            obtain ⟨r16, qr16, hm⟩ := ss_bind hm
            refine ss_getr hC hK hR kf_P_25 rfl qr16 dd_P_sweepAsAgreed_54 ?_
            refine lv_iload_n hx hb dd_P_sweepAsAgreed_57 rfl (lv_at hl 3 rfl) ?_
            refine lv_iload_n hx hb dd_P_sweepAsAgreed_58 rfl (lv_at hl 0 rfl) ?_
            obtain ⟨v17, h18, qh18, hm⟩ := ss_bind2 hm
            refine ss_cV 0 0 (As := [.int x2_2, .int v9]) hC hK hR hS hl.1 (cc_Wi_sweepBy l G N _ _ _ _ _ _ qh18) km_P_134 (ck_Wi_sweepBy qh18) ⟨Nat.le_of_ble_eq_true rfl, Nat.le_of_ble_eq_true rfl⟩ ⟨Nat.le_of_ble_eq_true rfl, Nat.le_of_ble_eq_true rfl, Nat.le_of_ble_eq_true rfl, Nat.le_of_ble_eq_true rfl⟩ rfl rfl (Nat.le_of_ble_eq_true rfl) dd_P_sweepAsAgreed_59 (fun H locs hR hS => ?_)
            refine lv_pop hx hb dd_P_sweepAsAgreed_62 rfl ?_
            refine ss_aload_n hx hb dd_P_sweepAsAgreed_63 rfl (lv_at hl 1 rfl) ?_
            obtain ⟨r19, qr19, hm⟩ := ss_bind hm
            refine ss_getr hC hK hR kf_P_18 rfl qr19 dd_P_sweepAsAgreed_64 ?_
            refine lv_iload_n hx hb dd_P_sweepAsAgreed_67 rfl (lv_at hl 2 rfl) ?_
            refine lv_iconst (v := 4) hx hb dd_P_sweepAsAgreed_68 (by decide) ?_
            refine lv_imul hx hb dd_P_sweepAsAgreed_69 ?_
            refine lv_iload_n hx hb dd_P_sweepAsAgreed_70 rfl (lv_at hl 3 rfl) ?_
            refine lv_iadd hx hb dd_P_sweepAsAgreed_71 ?_
            obtain ⟨v20, qv20, hm⟩ := ss_bind hm
            refine ss_topi qv20 ?_
            refine ss_dup2ir hx hb dd_P_sweepAsAgreed_72 ?_
            obtain ⟨v21, qv21, hm⟩ := ss_bind hm
            refine ss_iald hC hK hR qv21 dd_P_sweepAsAgreed_73 ?_
            refine lv_iconst (v := 1) hx hb dd_P_sweepAsAgreed_74 (by decide) ?_
            refine lv_isub hx hb dd_P_sweepAsAgreed_75 ?_
            obtain ⟨h22, qh22, hm⟩ := ss_bind hm
            refine ss_iast hC hK hR hS qh22 dd_P_sweepAsAgreed_76 (fun H locs hR hS => ?_)
            exact J_77 x2_2 h22 _ _ _ hm hR hS (lv_sub hl [1, 2, 3] rfl)
  exact L_2 N (0 : Int32) h _ _ _ he_2 hR hS (lv_sub hl [1, 2, 0] rfl)
theorem dd_P_addOpen_0 : decode bb_P_addOpen 0 = .ok (.aload_n 0, 1) := by decide +kernel
theorem dd_P_addOpen_1 : decode bb_P_addOpen 1 = .ok (.getfield 25, 3) := by decide +kernel
theorem dd_P_addOpen_4 : decode bb_P_addOpen 4 = .ok (.invokevirtual 137, 3) := by decide +kernel
theorem dd_P_addOpen_7 : decode bb_P_addOpen 7 = .ok (.istore_n 2, 1) := by decide +kernel
theorem dd_P_addOpen_8 : decode bb_P_addOpen 8 = .ok (.iconst 0, 1) := by decide +kernel
theorem dd_P_addOpen_9 : decode bb_P_addOpen 9 = .ok (.istore_n 3, 1) := by decide +kernel
theorem dd_P_addOpen_10 : decode bb_P_addOpen 10 = .ok (.iload_n 3, 1) := by decide +kernel
theorem dd_P_addOpen_11 : decode bb_P_addOpen 11 = .ok (.aload_n 0, 1) := by decide +kernel
theorem dd_P_addOpen_12 : decode bb_P_addOpen 12 = .ok (.getfield 21, 3) := by decide +kernel
theorem dd_P_addOpen_15 : decode bb_P_addOpen 15 = .ok (.getfield 50, 3) := by decide +kernel
theorem dd_P_addOpen_18 : decode bb_P_addOpen 18 = .ok (.getfield 109, 3) := by decide +kernel
theorem dd_P_addOpen_21 : decode bb_P_addOpen 21 = .ok (.if_icmp .ge 42, 3) := by decide +kernel
theorem dd_P_addOpen_24 : decode bb_P_addOpen 24 = .ok (.iload_n 2, 1) := by decide +kernel
theorem dd_P_addOpen_25 : decode bb_P_addOpen 25 = .ok (.aload_n 0, 1) := by decide +kernel
theorem dd_P_addOpen_26 : decode bb_P_addOpen 26 = .ok (.getfield 21, 3) := by decide +kernel
theorem dd_P_addOpen_29 : decode bb_P_addOpen 29 = .ok (.getfield 50, 3) := by decide +kernel
theorem dd_P_addOpen_32 : decode bb_P_addOpen 32 = .ok (.getfield 130, 3) := by decide +kernel
theorem dd_P_addOpen_35 : decode bb_P_addOpen 35 = .ok (.iload_n 3, 1) := by decide +kernel
theorem dd_P_addOpen_36 : decode bb_P_addOpen 36 = .ok (.iaload, 1) := by decide +kernel
theorem dd_P_addOpen_37 : decode bb_P_addOpen 37 = .ok (.ishr, 1) := by decide +kernel
theorem dd_P_addOpen_38 : decode bb_P_addOpen 38 = .ok (.iconst 1, 1) := by decide +kernel
theorem dd_P_addOpen_39 : decode bb_P_addOpen 39 = .ok (.iand, 1) := by decide +kernel
theorem dd_P_addOpen_40 : decode bb_P_addOpen 40 = .ok (.ifCond .ne 17, 3) := by decide +kernel
theorem dd_P_addOpen_43 : decode bb_P_addOpen 43 = .ok (.aload_n 0, 1) := by decide +kernel
theorem dd_P_addOpen_44 : decode bb_P_addOpen 44 = .ok (.getfield 18, 3) := by decide +kernel
theorem dd_P_addOpen_47 : decode bb_P_addOpen 47 = .ok (.iload_n 1, 1) := by decide +kernel
theorem dd_P_addOpen_48 : decode bb_P_addOpen 48 = .ok (.iconst 4, 1) := by decide +kernel
theorem dd_P_addOpen_49 : decode bb_P_addOpen 49 = .ok (.imul, 1) := by decide +kernel
theorem dd_P_addOpen_50 : decode bb_P_addOpen 50 = .ok (.iload_n 3, 1) := by decide +kernel
theorem dd_P_addOpen_51 : decode bb_P_addOpen 51 = .ok (.iadd, 1) := by decide +kernel
theorem dd_P_addOpen_52 : decode bb_P_addOpen 52 = .ok (.dup2, 1) := by decide +kernel
theorem dd_P_addOpen_53 : decode bb_P_addOpen 53 = .ok (.iaload, 1) := by decide +kernel
theorem dd_P_addOpen_54 : decode bb_P_addOpen 54 = .ok (.iconst 2, 1) := by decide +kernel
theorem dd_P_addOpen_55 : decode bb_P_addOpen 55 = .ok (.iadd, 1) := by decide +kernel
theorem dd_P_addOpen_56 : decode bb_P_addOpen 56 = .ok (.iastore, 1) := by decide +kernel
theorem dd_P_addOpen_57 : decode bb_P_addOpen 57 = .ok (.iinc 3 1, 3) := by decide +kernel
theorem dd_P_addOpen_60 : decode bb_P_addOpen 60 = .ok (.goto (-50), 3) := by decide +kernel
theorem dd_P_addOpen_63 : decode bb_P_addOpen 63 = .ok (.return_, 1) := by decide +kernel
def mm_P_addOpen_j57 (N : Nat) (this : Option Nat) (a1 : Int32) (v2 : Int32) (x3_57 : Int32) (h_57 : ss_Hp) : Option ((Int32 × ss_Hp) ⊕ ss_Hp) :=
  (some (x3_57 + (1 : Int32))).bind fun v3 =>
  some (.inl (v3, h_57))
def mm_P_addOpen_b10 (N : Nat) (this : Option Nat) (a1 : Int32) (v2 : Int32) (st : Int32 × ss_Hp) : Option ((Int32 × ss_Hp) ⊕ ss_Hp) :=
  match st with
  | (x3_10, h_10) =>
    (ss_gr h_10 this 10 0).bind fun r4 =>
    (ss_gr h_10 r4 8 0).bind fun r5 =>
    (ss_gi h_10 r5 5 4).bind fun v6 =>
    if v6 ≤ x3_10 then
      some (.inr h_10)
    else
      (ss_gr h_10 this 10 0).bind fun r8 =>
      (ss_gr h_10 r8 8 0).bind fun r9 =>
      (ss_gr h_10 r9 5 0).bind fun r10 =>
      (ss_ai h_10 r10 20 x3_10).bind fun v11 =>
      if ((v2 >>> (v11 &&& 31)) &&& (1 : Int32)) = 0 then
        (ss_gr h_10 this 10 4).bind fun r13 =>
        (some ((a1 * (4 : Int32)) + x3_10)).bind fun v14 =>
        (ss_ai h_10 r13 20 v14).bind fun v15 =>
        (ss_ui h_10 r13 20 v14 (v15 + (2 : Int32))).bind fun h16 =>
        mm_P_addOpen_j57 N this a1 v2 x3_10 h16
      else
        mm_P_addOpen_j57 N this a1 v2 x3_10 h_10
def mm_P_addOpen (N : Nat) (this : Option Nat) (a1 : Int32) (h : ss_Hp) : Option ss_Hp :=
  if ss_is h this 10 = true then
    (ss_gr h this 10 1).bind fun r1 =>
    (mm_Wi_closedBits N r1 h).bind fun v2 =>
    (ss_lp (mm_P_addOpen_b10 N this a1 v2) N ((0 : Int32), h)).bind fun h_10_63 =>
    some h_10_63
  else none
abbrev ww_P_addOpen (p : Program) (l : Launch) (e : Env) (s : State) (m : MethodId) (below : List Frame) (meth : Method) (c : Code) (G : ss_G) (this : Option Nat) (a1 : Int32) (h : ss_Hp) (hh : ss_Hp) (H : Heap) (locs : List Loc) (k n : Nat) (g : JFrame) : Prop := W p l e (headSpec (ss_w yy_P_addOpen bb_P_addOpen 4 none) ({ frames := 2, cells := 0, slots := 0, locals := 43 })).room s m ([ss_v (ss_b G) this, .int a1] : List Value).toArray below meth c H locs k n (MQ below (ss_Qc G none hh) ([ss_v (ss_b G) this, .int a1] : List Value).toArray s 0 0 (ss_A G)) g
theorem ck_P_addOpen {N : Nat} {this : Option Nat} {a1 : Int32} {h : ss_Hp} {res : ss_Hp} (hm : mm_P_addOpen N this a1 h = some res) : ss_is h this 10 = true := (ss_chk hm).1
set_option maxHeartbeats 4000000 in
set_option maxRecDepth 100000 in
theorem cc_P_addOpen (l : Launch) (G : ss_G) (N : Nat) (this : Option Nat) (a1 : Int32) (h : ss_Hp) (hh : ss_Hp) (hm : mm_P_addOpen N this a1 h = some hh) : ss_Ct l G yy_P_addOpen bb_P_addOpen 4 none ({ frames := 2, cells := 0, slots := 0, locals := 43 }) [ss_v (ss_b G) this, .int a1] h none hh := by
  obtain ⟨hck, hm⟩ := ss_chk hm
  refine Met.ofW (cc := bb_P_addOpen) (maxL := 4) (ret := none) (by decide) rfl ?_
  intro p e s m args below meth c s₁ B hml hv
  obtain ⟨rfl, hR, hK⟩ := hv
  have hC : CallFix p m c bb_P_addOpen 4 s _ lw_g sR_10 := ⟨B.exec, B.bytes, hml, findClass_of_methodNamed B.named, fun w hw => atoms_spec (ws := ss_w yy_P_addOpen bb_P_addOpen 4 none) B.pre w (List.mem_cons_of_mem _ hw)⟩
  have hx := hC.1
  have hb := hC.2.1
  have hr := B.returns
  have hlocks := B.notSynchronized
  have hS : va_S (ss_A G) s.heap s.heap [] := va_S.rf
  have hl := lv_entry ([ss_v (ss_b G) this, .int a1]) (n := 4) (by simp [lg_sl, ss_v_cat, ss_cat_i, ss_cat_l, ss_cat_r])
  rw [lg_entry_eq]
  generalize (lg_sl ([ss_v (ss_b G) this, .int a1]) ++ List.replicate (4 - (lg_sl ([ss_v (ss_b G) this, .int a1])).length) Slot.unset).toArray = ls at hl ⊢
  have hl : lv_has ls 4 [(0, ss_v (ss_b G) this), (1, .int a1)] := by simpa [lv_args, ss_v_cat, ss_cat_i, ss_cat_l, ss_cat_r] using hl
  refine ss_aload_n hx hb dd_P_addOpen_0 rfl (lv_at hl 0 rfl) ?_
  obtain ⟨r1, qr1, hm⟩ := ss_bind hm
  refine ss_getr hC hK hR kf_P_25 rfl qr1 dd_P_addOpen_1 ?_
  obtain ⟨v2, qv2, hm⟩ := ss_bind hm
  refine ss_cV 0 0 (As := []) hC hK hR hS hl.1 (cc_Wi_closedBits l G N _ _ _ qv2) km_P_137 (ck_Wi_closedBits qv2) ⟨Nat.le_of_ble_eq_true rfl, Nat.le_of_ble_eq_true rfl⟩ ⟨Nat.le_of_ble_eq_true rfl, Nat.le_of_ble_eq_true rfl, Nat.le_of_ble_eq_true rfl, Nat.le_of_ble_eq_true rfl⟩ rfl rfl (Nat.le_of_ble_eq_true rfl) dd_P_addOpen_4 (fun H locs hR hS => ?_)
  refine lv_istore_n (lv' := [(2, .int v2), (0, ss_v (ss_b G) this), (1, .int a1)]) hx hb dd_P_addOpen_7 rfl hl (by decide) rfl (fun ls hl => ?_)
  refine lv_iconst (v := 0) hx hb dd_P_addOpen_8 (by decide) ?_
  refine lv_istore_n (lv' := [(3, .int (0 : Int32)), (2, .int v2), (0, ss_v (ss_b G) this), (1, .int a1)]) hx hb dd_P_addOpen_9 rfl hl (by decide) rfl (fun ls hl => ?_)
  obtain ⟨e_10, he_10, hm⟩ := ss_bind hm
  have X_10_63 : ∀  (h_10_63 : ss_Hp) (H : Heap) (locs : List Loc) (ls : Array Slot), e_10 = h_10_63 → ss_R G h_10_63 H → va_S (ss_A G) s.heap H locs → lv_has ls 4 [] → ww_P_addOpen p l e s m below meth c G this a1 h hh  H locs 0 0 (F0 m 63 ls []) := by
    intro h_10_63 H locs ls hq hR hS hl
    rw [hq] at hm
    exact ss_vret hC hr hlocks hR hS hm dd_P_addOpen_63
  have L_10 : ∀ (n : Nat) (x3_10 : Int32) (h_10 : ss_Hp) (H : Heap) (locs : List Loc) (ls : Array Slot), ss_lp (mm_P_addOpen_b10 N this a1 v2) n (x3_10, h_10) = some e_10 → ss_R G h_10 H → va_S (ss_A G) s.heap H locs → lv_has ls 4 [(0, ss_v (ss_b G) this), (1, .int a1), (2, .int v2), (3, .int x3_10)] → ww_P_addOpen p l e s m below meth c G this a1 h hh  H locs 0 0 (F0 m 10 ls []) := by
    intro n
    induction n with
    | zero => intro x3_10 h_10 H locs ls hm; cases hm
    | succ n ih_10 =>
      intro x3_10 h_10 H locs ls hm hR hS hl
      obtain ⟨z_10, hm, hz1_10, hz2_10⟩ := ss_lps hm
      have J_57 : ∀ (x3_57 : Int32) (h_57 : ss_Hp) (H : Heap) (locs : List Loc) (ls : Array Slot), mm_P_addOpen_j57 N this a1 v2 x3_57 h_57 = some z_10 → ss_R G h_57 H → va_S (ss_A G) s.heap H locs → lv_has ls 4 [(0, ss_v (ss_b G) this), (1, .int a1), (2, .int v2), (3, .int x3_57)] → ww_P_addOpen p l e s m below meth c G this a1 h hh  H locs 0 0 (F0 m 57 ls []) := by
        intro x3_57 h_57 H locs ls hm hR hS hl
        obtain ⟨v3, qv3, hm⟩ := ss_bind hm
        refine lv_iinc (v := v3) (lv' := [(3, .int v3), (0, ss_v (ss_b G) this), (1, .int a1), (2, .int v2)]) hx hb dd_P_addOpen_57 hl (k := 3) rfl (ss_inc (by decide) qv3) (by decide) rfl (fun ls hl => ?_)
        refine lv_goto (tgt := 10) hx hb dd_P_addOpen_60 (by decide) ?_
        exact ih_10 v3 h_57 _ _ _ (hz1_10 _ (ss_some hm)) hR hS (lv_sub hl [1, 2, 3, 0] rfl)
      refine lv_iload_n hx hb dd_P_addOpen_10 rfl (lv_at hl 3 rfl) ?_
      refine ss_aload_n hx hb dd_P_addOpen_11 rfl (lv_at hl 0 rfl) ?_
      obtain ⟨r4, qr4, hm⟩ := ss_bind hm
      refine ss_getr hC hK hR kf_P_21 rfl qr4 dd_P_addOpen_12 ?_
      obtain ⟨r5, qr5, hm⟩ := ss_bind hm
      refine ss_getr hC hK hR kf_P_50 rfl qr5 dd_P_addOpen_15 ?_
      obtain ⟨v6, qv6, hm⟩ := ss_bind hm
      refine ss_geti hC hK hR kf_P_109 qv6 dd_P_addOpen_18 ?_
      refine lv_icmp_ge (tgt := 63) hx hb dd_P_addOpen_21 (by decide) (fun c7 => ?_) (fun c7 => ?_)
      · have hm := ss_ift hm c7
        exact X_10_63 h_10 _ _ _ (hz2_10 _ (ss_some hm)) hR hS (lv_sub hl [] rfl)
      · have hm := ss_iff hm c7
        refine lv_iload_n hx hb dd_P_addOpen_24 rfl (lv_at hl 2 rfl) ?_
        refine ss_aload_n hx hb dd_P_addOpen_25 rfl (lv_at hl 0 rfl) ?_
        obtain ⟨r8, qr8, hm⟩ := ss_bind hm
        refine ss_getr hC hK hR kf_P_21 rfl qr8 dd_P_addOpen_26 ?_
        obtain ⟨r9, qr9, hm⟩ := ss_bind hm
        refine ss_getr hC hK hR kf_P_50 rfl qr9 dd_P_addOpen_29 ?_
        obtain ⟨r10, qr10, hm⟩ := ss_bind hm
        refine ss_getr hC hK hR kf_P_130 rfl qr10 dd_P_addOpen_32 ?_
        refine lv_iload_n hx hb dd_P_addOpen_35 rfl (lv_at hl 3 rfl) ?_
        obtain ⟨v11, qv11, hm⟩ := ss_bind hm
        refine ss_iald hC hK hR qv11 dd_P_addOpen_36 ?_
        refine lv_ishr hx hb dd_P_addOpen_37 ?_
        refine lv_iconst (v := 1) hx hb dd_P_addOpen_38 (by decide) ?_
        refine lv_iand hx hb dd_P_addOpen_39 ?_
        refine lv_if_ne (tgt := 57) hx hb dd_P_addOpen_40 (by decide) (fun c12 => ?_) (fun c12 => ?_)
        · have hm := ss_iff hm c12
          exact J_57 x3_10 h_10 _ _ _ hm hR hS hl
        · have hm := ss_ift hm c12
          refine ss_aload_n hx hb dd_P_addOpen_43 rfl (lv_at hl 0 rfl) ?_
          obtain ⟨r13, qr13, hm⟩ := ss_bind hm
          refine ss_getr hC hK hR kf_P_18 rfl qr13 dd_P_addOpen_44 ?_
          refine lv_iload_n hx hb dd_P_addOpen_47 rfl (lv_at hl 1 rfl) ?_
          refine lv_iconst (v := 4) hx hb dd_P_addOpen_48 (by decide) ?_
          refine lv_imul hx hb dd_P_addOpen_49 ?_
          refine lv_iload_n hx hb dd_P_addOpen_50 rfl (lv_at hl 3 rfl) ?_
          refine lv_iadd hx hb dd_P_addOpen_51 ?_
          obtain ⟨v14, qv14, hm⟩ := ss_bind hm
          refine ss_topi qv14 ?_
          refine ss_dup2ir hx hb dd_P_addOpen_52 ?_
          obtain ⟨v15, qv15, hm⟩ := ss_bind hm
          refine ss_iald hC hK hR qv15 dd_P_addOpen_53 ?_
          refine lv_iconst (v := 2) hx hb dd_P_addOpen_54 (by decide) ?_
          refine lv_iadd hx hb dd_P_addOpen_55 ?_
          obtain ⟨h16, qh16, hm⟩ := ss_bind hm
          refine ss_iast hC hK hR hS qh16 dd_P_addOpen_56 (fun H locs hR hS => ?_)
          exact J_57 x3_10 h16 _ _ _ hm hR hS hl
  exact L_10 N (0 : Int32) h _ _ _ he_10 hR hS (lv_sub hl [2, 3, 1, 0] rfl)
theorem dd_P_weighSets_0 : decode bb_P_weighSets 0 = .ok (.iconst 0, 1) := by decide +kernel
theorem dd_P_weighSets_1 : decode bb_P_weighSets 1 = .ok (.istore_n 2, 1) := by decide +kernel
theorem dd_P_weighSets_2 : decode bb_P_weighSets 2 = .ok (.iload_n 2, 1) := by decide +kernel
theorem dd_P_weighSets_3 : decode bb_P_weighSets 3 = .ok (.aload_n 0, 1) := by decide +kernel
theorem dd_P_weighSets_4 : decode bb_P_weighSets 4 = .ok (.invokevirtual 112, 3) := by decide +kernel
theorem dd_P_weighSets_7 : decode bb_P_weighSets 7 = .ok (.if_icmp .ge 86, 3) := by decide +kernel
theorem dd_P_weighSets_10 : decode bb_P_weighSets 10 = .ok (.iconst 0, 1) := by decide +kernel
theorem dd_P_weighSets_11 : decode bb_P_weighSets 11 = .ok (.istore_n 3, 1) := by decide +kernel
theorem dd_P_weighSets_12 : decode bb_P_weighSets 12 = .ok (.iload_n 3, 1) := by decide +kernel
theorem dd_P_weighSets_13 : decode bb_P_weighSets 13 = .ok (.iconst 4, 1) := by decide +kernel
theorem dd_P_weighSets_14 : decode bb_P_weighSets 14 = .ok (.if_icmp .ge 20, 3) := by decide +kernel
theorem dd_P_weighSets_17 : decode bb_P_weighSets 17 = .ok (.aload_n 0, 1) := by decide +kernel
theorem dd_P_weighSets_18 : decode bb_P_weighSets 18 = .ok (.getfield 18, 3) := by decide +kernel
theorem dd_P_weighSets_21 : decode bb_P_weighSets 21 = .ok (.iload_n 2, 1) := by decide +kernel
theorem dd_P_weighSets_22 : decode bb_P_weighSets 22 = .ok (.iconst 4, 1) := by decide +kernel
theorem dd_P_weighSets_23 : decode bb_P_weighSets 23 = .ok (.imul, 1) := by decide +kernel
theorem dd_P_weighSets_24 : decode bb_P_weighSets 24 = .ok (.iload_n 3, 1) := by decide +kernel
theorem dd_P_weighSets_25 : decode bb_P_weighSets 25 = .ok (.iadd, 1) := by decide +kernel
theorem dd_P_weighSets_26 : decode bb_P_weighSets 26 = .ok (.iconst 0, 1) := by decide +kernel
theorem dd_P_weighSets_27 : decode bb_P_weighSets 27 = .ok (.iastore, 1) := by decide +kernel
theorem dd_P_weighSets_28 : decode bb_P_weighSets 28 = .ok (.iinc 3 1, 3) := by decide +kernel
theorem dd_P_weighSets_31 : decode bb_P_weighSets 31 = .ok (.goto (-19), 3) := by decide +kernel
theorem dd_P_weighSets_34 : decode bb_P_weighSets 34 = .ok (.aload_n 0, 1) := by decide +kernel
theorem dd_P_weighSets_35 : decode bb_P_weighSets 35 = .ok (.getfield 25, 3) := by decide +kernel
theorem dd_P_weighSets_38 : decode bb_P_weighSets 38 = .ok (.aload_n 0, 1) := by decide +kernel
theorem dd_P_weighSets_39 : decode bb_P_weighSets 39 = .ok (.getfield 21, 3) := by decide +kernel
theorem dd_P_weighSets_42 : decode bb_P_weighSets 42 = .ok (.getfield 50, 3) := by decide +kernel
theorem dd_P_weighSets_45 : decode bb_P_weighSets 45 = .ok (.aconst_null, 1) := by decide +kernel
theorem dd_P_weighSets_46 : decode bb_P_weighSets 46 = .ok (.aload_n 0, 1) := by decide +kernel
theorem dd_P_weighSets_47 : decode bb_P_weighSets 47 = .ok (.getfield 21, 3) := by decide +kernel
theorem dd_P_weighSets_50 : decode bb_P_weighSets 50 = .ok (.getfield 39, 3) := by decide +kernel
theorem dd_P_weighSets_53 : decode bb_P_weighSets 53 = .ok (.invokevirtual 115, 3) := by decide +kernel
theorem dd_P_weighSets_56 : decode bb_P_weighSets 56 = .ok (.iconst 0, 1) := by decide +kernel
theorem dd_P_weighSets_57 : decode bb_P_weighSets 57 = .ok (.istore_n 3, 1) := by decide +kernel
theorem dd_P_weighSets_58 : decode bb_P_weighSets 58 = .ok (.iload_n 3, 1) := by decide +kernel
theorem dd_P_weighSets_59 : decode bb_P_weighSets 59 = .ok (.iload_n 1, 1) := by decide +kernel
theorem dd_P_weighSets_60 : decode bb_P_weighSets 60 = .ok (.if_icmp .ge 27, 3) := by decide +kernel
theorem dd_P_weighSets_63 : decode bb_P_weighSets 63 = .ok (.aload_n 0, 1) := by decide +kernel
theorem dd_P_weighSets_64 : decode bb_P_weighSets 64 = .ok (.iload_n 2, 1) := by decide +kernel
theorem dd_P_weighSets_65 : decode bb_P_weighSets 65 = .ok (.invokevirtual 121, 3) := by decide +kernel
theorem dd_P_weighSets_68 : decode bb_P_weighSets 68 = .ok (.aload_n 0, 1) := by decide +kernel
theorem dd_P_weighSets_69 : decode bb_P_weighSets 69 = .ok (.getfield 25, 3) := by decide +kernel
theorem dd_P_weighSets_72 : decode bb_P_weighSets 72 = .ok (.invokevirtual 124, 3) := by decide +kernel
theorem dd_P_weighSets_75 : decode bb_P_weighSets 75 = .ok (.pop, 1) := by decide +kernel
theorem dd_P_weighSets_76 : decode bb_P_weighSets 76 = .ok (.aload_n 0, 1) := by decide +kernel
theorem dd_P_weighSets_77 : decode bb_P_weighSets 77 = .ok (.iload_n 2, 1) := by decide +kernel
theorem dd_P_weighSets_78 : decode bb_P_weighSets 78 = .ok (.invokevirtual 127, 3) := by decide +kernel
theorem dd_P_weighSets_81 : decode bb_P_weighSets 81 = .ok (.iinc 3 1, 3) := by decide +kernel
theorem dd_P_weighSets_84 : decode bb_P_weighSets 84 = .ok (.goto (-26), 3) := by decide +kernel
theorem dd_P_weighSets_87 : decode bb_P_weighSets 87 = .ok (.iinc 2 1, 3) := by decide +kernel
theorem dd_P_weighSets_90 : decode bb_P_weighSets 90 = .ok (.goto (-88), 3) := by decide +kernel
theorem dd_P_weighSets_93 : decode bb_P_weighSets 93 = .ok (.return_, 1) := by decide +kernel
def mm_P_weighSets_b58 (N : Nat) (this : Option Nat) (a1 : Int32) (x2_2 : Int32) (st : Int32 × ss_Hp) : Option ((Int32 × ss_Hp) ⊕ ss_Hp) :=
  match st with
  | (x3_58, h_58) =>
    if a1 ≤ x3_58 then
      some (.inr h_58)
    else
      (mm_P_sweepAsAgreed N this x2_2 h_58).bind fun h11 =>
      (ss_gr h11 this 10 1).bind fun r12 =>
      ss_b2 (mm_Wi_passNight N r12 h11) fun v13 h14 =>
      (mm_P_addOpen N this x2_2 h14).bind fun h15 =>
      (some (x3_58 + (1 : Int32))).bind fun v16 =>
      some (.inl (v16, h15))
def mm_P_weighSets_b12 (N : Nat) (this : Option Nat) (a1 : Int32) (x2_2 : Int32) (st : Int32 × ss_Hp) : Option ((Int32 × ss_Hp) ⊕ ss_Hp) :=
  match st with
  | (x3_12, h_12) =>
    if (4 : Int32) ≤ x3_12 then
      some (.inr h_12)
    else
      (ss_gr h_12 this 10 4).bind fun r18 =>
      (ss_ui h_12 r18 20 ((x2_2 * (4 : Int32)) + x3_12) (0 : Int32)).bind fun h19 =>
      (some (x3_12 + (1 : Int32))).bind fun v20 =>
      some (.inl (v20, h19))
def mm_P_weighSets_b2 (N : Nat) (this : Option Nat) (a1 : Int32) (st : Int32 × ss_Hp) : Option ((Int32 × ss_Hp) ⊕ ss_Hp) :=
  match st with
  | (x2_2, h_2) =>
    (mm_P_setCount N this h_2).bind fun v1 =>
    if v1 ≤ x2_2 then
      some (.inr h_2)
    else
      (ss_lp (mm_P_weighSets_b12 N this a1 x2_2) N ((0 : Int32), h_2)).bind fun h_12_34 =>
      (ss_gr h_12_34 this 10 1).bind fun r3 =>
      (ss_gr h_12_34 this 10 0).bind fun r4 =>
      (ss_gr h_12_34 r4 8 0).bind fun r5 =>
      (ss_gr h_12_34 this 10 0).bind fun r6 =>
      (ss_gr h_12_34 r6 8 1).bind fun r7 =>
      (mm_Wi_begin N r3 r5 none r7 h_12_34).bind fun h8 =>
      (ss_lp (mm_P_weighSets_b58 N this a1 x2_2) N ((0 : Int32), h8)).bind fun h_58_87 =>
      (some (x2_2 + (1 : Int32))).bind fun v9 =>
      some (.inl (v9, h_58_87))
def mm_P_weighSets (N : Nat) (this : Option Nat) (a1 : Int32) (h : ss_Hp) : Option ss_Hp :=
  if ss_is h this 10 = true then
    (ss_lp (mm_P_weighSets_b2 N this a1) N ((0 : Int32), h)).bind fun h_2_93 =>
    some h_2_93
  else none
abbrev ww_P_weighSets (p : Program) (l : Launch) (e : Env) (s : State) (m : MethodId) (below : List Frame) (meth : Method) (c : Code) (G : ss_G) (this : Option Nat) (a1 : Int32) (h : ss_Hp) (hh : ss_Hp) (H : Heap) (locs : List Loc) (k n : Nat) (g : JFrame) : Prop := W p l e (headSpec (ss_w yy_P_weighSets bb_P_weighSets 4 none) ({ frames := 4, cells := 0, slots := 0, locals := 149 })).room s m ([ss_v (ss_b G) this, .int a1] : List Value).toArray below meth c H locs k n (MQ below (ss_Qc G none hh) ([ss_v (ss_b G) this, .int a1] : List Value).toArray s 0 0 (ss_A G)) g
theorem ck_P_weighSets {N : Nat} {this : Option Nat} {a1 : Int32} {h : ss_Hp} {res : ss_Hp} (hm : mm_P_weighSets N this a1 h = some res) : ss_is h this 10 = true := (ss_chk hm).1
set_option maxHeartbeats 4000000 in
set_option maxRecDepth 100000 in
theorem cc_P_weighSets (l : Launch) (G : ss_G) (N : Nat) (this : Option Nat) (a1 : Int32) (h : ss_Hp) (hh : ss_Hp) (hm : mm_P_weighSets N this a1 h = some hh) : ss_Ct l G yy_P_weighSets bb_P_weighSets 4 none ({ frames := 4, cells := 0, slots := 0, locals := 149 }) [ss_v (ss_b G) this, .int a1] h none hh := by
  obtain ⟨hck, hm⟩ := ss_chk hm
  refine Met.ofW (cc := bb_P_weighSets) (maxL := 4) (ret := none) (by decide) rfl ?_
  intro p e s m args below meth c s₁ B hml hv
  obtain ⟨rfl, hR, hK⟩ := hv
  have hC : CallFix p m c bb_P_weighSets 4 s _ lw_g sR_10 := ⟨B.exec, B.bytes, hml, findClass_of_methodNamed B.named, fun w hw => atoms_spec (ws := ss_w yy_P_weighSets bb_P_weighSets 4 none) B.pre w (List.mem_cons_of_mem _ hw)⟩
  have hx := hC.1
  have hb := hC.2.1
  have hr := B.returns
  have hlocks := B.notSynchronized
  have hS : va_S (ss_A G) s.heap s.heap [] := va_S.rf
  have hl := lv_entry ([ss_v (ss_b G) this, .int a1]) (n := 4) (by simp [lg_sl, ss_v_cat, ss_cat_i, ss_cat_l, ss_cat_r])
  rw [lg_entry_eq]
  generalize (lg_sl ([ss_v (ss_b G) this, .int a1]) ++ List.replicate (4 - (lg_sl ([ss_v (ss_b G) this, .int a1])).length) Slot.unset).toArray = ls at hl ⊢
  have hl : lv_has ls 4 [(0, ss_v (ss_b G) this), (1, .int a1)] := by simpa [lv_args, ss_v_cat, ss_cat_i, ss_cat_l, ss_cat_r] using hl
  refine lv_iconst (v := 0) hx hb dd_P_weighSets_0 (by decide) ?_
  refine lv_istore_n (lv' := [(2, .int (0 : Int32)), (0, ss_v (ss_b G) this), (1, .int a1)]) hx hb dd_P_weighSets_1 rfl hl (by decide) rfl (fun ls hl => ?_)
  obtain ⟨e_2, he_2, hm⟩ := ss_bind hm
  have X_2_93 : ∀  (h_2_93 : ss_Hp) (H : Heap) (locs : List Loc) (ls : Array Slot), e_2 = h_2_93 → ss_R G h_2_93 H → va_S (ss_A G) s.heap H locs → lv_has ls 4 [] → ww_P_weighSets p l e s m below meth c G this a1 h hh  H locs 0 0 (F0 m 93 ls []) := by
    intro h_2_93 H locs ls hq hR hS hl
    rw [hq] at hm
    exact ss_vret hC hr hlocks hR hS hm dd_P_weighSets_93
  have L_2 : ∀ (n : Nat) (x2_2 : Int32) (h_2 : ss_Hp) (H : Heap) (locs : List Loc) (ls : Array Slot), ss_lp (mm_P_weighSets_b2 N this a1) n (x2_2, h_2) = some e_2 → ss_R G h_2 H → va_S (ss_A G) s.heap H locs → lv_has ls 4 [(0, ss_v (ss_b G) this), (1, .int a1), (2, .int x2_2)] → ww_P_weighSets p l e s m below meth c G this a1 h hh  H locs 0 0 (F0 m 2 ls []) := by
    intro n
    induction n with
    | zero => intro x2_2 h_2 H locs ls hm; cases hm
    | succ n ih_2 =>
      intro x2_2 h_2 H locs ls hm hR hS hl
      obtain ⟨z_2, hm, hz1_2, hz2_2⟩ := ss_lps hm
      refine lv_iload_n hx hb dd_P_weighSets_2 rfl (lv_at hl 2 rfl) ?_
      refine ss_aload_n hx hb dd_P_weighSets_3 rfl (lv_at hl 0 rfl) ?_
      obtain ⟨v1, qv1, hm⟩ := ss_bind hm
      refine ss_cV 0 0 (As := []) hC hK hR hS hl.1 (cc_P_setCount l G N _ _ _ qv1) km_P_112 (ck_P_setCount qv1) ⟨Nat.le_of_ble_eq_true rfl, Nat.le_of_ble_eq_true rfl⟩ ⟨Nat.le_of_ble_eq_true rfl, Nat.le_of_ble_eq_true rfl, Nat.le_of_ble_eq_true rfl, Nat.le_of_ble_eq_true rfl⟩ rfl rfl (Nat.le_of_ble_eq_true rfl) dd_P_weighSets_4 (fun H locs hR hS => ?_)
      refine lv_icmp_ge (tgt := 93) hx hb dd_P_weighSets_7 (by decide) (fun c2 => ?_) (fun c2 => ?_)
      · have hm := ss_ift hm c2
        exact X_2_93 h_2 _ _ _ (hz2_2 _ (ss_some hm)) hR hS (lv_sub hl [] rfl)
      · have hm := ss_iff hm c2
        refine lv_iconst (v := 0) hx hb dd_P_weighSets_10 (by decide) ?_
        refine lv_istore_n (lv' := [(3, .int (0 : Int32)), (0, ss_v (ss_b G) this), (1, .int a1), (2, .int x2_2)]) hx hb dd_P_weighSets_11 rfl hl (by decide) rfl (fun ls hl => ?_)
        obtain ⟨e_12, he_12, hm⟩ := ss_bind hm
        have X_12_34 : ∀  (h_12_34 : ss_Hp) (H : Heap) (locs : List Loc) (ls : Array Slot), e_12 = h_12_34 → ss_R G h_12_34 H → va_S (ss_A G) s.heap H locs → lv_has ls 4 [(0, ss_v (ss_b G) this), (1, .int a1), (2, .int x2_2)] → ww_P_weighSets p l e s m below meth c G this a1 h hh  H locs 0 0 (F0 m 34 ls []) := by
          intro h_12_34 H locs ls hq hR hS hl
          rw [hq] at hm
          refine ss_aload_n hx hb dd_P_weighSets_34 rfl (lv_at hl 0 rfl) ?_
          obtain ⟨r3, qr3, hm⟩ := ss_bind hm
          refine ss_getr hC hK hR kf_P_25 rfl qr3 dd_P_weighSets_35 ?_
          refine ss_aload_n hx hb dd_P_weighSets_38 rfl (lv_at hl 0 rfl) ?_
          obtain ⟨r4, qr4, hm⟩ := ss_bind hm
          refine ss_getr hC hK hR kf_P_21 rfl qr4 dd_P_weighSets_39 ?_
          obtain ⟨r5, qr5, hm⟩ := ss_bind hm
          refine ss_getr hC hK hR kf_P_50 rfl qr5 dd_P_weighSets_42 ?_
          refine ss_null hx hb (ss_b G) dd_P_weighSets_45 ?_
          refine ss_aload_n hx hb dd_P_weighSets_46 rfl (lv_at hl 0 rfl) ?_
          obtain ⟨r6, qr6, hm⟩ := ss_bind hm
          refine ss_getr hC hK hR kf_P_21 rfl qr6 dd_P_weighSets_47 ?_
          obtain ⟨r7, qr7, hm⟩ := ss_bind hm
          refine ss_getr hC hK hR kf_P_39 rfl qr7 dd_P_weighSets_50 ?_
          obtain ⟨h8, qh8, hm⟩ := ss_bind hm
          refine ss_cVv 0 0 (As := [ss_v (ss_b G) r5, ss_v (ss_b G) none, ss_v (ss_b G) r7]) hC hK hR hS hl.1 (cc_Wi_begin l G N _ _ _ _ _ _ qh8) km_P_115 (ck_Wi_begin qh8) ⟨Nat.le_of_ble_eq_true rfl, Nat.le_of_ble_eq_true rfl⟩ ⟨Nat.le_of_ble_eq_true rfl, Nat.le_of_ble_eq_true rfl, Nat.le_of_ble_eq_true rfl, Nat.le_of_ble_eq_true rfl⟩ rfl rfl (Nat.le_of_ble_eq_true rfl) dd_P_weighSets_53 (fun H locs hR hS => ?_)
          refine lv_iconst (v := 0) hx hb dd_P_weighSets_56 (by decide) ?_
          refine lv_istore_n (lv' := [(3, .int (0 : Int32)), (0, ss_v (ss_b G) this), (1, .int a1), (2, .int x2_2)]) hx hb dd_P_weighSets_57 rfl hl (by decide) rfl (fun ls hl => ?_)
          obtain ⟨e_58, he_58, hm⟩ := ss_bind hm
          have X_58_87 : ∀  (h_58_87 : ss_Hp) (H : Heap) (locs : List Loc) (ls : Array Slot), e_58 = h_58_87 → ss_R G h_58_87 H → va_S (ss_A G) s.heap H locs → lv_has ls 4 [(0, ss_v (ss_b G) this), (1, .int a1), (2, .int x2_2)] → ww_P_weighSets p l e s m below meth c G this a1 h hh  H locs 0 0 (F0 m 87 ls []) := by
            intro h_58_87 H locs ls hq hR hS hl
            rw [hq] at hm
            obtain ⟨v9, qv9, hm⟩ := ss_bind hm
            refine lv_iinc (v := v9) (lv' := [(2, .int v9), (0, ss_v (ss_b G) this), (1, .int a1)]) hx hb dd_P_weighSets_87 hl (k := 2) rfl (ss_inc (by decide) qv9) (by decide) rfl (fun ls hl => ?_)
            refine lv_goto (tgt := 2) hx hb dd_P_weighSets_90 (by decide) ?_
            exact ih_2 v9 h_58_87 _ _ _ (hz1_2 _ (ss_some hm)) hR hS (lv_sub hl [1, 2, 0] rfl)
          have L_58 : ∀ (n : Nat) (x3_58 : Int32) (h_58 : ss_Hp) (H : Heap) (locs : List Loc) (ls : Array Slot), ss_lp (mm_P_weighSets_b58 N this a1 x2_2) n (x3_58, h_58) = some e_58 → ss_R G h_58 H → va_S (ss_A G) s.heap H locs → lv_has ls 4 [(0, ss_v (ss_b G) this), (1, .int a1), (2, .int x2_2), (3, .int x3_58)] → ww_P_weighSets p l e s m below meth c G this a1 h hh  H locs 0 0 (F0 m 58 ls []) := by
            intro n
            induction n with
            | zero => intro x3_58 h_58 H locs ls hm; cases hm
            | succ n ih_58 =>
              intro x3_58 h_58 H locs ls hm hR hS hl
              obtain ⟨z_58, hm, hz1_58, hz2_58⟩ := ss_lps hm
              refine lv_iload_n hx hb dd_P_weighSets_58 rfl (lv_at hl 3 rfl) ?_
              refine lv_iload_n hx hb dd_P_weighSets_59 rfl (lv_at hl 1 rfl) ?_
              refine lv_icmp_ge (tgt := 87) hx hb dd_P_weighSets_60 (by decide) (fun c10 => ?_) (fun c10 => ?_)
              · have hm := ss_ift hm c10
                exact X_58_87 h_58 _ _ _ (hz2_58 _ (ss_some hm)) hR hS (lv_sub hl [0, 1, 2] rfl)
              · have hm := ss_iff hm c10
                refine ss_aload_n hx hb dd_P_weighSets_63 rfl (lv_at hl 0 rfl) ?_
                refine lv_iload_n hx hb dd_P_weighSets_64 rfl (lv_at hl 2 rfl) ?_
                obtain ⟨h11, qh11, hm⟩ := ss_bind hm
                refine ss_cVv 0 0 (As := [.int x2_2]) hC hK hR hS hl.1 (cc_P_sweepAsAgreed l G N _ _ _ _ qh11) km_P_121 (ck_P_sweepAsAgreed qh11) ⟨Nat.le_of_ble_eq_true rfl, Nat.le_of_ble_eq_true rfl⟩ ⟨Nat.le_of_ble_eq_true rfl, Nat.le_of_ble_eq_true rfl, Nat.le_of_ble_eq_true rfl, Nat.le_of_ble_eq_true rfl⟩ rfl rfl (Nat.le_of_ble_eq_true rfl) dd_P_weighSets_65 (fun H locs hR hS => ?_)
                refine ss_aload_n hx hb dd_P_weighSets_68 rfl (lv_at hl 0 rfl) ?_
                obtain ⟨r12, qr12, hm⟩ := ss_bind hm
                refine ss_getr hC hK hR kf_P_25 rfl qr12 dd_P_weighSets_69 ?_
                obtain ⟨v13, h14, qh14, hm⟩ := ss_bind2 hm
                refine ss_cV 0 0 (As := []) hC hK hR hS hl.1 (cc_Wi_passNight l G N _ _ _ _ qh14) km_P_124 (ck_Wi_passNight qh14) ⟨Nat.le_of_ble_eq_true rfl, Nat.le_of_ble_eq_true rfl⟩ ⟨Nat.le_of_ble_eq_true rfl, Nat.le_of_ble_eq_true rfl, Nat.le_of_ble_eq_true rfl, Nat.le_of_ble_eq_true rfl⟩ rfl rfl (Nat.le_of_ble_eq_true rfl) dd_P_weighSets_72 (fun H locs hR hS => ?_)
                refine lv_pop hx hb dd_P_weighSets_75 rfl ?_
                refine ss_aload_n hx hb dd_P_weighSets_76 rfl (lv_at hl 0 rfl) ?_
                refine lv_iload_n hx hb dd_P_weighSets_77 rfl (lv_at hl 2 rfl) ?_
                obtain ⟨h15, qh15, hm⟩ := ss_bind hm
                refine ss_cVv 0 0 (As := [.int x2_2]) hC hK hR hS hl.1 (cc_P_addOpen l G N _ _ _ _ qh15) km_P_127 (ck_P_addOpen qh15) ⟨Nat.le_of_ble_eq_true rfl, Nat.le_of_ble_eq_true rfl⟩ ⟨Nat.le_of_ble_eq_true rfl, Nat.le_of_ble_eq_true rfl, Nat.le_of_ble_eq_true rfl, Nat.le_of_ble_eq_true rfl⟩ rfl rfl (Nat.le_of_ble_eq_true rfl) dd_P_weighSets_78 (fun H locs hR hS => ?_)
                obtain ⟨v16, qv16, hm⟩ := ss_bind hm
                refine lv_iinc (v := v16) (lv' := [(3, .int v16), (0, ss_v (ss_b G) this), (1, .int a1), (2, .int x2_2)]) hx hb dd_P_weighSets_81 hl (k := 3) rfl (ss_inc (by decide) qv16) (by decide) rfl (fun ls hl => ?_)
                refine lv_goto (tgt := 58) hx hb dd_P_weighSets_84 (by decide) ?_
                exact ih_58 v16 h15 _ _ _ (hz1_58 _ (ss_some hm)) hR hS (lv_sub hl [1, 2, 3, 0] rfl)
          exact L_58 N (0 : Int32) h8 _ _ _ he_58 hR hS (lv_sub hl [1, 2, 3, 0] rfl)
        have L_12 : ∀ (n : Nat) (x3_12 : Int32) (h_12 : ss_Hp) (H : Heap) (locs : List Loc) (ls : Array Slot), ss_lp (mm_P_weighSets_b12 N this a1 x2_2) n (x3_12, h_12) = some e_12 → ss_R G h_12 H → va_S (ss_A G) s.heap H locs → lv_has ls 4 [(0, ss_v (ss_b G) this), (1, .int a1), (2, .int x2_2), (3, .int x3_12)] → ww_P_weighSets p l e s m below meth c G this a1 h hh  H locs 0 0 (F0 m 12 ls []) := by
          intro n
          induction n with
          | zero => intro x3_12 h_12 H locs ls hm; cases hm
          | succ n ih_12 =>
            intro x3_12 h_12 H locs ls hm hR hS hl
            obtain ⟨z_12, hm, hz1_12, hz2_12⟩ := ss_lps hm
            refine lv_iload_n hx hb dd_P_weighSets_12 rfl (lv_at hl 3 rfl) ?_
            refine lv_iconst (v := 4) hx hb dd_P_weighSets_13 (by decide) ?_
            refine lv_icmp_ge (tgt := 34) hx hb dd_P_weighSets_14 (by decide) (fun c17 => ?_) (fun c17 => ?_)
            · have hm := ss_ift hm c17
              exact X_12_34 h_12 _ _ _ (hz2_12 _ (ss_some hm)) hR hS (lv_sub hl [0, 1, 2] rfl)
            · have hm := ss_iff hm c17
              refine ss_aload_n hx hb dd_P_weighSets_17 rfl (lv_at hl 0 rfl) ?_
              obtain ⟨r18, qr18, hm⟩ := ss_bind hm
              refine ss_getr hC hK hR kf_P_18 rfl qr18 dd_P_weighSets_18 ?_
              refine lv_iload_n hx hb dd_P_weighSets_21 rfl (lv_at hl 2 rfl) ?_
              refine lv_iconst (v := 4) hx hb dd_P_weighSets_22 (by decide) ?_
              refine lv_imul hx hb dd_P_weighSets_23 ?_
              refine lv_iload_n hx hb dd_P_weighSets_24 rfl (lv_at hl 3 rfl) ?_
              refine lv_iadd hx hb dd_P_weighSets_25 ?_
              refine lv_iconst (v := 0) hx hb dd_P_weighSets_26 (by decide) ?_
              obtain ⟨h19, qh19, hm⟩ := ss_bind hm
              refine ss_iast hC hK hR hS qh19 dd_P_weighSets_27 (fun H locs hR hS => ?_)
              obtain ⟨v20, qv20, hm⟩ := ss_bind hm
              refine lv_iinc (v := v20) (lv' := [(3, .int v20), (0, ss_v (ss_b G) this), (1, .int a1), (2, .int x2_2)]) hx hb dd_P_weighSets_28 hl (k := 3) rfl (ss_inc (by decide) qv20) (by decide) rfl (fun ls hl => ?_)
              refine lv_goto (tgt := 12) hx hb dd_P_weighSets_31 (by decide) ?_
              exact ih_12 v20 h19 _ _ _ (hz1_12 _ (ss_some hm)) hR hS (lv_sub hl [1, 2, 3, 0] rfl)
        exact L_12 N (0 : Int32) h_2 _ _ _ he_12 hR hS (lv_sub hl [1, 2, 3, 0] rfl)
  exact L_2 N (0 : Int32) h _ _ _ he_2 hR hS (lv_sub hl [1, 2, 0] rfl)
theorem dd_P_sumOf_0 : decode bb_P_sumOf 0 = .ok (.iconst 0, 1) := by decide +kernel
theorem dd_P_sumOf_1 : decode bb_P_sumOf 1 = .ok (.istore_n 2, 1) := by decide +kernel
theorem dd_P_sumOf_2 : decode bb_P_sumOf 2 = .ok (.iconst 0, 1) := by decide +kernel
theorem dd_P_sumOf_3 : decode bb_P_sumOf 3 = .ok (.istore_n 3, 1) := by decide +kernel
theorem dd_P_sumOf_4 : decode bb_P_sumOf 4 = .ok (.iload_n 3, 1) := by decide +kernel
theorem dd_P_sumOf_5 : decode bb_P_sumOf 5 = .ok (.aload_n 0, 1) := by decide +kernel
theorem dd_P_sumOf_6 : decode bb_P_sumOf 6 = .ok (.getfield 21, 3) := by decide +kernel
theorem dd_P_sumOf_9 : decode bb_P_sumOf 9 = .ok (.getfield 50, 3) := by decide +kernel
theorem dd_P_sumOf_12 : decode bb_P_sumOf 12 = .ok (.getfield 109, 3) := by decide +kernel
theorem dd_P_sumOf_15 : decode bb_P_sumOf 15 = .ok (.if_icmp .ge 22, 3) := by decide +kernel
theorem dd_P_sumOf_18 : decode bb_P_sumOf 18 = .ok (.iload_n 2, 1) := by decide +kernel
theorem dd_P_sumOf_19 : decode bb_P_sumOf 19 = .ok (.aload_n 0, 1) := by decide +kernel
theorem dd_P_sumOf_20 : decode bb_P_sumOf 20 = .ok (.getfield 18, 3) := by decide +kernel
theorem dd_P_sumOf_23 : decode bb_P_sumOf 23 = .ok (.iload_n 1, 1) := by decide +kernel
theorem dd_P_sumOf_24 : decode bb_P_sumOf 24 = .ok (.iconst 4, 1) := by decide +kernel
theorem dd_P_sumOf_25 : decode bb_P_sumOf 25 = .ok (.imul, 1) := by decide +kernel
theorem dd_P_sumOf_26 : decode bb_P_sumOf 26 = .ok (.iload_n 3, 1) := by decide +kernel
theorem dd_P_sumOf_27 : decode bb_P_sumOf 27 = .ok (.iadd, 1) := by decide +kernel
theorem dd_P_sumOf_28 : decode bb_P_sumOf 28 = .ok (.iaload, 1) := by decide +kernel
theorem dd_P_sumOf_29 : decode bb_P_sumOf 29 = .ok (.iadd, 1) := by decide +kernel
theorem dd_P_sumOf_30 : decode bb_P_sumOf 30 = .ok (.istore_n 2, 1) := by decide +kernel
theorem dd_P_sumOf_31 : decode bb_P_sumOf 31 = .ok (.iinc 3 1, 3) := by decide +kernel
theorem dd_P_sumOf_34 : decode bb_P_sumOf 34 = .ok (.goto (-30), 3) := by decide +kernel
theorem dd_P_sumOf_37 : decode bb_P_sumOf 37 = .ok (.iload_n 2, 1) := by decide +kernel
theorem dd_P_sumOf_38 : decode bb_P_sumOf 38 = .ok (.ireturn, 1) := by decide +kernel
def mm_P_sumOf_b4 (N : Nat) (this : Option Nat) (a1 : Int32) (h : ss_Hp) (st : Int32 × Int32) : Option ((Int32 × Int32) ⊕ Int32) :=
  match st with
  | (x2_4, x3_4) =>
    (ss_gr h this 10 0).bind fun r1 =>
    (ss_gr h r1 8 0).bind fun r2 =>
    (ss_gi h r2 5 4).bind fun v3 =>
    if v3 ≤ x3_4 then
      some (.inr x2_4)
    else
      (ss_gr h this 10 4).bind fun r5 =>
      (ss_ai h r5 20 ((a1 * (4 : Int32)) + x3_4)).bind fun v6 =>
      (some (x2_4 + v6)).bind fun v7 =>
      (some (x3_4 + (1 : Int32))).bind fun v8 =>
      some (.inl (v7, v8))
def mm_P_sumOf (N : Nat) (this : Option Nat) (a1 : Int32) (h : ss_Hp) : Option Int32 :=
  if ss_is h this 10 = true then
    (ss_lp (mm_P_sumOf_b4 N this a1 h) N ((0 : Int32), (0 : Int32))).bind fun y2_4_37 =>
    some y2_4_37
  else none
abbrev ww_P_sumOf (p : Program) (l : Launch) (e : Env) (s : State) (m : MethodId) (below : List Frame) (meth : Method) (c : Code) (G : ss_G) (this : Option Nat) (a1 : Int32) (h : ss_Hp) (rr : Int32) (H : Heap) (locs : List Loc) (k n : Nat) (g : JFrame) : Prop := W p l e (headSpec (ss_w yy_P_sumOf bb_P_sumOf 4 (some (.int))) ({ frames := 0, cells := 0, slots := 0, locals := 0 })).room s m ([ss_v (ss_b G) this, .int a1] : List Value).toArray below meth c H locs k n (MQ below (ss_Qc G (some (.int rr)) h) ([ss_v (ss_b G) this, .int a1] : List Value).toArray s 0 0 (ss_A G)) g
theorem ck_P_sumOf {N : Nat} {this : Option Nat} {a1 : Int32} {h : ss_Hp} {res : Int32} (hm : mm_P_sumOf N this a1 h = some res) : ss_is h this 10 = true := (ss_chk hm).1
set_option maxHeartbeats 4000000 in
set_option maxRecDepth 100000 in
theorem cc_P_sumOf (l : Launch) (G : ss_G) (N : Nat) (this : Option Nat) (a1 : Int32) (h : ss_Hp) (rr : Int32) (hm : mm_P_sumOf N this a1 h = some rr) : ss_Ct l G yy_P_sumOf bb_P_sumOf 4 (some (.int)) ({ frames := 0, cells := 0, slots := 0, locals := 0 }) [ss_v (ss_b G) this, .int a1] h (some (.int rr)) h := by
  obtain ⟨hck, hm⟩ := ss_chk hm
  refine Met.ofW (cc := bb_P_sumOf) (maxL := 4) (ret := (some (.int))) (by decide) rfl ?_
  intro p e s m args below meth c s₁ B hml hv
  obtain ⟨rfl, hR, hK⟩ := hv
  have hC : CallFix p m c bb_P_sumOf 4 s _ lw_g sR_10 := ⟨B.exec, B.bytes, hml, findClass_of_methodNamed B.named, fun w hw => atoms_spec (ws := ss_w yy_P_sumOf bb_P_sumOf 4 (some (.int))) B.pre w (List.mem_cons_of_mem _ hw)⟩
  have hx := hC.1
  have hb := hC.2.1
  have hr := B.returns
  have hlocks := B.notSynchronized
  have hS : va_S (ss_A G) s.heap s.heap [] := va_S.rf
  have hl := lv_entry ([ss_v (ss_b G) this, .int a1]) (n := 4) (by simp [lg_sl, ss_v_cat, ss_cat_i, ss_cat_l, ss_cat_r])
  rw [lg_entry_eq]
  generalize (lg_sl ([ss_v (ss_b G) this, .int a1]) ++ List.replicate (4 - (lg_sl ([ss_v (ss_b G) this, .int a1])).length) Slot.unset).toArray = ls at hl ⊢
  have hl : lv_has ls 4 [(0, ss_v (ss_b G) this), (1, .int a1)] := by simpa [lv_args, ss_v_cat, ss_cat_i, ss_cat_l, ss_cat_r] using hl
  refine lv_iconst (v := 0) hx hb dd_P_sumOf_0 (by decide) ?_
  refine lv_istore_n (lv' := [(2, .int (0 : Int32)), (0, ss_v (ss_b G) this), (1, .int a1)]) hx hb dd_P_sumOf_1 rfl hl (by decide) rfl (fun ls hl => ?_)
  refine lv_iconst (v := 0) hx hb dd_P_sumOf_2 (by decide) ?_
  refine lv_istore_n (lv' := [(3, .int (0 : Int32)), (2, .int (0 : Int32)), (0, ss_v (ss_b G) this), (1, .int a1)]) hx hb dd_P_sumOf_3 rfl hl (by decide) rfl (fun ls hl => ?_)
  obtain ⟨e_4, he_4, hm⟩ := ss_bind hm
  have X_4_37 : ∀ (y2_4_37 : Int32) (H : Heap) (locs : List Loc) (ls : Array Slot), e_4 = y2_4_37 → ss_R G h H → va_S (ss_A G) s.heap H locs → lv_has ls 4 [(2, .int y2_4_37)] → ww_P_sumOf p l e s m below meth c G this a1 h rr  H locs 0 0 (F0 m 37 ls []) := by
    intro y2_4_37 H locs ls hq hR hS hl
    rw [hq] at hm
    refine lv_iload_n hx hb dd_P_sumOf_37 rfl (lv_at hl 0 rfl) ?_
    exact ss_iret hC hr hlocks hR hS (ss_with _ hm) dd_P_sumOf_38
  have L_4 : ∀ (n : Nat) (x2_4 : Int32) (x3_4 : Int32) (H : Heap) (locs : List Loc) (ls : Array Slot), ss_lp (mm_P_sumOf_b4 N this a1 h) n (x2_4, x3_4) = some e_4 → ss_R G h H → va_S (ss_A G) s.heap H locs → lv_has ls 4 [(0, ss_v (ss_b G) this), (1, .int a1), (2, .int x2_4), (3, .int x3_4)] → ww_P_sumOf p l e s m below meth c G this a1 h rr  H locs 0 0 (F0 m 4 ls []) := by
    intro n
    induction n with
    | zero => intro x2_4 x3_4 H locs ls hm; cases hm
    | succ n ih_4 =>
      intro x2_4 x3_4 H locs ls hm hR hS hl
      obtain ⟨z_4, hm, hz1_4, hz2_4⟩ := ss_lps hm
      refine lv_iload_n hx hb dd_P_sumOf_4 rfl (lv_at hl 3 rfl) ?_
      refine ss_aload_n hx hb dd_P_sumOf_5 rfl (lv_at hl 0 rfl) ?_
      obtain ⟨r1, qr1, hm⟩ := ss_bind hm
      refine ss_getr hC hK hR kf_P_21 rfl qr1 dd_P_sumOf_6 ?_
      obtain ⟨r2, qr2, hm⟩ := ss_bind hm
      refine ss_getr hC hK hR kf_P_50 rfl qr2 dd_P_sumOf_9 ?_
      obtain ⟨v3, qv3, hm⟩ := ss_bind hm
      refine ss_geti hC hK hR kf_P_109 qv3 dd_P_sumOf_12 ?_
      refine lv_icmp_ge (tgt := 37) hx hb dd_P_sumOf_15 (by decide) (fun c4 => ?_) (fun c4 => ?_)
      · have hm := ss_ift hm c4
        exact X_4_37 x2_4  _ _ _ (hz2_4 _ (ss_some hm)) hR hS (lv_sub hl [2] rfl)
      · have hm := ss_iff hm c4
        refine lv_iload_n hx hb dd_P_sumOf_18 rfl (lv_at hl 2 rfl) ?_
        refine ss_aload_n hx hb dd_P_sumOf_19 rfl (lv_at hl 0 rfl) ?_
        obtain ⟨r5, qr5, hm⟩ := ss_bind hm
        refine ss_getr hC hK hR kf_P_18 rfl qr5 dd_P_sumOf_20 ?_
        refine lv_iload_n hx hb dd_P_sumOf_23 rfl (lv_at hl 1 rfl) ?_
        refine lv_iconst (v := 4) hx hb dd_P_sumOf_24 (by decide) ?_
        refine lv_imul hx hb dd_P_sumOf_25 ?_
        refine lv_iload_n hx hb dd_P_sumOf_26 rfl (lv_at hl 3 rfl) ?_
        refine lv_iadd hx hb dd_P_sumOf_27 ?_
        obtain ⟨v6, qv6, hm⟩ := ss_bind hm
        refine ss_iald hC hK hR qv6 dd_P_sumOf_28 ?_
        refine lv_iadd hx hb dd_P_sumOf_29 ?_
        obtain ⟨v7, qv7, hm⟩ := ss_bind hm
        refine ss_topi qv7 ?_
        refine lv_istore_n (lv' := [(2, .int v7), (0, ss_v (ss_b G) this), (1, .int a1), (3, .int x3_4)]) hx hb dd_P_sumOf_30 rfl hl (by decide) rfl (fun ls hl => ?_)
        obtain ⟨v8, qv8, hm⟩ := ss_bind hm
        refine lv_iinc (v := v8) (lv' := [(3, .int v8), (2, .int v7), (0, ss_v (ss_b G) this), (1, .int a1)]) hx hb dd_P_sumOf_31 hl (k := 3) rfl (ss_inc (by decide) qv8) (by decide) rfl (fun ls hl => ?_)
        refine lv_goto (tgt := 4) hx hb dd_P_sumOf_34 (by decide) ?_
        exact ih_4 v7 v8  _ _ _ (hz1_4 _ (ss_some hm)) hR hS (lv_sub hl [2, 3, 1, 0] rfl)
  exact L_4 N (0 : Int32) (0 : Int32) _ _ _ he_4 hR hS (lv_sub hl [2, 3, 1, 0] rfl)
theorem dd_P_spread_0 : decode bb_P_spread 0 = .ok (.aload_n 0, 1) := by decide +kernel
theorem dd_P_spread_1 : decode bb_P_spread 1 = .ok (.iconst 0, 1) := by decide +kernel
theorem dd_P_spread_2 : decode bb_P_spread 2 = .ok (.invokevirtual 142, 3) := by decide +kernel
theorem dd_P_spread_5 : decode bb_P_spread 5 = .ok (.istore_n 1, 1) := by decide +kernel
theorem dd_P_spread_6 : decode bb_P_spread 6 = .ok (.iload_n 1, 1) := by decide +kernel
theorem dd_P_spread_7 : decode bb_P_spread 7 = .ok (.istore_n 2, 1) := by decide +kernel
theorem dd_P_spread_8 : decode bb_P_spread 8 = .ok (.iconst 1, 1) := by decide +kernel
theorem dd_P_spread_9 : decode bb_P_spread 9 = .ok (.istore_n 3, 1) := by decide +kernel
theorem dd_P_spread_10 : decode bb_P_spread 10 = .ok (.iload_n 3, 1) := by decide +kernel
theorem dd_P_spread_11 : decode bb_P_spread 11 = .ok (.aload_n 0, 1) := by decide +kernel
theorem dd_P_spread_12 : decode bb_P_spread 12 = .ok (.invokevirtual 112, 3) := by decide +kernel
theorem dd_P_spread_15 : decode bb_P_spread 15 = .ok (.if_icmp .ge 30, 3) := by decide +kernel
theorem dd_P_spread_18 : decode bb_P_spread 18 = .ok (.aload_n 0, 1) := by decide +kernel
theorem dd_P_spread_19 : decode bb_P_spread 19 = .ok (.iload_n 3, 1) := by decide +kernel
theorem dd_P_spread_20 : decode bb_P_spread 20 = .ok (.invokevirtual 142, 3) := by decide +kernel
theorem dd_P_spread_23 : decode bb_P_spread 23 = .ok (.istore 4, 2) := by decide +kernel
theorem dd_P_spread_25 : decode bb_P_spread 25 = .ok (.iload_n 1, 1) := by decide +kernel
theorem dd_P_spread_26 : decode bb_P_spread 26 = .ok (.iload 4, 2) := by decide +kernel
theorem dd_P_spread_28 : decode bb_P_spread 28 = .ok (.invokestatic 145, 3) := by decide +kernel
theorem dd_P_spread_31 : decode bb_P_spread 31 = .ok (.istore_n 1, 1) := by decide +kernel
theorem dd_P_spread_32 : decode bb_P_spread 32 = .ok (.iload_n 2, 1) := by decide +kernel
theorem dd_P_spread_33 : decode bb_P_spread 33 = .ok (.iload 4, 2) := by decide +kernel
theorem dd_P_spread_35 : decode bb_P_spread 35 = .ok (.invokestatic 100, 3) := by decide +kernel
theorem dd_P_spread_38 : decode bb_P_spread 38 = .ok (.istore_n 2, 1) := by decide +kernel
theorem dd_P_spread_39 : decode bb_P_spread 39 = .ok (.iinc 3 1, 3) := by decide +kernel
theorem dd_P_spread_42 : decode bb_P_spread 42 = .ok (.goto (-32), 3) := by decide +kernel
theorem dd_P_spread_45 : decode bb_P_spread 45 = .ok (.iload_n 1, 1) := by decide +kernel
theorem dd_P_spread_46 : decode bb_P_spread 46 = .ok (.iload_n 2, 1) := by decide +kernel
theorem dd_P_spread_47 : decode bb_P_spread 47 = .ok (.isub, 1) := by decide +kernel
theorem dd_P_spread_48 : decode bb_P_spread 48 = .ok (.ireturn, 1) := by decide +kernel
def mm_P_spread_b10 (N : Nat) (this : Option Nat) (h : ss_Hp) (st : Int32 × Int32 × Int32) : Option ((Int32 × Int32 × Int32) ⊕ (Int32 × Int32)) :=
  match st with
  | (x1_10, x2_10, x3_10) =>
    (mm_P_setCount N this h).bind fun v2 =>
    if v2 ≤ x3_10 then
      some (.inr (x1_10, x2_10))
    else
      (mm_P_sumOf N this x3_10 h).bind fun v4 =>
      (some (if x1_10 < v4 then v4 else x1_10)).bind fun v5 =>
      (some (if v4 < x2_10 then v4 else x2_10)).bind fun v6 =>
      (some (x3_10 + (1 : Int32))).bind fun v7 =>
      some (.inl (v5, v6, v7))
def mm_P_spread (N : Nat) (this : Option Nat) (h : ss_Hp) : Option Int32 :=
  if ss_is h this 10 = true then
    (mm_P_sumOf N this (0 : Int32) h).bind fun v1 =>
    (ss_lp (mm_P_spread_b10 N this h) N (v1, v1, (1 : Int32))).bind fun e_10 =>
    match e_10 with
    | (y1_10_45, y2_10_45) =>
      some (y1_10_45 - y2_10_45)
  else none
abbrev ww_P_spread (p : Program) (l : Launch) (e : Env) (s : State) (m : MethodId) (below : List Frame) (meth : Method) (c : Code) (G : ss_G) (this : Option Nat) (h : ss_Hp) (rr : Int32) (H : Heap) (locs : List Loc) (k n : Nat) (g : JFrame) : Prop := W p l e (headSpec (ss_w yy_P_spread bb_P_spread 5 (some (.int))) ({ frames := 1, cells := 0, slots := 0, locals := 80 })).room s m ([ss_v (ss_b G) this] : List Value).toArray below meth c H locs k n (MQ below (ss_Qc G (some (.int rr)) h) ([ss_v (ss_b G) this] : List Value).toArray s 0 0 (ss_A G)) g
theorem ck_P_spread {N : Nat} {this : Option Nat} {h : ss_Hp} {res : Int32} (hm : mm_P_spread N this h = some res) : ss_is h this 10 = true := (ss_chk hm).1
set_option maxHeartbeats 4000000 in
set_option maxRecDepth 100000 in
theorem cc_P_spread (l : Launch) (G : ss_G) (N : Nat) (this : Option Nat) (h : ss_Hp) (rr : Int32) (hm : mm_P_spread N this h = some rr) : ss_Ct l G yy_P_spread bb_P_spread 5 (some (.int)) ({ frames := 1, cells := 0, slots := 0, locals := 80 }) [ss_v (ss_b G) this] h (some (.int rr)) h := by
  obtain ⟨hck, hm⟩ := ss_chk hm
  refine Met.ofW (cc := bb_P_spread) (maxL := 5) (ret := (some (.int))) (by decide) rfl ?_
  intro p e s m args below meth c s₁ B hml hv
  obtain ⟨rfl, hR, hK⟩ := hv
  have hC : CallFix p m c bb_P_spread 5 s _ lw_g sR_10 := ⟨B.exec, B.bytes, hml, findClass_of_methodNamed B.named, fun w hw => atoms_spec (ws := ss_w yy_P_spread bb_P_spread 5 (some (.int))) B.pre w (List.mem_cons_of_mem _ hw)⟩
  have hx := hC.1
  have hb := hC.2.1
  have hr := B.returns
  have hlocks := B.notSynchronized
  have hS : va_S (ss_A G) s.heap s.heap [] := va_S.rf
  have hl := lv_entry ([ss_v (ss_b G) this]) (n := 5) (by simp [lg_sl, ss_v_cat, ss_cat_i, ss_cat_l, ss_cat_r])
  rw [lg_entry_eq]
  generalize (lg_sl ([ss_v (ss_b G) this]) ++ List.replicate (5 - (lg_sl ([ss_v (ss_b G) this])).length) Slot.unset).toArray = ls at hl ⊢
  have hl : lv_has ls 5 [(0, ss_v (ss_b G) this)] := by simpa [lv_args, ss_v_cat, ss_cat_i, ss_cat_l, ss_cat_r] using hl
  refine ss_aload_n hx hb dd_P_spread_0 rfl (lv_at hl 0 rfl) ?_
  refine lv_iconst (v := 0) hx hb dd_P_spread_1 (by decide) ?_
  obtain ⟨v1, qv1, hm⟩ := ss_bind hm
  refine ss_cV 0 0 (As := [.int (0 : Int32)]) hC hK hR hS hl.1 (cc_P_sumOf l G N _ _ _ _ qv1) km_P_142 (ck_P_sumOf qv1) ⟨Nat.le_of_ble_eq_true rfl, Nat.le_of_ble_eq_true rfl⟩ ⟨Nat.le_of_ble_eq_true rfl, Nat.le_of_ble_eq_true rfl, Nat.le_of_ble_eq_true rfl, Nat.le_of_ble_eq_true rfl⟩ rfl rfl (Nat.le_of_ble_eq_true rfl) dd_P_spread_2 (fun H locs hR hS => ?_)
  refine lv_istore_n (lv' := [(1, .int v1), (0, ss_v (ss_b G) this)]) hx hb dd_P_spread_5 rfl hl (by decide) (by simp only [List.filter_cons, ss_v_cat]; rfl) (fun ls hl => ?_)
  refine lv_iload_n hx hb dd_P_spread_6 rfl (lv_at hl 0 rfl) ?_
  refine lv_istore_n (lv' := [(2, .int v1), (1, .int v1), (0, ss_v (ss_b G) this)]) hx hb dd_P_spread_7 rfl hl (by decide) rfl (fun ls hl => ?_)
  refine lv_iconst (v := 1) hx hb dd_P_spread_8 (by decide) ?_
  refine lv_istore_n (lv' := [(3, .int (1 : Int32)), (2, .int v1), (1, .int v1), (0, ss_v (ss_b G) this)]) hx hb dd_P_spread_9 rfl hl (by decide) rfl (fun ls hl => ?_)
  obtain ⟨e_10, he_10, hm⟩ := ss_bind hm
  have X_10_45 : ∀ (y1_10_45 : Int32) (y2_10_45 : Int32) (H : Heap) (locs : List Loc) (ls : Array Slot), e_10 = (y1_10_45, y2_10_45) → ss_R G h H → va_S (ss_A G) s.heap H locs → lv_has ls 5 [(1, .int y1_10_45), (2, .int y2_10_45)] → ww_P_spread p l e s m below meth c G this h rr  H locs 0 0 (F0 m 45 ls []) := by
    intro y1_10_45 y2_10_45 H locs ls hq hR hS hl
    rw [hq] at hm
    refine lv_iload_n hx hb dd_P_spread_45 rfl (lv_at hl 0 rfl) ?_
    refine lv_iload_n hx hb dd_P_spread_46 rfl (lv_at hl 1 rfl) ?_
    refine lv_isub hx hb dd_P_spread_47 ?_
    exact ss_iret hC hr hlocks hR hS (ss_with _ hm) dd_P_spread_48
  have L_10 : ∀ (n : Nat) (x1_10 : Int32) (x2_10 : Int32) (x3_10 : Int32) (H : Heap) (locs : List Loc) (ls : Array Slot), ss_lp (mm_P_spread_b10 N this h) n (x1_10, x2_10, x3_10) = some e_10 → ss_R G h H → va_S (ss_A G) s.heap H locs → lv_has ls 5 [(0, ss_v (ss_b G) this), (1, .int x1_10), (2, .int x2_10), (3, .int x3_10)] → ww_P_spread p l e s m below meth c G this h rr  H locs 0 0 (F0 m 10 ls []) := by
    intro n
    induction n with
    | zero => intro x1_10 x2_10 x3_10 H locs ls hm; cases hm
    | succ n ih_10 =>
      intro x1_10 x2_10 x3_10 H locs ls hm hR hS hl
      obtain ⟨z_10, hm, hz1_10, hz2_10⟩ := ss_lps hm
      refine lv_iload_n hx hb dd_P_spread_10 rfl (lv_at hl 3 rfl) ?_
      refine ss_aload_n hx hb dd_P_spread_11 rfl (lv_at hl 0 rfl) ?_
      obtain ⟨v2, qv2, hm⟩ := ss_bind hm
      refine ss_cV 0 0 (As := []) hC hK hR hS hl.1 (cc_P_setCount l G N _ _ _ qv2) km_P_112 (ck_P_setCount qv2) ⟨Nat.le_of_ble_eq_true rfl, Nat.le_of_ble_eq_true rfl⟩ ⟨Nat.le_of_ble_eq_true rfl, Nat.le_of_ble_eq_true rfl, Nat.le_of_ble_eq_true rfl, Nat.le_of_ble_eq_true rfl⟩ rfl rfl (Nat.le_of_ble_eq_true rfl) dd_P_spread_12 (fun H locs hR hS => ?_)
      refine lv_icmp_ge (tgt := 45) hx hb dd_P_spread_15 (by decide) (fun c3 => ?_) (fun c3 => ?_)
      · have hm := ss_ift hm c3
        exact X_10_45 x1_10 x2_10  _ _ _ (hz2_10 _ (ss_some hm)) hR hS (lv_sub hl [1, 2] rfl)
      · have hm := ss_iff hm c3
        refine ss_aload_n hx hb dd_P_spread_18 rfl (lv_at hl 0 rfl) ?_
        refine lv_iload_n hx hb dd_P_spread_19 rfl (lv_at hl 3 rfl) ?_
        obtain ⟨v4, qv4, hm⟩ := ss_bind hm
        refine ss_cV 0 0 (As := [.int x3_10]) hC hK hR hS hl.1 (cc_P_sumOf l G N _ _ _ _ qv4) km_P_142 (ck_P_sumOf qv4) ⟨Nat.le_of_ble_eq_true rfl, Nat.le_of_ble_eq_true rfl⟩ ⟨Nat.le_of_ble_eq_true rfl, Nat.le_of_ble_eq_true rfl, Nat.le_of_ble_eq_true rfl, Nat.le_of_ble_eq_true rfl⟩ rfl rfl (Nat.le_of_ble_eq_true rfl) dd_P_spread_20 (fun H locs hR hS => ?_)
        refine lv_istore (lv' := [(4, .int v4), (0, ss_v (ss_b G) this), (1, .int x1_10), (2, .int x2_10), (3, .int x3_10)]) hx hb dd_P_spread_23 hl (by decide) rfl (fun ls hl => ?_)
        refine lv_iload_n hx hb dd_P_spread_25 rfl (lv_at hl 2 rfl) ?_
        refine lv_iload hx hb dd_P_spread_26 (lv_at hl 0 rfl) ?_
        refine ss_max hC hl.1 kj_P_145 kj_max_s kj_math kj_max_c (Nat.le_of_ble_eq_true rfl) (Nat.le_of_ble_eq_true rfl) (Nat.le_of_ble_eq_true rfl) ⟨Nat.le_of_ble_eq_true rfl, Nat.le_of_ble_eq_true rfl⟩ dd_P_spread_28 ?_
        obtain ⟨v5, qv5, hm⟩ := ss_bind hm
        refine ss_topi qv5 ?_
        refine lv_istore_n (lv' := [(1, .int v5), (4, .int v4), (0, ss_v (ss_b G) this), (2, .int x2_10), (3, .int x3_10)]) hx hb dd_P_spread_31 rfl hl (by decide) (by simp only [List.filter_cons, ss_v_cat]; rfl) (fun ls hl => ?_)
        refine lv_iload_n hx hb dd_P_spread_32 rfl (lv_at hl 3 rfl) ?_
        refine lv_iload hx hb dd_P_spread_33 (lv_at hl 1 rfl) ?_
        refine ss_min hC hl.1 kj_P_100 kj_min_s kj_math kj_min_c (Nat.le_of_ble_eq_true rfl) (Nat.le_of_ble_eq_true rfl) (Nat.le_of_ble_eq_true rfl) ⟨Nat.le_of_ble_eq_true rfl, Nat.le_of_ble_eq_true rfl⟩ dd_P_spread_35 ?_
        obtain ⟨v6, qv6, hm⟩ := ss_bind hm
        refine ss_topi qv6 ?_
        refine lv_istore_n (lv' := [(2, .int v6), (1, .int v5), (4, .int v4), (0, ss_v (ss_b G) this), (3, .int x3_10)]) hx hb dd_P_spread_38 rfl hl (by decide) rfl (fun ls hl => ?_)
        obtain ⟨v7, qv7, hm⟩ := ss_bind hm
        refine lv_iinc (v := v7) (lv' := [(3, .int v7), (2, .int v6), (1, .int v5), (4, .int v4), (0, ss_v (ss_b G) this)]) hx hb dd_P_spread_39 hl (k := 4) rfl (ss_inc (by decide) qv7) (by decide) rfl (fun ls hl => ?_)
        refine lv_goto (tgt := 10) hx hb dd_P_spread_42 (by decide) ?_
        exact ih_10 v5 v6 v7  _ _ _ (hz1_10 _ (ss_some hm)) hR hS (lv_sub hl [4, 2, 1, 0] rfl)
  exact L_10 N v1 v1 (1 : Int32) _ _ _ he_10 hR hS (lv_sub hl [3, 2, 1, 0] rfl)
