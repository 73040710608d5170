theorem dd_F_afterStorms_0 : decode bb_F_afterStorms 0 = .ok (.aload_n 0, 1) := by decide +kernel
theorem dd_F_afterStorms_1 : decode bb_F_afterStorms 1 = .ok (.getfield 19, 3) := by decide +kernel
theorem dd_F_afterStorms_4 : decode bb_F_afterStorms 4 = .ok (.getfield 156, 3) := by decide +kernel
theorem dd_F_afterStorms_7 : decode bb_F_afterStorms 7 = .ok (.istore 5, 2) := by decide +kernel
theorem dd_F_afterStorms_9 : decode bb_F_afterStorms 9 = .ok (.iconst 0, 1) := by decide +kernel
theorem dd_F_afterStorms_10 : decode bb_F_afterStorms 10 = .ok (.istore 6, 2) := by decide +kernel
theorem dd_F_afterStorms_12 : decode bb_F_afterStorms 12 = .ok (.iconst 0, 1) := by decide +kernel
theorem dd_F_afterStorms_13 : decode bb_F_afterStorms 13 = .ok (.istore 7, 2) := by decide +kernel
theorem dd_F_afterStorms_15 : decode bb_F_afterStorms 15 = .ok (.iload 7, 2) := by decide +kernel
theorem dd_F_afterStorms_17 : decode bb_F_afterStorms 17 = .ok (.iload_n 1, 1) := by decide +kernel
theorem dd_F_afterStorms_18 : decode bb_F_afterStorms 18 = .ok (.if_icmp .ge 74, 3) := by decide +kernel
theorem dd_F_afterStorms_21 : decode bb_F_afterStorms 21 = .ok (.aload_n 0, 1) := by decide +kernel
theorem dd_F_afterStorms_22 : decode bb_F_afterStorms 22 = .ok (.invokevirtual 51, 3) := by decide +kernel
theorem dd_F_afterStorms_25 : decode bb_F_afterStorms 25 = .ok (.iconst 0, 1) := by decide +kernel
theorem dd_F_afterStorms_26 : decode bb_F_afterStorms 26 = .ok (.istore 8, 2) := by decide +kernel
theorem dd_F_afterStorms_28 : decode bb_F_afterStorms 28 = .ok (.iload 8, 2) := by decide +kernel
theorem dd_F_afterStorms_30 : decode bb_F_afterStorms 30 = .ok (.iload_n 2, 1) := by decide +kernel
theorem dd_F_afterStorms_31 : decode bb_F_afterStorms 31 = .ok (.if_icmp .ge 22, 3) := by decide +kernel
theorem dd_F_afterStorms_34 : decode bb_F_afterStorms 34 = .ok (.aload_n 0, 1) := by decide +kernel
theorem dd_F_afterStorms_35 : decode bb_F_afterStorms 35 = .ok (.iload_n 3, 1) := by decide +kernel
theorem dd_F_afterStorms_36 : decode bb_F_afterStorms 36 = .ok (.invokevirtual 159, 3) := by decide +kernel
theorem dd_F_afterStorms_39 : decode bb_F_afterStorms 39 = .ok (.aload_n 0, 1) := by decide +kernel
theorem dd_F_afterStorms_40 : decode bb_F_afterStorms 40 = .ok (.getfield 27, 3) := by decide +kernel
theorem dd_F_afterStorms_43 : decode bb_F_afterStorms 43 = .ok (.invokevirtual 54, 3) := by decide +kernel
theorem dd_F_afterStorms_46 : decode bb_F_afterStorms 46 = .ok (.pop, 1) := by decide +kernel
theorem dd_F_afterStorms_47 : decode bb_F_afterStorms 47 = .ok (.iinc 8 1, 3) := by decide +kernel
theorem dd_F_afterStorms_50 : decode bb_F_afterStorms 50 = .ok (.goto (-22), 3) := by decide +kernel
theorem dd_F_afterStorms_53 : decode bb_F_afterStorms 53 = .ok (.iload 6, 2) := by decide +kernel
theorem dd_F_afterStorms_55 : decode bb_F_afterStorms 55 = .ok (.iload 4, 2) := by decide +kernel
theorem dd_F_afterStorms_57 : decode bb_F_afterStorms 57 = .ok (.ifCond .eq 16, 3) := by decide +kernel
theorem dd_F_afterStorms_60 : decode bb_F_afterStorms 60 = .ok (.aload_n 0, 1) := by decide +kernel
theorem dd_F_afterStorms_61 : decode bb_F_afterStorms 61 = .ok (.getfield 27, 3) := by decide +kernel
theorem dd_F_afterStorms_64 : decode bb_F_afterStorms 64 = .ok (.invokevirtual 68, 3) := by decide +kernel
theorem dd_F_afterStorms_67 : decode bb_F_afterStorms 67 = .ok (.invokestatic 71, 3) := by decide +kernel
theorem dd_F_afterStorms_70 : decode bb_F_afterStorms 70 = .ok (.goto 13, 3) := by decide +kernel
theorem dd_F_afterStorms_73 : decode bb_F_afterStorms 73 = .ok (.aload_n 0, 1) := by decide +kernel
theorem dd_F_afterStorms_74 : decode bb_F_afterStorms 74 = .ok (.getfield 27, 3) := by decide +kernel
theorem dd_F_afterStorms_77 : decode bb_F_afterStorms 77 = .ok (.getfield 62, 3) := by decide +kernel
theorem dd_F_afterStorms_80 : decode bb_F_afterStorms 80 = .ok (.invokevirtual 162, 3) := by decide +kernel
theorem dd_F_afterStorms_83 : decode bb_F_afterStorms 83 = .ok (.iadd, 1) := by decide +kernel
theorem dd_F_afterStorms_84 : decode bb_F_afterStorms 84 = .ok (.istore 6, 2) := by decide +kernel
theorem dd_F_afterStorms_86 : decode bb_F_afterStorms 86 = .ok (.iinc 7 1, 3) := by decide +kernel
theorem dd_F_afterStorms_89 : decode bb_F_afterStorms 89 = .ok (.goto (-74), 3) := by decide +kernel
theorem dd_F_afterStorms_92 : decode bb_F_afterStorms 92 = .ok (.aload_n 0, 1) := by decide +kernel
theorem dd_F_afterStorms_93 : decode bb_F_afterStorms 93 = .ok (.getfield 19, 3) := by decide +kernel
theorem dd_F_afterStorms_96 : decode bb_F_afterStorms 96 = .ok (.iload 5, 2) := by decide +kernel
theorem dd_F_afterStorms_98 : decode bb_F_afterStorms 98 = .ok (.putfield 156, 3) := by decide +kernel
theorem dd_F_afterStorms_101 : decode bb_F_afterStorms 101 = .ok (.iload 6, 2) := by decide +kernel
theorem dd_F_afterStorms_103 : decode bb_F_afterStorms 103 = .ok (.ireturn, 1) := by decide +kernel
def mm_F_afterStorms_j83 (N : Nat) (this : Option Nat) (a1 : Int32) (a2 : Int32) (a3 : Int32) (a4 : Int32) (v2 : Int32) (x7_83 : Int32) (s0_83 : Int32) (s1_83 : Int32) (h_83 : ss_Hp) : Option ((Int32 × Int32 × ss_Hp) ⊕ (Int32 × ss_Hp)) :=
  (some (s0_83 + s1_83)).bind fun v5 =>
  (some (x7_83 + (1 : Int32))).bind fun v6 =>
  some (.inl (v5, v6, h_83))
def mm_F_afterStorms_b28 (N : Nat) (this : Option Nat) (a1 : Int32) (a2 : Int32) (a3 : Int32) (a4 : Int32) (v2 : Int32) (x6_15 : Int32) (x7_15 : Int32) (st : Int32 × ss_Hp) : Option ((Int32 × ss_Hp) ⊕ ss_Hp) :=
  match st with
  | (x8_28, h_28) =>
    if a2 ≤ x8_28 then
      some (.inr h_28)
    else
      (mm_F_blow N this a3 h_28).bind fun h17 =>
      (ss_gr h17 this 9 2).bind fun r18 =>
      ss_b2 (mm_Wi_passDay N r18 h17) fun v19 h20 =>
      (some (x8_28 + (1 : Int32))).bind fun v21 =>
      some (.inl (v21, h20))
def mm_F_afterStorms_b15 (N : Nat) (this : Option Nat) (a1 : Int32) (a2 : Int32) (a3 : Int32) (a4 : Int32) (v2 : Int32) (st : Int32 × Int32 × ss_Hp) : Option ((Int32 × Int32 × ss_Hp) ⊕ (Int32 × ss_Hp)) :=
  match st with
  | (x6_15, x7_15, h_15) =>
    if a1 ≤ x7_15 then
      some (.inr (x6_15, h_15))
    else
      (mm_F_start N this h_15).bind fun h8 =>
      (ss_lp (mm_F_afterStorms_b28 N this a1 a2 a3 a4 v2 x6_15 x7_15) N ((0 : Int32), h8)).bind fun h_28_53 =>
      if a4 = 0 then
        (ss_gr h_28_53 this 9 2).bind fun r10 =>
        (ss_gr h_28_53 r10 7 0).bind fun r11 =>
        (mm_G_snowOfAll N r11 h_28_53).bind fun v12 =>
        mm_F_afterStorms_j83 N this a1 a2 a3 a4 v2 x7_15 x6_15 v12 h_28_53
      else
        (ss_gr h_28_53 this 9 2).bind fun r13 =>
        (mm_Wi_closedBits N r13 h_28_53).bind fun v14 =>
        (mm_JI_bitCount N v14).bind fun v15 =>
        mm_F_afterStorms_j83 N this a1 a2 a3 a4 v2 x7_15 x6_15 v15 h_28_53
def mm_F_afterStorms (N : Nat) (this : Option Nat) (a1 : Int32) (a2 : Int32) (a3 : Int32) (a4 : Int32) (h : ss_Hp) : Option (Int32 × ss_Hp) :=
  if ss_is h this 9 = true then
    (ss_gr h this 9 0).bind fun r1 =>
    (ss_gi h r1 8 1).bind fun v2 =>
    (ss_lp (mm_F_afterStorms_b15 N this a1 a2 a3 a4 v2) N ((0 : Int32), (0 : Int32), h)).bind fun e_15 =>
    match e_15 with
    | (y6_15_92, h_15_92) =>
      (ss_gr h_15_92 this 9 0).bind fun r3 =>
      (ss_pi h_15_92 r3 8 1 v2).bind fun h4 =>
      some (y6_15_92, h4)
  else none
abbrev ww_F_afterStorms (p : Program) (l : Launch) (e : Env) (s : State) (m : MethodId) (below : List Frame) (meth : Method) (c : Code) (G : ss_G) (this : Option Nat) (a1 : Int32) (a2 : Int32) (a3 : Int32) (a4 : Int32) (h : ss_Hp) (rr : Int32) (hh : ss_Hp) (H : Heap) (locs : List Loc) (k n : Nat) (g : JFrame) : Prop := W p l e (headSpec (ss_w yy_F_afterStorms bb_F_afterStorms 9 (some (.int))) ({ frames := 5, cells := 0, slots := 0, locals := 148 })).room s m ([ss_v (ss_b G) this, .int a1, .int a2, .int a3, .int a4] : List Value).toArray below meth c H locs k n (MQ below (ss_Qc G (some (.int rr)) hh) ([ss_v (ss_b G) this, .int a1, .int a2, .int a3, .int a4] : List Value).toArray s 0 0 (ss_A G)) g
theorem ck_F_afterStorms {N : Nat} {this : Option Nat} {a1 : Int32} {a2 : Int32} {a3 : Int32} {a4 : Int32} {h : ss_Hp} {res : Int32 × ss_Hp} (hm : mm_F_afterStorms N this a1 a2 a3 a4 h = some res) : ss_is h this 9 = true := (ss_chk hm).1
set_option maxHeartbeats 4000000 in
set_option maxRecDepth 100000 in
theorem cc_F_afterStorms (l : Launch) (G : ss_G) (N : Nat) (this : Option Nat) (a1 : Int32) (a2 : Int32) (a3 : Int32) (a4 : Int32) (h : ss_Hp) (rr : Int32) (hh : ss_Hp) (hm : mm_F_afterStorms N this a1 a2 a3 a4 h = some (rr, hh)) : ss_Ct l G yy_F_afterStorms bb_F_afterStorms 9 (some (.int)) ({ frames := 5, cells := 0, slots := 0, locals := 148 }) [ss_v (ss_b G) this, .int a1, .int a2, .int a3, .int a4] h (some (.int rr)) hh := by
  obtain ⟨hck, hm⟩ := ss_chk hm
  refine Met.ofW (cc := bb_F_afterStorms) (maxL := 9) (ret := (some (.int))) (by decide) rfl ?_
  intro p e s m args below meth c s₁ B hml hv
  obtain ⟨rfl, hR, hK⟩ := hv
  have hC : CallFix p m c bb_F_afterStorms 9 s _ lw_g sR_9 := ⟨B.exec, B.bytes, hml, findClass_of_methodNamed B.named, fun w hw => atoms_spec (ws := ss_w yy_F_afterStorms bb_F_afterStorms 9 (some (.int))) B.pre w (List.mem_cons_of_mem _ hw)⟩
  have hx := hC.1
  have hb := hC.2.1
  have hr := B.returns
  have hlocks := B.notSynchronized
  have hS : va_S (ss_A G) s.heap s.heap [] := va_S.rf
  have hl := lv_entry ([ss_v (ss_b G) this, .int a1, .int a2, .int a3, .int a4]) (n := 9) (by simp [lg_sl, ss_v_cat, ss_cat_i, ss_cat_l, ss_cat_r])
  rw [lg_entry_eq]
  generalize (lg_sl ([ss_v (ss_b G) this, .int a1, .int a2, .int a3, .int a4]) ++ List.replicate (9 - (lg_sl ([ss_v (ss_b G) this, .int a1, .int a2, .int a3, .int a4])).length) Slot.unset).toArray = ls at hl ⊢
  have hl : lv_has ls 9 [(0, ss_v (ss_b G) this), (1, .int a1), (2, .int a2), (3, .int a3), (4, .int a4)] := by simpa [lv_args, ss_v_cat, ss_cat_i, ss_cat_l, ss_cat_r] using hl
  refine ss_aload_n hx hb dd_F_afterStorms_0 rfl (lv_at hl 0 rfl) ?_
  obtain ⟨r1, qr1, hm⟩ := ss_bind hm
  refine ss_getr hC hK hR kf_F_19 rfl qr1 dd_F_afterStorms_1 ?_
  obtain ⟨v2, qv2, hm⟩ := ss_bind hm
  refine ss_geti hC hK hR kf_F_156 qv2 dd_F_afterStorms_4 ?_
  refine lv_istore (lv' := [(5, .int v2), (0, ss_v (ss_b G) this), (1, .int a1), (2, .int a2), (3, .int a3), (4, .int a4)]) hx hb dd_F_afterStorms_7 hl (by decide) rfl (fun ls hl => ?_)
  refine lv_iconst (v := 0) hx hb dd_F_afterStorms_9 (by decide) ?_
  refine lv_istore (lv' := [(6, .int (0 : Int32)), (5, .int v2), (0, ss_v (ss_b G) this), (1, .int a1), (2, .int a2), (3, .int a3), (4, .int a4)]) hx hb dd_F_afterStorms_10 hl (by decide) rfl (fun ls hl => ?_)
  refine lv_iconst (v := 0) hx hb dd_F_afterStorms_12 (by decide) ?_
  refine lv_istore (lv' := [(7, .int (0 : Int32)), (6, .int (0 : Int32)), (5, .int v2), (0, ss_v (ss_b G) this), (1, .int a1), (2, .int a2), (3, .int a3), (4, .int a4)]) hx hb dd_F_afterStorms_13 hl (by decide) rfl (fun ls hl => ?_)
  obtain ⟨e_15, he_15, hm⟩ := ss_bind hm
  have X_15_92 : ∀ (y6_15_92 : Int32) (h_15_92 : ss_Hp) (H : Heap) (locs : List Loc) (ls : Array Slot), e_15 = (y6_15_92, h_15_92) → ss_R G h_15_92 H → va_S (ss_A G) s.heap H locs → lv_has ls 9 [(0, ss_v (ss_b G) this), (5, .int v2), (6, .int y6_15_92)] → ww_F_afterStorms p l e s m below meth c G this a1 a2 a3 a4 h rr hh  H locs 0 0 (F0 m 92 ls []) := by
    intro y6_15_92 h_15_92 H locs ls hq hR hS hl
    rw [hq] at hm
    refine ss_aload_n hx hb dd_F_afterStorms_92 rfl (lv_at hl 0 rfl) ?_
    obtain ⟨r3, qr3, hm⟩ := ss_bind hm
    refine ss_getr hC hK hR kf_F_19 rfl qr3 dd_F_afterStorms_93 ?_
    refine lv_iload hx hb dd_F_afterStorms_96 (lv_at hl 1 rfl) ?_
    obtain ⟨h4, qh4, hm⟩ := ss_bind hm
    refine ss_puti hC hK hR hS kp_F_156 qh4 dd_F_afterStorms_98 (fun H locs hR hS => ?_)
    refine lv_iload hx hb dd_F_afterStorms_101 (lv_at hl 2 rfl) ?_
    exact ss_iret hC hr hlocks hR hS hm dd_F_afterStorms_103
  have L_15 : ∀ (n : Nat) (x6_15 : Int32) (x7_15 : Int32) (h_15 : ss_Hp) (H : Heap) (locs : List Loc) (ls : Array Slot), ss_lp (mm_F_afterStorms_b15 N this a1 a2 a3 a4 v2) n (x6_15, x7_15, h_15) = some e_15 → ss_R G h_15 H → va_S (ss_A G) s.heap H locs → lv_has ls 9 [(0, ss_v (ss_b G) this), (1, .int a1), (2, .int a2), (3, .int a3), (4, .int a4), (5, .int v2), (6, .int x6_15), (7, .int x7_15)] → ww_F_afterStorms p l e s m below meth c G this a1 a2 a3 a4 h rr hh  H locs 0 0 (F0 m 15 ls []) := by
    intro n
    induction n with
    | zero => intro x6_15 x7_15 h_15 H locs ls hm; cases hm
    | succ n ih_15 =>
      intro x6_15 x7_15 h_15 H locs ls hm hR hS hl
      obtain ⟨z_15, hm, hz1_15, hz2_15⟩ := ss_lps hm
      have J_83 : ∀ (x7_83 : Int32) (s0_83 : Int32) (s1_83 : Int32) (h_83 : ss_Hp) (H : Heap) (locs : List Loc) (ls : Array Slot), mm_F_afterStorms_j83 N this a1 a2 a3 a4 v2 x7_83 s0_83 s1_83 h_83 = some z_15 → ss_R G h_83 H → va_S (ss_A G) s.heap H locs → lv_has ls 9 [(0, ss_v (ss_b G) this), (1, .int a1), (2, .int a2), (3, .int a3), (4, .int a4), (5, .int v2), (7, .int x7_83)] → ww_F_afterStorms p l e s m below meth c G this a1 a2 a3 a4 h rr hh  H locs 0 0 (F0 m 83 ls [.int s1_83, .int s0_83]) := by
        intro x7_83 s0_83 s1_83 h_83 H locs ls hm hR hS hl
        refine lv_iadd hx hb dd_F_afterStorms_83 ?_
        obtain ⟨v5, qv5, hm⟩ := ss_bind hm
        refine ss_topi qv5 ?_
        refine lv_istore (lv' := [(6, .int v5), (0, ss_v (ss_b G) this), (1, .int a1), (2, .int a2), (3, .int a3), (4, .int a4), (5, .int v2), (7, .int x7_83)]) hx hb dd_F_afterStorms_84 hl (by decide) rfl (fun ls hl => ?_)
        obtain ⟨v6, qv6, hm⟩ := ss_bind hm
        refine lv_iinc (v := v6) (lv' := [(7, .int v6), (6, .int v5), (0, ss_v (ss_b G) this), (1, .int a1), (2, .int a2), (3, .int a3), (4, .int a4), (5, .int v2)]) hx hb dd_F_afterStorms_86 hl (k := 7) rfl (ss_inc (by decide) qv6) (by decide) rfl (fun ls hl => ?_)
        refine lv_goto (tgt := 15) hx hb dd_F_afterStorms_89 (by decide) ?_
        exact ih_15 v5 v6 h_83 _ _ _ (hz1_15 _ (ss_some hm)) hR hS (lv_sub hl [2, 3, 4, 5, 6, 7, 1, 0] rfl)
      refine lv_iload hx hb dd_F_afterStorms_15 (lv_at hl 7 rfl) ?_
      refine lv_iload_n hx hb dd_F_afterStorms_17 rfl (lv_at hl 1 rfl) ?_
      refine lv_icmp_ge (tgt := 92) hx hb dd_F_afterStorms_18 (by decide) (fun c7 => ?_) (fun c7 => ?_)
      · have hm := ss_ift hm c7
        exact X_15_92 x6_15 h_15 _ _ _ (hz2_15 _ (ss_some hm)) hR hS (lv_sub hl [0, 5, 6] rfl)
      · have hm := ss_iff hm c7
        refine ss_aload_n hx hb dd_F_afterStorms_21 rfl (lv_at hl 0 rfl) ?_
        obtain ⟨h8, qh8, hm⟩ := ss_bind hm
        refine ss_cVv 0 0 (As := []) hC hK hR hS hl.1 (cc_F_start l G N _ _ _ qh8) km_F_51 (ck_F_start qh8) ⟨Nat.le_of_ble_eq_true rfl, Nat.le_of_ble_eq_true rfl⟩ ⟨Nat.le_of_ble_eq_true rfl, Nat.le_of_ble_eq_true rfl, Nat.le_of_ble_eq_true rfl, Nat.le_of_ble_eq_true rfl⟩ rfl rfl (Nat.le_of_ble_eq_true rfl) dd_F_afterStorms_22 (fun H locs hR hS => ?_)
        refine lv_iconst (v := 0) hx hb dd_F_afterStorms_25 (by decide) ?_
        refine lv_istore (lv' := [(8, .int (0 : Int32)), (0, ss_v (ss_b G) this), (1, .int a1), (2, .int a2), (3, .int a3), (4, .int a4), (5, .int v2), (6, .int x6_15), (7, .int x7_15)]) hx hb dd_F_afterStorms_26 hl (by decide) rfl (fun ls hl => ?_)
        obtain ⟨e_28, he_28, hm⟩ := ss_bind hm
        have X_28_53 : ∀  (h_28_53 : ss_Hp) (H : Heap) (locs : List Loc) (ls : Array Slot), e_28 = h_28_53 → ss_R G h_28_53 H → va_S (ss_A G) s.heap H locs → lv_has ls 9 [(0, ss_v (ss_b G) this), (1, .int a1), (2, .int a2), (3, .int a3), (4, .int a4), (5, .int v2), (6, .int x6_15), (7, .int x7_15)] → ww_F_afterStorms p l e s m below meth c G this a1 a2 a3 a4 h rr hh  H locs 0 0 (F0 m 53 ls []) := by
          intro h_28_53 H locs ls hq hR hS hl
          rw [hq] at hm
          refine lv_iload hx hb dd_F_afterStorms_53 (lv_at hl 6 rfl) ?_
          refine lv_iload hx hb dd_F_afterStorms_55 (lv_at hl 4 rfl) ?_
          refine lv_if_eq (tgt := 73) hx hb dd_F_afterStorms_57 (by decide) (fun c9 => ?_) (fun c9 => ?_)
          · have hm := ss_ift hm c9
            refine ss_aload_n hx hb dd_F_afterStorms_73 rfl (lv_at hl 0 rfl) ?_
            obtain ⟨r10, qr10, hm⟩ := ss_bind hm
            refine ss_getr hC hK hR kf_F_27 rfl qr10 dd_F_afterStorms_74 ?_
            obtain ⟨r11, qr11, hm⟩ := ss_bind hm
            refine ss_getr hC hK hR kf_F_62 rfl qr11 dd_F_afterStorms_77 ?_
            obtain ⟨v12, qv12, hm⟩ := ss_bind hm
            refine ss_cV 0 0 (As := []) hC hK hR hS hl.1 (cc_G_snowOfAll l G N _ _ _ qv12) km_F_162 (ck_G_snowOfAll qv12) ⟨Nat.le_of_ble_eq_true rfl, Nat.le_of_ble_eq_true rfl⟩ ⟨Nat.le_of_ble_eq_true rfl, Nat.le_of_ble_eq_true rfl, Nat.le_of_ble_eq_true rfl, Nat.le_of_ble_eq_true rfl⟩ rfl rfl (Nat.le_of_ble_eq_true rfl) dd_F_afterStorms_80 (fun H locs hR hS => ?_)
            exact J_83 x7_15 x6_15 v12 h_28_53 _ _ _ hm hR hS (lv_sub hl [0, 1, 2, 3, 4, 5, 7] rfl)
          · have hm := ss_iff hm c9
            refine ss_aload_n hx hb dd_F_afterStorms_60 rfl (lv_at hl 0 rfl) ?_
            obtain ⟨r13, qr13, hm⟩ := ss_bind hm
            refine ss_getr hC hK hR kf_F_27 rfl qr13 dd_F_afterStorms_61 ?_
            obtain ⟨v14, qv14, hm⟩ := ss_bind hm
            refine ss_cV 0 0 (As := []) hC hK hR hS hl.1 (cc_Wi_closedBits l G N _ _ _ qv14) km_F_68 (ck_Wi_closedBits qv14) ⟨Nat.le_of_ble_eq_true rfl, Nat.le_of_ble_eq_true rfl⟩ ⟨Nat.le_of_ble_eq_true rfl, Nat.le_of_ble_eq_true rfl, Nat.le_of_ble_eq_true rfl, Nat.le_of_ble_eq_true rfl⟩ rfl rfl (Nat.le_of_ble_eq_true rfl) dd_F_afterStorms_64 (fun H locs hR hS => ?_)
            obtain ⟨v15, qv15, hm⟩ := ss_bind hm
            refine ss_cS 0 0 (As := [.int v14]) hC hK hR hS hl.1 (cc_JI_bitCount l G N _ _ _ qv15) km_F_71 ⟨Nat.le_of_ble_eq_true rfl, Nat.le_of_ble_eq_true rfl⟩ ⟨Nat.le_of_ble_eq_true rfl, Nat.le_of_ble_eq_true rfl, Nat.le_of_ble_eq_true rfl, Nat.le_of_ble_eq_true rfl⟩ rfl rfl (Nat.le_of_ble_eq_true rfl) dd_F_afterStorms_67 (fun H locs hR hS => ?_)
            refine lv_goto (tgt := 83) hx hb dd_F_afterStorms_70 (by decide) ?_
            exact J_83 x7_15 x6_15 v15 h_28_53 _ _ _ hm hR hS (lv_sub hl [0, 1, 2, 3, 4, 5, 7] rfl)
        have L_28 : ∀ (n : Nat) (x8_28 : Int32) (h_28 : ss_Hp) (H : Heap) (locs : List Loc) (ls : Array Slot), ss_lp (mm_F_afterStorms_b28 N this a1 a2 a3 a4 v2 x6_15 x7_15) n (x8_28, h_28) = some e_28 → ss_R G h_28 H → va_S (ss_A G) s.heap H locs → lv_has ls 9 [(0, ss_v (ss_b G) this), (1, .int a1), (2, .int a2), (3, .int a3), (4, .int a4), (5, .int v2), (6, .int x6_15), (7, .int x7_15), (8, .int x8_28)] → ww_F_afterStorms p l e s m below meth c G this a1 a2 a3 a4 h rr hh  H locs 0 0 (F0 m 28 ls []) := by
          intro n
          induction n with
          | zero => intro x8_28 h_28 H locs ls hm; cases hm
          | succ n ih_28 =>
            intro x8_28 h_28 H locs ls hm hR hS hl
            obtain ⟨z_28, hm, hz1_28, hz2_28⟩ := ss_lps hm
            refine lv_iload hx hb dd_F_afterStorms_28 (lv_at hl 8 rfl) ?_
            refine lv_iload_n hx hb dd_F_afterStorms_30 rfl (lv_at hl 2 rfl) ?_
            refine lv_icmp_ge (tgt := 53) hx hb dd_F_afterStorms_31 (by decide) (fun c16 => ?_) (fun c16 => ?_)
            · have hm := ss_ift hm c16
              exact X_28_53 h_28 _ _ _ (hz2_28 _ (ss_some hm)) hR hS (lv_sub hl [0, 1, 2, 3, 4, 5, 6, 7] rfl)
            · have hm := ss_iff hm c16
              refine ss_aload_n hx hb dd_F_afterStorms_34 rfl (lv_at hl 0 rfl) ?_
              refine lv_iload_n hx hb dd_F_afterStorms_35 rfl (lv_at hl 3 rfl) ?_
              obtain ⟨h17, qh17, hm⟩ := ss_bind hm
              refine ss_cVv 0 0 (As := [.int a3]) hC hK hR hS hl.1 (cc_F_blow l G N _ _ _ _ qh17) km_F_159 (ck_F_blow qh17) ⟨Nat.le_of_ble_eq_true rfl, Nat.le_of_ble_eq_true rfl⟩ ⟨Nat.le_of_ble_eq_true rfl, Nat.le_of_ble_eq_true rfl, Nat.le_of_ble_eq_true rfl, Nat.le_of_ble_eq_true rfl⟩ rfl rfl (Nat.le_of_ble_eq_true rfl) dd_F_afterStorms_36 (fun H locs hR hS => ?_)
              refine ss_aload_n hx hb dd_F_afterStorms_39 rfl (lv_at hl 0 rfl) ?_
              obtain ⟨r18, qr18, hm⟩ := ss_bind hm
              refine ss_getr hC hK hR kf_F_27 rfl qr18 dd_F_afterStorms_40 ?_
              obtain ⟨v19, h20, qh20, hm⟩ := ss_bind2 hm
              refine ss_cV 0 0 (As := []) hC hK hR hS hl.1 (cc_Wi_passDay l G N _ _ _ _ qh20) km_F_54 (ck_Wi_passDay qh20) ⟨Nat.le_of_ble_eq_true rfl, Nat.le_of_ble_eq_true rfl⟩ ⟨Nat.le_of_ble_eq_true rfl, Nat.le_of_ble_eq_true rfl, Nat.le_of_ble_eq_true rfl, Nat.le_of_ble_eq_true rfl⟩ rfl rfl (Nat.le_of_ble_eq_true rfl) dd_F_afterStorms_43 (fun H locs hR hS => ?_)
              refine lv_pop hx hb dd_F_afterStorms_46 rfl ?_
              obtain ⟨v21, qv21, hm⟩ := ss_bind hm
              refine lv_iinc (v := v21) (lv' := [(8, .int v21), (0, ss_v (ss_b G) this), (1, .int a1), (2, .int a2), (3, .int a3), (4, .int a4), (5, .int v2), (6, .int x6_15), (7, .int x7_15)]) hx hb dd_F_afterStorms_47 hl (k := 8) rfl (ss_inc (by decide) qv21) (by decide) rfl (fun ls hl => ?_)
              refine lv_goto (tgt := 28) hx hb dd_F_afterStorms_50 (by decide) ?_
              exact ih_28 v21 h20 _ _ _ (hz1_28 _ (ss_some hm)) hR hS (lv_sub hl [1, 2, 3, 4, 5, 6, 7, 8, 0] rfl)
        exact L_28 N (0 : Int32) h8 _ _ _ he_28 hR hS (lv_sub hl [1, 2, 3, 4, 5, 6, 7, 8, 0] rfl)
  exact L_15 N (0 : Int32) (0 : Int32) h _ _ _ he_15 hR hS (lv_sub hl [3, 4, 5, 6, 7, 2, 1, 0] rfl)
theorem dd_S_storms_0 : decode bb_S_storms 0 = .ok (.aload_n 0, 1) := by decide +kernel
theorem dd_S_storms_1 : decode bb_S_storms 1 = .ok (.getfield 41, 3) := by decide +kernel
theorem dd_S_storms_4 : decode bb_S_storms 4 = .ok (.getfield 58, 3) := by decide +kernel
theorem dd_S_storms_7 : decode bb_S_storms 7 = .ok (.getfield 169, 3) := by decide +kernel
theorem dd_S_storms_10 : decode bb_S_storms 10 = .ok (.ifCond .eq 23, 3) := by decide +kernel
theorem dd_S_storms_13 : decode bb_S_storms 13 = .ok (.iload_n 1, 1) := by decide +kernel
theorem dd_S_storms_14 : decode bb_S_storms 14 = .ok (.iconst 1, 1) := by decide +kernel
theorem dd_S_storms_15 : decode bb_S_storms 15 = .ok (.bipush 10, 2) := by decide +kernel
theorem dd_S_storms_17 : decode bb_S_storms 17 = .ok (.invokestatic 194, 3) := by decide +kernel
theorem dd_S_storms_20 : decode bb_S_storms 20 = .ok (.ifCond .eq 13, 3) := by decide +kernel
theorem dd_S_storms_23 : decode bb_S_storms 23 = .ok (.iload_n 2, 1) := by decide +kernel
theorem dd_S_storms_24 : decode bb_S_storms 24 = .ok (.iconst 1, 1) := by decide +kernel
theorem dd_S_storms_25 : decode bb_S_storms 25 = .ok (.bipush 60, 2) := by decide +kernel
theorem dd_S_storms_27 : decode bb_S_storms 27 = .ok (.invokestatic 194, 3) := by decide +kernel
theorem dd_S_storms_30 : decode bb_S_storms 30 = .ok (.ifCond .ne 5, 3) := by decide +kernel
theorem dd_S_storms_33 : decode bb_S_storms 33 = .ok (.iconst (-1), 1) := by decide +kernel
theorem dd_S_storms_34 : decode bb_S_storms 34 = .ok (.ireturn, 1) := by decide +kernel
theorem dd_S_storms_35 : decode bb_S_storms 35 = .ok (.iload_n 3, 1) := by decide +kernel
theorem dd_S_storms_36 : decode bb_S_storms 36 = .ok (.iconst 0, 1) := by decide +kernel
theorem dd_S_storms_37 : decode bb_S_storms 37 = .ok (.bipush 100, 2) := by decide +kernel
theorem dd_S_storms_39 : decode bb_S_storms 39 = .ok (.invokestatic 194, 3) := by decide +kernel
theorem dd_S_storms_42 : decode bb_S_storms 42 = .ok (.ifCond .eq 13, 3) := by decide +kernel
theorem dd_S_storms_45 : decode bb_S_storms 45 = .ok (.iload 4, 2) := by decide +kernel
theorem dd_S_storms_47 : decode bb_S_storms 47 = .ok (.iconst 0, 1) := by decide +kernel
theorem dd_S_storms_48 : decode bb_S_storms 48 = .ok (.iconst 1, 1) := by decide +kernel
theorem dd_S_storms_49 : decode bb_S_storms 49 = .ok (.invokestatic 194, 3) := by decide +kernel
theorem dd_S_storms_52 : decode bb_S_storms 52 = .ok (.ifCond .ne 5, 3) := by decide +kernel
theorem dd_S_storms_55 : decode bb_S_storms 55 = .ok (.iconst (-1), 1) := by decide +kernel
theorem dd_S_storms_56 : decode bb_S_storms 56 = .ok (.ireturn, 1) := by decide +kernel
theorem dd_S_storms_57 : decode bb_S_storms 57 = .ok (.aload_n 0, 1) := by decide +kernel
theorem dd_S_storms_58 : decode bb_S_storms 58 = .ok (.getfield 74, 3) := by decide +kernel
theorem dd_S_storms_61 : decode bb_S_storms 61 = .ok (.iload_n 1, 1) := by decide +kernel
theorem dd_S_storms_62 : decode bb_S_storms 62 = .ok (.iload_n 2, 1) := by decide +kernel
theorem dd_S_storms_63 : decode bb_S_storms 63 = .ok (.iload_n 3, 1) := by decide +kernel
theorem dd_S_storms_64 : decode bb_S_storms 64 = .ok (.iload 4, 2) := by decide +kernel
theorem dd_S_storms_66 : decode bb_S_storms 66 = .ok (.iconst 1, 1) := by decide +kernel
theorem dd_S_storms_67 : decode bb_S_storms 67 = .ok (.if_icmp .ne 7, 3) := by decide +kernel
theorem dd_S_storms_70 : decode bb_S_storms 70 = .ok (.iconst 1, 1) := by decide +kernel
theorem dd_S_storms_71 : decode bb_S_storms 71 = .ok (.goto 4, 3) := by decide +kernel
theorem dd_S_storms_74 : decode bb_S_storms 74 = .ok (.iconst 0, 1) := by decide +kernel
theorem dd_S_storms_75 : decode bb_S_storms 75 = .ok (.invokevirtual 292, 3) := by decide +kernel
theorem dd_S_storms_78 : decode bb_S_storms 78 = .ok (.ireturn, 1) := by decide +kernel
def mm_S_storms_j33 (N : Nat) (this : Option Nat) (a1 : Int32) (a2 : Int32) (a3 : Int32) (a4 : Int32) (h_33 : ss_Hp) : Option (Int32 × ss_Hp) :=
  some ((-1 : Int32), h_33)
def mm_S_storms_j55 (N : Nat) (this : Option Nat) (a1 : Int32) (a2 : Int32) (a3 : Int32) (a4 : Int32) (h_55 : ss_Hp) : Option (Int32 × ss_Hp) :=
  some ((-1 : Int32), h_55)
def mm_S_storms_j75 (N : Nat) (this : Option Nat) (a1 : Int32) (a2 : Int32) (a3 : Int32) (a4 : Int32) (s0_75 : Option Nat) (s1_75 : Int32) (s2_75 : Int32) (s3_75 : Int32) (s4_75 : Int32) (h_75 : ss_Hp) : Option (Int32 × ss_Hp) :=
  ss_b2 (mm_F_afterStorms N s0_75 s1_75 s2_75 s3_75 s4_75 h_75) fun v1 h2 =>
  some (v1, h2)
def mm_S_storms (N : Nat) (this : Option Nat) (a1 : Int32) (a2 : Int32) (a3 : Int32) (a4 : Int32) (h : ss_Hp) : Option (Int32 × ss_Hp) :=
  if ss_is h this 11 = true then
    (ss_gr h this 11 4).bind fun r3 =>
    (ss_gr h r3 8 0).bind fun r4 =>
    (ss_gi h r4 5 0).bind fun v5 =>
    if v5 = 0 then
      mm_S_storms_j33 N this a1 a2 a3 a4 h
    else
      (mm_S_isWithin N a1 (1 : Int32) (10 : Int32)).bind fun v7 =>
      if v7 = 0 then
        mm_S_storms_j33 N this a1 a2 a3 a4 h
      else
        (mm_S_isWithin N a2 (1 : Int32) (60 : Int32)).bind fun v9 =>
        if v9 = 0 then
          mm_S_storms_j33 N this a1 a2 a3 a4 h
        else
          (mm_S_isWithin N a3 (0 : Int32) (100 : Int32)).bind fun v11 =>
          if v11 = 0 then
            mm_S_storms_j55 N this a1 a2 a3 a4 h
          else
            (mm_S_isWithin N a4 (0 : Int32) (1 : Int32)).bind fun v13 =>
            if v13 = 0 then
              mm_S_storms_j55 N this a1 a2 a3 a4 h
            else
              (ss_gr h this 11 8).bind fun r15 =>
              if a4 = (1 : Int32) then
                mm_S_storms_j75 N this a1 a2 a3 a4 r15 a1 a2 a3 (1 : Int32) h
              else
                mm_S_storms_j75 N this a1 a2 a3 a4 r15 a1 a2 a3 (0 : Int32) h
  else none
abbrev ww_S_storms (p : Program) (l : Launch) (e : Env) (s : State) (m : MethodId) (below : List Frame) (meth : Method) (c : Code) (G : ss_G) (this : Option Nat) (a1 : Int32) (a2 : Int32) (a3 : Int32) (a4 : Int32) (h : ss_Hp) (rr : Int32) (hh : ss_Hp) (H : Heap) (locs : List Loc) (k n : Nat) (g : JFrame) : Prop := W p l e (headSpec (ss_w yy_S_storms bb_S_storms 5 (some (.int))) ({ frames := 6, cells := 0, slots := 0, locals := 176 })).room s m ([ss_v (ss_b G) this, .int a1, .int a2, .int a3, .int a4] : List Value).toArray below meth c H locs k n (MQ below (ss_Qc G (some (.int rr)) hh) ([ss_v (ss_b G) this, .int a1, .int a2, .int a3, .int a4] : List Value).toArray s 0 0 (ss_A G)) g
theorem ck_S_storms {N : Nat} {this : Option Nat} {a1 : Int32} {a2 : Int32} {a3 : Int32} {a4 : Int32} {h : ss_Hp} {res : Int32 × ss_Hp} (hm : mm_S_storms N this a1 a2 a3 a4 h = some res) : ss_is h this 11 = true := (ss_chk hm).1
set_option maxHeartbeats 4000000 in
set_option maxRecDepth 100000 in
theorem cc_S_storms (l : Launch) (G : ss_G) (N : Nat) (this : Option Nat) (a1 : Int32) (a2 : Int32) (a3 : Int32) (a4 : Int32) (h : ss_Hp) (rr : Int32) (hh : ss_Hp) (hm : mm_S_storms N this a1 a2 a3 a4 h = some (rr, hh)) : ss_Ct l G yy_S_storms bb_S_storms 5 (some (.int)) ({ frames := 6, cells := 0, slots := 0, locals := 176 }) [ss_v (ss_b G) this, .int a1, .int a2, .int a3, .int a4] h (some (.int rr)) hh := by
  obtain ⟨hck, hm⟩ := ss_chk hm
  refine Met.ofW (cc := bb_S_storms) (maxL := 5) (ret := (some (.int))) (by decide) rfl ?_
  intro p e s m args below meth c s₁ B hml hv
  obtain ⟨rfl, hR, hK⟩ := hv
  have hC : CallFix p m c bb_S_storms 5 s _ lw_g sR_11 := ⟨B.exec, B.bytes, hml, findClass_of_methodNamed B.named, fun w hw => atoms_spec (ws := ss_w yy_S_storms bb_S_storms 5 (some (.int))) B.pre w (List.mem_cons_of_mem _ hw)⟩
  have hx := hC.1
  have hb := hC.2.1
  have hr := B.returns
  have hlocks := B.notSynchronized
  have hS : va_S (ss_A G) s.heap s.heap [] := va_S.rf
  have hl := lv_entry ([ss_v (ss_b G) this, .int a1, .int a2, .int a3, .int a4]) (n := 5) (by simp [lg_sl, ss_v_cat, ss_cat_i, ss_cat_l, ss_cat_r])
  rw [lg_entry_eq]
  generalize (lg_sl ([ss_v (ss_b G) this, .int a1, .int a2, .int a3, .int a4]) ++ List.replicate (5 - (lg_sl ([ss_v (ss_b G) this, .int a1, .int a2, .int a3, .int a4])).length) Slot.unset).toArray = ls at hl ⊢
  have hl : lv_has ls 5 [(0, ss_v (ss_b G) this), (1, .int a1), (2, .int a2), (3, .int a3), (4, .int a4)] := by simpa [lv_args, ss_v_cat, ss_cat_i, ss_cat_l, ss_cat_r] using hl
  have J_33 : ∀ (h_33 : ss_Hp) (H : Heap) (locs : List Loc) (ls : Array Slot), mm_S_storms_j33 N this a1 a2 a3 a4 h_33 = some (rr, hh) → ss_R G h_33 H → va_S (ss_A G) s.heap H locs → lv_has ls 5 [] → ww_S_storms p l e s m below meth c G this a1 a2 a3 a4 h rr hh  H locs 0 0 (F0 m 33 ls []) := by
    intro h_33 H locs ls hm hR hS hl
    refine lv_iconst (v := -1) hx hb dd_S_storms_33 (by decide) ?_
    exact ss_iret hC hr hlocks hR hS hm dd_S_storms_34
  have J_55 : ∀ (h_55 : ss_Hp) (H : Heap) (locs : List Loc) (ls : Array Slot), mm_S_storms_j55 N this a1 a2 a3 a4 h_55 = some (rr, hh) → ss_R G h_55 H → va_S (ss_A G) s.heap H locs → lv_has ls 5 [] → ww_S_storms p l e s m below meth c G this a1 a2 a3 a4 h rr hh  H locs 0 0 (F0 m 55 ls []) := by
    intro h_55 H locs ls hm hR hS hl
    refine lv_iconst (v := -1) hx hb dd_S_storms_55 (by decide) ?_
    exact ss_iret hC hr hlocks hR hS hm dd_S_storms_56
  have J_75 : ∀ (s0_75 : Option Nat) (s1_75 : Int32) (s2_75 : Int32) (s3_75 : Int32) (s4_75 : Int32) (h_75 : ss_Hp) (H : Heap) (locs : List Loc) (ls : Array Slot), mm_S_storms_j75 N this a1 a2 a3 a4 s0_75 s1_75 s2_75 s3_75 s4_75 h_75 = some (rr, hh) → ss_R G h_75 H → va_S (ss_A G) s.heap H locs → lv_has ls 5 [] → ww_S_storms p l e s m below meth c G this a1 a2 a3 a4 h rr hh  H locs 0 0 (F0 m 75 ls [.int s4_75, .int s3_75, .int s2_75, .int s1_75, ss_v (ss_b G) s0_75]) := by
    intro s0_75 s1_75 s2_75 s3_75 s4_75 h_75 H locs ls hm hR hS hl
    obtain ⟨v1, h2, qh2, hm⟩ := ss_bind2 hm
    refine ss_cV 0 0 (As := [.int s1_75, .int s2_75, .int s3_75, .int s4_75]) hC hK hR hS hl.1 (cc_F_afterStorms l G N _ _ _ _ _ _ _ _ qh2) km_S_292 (ck_F_afterStorms qh2) ⟨Nat.le_of_ble_eq_true rfl, Nat.le_of_ble_eq_true rfl⟩ ⟨Nat.le_of_ble_eq_true rfl, Nat.le_of_ble_eq_true rfl, Nat.le_of_ble_eq_true rfl, Nat.le_of_ble_eq_true rfl⟩ rfl rfl (Nat.le_of_ble_eq_true rfl) dd_S_storms_75 (fun H locs hR hS => ?_)
    exact ss_iret hC hr hlocks hR hS hm dd_S_storms_78
  refine ss_aload_n hx hb dd_S_storms_0 rfl (lv_at hl 0 rfl) ?_
  obtain ⟨r3, qr3, hm⟩ := ss_bind hm
  refine ss_getr hC hK hR kf_S_41 rfl qr3 dd_S_storms_1 ?_
  obtain ⟨r4, qr4, hm⟩ := ss_bind hm
  refine ss_getr hC hK hR kf_S_58 rfl qr4 dd_S_storms_4 ?_
  obtain ⟨v5, qv5, hm⟩ := ss_bind hm
  refine ss_geti hC hK hR kf_S_169 qv5 dd_S_storms_7 ?_
  refine lv_if_eq (tgt := 33) hx hb dd_S_storms_10 (by decide) (fun c6 => ?_) (fun c6 => ?_)
  · have hm := ss_ift hm c6
    exact J_33 h _ _ _ hm hR hS (lv_sub hl [] rfl)
  · have hm := ss_iff hm c6
    refine lv_iload_n hx hb dd_S_storms_13 rfl (lv_at hl 1 rfl) ?_
    refine lv_iconst (v := 1) hx hb dd_S_storms_14 (by decide) ?_
    refine lv_bipush (v := 10) hx hb dd_S_storms_15 (by decide) ?_
    obtain ⟨v7, qv7, hm⟩ := ss_bind hm
    refine ss_cS 0 0 (As := [.int a1, .int (1 : Int32), .int (10 : Int32)]) hC hK hR hS hl.1 (cc_S_isWithin l G N _ _ _ _ _ qv7) km_S_194 ⟨Nat.le_of_ble_eq_true rfl, Nat.le_of_ble_eq_true rfl⟩ ⟨Nat.le_of_ble_eq_true rfl, Nat.le_of_ble_eq_true rfl, Nat.le_of_ble_eq_true rfl, Nat.le_of_ble_eq_true rfl⟩ rfl rfl (Nat.le_of_ble_eq_true rfl) dd_S_storms_17 (fun H locs hR hS => ?_)
    refine lv_if_eq (tgt := 33) hx hb dd_S_storms_20 (by decide) (fun c8 => ?_) (fun c8 => ?_)
    · have hm := ss_ift hm c8
      exact J_33 h _ _ _ hm hR hS (lv_sub hl [] rfl)
    · have hm := ss_iff hm c8
      refine lv_iload_n hx hb dd_S_storms_23 rfl (lv_at hl 2 rfl) ?_
      refine lv_iconst (v := 1) hx hb dd_S_storms_24 (by decide) ?_
      refine lv_bipush (v := 60) hx hb dd_S_storms_25 (by decide) ?_
      obtain ⟨v9, qv9, hm⟩ := ss_bind hm
      refine ss_cS 0 0 (As := [.int a2, .int (1 : Int32), .int (60 : Int32)]) hC hK hR hS hl.1 (cc_S_isWithin l G N _ _ _ _ _ qv9) km_S_194 ⟨Nat.le_of_ble_eq_true rfl, Nat.le_of_ble_eq_true rfl⟩ ⟨Nat.le_of_ble_eq_true rfl, Nat.le_of_ble_eq_true rfl, Nat.le_of_ble_eq_true rfl, Nat.le_of_ble_eq_true rfl⟩ rfl rfl (Nat.le_of_ble_eq_true rfl) dd_S_storms_27 (fun H locs hR hS => ?_)
      refine lv_if_ne (tgt := 35) hx hb dd_S_storms_30 (by decide) (fun c10 => ?_) (fun c10 => ?_)
      · have hm := ss_iff hm c10
        refine lv_iload_n hx hb dd_S_storms_35 rfl (lv_at hl 3 rfl) ?_
        refine lv_iconst (v := 0) hx hb dd_S_storms_36 (by decide) ?_
        refine lv_bipush (v := 100) hx hb dd_S_storms_37 (by decide) ?_
        obtain ⟨v11, qv11, hm⟩ := ss_bind hm
        refine ss_cS 0 0 (As := [.int a3, .int (0 : Int32), .int (100 : Int32)]) hC hK hR hS hl.1 (cc_S_isWithin l G N _ _ _ _ _ qv11) km_S_194 ⟨Nat.le_of_ble_eq_true rfl, Nat.le_of_ble_eq_true rfl⟩ ⟨Nat.le_of_ble_eq_true rfl, Nat.le_of_ble_eq_true rfl, Nat.le_of_ble_eq_true rfl, Nat.le_of_ble_eq_true rfl⟩ rfl rfl (Nat.le_of_ble_eq_true rfl) dd_S_storms_39 (fun H locs hR hS => ?_)
        refine lv_if_eq (tgt := 55) hx hb dd_S_storms_42 (by decide) (fun c12 => ?_) (fun c12 => ?_)
        · have hm := ss_ift hm c12
          exact J_55 h _ _ _ hm hR hS (lv_sub hl [] rfl)
        · have hm := ss_iff hm c12
          refine lv_iload hx hb dd_S_storms_45 (lv_at hl 4 rfl) ?_
          refine lv_iconst (v := 0) hx hb dd_S_storms_47 (by decide) ?_
          refine lv_iconst (v := 1) hx hb dd_S_storms_48 (by decide) ?_
          obtain ⟨v13, qv13, hm⟩ := ss_bind hm
          refine ss_cS 0 0 (As := [.int a4, .int (0 : Int32), .int (1 : Int32)]) hC hK hR hS hl.1 (cc_S_isWithin l G N _ _ _ _ _ qv13) km_S_194 ⟨Nat.le_of_ble_eq_true rfl, Nat.le_of_ble_eq_true rfl⟩ ⟨Nat.le_of_ble_eq_true rfl, Nat.le_of_ble_eq_true rfl, Nat.le_of_ble_eq_true rfl, Nat.le_of_ble_eq_true rfl⟩ rfl rfl (Nat.le_of_ble_eq_true rfl) dd_S_storms_49 (fun H locs hR hS => ?_)
          refine lv_if_ne (tgt := 57) hx hb dd_S_storms_52 (by decide) (fun c14 => ?_) (fun c14 => ?_)
          · have hm := ss_iff hm c14
            refine ss_aload_n hx hb dd_S_storms_57 rfl (lv_at hl 0 rfl) ?_
            obtain ⟨r15, qr15, hm⟩ := ss_bind hm
            refine ss_getr hC hK hR kf_S_74 rfl qr15 dd_S_storms_58 ?_
            refine lv_iload_n hx hb dd_S_storms_61 rfl (lv_at hl 1 rfl) ?_
            refine lv_iload_n hx hb dd_S_storms_62 rfl (lv_at hl 2 rfl) ?_
            refine lv_iload_n hx hb dd_S_storms_63 rfl (lv_at hl 3 rfl) ?_
            refine lv_iload hx hb dd_S_storms_64 (lv_at hl 4 rfl) ?_
            refine lv_iconst (v := 1) hx hb dd_S_storms_66 (by decide) ?_
            refine lv_icmp_ne (tgt := 74) hx hb dd_S_storms_67 (by decide) (fun c16 => ?_) (fun c16 => ?_)
            · have hm := ss_iff hm c16
              refine lv_iconst (v := 0) hx hb dd_S_storms_74 (by decide) ?_
              exact J_75 r15 a1 a2 a3 (0 : Int32) h _ _ _ hm hR hS (lv_sub hl [] rfl)
            · have hm := ss_ift hm c16
              refine lv_iconst (v := 1) hx hb dd_S_storms_70 (by decide) ?_
              refine lv_goto (tgt := 75) hx hb dd_S_storms_71 (by decide) ?_
              exact J_75 r15 a1 a2 a3 (1 : Int32) h _ _ _ hm hR hS (lv_sub hl [] rfl)
          · have hm := ss_ift hm c14
            exact J_55 h _ _ _ hm hR hS (lv_sub hl [] rfl)
      · have hm := ss_ift hm c10
        exact J_33 h _ _ _ hm hR hS (lv_sub hl [] rfl)
theorem dd_S_count_0 : decode bb_S_count 0 = .ok (.iload_n 1, 1) := by decide +kernel
theorem dd_S_count_1 : decode bb_S_count 1 = .ok (.tableswitch 226 0 14 #[75, 86, 97, 108, 119, 124, 132, 143, 151, 162, 183, 194, 202, 210, 218], 75) := by decide +kernel
theorem dd_S_count_76 : decode bb_S_count 76 = .ok (.aload_n 0, 1) := by decide +kernel
theorem dd_S_count_77 : decode bb_S_count 77 = .ok (.getfield 41, 3) := by decide +kernel
theorem dd_S_count_80 : decode bb_S_count 80 = .ok (.getfield 58, 3) := by decide +kernel
theorem dd_S_count_83 : decode bb_S_count 83 = .ok (.getfield 296, 3) := by decide +kernel
theorem dd_S_count_86 : decode bb_S_count 86 = .ok (.ireturn, 1) := by decide +kernel
theorem dd_S_count_87 : decode bb_S_count 87 = .ok (.aload_n 0, 1) := by decide +kernel
theorem dd_S_count_88 : decode bb_S_count 88 = .ok (.getfield 41, 3) := by decide +kernel
theorem dd_S_count_91 : decode bb_S_count 91 = .ok (.getfield 58, 3) := by decide +kernel
theorem dd_S_count_94 : decode bb_S_count 94 = .ok (.getfield 299, 3) := by decide +kernel
theorem dd_S_count_97 : decode bb_S_count 97 = .ok (.ireturn, 1) := by decide +kernel
theorem dd_S_count_98 : decode bb_S_count 98 = .ok (.aload_n 0, 1) := by decide +kernel
theorem dd_S_count_99 : decode bb_S_count 99 = .ok (.getfield 41, 3) := by decide +kernel
theorem dd_S_count_102 : decode bb_S_count 102 = .ok (.getfield 58, 3) := by decide +kernel
theorem dd_S_count_105 : decode bb_S_count 105 = .ok (.getfield 108, 3) := by decide +kernel
theorem dd_S_count_108 : decode bb_S_count 108 = .ok (.ireturn, 1) := by decide +kernel
theorem dd_S_count_109 : decode bb_S_count 109 = .ok (.aload_n 0, 1) := by decide +kernel
theorem dd_S_count_110 : decode bb_S_count 110 = .ok (.getfield 41, 3) := by decide +kernel
theorem dd_S_count_113 : decode bb_S_count 113 = .ok (.getfield 58, 3) := by decide +kernel
theorem dd_S_count_116 : decode bb_S_count 116 = .ok (.getfield 302, 3) := by decide +kernel
theorem dd_S_count_119 : decode bb_S_count 119 = .ok (.ireturn, 1) := by decide +kernel
theorem dd_S_count_120 : decode bb_S_count 120 = .ok (.aload_n 0, 1) := by decide +kernel
theorem dd_S_count_121 : decode bb_S_count 121 = .ok (.getfield 113, 3) := by decide +kernel
theorem dd_S_count_124 : decode bb_S_count 124 = .ok (.ireturn, 1) := by decide +kernel
theorem dd_S_count_125 : decode bb_S_count 125 = .ok (.aload_n 0, 1) := by decide +kernel
theorem dd_S_count_126 : decode bb_S_count 126 = .ok (.getfield 41, 3) := by decide +kernel
theorem dd_S_count_129 : decode bb_S_count 129 = .ok (.getfield 120, 3) := by decide +kernel
theorem dd_S_count_132 : decode bb_S_count 132 = .ok (.ireturn, 1) := by decide +kernel
theorem dd_S_count_133 : decode bb_S_count 133 = .ok (.aload_n 0, 1) := by decide +kernel
theorem dd_S_count_134 : decode bb_S_count 134 = .ok (.getfield 41, 3) := by decide +kernel
theorem dd_S_count_137 : decode bb_S_count 137 = .ok (.getfield 127, 3) := by decide +kernel
theorem dd_S_count_140 : decode bb_S_count 140 = .ok (.getfield 150, 3) := by decide +kernel
theorem dd_S_count_143 : decode bb_S_count 143 = .ok (.ireturn, 1) := by decide +kernel
theorem dd_S_count_144 : decode bb_S_count 144 = .ok (.aload_n 0, 1) := by decide +kernel
theorem dd_S_count_145 : decode bb_S_count 145 = .ok (.getfield 41, 3) := by decide +kernel
theorem dd_S_count_148 : decode bb_S_count 148 = .ok (.invokevirtual 137, 3) := by decide +kernel
theorem dd_S_count_151 : decode bb_S_count 151 = .ok (.ireturn, 1) := by decide +kernel
theorem dd_S_count_152 : decode bb_S_count 152 = .ok (.aload_n 0, 1) := by decide +kernel
theorem dd_S_count_153 : decode bb_S_count 153 = .ok (.getfield 41, 3) := by decide +kernel
theorem dd_S_count_156 : decode bb_S_count 156 = .ok (.getfield 127, 3) := by decide +kernel
theorem dd_S_count_159 : decode bb_S_count 159 = .ok (.getfield 141, 3) := by decide +kernel
theorem dd_S_count_162 : decode bb_S_count 162 = .ok (.ireturn, 1) := by decide +kernel
theorem dd_S_count_163 : decode bb_S_count 163 = .ok (.aload_n 0, 1) := by decide +kernel
theorem dd_S_count_164 : decode bb_S_count 164 = .ok (.getfield 41, 3) := by decide +kernel
theorem dd_S_count_167 : decode bb_S_count 167 = .ok (.getfield 58, 3) := by decide +kernel
theorem dd_S_count_170 : decode bb_S_count 170 = .ok (.aload_n 0, 1) := by decide +kernel
theorem dd_S_count_171 : decode bb_S_count 171 = .ok (.getfield 41, 3) := by decide +kernel
theorem dd_S_count_174 : decode bb_S_count 174 = .ok (.getfield 127, 3) := by decide +kernel
theorem dd_S_count_177 : decode bb_S_count 177 = .ok (.getfield 150, 3) := by decide +kernel
theorem dd_S_count_180 : decode bb_S_count 180 = .ok (.invokevirtual 153, 3) := by decide +kernel
theorem dd_S_count_183 : decode bb_S_count 183 = .ok (.ireturn, 1) := by decide +kernel
theorem dd_S_count_184 : decode bb_S_count 184 = .ok (.aload_n 0, 1) := by decide +kernel
theorem dd_S_count_185 : decode bb_S_count 185 = .ok (.getfield 41, 3) := by decide +kernel
theorem dd_S_count_188 : decode bb_S_count 188 = .ok (.getfield 127, 3) := by decide +kernel
theorem dd_S_count_191 : decode bb_S_count 191 = .ok (.invokevirtual 202, 3) := by decide +kernel
theorem dd_S_count_194 : decode bb_S_count 194 = .ok (.ireturn, 1) := by decide +kernel
theorem dd_S_count_195 : decode bb_S_count 195 = .ok (.aload_n 0, 1) := by decide +kernel
theorem dd_S_count_196 : decode bb_S_count 196 = .ok (.getfield 41, 3) := by decide +kernel
theorem dd_S_count_199 : decode bb_S_count 199 = .ok (.getfield 271, 3) := by decide +kernel
theorem dd_S_count_202 : decode bb_S_count 202 = .ok (.ireturn, 1) := by decide +kernel
theorem dd_S_count_203 : decode bb_S_count 203 = .ok (.aload_n 0, 1) := by decide +kernel
theorem dd_S_count_204 : decode bb_S_count 204 = .ok (.getfield 52, 3) := by decide +kernel
theorem dd_S_count_207 : decode bb_S_count 207 = .ok (.getfield 305, 3) := by decide +kernel
theorem dd_S_count_210 : decode bb_S_count 210 = .ok (.ireturn, 1) := by decide +kernel
theorem dd_S_count_211 : decode bb_S_count 211 = .ok (.aload_n 0, 1) := by decide +kernel
theorem dd_S_count_212 : decode bb_S_count 212 = .ok (.getfield 41, 3) := by decide +kernel
theorem dd_S_count_215 : decode bb_S_count 215 = .ok (.getfield 289, 3) := by decide +kernel
theorem dd_S_count_218 : decode bb_S_count 218 = .ok (.ireturn, 1) := by decide +kernel
theorem dd_S_count_219 : decode bb_S_count 219 = .ok (.aload_n 0, 1) := by decide +kernel
theorem dd_S_count_220 : decode bb_S_count 220 = .ok (.getfield 10, 3) := by decide +kernel
theorem dd_S_count_223 : decode bb_S_count 223 = .ok (.getfield 87, 3) := by decide +kernel
theorem dd_S_count_226 : decode bb_S_count 226 = .ok (.ireturn, 1) := by decide +kernel
theorem dd_S_count_227 : decode bb_S_count 227 = .ok (.iconst (-1), 1) := by decide +kernel
theorem dd_S_count_228 : decode bb_S_count 228 = .ok (.ireturn, 1) := by decide +kernel
def mm_S_count (N : Nat) (this : Option Nat) (a1 : Int32) (h : ss_Hp) : Option Int32 :=
  if ss_is h this 11 = true then
    if a1 = (0 : Int32) then
      (ss_gr h this 11 4).bind fun r2 =>
      (ss_gr h r2 8 0).bind fun r3 =>
      (ss_gi h r3 5 1).bind fun v4 =>
      some v4
    else
    if a1 = (1 : Int32) then
      (ss_gr h this 11 4).bind fun r6 =>
      (ss_gr h r6 8 0).bind fun r7 =>
      (ss_gi h r7 5 2).bind fun v8 =>
      some v8
    else
    if a1 = (2 : Int32) then
      (ss_gr h this 11 4).bind fun r10 =>
      (ss_gr h r10 8 0).bind fun r11 =>
      (ss_gi h r11 5 3).bind fun v12 =>
      some v12
    else
    if a1 = (3 : Int32) then
      (ss_gr h this 11 4).bind fun r14 =>
      (ss_gr h r14 8 0).bind fun r15 =>
      (ss_gi h r15 5 4).bind fun v16 =>
      some v16
    else
    if a1 = (4 : Int32) then
      (ss_gi h this 11 0).bind fun v18 =>
      some v18
    else
    if a1 = (5 : Int32) then
      (ss_gr h this 11 4).bind fun r20 =>
      (ss_gi h r20 8 0).bind fun v21 =>
      some v21
    else
    if a1 = (6 : Int32) then
      (ss_gr h this 11 4).bind fun r23 =>
      (ss_gr h r23 8 1).bind fun r24 =>
      (ss_gi h r24 0 3).bind fun v25 =>
      some v25
    else
    if a1 = (7 : Int32) then
      (ss_gr h this 11 4).bind fun r27 =>
      (mm_Wo_closedBits N r27 h).bind fun v28 =>
      some v28
    else
    if a1 = (8 : Int32) then
      (ss_gr h this 11 4).bind fun r30 =>
      (ss_gr h r30 8 1).bind fun r31 =>
      (ss_gi h r31 0 0).bind fun v32 =>
      some v32
    else
    if a1 = (9 : Int32) then
      (ss_gr h this 11 4).bind fun r34 =>
      (ss_gr h r34 8 0).bind fun r35 =>
      (ss_gr h this 11 4).bind fun r36 =>
      (ss_gr h r36 8 1).bind fun r37 =>
      (ss_gi h r37 0 3).bind fun v38 =>
      (mm_V_neededBits N r35 v38 h).bind fun v39 =>
      some v39
    else
    if a1 = (10 : Int32) then
      (ss_gr h this 11 4).bind fun r41 =>
      (ss_gr h r41 8 1).bind fun r42 =>
      (mm_G_snowOfAll N r42 h).bind fun v43 =>
      some v43
    else
    if a1 = (11 : Int32) then
      (ss_gr h this 11 4).bind fun r45 =>
      (ss_gi h r45 8 2).bind fun v46 =>
      some v46
    else
    if a1 = (12 : Int32) then
      (ss_gr h this 11 6).bind fun r48 =>
      (ss_gi h r48 3 1).bind fun v49 =>
      some v49
    else
    if a1 = (13 : Int32) then
      (ss_gr h this 11 4).bind fun r51 =>
      (ss_gi h r51 8 1).bind fun v52 =>
      some v52
    else
    if a1 = (14 : Int32) then
      (ss_gr h this 11 0).bind fun r54 =>
      (ss_gi h r54 2 0).bind fun v55 =>
      some v55
    else
    some (-1 : Int32)
  else none
abbrev ww_S_count (p : Program) (l : Launch) (e : Env) (s : State) (m : MethodId) (below : List Frame) (meth : Method) (c : Code) (G : ss_G) (this : Option Nat) (a1 : Int32) (h : ss_Hp) (rr : Int32) (H : Heap) (locs : List Loc) (k n : Nat) (g : JFrame) : Prop := W p l e (headSpec (ss_w yy_S_count bb_S_count 2 (some (.int))) ({ frames := 2, cells := 0, slots := 0, locals := 45 })).room s m ([ss_v (ss_b G) this, .int a1] : List Value).toArray below meth c H locs k n (MQ below (ss_Qc G (some (.int rr)) h) ([ss_v (ss_b G) this, .int a1] : List Value).toArray s 0 0 (ss_A G)) g
theorem ck_S_count {N : Nat} {this : Option Nat} {a1 : Int32} {h : ss_Hp} {res : Int32} (hm : mm_S_count N this a1 h = some res) : ss_is h this 11 = true := (ss_chk hm).1
set_option maxHeartbeats 4000000 in
set_option maxRecDepth 100000 in
theorem cc_S_count (l : Launch) (G : ss_G) (N : Nat) (this : Option Nat) (a1 : Int32) (h : ss_Hp) (rr : Int32) (hm : mm_S_count N this a1 h = some rr) : ss_Ct l G yy_S_count bb_S_count 2 (some (.int)) ({ frames := 2, cells := 0, slots := 0, locals := 45 }) [ss_v (ss_b G) this, .int a1] h (some (.int rr)) h := by
  obtain ⟨hck, hm⟩ := ss_chk hm
  refine Met.ofW (cc := bb_S_count) (maxL := 2) (ret := (some (.int))) (by decide) rfl ?_
  intro p e s m args below meth c s₁ B hml hv
  obtain ⟨rfl, hR, hK⟩ := hv
  have hC : CallFix p m c bb_S_count 2 s _ lw_g sR_11 := ⟨B.exec, B.bytes, hml, findClass_of_methodNamed B.named, fun w hw => atoms_spec (ws := ss_w yy_S_count bb_S_count 2 (some (.int))) B.pre w (List.mem_cons_of_mem _ hw)⟩
  have hx := hC.1
  have hb := hC.2.1
  have hr := B.returns
  have hlocks := B.notSynchronized
  have hS : va_S (ss_A G) s.heap s.heap [] := va_S.rf
  have hl := lv_entry ([ss_v (ss_b G) this, .int a1]) (n := 2) (by simp [lg_sl, ss_v_cat, ss_cat_i, ss_cat_l, ss_cat_r])
  rw [lg_entry_eq]
  generalize (lg_sl ([ss_v (ss_b G) this, .int a1]) ++ List.replicate (2 - (lg_sl ([ss_v (ss_b G) this, .int a1])).length) Slot.unset).toArray = ls at hl ⊢
  have hl : lv_has ls 2 [(0, ss_v (ss_b G) this), (1, .int a1)] := by simpa [lv_args, ss_v_cat, ss_cat_i, ss_cat_l, ss_cat_r] using hl
  refine lv_iload_n hx hb dd_S_count_0 rfl (lv_at hl 1 rfl) ?_
  by_cases c1 : a1 = (0 : Int32)
  · have hm := ss_ift hm c1
    refine lv_tableIn (tgt := 76) hx hb dd_S_count_1 (by rw [c1]; decide) (by rw [c1]; decide) (by rw [c1]; rfl) (by decide) ?_
    refine ss_aload_n hx hb dd_S_count_76 rfl (lv_at hl 0 rfl) ?_
    obtain ⟨r2, qr2, hm⟩ := ss_bind hm
    refine ss_getr hC hK hR kf_S_41 rfl qr2 dd_S_count_77 ?_
    obtain ⟨r3, qr3, hm⟩ := ss_bind hm
    refine ss_getr hC hK hR kf_S_58 rfl qr3 dd_S_count_80 ?_
    obtain ⟨v4, qv4, hm⟩ := ss_bind hm
    refine ss_geti hC hK hR kf_S_296 qv4 dd_S_count_83 ?_
    exact ss_iret hC hr hlocks hR hS (ss_with _ hm) dd_S_count_86
  have hm := ss_iff hm c1
  by_cases c5 : a1 = (1 : Int32)
  · have hm := ss_ift hm c5
    refine lv_tableIn (tgt := 87) hx hb dd_S_count_1 (by rw [c5]; decide) (by rw [c5]; decide) (by rw [c5]; rfl) (by decide) ?_
    refine ss_aload_n hx hb dd_S_count_87 rfl (lv_at hl 0 rfl) ?_
    obtain ⟨r6, qr6, hm⟩ := ss_bind hm
    refine ss_getr hC hK hR kf_S_41 rfl qr6 dd_S_count_88 ?_
    obtain ⟨r7, qr7, hm⟩ := ss_bind hm
    refine ss_getr hC hK hR kf_S_58 rfl qr7 dd_S_count_91 ?_
    obtain ⟨v8, qv8, hm⟩ := ss_bind hm
    refine ss_geti hC hK hR kf_S_299 qv8 dd_S_count_94 ?_
    exact ss_iret hC hr hlocks hR hS (ss_with _ hm) dd_S_count_97
  have hm := ss_iff hm c5
  by_cases c9 : a1 = (2 : Int32)
  · have hm := ss_ift hm c9
    refine lv_tableIn (tgt := 98) hx hb dd_S_count_1 (by rw [c9]; decide) (by rw [c9]; decide) (by rw [c9]; rfl) (by decide) ?_
    refine ss_aload_n hx hb dd_S_count_98 rfl (lv_at hl 0 rfl) ?_
    obtain ⟨r10, qr10, hm⟩ := ss_bind hm
    refine ss_getr hC hK hR kf_S_41 rfl qr10 dd_S_count_99 ?_
    obtain ⟨r11, qr11, hm⟩ := ss_bind hm
    refine ss_getr hC hK hR kf_S_58 rfl qr11 dd_S_count_102 ?_
    obtain ⟨v12, qv12, hm⟩ := ss_bind hm
    refine ss_geti hC hK hR kf_S_108 qv12 dd_S_count_105 ?_
    exact ss_iret hC hr hlocks hR hS (ss_with _ hm) dd_S_count_108
  have hm := ss_iff hm c9
  by_cases c13 : a1 = (3 : Int32)
  · have hm := ss_ift hm c13
    refine lv_tableIn (tgt := 109) hx hb dd_S_count_1 (by rw [c13]; decide) (by rw [c13]; decide) (by rw [c13]; rfl) (by decide) ?_
    refine ss_aload_n hx hb dd_S_count_109 rfl (lv_at hl 0 rfl) ?_
    obtain ⟨r14, qr14, hm⟩ := ss_bind hm
    refine ss_getr hC hK hR kf_S_41 rfl qr14 dd_S_count_110 ?_
    obtain ⟨r15, qr15, hm⟩ := ss_bind hm
    refine ss_getr hC hK hR kf_S_58 rfl qr15 dd_S_count_113 ?_
    obtain ⟨v16, qv16, hm⟩ := ss_bind hm
    refine ss_geti hC hK hR kf_S_302 qv16 dd_S_count_116 ?_
    exact ss_iret hC hr hlocks hR hS (ss_with _ hm) dd_S_count_119
  have hm := ss_iff hm c13
  by_cases c17 : a1 = (4 : Int32)
  · have hm := ss_ift hm c17
    refine lv_tableIn (tgt := 120) hx hb dd_S_count_1 (by rw [c17]; decide) (by rw [c17]; decide) (by rw [c17]; rfl) (by decide) ?_
    refine ss_aload_n hx hb dd_S_count_120 rfl (lv_at hl 0 rfl) ?_
    obtain ⟨v18, qv18, hm⟩ := ss_bind hm
    refine ss_geti hC hK hR kf_S_113 qv18 dd_S_count_121 ?_
    exact ss_iret hC hr hlocks hR hS (ss_with _ hm) dd_S_count_124
  have hm := ss_iff hm c17
  by_cases c19 : a1 = (5 : Int32)
  · have hm := ss_ift hm c19
    refine lv_tableIn (tgt := 125) hx hb dd_S_count_1 (by rw [c19]; decide) (by rw [c19]; decide) (by rw [c19]; rfl) (by decide) ?_
    refine ss_aload_n hx hb dd_S_count_125 rfl (lv_at hl 0 rfl) ?_
    obtain ⟨r20, qr20, hm⟩ := ss_bind hm
    refine ss_getr hC hK hR kf_S_41 rfl qr20 dd_S_count_126 ?_
    obtain ⟨v21, qv21, hm⟩ := ss_bind hm
    refine ss_geti hC hK hR kf_S_120 qv21 dd_S_count_129 ?_
    exact ss_iret hC hr hlocks hR hS (ss_with _ hm) dd_S_count_132
  have hm := ss_iff hm c19
  by_cases c22 : a1 = (6 : Int32)
  · have hm := ss_ift hm c22
    refine lv_tableIn (tgt := 133) hx hb dd_S_count_1 (by rw [c22]; decide) (by rw [c22]; decide) (by rw [c22]; rfl) (by decide) ?_
    refine ss_aload_n hx hb dd_S_count_133 rfl (lv_at hl 0 rfl) ?_
    obtain ⟨r23, qr23, hm⟩ := ss_bind hm
    refine ss_getr hC hK hR kf_S_41 rfl qr23 dd_S_count_134 ?_
    obtain ⟨r24, qr24, hm⟩ := ss_bind hm
    refine ss_getr hC hK hR kf_S_127 rfl qr24 dd_S_count_137 ?_
    obtain ⟨v25, qv25, hm⟩ := ss_bind hm
    refine ss_geti hC hK hR kf_S_150 qv25 dd_S_count_140 ?_
    exact ss_iret hC hr hlocks hR hS (ss_with _ hm) dd_S_count_143
  have hm := ss_iff hm c22
  by_cases c26 : a1 = (7 : Int32)
  · have hm := ss_ift hm c26
    refine lv_tableIn (tgt := 144) hx hb dd_S_count_1 (by rw [c26]; decide) (by rw [c26]; decide) (by rw [c26]; rfl) (by decide) ?_
    refine ss_aload_n hx hb dd_S_count_144 rfl (lv_at hl 0 rfl) ?_
    obtain ⟨r27, qr27, hm⟩ := ss_bind hm
    refine ss_getr hC hK hR kf_S_41 rfl qr27 dd_S_count_145 ?_
    obtain ⟨v28, qv28, hm⟩ := ss_bind hm
    refine ss_cV 0 0 (As := []) hC hK hR hS hl.1 (cc_Wo_closedBits l G N _ _ _ qv28) km_S_137 (ck_Wo_closedBits qv28) ⟨Nat.le_of_ble_eq_true rfl, Nat.le_of_ble_eq_true rfl⟩ ⟨Nat.le_of_ble_eq_true rfl, Nat.le_of_ble_eq_true rfl, Nat.le_of_ble_eq_true rfl, Nat.le_of_ble_eq_true rfl⟩ rfl rfl (Nat.le_of_ble_eq_true rfl) dd_S_count_148 (fun H locs hR hS => ?_)
    exact ss_iret hC hr hlocks hR hS (ss_with _ hm) dd_S_count_151
  have hm := ss_iff hm c26
  by_cases c29 : a1 = (8 : Int32)
  · have hm := ss_ift hm c29
    refine lv_tableIn (tgt := 152) hx hb dd_S_count_1 (by rw [c29]; decide) (by rw [c29]; decide) (by rw [c29]; rfl) (by decide) ?_
    refine ss_aload_n hx hb dd_S_count_152 rfl (lv_at hl 0 rfl) ?_
    obtain ⟨r30, qr30, hm⟩ := ss_bind hm
    refine ss_getr hC hK hR kf_S_41 rfl qr30 dd_S_count_153 ?_
    obtain ⟨r31, qr31, hm⟩ := ss_bind hm
    refine ss_getr hC hK hR kf_S_127 rfl qr31 dd_S_count_156 ?_
    obtain ⟨v32, qv32, hm⟩ := ss_bind hm
    refine ss_geti hC hK hR kf_S_141 qv32 dd_S_count_159 ?_
    exact ss_iret hC hr hlocks hR hS (ss_with _ hm) dd_S_count_162
  have hm := ss_iff hm c29
  by_cases c33 : a1 = (9 : Int32)
  · have hm := ss_ift hm c33
    refine lv_tableIn (tgt := 163) hx hb dd_S_count_1 (by rw [c33]; decide) (by rw [c33]; decide) (by rw [c33]; rfl) (by decide) ?_
    refine ss_aload_n hx hb dd_S_count_163 rfl (lv_at hl 0 rfl) ?_
    obtain ⟨r34, qr34, hm⟩ := ss_bind hm
    refine ss_getr hC hK hR kf_S_41 rfl qr34 dd_S_count_164 ?_
    obtain ⟨r35, qr35, hm⟩ := ss_bind hm
    refine ss_getr hC hK hR kf_S_58 rfl qr35 dd_S_count_167 ?_
    refine ss_aload_n hx hb dd_S_count_170 rfl (lv_at hl 0 rfl) ?_
    obtain ⟨r36, qr36, hm⟩ := ss_bind hm
    refine ss_getr hC hK hR kf_S_41 rfl qr36 dd_S_count_171 ?_
    obtain ⟨r37, qr37, hm⟩ := ss_bind hm
    refine ss_getr hC hK hR kf_S_127 rfl qr37 dd_S_count_174 ?_
    obtain ⟨v38, qv38, hm⟩ := ss_bind hm
    refine ss_geti hC hK hR kf_S_150 qv38 dd_S_count_177 ?_
    obtain ⟨v39, qv39, hm⟩ := ss_bind hm
    refine ss_cV 0 0 (As := [.int v38]) hC hK hR hS hl.1 (cc_V_neededBits l G N _ _ _ _ qv39) km_S_153 (ck_V_neededBits qv39) ⟨Nat.le_of_ble_eq_true rfl, Nat.le_of_ble_eq_true rfl⟩ ⟨Nat.le_of_ble_eq_true rfl, Nat.le_of_ble_eq_true rfl, Nat.le_of_ble_eq_true rfl, Nat.le_of_ble_eq_true rfl⟩ rfl rfl (Nat.le_of_ble_eq_true rfl) dd_S_count_180 (fun H locs hR hS => ?_)
    exact ss_iret hC hr hlocks hR hS (ss_with _ hm) dd_S_count_183
  have hm := ss_iff hm c33
  by_cases c40 : a1 = (10 : Int32)
  · have hm := ss_ift hm c40
    refine lv_tableIn (tgt := 184) hx hb dd_S_count_1 (by rw [c40]; decide) (by rw [c40]; decide) (by rw [c40]; rfl) (by decide) ?_
    refine ss_aload_n hx hb dd_S_count_184 rfl (lv_at hl 0 rfl) ?_
    obtain ⟨r41, qr41, hm⟩ := ss_bind hm
    refine ss_getr hC hK hR kf_S_41 rfl qr41 dd_S_count_185 ?_
    obtain ⟨r42, qr42, hm⟩ := ss_bind hm
    refine ss_getr hC hK hR kf_S_127 rfl qr42 dd_S_count_188 ?_
    obtain ⟨v43, qv43, hm⟩ := ss_bind hm
    refine ss_cV 0 0 (As := []) hC hK hR hS hl.1 (cc_G_snowOfAll l G N _ _ _ qv43) km_S_202 (ck_G_snowOfAll qv43) ⟨Nat.le_of_ble_eq_true rfl, Nat.le_of_ble_eq_true rfl⟩ ⟨Nat.le_of_ble_eq_true rfl, Nat.le_of_ble_eq_true rfl, Nat.le_of_ble_eq_true rfl, Nat.le_of_ble_eq_true rfl⟩ rfl rfl (Nat.le_of_ble_eq_true rfl) dd_S_count_191 (fun H locs hR hS => ?_)
    exact ss_iret hC hr hlocks hR hS (ss_with _ hm) dd_S_count_194
  have hm := ss_iff hm c40
  by_cases c44 : a1 = (11 : Int32)
  · have hm := ss_ift hm c44
    refine lv_tableIn (tgt := 195) hx hb dd_S_count_1 (by rw [c44]; decide) (by rw [c44]; decide) (by rw [c44]; rfl) (by decide) ?_
    refine ss_aload_n hx hb dd_S_count_195 rfl (lv_at hl 0 rfl) ?_
    obtain ⟨r45, qr45, hm⟩ := ss_bind hm
    refine ss_getr hC hK hR kf_S_41 rfl qr45 dd_S_count_196 ?_
    obtain ⟨v46, qv46, hm⟩ := ss_bind hm
    refine ss_geti hC hK hR kf_S_271 qv46 dd_S_count_199 ?_
    exact ss_iret hC hr hlocks hR hS (ss_with _ hm) dd_S_count_202
  have hm := ss_iff hm c44
  by_cases c47 : a1 = (12 : Int32)
  · have hm := ss_ift hm c47
    refine lv_tableIn (tgt := 203) hx hb dd_S_count_1 (by rw [c47]; decide) (by rw [c47]; decide) (by rw [c47]; rfl) (by decide) ?_
    refine ss_aload_n hx hb dd_S_count_203 rfl (lv_at hl 0 rfl) ?_
    obtain ⟨r48, qr48, hm⟩ := ss_bind hm
    refine ss_getr hC hK hR kf_S_52 rfl qr48 dd_S_count_204 ?_
    obtain ⟨v49, qv49, hm⟩ := ss_bind hm
    refine ss_geti hC hK hR kf_S_305 qv49 dd_S_count_207 ?_
    exact ss_iret hC hr hlocks hR hS (ss_with _ hm) dd_S_count_210
  have hm := ss_iff hm c47
  by_cases c50 : a1 = (13 : Int32)
  · have hm := ss_ift hm c50
    refine lv_tableIn (tgt := 211) hx hb dd_S_count_1 (by rw [c50]; decide) (by rw [c50]; decide) (by rw [c50]; rfl) (by decide) ?_
    refine ss_aload_n hx hb dd_S_count_211 rfl (lv_at hl 0 rfl) ?_
    obtain ⟨r51, qr51, hm⟩ := ss_bind hm
    refine ss_getr hC hK hR kf_S_41 rfl qr51 dd_S_count_212 ?_
    obtain ⟨v52, qv52, hm⟩ := ss_bind hm
    refine ss_geti hC hK hR kf_S_289 qv52 dd_S_count_215 ?_
    exact ss_iret hC hr hlocks hR hS (ss_with _ hm) dd_S_count_218
  have hm := ss_iff hm c50
  by_cases c53 : a1 = (14 : Int32)
  · have hm := ss_ift hm c53
    refine lv_tableIn (tgt := 219) hx hb dd_S_count_1 (by rw [c53]; decide) (by rw [c53]; decide) (by rw [c53]; rfl) (by decide) ?_
    refine ss_aload_n hx hb dd_S_count_219 rfl (lv_at hl 0 rfl) ?_
    obtain ⟨r54, qr54, hm⟩ := ss_bind hm
    refine ss_getr hC hK hR kf_S_10 rfl qr54 dd_S_count_220 ?_
    obtain ⟨v55, qv55, hm⟩ := ss_bind hm
    refine ss_geti hC hK hR kf_S_87 qv55 dd_S_count_223 ?_
    exact ss_iret hC hr hlocks hR hS (ss_with _ hm) dd_S_count_226
  have hm := ss_iff hm c53
  have nc1 := lv_neT (a := 0) c1 (by decide)
  have nc5 := lv_neT (a := 1) c5 (by decide)
  have nc9 := lv_neT (a := 2) c9 (by decide)
  have nc13 := lv_neT (a := 3) c13 (by decide)
  have nc17 := lv_neT (a := 4) c17 (by decide)
  have nc19 := lv_neT (a := 5) c19 (by decide)
  have nc22 := lv_neT (a := 6) c22 (by decide)
  have nc26 := lv_neT (a := 7) c26 (by decide)
  have nc29 := lv_neT (a := 8) c29 (by decide)
  have nc33 := lv_neT (a := 9) c33 (by decide)
  have nc40 := lv_neT (a := 10) c40 (by decide)
  have nc44 := lv_neT (a := 11) c44 (by decide)
  have nc47 := lv_neT (a := 12) c47 (by decide)
  have nc50 := lv_neT (a := 13) c50 (by decide)
  have nc53 := lv_neT (a := 14) c53 (by decide)
  refine lv_tableOut (tgt := 227) hx hb dd_S_count_1 (by omega) (by decide) ?_
  refine lv_iconst (v := -1) hx hb dd_S_count_227 (by decide) ?_
  exact ss_iret hC hr hlocks hR hS (ss_with _ hm) dd_S_count_228
theorem dd_Wo_copyFrom_0 : decode bb_Wo_copyFrom 0 = .ok (.aload_n 0, 1) := by decide +kernel
theorem dd_Wo_copyFrom_1 : decode bb_Wo_copyFrom 1 = .ok (.getfield 12, 3) := by decide +kernel
theorem dd_Wo_copyFrom_4 : decode bb_Wo_copyFrom 4 = .ok (.aload_n 1, 1) := by decide +kernel
theorem dd_Wo_copyFrom_5 : decode bb_Wo_copyFrom 5 = .ok (.getfield 12, 3) := by decide +kernel
theorem dd_Wo_copyFrom_8 : decode bb_Wo_copyFrom 8 = .ok (.invokevirtual 39, 3) := by decide +kernel
theorem dd_Wo_copyFrom_11 : decode bb_Wo_copyFrom 11 = .ok (.aload_n 0, 1) := by decide +kernel
theorem dd_Wo_copyFrom_12 : decode bb_Wo_copyFrom 12 = .ok (.getfield 21, 3) := by decide +kernel
theorem dd_Wo_copyFrom_15 : decode bb_Wo_copyFrom 15 = .ok (.aload_n 1, 1) := by decide +kernel
theorem dd_Wo_copyFrom_16 : decode bb_Wo_copyFrom 16 = .ok (.getfield 21, 3) := by decide +kernel
theorem dd_Wo_copyFrom_19 : decode bb_Wo_copyFrom 19 = .ok (.invokevirtual 46, 3) := by decide +kernel
theorem dd_Wo_copyFrom_22 : decode bb_Wo_copyFrom 22 = .ok (.aload_n 0, 1) := by decide +kernel
theorem dd_Wo_copyFrom_23 : decode bb_Wo_copyFrom 23 = .ok (.aload_n 1, 1) := by decide +kernel
theorem dd_Wo_copyFrom_24 : decode bb_Wo_copyFrom 24 = .ok (.getfield 25, 3) := by decide +kernel
theorem dd_Wo_copyFrom_27 : decode bb_Wo_copyFrom 27 = .ok (.putfield 25, 3) := by decide +kernel
theorem dd_Wo_copyFrom_30 : decode bb_Wo_copyFrom 30 = .ok (.aload_n 0, 1) := by decide +kernel
theorem dd_Wo_copyFrom_31 : decode bb_Wo_copyFrom 31 = .ok (.aload_n 1, 1) := by decide +kernel
theorem dd_Wo_copyFrom_32 : decode bb_Wo_copyFrom 32 = .ok (.getfield 52, 3) := by decide +kernel
theorem dd_Wo_copyFrom_35 : decode bb_Wo_copyFrom 35 = .ok (.putfield 52, 3) := by decide +kernel
theorem dd_Wo_copyFrom_38 : decode bb_Wo_copyFrom 38 = .ok (.aload_n 0, 1) := by decide +kernel
theorem dd_Wo_copyFrom_39 : decode bb_Wo_copyFrom 39 = .ok (.aload_n 1, 1) := by decide +kernel
theorem dd_Wo_copyFrom_40 : decode bb_Wo_copyFrom 40 = .ok (.getfield 49, 3) := by decide +kernel
theorem dd_Wo_copyFrom_43 : decode bb_Wo_copyFrom 43 = .ok (.putfield 49, 3) := by decide +kernel
theorem dd_Wo_copyFrom_46 : decode bb_Wo_copyFrom 46 = .ok (.aload_n 1, 1) := by decide +kernel
theorem dd_Wo_copyFrom_47 : decode bb_Wo_copyFrom 47 = .ok (.getfield 29, 3) := by decide +kernel
theorem dd_Wo_copyFrom_50 : decode bb_Wo_copyFrom 50 = .ok (.iconst 0, 1) := by decide +kernel
theorem dd_Wo_copyFrom_51 : decode bb_Wo_copyFrom 51 = .ok (.aload_n 0, 1) := by decide +kernel
theorem dd_Wo_copyFrom_52 : decode bb_Wo_copyFrom 52 = .ok (.getfield 29, 3) := by decide +kernel
theorem dd_Wo_copyFrom_55 : decode bb_Wo_copyFrom 55 = .ok (.iconst 0, 1) := by decide +kernel
theorem dd_Wo_copyFrom_56 : decode bb_Wo_copyFrom 56 = .ok (.bipush 10, 2) := by decide +kernel
theorem dd_Wo_copyFrom_58 : decode bb_Wo_copyFrom 58 = .ok (.invokestatic 55, 3) := by decide +kernel
theorem dd_Wo_copyFrom_61 : decode bb_Wo_copyFrom 61 = .ok (.aload_n 1, 1) := by decide +kernel
theorem dd_Wo_copyFrom_62 : decode bb_Wo_copyFrom 62 = .ok (.getfield 33, 3) := by decide +kernel
theorem dd_Wo_copyFrom_65 : decode bb_Wo_copyFrom 65 = .ok (.iconst 0, 1) := by decide +kernel
theorem dd_Wo_copyFrom_66 : decode bb_Wo_copyFrom 66 = .ok (.aload_n 0, 1) := by decide +kernel
theorem dd_Wo_copyFrom_67 : decode bb_Wo_copyFrom 67 = .ok (.getfield 33, 3) := by decide +kernel
theorem dd_Wo_copyFrom_70 : decode bb_Wo_copyFrom 70 = .ok (.iconst 0, 1) := by decide +kernel
theorem dd_Wo_copyFrom_71 : decode bb_Wo_copyFrom 71 = .ok (.bipush 10, 2) := by decide +kernel
theorem dd_Wo_copyFrom_73 : decode bb_Wo_copyFrom 73 = .ok (.invokestatic 55, 3) := by decide +kernel
theorem dd_Wo_copyFrom_76 : decode bb_Wo_copyFrom 76 = .ok (.aload_n 1, 1) := by decide +kernel
theorem dd_Wo_copyFrom_77 : decode bb_Wo_copyFrom 77 = .ok (.getfield 36, 3) := by decide +kernel
theorem dd_Wo_copyFrom_80 : decode bb_Wo_copyFrom 80 = .ok (.iconst 0, 1) := by decide +kernel
theorem dd_Wo_copyFrom_81 : decode bb_Wo_copyFrom 81 = .ok (.aload_n 0, 1) := by decide +kernel
theorem dd_Wo_copyFrom_82 : decode bb_Wo_copyFrom 82 = .ok (.getfield 36, 3) := by decide +kernel
theorem dd_Wo_copyFrom_85 : decode bb_Wo_copyFrom 85 = .ok (.iconst 0, 1) := by decide +kernel
theorem dd_Wo_copyFrom_86 : decode bb_Wo_copyFrom 86 = .ok (.bipush 10, 2) := by decide +kernel
theorem dd_Wo_copyFrom_88 : decode bb_Wo_copyFrom 88 = .ok (.invokestatic 55, 3) := by decide +kernel
theorem dd_Wo_copyFrom_91 : decode bb_Wo_copyFrom 91 = .ok (.return_, 1) := by decide +kernel
def mm_Wo_copyFrom (N : Nat) (this : Option Nat) (a1 : Option Nat) (h : ss_Hp) : Option ss_Hp :=
  if ss_is h this 8 = true then
    (ss_gr h this 8 0).bind fun r1 =>
    (ss_gr h a1 8 0).bind fun r2 =>
    (mm_V_copyFrom N r1 r2 h).bind fun h3 =>
    (ss_gr h3 this 8 1).bind fun r4 =>
    (ss_gr h3 a1 8 1).bind fun r5 =>
    (mm_G_copyFrom N r4 r5 h3).bind fun h6 =>
    (ss_gi h6 a1 8 0).bind fun v7 =>
    (ss_pi h6 this 8 0 v7).bind fun h8 =>
    (ss_gi h8 a1 8 1).bind fun v9 =>
    (ss_pi h8 this 8 1 v9).bind fun h10 =>
    (ss_gi h10 a1 8 2).bind fun v11 =>
    (ss_pi h10 this 8 2 v11).bind fun h12 =>
    (ss_gr h12 a1 8 2).bind fun r13 =>
    (ss_gr h12 this 8 2).bind fun r14 =>
    (ss_cp h12 r13 (0 : Int32) r14 (0 : Int32) (10 : Int32)).bind fun h15 =>
    (ss_gr h15 a1 8 3).bind fun r16 =>
    (ss_gr h15 this 8 3).bind fun r17 =>
    (ss_cp h15 r16 (0 : Int32) r17 (0 : Int32) (10 : Int32)).bind fun h18 =>
    (ss_gr h18 a1 8 4).bind fun r19 =>
    (ss_gr h18 this 8 4).bind fun r20 =>
    (ss_cp h18 r19 (0 : Int32) r20 (0 : Int32) (10 : Int32)).bind fun h21 =>
    some h21
  else none
abbrev ww_Wo_copyFrom (p : Program) (l : Launch) (e : Env) (s : State) (m : MethodId) (below : List Frame) (meth : Method) (c : Code) (G : ss_G) (this : Option Nat) (a1 : Option Nat) (h : ss_Hp) (hh : ss_Hp) (H : Heap) (locs : List Loc) (k n : Nat) (g : JFrame) : Prop := W p l e (headSpec (ss_w yy_Wo_copyFrom bb_Wo_copyFrom 2 none) ({ frames := 3, cells := 0, slots := 0, locals := 122 })).room s m ([ss_v (ss_b G) this, ss_v (ss_b G) a1] : List Value).toArray below meth c H locs k n (MQ below (ss_Qc G none hh) ([ss_v (ss_b G) this, ss_v (ss_b G) a1] : List Value).toArray s 0 0 (ss_A G)) g
theorem ck_Wo_copyFrom {N : Nat} {this : Option Nat} {a1 : Option Nat} {h : ss_Hp} {res : ss_Hp} (hm : mm_Wo_copyFrom N this a1 h = some res) : ss_is h this 8 = true := (ss_chk hm).1
set_option maxHeartbeats 4000000 in
set_option maxRecDepth 100000 in
theorem cc_Wo_copyFrom (l : Launch) (G : ss_G) (N : Nat) (this : Option Nat) (a1 : Option Nat) (h : ss_Hp) (hh : ss_Hp) (hm : mm_Wo_copyFrom N this a1 h = some hh) : ss_Ct l G yy_Wo_copyFrom bb_Wo_copyFrom 2 none ({ frames := 3, cells := 0, slots := 0, locals := 122 }) [ss_v (ss_b G) this, ss_v (ss_b G) a1] h none hh := by
  obtain ⟨hck, hm⟩ := ss_chk hm
  refine Met.ofW (cc := bb_Wo_copyFrom) (maxL := 2) (ret := none) (by decide) rfl ?_
  intro p e s m args below meth c s₁ B hml hv
  obtain ⟨rfl, hR, hK⟩ := hv
  have hC : CallFix p m c bb_Wo_copyFrom 2 s _ lw_g sR_8 := ⟨B.exec, B.bytes, hml, findClass_of_methodNamed B.named, fun w hw => atoms_spec (ws := ss_w yy_Wo_copyFrom bb_Wo_copyFrom 2 none) B.pre w (List.mem_cons_of_mem _ hw)⟩
  have hx := hC.1
  have hb := hC.2.1
  have hr := B.returns
  have hlocks := B.notSynchronized
  have hS : va_S (ss_A G) s.heap s.heap [] := va_S.rf
  have hl := lv_entry ([ss_v (ss_b G) this, ss_v (ss_b G) a1]) (n := 2) (by simp [lg_sl, ss_v_cat, ss_cat_i, ss_cat_l, ss_cat_r])
  rw [lg_entry_eq]
  generalize (lg_sl ([ss_v (ss_b G) this, ss_v (ss_b G) a1]) ++ List.replicate (2 - (lg_sl ([ss_v (ss_b G) this, ss_v (ss_b G) a1])).length) Slot.unset).toArray = ls at hl ⊢
  have hl : lv_has ls 2 [(0, ss_v (ss_b G) this), (1, ss_v (ss_b G) a1)] := by simpa [lv_args, ss_v_cat, ss_cat_i, ss_cat_l, ss_cat_r] using hl
  refine ss_aload_n hx hb dd_Wo_copyFrom_0 rfl (lv_at hl 0 rfl) ?_
  obtain ⟨r1, qr1, hm⟩ := ss_bind hm
  refine ss_getr hC hK hR kf_Wo_12 rfl qr1 dd_Wo_copyFrom_1 ?_
  refine ss_aload_n hx hb dd_Wo_copyFrom_4 rfl (lv_at hl 1 rfl) ?_
  obtain ⟨r2, qr2, hm⟩ := ss_bind hm
  refine ss_getr hC hK hR kf_Wo_12 rfl qr2 dd_Wo_copyFrom_5 ?_
  obtain ⟨h3, qh3, hm⟩ := ss_bind hm
  refine ss_cVv 0 0 (As := [ss_v (ss_b G) r2]) hC hK hR hS hl.1 (cc_V_copyFrom l G N _ _ _ _ qh3) km_Wo_39 (ck_V_copyFrom qh3) ⟨Nat.le_of_ble_eq_true rfl, Nat.le_of_ble_eq_true rfl⟩ ⟨Nat.le_of_ble_eq_true rfl, Nat.le_of_ble_eq_true rfl, Nat.le_of_ble_eq_true rfl, Nat.le_of_ble_eq_true rfl⟩ rfl rfl (Nat.le_of_ble_eq_true rfl) dd_Wo_copyFrom_8 (fun H locs hR hS => ?_)
  refine ss_aload_n hx hb dd_Wo_copyFrom_11 rfl (lv_at hl 0 rfl) ?_
  obtain ⟨r4, qr4, hm⟩ := ss_bind hm
  refine ss_getr hC hK hR kf_Wo_21 rfl qr4 dd_Wo_copyFrom_12 ?_
  refine ss_aload_n hx hb dd_Wo_copyFrom_15 rfl (lv_at hl 1 rfl) ?_
  obtain ⟨r5, qr5, hm⟩ := ss_bind hm
  refine ss_getr hC hK hR kf_Wo_21 rfl qr5 dd_Wo_copyFrom_16 ?_
  obtain ⟨h6, qh6, hm⟩ := ss_bind hm
  refine ss_cVv 0 0 (As := [ss_v (ss_b G) r5]) hC hK hR hS hl.1 (cc_G_copyFrom l G N _ _ _ _ qh6) km_Wo_46 (ck_G_copyFrom qh6) ⟨Nat.le_of_ble_eq_true rfl, Nat.le_of_ble_eq_true rfl⟩ ⟨Nat.le_of_ble_eq_true rfl, Nat.le_of_ble_eq_true rfl, Nat.le_of_ble_eq_true rfl, Nat.le_of_ble_eq_true rfl⟩ rfl rfl (Nat.le_of_ble_eq_true rfl) dd_Wo_copyFrom_19 (fun H locs hR hS => ?_)
  refine ss_aload_n hx hb dd_Wo_copyFrom_22 rfl (lv_at hl 0 rfl) ?_
  refine ss_aload_n hx hb dd_Wo_copyFrom_23 rfl (lv_at hl 1 rfl) ?_
  obtain ⟨v7, qv7, hm⟩ := ss_bind hm
  refine ss_geti hC hK hR kf_Wo_25 qv7 dd_Wo_copyFrom_24 ?_
  obtain ⟨h8, qh8, hm⟩ := ss_bind hm
  refine ss_puti hC hK hR hS kp_Wo_25 qh8 dd_Wo_copyFrom_27 (fun H locs hR hS => ?_)
  refine ss_aload_n hx hb dd_Wo_copyFrom_30 rfl (lv_at hl 0 rfl) ?_
  refine ss_aload_n hx hb dd_Wo_copyFrom_31 rfl (lv_at hl 1 rfl) ?_
  obtain ⟨v9, qv9, hm⟩ := ss_bind hm
  refine ss_geti hC hK hR kf_Wo_52 qv9 dd_Wo_copyFrom_32 ?_
  obtain ⟨h10, qh10, hm⟩ := ss_bind hm
  refine ss_puti hC hK hR hS kp_Wo_52 qh10 dd_Wo_copyFrom_35 (fun H locs hR hS => ?_)
  refine ss_aload_n hx hb dd_Wo_copyFrom_38 rfl (lv_at hl 0 rfl) ?_
  refine ss_aload_n hx hb dd_Wo_copyFrom_39 rfl (lv_at hl 1 rfl) ?_
  obtain ⟨v11, qv11, hm⟩ := ss_bind hm
  refine ss_geti hC hK hR kf_Wo_49 qv11 dd_Wo_copyFrom_40 ?_
  obtain ⟨h12, qh12, hm⟩ := ss_bind hm
  refine ss_puti hC hK hR hS kp_Wo_49 qh12 dd_Wo_copyFrom_43 (fun H locs hR hS => ?_)
  refine ss_aload_n hx hb dd_Wo_copyFrom_46 rfl (lv_at hl 1 rfl) ?_
  obtain ⟨r13, qr13, hm⟩ := ss_bind hm
  refine ss_getr hC hK hR kf_Wo_29 rfl qr13 dd_Wo_copyFrom_47 ?_
  refine lv_iconst (v := 0) hx hb dd_Wo_copyFrom_50 (by decide) ?_
  refine ss_aload_n hx hb dd_Wo_copyFrom_51 rfl (lv_at hl 0 rfl) ?_
  obtain ⟨r14, qr14, hm⟩ := ss_bind hm
  refine ss_getr hC hK hR kf_Wo_29 rfl qr14 dd_Wo_copyFrom_52 ?_
  refine lv_iconst (v := 0) hx hb dd_Wo_copyFrom_55 (by decide) ?_
  refine lv_bipush (v := 10) hx hb dd_Wo_copyFrom_56 (by decide) ?_
  obtain ⟨h15, qh15, hm⟩ := ss_bind hm
  refine ss_copy hC hK hR hS hl.1 kj_Wo_55 kj_ac_n kj_ac_s kj_sys qh15 (Nat.le_of_ble_eq_true rfl) (Nat.le_of_ble_eq_true rfl) (by decide) dd_Wo_copyFrom_58 (fun H locs hR hS => ?_)
  refine ss_aload_n hx hb dd_Wo_copyFrom_61 rfl (lv_at hl 1 rfl) ?_
  obtain ⟨r16, qr16, hm⟩ := ss_bind hm
  refine ss_getr hC hK hR kf_Wo_33 rfl qr16 dd_Wo_copyFrom_62 ?_
  refine lv_iconst (v := 0) hx hb dd_Wo_copyFrom_65 (by decide) ?_
  refine ss_aload_n hx hb dd_Wo_copyFrom_66 rfl (lv_at hl 0 rfl) ?_
  obtain ⟨r17, qr17, hm⟩ := ss_bind hm
  refine ss_getr hC hK hR kf_Wo_33 rfl qr17 dd_Wo_copyFrom_67 ?_
  refine lv_iconst (v := 0) hx hb dd_Wo_copyFrom_70 (by decide) ?_
  refine lv_bipush (v := 10) hx hb dd_Wo_copyFrom_71 (by decide) ?_
  obtain ⟨h18, qh18, hm⟩ := ss_bind hm
  refine ss_copy hC hK hR hS hl.1 kj_Wo_55 kj_ac_n kj_ac_s kj_sys qh18 (Nat.le_of_ble_eq_true rfl) (Nat.le_of_ble_eq_true rfl) (by decide) dd_Wo_copyFrom_73 (fun H locs hR hS => ?_)
  refine ss_aload_n hx hb dd_Wo_copyFrom_76 rfl (lv_at hl 1 rfl) ?_
  obtain ⟨r19, qr19, hm⟩ := ss_bind hm
  refine ss_getr hC hK hR kf_Wo_36 rfl qr19 dd_Wo_copyFrom_77 ?_
  refine lv_iconst (v := 0) hx hb dd_Wo_copyFrom_80 (by decide) ?_
  refine ss_aload_n hx hb dd_Wo_copyFrom_81 rfl (lv_at hl 0 rfl) ?_
  obtain ⟨r20, qr20, hm⟩ := ss_bind hm
  refine ss_getr hC hK hR kf_Wo_36 rfl qr20 dd_Wo_copyFrom_82 ?_
  refine lv_iconst (v := 0) hx hb dd_Wo_copyFrom_85 (by decide) ?_
  refine lv_bipush (v := 10) hx hb dd_Wo_copyFrom_86 (by decide) ?_
  obtain ⟨h21, qh21, hm⟩ := ss_bind hm
  refine ss_copy hC hK hR hS hl.1 kj_Wo_55 kj_ac_n kj_ac_s kj_sys qh21 (Nat.le_of_ble_eq_true rfl) (Nat.le_of_ble_eq_true rfl) (by decide) dd_Wo_copyFrom_88 (fun H locs hR hS => ?_)
  exact ss_vret hC hr hlocks hR hS hm dd_Wo_copyFrom_91
theorem dd_S_image_0 : decode bb_S_image 0 = .ok (.iload_n 1, 1) := by decide +kernel
theorem dd_S_image_1 : decode bb_S_image 1 = .ok (.ifCond .lt 12, 3) := by decide +kernel
theorem dd_S_image_4 : decode bb_S_image 4 = .ok (.iload_n 1, 1) := by decide +kernel
theorem dd_S_image_5 : decode bb_S_image 5 = .ok (.aload_n 0, 1) := by decide +kernel
theorem dd_S_image_6 : decode bb_S_image 6 = .ok (.getfield 45, 3) := by decide +kernel
theorem dd_S_image_9 : decode bb_S_image 9 = .ok (.arraylength, 1) := by decide +kernel
theorem dd_S_image_10 : decode bb_S_image 10 = .ok (.if_icmp .lt 5, 3) := by decide +kernel
theorem dd_S_image_13 : decode bb_S_image 13 = .ok (.iconst (-1), 1) := by decide +kernel
theorem dd_S_image_14 : decode bb_S_image 14 = .ok (.ireturn, 1) := by decide +kernel
theorem dd_S_image_15 : decode bb_S_image 15 = .ok (.aload_n 0, 1) := by decide +kernel
theorem dd_S_image_16 : decode bb_S_image 16 = .ok (.getfield 45, 3) := by decide +kernel
theorem dd_S_image_19 : decode bb_S_image 19 = .ok (.iload_n 1, 1) := by decide +kernel
theorem dd_S_image_20 : decode bb_S_image 20 = .ok (.aaload, 1) := by decide +kernel
theorem dd_S_image_21 : decode bb_S_image 21 = .ok (.ifnonnull 16, 3) := by decide +kernel
theorem dd_S_image_24 : decode bb_S_image 24 = .ok (.aload_n 0, 1) := by decide +kernel
theorem dd_S_image_25 : decode bb_S_image 25 = .ok (.getfield 45, 3) := by decide +kernel
theorem dd_S_image_28 : decode bb_S_image 28 = .ok (.iload_n 1, 1) := by decide +kernel
theorem dd_S_image_29 : decode bb_S_image 29 = .ok (.new 38, 3) := by decide +kernel
theorem dd_S_image_32 : decode bb_S_image 32 = .ok (.dup, 1) := by decide +kernel
theorem dd_S_image_33 : decode bb_S_image 33 = .ok (.invokespecial 40, 3) := by decide +kernel
theorem dd_S_image_36 : decode bb_S_image 36 = .ok (.aastore, 1) := by decide +kernel
theorem dd_S_image_37 : decode bb_S_image 37 = .ok (.aload_n 0, 1) := by decide +kernel
theorem dd_S_image_38 : decode bb_S_image 38 = .ok (.getfield 45, 3) := by decide +kernel
theorem dd_S_image_41 : decode bb_S_image 41 = .ok (.iload_n 1, 1) := by decide +kernel
theorem dd_S_image_42 : decode bb_S_image 42 = .ok (.aaload, 1) := by decide +kernel
theorem dd_S_image_43 : decode bb_S_image 43 = .ok (.aload_n 0, 1) := by decide +kernel
theorem dd_S_image_44 : decode bb_S_image 44 = .ok (.getfield 41, 3) := by decide +kernel
theorem dd_S_image_47 : decode bb_S_image 47 = .ok (.invokevirtual 308, 3) := by decide +kernel
theorem dd_S_image_50 : decode bb_S_image 50 = .ok (.aload_n 0, 1) := by decide +kernel
theorem dd_S_image_51 : decode bb_S_image 51 = .ok (.getfield 41, 3) := by decide +kernel
theorem dd_S_image_54 : decode bb_S_image 54 = .ok (.getfield 127, 3) := by decide +kernel
theorem dd_S_image_57 : decode bb_S_image 57 = .ok (.getfield 150, 3) := by decide +kernel
theorem dd_S_image_60 : decode bb_S_image 60 = .ok (.ireturn, 1) := by decide +kernel
def mm_S_image_j13 (N : Nat) (this : Option Nat) (a1 : Int32) (h_13 : ss_Hp) : Option (Int32 × ss_Hp) :=
  some ((-1 : Int32), h_13)
def mm_S_image_j37 (N : Nat) (this : Option Nat) (a1 : Int32) (h_37 : ss_Hp) : Option (Int32 × ss_Hp) :=
  (ss_gr h_37 this 11 5).bind fun r1 =>
  (ss_ar h_37 r1 26 a1).bind fun r2 =>
  (ss_gr h_37 this 11 4).bind fun r3 =>
  (mm_Wo_copyFrom N r2 r3 h_37).bind fun h4 =>
  (ss_gr h4 this 11 4).bind fun r5 =>
  (ss_gr h4 r5 8 1).bind fun r6 =>
  (ss_gi h4 r6 0 3).bind fun v7 =>
  some (v7, h4)
def mm_S_image (N : Nat) (this : Option Nat) (a1 : Int32) (h : ss_Hp) : Option (Int32 × ss_Hp) :=
  if ss_is h this 11 = true then
    if a1 < 0 then
      mm_S_image_j13 N this a1 h
    else
      (ss_gr h this 11 5).bind fun r9 =>
      (ss_len h r9 26).bind fun v10 =>
      if a1 < v10 then
        (ss_gr h this 11 5).bind fun r12 =>
        (ss_ar h r12 26 a1).bind fun r13 =>
        if r13.isSome = true then
          mm_S_image_j37 N this a1 h
        else
          (ss_gr h this 11 5).bind fun r15 =>
          ss_b2 (ss_no h 8 3 0 5) fun r16 h17 =>
          (mm_Wo_init N r16 h17).bind fun h18 =>
          (ss_ur h18 r15 26 8 a1 r16).bind fun h19 =>
          mm_S_image_j37 N this a1 h19
      else
        mm_S_image_j13 N this a1 h
  else none
abbrev ww_S_image (p : Program) (l : Launch) (e : Env) (s : State) (m : MethodId) (below : List Frame) (meth : Method) (c : Code) (G : ss_G) (this : Option Nat) (a1 : Int32) (h : ss_Hp) (rr : Int32) (hh : ss_Hp) (H : Heap) (locs : List Loc) (k n : Nat) (g : JFrame) : Prop := W p l e (headSpec (ss_w yy_S_image bb_S_image 2 (some (.int))) ({ frames := 4, cells := 15, slots := 116, locals := 143 })).room s m ([ss_v (ss_b G) this, .int a1] : List Value).toArray below meth c H locs k n (MQ below (ss_Qc G (some (.int rr)) hh) ([ss_v (ss_b G) this, .int a1] : List Value).toArray s 15 116 (ss_A G)) g
theorem ck_S_image {N : Nat} {this : Option Nat} {a1 : Int32} {h : ss_Hp} {res : Int32 × ss_Hp} (hm : mm_S_image N this a1 h = some res) : ss_is h this 11 = true := (ss_chk hm).1
set_option maxHeartbeats 4000000 in
set_option maxRecDepth 100000 in
theorem cc_S_image (l : Launch) (G : ss_G) (N : Nat) (this : Option Nat) (a1 : Int32) (h : ss_Hp) (rr : Int32) (hh : ss_Hp) (hm : mm_S_image N this a1 h = some (rr, hh)) : ss_Ct l G yy_S_image bb_S_image 2 (some (.int)) ({ frames := 4, cells := 15, slots := 116, locals := 143 }) [ss_v (ss_b G) this, .int a1] h (some (.int rr)) hh := by
  obtain ⟨hck, hm⟩ := ss_chk hm
  refine Met.ofW (cc := bb_S_image) (maxL := 2) (ret := (some (.int))) (by decide) rfl ?_
  intro p e s m args below meth c s₁ B hml hv
  obtain ⟨rfl, hR, hK⟩ := hv
  have hC : CallFix p m c bb_S_image 2 s _ lw_g sR_11 := ⟨B.exec, B.bytes, hml, findClass_of_methodNamed B.named, fun w hw => atoms_spec (ws := ss_w yy_S_image bb_S_image 2 (some (.int))) B.pre w (List.mem_cons_of_mem _ hw)⟩
  have hx := hC.1
  have hb := hC.2.1
  have hr := B.returns
  have hlocks := B.notSynchronized
  have hS : va_S (ss_A G) s.heap s.heap [] := va_S.rf
  have hl := lv_entry ([ss_v (ss_b G) this, .int a1]) (n := 2) (by simp [lg_sl, ss_v_cat, ss_cat_i, ss_cat_l, ss_cat_r])
  rw [lg_entry_eq]
  generalize (lg_sl ([ss_v (ss_b G) this, .int a1]) ++ List.replicate (2 - (lg_sl ([ss_v (ss_b G) this, .int a1])).length) Slot.unset).toArray = ls at hl ⊢
  have hl : lv_has ls 2 [(0, ss_v (ss_b G) this), (1, .int a1)] := by simpa [lv_args, ss_v_cat, ss_cat_i, ss_cat_l, ss_cat_r] using hl
  have J_13 : ∀ (h_13 : ss_Hp) (H : Heap) (locs : List Loc) (ls : Array Slot), mm_S_image_j13 N this a1 h_13 = some (rr, hh) → ss_R G h_13 H → va_S (ss_A G) s.heap H locs → lv_has ls 2 [] → ww_S_image p l e s m below meth c G this a1 h rr hh  H locs 0 0 (F0 m 13 ls []) := by
    intro h_13 H locs ls hm hR hS hl
    refine lv_iconst (v := -1) hx hb dd_S_image_13 (by decide) ?_
    refine W.widen (k := 15) (n := 116) (Nat.le_of_ble_eq_true rfl) (Nat.le_of_ble_eq_true rfl) ?_
    exact ss_iret hC hr hlocks hR hS hm dd_S_image_14
  have J_37 : ∀ (h_37 : ss_Hp) (H : Heap) (locs : List Loc) (ls : Array Slot), mm_S_image_j37 N this a1 h_37 = some (rr, hh) → ss_R G h_37 H → va_S (ss_A G) s.heap H locs → lv_has ls 2 [(0, ss_v (ss_b G) this), (1, .int a1)] → ww_S_image p l e s m below meth c G this a1 h rr hh  H locs 15 116 (F0 m 37 ls []) := by
    intro h_37 H locs ls hm hR hS hl
    refine ss_aload_n hx hb dd_S_image_37 rfl (lv_at hl 0 rfl) ?_
    obtain ⟨r1, qr1, hm⟩ := ss_bind hm
    refine ss_getr hC hK hR kf_S_45 rfl qr1 dd_S_image_38 ?_
    refine lv_iload_n hx hb dd_S_image_41 rfl (lv_at hl 1 rfl) ?_
    obtain ⟨r2, qr2, hm⟩ := ss_bind hm
    refine ss_aald hC hK hR (t0 := 6) rfl (by decide) qr2 dd_S_image_42 ?_
    refine ss_aload_n hx hb dd_S_image_43 rfl (lv_at hl 0 rfl) ?_
    obtain ⟨r3, qr3, hm⟩ := ss_bind hm
    refine ss_getr hC hK hR kf_S_41 rfl qr3 dd_S_image_44 ?_
    obtain ⟨h4, qh4, hm⟩ := ss_bind hm
    refine ss_cVv 15 116 (As := [ss_v (ss_b G) r3]) hC hK hR hS hl.1 (cc_Wo_copyFrom l G N _ _ _ _ qh4) km_S_308 (ck_Wo_copyFrom qh4) ⟨Nat.le_of_ble_eq_true rfl, Nat.le_of_ble_eq_true rfl⟩ ⟨Nat.le_of_ble_eq_true rfl, Nat.le_of_ble_eq_true rfl, Nat.le_of_ble_eq_true rfl, Nat.le_of_ble_eq_true rfl⟩ rfl rfl (Nat.le_of_ble_eq_true rfl) dd_S_image_47 (fun H locs hR hS => ?_)
    refine ss_aload_n hx hb dd_S_image_50 rfl (lv_at hl 0 rfl) ?_
    obtain ⟨r5, qr5, hm⟩ := ss_bind hm
    refine ss_getr hC hK hR kf_S_41 rfl qr5 dd_S_image_51 ?_
    obtain ⟨r6, qr6, hm⟩ := ss_bind hm
    refine ss_getr hC hK hR kf_S_127 rfl qr6 dd_S_image_54 ?_
    obtain ⟨v7, qv7, hm⟩ := ss_bind hm
    refine ss_geti hC hK hR kf_S_150 qv7 dd_S_image_57 ?_
    exact ss_iret hC hr hlocks hR hS hm dd_S_image_60
  refine lv_iload_n hx hb dd_S_image_0 rfl (lv_at hl 1 rfl) ?_
  refine lv_if_lt (tgt := 13) hx hb dd_S_image_1 (by decide) (fun c8 => ?_) (fun c8 => ?_)
  · have hm := ss_ift hm c8
    exact J_13 h _ _ _ hm hR hS (lv_sub hl [] rfl)
  · have hm := ss_iff hm c8
    refine lv_iload_n hx hb dd_S_image_4 rfl (lv_at hl 1 rfl) ?_
    refine ss_aload_n hx hb dd_S_image_5 rfl (lv_at hl 0 rfl) ?_
    obtain ⟨r9, qr9, hm⟩ := ss_bind hm
    refine ss_getr hC hK hR kf_S_45 rfl qr9 dd_S_image_6 ?_
    obtain ⟨v10, qv10, hm⟩ := ss_bind hm
    refine ss_alenQ hC hK hR (t0 := 6) rfl (by decide) qv10 dd_S_image_9 ?_
    refine lv_icmp_lt (tgt := 15) hx hb dd_S_image_10 (by decide) (fun c11 => ?_) (fun c11 => ?_)
    · have hm := ss_ift hm c11
      refine ss_aload_n hx hb dd_S_image_15 rfl (lv_at hl 0 rfl) ?_
      obtain ⟨r12, qr12, hm⟩ := ss_bind hm
      refine ss_getr hC hK hR kf_S_45 rfl qr12 dd_S_image_16 ?_
      refine lv_iload_n hx hb dd_S_image_19 rfl (lv_at hl 1 rfl) ?_
      obtain ⟨r13, qr13, hm⟩ := ss_bind hm
      refine ss_aald hC hK hR (t0 := 6) rfl (by decide) qr13 dd_S_image_20 ?_
      refine ss_ifnonnull (tgt := 37) hx hb dd_S_image_21 (by decide) (fun c14 => ?_) (fun c14 => ?_)
      · have hm := ss_ift hm c14
        refine W.widen (k := 15) (n := 116) (Nat.le_of_ble_eq_true rfl) (Nat.le_of_ble_eq_true rfl) ?_
        exact J_37 h _ _ _ hm hR hS hl
      · have hm := ss_iff hm c14
        refine ss_aload_n hx hb dd_S_image_24 rfl (lv_at hl 0 rfl) ?_
        obtain ⟨r15, qr15, hm⟩ := ss_bind hm
        refine ss_getr hC hK hR kf_S_45 rfl qr15 dd_S_image_25 ?_
        refine lv_iload_n hx hb dd_S_image_28 rfl (lv_at hl 1 rfl) ?_
        obtain ⟨r16, h17, qh17, hm⟩ := ss_bind2 hm
        refine ss_newo (N := 8) hC hK hR hS rfl kn_S_38 rfl qh17 (Nat.le_of_ble_eq_true rfl) (Nat.le_of_ble_eq_true rfl) dd_S_image_29 (fun H hR hS => ?_)
        refine W.widen (k := 1) (n := 8) (Nat.le_of_ble_eq_true rfl) (Nat.le_of_ble_eq_true rfl) ?_
        refine ss_dupr hx hb dd_S_image_32 ?_
        obtain ⟨h18, qh18, hm⟩ := ss_bind hm
        refine ss_cN 15 116 (As := []) hC hK hR hS hl.1 (cc_Wo_init l G N _ _ _ qh18) km_S_40 (ck_Wo_init qh18) ⟨Nat.le_of_ble_eq_true rfl, Nat.le_of_ble_eq_true rfl⟩ ⟨Nat.le_of_ble_eq_true rfl, Nat.le_of_ble_eq_true rfl, Nat.le_of_ble_eq_true rfl, Nat.le_of_ble_eq_true rfl⟩ rfl rfl (by simp [ss_v_cat, ss_cat_i, ss_cat_l, ss_cat_r]) dd_S_image_33 (fun H locs hR hS => ?_)
        obtain ⟨h19, qh19, hm⟩ := ss_bind hm
        refine ss_aast hC hK hR hS (t0 := 6) (q0 := (sR_8, sT_8, 8)) rfl (by decide) rfl qh19 dd_S_image_36 (fun H locs hR hS => ?_)
        exact J_37 h19 _ _ _ hm hR hS hl
    · have hm := ss_iff hm c11
      exact J_13 h _ _ _ hm hR hS (lv_sub hl [] rfl)
theorem dd_S_back_0 : decode bb_S_back 0 = .ok (.iload_n 1, 1) := by decide +kernel
theorem dd_S_back_1 : decode bb_S_back 1 = .ok (.ifCond .lt 21, 3) := by decide +kernel
theorem dd_S_back_4 : decode bb_S_back 4 = .ok (.iload_n 1, 1) := by decide +kernel
theorem dd_S_back_5 : decode bb_S_back 5 = .ok (.aload_n 0, 1) := by decide +kernel
theorem dd_S_back_6 : decode bb_S_back 6 = .ok (.getfield 45, 3) := by decide +kernel
theorem dd_S_back_9 : decode bb_S_back 9 = .ok (.arraylength, 1) := by decide +kernel
theorem dd_S_back_10 : decode bb_S_back 10 = .ok (.if_icmp .ge 12, 3) := by decide +kernel
theorem dd_S_back_13 : decode bb_S_back 13 = .ok (.aload_n 0, 1) := by decide +kernel
theorem dd_S_back_14 : decode bb_S_back 14 = .ok (.getfield 45, 3) := by decide +kernel
theorem dd_S_back_17 : decode bb_S_back 17 = .ok (.iload_n 1, 1) := by decide +kernel
theorem dd_S_back_18 : decode bb_S_back 18 = .ok (.aaload, 1) := by decide +kernel
theorem dd_S_back_19 : decode bb_S_back 19 = .ok (.ifnonnull 5, 3) := by decide +kernel
theorem dd_S_back_22 : decode bb_S_back 22 = .ok (.iconst (-1), 1) := by decide +kernel
theorem dd_S_back_23 : decode bb_S_back 23 = .ok (.ireturn, 1) := by decide +kernel
theorem dd_S_back_24 : decode bb_S_back 24 = .ok (.aload_n 0, 1) := by decide +kernel
theorem dd_S_back_25 : decode bb_S_back 25 = .ok (.getfield 41, 3) := by decide +kernel
theorem dd_S_back_28 : decode bb_S_back 28 = .ok (.aload_n 0, 1) := by decide +kernel
theorem dd_S_back_29 : decode bb_S_back 29 = .ok (.getfield 45, 3) := by decide +kernel
theorem dd_S_back_32 : decode bb_S_back 32 = .ok (.iload_n 1, 1) := by decide +kernel
theorem dd_S_back_33 : decode bb_S_back 33 = .ok (.aaload, 1) := by decide +kernel
theorem dd_S_back_34 : decode bb_S_back 34 = .ok (.invokevirtual 308, 3) := by decide +kernel
theorem dd_S_back_37 : decode bb_S_back 37 = .ok (.aload_n 0, 1) := by decide +kernel
theorem dd_S_back_38 : decode bb_S_back 38 = .ok (.getfield 52, 3) := by decide +kernel
theorem dd_S_back_41 : decode bb_S_back 41 = .ok (.invokevirtual 105, 3) := by decide +kernel
theorem dd_S_back_44 : decode bb_S_back 44 = .ok (.aload_n 0, 1) := by decide +kernel
theorem dd_S_back_45 : decode bb_S_back 45 = .ok (.getfield 41, 3) := by decide +kernel
theorem dd_S_back_48 : decode bb_S_back 48 = .ok (.getfield 127, 3) := by decide +kernel
theorem dd_S_back_51 : decode bb_S_back 51 = .ok (.getfield 150, 3) := by decide +kernel
theorem dd_S_back_54 : decode bb_S_back 54 = .ok (.ireturn, 1) := by decide +kernel
def mm_S_back_j22 (N : Nat) (this : Option Nat) (a1 : Int32) (h_22 : ss_Hp) : Option (Int32 × ss_Hp) :=
  some ((-1 : Int32), h_22)
def mm_S_back (N : Nat) (this : Option Nat) (a1 : Int32) (h : ss_Hp) : Option (Int32 × ss_Hp) :=
  if ss_is h this 11 = true then
    if a1 < 0 then
      mm_S_back_j22 N this a1 h
    else
      (ss_gr h this 11 5).bind fun r2 =>
      (ss_len h r2 26).bind fun v3 =>
      if v3 ≤ a1 then
        mm_S_back_j22 N this a1 h
      else
        (ss_gr h this 11 5).bind fun r5 =>
        (ss_ar h r5 26 a1).bind fun r6 =>
        if r6.isSome = true then
          (ss_gr h this 11 4).bind fun r8 =>
          (ss_gr h this 11 5).bind fun r9 =>
          (ss_ar h r9 26 a1).bind fun r10 =>
          (mm_Wo_copyFrom N r8 r10 h).bind fun h11 =>
          (ss_gr h11 this 11 6).bind fun r12 =>
          (mm_A_forget N r12 h11).bind fun h13 =>
          (ss_gr h13 this 11 4).bind fun r14 =>
          (ss_gr h13 r14 8 1).bind fun r15 =>
          (ss_gi h13 r15 0 3).bind fun v16 =>
          some (v16, h13)
        else
          mm_S_back_j22 N this a1 h
  else none
abbrev ww_S_back (p : Program) (l : Launch) (e : Env) (s : State) (m : MethodId) (below : List Frame) (meth : Method) (c : Code) (G : ss_G) (this : Option Nat) (a1 : Int32) (h : ss_Hp) (rr : Int32) (hh : ss_Hp) (H : Heap) (locs : List Loc) (k n : Nat) (g : JFrame) : Prop := W p l e (headSpec (ss_w yy_S_back bb_S_back 2 (some (.int))) ({ frames := 4, cells := 0, slots := 0, locals := 143 })).room s m ([ss_v (ss_b G) this, .int a1] : List Value).toArray below meth c H locs k n (MQ below (ss_Qc G (some (.int rr)) hh) ([ss_v (ss_b G) this, .int a1] : List Value).toArray s 0 0 (ss_A G)) g
theorem ck_S_back {N : Nat} {this : Option Nat} {a1 : Int32} {h : ss_Hp} {res : Int32 × ss_Hp} (hm : mm_S_back N this a1 h = some res) : ss_is h this 11 = true := (ss_chk hm).1
set_option maxHeartbeats 4000000 in
set_option maxRecDepth 100000 in
theorem cc_S_back (l : Launch) (G : ss_G) (N : Nat) (this : Option Nat) (a1 : Int32) (h : ss_Hp) (rr : Int32) (hh : ss_Hp) (hm : mm_S_back N this a1 h = some (rr, hh)) : ss_Ct l G yy_S_back bb_S_back 2 (some (.int)) ({ frames := 4, cells := 0, slots := 0, locals := 143 }) [ss_v (ss_b G) this, .int a1] h (some (.int rr)) hh := by
  obtain ⟨hck, hm⟩ := ss_chk hm
  refine Met.ofW (cc := bb_S_back) (maxL := 2) (ret := (some (.int))) (by decide) rfl ?_
  intro p e s m args below meth c s₁ B hml hv
  obtain ⟨rfl, hR, hK⟩ := hv
  have hC : CallFix p m c bb_S_back 2 s _ lw_g sR_11 := ⟨B.exec, B.bytes, hml, findClass_of_methodNamed B.named, fun w hw => atoms_spec (ws := ss_w yy_S_back bb_S_back 2 (some (.int))) B.pre w (List.mem_cons_of_mem _ hw)⟩
  have hx := hC.1
  have hb := hC.2.1
  have hr := B.returns
  have hlocks := B.notSynchronized
  have hS : va_S (ss_A G) s.heap s.heap [] := va_S.rf
  have hl := lv_entry ([ss_v (ss_b G) this, .int a1]) (n := 2) (by simp [lg_sl, ss_v_cat, ss_cat_i, ss_cat_l, ss_cat_r])
  rw [lg_entry_eq]
  generalize (lg_sl ([ss_v (ss_b G) this, .int a1]) ++ List.replicate (2 - (lg_sl ([ss_v (ss_b G) this, .int a1])).length) Slot.unset).toArray = ls at hl ⊢
  have hl : lv_has ls 2 [(0, ss_v (ss_b G) this), (1, .int a1)] := by simpa [lv_args, ss_v_cat, ss_cat_i, ss_cat_l, ss_cat_r] using hl
  have J_22 : ∀ (h_22 : ss_Hp) (H : Heap) (locs : List Loc) (ls : Array Slot), mm_S_back_j22 N this a1 h_22 = some (rr, hh) → ss_R G h_22 H → va_S (ss_A G) s.heap H locs → lv_has ls 2 [] → ww_S_back p l e s m below meth c G this a1 h rr hh  H locs 0 0 (F0 m 22 ls []) := by
    intro h_22 H locs ls hm hR hS hl
    refine lv_iconst (v := -1) hx hb dd_S_back_22 (by decide) ?_
    exact ss_iret hC hr hlocks hR hS hm dd_S_back_23
  refine lv_iload_n hx hb dd_S_back_0 rfl (lv_at hl 1 rfl) ?_
  refine lv_if_lt (tgt := 22) hx hb dd_S_back_1 (by decide) (fun c1 => ?_) (fun c1 => ?_)
  · have hm := ss_ift hm c1
    exact J_22 h _ _ _ hm hR hS (lv_sub hl [] rfl)
  · have hm := ss_iff hm c1
    refine lv_iload_n hx hb dd_S_back_4 rfl (lv_at hl 1 rfl) ?_
    refine ss_aload_n hx hb dd_S_back_5 rfl (lv_at hl 0 rfl) ?_
    obtain ⟨r2, qr2, hm⟩ := ss_bind hm
    refine ss_getr hC hK hR kf_S_45 rfl qr2 dd_S_back_6 ?_
    obtain ⟨v3, qv3, hm⟩ := ss_bind hm
    refine ss_alenQ hC hK hR (t0 := 6) rfl (by decide) qv3 dd_S_back_9 ?_
    refine lv_icmp_ge (tgt := 22) hx hb dd_S_back_10 (by decide) (fun c4 => ?_) (fun c4 => ?_)
    · have hm := ss_ift hm c4
      exact J_22 h _ _ _ hm hR hS (lv_sub hl [] rfl)
    · have hm := ss_iff hm c4
      refine ss_aload_n hx hb dd_S_back_13 rfl (lv_at hl 0 rfl) ?_
      obtain ⟨r5, qr5, hm⟩ := ss_bind hm
      refine ss_getr hC hK hR kf_S_45 rfl qr5 dd_S_back_14 ?_
      refine lv_iload_n hx hb dd_S_back_17 rfl (lv_at hl 1 rfl) ?_
      obtain ⟨r6, qr6, hm⟩ := ss_bind hm
      refine ss_aald hC hK hR (t0 := 6) rfl (by decide) qr6 dd_S_back_18 ?_
      refine ss_ifnonnull (tgt := 24) hx hb dd_S_back_19 (by decide) (fun c7 => ?_) (fun c7 => ?_)
      · have hm := ss_ift hm c7
        refine ss_aload_n hx hb dd_S_back_24 rfl (lv_at hl 0 rfl) ?_
        obtain ⟨r8, qr8, hm⟩ := ss_bind hm
        refine ss_getr hC hK hR kf_S_41 rfl qr8 dd_S_back_25 ?_
        refine ss_aload_n hx hb dd_S_back_28 rfl (lv_at hl 0 rfl) ?_
        obtain ⟨r9, qr9, hm⟩ := ss_bind hm
        refine ss_getr hC hK hR kf_S_45 rfl qr9 dd_S_back_29 ?_
        refine lv_iload_n hx hb dd_S_back_32 rfl (lv_at hl 1 rfl) ?_
        obtain ⟨r10, qr10, hm⟩ := ss_bind hm
        refine ss_aald hC hK hR (t0 := 6) rfl (by decide) qr10 dd_S_back_33 ?_
        obtain ⟨h11, qh11, hm⟩ := ss_bind hm
        refine ss_cVv 0 0 (As := [ss_v (ss_b G) r10]) hC hK hR hS hl.1 (cc_Wo_copyFrom l G N _ _ _ _ qh11) km_S_308 (ck_Wo_copyFrom qh11) ⟨Nat.le_of_ble_eq_true rfl, Nat.le_of_ble_eq_true rfl⟩ ⟨Nat.le_of_ble_eq_true rfl, Nat.le_of_ble_eq_true rfl, Nat.le_of_ble_eq_true rfl, Nat.le_of_ble_eq_true rfl⟩ rfl rfl (Nat.le_of_ble_eq_true rfl) dd_S_back_34 (fun H locs hR hS => ?_)
        refine ss_aload_n hx hb dd_S_back_37 rfl (lv_at hl 0 rfl) ?_
        obtain ⟨r12, qr12, hm⟩ := ss_bind hm
        refine ss_getr hC hK hR kf_S_52 rfl qr12 dd_S_back_38 ?_
        obtain ⟨h13, qh13, hm⟩ := ss_bind hm
        refine ss_cVv 0 0 (As := []) hC hK hR hS hl.1 (cc_A_forget l G N _ _ _ qh13) km_S_105 (ck_A_forget qh13) ⟨Nat.le_of_ble_eq_true rfl, Nat.le_of_ble_eq_true rfl⟩ ⟨Nat.le_of_ble_eq_true rfl, Nat.le_of_ble_eq_true rfl, Nat.le_of_ble_eq_true rfl, Nat.le_of_ble_eq_true rfl⟩ rfl rfl (Nat.le_of_ble_eq_true rfl) dd_S_back_41 (fun H locs hR hS => ?_)
        refine ss_aload_n hx hb dd_S_back_44 rfl (lv_at hl 0 rfl) ?_
        obtain ⟨r14, qr14, hm⟩ := ss_bind hm
        refine ss_getr hC hK hR kf_S_41 rfl qr14 dd_S_back_45 ?_
        obtain ⟨r15, qr15, hm⟩ := ss_bind hm
        refine ss_getr hC hK hR kf_S_127 rfl qr15 dd_S_back_48 ?_
        obtain ⟨v16, qv16, hm⟩ := ss_bind hm
        refine ss_geti hC hK hR kf_S_150 qv16 dd_S_back_51 ?_
        exact ss_iret hC hr hlocks hR hS hm dd_S_back_54
      · have hm := ss_iff hm c7
        exact J_22 h _ _ _ hm hR hS (lv_sub hl [] rfl)
theorem dd_M_init_0 : decode bb_M_init 0 = .ok (.aload_n 0, 1) := by decide +kernel
theorem dd_M_init_1 : decode bb_M_init 1 = .ok (.invokespecial 1, 3) := by decide +kernel
theorem dd_M_init_4 : decode bb_M_init 4 = .ok (.aload_n 0, 1) := by decide +kernel
theorem dd_M_init_5 : decode bb_M_init 5 = .ok (.sipush 400, 3) := by decide +kernel
theorem dd_M_init_8 : decode bb_M_init 8 = .ok (.newarray .byte, 2) := by decide +kernel
theorem dd_M_init_10 : decode bb_M_init 10 = .ok (.putfield 7, 3) := by decide +kernel
theorem dd_M_init_13 : decode bb_M_init 13 = .ok (.aload_n 0, 1) := by decide +kernel
theorem dd_M_init_14 : decode bb_M_init 14 = .ok (.sipush 2400, 3) := by decide +kernel
theorem dd_M_init_17 : decode bb_M_init 17 = .ok (.newarray .int, 2) := by decide +kernel
theorem dd_M_init_19 : decode bb_M_init 19 = .ok (.putfield 13, 3) := by decide +kernel
theorem dd_M_init_22 : decode bb_M_init 22 = .ok (.aload_n 0, 1) := by decide +kernel
theorem dd_M_init_23 : decode bb_M_init 23 = .ok (.bipush 7, 2) := by decide +kernel
theorem dd_M_init_25 : decode bb_M_init 25 = .ok (.newarray .int, 2) := by decide +kernel
theorem dd_M_init_27 : decode bb_M_init 27 = .ok (.putfield 17, 3) := by decide +kernel
theorem dd_M_init_30 : decode bb_M_init 30 = .ok (.aload_n 0, 1) := by decide +kernel
theorem dd_M_init_31 : decode bb_M_init 31 = .ok (.sipush 288, 3) := by decide +kernel
theorem dd_M_init_34 : decode bb_M_init 34 = .ok (.newarray .int, 2) := by decide +kernel
theorem dd_M_init_36 : decode bb_M_init 36 = .ok (.putfield 20, 3) := by decide +kernel
theorem dd_M_init_39 : decode bb_M_init 39 = .ok (.aload_n 0, 1) := by decide +kernel
theorem dd_M_init_40 : decode bb_M_init 40 = .ok (.bipush 6, 2) := by decide +kernel
theorem dd_M_init_42 : decode bb_M_init 42 = .ok (.newarray .int, 2) := by decide +kernel
theorem dd_M_init_44 : decode bb_M_init 44 = .ok (.putfield 23, 3) := by decide +kernel
theorem dd_M_init_47 : decode bb_M_init 47 = .ok (.aload_n 0, 1) := by decide +kernel
theorem dd_M_init_48 : decode bb_M_init 48 = .ok (.bipush 93, 2) := by decide +kernel
theorem dd_M_init_50 : decode bb_M_init 50 = .ok (.newarray .int, 2) := by decide +kernel
theorem dd_M_init_52 : decode bb_M_init 52 = .ok (.putfield 26, 3) := by decide +kernel
theorem dd_M_init_55 : decode bb_M_init 55 = .ok (.aload_n 0, 1) := by decide +kernel
theorem dd_M_init_56 : decode bb_M_init 56 = .ok (.sipush 400, 3) := by decide +kernel
theorem dd_M_init_59 : decode bb_M_init 59 = .ok (.newarray .int, 2) := by decide +kernel
theorem dd_M_init_61 : decode bb_M_init 61 = .ok (.putfield 29, 3) := by decide +kernel
theorem dd_M_init_64 : decode bb_M_init 64 = .ok (.aload_n 0, 1) := by decide +kernel
theorem dd_M_init_65 : decode bb_M_init 65 = .ok (.bipush 64, 2) := by decide +kernel
theorem dd_M_init_67 : decode bb_M_init 67 = .ok (.newarray .long, 2) := by decide +kernel
theorem dd_M_init_69 : decode bb_M_init 69 = .ok (.putfield 32, 3) := by decide +kernel
theorem dd_M_init_72 : decode bb_M_init 72 = .ok (.aload_n 0, 1) := by decide +kernel
theorem dd_M_init_73 : decode bb_M_init 73 = .ok (.bipush 12, 2) := by decide +kernel
theorem dd_M_init_75 : decode bb_M_init 75 = .ok (.newarray .long, 2) := by decide +kernel
theorem dd_M_init_77 : decode bb_M_init 77 = .ok (.putfield 36, 3) := by decide +kernel
theorem dd_M_init_80 : decode bb_M_init 80 = .ok (.aload_n 0, 1) := by decide +kernel
theorem dd_M_init_81 : decode bb_M_init 81 = .ok (.bipush 124, 2) := by decide +kernel
theorem dd_M_init_83 : decode bb_M_init 83 = .ok (.newarray .int, 2) := by decide +kernel
theorem dd_M_init_85 : decode bb_M_init 85 = .ok (.putfield 39, 3) := by decide +kernel
theorem dd_M_init_88 : decode bb_M_init 88 = .ok (.aload_n 0, 1) := by decide +kernel
theorem dd_M_init_89 : decode bb_M_init 89 = .ok (.iconst (-1), 1) := by decide +kernel
theorem dd_M_init_90 : decode bb_M_init 90 = .ok (.putfield 42, 3) := by decide +kernel
theorem dd_M_init_93 : decode bb_M_init 93 = .ok (.aload_n 0, 1) := by decide +kernel
theorem dd_M_init_94 : decode bb_M_init 94 = .ok (.bipush 8, 2) := by decide +kernel
theorem dd_M_init_96 : decode bb_M_init 96 = .ok (.newarray .int, 2) := by decide +kernel
theorem dd_M_init_98 : decode bb_M_init 98 = .ok (.putfield 46, 3) := by decide +kernel
theorem dd_M_init_101 : decode bb_M_init 101 = .ok (.aload_n 0, 1) := by decide +kernel
theorem dd_M_init_102 : decode bb_M_init 102 = .ok (.bipush 8, 2) := by decide +kernel
theorem dd_M_init_104 : decode bb_M_init 104 = .ok (.newarray .int, 2) := by decide +kernel
theorem dd_M_init_106 : decode bb_M_init 106 = .ok (.putfield 49, 3) := by decide +kernel
theorem dd_M_init_109 : decode bb_M_init 109 = .ok (.aload_n 0, 1) := by decide +kernel
theorem dd_M_init_110 : decode bb_M_init 110 = .ok (.sipush 400, 3) := by decide +kernel
theorem dd_M_init_113 : decode bb_M_init 113 = .ok (.newarray .int, 2) := by decide +kernel
theorem dd_M_init_115 : decode bb_M_init 115 = .ok (.putfield 52, 3) := by decide +kernel
theorem dd_M_init_118 : decode bb_M_init 118 = .ok (.aload_n 0, 1) := by decide +kernel
theorem dd_M_init_119 : decode bb_M_init 119 = .ok (.bipush 20, 2) := by decide +kernel
theorem dd_M_init_121 : decode bb_M_init 121 = .ok (.newarray .int, 2) := by decide +kernel
theorem dd_M_init_123 : decode bb_M_init 123 = .ok (.putfield 55, 3) := by decide +kernel
theorem dd_M_init_126 : decode bb_M_init 126 = .ok (.aload_n 0, 1) := by decide +kernel
theorem dd_M_init_127 : decode bb_M_init 127 = .ok (.sipush 488, 3) := by decide +kernel
theorem dd_M_init_130 : decode bb_M_init 130 = .ok (.newarray .int, 2) := by decide +kernel
theorem dd_M_init_132 : decode bb_M_init 132 = .ok (.putfield 58, 3) := by decide +kernel
theorem dd_M_init_135 : decode bb_M_init 135 = .ok (.aload_n 0, 1) := by decide +kernel
theorem dd_M_init_136 : decode bb_M_init 136 = .ok (.bipush 8, 2) := by decide +kernel
theorem dd_M_init_138 : decode bb_M_init 138 = .ok (.newarray .int, 2) := by decide +kernel
theorem dd_M_init_140 : decode bb_M_init 140 = .ok (.putfield 61, 3) := by decide +kernel
theorem dd_M_init_143 : decode bb_M_init 143 = .ok (.aload_n 0, 1) := by decide +kernel
theorem dd_M_init_144 : decode bb_M_init 144 = .ok (.bipush 64, 2) := by decide +kernel
theorem dd_M_init_146 : decode bb_M_init 146 = .ok (.newarray .int, 2) := by decide +kernel
theorem dd_M_init_148 : decode bb_M_init 148 = .ok (.putfield 64, 3) := by decide +kernel
theorem dd_M_init_151 : decode bb_M_init 151 = .ok (.aload_n 0, 1) := by decide +kernel
theorem dd_M_init_152 : decode bb_M_init 152 = .ok (.bipush 7, 2) := by decide +kernel
theorem dd_M_init_154 : decode bb_M_init 154 = .ok (.newarray .boolean, 2) := by decide +kernel
theorem dd_M_init_156 : decode bb_M_init 156 = .ok (.putfield 67, 3) := by decide +kernel
theorem dd_M_init_159 : decode bb_M_init 159 = .ok (.aload_n 0, 1) := by decide +kernel
theorem dd_M_init_160 : decode bb_M_init 160 = .ok (.bipush 56, 2) := by decide +kernel
theorem dd_M_init_162 : decode bb_M_init 162 = .ok (.newarray .int, 2) := by decide +kernel
theorem dd_M_init_164 : decode bb_M_init 164 = .ok (.putfield 71, 3) := by decide +kernel
theorem dd_M_init_167 : decode bb_M_init 167 = .ok (.aload_n 0, 1) := by decide +kernel
theorem dd_M_init_168 : decode bb_M_init 168 = .ok (.sipush 496, 3) := by decide +kernel
theorem dd_M_init_171 : decode bb_M_init 171 = .ok (.newarray .int, 2) := by decide +kernel
theorem dd_M_init_173 : decode bb_M_init 173 = .ok (.putfield 74, 3) := by decide +kernel
theorem dd_M_init_176 : decode bb_M_init 176 = .ok (.aload_n 0, 1) := by decide +kernel
theorem dd_M_init_177 : decode bb_M_init 177 = .ok (.iconst 4, 1) := by decide +kernel
theorem dd_M_init_178 : decode bb_M_init 178 = .ok (.newarray .int, 2) := by decide +kernel
theorem dd_M_init_180 : decode bb_M_init 180 = .ok (.putfield 77, 3) := by decide +kernel
theorem dd_M_init_183 : decode bb_M_init 183 = .ok (.aload_n 0, 1) := by decide +kernel
theorem dd_M_init_184 : decode bb_M_init 184 = .ok (.iconst 4, 1) := by decide +kernel
theorem dd_M_init_185 : decode bb_M_init 185 = .ok (.newarray .int, 2) := by decide +kernel
theorem dd_M_init_187 : decode bb_M_init 187 = .ok (.putfield 80, 3) := by decide +kernel
theorem dd_M_init_190 : decode bb_M_init 190 = .ok (.aload_n 0, 1) := by decide +kernel
theorem dd_M_init_191 : decode bb_M_init 191 = .ok (.iconst 4, 1) := by decide +kernel
theorem dd_M_init_192 : decode bb_M_init 192 = .ok (.newarray .boolean, 2) := by decide +kernel
theorem dd_M_init_194 : decode bb_M_init 194 = .ok (.putfield 83, 3) := by decide +kernel
theorem dd_M_init_197 : decode bb_M_init 197 = .ok (.return_, 1) := by decide +kernel
def mm_M_init (N : Nat) (this : Option Nat) (h : ss_Hp) : Option ss_Hp :=
  if ss_is h this 12 = true then
    ss_b2 (ss_na h 21 400 (400 : Int32)) fun r1 h2 =>
    (ss_pr h2 this 12 0 r1).bind fun h3 =>
    ss_b2 (ss_na h3 20 2400 (2400 : Int32)) fun r4 h5 =>
    (ss_pr h5 this 12 1 r4).bind fun h6 =>
    ss_b2 (ss_na h6 20 7 (7 : Int32)) fun r7 h8 =>
    (ss_pr h8 this 12 2 r7).bind fun h9 =>
    ss_b2 (ss_na h9 20 288 (288 : Int32)) fun r10 h11 =>
    (ss_pr h11 this 12 3 r10).bind fun h12 =>
    ss_b2 (ss_na h12 20 6 (6 : Int32)) fun r13 h14 =>
    (ss_pr h14 this 12 4 r13).bind fun h15 =>
    ss_b2 (ss_na h15 20 93 (93 : Int32)) fun r16 h17 =>
    (ss_pr h17 this 12 5 r16).bind fun h18 =>
    ss_b2 (ss_na h18 20 400 (400 : Int32)) fun r19 h20 =>
    (ss_pr h20 this 12 6 r19).bind fun h21 =>
    ss_b2 (ss_na h21 23 64 (64 : Int32)) fun r22 h23 =>
    (ss_pr h23 this 12 7 r22).bind fun h24 =>
    ss_b2 (ss_na h24 23 12 (12 : Int32)) fun r25 h26 =>
    (ss_pr h26 this 12 8 r25).bind fun h27 =>
    ss_b2 (ss_na h27 20 124 (124 : Int32)) fun r28 h29 =>
    (ss_pr h29 this 12 9 r28).bind fun h30 =>
    (ss_pi h30 this 12 13 (-1 : Int32)).bind fun h31 =>
    ss_b2 (ss_na h31 20 8 (8 : Int32)) fun r32 h33 =>
    (ss_pr h33 this 12 10 r32).bind fun h34 =>
    ss_b2 (ss_na h34 20 8 (8 : Int32)) fun r35 h36 =>
    (ss_pr h36 this 12 11 r35).bind fun h37 =>
    ss_b2 (ss_na h37 20 400 (400 : Int32)) fun r38 h39 =>
    (ss_pr h39 this 12 12 r38).bind fun h40 =>
    ss_b2 (ss_na h40 20 20 (20 : Int32)) fun r41 h42 =>
    (ss_pr h42 this 12 13 r41).bind fun h43 =>
    ss_b2 (ss_na h43 20 488 (488 : Int32)) fun r44 h45 =>
    (ss_pr h45 this 12 14 r44).bind fun h46 =>
    ss_b2 (ss_na h46 20 8 (8 : Int32)) fun r47 h48 =>
    (ss_pr h48 this 12 15 r47).bind fun h49 =>
    ss_b2 (ss_na h49 20 64 (64 : Int32)) fun r50 h51 =>
    (ss_pr h51 this 12 16 r50).bind fun h52 =>
    ss_b2 (ss_na h52 22 7 (7 : Int32)) fun r53 h54 =>
    (ss_pr h54 this 12 17 r53).bind fun h55 =>
    ss_b2 (ss_na h55 20 56 (56 : Int32)) fun r56 h57 =>
    (ss_pr h57 this 12 18 r56).bind fun h58 =>
    ss_b2 (ss_na h58 20 496 (496 : Int32)) fun r59 h60 =>
    (ss_pr h60 this 12 19 r59).bind fun h61 =>
    ss_b2 (ss_na h61 20 4 (4 : Int32)) fun r62 h63 =>
    (ss_pr h63 this 12 20 r62).bind fun h64 =>
    ss_b2 (ss_na h64 20 4 (4 : Int32)) fun r65 h66 =>
    (ss_pr h66 this 12 21 r65).bind fun h67 =>
    ss_b2 (ss_na h67 22 4 (4 : Int32)) fun r68 h69 =>
    (ss_pr h69 this 12 22 r68).bind fun h70 =>
    some h70
  else none
abbrev ww_M_init (p : Program) (l : Launch) (e : Env) (s : State) (m : MethodId) (below : List Frame) (meth : Method) (c : Code) (G : ss_G) (this : Option Nat) (h : ss_Hp) (hh : ss_Hp) (H : Heap) (locs : List Loc) (k n : Nat) (g : JFrame) : Prop := W p l e (headSpec (ss_w yy_M_init bb_M_init 1 none) ({ frames := 1, cells := 23, slots := 5361, locals := 80 })).room s m ([ss_v (ss_b G) this] : List Value).toArray below meth c H locs k n (MQ below (ss_Qc G none hh) ([ss_v (ss_b G) this] : List Value).toArray s 23 5361 (ss_A G)) g
theorem ck_M_init {N : Nat} {this : Option Nat} {h : ss_Hp} {res : ss_Hp} (hm : mm_M_init N this h = some res) : ss_is h this 12 = true := (ss_chk hm).1
set_option maxHeartbeats 4000000 in
set_option maxRecDepth 100000 in
theorem cc_M_init (l : Launch) (G : ss_G) (N : Nat) (this : Option Nat) (h : ss_Hp) (hh : ss_Hp) (hm : mm_M_init N this h = some hh) : ss_Ct l G yy_M_init bb_M_init 1 none ({ frames := 1, cells := 23, slots := 5361, locals := 80 }) [ss_v (ss_b G) this] h none hh := by
  obtain ⟨hck, hm⟩ := ss_chk hm
  refine Met.ofW (cc := bb_M_init) (maxL := 1) (ret := none) (by decide) rfl ?_
  intro p e s m args below meth c s₁ B hml hv
  obtain ⟨rfl, hR, hK⟩ := hv
  have hC : CallFix p m c bb_M_init 1 s _ lw_g sR_12 := ⟨B.exec, B.bytes, hml, findClass_of_methodNamed B.named, fun w hw => atoms_spec (ws := ss_w yy_M_init bb_M_init 1 none) B.pre w (List.mem_cons_of_mem _ hw)⟩
  have hx := hC.1
  have hb := hC.2.1
  have hr := B.returns
  have hlocks := B.notSynchronized
  have hin : meth.name = "<init>" := (name_of_methodNamed B.named B.method).1
  have hS : va_S (ss_A G) s.heap s.heap [] := va_S.rf
  have hl := lv_entry ([ss_v (ss_b G) this]) (n := 1) (by simp [lg_sl, ss_v_cat, ss_cat_i, ss_cat_l, ss_cat_r])
  rw [lg_entry_eq]
  generalize (lg_sl ([ss_v (ss_b G) this]) ++ List.replicate (1 - (lg_sl ([ss_v (ss_b G) this])).length) Slot.unset).toArray = ls at hl ⊢
  have hl : lv_has ls 1 [(0, ss_v (ss_b G) this)] := by simpa [lv_args, ss_v_cat, ss_cat_i, ss_cat_l, ss_cat_r] using hl
  refine ss_aload_n hx hb dd_M_init_0 rfl (lv_at hl 0 rfl) ?_
  obtain ⟨_, hck1⟩ := ss_isSome hck
  refine ss_init hC hl.1 kj_M_1 kj_oi kj_oc hck1 (Nat.le_of_ble_eq_true rfl) (Nat.le_of_ble_eq_true rfl) (Nat.le_of_ble_eq_true rfl) dd_M_init_1 ?_
  refine ss_aload_n hx hb dd_M_init_4 rfl (lv_at hl 0 rfl) ?_
  refine lv_sipush (v := 400) hx hb dd_M_init_5 (by decide) ?_
  obtain ⟨r1, h2, qh2, hm⟩ := ss_bind2 hm
  refine ss_newai hC hK hR hS kt_byte rfl rfl (by decide) (t0 := 1) rfl (by decide) qh2 (by decide) (Nat.le_of_ble_eq_true rfl) (Nat.le_of_ble_eq_true rfl) dd_M_init_8 (fun H hR hS => ?_)
  refine W.widen (k := 1) (n := 400) (Nat.le_of_ble_eq_true rfl) (Nat.le_of_ble_eq_true rfl) ?_
  obtain ⟨h3, qh3, hm⟩ := ss_bind hm
  refine ss_putrF hC hK hR hS hin kq_M_7 rfl (Or.inr ⟨_, rfl⟩) qh3 dd_M_init_10 (fun H locs hR hS => ?_)
  refine ss_aload_n hx hb dd_M_init_13 rfl (lv_at hl 0 rfl) ?_
  refine lv_sipush (v := 2400) hx hb dd_M_init_14 (by decide) ?_
  obtain ⟨r4, h5, qh5, hm⟩ := ss_bind2 hm
  refine ss_newai hC hK hR hS kt_int rfl rfl (by decide) (t0 := 0) rfl (by decide) qh5 (by decide) (Nat.le_of_ble_eq_true rfl) (Nat.le_of_ble_eq_true rfl) dd_M_init_17 (fun H hR hS => ?_)
  refine W.widen (k := 2) (n := 2800) (Nat.le_of_ble_eq_true rfl) (Nat.le_of_ble_eq_true rfl) ?_
  obtain ⟨h6, qh6, hm⟩ := ss_bind hm
  refine ss_putrF hC hK hR hS hin kq_M_13 rfl (Or.inr ⟨_, rfl⟩) qh6 dd_M_init_19 (fun H locs hR hS => ?_)
  refine ss_aload_n hx hb dd_M_init_22 rfl (lv_at hl 0 rfl) ?_
  refine lv_bipush (v := 7) hx hb dd_M_init_23 (by decide) ?_
  obtain ⟨r7, h8, qh8, hm⟩ := ss_bind2 hm
  refine ss_newai hC hK hR hS kt_int rfl rfl (by decide) (t0 := 0) rfl (by decide) qh8 (by decide) (Nat.le_of_ble_eq_true rfl) (Nat.le_of_ble_eq_true rfl) dd_M_init_25 (fun H hR hS => ?_)
  refine W.widen (k := 3) (n := 2807) (Nat.le_of_ble_eq_true rfl) (Nat.le_of_ble_eq_true rfl) ?_
  obtain ⟨h9, qh9, hm⟩ := ss_bind hm
  refine ss_putrF hC hK hR hS hin kq_M_17 rfl (Or.inr ⟨_, rfl⟩) qh9 dd_M_init_27 (fun H locs hR hS => ?_)
  refine ss_aload_n hx hb dd_M_init_30 rfl (lv_at hl 0 rfl) ?_
  refine lv_sipush (v := 288) hx hb dd_M_init_31 (by decide) ?_
  obtain ⟨r10, h11, qh11, hm⟩ := ss_bind2 hm
  refine ss_newai hC hK hR hS kt_int rfl rfl (by decide) (t0 := 0) rfl (by decide) qh11 (by decide) (Nat.le_of_ble_eq_true rfl) (Nat.le_of_ble_eq_true rfl) dd_M_init_34 (fun H hR hS => ?_)
  refine W.widen (k := 4) (n := 3095) (Nat.le_of_ble_eq_true rfl) (Nat.le_of_ble_eq_true rfl) ?_
  obtain ⟨h12, qh12, hm⟩ := ss_bind hm
  refine ss_putrF hC hK hR hS hin kq_M_20 rfl (Or.inr ⟨_, rfl⟩) qh12 dd_M_init_36 (fun H locs hR hS => ?_)
  refine ss_aload_n hx hb dd_M_init_39 rfl (lv_at hl 0 rfl) ?_
  refine lv_bipush (v := 6) hx hb dd_M_init_40 (by decide) ?_
  obtain ⟨r13, h14, qh14, hm⟩ := ss_bind2 hm
  refine ss_newai hC hK hR hS kt_int rfl rfl (by decide) (t0 := 0) rfl (by decide) qh14 (by decide) (Nat.le_of_ble_eq_true rfl) (Nat.le_of_ble_eq_true rfl) dd_M_init_42 (fun H hR hS => ?_)
  refine W.widen (k := 5) (n := 3101) (Nat.le_of_ble_eq_true rfl) (Nat.le_of_ble_eq_true rfl) ?_
  obtain ⟨h15, qh15, hm⟩ := ss_bind hm
  refine ss_putrF hC hK hR hS hin kq_M_23 rfl (Or.inr ⟨_, rfl⟩) qh15 dd_M_init_44 (fun H locs hR hS => ?_)
  refine ss_aload_n hx hb dd_M_init_47 rfl (lv_at hl 0 rfl) ?_
  refine lv_bipush (v := 93) hx hb dd_M_init_48 (by decide) ?_
  obtain ⟨r16, h17, qh17, hm⟩ := ss_bind2 hm
  refine ss_newai hC hK hR hS kt_int rfl rfl (by decide) (t0 := 0) rfl (by decide) qh17 (by decide) (Nat.le_of_ble_eq_true rfl) (Nat.le_of_ble_eq_true rfl) dd_M_init_50 (fun H hR hS => ?_)
  refine W.widen (k := 6) (n := 3194) (Nat.le_of_ble_eq_true rfl) (Nat.le_of_ble_eq_true rfl) ?_
  obtain ⟨h18, qh18, hm⟩ := ss_bind hm
  refine ss_putrF hC hK hR hS hin kq_M_26 rfl (Or.inr ⟨_, rfl⟩) qh18 dd_M_init_52 (fun H locs hR hS => ?_)
  refine ss_aload_n hx hb dd_M_init_55 rfl (lv_at hl 0 rfl) ?_
  refine lv_sipush (v := 400) hx hb dd_M_init_56 (by decide) ?_
  obtain ⟨r19, h20, qh20, hm⟩ := ss_bind2 hm
  refine ss_newai hC hK hR hS kt_int rfl rfl (by decide) (t0 := 0) rfl (by decide) qh20 (by decide) (Nat.le_of_ble_eq_true rfl) (Nat.le_of_ble_eq_true rfl) dd_M_init_59 (fun H hR hS => ?_)
  refine W.widen (k := 7) (n := 3594) (Nat.le_of_ble_eq_true rfl) (Nat.le_of_ble_eq_true rfl) ?_
  obtain ⟨h21, qh21, hm⟩ := ss_bind hm
  refine ss_putrF hC hK hR hS hin kq_M_29 rfl (Or.inr ⟨_, rfl⟩) qh21 dd_M_init_61 (fun H locs hR hS => ?_)
  refine ss_aload_n hx hb dd_M_init_64 rfl (lv_at hl 0 rfl) ?_
  refine lv_bipush (v := 64) hx hb dd_M_init_65 (by decide) ?_
  obtain ⟨r22, h23, qh23, hm⟩ := ss_bind2 hm
  refine ss_newal hC hK hR hS kt_long qh23 (by decide) (Nat.le_of_ble_eq_true rfl) (Nat.le_of_ble_eq_true rfl) dd_M_init_67 (fun H hR hS => ?_)
  refine W.widen (k := 8) (n := 3658) (Nat.le_of_ble_eq_true rfl) (Nat.le_of_ble_eq_true rfl) ?_
  obtain ⟨h24, qh24, hm⟩ := ss_bind hm
  refine ss_putrF hC hK hR hS hin kq_M_32 rfl (Or.inr ⟨_, rfl⟩) qh24 dd_M_init_69 (fun H locs hR hS => ?_)
  refine ss_aload_n hx hb dd_M_init_72 rfl (lv_at hl 0 rfl) ?_
  refine lv_bipush (v := 12) hx hb dd_M_init_73 (by decide) ?_
  obtain ⟨r25, h26, qh26, hm⟩ := ss_bind2 hm
  refine ss_newal hC hK hR hS kt_long qh26 (by decide) (Nat.le_of_ble_eq_true rfl) (Nat.le_of_ble_eq_true rfl) dd_M_init_75 (fun H hR hS => ?_)
  refine W.widen (k := 9) (n := 3670) (Nat.le_of_ble_eq_true rfl) (Nat.le_of_ble_eq_true rfl) ?_
  obtain ⟨h27, qh27, hm⟩ := ss_bind hm
  refine ss_putrF hC hK hR hS hin kq_M_36 rfl (Or.inr ⟨_, rfl⟩) qh27 dd_M_init_77 (fun H locs hR hS => ?_)
  refine ss_aload_n hx hb dd_M_init_80 rfl (lv_at hl 0 rfl) ?_
  refine lv_bipush (v := 124) hx hb dd_M_init_81 (by decide) ?_
  obtain ⟨r28, h29, qh29, hm⟩ := ss_bind2 hm
  refine ss_newai hC hK hR hS kt_int rfl rfl (by decide) (t0 := 0) rfl (by decide) qh29 (by decide) (Nat.le_of_ble_eq_true rfl) (Nat.le_of_ble_eq_true rfl) dd_M_init_83 (fun H hR hS => ?_)
  refine W.widen (k := 10) (n := 3794) (Nat.le_of_ble_eq_true rfl) (Nat.le_of_ble_eq_true rfl) ?_
  obtain ⟨h30, qh30, hm⟩ := ss_bind hm
  refine ss_putrF hC hK hR hS hin kq_M_39 rfl (Or.inr ⟨_, rfl⟩) qh30 dd_M_init_85 (fun H locs hR hS => ?_)
  refine ss_aload_n hx hb dd_M_init_88 rfl (lv_at hl 0 rfl) ?_
  refine lv_iconst (v := -1) hx hb dd_M_init_89 (by decide) ?_
  obtain ⟨h31, qh31, hm⟩ := ss_bind hm
  refine ss_puti hC hK hR hS kp_M_42 qh31 dd_M_init_90 (fun H locs hR hS => ?_)
  refine ss_aload_n hx hb dd_M_init_93 rfl (lv_at hl 0 rfl) ?_
  refine lv_bipush (v := 8) hx hb dd_M_init_94 (by decide) ?_
  obtain ⟨r32, h33, qh33, hm⟩ := ss_bind2 hm
  refine ss_newai hC hK hR hS kt_int rfl rfl (by decide) (t0 := 0) rfl (by decide) qh33 (by decide) (Nat.le_of_ble_eq_true rfl) (Nat.le_of_ble_eq_true rfl) dd_M_init_96 (fun H hR hS => ?_)
  refine W.widen (k := 11) (n := 3802) (Nat.le_of_ble_eq_true rfl) (Nat.le_of_ble_eq_true rfl) ?_
  obtain ⟨h34, qh34, hm⟩ := ss_bind hm
  refine ss_putrF hC hK hR hS hin kq_M_46 rfl (Or.inr ⟨_, rfl⟩) qh34 dd_M_init_98 (fun H locs hR hS => ?_)
  refine ss_aload_n hx hb dd_M_init_101 rfl (lv_at hl 0 rfl) ?_
  refine lv_bipush (v := 8) hx hb dd_M_init_102 (by decide) ?_
  obtain ⟨r35, h36, qh36, hm⟩ := ss_bind2 hm
  refine ss_newai hC hK hR hS kt_int rfl rfl (by decide) (t0 := 0) rfl (by decide) qh36 (by decide) (Nat.le_of_ble_eq_true rfl) (Nat.le_of_ble_eq_true rfl) dd_M_init_104 (fun H hR hS => ?_)
  refine W.widen (k := 12) (n := 3810) (Nat.le_of_ble_eq_true rfl) (Nat.le_of_ble_eq_true rfl) ?_
  obtain ⟨h37, qh37, hm⟩ := ss_bind hm
  refine ss_putrF hC hK hR hS hin kq_M_49 rfl (Or.inr ⟨_, rfl⟩) qh37 dd_M_init_106 (fun H locs hR hS => ?_)
  refine ss_aload_n hx hb dd_M_init_109 rfl (lv_at hl 0 rfl) ?_
  refine lv_sipush (v := 400) hx hb dd_M_init_110 (by decide) ?_
  obtain ⟨r38, h39, qh39, hm⟩ := ss_bind2 hm
  refine ss_newai hC hK hR hS kt_int rfl rfl (by decide) (t0 := 0) rfl (by decide) qh39 (by decide) (Nat.le_of_ble_eq_true rfl) (Nat.le_of_ble_eq_true rfl) dd_M_init_113 (fun H hR hS => ?_)
  refine W.widen (k := 13) (n := 4210) (Nat.le_of_ble_eq_true rfl) (Nat.le_of_ble_eq_true rfl) ?_
  obtain ⟨h40, qh40, hm⟩ := ss_bind hm
  refine ss_putrF hC hK hR hS hin kq_M_52 rfl (Or.inr ⟨_, rfl⟩) qh40 dd_M_init_115 (fun H locs hR hS => ?_)
  refine ss_aload_n hx hb dd_M_init_118 rfl (lv_at hl 0 rfl) ?_
  refine lv_bipush (v := 20) hx hb dd_M_init_119 (by decide) ?_
  obtain ⟨r41, h42, qh42, hm⟩ := ss_bind2 hm
  refine ss_newai hC hK hR hS kt_int rfl rfl (by decide) (t0 := 0) rfl (by decide) qh42 (by decide) (Nat.le_of_ble_eq_true rfl) (Nat.le_of_ble_eq_true rfl) dd_M_init_121 (fun H hR hS => ?_)
  refine W.widen (k := 14) (n := 4230) (Nat.le_of_ble_eq_true rfl) (Nat.le_of_ble_eq_true rfl) ?_
  obtain ⟨h43, qh43, hm⟩ := ss_bind hm
  refine ss_putrF hC hK hR hS hin kq_M_55 rfl (Or.inr ⟨_, rfl⟩) qh43 dd_M_init_123 (fun H locs hR hS => ?_)
  refine ss_aload_n hx hb dd_M_init_126 rfl (lv_at hl 0 rfl) ?_
  refine lv_sipush (v := 488) hx hb dd_M_init_127 (by decide) ?_
  obtain ⟨r44, h45, qh45, hm⟩ := ss_bind2 hm
  refine ss_newai hC hK hR hS kt_int rfl rfl (by decide) (t0 := 0) rfl (by decide) qh45 (by decide) (Nat.le_of_ble_eq_true rfl) (Nat.le_of_ble_eq_true rfl) dd_M_init_130 (fun H hR hS => ?_)
  refine W.widen (k := 15) (n := 4718) (Nat.le_of_ble_eq_true rfl) (Nat.le_of_ble_eq_true rfl) ?_
  obtain ⟨h46, qh46, hm⟩ := ss_bind hm
  refine ss_putrF hC hK hR hS hin kq_M_58 rfl (Or.inr ⟨_, rfl⟩) qh46 dd_M_init_132 (fun H locs hR hS => ?_)
  refine ss_aload_n hx hb dd_M_init_135 rfl (lv_at hl 0 rfl) ?_
  refine lv_bipush (v := 8) hx hb dd_M_init_136 (by decide) ?_
  obtain ⟨r47, h48, qh48, hm⟩ := ss_bind2 hm
  refine ss_newai hC hK hR hS kt_int rfl rfl (by decide) (t0 := 0) rfl (by decide) qh48 (by decide) (Nat.le_of_ble_eq_true rfl) (Nat.le_of_ble_eq_true rfl) dd_M_init_138 (fun H hR hS => ?_)
  refine W.widen (k := 16) (n := 4726) (Nat.le_of_ble_eq_true rfl) (Nat.le_of_ble_eq_true rfl) ?_
  obtain ⟨h49, qh49, hm⟩ := ss_bind hm
  refine ss_putrF hC hK hR hS hin kq_M_61 rfl (Or.inr ⟨_, rfl⟩) qh49 dd_M_init_140 (fun H locs hR hS => ?_)
  refine ss_aload_n hx hb dd_M_init_143 rfl (lv_at hl 0 rfl) ?_
  refine lv_bipush (v := 64) hx hb dd_M_init_144 (by decide) ?_
  obtain ⟨r50, h51, qh51, hm⟩ := ss_bind2 hm
  refine ss_newai hC hK hR hS kt_int rfl rfl (by decide) (t0 := 0) rfl (by decide) qh51 (by decide) (Nat.le_of_ble_eq_true rfl) (Nat.le_of_ble_eq_true rfl) dd_M_init_146 (fun H hR hS => ?_)
  refine W.widen (k := 17) (n := 4790) (Nat.le_of_ble_eq_true rfl) (Nat.le_of_ble_eq_true rfl) ?_
  obtain ⟨h52, qh52, hm⟩ := ss_bind hm
  refine ss_putrF hC hK hR hS hin kq_M_64 rfl (Or.inr ⟨_, rfl⟩) qh52 dd_M_init_148 (fun H locs hR hS => ?_)
  refine ss_aload_n hx hb dd_M_init_151 rfl (lv_at hl 0 rfl) ?_
  refine lv_bipush (v := 7) hx hb dd_M_init_152 (by decide) ?_
  obtain ⟨r53, h54, qh54, hm⟩ := ss_bind2 hm
  refine ss_newai hC hK hR hS kt_boolean rfl rfl (by decide) (t0 := 2) rfl (by decide) qh54 (by decide) (Nat.le_of_ble_eq_true rfl) (Nat.le_of_ble_eq_true rfl) dd_M_init_154 (fun H hR hS => ?_)
  refine W.widen (k := 18) (n := 4797) (Nat.le_of_ble_eq_true rfl) (Nat.le_of_ble_eq_true rfl) ?_
  obtain ⟨h55, qh55, hm⟩ := ss_bind hm
  refine ss_putrF hC hK hR hS hin kq_M_67 rfl (Or.inr ⟨_, rfl⟩) qh55 dd_M_init_156 (fun H locs hR hS => ?_)
  refine ss_aload_n hx hb dd_M_init_159 rfl (lv_at hl 0 rfl) ?_
  refine lv_bipush (v := 56) hx hb dd_M_init_160 (by decide) ?_
  obtain ⟨r56, h57, qh57, hm⟩ := ss_bind2 hm
  refine ss_newai hC hK hR hS kt_int rfl rfl (by decide) (t0 := 0) rfl (by decide) qh57 (by decide) (Nat.le_of_ble_eq_true rfl) (Nat.le_of_ble_eq_true rfl) dd_M_init_162 (fun H hR hS => ?_)
  refine W.widen (k := 19) (n := 4853) (Nat.le_of_ble_eq_true rfl) (Nat.le_of_ble_eq_true rfl) ?_
  obtain ⟨h58, qh58, hm⟩ := ss_bind hm
  refine ss_putrF hC hK hR hS hin kq_M_71 rfl (Or.inr ⟨_, rfl⟩) qh58 dd_M_init_164 (fun H locs hR hS => ?_)
  refine ss_aload_n hx hb dd_M_init_167 rfl (lv_at hl 0 rfl) ?_
  refine lv_sipush (v := 496) hx hb dd_M_init_168 (by decide) ?_
  obtain ⟨r59, h60, qh60, hm⟩ := ss_bind2 hm
  refine ss_newai hC hK hR hS kt_int rfl rfl (by decide) (t0 := 0) rfl (by decide) qh60 (by decide) (Nat.le_of_ble_eq_true rfl) (Nat.le_of_ble_eq_true rfl) dd_M_init_171 (fun H hR hS => ?_)
  refine W.widen (k := 20) (n := 5349) (Nat.le_of_ble_eq_true rfl) (Nat.le_of_ble_eq_true rfl) ?_
  obtain ⟨h61, qh61, hm⟩ := ss_bind hm
  refine ss_putrF hC hK hR hS hin kq_M_74 rfl (Or.inr ⟨_, rfl⟩) qh61 dd_M_init_173 (fun H locs hR hS => ?_)
  refine ss_aload_n hx hb dd_M_init_176 rfl (lv_at hl 0 rfl) ?_
  refine lv_iconst (v := 4) hx hb dd_M_init_177 (by decide) ?_
  obtain ⟨r62, h63, qh63, hm⟩ := ss_bind2 hm
  refine ss_newai hC hK hR hS kt_int rfl rfl (by decide) (t0 := 0) rfl (by decide) qh63 (by decide) (Nat.le_of_ble_eq_true rfl) (Nat.le_of_ble_eq_true rfl) dd_M_init_178 (fun H hR hS => ?_)
  refine W.widen (k := 21) (n := 5353) (Nat.le_of_ble_eq_true rfl) (Nat.le_of_ble_eq_true rfl) ?_
  obtain ⟨h64, qh64, hm⟩ := ss_bind hm
  refine ss_putrF hC hK hR hS hin kq_M_77 rfl (Or.inr ⟨_, rfl⟩) qh64 dd_M_init_180 (fun H locs hR hS => ?_)
  refine ss_aload_n hx hb dd_M_init_183 rfl (lv_at hl 0 rfl) ?_
  refine lv_iconst (v := 4) hx hb dd_M_init_184 (by decide) ?_
  obtain ⟨r65, h66, qh66, hm⟩ := ss_bind2 hm
  refine ss_newai hC hK hR hS kt_int rfl rfl (by decide) (t0 := 0) rfl (by decide) qh66 (by decide) (Nat.le_of_ble_eq_true rfl) (Nat.le_of_ble_eq_true rfl) dd_M_init_185 (fun H hR hS => ?_)
  refine W.widen (k := 22) (n := 5357) (Nat.le_of_ble_eq_true rfl) (Nat.le_of_ble_eq_true rfl) ?_
  obtain ⟨h67, qh67, hm⟩ := ss_bind hm
  refine ss_putrF hC hK hR hS hin kq_M_80 rfl (Or.inr ⟨_, rfl⟩) qh67 dd_M_init_187 (fun H locs hR hS => ?_)
  refine ss_aload_n hx hb dd_M_init_190 rfl (lv_at hl 0 rfl) ?_
  refine lv_iconst (v := 4) hx hb dd_M_init_191 (by decide) ?_
  obtain ⟨r68, h69, qh69, hm⟩ := ss_bind2 hm
  refine ss_newai hC hK hR hS kt_boolean rfl rfl (by decide) (t0 := 2) rfl (by decide) qh69 (by decide) (Nat.le_of_ble_eq_true rfl) (Nat.le_of_ble_eq_true rfl) dd_M_init_192 (fun H hR hS => ?_)
  refine W.widen (k := 23) (n := 5361) (Nat.le_of_ble_eq_true rfl) (Nat.le_of_ble_eq_true rfl) ?_
  obtain ⟨h70, qh70, hm⟩ := ss_bind hm
  refine ss_putrF hC hK hR hS hin kq_M_83 rfl (Or.inr ⟨_, rfl⟩) qh70 dd_M_init_194 (fun H locs hR hS => ?_)
  exact ss_vret hC hr hlocks hR hS hm dd_M_init_197
theorem dd_M_four_0 : decode bb_M_four 0 = .ok (.bipush 24, 2) := by decide +kernel
theorem dd_M_four_2 : decode bb_M_four 2 = .ok (.istore_n 2, 1) := by decide +kernel
theorem dd_M_four_3 : decode bb_M_four 3 = .ok (.iload_n 2, 1) := by decide +kernel
theorem dd_M_four_4 : decode bb_M_four 4 = .ok (.ifCond .lt 32, 3) := by decide +kernel
theorem dd_M_four_7 : decode bb_M_four 7 = .ok (.aload_n 0, 1) := by decide +kernel
theorem dd_M_four_8 : decode bb_M_four 8 = .ok (.getfield 7, 3) := by decide +kernel
theorem dd_M_four_11 : decode bb_M_four 11 = .ok (.aload_n 0, 1) := by decide +kernel
theorem dd_M_four_12 : decode bb_M_four 12 = .ok (.getfield 86, 3) := by decide +kernel
theorem dd_M_four_15 : decode bb_M_four 15 = .ok (.iload_n 1, 1) := by decide +kernel
theorem dd_M_four_16 : decode bb_M_four 16 = .ok (.iload_n 2, 1) := by decide +kernel
theorem dd_M_four_17 : decode bb_M_four 17 = .ok (.ishr, 1) := by decide +kernel
theorem dd_M_four_18 : decode bb_M_four 18 = .ok (.i2b, 1) := by decide +kernel
theorem dd_M_four_19 : decode bb_M_four 19 = .ok (.bastore, 1) := by decide +kernel
theorem dd_M_four_20 : decode bb_M_four 20 = .ok (.aload_n 0, 1) := by decide +kernel
theorem dd_M_four_21 : decode bb_M_four 21 = .ok (.dup, 1) := by decide +kernel
theorem dd_M_four_22 : decode bb_M_four 22 = .ok (.getfield 86, 3) := by decide +kernel
theorem dd_M_four_25 : decode bb_M_four 25 = .ok (.iconst 1, 1) := by decide +kernel
theorem dd_M_four_26 : decode bb_M_four 26 = .ok (.iadd, 1) := by decide +kernel
theorem dd_M_four_27 : decode bb_M_four 27 = .ok (.putfield 86, 3) := by decide +kernel
theorem dd_M_four_30 : decode bb_M_four 30 = .ok (.iinc 2 (-8), 3) := by decide +kernel
theorem dd_M_four_33 : decode bb_M_four 33 = .ok (.goto (-30), 3) := by decide +kernel
theorem dd_M_four_36 : decode bb_M_four 36 = .ok (.return_, 1) := by decide +kernel
def mm_M_four_b3 (N : Nat) (this : Option Nat) (a1 : Int32) (st : Int32 × ss_Hp) : Option ((Int32 × ss_Hp) ⊕ ss_Hp) :=
  match st with
  | (x2_3, h_3) =>
    if x2_3 < 0 then
      some (.inr h_3)
    else
      (ss_gr h_3 this 12 0).bind fun r2 =>
      (ss_gi h_3 this 12 0).bind fun v3 =>
      (ss_ui h_3 r2 21 v3 (vp_nar .byte (((a1 >>> (x2_3 &&& 31))).toInt8.toInt32))).bind fun h4 =>
      (ss_gi h4 this 12 0).bind fun v5 =>
      (ss_pi h4 this 12 0 (v5 + (1 : Int32))).bind fun h6 =>
      (some (x2_3 + (-8 : Int32))).bind fun v7 =>
      some (.inl (v7, h6))
def mm_M_four (N : Nat) (this : Option Nat) (a1 : Int32) (h : ss_Hp) : Option ss_Hp :=
  if ss_is h this 12 = true then
    (ss_lp (mm_M_four_b3 N this a1) N ((24 : Int32), h)).bind fun h_3_36 =>
    some h_3_36
  else none
abbrev ww_M_four (p : Program) (l : Launch) (e : Env) (s : State) (m : MethodId) (below : List Frame) (meth : Method) (c : Code) (G : ss_G) (this : Option Nat) (a1 : Int32) (h : ss_Hp) (hh : ss_Hp) (H : Heap) (locs : List Loc) (k n : Nat) (g : JFrame) : Prop := W p l e (headSpec (ss_w yy_M_four bb_M_four 3 none) ({ frames := 0, cells := 0, slots := 0, locals := 0 })).room s m ([ss_v (ss_b G) this, .int a1] : List Value).toArray below meth c H locs k n (MQ below (ss_Qc G none hh) ([ss_v (ss_b G) this, .int a1] : List Value).toArray s 0 0 (ss_A G)) g
theorem ck_M_four {N : Nat} {this : Option Nat} {a1 : Int32} {h : ss_Hp} {res : ss_Hp} (hm : mm_M_four N this a1 h = some res) : ss_is h this 12 = true := (ss_chk hm).1
set_option maxHeartbeats 4000000 in
set_option maxRecDepth 100000 in
theorem cc_M_four (l : Launch) (G : ss_G) (N : Nat) (this : Option Nat) (a1 : Int32) (h : ss_Hp) (hh : ss_Hp) (hm : mm_M_four N this a1 h = some hh) : ss_Ct l G yy_M_four bb_M_four 3 none ({ frames := 0, cells := 0, slots := 0, locals := 0 }) [ss_v (ss_b G) this, .int a1] h none hh := by
  obtain ⟨hck, hm⟩ := ss_chk hm
  refine Met.ofW (cc := bb_M_four) (maxL := 3) (ret := none) (by decide) rfl ?_
  intro p e s m args below meth c s₁ B hml hv
  obtain ⟨rfl, hR, hK⟩ := hv
  have hC : CallFix p m c bb_M_four 3 s _ lw_g sR_12 := ⟨B.exec, B.bytes, hml, findClass_of_methodNamed B.named, fun w hw => atoms_spec (ws := ss_w yy_M_four bb_M_four 3 none) B.pre w (List.mem_cons_of_mem _ hw)⟩
  have hx := hC.1
  have hb := hC.2.1
  have hr := B.returns
  have hlocks := B.notSynchronized
  have hS : va_S (ss_A G) s.heap s.heap [] := va_S.rf
  have hl := lv_entry ([ss_v (ss_b G) this, .int a1]) (n := 3) (by simp [lg_sl, ss_v_cat, ss_cat_i, ss_cat_l, ss_cat_r])
  rw [lg_entry_eq]
  generalize (lg_sl ([ss_v (ss_b G) this, .int a1]) ++ List.replicate (3 - (lg_sl ([ss_v (ss_b G) this, .int a1])).length) Slot.unset).toArray = ls at hl ⊢
  have hl : lv_has ls 3 [(0, ss_v (ss_b G) this), (1, .int a1)] := by simpa [lv_args, ss_v_cat, ss_cat_i, ss_cat_l, ss_cat_r] using hl
  refine lv_bipush (v := 24) hx hb dd_M_four_0 (by decide) ?_
  refine lv_istore_n (lv' := [(2, .int (24 : Int32)), (0, ss_v (ss_b G) this), (1, .int a1)]) hx hb dd_M_four_2 rfl hl (by decide) rfl (fun ls hl => ?_)
  obtain ⟨e_3, he_3, hm⟩ := ss_bind hm
  have X_3_36 : ∀  (h_3_36 : ss_Hp) (H : Heap) (locs : List Loc) (ls : Array Slot), e_3 = h_3_36 → ss_R G h_3_36 H → va_S (ss_A G) s.heap H locs → lv_has ls 3 [] → ww_M_four p l e s m below meth c G this a1 h hh  H locs 0 0 (F0 m 36 ls []) := by
    intro h_3_36 H locs ls hq hR hS hl
    rw [hq] at hm
    exact ss_vret hC hr hlocks hR hS hm dd_M_four_36
  have L_3 : ∀ (n : Nat) (x2_3 : Int32) (h_3 : ss_Hp) (H : Heap) (locs : List Loc) (ls : Array Slot), ss_lp (mm_M_four_b3 N this a1) n (x2_3, h_3) = some e_3 → ss_R G h_3 H → va_S (ss_A G) s.heap H locs → lv_has ls 3 [(0, ss_v (ss_b G) this), (1, .int a1), (2, .int x2_3)] → ww_M_four p l e s m below meth c G this a1 h hh  H locs 0 0 (F0 m 3 ls []) := by
    intro n
    induction n with
    | zero => intro x2_3 h_3 H locs ls hm; cases hm
    | succ n ih_3 =>
      intro x2_3 h_3 H locs ls hm hR hS hl
      obtain ⟨z_3, hm, hz1_3, hz2_3⟩ := ss_lps hm
      refine lv_iload_n hx hb dd_M_four_3 rfl (lv_at hl 2 rfl) ?_
      refine lv_if_lt (tgt := 36) hx hb dd_M_four_4 (by decide) (fun c1 => ?_) (fun c1 => ?_)
      · have hm := ss_ift hm c1
        exact X_3_36 h_3 _ _ _ (hz2_3 _ (ss_some hm)) hR hS (lv_sub hl [] rfl)
      · have hm := ss_iff hm c1
        refine ss_aload_n hx hb dd_M_four_7 rfl (lv_at hl 0 rfl) ?_
        obtain ⟨r2, qr2, hm⟩ := ss_bind hm
        refine ss_getr hC hK hR kf_M_7 rfl qr2 dd_M_four_8 ?_
        refine ss_aload_n hx hb dd_M_four_11 rfl (lv_at hl 0 rfl) ?_
        obtain ⟨v3, qv3, hm⟩ := ss_bind hm
        refine ss_geti hC hK hR kf_M_86 qv3 dd_M_four_12 ?_
        refine lv_iload_n hx hb dd_M_four_15 rfl (lv_at hl 1 rfl) ?_
        refine lv_iload_n hx hb dd_M_four_16 rfl (lv_at hl 2 rfl) ?_
        refine lv_ishr hx hb dd_M_four_17 ?_
        refine lv_i2b hx hb dd_M_four_18 rfl ?_
        obtain ⟨h4, qh4, hm⟩ := ss_bind hm
        refine ss_bast hC hK hR hS qh4 dd_M_four_19 (fun H locs hR hS => ?_)
        refine ss_aload_n hx hb dd_M_four_20 rfl (lv_at hl 0 rfl) ?_
        refine ss_dupr hx hb dd_M_four_21 ?_
        obtain ⟨v5, qv5, hm⟩ := ss_bind hm
        refine ss_geti hC hK hR kf_M_86 qv5 dd_M_four_22 ?_
        refine lv_iconst (v := 1) hx hb dd_M_four_25 (by decide) ?_
        refine lv_iadd hx hb dd_M_four_26 ?_
        obtain ⟨h6, qh6, hm⟩ := ss_bind hm
        refine ss_puti hC hK hR hS kp_M_86 qh6 dd_M_four_27 (fun H locs hR hS => ?_)
        obtain ⟨v7, qv7, hm⟩ := ss_bind hm
        refine lv_iinc (v := v7) (lv' := [(2, .int v7), (0, ss_v (ss_b G) this), (1, .int a1)]) hx hb dd_M_four_30 hl (k := 2) rfl (ss_inc (by decide) qv7) (by decide) rfl (fun ls hl => ?_)
        refine lv_goto (tgt := 3) hx hb dd_M_four_33 (by decide) ?_
        exact ih_3 v7 h6 _ _ _ (hz1_3 _ (ss_some hm)) hR hS (lv_sub hl [1, 2, 0] rfl)
  exact L_3 N (24 : Int32) h _ _ _ he_3 hR hS (lv_sub hl [1, 2, 0] rfl)
theorem dd_M_feed_0 : decode bb_M_feed 0 = .ok (.aload_n 0, 1) := by decide +kernel
theorem dd_M_feed_1 : decode bb_M_feed 1 = .ok (.getfield 86, 3) := by decide +kernel
theorem dd_M_feed_4 : decode bb_M_feed 4 = .ok (.bipush 20, 2) := by decide +kernel
theorem dd_M_feed_6 : decode bb_M_feed 6 = .ok (.iadd, 1) := by decide +kernel
theorem dd_M_feed_7 : decode bb_M_feed 7 = .ok (.sipush 400, 3) := by decide +kernel
theorem dd_M_feed_10 : decode bb_M_feed 10 = .ok (.if_icmp .le 5, 3) := by decide +kernel
theorem dd_M_feed_13 : decode bb_M_feed 13 = .ok (.iconst (-1), 1) := by decide +kernel
theorem dd_M_feed_14 : decode bb_M_feed 14 = .ok (.ireturn, 1) := by decide +kernel
theorem dd_M_feed_15 : decode bb_M_feed 15 = .ok (.aload_n 0, 1) := by decide +kernel
theorem dd_M_feed_16 : decode bb_M_feed 16 = .ok (.iload_n 1, 1) := by decide +kernel
theorem dd_M_feed_17 : decode bb_M_feed 17 = .ok (.invokevirtual 89, 3) := by decide +kernel
theorem dd_M_feed_20 : decode bb_M_feed 20 = .ok (.aload_n 0, 1) := by decide +kernel
theorem dd_M_feed_21 : decode bb_M_feed 21 = .ok (.iload_n 2, 1) := by decide +kernel
theorem dd_M_feed_22 : decode bb_M_feed 22 = .ok (.invokevirtual 89, 3) := by decide +kernel
theorem dd_M_feed_25 : decode bb_M_feed 25 = .ok (.aload_n 0, 1) := by decide +kernel
theorem dd_M_feed_26 : decode bb_M_feed 26 = .ok (.iload_n 3, 1) := by decide +kernel
theorem dd_M_feed_27 : decode bb_M_feed 27 = .ok (.invokevirtual 89, 3) := by decide +kernel
theorem dd_M_feed_30 : decode bb_M_feed 30 = .ok (.aload_n 0, 1) := by decide +kernel
theorem dd_M_feed_31 : decode bb_M_feed 31 = .ok (.iload 4, 2) := by decide +kernel
theorem dd_M_feed_33 : decode bb_M_feed 33 = .ok (.invokevirtual 89, 3) := by decide +kernel
theorem dd_M_feed_36 : decode bb_M_feed 36 = .ok (.aload_n 0, 1) := by decide +kernel
theorem dd_M_feed_37 : decode bb_M_feed 37 = .ok (.iload 5, 2) := by decide +kernel
theorem dd_M_feed_39 : decode bb_M_feed 39 = .ok (.invokevirtual 89, 3) := by decide +kernel
theorem dd_M_feed_42 : decode bb_M_feed 42 = .ok (.aload_n 0, 1) := by decide +kernel
theorem dd_M_feed_43 : decode bb_M_feed 43 = .ok (.getfield 86, 3) := by decide +kernel
theorem dd_M_feed_46 : decode bb_M_feed 46 = .ok (.ireturn, 1) := by decide +kernel
def mm_M_feed (N : Nat) (this : Option Nat) (a1 : Int32) (a2 : Int32) (a3 : Int32) (a4 : Int32) (a5 : Int32) (h : ss_Hp) : Option (Int32 × ss_Hp) :=
  if ss_is h this 12 = true then
    (ss_gi h this 12 0).bind fun v1 =>
    if (v1 + (20 : Int32)) ≤ (400 : Int32) then
      (mm_M_four N this a1 h).bind fun h3 =>
      (mm_M_four N this a2 h3).bind fun h4 =>
      (mm_M_four N this a3 h4).bind fun h5 =>
      (mm_M_four N this a4 h5).bind fun h6 =>
      (mm_M_four N this a5 h6).bind fun h7 =>
      (ss_gi h7 this 12 0).bind fun v8 =>
      some (v8, h7)
    else
      some ((-1 : Int32), h)
  else none
abbrev ww_M_feed (p : Program) (l : Launch) (e : Env) (s : State) (m : MethodId) (below : List Frame) (meth : Method) (c : Code) (G : ss_G) (this : Option Nat) (a1 : Int32) (a2 : Int32) (a3 : Int32) (a4 : Int32) (a5 : Int32) (h : ss_Hp) (rr : Int32) (hh : ss_Hp) (H : Heap) (locs : List Loc) (k n : Nat) (g : JFrame) : Prop := W p l e (headSpec (ss_w yy_M_feed bb_M_feed 6 (some (.int))) ({ frames := 1, cells := 0, slots := 0, locals := 22 })).room s m ([ss_v (ss_b G) this, .int a1, .int a2, .int a3, .int a4, .int a5] : List Value).toArray below meth c H locs k n (MQ below (ss_Qc G (some (.int rr)) hh) ([ss_v (ss_b G) this, .int a1, .int a2, .int a3, .int a4, .int a5] : List Value).toArray s 0 0 (ss_A G)) g
theorem ck_M_feed {N : Nat} {this : Option Nat} {a1 : Int32} {a2 : Int32} {a3 : Int32} {a4 : Int32} {a5 : Int32} {h : ss_Hp} {res : Int32 × ss_Hp} (hm : mm_M_feed N this a1 a2 a3 a4 a5 h = some res) : ss_is h this 12 = true := (ss_chk hm).1
set_option maxHeartbeats 4000000 in
set_option maxRecDepth 100000 in
theorem cc_M_feed (l : Launch) (G : ss_G) (N : Nat) (this : Option Nat) (a1 : Int32) (a2 : Int32) (a3 : Int32) (a4 : Int32) (a5 : Int32) (h : ss_Hp) (rr : Int32) (hh : ss_Hp) (hm : mm_M_feed N this a1 a2 a3 a4 a5 h = some (rr, hh)) : ss_Ct l G yy_M_feed bb_M_feed 6 (some (.int)) ({ frames := 1, cells := 0, slots := 0, locals := 22 }) [ss_v (ss_b G) this, .int a1, .int a2, .int a3, .int a4, .int a5] h (some (.int rr)) hh := by
  obtain ⟨hck, hm⟩ := ss_chk hm
  refine Met.ofW (cc := bb_M_feed) (maxL := 6) (ret := (some (.int))) (by decide) rfl ?_
  intro p e s m args below meth c s₁ B hml hv
  obtain ⟨rfl, hR, hK⟩ := hv
  have hC : CallFix p m c bb_M_feed 6 s _ lw_g sR_12 := ⟨B.exec, B.bytes, hml, findClass_of_methodNamed B.named, fun w hw => atoms_spec (ws := ss_w yy_M_feed bb_M_feed 6 (some (.int))) B.pre w (List.mem_cons_of_mem _ hw)⟩
  have hx := hC.1
  have hb := hC.2.1
  have hr := B.returns
  have hlocks := B.notSynchronized
  have hS : va_S (ss_A G) s.heap s.heap [] := va_S.rf
  have hl := lv_entry ([ss_v (ss_b G) this, .int a1, .int a2, .int a3, .int a4, .int a5]) (n := 6) (by simp [lg_sl, ss_v_cat, ss_cat_i, ss_cat_l, ss_cat_r])
  rw [lg_entry_eq]
  generalize (lg_sl ([ss_v (ss_b G) this, .int a1, .int a2, .int a3, .int a4, .int a5]) ++ List.replicate (6 - (lg_sl ([ss_v (ss_b G) this, .int a1, .int a2, .int a3, .int a4, .int a5])).length) Slot.unset).toArray = ls at hl ⊢
  have hl : lv_has ls 6 [(0, ss_v (ss_b G) this), (1, .int a1), (2, .int a2), (3, .int a3), (4, .int a4), (5, .int a5)] := by simpa [lv_args, ss_v_cat, ss_cat_i, ss_cat_l, ss_cat_r] using hl
  refine ss_aload_n hx hb dd_M_feed_0 rfl (lv_at hl 0 rfl) ?_
  obtain ⟨v1, qv1, hm⟩ := ss_bind hm
  refine ss_geti hC hK hR kf_M_86 qv1 dd_M_feed_1 ?_
  refine lv_bipush (v := 20) hx hb dd_M_feed_4 (by decide) ?_
  refine lv_iadd hx hb dd_M_feed_6 ?_
  refine lv_sipush (v := 400) hx hb dd_M_feed_7 (by decide) ?_
  refine lv_icmp_le (tgt := 15) hx hb dd_M_feed_10 (by decide) (fun c2 => ?_) (fun c2 => ?_)
  · have hm := ss_ift hm c2
    refine ss_aload_n hx hb dd_M_feed_15 rfl (lv_at hl 0 rfl) ?_
    refine lv_iload_n hx hb dd_M_feed_16 rfl (lv_at hl 1 rfl) ?_
    obtain ⟨h3, qh3, hm⟩ := ss_bind hm
    refine ss_cVv 0 0 (As := [.int a1]) hC hK hR hS hl.1 (cc_M_four l G N _ _ _ _ qh3) km_M_89 (ck_M_four qh3) ⟨Nat.le_of_ble_eq_true rfl, Nat.le_of_ble_eq_true rfl⟩ ⟨Nat.le_of_ble_eq_true rfl, Nat.le_of_ble_eq_true rfl, Nat.le_of_ble_eq_true rfl, Nat.le_of_ble_eq_true rfl⟩ rfl rfl (Nat.le_of_ble_eq_true rfl) dd_M_feed_17 (fun H locs hR hS => ?_)
    refine ss_aload_n hx hb dd_M_feed_20 rfl (lv_at hl 0 rfl) ?_
    refine lv_iload_n hx hb dd_M_feed_21 rfl (lv_at hl 2 rfl) ?_
    obtain ⟨h4, qh4, hm⟩ := ss_bind hm
    refine ss_cVv 0 0 (As := [.int a2]) hC hK hR hS hl.1 (cc_M_four l G N _ _ _ _ qh4) km_M_89 (ck_M_four qh4) ⟨Nat.le_of_ble_eq_true rfl, Nat.le_of_ble_eq_true rfl⟩ ⟨Nat.le_of_ble_eq_true rfl, Nat.le_of_ble_eq_true rfl, Nat.le_of_ble_eq_true rfl, Nat.le_of_ble_eq_true rfl⟩ rfl rfl (Nat.le_of_ble_eq_true rfl) dd_M_feed_22 (fun H locs hR hS => ?_)
    refine ss_aload_n hx hb dd_M_feed_25 rfl (lv_at hl 0 rfl) ?_
    refine lv_iload_n hx hb dd_M_feed_26 rfl (lv_at hl 3 rfl) ?_
    obtain ⟨h5, qh5, hm⟩ := ss_bind hm
    refine ss_cVv 0 0 (As := [.int a3]) hC hK hR hS hl.1 (cc_M_four l G N _ _ _ _ qh5) km_M_89 (ck_M_four qh5) ⟨Nat.le_of_ble_eq_true rfl, Nat.le_of_ble_eq_true rfl⟩ ⟨Nat.le_of_ble_eq_true rfl, Nat.le_of_ble_eq_true rfl, Nat.le_of_ble_eq_true rfl, Nat.le_of_ble_eq_true rfl⟩ rfl rfl (Nat.le_of_ble_eq_true rfl) dd_M_feed_27 (fun H locs hR hS => ?_)
    refine ss_aload_n hx hb dd_M_feed_30 rfl (lv_at hl 0 rfl) ?_
    refine lv_iload hx hb dd_M_feed_31 (lv_at hl 4 rfl) ?_
    obtain ⟨h6, qh6, hm⟩ := ss_bind hm
    refine ss_cVv 0 0 (As := [.int a4]) hC hK hR hS hl.1 (cc_M_four l G N _ _ _ _ qh6) km_M_89 (ck_M_four qh6) ⟨Nat.le_of_ble_eq_true rfl, Nat.le_of_ble_eq_true rfl⟩ ⟨Nat.le_of_ble_eq_true rfl, Nat.le_of_ble_eq_true rfl, Nat.le_of_ble_eq_true rfl, Nat.le_of_ble_eq_true rfl⟩ rfl rfl (Nat.le_of_ble_eq_true rfl) dd_M_feed_33 (fun H locs hR hS => ?_)
    refine ss_aload_n hx hb dd_M_feed_36 rfl (lv_at hl 0 rfl) ?_
    refine lv_iload hx hb dd_M_feed_37 (lv_at hl 5 rfl) ?_
    obtain ⟨h7, qh7, hm⟩ := ss_bind hm
    refine ss_cVv 0 0 (As := [.int a5]) hC hK hR hS hl.1 (cc_M_four l G N _ _ _ _ qh7) km_M_89 (ck_M_four qh7) ⟨Nat.le_of_ble_eq_true rfl, Nat.le_of_ble_eq_true rfl⟩ ⟨Nat.le_of_ble_eq_true rfl, Nat.le_of_ble_eq_true rfl, Nat.le_of_ble_eq_true rfl, Nat.le_of_ble_eq_true rfl⟩ rfl rfl (Nat.le_of_ble_eq_true rfl) dd_M_feed_39 (fun H locs hR hS => ?_)
    refine ss_aload_n hx hb dd_M_feed_42 rfl (lv_at hl 0 rfl) ?_
    obtain ⟨v8, qv8, hm⟩ := ss_bind hm
    refine ss_geti hC hK hR kf_M_86 qv8 dd_M_feed_43 ?_
    exact ss_iret hC hr hlocks hR hS hm dd_M_feed_46
  · have hm := ss_iff hm c2
    refine lv_iconst (v := -1) hx hb dd_M_feed_13 (by decide) ?_
    exact ss_iret hC hr hlocks hR hS hm dd_M_feed_14
