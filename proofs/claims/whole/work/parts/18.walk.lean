theorem dd_P_fewestSwept_0 : decode bb_P_fewestSwept 0 = .ok (.bipush (-2), 2) := by decide +kernel
theorem dd_P_fewestSwept_2 : decode bb_P_fewestSwept 2 = .ok (.istore_n 2, 1) := by decide +kernel
theorem dd_P_fewestSwept_3 : decode bb_P_fewestSwept 3 = .ok (.bipush 9, 2) := by decide +kernel
theorem dd_P_fewestSwept_5 : decode bb_P_fewestSwept 5 = .ok (.istore_n 3, 1) := by decide +kernel
theorem dd_P_fewestSwept_6 : decode bb_P_fewestSwept 6 = .ok (.iconst 0, 1) := by decide +kernel
theorem dd_P_fewestSwept_7 : decode bb_P_fewestSwept 7 = .ok (.istore 4, 2) := by decide +kernel
theorem dd_P_fewestSwept_9 : decode bb_P_fewestSwept 9 = .ok (.iload 4, 2) := by decide +kernel
theorem dd_P_fewestSwept_11 : decode bb_P_fewestSwept 11 = .ok (.iconst 1, 1) := by decide +kernel
theorem dd_P_fewestSwept_12 : decode bb_P_fewestSwept 12 = .ok (.aload_n 0, 1) := by decide +kernel
theorem dd_P_fewestSwept_13 : decode bb_P_fewestSwept 13 = .ok (.getfield 21, 3) := by decide +kernel
theorem dd_P_fewestSwept_16 : decode bb_P_fewestSwept 16 = .ok (.getfield 50, 3) := by decide +kernel
theorem dd_P_fewestSwept_19 : decode bb_P_fewestSwept 19 = .ok (.getfield 70, 3) := by decide +kernel
theorem dd_P_fewestSwept_22 : decode bb_P_fewestSwept 22 = .ok (.ishl, 1) := by decide +kernel
theorem dd_P_fewestSwept_23 : decode bb_P_fewestSwept 23 = .ok (.if_icmp .ge 37, 3) := by decide +kernel
theorem dd_P_fewestSwept_26 : decode bb_P_fewestSwept 26 = .ok (.iload 4, 2) := by decide +kernel
theorem dd_P_fewestSwept_28 : decode bb_P_fewestSwept 28 = .ok (.invokestatic 29, 3) := by decide +kernel
theorem dd_P_fewestSwept_31 : decode bb_P_fewestSwept 31 = .ok (.iload_n 3, 1) := by decide +kernel
theorem dd_P_fewestSwept_32 : decode bb_P_fewestSwept 32 = .ok (.if_icmp .ge 22, 3) := by decide +kernel
theorem dd_P_fewestSwept_35 : decode bb_P_fewestSwept 35 = .ok (.aload_n 0, 1) := by decide +kernel
theorem dd_P_fewestSwept_36 : decode bb_P_fewestSwept 36 = .ok (.iload 4, 2) := by decide +kernel
theorem dd_P_fewestSwept_38 : decode bb_P_fewestSwept 38 = .ok (.invokevirtual 73, 3) := by decide +kernel
theorem dd_P_fewestSwept_41 : decode bb_P_fewestSwept 41 = .ok (.iload_n 1, 1) := by decide +kernel
theorem dd_P_fewestSwept_42 : decode bb_P_fewestSwept 42 = .ok (.if_icmp .ne 12, 3) := by decide +kernel
theorem dd_P_fewestSwept_45 : decode bb_P_fewestSwept 45 = .ok (.iload 4, 2) := by decide +kernel
theorem dd_P_fewestSwept_47 : decode bb_P_fewestSwept 47 = .ok (.invokestatic 29, 3) := by decide +kernel
theorem dd_P_fewestSwept_50 : decode bb_P_fewestSwept 50 = .ok (.istore_n 3, 1) := by decide +kernel
theorem dd_P_fewestSwept_51 : decode bb_P_fewestSwept 51 = .ok (.iload 4, 2) := by decide +kernel
theorem dd_P_fewestSwept_53 : decode bb_P_fewestSwept 53 = .ok (.istore_n 2, 1) := by decide +kernel
theorem dd_P_fewestSwept_54 : decode bb_P_fewestSwept 54 = .ok (.iinc 4 1, 3) := by decide +kernel
theorem dd_P_fewestSwept_57 : decode bb_P_fewestSwept 57 = .ok (.goto (-48), 3) := by decide +kernel
theorem dd_P_fewestSwept_60 : decode bb_P_fewestSwept 60 = .ok (.iload_n 2, 1) := by decide +kernel
theorem dd_P_fewestSwept_61 : decode bb_P_fewestSwept 61 = .ok (.ireturn, 1) := by decide +kernel
def mm_P_fewestSwept_j54 (N : Nat) (this : Option Nat) (a1 : Int32) (x2_54 : Int32) (x3_54 : Int32) (x4_54 : Int32) (h_54 : ss_Hp) : Option ((Int32 × Int32 × Int32 × ss_Hp) ⊕ (Int32 × ss_Hp)) :=
  (some (x4_54 + (1 : Int32))).bind fun v1 =>
  some (.inl (x2_54, x3_54, v1, h_54))
def mm_P_fewestSwept_b9 (N : Nat) (this : Option Nat) (a1 : Int32) (st : Int32 × Int32 × Int32 × ss_Hp) : Option ((Int32 × Int32 × Int32 × ss_Hp) ⊕ (Int32 × ss_Hp)) :=
  match st with
  | (x2_9, x3_9, x4_9, h_9) =>
    (ss_gr h_9 this 10 0).bind fun r2 =>
    (ss_gr h_9 r2 8 0).bind fun r3 =>
    (ss_gi h_9 r3 5 3).bind fun v4 =>
    if ((1 : Int32) <<< (v4 &&& 31)) ≤ x4_9 then
      some (.inr (x2_9, h_9))
    else
      (mm_JI_bitCount N x4_9).bind fun v6 =>
      if x3_9 ≤ v6 then
        mm_P_fewestSwept_j54 N this a1 x2_9 x3_9 x4_9 h_9
      else
        ss_b2 (mm_P_closedBySweeping N this x4_9 h_9) fun v8 h9 =>
        if v8 = a1 then
          (mm_JI_bitCount N x4_9).bind fun v11 =>
          mm_P_fewestSwept_j54 N this a1 x4_9 v11 x4_9 h9
        else
          mm_P_fewestSwept_j54 N this a1 x2_9 x3_9 x4_9 h9
def mm_P_fewestSwept (N : Nat) (this : Option Nat) (a1 : Int32) (h : ss_Hp) : Option (Int32 × ss_Hp) :=
  if ss_is h this 10 = true then
    (ss_lp (mm_P_fewestSwept_b9 N this a1) N ((-2 : Int32), (9 : Int32), (0 : Int32), h)).bind fun e_9 =>
    match e_9 with
    | (y2_9_60, h_9_60) =>
      some (y2_9_60, h_9_60)
  else none
abbrev ww_P_fewestSwept (p : Program) (l : Launch) (e : Env) (s : State) (m : MethodId) (below : List Frame) (meth : Method) (c : Code) (G : ss_G) (this : Option Nat) (a1 : Int32) (h : ss_Hp) (rr : Int32) (hh : ss_Hp) (H : Heap) (locs : List Loc) (k n : Nat) (g : JFrame) : Prop := W p l e (headSpec (ss_w yy_P_fewestSwept bb_P_fewestSwept 5 (some (.int))) ({ frames := 1, cells := 0, slots := 0, locals := 26 })).room s m ([ss_v (ss_b G) this, .int a1] : List Value).toArray below meth c H locs k n (MQ below (ss_Qc G (some (.int rr)) hh) ([ss_v (ss_b G) this, .int a1] : List Value).toArray s 0 0 (ss_A G)) g
theorem ck_P_fewestSwept {N : Nat} {this : Option Nat} {a1 : Int32} {h : ss_Hp} {res : Int32 × ss_Hp} (hm : mm_P_fewestSwept N this a1 h = some res) : ss_is h this 10 = true := (ss_chk hm).1
set_option maxHeartbeats 4000000 in
set_option maxRecDepth 100000 in
theorem cc_P_fewestSwept (l : Launch) (G : ss_G) (N : Nat) (this : Option Nat) (a1 : Int32) (h : ss_Hp) (rr : Int32) (hh : ss_Hp) (hm : mm_P_fewestSwept N this a1 h = some (rr, hh)) : ss_Ct l G yy_P_fewestSwept bb_P_fewestSwept 5 (some (.int)) ({ frames := 1, cells := 0, slots := 0, locals := 26 }) [ss_v (ss_b G) this, .int a1] h (some (.int rr)) hh := by
  obtain ⟨hck, hm⟩ := ss_chk hm
  refine Met.ofW (cc := bb_P_fewestSwept) (maxL := 5) (ret := (some (.int))) (by decide) rfl ?_
  intro p e s m args below meth c s₁ B hml hv
  obtain ⟨rfl, hR, hK⟩ := hv
  have hC : CallFix p m c bb_P_fewestSwept 5 s _ lw_g sR_10 := ⟨B.exec, B.bytes, hml, findClass_of_methodNamed B.named, fun w hw => atoms_spec (ws := ss_w yy_P_fewestSwept bb_P_fewestSwept 5 (some (.int))) B.pre w (List.mem_cons_of_mem _ hw)⟩
  have hx := hC.1
  have hb := hC.2.1
  have hr := B.returns
  have hlocks := B.notSynchronized
  have hS : va_S (ss_A G) s.heap s.heap [] := va_S.rf
  have hl := lv_entry ([ss_v (ss_b G) this, .int a1]) (n := 5) (by simp [lg_sl, ss_v_cat, ss_cat_i, ss_cat_l, ss_cat_r])
  rw [lg_entry_eq]
  generalize (lg_sl ([ss_v (ss_b G) this, .int a1]) ++ List.replicate (5 - (lg_sl ([ss_v (ss_b G) this, .int a1])).length) Slot.unset).toArray = ls at hl ⊢
  have hl : lv_has ls 5 [(0, ss_v (ss_b G) this), (1, .int a1)] := by simpa [lv_args, ss_v_cat, ss_cat_i, ss_cat_l, ss_cat_r] using hl
  refine lv_bipush (v := -2) hx hb dd_P_fewestSwept_0 (by decide) ?_
  refine lv_istore_n (lv' := [(2, .int (-2 : Int32)), (0, ss_v (ss_b G) this), (1, .int a1)]) hx hb dd_P_fewestSwept_2 rfl hl (by decide) rfl (fun ls hl => ?_)
  refine lv_bipush (v := 9) hx hb dd_P_fewestSwept_3 (by decide) ?_
  refine lv_istore_n (lv' := [(3, .int (9 : Int32)), (2, .int (-2 : Int32)), (0, ss_v (ss_b G) this), (1, .int a1)]) hx hb dd_P_fewestSwept_5 rfl hl (by decide) rfl (fun ls hl => ?_)
  refine lv_iconst (v := 0) hx hb dd_P_fewestSwept_6 (by decide) ?_
  refine lv_istore (lv' := [(4, .int (0 : Int32)), (3, .int (9 : Int32)), (2, .int (-2 : Int32)), (0, ss_v (ss_b G) this), (1, .int a1)]) hx hb dd_P_fewestSwept_7 hl (by decide) rfl (fun ls hl => ?_)
  obtain ⟨e_9, he_9, hm⟩ := ss_bind hm
  have X_9_60 : ∀ (y2_9_60 : Int32) (h_9_60 : ss_Hp) (H : Heap) (locs : List Loc) (ls : Array Slot), e_9 = (y2_9_60, h_9_60) → ss_R G h_9_60 H → va_S (ss_A G) s.heap H locs → lv_has ls 5 [(2, .int y2_9_60)] → ww_P_fewestSwept p l e s m below meth c G this a1 h rr hh  H locs 0 0 (F0 m 60 ls []) := by
    intro y2_9_60 h_9_60 H locs ls hq hR hS hl
    rw [hq] at hm
    refine lv_iload_n hx hb dd_P_fewestSwept_60 rfl (lv_at hl 0 rfl) ?_
    exact ss_iret hC hr hlocks hR hS hm dd_P_fewestSwept_61
  have L_9 : ∀ (n : Nat) (x2_9 : Int32) (x3_9 : Int32) (x4_9 : Int32) (h_9 : ss_Hp) (H : Heap) (locs : List Loc) (ls : Array Slot), ss_lp (mm_P_fewestSwept_b9 N this a1) n (x2_9, x3_9, x4_9, h_9) = some e_9 → ss_R G h_9 H → va_S (ss_A G) s.heap H locs → lv_has ls 5 [(0, ss_v (ss_b G) this), (1, .int a1), (2, .int x2_9), (3, .int x3_9), (4, .int x4_9)] → ww_P_fewestSwept p l e s m below meth c G this a1 h rr hh  H locs 0 0 (F0 m 9 ls []) := by
    intro n
    induction n with
    | zero => intro x2_9 x3_9 x4_9 h_9 H locs ls hm; cases hm
    | succ n ih_9 =>
      intro x2_9 x3_9 x4_9 h_9 H locs ls hm hR hS hl
      obtain ⟨z_9, hm, hz1_9, hz2_9⟩ := ss_lps hm
      have J_54 : ∀ (x2_54 : Int32) (x3_54 : Int32) (x4_54 : Int32) (h_54 : ss_Hp) (H : Heap) (locs : List Loc) (ls : Array Slot), mm_P_fewestSwept_j54 N this a1 x2_54 x3_54 x4_54 h_54 = some z_9 → ss_R G h_54 H → va_S (ss_A G) s.heap H locs → lv_has ls 5 [(0, ss_v (ss_b G) this), (1, .int a1), (2, .int x2_54), (3, .int x3_54), (4, .int x4_54)] → ww_P_fewestSwept p l e s m below meth c G this a1 h rr hh  H locs 0 0 (F0 m 54 ls []) := by
        intro x2_54 x3_54 x4_54 h_54 H locs ls hm hR hS hl
        obtain ⟨v1, qv1, hm⟩ := ss_bind hm
        refine lv_iinc (v := v1) (lv' := [(4, .int v1), (0, ss_v (ss_b G) this), (1, .int a1), (2, .int x2_54), (3, .int x3_54)]) hx hb dd_P_fewestSwept_54 hl (k := 4) rfl (ss_inc (by decide) qv1) (by decide) rfl (fun ls hl => ?_)
        refine lv_goto (tgt := 9) hx hb dd_P_fewestSwept_57 (by decide) ?_
        exact ih_9 x2_54 x3_54 v1 h_54 _ _ _ (hz1_9 _ (ss_some hm)) hR hS (lv_sub hl [1, 2, 3, 4, 0] rfl)
      refine lv_iload hx hb dd_P_fewestSwept_9 (lv_at hl 4 rfl) ?_
      refine lv_iconst (v := 1) hx hb dd_P_fewestSwept_11 (by decide) ?_
      refine ss_aload_n hx hb dd_P_fewestSwept_12 rfl (lv_at hl 0 rfl) ?_
      obtain ⟨r2, qr2, hm⟩ := ss_bind hm
      refine ss_getr hC hK hR kf_P_21 rfl qr2 dd_P_fewestSwept_13 ?_
      obtain ⟨r3, qr3, hm⟩ := ss_bind hm
      refine ss_getr hC hK hR kf_P_50 rfl qr3 dd_P_fewestSwept_16 ?_
      obtain ⟨v4, qv4, hm⟩ := ss_bind hm
      refine ss_geti hC hK hR kf_P_70 qv4 dd_P_fewestSwept_19 ?_
      refine lv_ishl hx hb dd_P_fewestSwept_22 ?_
      refine lv_icmp_ge (tgt := 60) hx hb dd_P_fewestSwept_23 (by decide) (fun c5 => ?_) (fun c5 => ?_)
      · have hm := ss_ift hm c5
        exact X_9_60 x2_9 h_9 _ _ _ (hz2_9 _ (ss_some hm)) hR hS (lv_sub hl [2] rfl)
      · have hm := ss_iff hm c5
        refine lv_iload hx hb dd_P_fewestSwept_26 (lv_at hl 4 rfl) ?_
        obtain ⟨v6, qv6, hm⟩ := ss_bind hm
        refine ss_cS 0 0 (As := [.int x4_9]) hC hK hR hS hl.1 (cc_JI_bitCount l G N _ _ _ qv6) km_P_29 ⟨Nat.le_of_ble_eq_true rfl, Nat.le_of_ble_eq_true rfl⟩ ⟨Nat.le_of_ble_eq_true rfl, Nat.le_of_ble_eq_true rfl, Nat.le_of_ble_eq_true rfl, Nat.le_of_ble_eq_true rfl⟩ rfl rfl (Nat.le_of_ble_eq_true rfl) dd_P_fewestSwept_28 (fun H locs hR hS => ?_)
        refine lv_iload_n hx hb dd_P_fewestSwept_31 rfl (lv_at hl 3 rfl) ?_
        refine lv_icmp_ge (tgt := 54) hx hb dd_P_fewestSwept_32 (by decide) (fun c7 => ?_) (fun c7 => ?_)
        · have hm := ss_ift hm c7
          exact J_54 x2_9 x3_9 x4_9 h_9 _ _ _ hm hR hS hl
        · have hm := ss_iff hm c7
          refine ss_aload_n hx hb dd_P_fewestSwept_35 rfl (lv_at hl 0 rfl) ?_
          refine lv_iload hx hb dd_P_fewestSwept_36 (lv_at hl 4 rfl) ?_
          obtain ⟨v8, h9, qh9, hm⟩ := ss_bind2 hm
          refine ss_cV 0 0 (As := [.int x4_9]) hC hK hR hS hl.1 (cc_P_closedBySweeping l G N _ _ _ _ _ qh9) km_P_73 (ck_P_closedBySweeping qh9) ⟨Nat.le_of_ble_eq_true rfl, Nat.le_of_ble_eq_true rfl⟩ ⟨Nat.le_of_ble_eq_true rfl, Nat.le_of_ble_eq_true rfl, Nat.le_of_ble_eq_true rfl, Nat.le_of_ble_eq_true rfl⟩ rfl rfl (Nat.le_of_ble_eq_true rfl) dd_P_fewestSwept_38 (fun H locs hR hS => ?_)
          refine lv_iload_n hx hb dd_P_fewestSwept_41 rfl (lv_at hl 1 rfl) ?_
          refine lv_icmp_ne (tgt := 54) hx hb dd_P_fewestSwept_42 (by decide) (fun c10 => ?_) (fun c10 => ?_)
          · have hm := ss_iff hm c10
            exact J_54 x2_9 x3_9 x4_9 h9 _ _ _ hm hR hS hl
          · have hm := ss_ift hm c10
            refine lv_iload hx hb dd_P_fewestSwept_45 (lv_at hl 4 rfl) ?_
            obtain ⟨v11, qv11, hm⟩ := ss_bind hm
            refine ss_cS 0 0 (As := [.int x4_9]) hC hK hR hS hl.1 (cc_JI_bitCount l G N _ _ _ qv11) km_P_29 ⟨Nat.le_of_ble_eq_true rfl, Nat.le_of_ble_eq_true rfl⟩ ⟨Nat.le_of_ble_eq_true rfl, Nat.le_of_ble_eq_true rfl, Nat.le_of_ble_eq_true rfl, Nat.le_of_ble_eq_true rfl⟩ rfl rfl (Nat.le_of_ble_eq_true rfl) dd_P_fewestSwept_47 (fun H locs hR hS => ?_)
            refine lv_istore_n (lv' := [(3, .int v11), (0, ss_v (ss_b G) this), (1, .int a1), (2, .int x2_9), (4, .int x4_9)]) hx hb dd_P_fewestSwept_50 rfl hl (by decide) rfl (fun ls hl => ?_)
            refine lv_iload hx hb dd_P_fewestSwept_51 (lv_at hl 4 rfl) ?_
            refine lv_istore_n (lv' := [(2, .int x4_9), (3, .int v11), (0, ss_v (ss_b G) this), (1, .int a1), (4, .int x4_9)]) hx hb dd_P_fewestSwept_53 rfl hl (by decide) rfl (fun ls hl => ?_)
            exact J_54 x4_9 v11 x4_9 h9 _ _ _ hm hR hS (lv_sub hl [2, 3, 0, 1, 4] rfl)
  exact L_9 N (-2 : Int32) (9 : Int32) (0 : Int32) h _ _ _ he_9 hR hS (lv_sub hl [3, 4, 2, 1, 0] rfl)
theorem dd_S_figure_0 : decode bb_S_figure 0 = .ok (.aload_n 0, 1) := by decide +kernel
theorem dd_S_figure_1 : decode bb_S_figure 1 = .ok (.getfield 41, 3) := by decide +kernel
theorem dd_S_figure_4 : decode bb_S_figure 4 = .ok (.getfield 58, 3) := by decide +kernel
theorem dd_S_figure_7 : decode bb_S_figure 7 = .ok (.getfield 169, 3) := by decide +kernel
theorem dd_S_figure_10 : decode bb_S_figure 10 = .ok (.ifCond .eq 34, 3) := by decide +kernel
theorem dd_S_figure_13 : decode bb_S_figure 13 = .ok (.iload_n 2, 1) := by decide +kernel
theorem dd_S_figure_14 : decode bb_S_figure 14 = .ok (.iconst 0, 1) := by decide +kernel
theorem dd_S_figure_15 : decode bb_S_figure 15 = .ok (.iconst 1, 1) := by decide +kernel
theorem dd_S_figure_16 : decode bb_S_figure 16 = .ok (.invokestatic 194, 3) := by decide +kernel
theorem dd_S_figure_19 : decode bb_S_figure 19 = .ok (.ifCond .eq 25, 3) := by decide +kernel
theorem dd_S_figure_22 : decode bb_S_figure 22 = .ok (.iload_n 1, 1) := by decide +kernel
theorem dd_S_figure_23 : decode bb_S_figure 23 = .ok (.iconst 0, 1) := by decide +kernel
theorem dd_S_figure_24 : decode bb_S_figure 24 = .ok (.iconst 1, 1) := by decide +kernel
theorem dd_S_figure_25 : decode bb_S_figure 25 = .ok (.aload_n 0, 1) := by decide +kernel
theorem dd_S_figure_26 : decode bb_S_figure 26 = .ok (.getfield 41, 3) := by decide +kernel
theorem dd_S_figure_29 : decode bb_S_figure 29 = .ok (.getfield 58, 3) := by decide +kernel
theorem dd_S_figure_32 : decode bb_S_figure 32 = .ok (.getfield 108, 3) := by decide +kernel
theorem dd_S_figure_35 : decode bb_S_figure 35 = .ok (.ishl, 1) := by decide +kernel
theorem dd_S_figure_36 : decode bb_S_figure 36 = .ok (.iconst 1, 1) := by decide +kernel
theorem dd_S_figure_37 : decode bb_S_figure 37 = .ok (.isub, 1) := by decide +kernel
theorem dd_S_figure_38 : decode bb_S_figure 38 = .ok (.invokestatic 194, 3) := by decide +kernel
theorem dd_S_figure_41 : decode bb_S_figure 41 = .ok (.ifCond .ne 5, 3) := by decide +kernel
theorem dd_S_figure_44 : decode bb_S_figure 44 = .ok (.iconst (-1), 1) := by decide +kernel
theorem dd_S_figure_45 : decode bb_S_figure 45 = .ok (.ireturn, 1) := by decide +kernel
theorem dd_S_figure_46 : decode bb_S_figure 46 = .ok (.aload_n 0, 1) := by decide +kernel
theorem dd_S_figure_47 : decode bb_S_figure 47 = .ok (.getfield 83, 3) := by decide +kernel
theorem dd_S_figure_50 : decode bb_S_figure 50 = .ok (.iload_n 1, 1) := by decide +kernel
theorem dd_S_figure_51 : decode bb_S_figure 51 = .ok (.invokevirtual 236, 3) := by decide +kernel
theorem dd_S_figure_54 : decode bb_S_figure 54 = .ok (.istore_n 3, 1) := by decide +kernel
theorem dd_S_figure_55 : decode bb_S_figure 55 = .ok (.iload_n 3, 1) := by decide +kernel
theorem dd_S_figure_56 : decode bb_S_figure 56 = .ok (.bipush (-2), 2) := by decide +kernel
theorem dd_S_figure_58 : decode bb_S_figure 58 = .ok (.if_icmp .ne 6, 3) := by decide +kernel
theorem dd_S_figure_61 : decode bb_S_figure 61 = .ok (.bipush (-2), 2) := by decide +kernel
theorem dd_S_figure_63 : decode bb_S_figure 63 = .ok (.ireturn, 1) := by decide +kernel
theorem dd_S_figure_64 : decode bb_S_figure 64 = .ok (.iload_n 2, 1) := by decide +kernel
theorem dd_S_figure_65 : decode bb_S_figure 65 = .ok (.ifCond .ne 10, 3) := by decide +kernel
theorem dd_S_figure_68 : decode bb_S_figure 68 = .ok (.iload_n 3, 1) := by decide +kernel
theorem dd_S_figure_69 : decode bb_S_figure 69 = .ok (.invokestatic 231, 3) := by decide +kernel
theorem dd_S_figure_72 : decode bb_S_figure 72 = .ok (.goto 4, 3) := by decide +kernel
theorem dd_S_figure_75 : decode bb_S_figure 75 = .ok (.iload_n 3, 1) := by decide +kernel
theorem dd_S_figure_76 : decode bb_S_figure 76 = .ok (.ireturn, 1) := by decide +kernel
def mm_S_figure_j44 (N : Nat) (this : Option Nat) (a1 : Int32) (a2 : Int32) (h_44 : ss_Hp) : Option (Int32 × ss_Hp) :=
  some ((-1 : Int32), h_44)
def mm_S_figure_j76 (N : Nat) (this : Option Nat) (a1 : Int32) (a2 : Int32) (s0_76 : Int32) (h_76 : ss_Hp) : Option (Int32 × ss_Hp) :=
  some (s0_76, h_76)
def mm_S_figure (N : Nat) (this : Option Nat) (a1 : Int32) (a2 : Int32) (h : ss_Hp) : Option (Int32 × ss_Hp) :=
  if ss_is h this 11 = true then
    (ss_gr h this 11 4).bind fun r1 =>
    (ss_gr h r1 8 0).bind fun r2 =>
    (ss_gi h r2 5 0).bind fun v3 =>
    if v3 = 0 then
      mm_S_figure_j44 N this a1 a2 h
    else
      (mm_S_isWithin N a2 (0 : Int32) (1 : Int32)).bind fun v5 =>
      if v5 = 0 then
        mm_S_figure_j44 N this a1 a2 h
      else
        (ss_gr h this 11 4).bind fun r7 =>
        (ss_gr h r7 8 0).bind fun r8 =>
        (ss_gi h r8 5 3).bind fun v9 =>
        (mm_S_isWithin N a1 (0 : Int32) (((1 : Int32) <<< (v9 &&& 31)) - (1 : Int32))).bind fun v10 =>
        if v10 = 0 then
          mm_S_figure_j44 N this a1 a2 h
        else
          (ss_gr h this 11 9).bind fun r12 =>
          ss_b2 (mm_P_fewestSwept N r12 a1 h) fun v13 h14 =>
          if v13 = (-2 : Int32) then
            some ((-2 : Int32), h14)
          else
            if a2 = 0 then
              (mm_JI_bitCount N v13).bind fun v17 =>
              mm_S_figure_j76 N this a1 a2 v17 h14
            else
              mm_S_figure_j76 N this a1 a2 v13 h14
  else none
abbrev ww_S_figure (p : Program) (l : Launch) (e : Env) (s : State) (m : MethodId) (below : List Frame) (meth : Method) (c : Code) (G : ss_G) (this : Option Nat) (a1 : Int32) (a2 : Int32) (h : ss_Hp) (rr : Int32) (hh : ss_Hp) (H : Heap) (locs : List Loc) (k n : Nat) (g : JFrame) : Prop := W p l e (headSpec (ss_w yy_S_figure bb_S_figure 4 (some (.int))) ({ frames := 2, cells := 0, slots := 0, locals := 50 })).room s m ([ss_v (ss_b G) this, .int a1, .int a2] : List Value).toArray below meth c H locs k n (MQ below (ss_Qc G (some (.int rr)) hh) ([ss_v (ss_b G) this, .int a1, .int a2] : List Value).toArray s 0 0 (ss_A G)) g
theorem ck_S_figure {N : Nat} {this : Option Nat} {a1 : Int32} {a2 : Int32} {h : ss_Hp} {res : Int32 × ss_Hp} (hm : mm_S_figure N this a1 a2 h = some res) : ss_is h this 11 = true := (ss_chk hm).1
set_option maxHeartbeats 4000000 in
set_option maxRecDepth 100000 in
theorem cc_S_figure (l : Launch) (G : ss_G) (N : Nat) (this : Option Nat) (a1 : Int32) (a2 : Int32) (h : ss_Hp) (rr : Int32) (hh : ss_Hp) (hm : mm_S_figure N this a1 a2 h = some (rr, hh)) : ss_Ct l G yy_S_figure bb_S_figure 4 (some (.int)) ({ frames := 2, cells := 0, slots := 0, locals := 50 }) [ss_v (ss_b G) this, .int a1, .int a2] h (some (.int rr)) hh := by
  obtain ⟨hck, hm⟩ := ss_chk hm
  refine Met.ofW (cc := bb_S_figure) (maxL := 4) (ret := (some (.int))) (by decide) rfl ?_
  intro p e s m args below meth c s₁ B hml hv
  obtain ⟨rfl, hR, hK⟩ := hv
  have hC : CallFix p m c bb_S_figure 4 s _ lw_g sR_11 := ⟨B.exec, B.bytes, hml, findClass_of_methodNamed B.named, fun w hw => atoms_spec (ws := ss_w yy_S_figure bb_S_figure 4 (some (.int))) B.pre w (List.mem_cons_of_mem _ hw)⟩
  have hx := hC.1
  have hb := hC.2.1
  have hr := B.returns
  have hlocks := B.notSynchronized
  have hS : va_S (ss_A G) s.heap s.heap [] := va_S.rf
  have hl := lv_entry ([ss_v (ss_b G) this, .int a1, .int a2]) (n := 4) (by simp [lg_sl, ss_v_cat, ss_cat_i, ss_cat_l, ss_cat_r])
  rw [lg_entry_eq]
  generalize (lg_sl ([ss_v (ss_b G) this, .int a1, .int a2]) ++ List.replicate (4 - (lg_sl ([ss_v (ss_b G) this, .int a1, .int a2])).length) Slot.unset).toArray = ls at hl ⊢
  have hl : lv_has ls 4 [(0, ss_v (ss_b G) this), (1, .int a1), (2, .int a2)] := by simpa [lv_args, ss_v_cat, ss_cat_i, ss_cat_l, ss_cat_r] using hl
  have J_44 : ∀ (h_44 : ss_Hp) (H : Heap) (locs : List Loc) (ls : Array Slot), mm_S_figure_j44 N this a1 a2 h_44 = some (rr, hh) → ss_R G h_44 H → va_S (ss_A G) s.heap H locs → lv_has ls 4 [] → ww_S_figure p l e s m below meth c G this a1 a2 h rr hh  H locs 0 0 (F0 m 44 ls []) := by
    intro h_44 H locs ls hm hR hS hl
    refine lv_iconst (v := -1) hx hb dd_S_figure_44 (by decide) ?_
    exact ss_iret hC hr hlocks hR hS hm dd_S_figure_45
  have J_76 : ∀ (s0_76 : Int32) (h_76 : ss_Hp) (H : Heap) (locs : List Loc) (ls : Array Slot), mm_S_figure_j76 N this a1 a2 s0_76 h_76 = some (rr, hh) → ss_R G h_76 H → va_S (ss_A G) s.heap H locs → lv_has ls 4 [] → ww_S_figure p l e s m below meth c G this a1 a2 h rr hh  H locs 0 0 (F0 m 76 ls [.int s0_76]) := by
    intro s0_76 h_76 H locs ls hm hR hS hl
    exact ss_iret hC hr hlocks hR hS hm dd_S_figure_76
  refine ss_aload_n hx hb dd_S_figure_0 rfl (lv_at hl 0 rfl) ?_
  obtain ⟨r1, qr1, hm⟩ := ss_bind hm
  refine ss_getr hC hK hR kf_S_41 rfl qr1 dd_S_figure_1 ?_
  obtain ⟨r2, qr2, hm⟩ := ss_bind hm
  refine ss_getr hC hK hR kf_S_58 rfl qr2 dd_S_figure_4 ?_
  obtain ⟨v3, qv3, hm⟩ := ss_bind hm
  refine ss_geti hC hK hR kf_S_169 qv3 dd_S_figure_7 ?_
  refine lv_if_eq (tgt := 44) hx hb dd_S_figure_10 (by decide) (fun c4 => ?_) (fun c4 => ?_)
  · have hm := ss_ift hm c4
    exact J_44 h _ _ _ hm hR hS (lv_sub hl [] rfl)
  · have hm := ss_iff hm c4
    refine lv_iload_n hx hb dd_S_figure_13 rfl (lv_at hl 2 rfl) ?_
    refine lv_iconst (v := 0) hx hb dd_S_figure_14 (by decide) ?_
    refine lv_iconst (v := 1) hx hb dd_S_figure_15 (by decide) ?_
    obtain ⟨v5, qv5, hm⟩ := ss_bind hm
    refine ss_cS 0 0 (As := [.int a2, .int (0 : Int32), .int (1 : Int32)]) hC hK hR hS hl.1 (cc_S_isWithin l G N _ _ _ _ _ qv5) km_S_194 ⟨Nat.le_of_ble_eq_true rfl, Nat.le_of_ble_eq_true rfl⟩ ⟨Nat.le_of_ble_eq_true rfl, Nat.le_of_ble_eq_true rfl, Nat.le_of_ble_eq_true rfl, Nat.le_of_ble_eq_true rfl⟩ rfl rfl (Nat.le_of_ble_eq_true rfl) dd_S_figure_16 (fun H locs hR hS => ?_)
    refine lv_if_eq (tgt := 44) hx hb dd_S_figure_19 (by decide) (fun c6 => ?_) (fun c6 => ?_)
    · have hm := ss_ift hm c6
      exact J_44 h _ _ _ hm hR hS (lv_sub hl [] rfl)
    · have hm := ss_iff hm c6
      refine lv_iload_n hx hb dd_S_figure_22 rfl (lv_at hl 1 rfl) ?_
      refine lv_iconst (v := 0) hx hb dd_S_figure_23 (by decide) ?_
      refine lv_iconst (v := 1) hx hb dd_S_figure_24 (by decide) ?_
      refine ss_aload_n hx hb dd_S_figure_25 rfl (lv_at hl 0 rfl) ?_
      obtain ⟨r7, qr7, hm⟩ := ss_bind hm
      refine ss_getr hC hK hR kf_S_41 rfl qr7 dd_S_figure_26 ?_
      obtain ⟨r8, qr8, hm⟩ := ss_bind hm
      refine ss_getr hC hK hR kf_S_58 rfl qr8 dd_S_figure_29 ?_
      obtain ⟨v9, qv9, hm⟩ := ss_bind hm
      refine ss_geti hC hK hR kf_S_108 qv9 dd_S_figure_32 ?_
      refine lv_ishl hx hb dd_S_figure_35 ?_
      refine lv_iconst (v := 1) hx hb dd_S_figure_36 (by decide) ?_
      refine lv_isub hx hb dd_S_figure_37 ?_
      obtain ⟨v10, qv10, hm⟩ := ss_bind hm
      refine ss_cS 0 0 (As := [.int a1, .int (0 : Int32), .int (((1 : Int32) <<< (v9 &&& 31)) - (1 : Int32))]) hC hK hR hS hl.1 (cc_S_isWithin l G N _ _ _ _ _ qv10) km_S_194 ⟨Nat.le_of_ble_eq_true rfl, Nat.le_of_ble_eq_true rfl⟩ ⟨Nat.le_of_ble_eq_true rfl, Nat.le_of_ble_eq_true rfl, Nat.le_of_ble_eq_true rfl, Nat.le_of_ble_eq_true rfl⟩ rfl rfl (Nat.le_of_ble_eq_true rfl) dd_S_figure_38 (fun H locs hR hS => ?_)
      refine lv_if_ne (tgt := 46) hx hb dd_S_figure_41 (by decide) (fun c11 => ?_) (fun c11 => ?_)
      · have hm := ss_iff hm c11
        refine ss_aload_n hx hb dd_S_figure_46 rfl (lv_at hl 0 rfl) ?_
        obtain ⟨r12, qr12, hm⟩ := ss_bind hm
        refine ss_getr hC hK hR kf_S_83 rfl qr12 dd_S_figure_47 ?_
        refine lv_iload_n hx hb dd_S_figure_50 rfl (lv_at hl 1 rfl) ?_
        obtain ⟨v13, h14, qh14, hm⟩ := ss_bind2 hm
        refine ss_cV 0 0 (As := [.int a1]) hC hK hR hS hl.1 (cc_P_fewestSwept l G N _ _ _ _ _ qh14) km_S_236 (ck_P_fewestSwept qh14) ⟨Nat.le_of_ble_eq_true rfl, Nat.le_of_ble_eq_true rfl⟩ ⟨Nat.le_of_ble_eq_true rfl, Nat.le_of_ble_eq_true rfl, Nat.le_of_ble_eq_true rfl, Nat.le_of_ble_eq_true rfl⟩ rfl rfl (Nat.le_of_ble_eq_true rfl) dd_S_figure_51 (fun H locs hR hS => ?_)
        refine lv_istore_n (lv' := [(3, .int v13), (0, ss_v (ss_b G) this), (1, .int a1), (2, .int a2)]) hx hb dd_S_figure_54 rfl hl (by decide) rfl (fun ls hl => ?_)
        refine lv_iload_n hx hb dd_S_figure_55 rfl (lv_at hl 0 rfl) ?_
        refine lv_bipush (v := -2) hx hb dd_S_figure_56 (by decide) ?_
        refine lv_icmp_ne (tgt := 64) hx hb dd_S_figure_58 (by decide) (fun c15 => ?_) (fun c15 => ?_)
        · have hm := ss_iff hm c15
          refine lv_iload_n hx hb dd_S_figure_64 rfl (lv_at hl 3 rfl) ?_
          refine lv_if_ne (tgt := 75) hx hb dd_S_figure_65 (by decide) (fun c16 => ?_) (fun c16 => ?_)
          · have hm := ss_iff hm c16
            refine lv_iload_n hx hb dd_S_figure_75 rfl (lv_at hl 0 rfl) ?_
            exact J_76 v13 h14 _ _ _ hm hR hS (lv_sub hl [] rfl)
          · have hm := ss_ift hm c16
            refine lv_iload_n hx hb dd_S_figure_68 rfl (lv_at hl 0 rfl) ?_
            obtain ⟨v17, qv17, hm⟩ := ss_bind hm
            refine ss_cS 0 0 (As := [.int v13]) hC hK hR hS hl.1 (cc_JI_bitCount l G N _ _ _ qv17) km_S_231 ⟨Nat.le_of_ble_eq_true rfl, Nat.le_of_ble_eq_true rfl⟩ ⟨Nat.le_of_ble_eq_true rfl, Nat.le_of_ble_eq_true rfl, Nat.le_of_ble_eq_true rfl, Nat.le_of_ble_eq_true rfl⟩ rfl rfl (Nat.le_of_ble_eq_true rfl) dd_S_figure_69 (fun H locs hR hS => ?_)
            refine lv_goto (tgt := 76) hx hb dd_S_figure_72 (by decide) ?_
            exact J_76 v17 h14 _ _ _ hm hR hS (lv_sub hl [] rfl)
        · have hm := ss_ift hm c15
          refine lv_bipush (v := -2) hx hb dd_S_figure_61 (by decide) ?_
          exact ss_iret hC hr hlocks hR hS hm dd_S_figure_63
      · have hm := ss_ift hm c11
        exact J_44 h _ _ _ hm hR hS (lv_sub hl [] rfl)
theorem dd_P_weight_0 : decode bb_P_weight 0 = .ok (.iconst 1, 1) := by decide +kernel
theorem dd_P_weight_1 : decode bb_P_weight 1 = .ok (.aload_n 0, 1) := by decide +kernel
theorem dd_P_weight_2 : decode bb_P_weight 2 = .ok (.getfield 21, 3) := by decide +kernel
theorem dd_P_weight_5 : decode bb_P_weight 5 = .ok (.invokevirtual 90, 3) := by decide +kernel
theorem dd_P_weight_8 : decode bb_P_weight 8 = .ok (.iload_n 1, 1) := by decide +kernel
theorem dd_P_weight_9 : decode bb_P_weight 9 = .ok (.ishr, 1) := by decide +kernel
theorem dd_P_weight_10 : decode bb_P_weight 10 = .ok (.iconst 1, 1) := by decide +kernel
theorem dd_P_weight_11 : decode bb_P_weight 11 = .ok (.iand, 1) := by decide +kernel
theorem dd_P_weight_12 : decode bb_P_weight 12 = .ok (.bipush 16, 2) := by decide +kernel
theorem dd_P_weight_14 : decode bb_P_weight 14 = .ok (.imul, 1) := by decide +kernel
theorem dd_P_weight_15 : decode bb_P_weight 15 = .ok (.iadd, 1) := by decide +kernel
theorem dd_P_weight_16 : decode bb_P_weight 16 = .ok (.ireturn, 1) := by decide +kernel
def mm_P_weight (N : Nat) (this : Option Nat) (a1 : Int32) (h : ss_Hp) : Option Int32 :=
  if ss_is h this 10 = true then
    (ss_gr h this 10 0).bind fun r1 =>
    (mm_Wo_closedBits N r1 h).bind fun v2 =>
    some ((1 : Int32) + (((v2 >>> (a1 &&& 31)) &&& (1 : Int32)) * (16 : Int32)))
  else none
abbrev ww_P_weight (p : Program) (l : Launch) (e : Env) (s : State) (m : MethodId) (below : List Frame) (meth : Method) (c : Code) (G : ss_G) (this : Option Nat) (a1 : Int32) (h : ss_Hp) (rr : Int32) (H : Heap) (locs : List Loc) (k n : Nat) (g : JFrame) : Prop := W p l e (headSpec (ss_w yy_P_weight bb_P_weight 2 (some (.int))) ({ frames := 2, cells := 0, slots := 0, locals := 43 })).room s m ([ss_v (ss_b G) this, .int a1] : List Value).toArray below meth c H locs k n (MQ below (ss_Qc G (some (.int rr)) h) ([ss_v (ss_b G) this, .int a1] : List Value).toArray s 0 0 (ss_A G)) g
theorem ck_P_weight {N : Nat} {this : Option Nat} {a1 : Int32} {h : ss_Hp} {res : Int32} (hm : mm_P_weight N this a1 h = some res) : ss_is h this 10 = true := (ss_chk hm).1
set_option maxHeartbeats 4000000 in
set_option maxRecDepth 100000 in
theorem cc_P_weight (l : Launch) (G : ss_G) (N : Nat) (this : Option Nat) (a1 : Int32) (h : ss_Hp) (rr : Int32) (hm : mm_P_weight N this a1 h = some rr) : ss_Ct l G yy_P_weight bb_P_weight 2 (some (.int)) ({ frames := 2, cells := 0, slots := 0, locals := 43 }) [ss_v (ss_b G) this, .int a1] h (some (.int rr)) h := by
  obtain ⟨hck, hm⟩ := ss_chk hm
  refine Met.ofW (cc := bb_P_weight) (maxL := 2) (ret := (some (.int))) (by decide) rfl ?_
  intro p e s m args below meth c s₁ B hml hv
  obtain ⟨rfl, hR, hK⟩ := hv
  have hC : CallFix p m c bb_P_weight 2 s _ lw_g sR_10 := ⟨B.exec, B.bytes, hml, findClass_of_methodNamed B.named, fun w hw => atoms_spec (ws := ss_w yy_P_weight bb_P_weight 2 (some (.int))) B.pre w (List.mem_cons_of_mem _ hw)⟩
  have hx := hC.1
  have hb := hC.2.1
  have hr := B.returns
  have hlocks := B.notSynchronized
  have hS : va_S (ss_A G) s.heap s.heap [] := va_S.rf
  have hl := lv_entry ([ss_v (ss_b G) this, .int a1]) (n := 2) (by simp [lg_sl, ss_v_cat, ss_cat_i, ss_cat_l, ss_cat_r])
  rw [lg_entry_eq]
  generalize (lg_sl ([ss_v (ss_b G) this, .int a1]) ++ List.replicate (2 - (lg_sl ([ss_v (ss_b G) this, .int a1])).length) Slot.unset).toArray = ls at hl ⊢
  have hl : lv_has ls 2 [(0, ss_v (ss_b G) this), (1, .int a1)] := by simpa [lv_args, ss_v_cat, ss_cat_i, ss_cat_l, ss_cat_r] using hl
  refine lv_iconst (v := 1) hx hb dd_P_weight_0 (by decide) ?_
  refine ss_aload_n hx hb dd_P_weight_1 rfl (lv_at hl 0 rfl) ?_
  obtain ⟨r1, qr1, hm⟩ := ss_bind hm
  refine ss_getr hC hK hR kf_P_21 rfl qr1 dd_P_weight_2 ?_
  obtain ⟨v2, qv2, hm⟩ := ss_bind hm
  refine ss_cV 0 0 (As := []) hC hK hR hS hl.1 (cc_Wo_closedBits l G N _ _ _ qv2) km_P_90 (ck_Wo_closedBits qv2) ⟨Nat.le_of_ble_eq_true rfl, Nat.le_of_ble_eq_true rfl⟩ ⟨Nat.le_of_ble_eq_true rfl, Nat.le_of_ble_eq_true rfl, Nat.le_of_ble_eq_true rfl, Nat.le_of_ble_eq_true rfl⟩ rfl rfl (Nat.le_of_ble_eq_true rfl) dd_P_weight_5 (fun H locs hR hS => ?_)
  refine lv_iload_n hx hb dd_P_weight_8 rfl (lv_at hl 1 rfl) ?_
  refine lv_ishr hx hb dd_P_weight_9 ?_
  refine lv_iconst (v := 1) hx hb dd_P_weight_10 (by decide) ?_
  refine lv_iand hx hb dd_P_weight_11 ?_
  refine lv_bipush (v := 16) hx hb dd_P_weight_12 (by decide) ?_
  refine lv_imul hx hb dd_P_weight_14 ?_
  refine lv_iadd hx hb dd_P_weight_15 ?_
  exact ss_iret hC hr hlocks hR hS (ss_with _ hm) dd_P_weight_16
theorem dd_P_cheapestBeside_0 : decode bb_P_cheapestBeside 0 = .ok (.ldc 86, 2) := by decide +kernel
theorem dd_P_cheapestBeside_2 : decode bb_P_cheapestBeside 2 = .ok (.istore_n 2, 1) := by decide +kernel
theorem dd_P_cheapestBeside_3 : decode bb_P_cheapestBeside 3 = .ok (.iconst 0, 1) := by decide +kernel
theorem dd_P_cheapestBeside_4 : decode bb_P_cheapestBeside 4 = .ok (.istore_n 3, 1) := by decide +kernel
theorem dd_P_cheapestBeside_5 : decode bb_P_cheapestBeside 5 = .ok (.iload_n 3, 1) := by decide +kernel
theorem dd_P_cheapestBeside_6 : decode bb_P_cheapestBeside 6 = .ok (.aload_n 0, 1) := by decide +kernel
theorem dd_P_cheapestBeside_7 : decode bb_P_cheapestBeside 7 = .ok (.getfield 21, 3) := by decide +kernel
theorem dd_P_cheapestBeside_10 : decode bb_P_cheapestBeside 10 = .ok (.getfield 50, 3) := by decide +kernel
theorem dd_P_cheapestBeside_13 : decode bb_P_cheapestBeside 13 = .ok (.getfield 70, 3) := by decide +kernel
theorem dd_P_cheapestBeside_16 : decode bb_P_cheapestBeside 16 = .ok (.if_icmp .ge 40, 3) := by decide +kernel
theorem dd_P_cheapestBeside_19 : decode bb_P_cheapestBeside 19 = .ok (.aload_n 0, 1) := by decide +kernel
theorem dd_P_cheapestBeside_20 : decode bb_P_cheapestBeside 20 = .ok (.getfield 21, 3) := by decide +kernel
theorem dd_P_cheapestBeside_23 : decode bb_P_cheapestBeside 23 = .ok (.getfield 50, 3) := by decide +kernel
theorem dd_P_cheapestBeside_26 : decode bb_P_cheapestBeside 26 = .ok (.getfield 106, 3) := by decide +kernel
theorem dd_P_cheapestBeside_29 : decode bb_P_cheapestBeside 29 = .ok (.iload_n 1, 1) := by decide +kernel
theorem dd_P_cheapestBeside_30 : decode bb_P_cheapestBeside 30 = .ok (.iaload, 1) := by decide +kernel
theorem dd_P_cheapestBeside_31 : decode bb_P_cheapestBeside 31 = .ok (.iload_n 3, 1) := by decide +kernel
theorem dd_P_cheapestBeside_32 : decode bb_P_cheapestBeside 32 = .ok (.ishr, 1) := by decide +kernel
theorem dd_P_cheapestBeside_33 : decode bb_P_cheapestBeside 33 = .ok (.iconst 1, 1) := by decide +kernel
theorem dd_P_cheapestBeside_34 : decode bb_P_cheapestBeside 34 = .ok (.iand, 1) := by decide +kernel
theorem dd_P_cheapestBeside_35 : decode bb_P_cheapestBeside 35 = .ok (.iconst 1, 1) := by decide +kernel
theorem dd_P_cheapestBeside_36 : decode bb_P_cheapestBeside 36 = .ok (.if_icmp .ne 14, 3) := by decide +kernel
theorem dd_P_cheapestBeside_39 : decode bb_P_cheapestBeside 39 = .ok (.iload_n 2, 1) := by decide +kernel
theorem dd_P_cheapestBeside_40 : decode bb_P_cheapestBeside 40 = .ok (.aload_n 0, 1) := by decide +kernel
theorem dd_P_cheapestBeside_41 : decode bb_P_cheapestBeside 41 = .ok (.getfield 15, 3) := by decide +kernel
theorem dd_P_cheapestBeside_44 : decode bb_P_cheapestBeside 44 = .ok (.iload_n 3, 1) := by decide +kernel
theorem dd_P_cheapestBeside_45 : decode bb_P_cheapestBeside 45 = .ok (.iaload, 1) := by decide +kernel
theorem dd_P_cheapestBeside_46 : decode bb_P_cheapestBeside 46 = .ok (.invokestatic 100, 3) := by decide +kernel
theorem dd_P_cheapestBeside_49 : decode bb_P_cheapestBeside 49 = .ok (.istore_n 2, 1) := by decide +kernel
theorem dd_P_cheapestBeside_50 : decode bb_P_cheapestBeside 50 = .ok (.iinc 3 1, 3) := by decide +kernel
theorem dd_P_cheapestBeside_53 : decode bb_P_cheapestBeside 53 = .ok (.goto (-48), 3) := by decide +kernel
theorem dd_P_cheapestBeside_56 : decode bb_P_cheapestBeside 56 = .ok (.iload_n 2, 1) := by decide +kernel
theorem dd_P_cheapestBeside_57 : decode bb_P_cheapestBeside 57 = .ok (.ireturn, 1) := by decide +kernel
def mm_P_cheapestBeside_j50 (N : Nat) (this : Option Nat) (a1 : Int32) (h : ss_Hp) (x2_50 : Int32) (x3_50 : Int32) : Option ((Int32 × Int32) ⊕ Int32) :=
  (some (x3_50 + (1 : Int32))).bind fun v1 =>
  some (.inl (x2_50, v1))
def mm_P_cheapestBeside_b5 (N : Nat) (this : Option Nat) (a1 : Int32) (h : ss_Hp) (st : Int32 × Int32) : Option ((Int32 × Int32) ⊕ Int32) :=
  match st with
  | (x2_5, x3_5) =>
    (ss_gr h this 10 0).bind fun r2 =>
    (ss_gr h r2 8 0).bind fun r3 =>
    (ss_gi h r3 5 3).bind fun v4 =>
    if v4 ≤ x3_5 then
      some (.inr x2_5)
    else
      (ss_gr h this 10 0).bind fun r6 =>
      (ss_gr h r6 8 0).bind fun r7 =>
      (ss_gr h r7 5 2).bind fun r8 =>
      (ss_ai h r8 20 a1).bind fun v9 =>
      if ((v9 >>> (x3_5 &&& 31)) &&& (1 : Int32)) = (1 : Int32) then
        (ss_gr h this 10 3).bind fun r11 =>
        (ss_ai h r11 20 x3_5).bind fun v12 =>
        (some (if v12 < x2_5 then v12 else x2_5)).bind fun v13 =>
        mm_P_cheapestBeside_j50 N this a1 h v13 x3_5
      else
        mm_P_cheapestBeside_j50 N this a1 h x2_5 x3_5
def mm_P_cheapestBeside (N : Nat) (this : Option Nat) (a1 : Int32) (h : ss_Hp) : Option Int32 :=
  if ss_is h this 10 = true then
    (ss_lp (mm_P_cheapestBeside_b5 N this a1 h) N ((1000000 : Int32), (0 : Int32))).bind fun y2_5_56 =>
    some y2_5_56
  else none
abbrev ww_P_cheapestBeside (p : Program) (l : Launch) (e : Env) (s : State) (m : MethodId) (below : List Frame) (meth : Method) (c : Code) (G : ss_G) (this : Option Nat) (a1 : Int32) (h : ss_Hp) (rr : Int32) (H : Heap) (locs : List Loc) (k n : Nat) (g : JFrame) : Prop := W p l e (headSpec (ss_w yy_P_cheapestBeside bb_P_cheapestBeside 4 (some (.int))) ({ frames := 1, cells := 0, slots := 0, locals := 80 })).room s m ([ss_v (ss_b G) this, .int a1] : List Value).toArray below meth c H locs k n (MQ below (ss_Qc G (some (.int rr)) h) ([ss_v (ss_b G) this, .int a1] : List Value).toArray s 0 0 (ss_A G)) g
theorem ck_P_cheapestBeside {N : Nat} {this : Option Nat} {a1 : Int32} {h : ss_Hp} {res : Int32} (hm : mm_P_cheapestBeside N this a1 h = some res) : ss_is h this 10 = true := (ss_chk hm).1
set_option maxHeartbeats 4000000 in
set_option maxRecDepth 100000 in
theorem cc_P_cheapestBeside (l : Launch) (G : ss_G) (N : Nat) (this : Option Nat) (a1 : Int32) (h : ss_Hp) (rr : Int32) (hm : mm_P_cheapestBeside N this a1 h = some rr) : ss_Ct l G yy_P_cheapestBeside bb_P_cheapestBeside 4 (some (.int)) ({ frames := 1, cells := 0, slots := 0, locals := 80 }) [ss_v (ss_b G) this, .int a1] h (some (.int rr)) h := by
  obtain ⟨hck, hm⟩ := ss_chk hm
  refine Met.ofW (cc := bb_P_cheapestBeside) (maxL := 4) (ret := (some (.int))) (by decide) rfl ?_
  intro p e s m args below meth c s₁ B hml hv
  obtain ⟨rfl, hR, hK⟩ := hv
  have hC : CallFix p m c bb_P_cheapestBeside 4 s _ lw_g sR_10 := ⟨B.exec, B.bytes, hml, findClass_of_methodNamed B.named, fun w hw => atoms_spec (ws := ss_w yy_P_cheapestBeside bb_P_cheapestBeside 4 (some (.int))) B.pre w (List.mem_cons_of_mem _ hw)⟩
  have hx := hC.1
  have hb := hC.2.1
  have hr := B.returns
  have hlocks := B.notSynchronized
  have hS : va_S (ss_A G) s.heap s.heap [] := va_S.rf
  have hl := lv_entry ([ss_v (ss_b G) this, .int a1]) (n := 4) (by simp [lg_sl, ss_v_cat, ss_cat_i, ss_cat_l, ss_cat_r])
  rw [lg_entry_eq]
  generalize (lg_sl ([ss_v (ss_b G) this, .int a1]) ++ List.replicate (4 - (lg_sl ([ss_v (ss_b G) this, .int a1])).length) Slot.unset).toArray = ls at hl ⊢
  have hl : lv_has ls 4 [(0, ss_v (ss_b G) this), (1, .int a1)] := by simpa [lv_args, ss_v_cat, ss_cat_i, ss_cat_l, ss_cat_r] using hl
  refine lv_ldc (v := 1000000) hx hb hC.2.2.2.1 (hC.2.2.2.2 _ kc_P_86) dd_P_cheapestBeside_0 ?_
  refine lv_istore_n (lv' := [(2, .int (1000000 : Int32)), (0, ss_v (ss_b G) this), (1, .int a1)]) hx hb dd_P_cheapestBeside_2 rfl hl (by decide) rfl (fun ls hl => ?_)
  refine lv_iconst (v := 0) hx hb dd_P_cheapestBeside_3 (by decide) ?_
  refine lv_istore_n (lv' := [(3, .int (0 : Int32)), (2, .int (1000000 : Int32)), (0, ss_v (ss_b G) this), (1, .int a1)]) hx hb dd_P_cheapestBeside_4 rfl hl (by decide) rfl (fun ls hl => ?_)
  obtain ⟨e_5, he_5, hm⟩ := ss_bind hm
  have X_5_56 : ∀ (y2_5_56 : Int32) (H : Heap) (locs : List Loc) (ls : Array Slot), e_5 = y2_5_56 → ss_R G h H → va_S (ss_A G) s.heap H locs → lv_has ls 4 [(2, .int y2_5_56)] → ww_P_cheapestBeside p l e s m below meth c G this a1 h rr  H locs 0 0 (F0 m 56 ls []) := by
    intro y2_5_56 H locs ls hq hR hS hl
    rw [hq] at hm
    refine lv_iload_n hx hb dd_P_cheapestBeside_56 rfl (lv_at hl 0 rfl) ?_
    exact ss_iret hC hr hlocks hR hS (ss_with _ hm) dd_P_cheapestBeside_57
  have L_5 : ∀ (n : Nat) (x2_5 : Int32) (x3_5 : Int32) (H : Heap) (locs : List Loc) (ls : Array Slot), ss_lp (mm_P_cheapestBeside_b5 N this a1 h) n (x2_5, x3_5) = some e_5 → ss_R G h H → va_S (ss_A G) s.heap H locs → lv_has ls 4 [(0, ss_v (ss_b G) this), (1, .int a1), (2, .int x2_5), (3, .int x3_5)] → ww_P_cheapestBeside p l e s m below meth c G this a1 h rr  H locs 0 0 (F0 m 5 ls []) := by
    intro n
    induction n with
    | zero => intro x2_5 x3_5 H locs ls hm; cases hm
    | succ n ih_5 =>
      intro x2_5 x3_5 H locs ls hm hR hS hl
      obtain ⟨z_5, hm, hz1_5, hz2_5⟩ := ss_lps hm
      have J_50 : ∀ (x2_50 : Int32) (x3_50 : Int32) (H : Heap) (locs : List Loc) (ls : Array Slot), mm_P_cheapestBeside_j50 N this a1 h x2_50 x3_50 = some z_5 → ss_R G h H → va_S (ss_A G) s.heap H locs → lv_has ls 4 [(0, ss_v (ss_b G) this), (1, .int a1), (2, .int x2_50), (3, .int x3_50)] → ww_P_cheapestBeside p l e s m below meth c G this a1 h rr  H locs 0 0 (F0 m 50 ls []) := by
        intro x2_50 x3_50 H locs ls hm hR hS hl
        obtain ⟨v1, qv1, hm⟩ := ss_bind hm
        refine lv_iinc (v := v1) (lv' := [(3, .int v1), (0, ss_v (ss_b G) this), (1, .int a1), (2, .int x2_50)]) hx hb dd_P_cheapestBeside_50 hl (k := 3) rfl (ss_inc (by decide) qv1) (by decide) rfl (fun ls hl => ?_)
        refine lv_goto (tgt := 5) hx hb dd_P_cheapestBeside_53 (by decide) ?_
        exact ih_5 x2_50 v1  _ _ _ (hz1_5 _ (ss_some hm)) hR hS (lv_sub hl [1, 2, 3, 0] rfl)
      refine lv_iload_n hx hb dd_P_cheapestBeside_5 rfl (lv_at hl 3 rfl) ?_
      refine ss_aload_n hx hb dd_P_cheapestBeside_6 rfl (lv_at hl 0 rfl) ?_
      obtain ⟨r2, qr2, hm⟩ := ss_bind hm
      refine ss_getr hC hK hR kf_P_21 rfl qr2 dd_P_cheapestBeside_7 ?_
      obtain ⟨r3, qr3, hm⟩ := ss_bind hm
      refine ss_getr hC hK hR kf_P_50 rfl qr3 dd_P_cheapestBeside_10 ?_
      obtain ⟨v4, qv4, hm⟩ := ss_bind hm
      refine ss_geti hC hK hR kf_P_70 qv4 dd_P_cheapestBeside_13 ?_
      refine lv_icmp_ge (tgt := 56) hx hb dd_P_cheapestBeside_16 (by decide) (fun c5 => ?_) (fun c5 => ?_)
      · have hm := ss_ift hm c5
        exact X_5_56 x2_5  _ _ _ (hz2_5 _ (ss_some hm)) hR hS (lv_sub hl [2] rfl)
      · have hm := ss_iff hm c5
        refine ss_aload_n hx hb dd_P_cheapestBeside_19 rfl (lv_at hl 0 rfl) ?_
        obtain ⟨r6, qr6, hm⟩ := ss_bind hm
        refine ss_getr hC hK hR kf_P_21 rfl qr6 dd_P_cheapestBeside_20 ?_
        obtain ⟨r7, qr7, hm⟩ := ss_bind hm
        refine ss_getr hC hK hR kf_P_50 rfl qr7 dd_P_cheapestBeside_23 ?_
        obtain ⟨r8, qr8, hm⟩ := ss_bind hm
        refine ss_getr hC hK hR kf_P_106 rfl qr8 dd_P_cheapestBeside_26 ?_
        refine lv_iload_n hx hb dd_P_cheapestBeside_29 rfl (lv_at hl 1 rfl) ?_
        obtain ⟨v9, qv9, hm⟩ := ss_bind hm
        refine ss_iald hC hK hR qv9 dd_P_cheapestBeside_30 ?_
        refine lv_iload_n hx hb dd_P_cheapestBeside_31 rfl (lv_at hl 3 rfl) ?_
        refine lv_ishr hx hb dd_P_cheapestBeside_32 ?_
        refine lv_iconst (v := 1) hx hb dd_P_cheapestBeside_33 (by decide) ?_
        refine lv_iand hx hb dd_P_cheapestBeside_34 ?_
        refine lv_iconst (v := 1) hx hb dd_P_cheapestBeside_35 (by decide) ?_
        refine lv_icmp_ne (tgt := 50) hx hb dd_P_cheapestBeside_36 (by decide) (fun c10 => ?_) (fun c10 => ?_)
        · have hm := ss_iff hm c10
          exact J_50 x2_5 x3_5  _ _ _ hm hR hS hl
        · have hm := ss_ift hm c10
          refine lv_iload_n hx hb dd_P_cheapestBeside_39 rfl (lv_at hl 2 rfl) ?_
          refine ss_aload_n hx hb dd_P_cheapestBeside_40 rfl (lv_at hl 0 rfl) ?_
          obtain ⟨r11, qr11, hm⟩ := ss_bind hm
          refine ss_getr hC hK hR kf_P_15 rfl qr11 dd_P_cheapestBeside_41 ?_
          refine lv_iload_n hx hb dd_P_cheapestBeside_44 rfl (lv_at hl 3 rfl) ?_
          obtain ⟨v12, qv12, hm⟩ := ss_bind hm
          refine ss_iald hC hK hR qv12 dd_P_cheapestBeside_45 ?_
          refine ss_min hC hl.1 kj_P_100 kj_min_s kj_math kj_min_c (Nat.le_of_ble_eq_true rfl) (Nat.le_of_ble_eq_true rfl) (Nat.le_of_ble_eq_true rfl) ⟨Nat.le_of_ble_eq_true rfl, Nat.le_of_ble_eq_true rfl⟩ dd_P_cheapestBeside_46 ?_
          obtain ⟨v13, qv13, hm⟩ := ss_bind hm
          refine ss_topi qv13 ?_
          refine lv_istore_n (lv' := [(2, .int v13), (0, ss_v (ss_b G) this), (1, .int a1), (3, .int x3_5)]) hx hb dd_P_cheapestBeside_49 rfl hl (by decide) rfl (fun ls hl => ?_)
          exact J_50 v13 x3_5  _ _ _ hm hR hS (lv_sub hl [1, 2, 0, 3] rfl)
  exact L_5 N (1000000 : Int32) (0 : Int32) _ _ _ he_5 hR hS (lv_sub hl [2, 3, 1, 0] rfl)
theorem dd_P_spreadCosts_0 : decode bb_P_spreadCosts 0 = .ok (.aload_n 0, 1) := by decide +kernel
theorem dd_P_spreadCosts_1 : decode bb_P_spreadCosts 1 = .ok (.getfield 21, 3) := by decide +kernel
theorem dd_P_spreadCosts_4 : decode bb_P_spreadCosts 4 = .ok (.getfield 50, 3) := by decide +kernel
theorem dd_P_spreadCosts_7 : decode bb_P_spreadCosts 7 = .ok (.getfield 70, 3) := by decide +kernel
theorem dd_P_spreadCosts_10 : decode bb_P_spreadCosts 10 = .ok (.istore_n 2, 1) := by decide +kernel
theorem dd_P_spreadCosts_11 : decode bb_P_spreadCosts 11 = .ok (.iconst 0, 1) := by decide +kernel
theorem dd_P_spreadCosts_12 : decode bb_P_spreadCosts 12 = .ok (.istore_n 3, 1) := by decide +kernel
theorem dd_P_spreadCosts_13 : decode bb_P_spreadCosts 13 = .ok (.iload_n 3, 1) := by decide +kernel
theorem dd_P_spreadCosts_14 : decode bb_P_spreadCosts 14 = .ok (.iload_n 2, 1) := by decide +kernel
theorem dd_P_spreadCosts_15 : decode bb_P_spreadCosts 15 = .ok (.if_icmp .ge 30, 3) := by decide +kernel
theorem dd_P_spreadCosts_18 : decode bb_P_spreadCosts 18 = .ok (.aload_n 0, 1) := by decide +kernel
theorem dd_P_spreadCosts_19 : decode bb_P_spreadCosts 19 = .ok (.getfield 15, 3) := by decide +kernel
theorem dd_P_spreadCosts_22 : decode bb_P_spreadCosts 22 = .ok (.iload_n 3, 1) := by decide +kernel
theorem dd_P_spreadCosts_23 : decode bb_P_spreadCosts 23 = .ok (.iload_n 3, 1) := by decide +kernel
theorem dd_P_spreadCosts_24 : decode bb_P_spreadCosts 24 = .ok (.iload_n 1, 1) := by decide +kernel
theorem dd_P_spreadCosts_25 : decode bb_P_spreadCosts 25 = .ok (.if_icmp .ne 11, 3) := by decide +kernel
theorem dd_P_spreadCosts_28 : decode bb_P_spreadCosts 28 = .ok (.aload_n 0, 1) := by decide +kernel
theorem dd_P_spreadCosts_29 : decode bb_P_spreadCosts 29 = .ok (.iload_n 3, 1) := by decide +kernel
theorem dd_P_spreadCosts_30 : decode bb_P_spreadCosts 30 = .ok (.invokevirtual 94, 3) := by decide +kernel
theorem dd_P_spreadCosts_33 : decode bb_P_spreadCosts 33 = .ok (.goto 5, 3) := by decide +kernel
theorem dd_P_spreadCosts_36 : decode bb_P_spreadCosts 36 = .ok (.ldc 86, 2) := by decide +kernel
theorem dd_P_spreadCosts_38 : decode bb_P_spreadCosts 38 = .ok (.iastore, 1) := by decide +kernel
theorem dd_P_spreadCosts_39 : decode bb_P_spreadCosts 39 = .ok (.iinc 3 1, 3) := by decide +kernel
theorem dd_P_spreadCosts_42 : decode bb_P_spreadCosts 42 = .ok (.goto (-29), 3) := by decide +kernel
theorem dd_P_spreadCosts_45 : decode bb_P_spreadCosts 45 = .ok (.iconst 0, 1) := by decide +kernel
theorem dd_P_spreadCosts_46 : decode bb_P_spreadCosts 46 = .ok (.istore_n 3, 1) := by decide +kernel
theorem dd_P_spreadCosts_47 : decode bb_P_spreadCosts 47 = .ok (.iload_n 3, 1) := by decide +kernel
theorem dd_P_spreadCosts_48 : decode bb_P_spreadCosts 48 = .ok (.iload_n 2, 1) := by decide +kernel
theorem dd_P_spreadCosts_49 : decode bb_P_spreadCosts 49 = .ok (.if_icmp .ge 54, 3) := by decide +kernel
theorem dd_P_spreadCosts_52 : decode bb_P_spreadCosts 52 = .ok (.iconst 0, 1) := by decide +kernel
theorem dd_P_spreadCosts_53 : decode bb_P_spreadCosts 53 = .ok (.istore 4, 2) := by decide +kernel
theorem dd_P_spreadCosts_55 : decode bb_P_spreadCosts 55 = .ok (.iload 4, 2) := by decide +kernel
theorem dd_P_spreadCosts_57 : decode bb_P_spreadCosts 57 = .ok (.iload_n 2, 1) := by decide +kernel
theorem dd_P_spreadCosts_58 : decode bb_P_spreadCosts 58 = .ok (.if_icmp .ge 39, 3) := by decide +kernel
theorem dd_P_spreadCosts_61 : decode bb_P_spreadCosts 61 = .ok (.aload_n 0, 1) := by decide +kernel
theorem dd_P_spreadCosts_62 : decode bb_P_spreadCosts 62 = .ok (.getfield 15, 3) := by decide +kernel
theorem dd_P_spreadCosts_65 : decode bb_P_spreadCosts 65 = .ok (.iload 4, 2) := by decide +kernel
theorem dd_P_spreadCosts_67 : decode bb_P_spreadCosts 67 = .ok (.aload_n 0, 1) := by decide +kernel
theorem dd_P_spreadCosts_68 : decode bb_P_spreadCosts 68 = .ok (.getfield 15, 3) := by decide +kernel
theorem dd_P_spreadCosts_71 : decode bb_P_spreadCosts 71 = .ok (.iload 4, 2) := by decide +kernel
theorem dd_P_spreadCosts_73 : decode bb_P_spreadCosts 73 = .ok (.iaload, 1) := by decide +kernel
theorem dd_P_spreadCosts_74 : decode bb_P_spreadCosts 74 = .ok (.aload_n 0, 1) := by decide +kernel
theorem dd_P_spreadCosts_75 : decode bb_P_spreadCosts 75 = .ok (.iload 4, 2) := by decide +kernel
theorem dd_P_spreadCosts_77 : decode bb_P_spreadCosts 77 = .ok (.invokevirtual 94, 3) := by decide +kernel
theorem dd_P_spreadCosts_80 : decode bb_P_spreadCosts 80 = .ok (.aload_n 0, 1) := by decide +kernel
theorem dd_P_spreadCosts_81 : decode bb_P_spreadCosts 81 = .ok (.iload 4, 2) := by decide +kernel
theorem dd_P_spreadCosts_83 : decode bb_P_spreadCosts 83 = .ok (.invokevirtual 97, 3) := by decide +kernel
theorem dd_P_spreadCosts_86 : decode bb_P_spreadCosts 86 = .ok (.iadd, 1) := by decide +kernel
theorem dd_P_spreadCosts_87 : decode bb_P_spreadCosts 87 = .ok (.invokestatic 100, 3) := by decide +kernel
theorem dd_P_spreadCosts_90 : decode bb_P_spreadCosts 90 = .ok (.iastore, 1) := by decide +kernel
theorem dd_P_spreadCosts_91 : decode bb_P_spreadCosts 91 = .ok (.iinc 4 1, 3) := by decide +kernel
theorem dd_P_spreadCosts_94 : decode bb_P_spreadCosts 94 = .ok (.goto (-39), 3) := by decide +kernel
theorem dd_P_spreadCosts_97 : decode bb_P_spreadCosts 97 = .ok (.iinc 3 1, 3) := by decide +kernel
theorem dd_P_spreadCosts_100 : decode bb_P_spreadCosts 100 = .ok (.goto (-53), 3) := by decide +kernel
theorem dd_P_spreadCosts_103 : decode bb_P_spreadCosts 103 = .ok (.return_, 1) := by decide +kernel
def mm_P_spreadCosts_b55 (N : Nat) (this : Option Nat) (v3 : Int32) (x3_47 : Int32) (st : Int32 × ss_Hp) : Option ((Int32 × ss_Hp) ⊕ ss_Hp) :=
  match st with
  | (x4_55, h_55) =>
    if v3 ≤ x4_55 then
      some (.inr h_55)
    else
      (ss_gr h_55 this 10 3).bind fun r7 =>
      (ss_gr h_55 this 10 3).bind fun r8 =>
      (ss_ai h_55 r8 20 x4_55).bind fun v9 =>
      (mm_P_weight N this x4_55 h_55).bind fun v10 =>
      (mm_P_cheapestBeside N this x4_55 h_55).bind fun v11 =>
      (ss_ui h_55 r7 20 x4_55 (if (v10 + v11) < v9 then (v10 + v11) else v9)).bind fun h12 =>
      (some (x4_55 + (1 : Int32))).bind fun v13 =>
      some (.inl (v13, h12))
def mm_P_spreadCosts_b47 (N : Nat) (this : Option Nat) (v3 : Int32) (st : Int32 × ss_Hp) : Option ((Int32 × ss_Hp) ⊕ ss_Hp) :=
  match st with
  | (x3_47, h_47) =>
    if v3 ≤ x3_47 then
      some (.inr h_47)
    else
      (ss_lp (mm_P_spreadCosts_b55 N this v3 x3_47) N ((0 : Int32), h_47)).bind fun h_55_97 =>
      (some (x3_47 + (1 : Int32))).bind fun v5 =>
      some (.inl (v5, h_55_97))
def mm_P_spreadCosts_j38 (N : Nat) (this : Option Nat) (a1 : Int32) (v3 : Int32) (x3_38 : Int32) (s0_38 : Option Nat) (s1_38 : Int32) (s2_38 : Int32) (h_38 : ss_Hp) : Option ((Int32 × ss_Hp) ⊕ ss_Hp) :=
  (ss_ui h_38 s0_38 20 s1_38 s2_38).bind fun h14 =>
  (some (x3_38 + (1 : Int32))).bind fun v15 =>
  some (.inl (v15, h14))
def mm_P_spreadCosts_b13 (N : Nat) (this : Option Nat) (a1 : Int32) (v3 : Int32) (st : Int32 × ss_Hp) : Option ((Int32 × ss_Hp) ⊕ ss_Hp) :=
  match st with
  | (x3_13, h_13) =>
    if v3 ≤ x3_13 then
      some (.inr h_13)
    else
      (ss_gr h_13 this 10 3).bind fun r17 =>
      if x3_13 = a1 then
        (mm_P_weight N this x3_13 h_13).bind fun v19 =>
        mm_P_spreadCosts_j38 N this a1 v3 x3_13 r17 x3_13 v19 h_13
      else
        mm_P_spreadCosts_j38 N this a1 v3 x3_13 r17 x3_13 (1000000 : Int32) h_13
def mm_P_spreadCosts (N : Nat) (this : Option Nat) (a1 : Int32) (h : ss_Hp) : Option ss_Hp :=
  if ss_is h this 10 = true then
    (ss_gr h this 10 0).bind fun r1 =>
    (ss_gr h r1 8 0).bind fun r2 =>
    (ss_gi h r2 5 3).bind fun v3 =>
    (ss_lp (mm_P_spreadCosts_b13 N this a1 v3) N ((0 : Int32), h)).bind fun h_13_45 =>
    (ss_lp (mm_P_spreadCosts_b47 N this v3) N ((0 : Int32), h_13_45)).bind fun h_47_103 =>
    some h_47_103
  else none
abbrev ww_P_spreadCosts (p : Program) (l : Launch) (e : Env) (s : State) (m : MethodId) (below : List Frame) (meth : Method) (c : Code) (G : ss_G) (this : Option Nat) (a1 : Int32) (h : ss_Hp) (hh : ss_Hp) (H : Heap) (locs : List Loc) (k n : Nat) (g : JFrame) : Prop := W p l e (headSpec (ss_w yy_P_spreadCosts bb_P_spreadCosts 5 none) ({ frames := 3, cells := 0, slots := 0, locals := 103 })).room s m ([ss_v (ss_b G) this, .int a1] : List Value).toArray below meth c H locs k n (MQ below (ss_Qc G none hh) ([ss_v (ss_b G) this, .int a1] : List Value).toArray s 0 0 (ss_A G)) g
theorem ck_P_spreadCosts {N : Nat} {this : Option Nat} {a1 : Int32} {h : ss_Hp} {res : ss_Hp} (hm : mm_P_spreadCosts N this a1 h = some res) : ss_is h this 10 = true := (ss_chk hm).1
set_option maxHeartbeats 4000000 in
set_option maxRecDepth 100000 in
theorem cc_P_spreadCosts (l : Launch) (G : ss_G) (N : Nat) (this : Option Nat) (a1 : Int32) (h : ss_Hp) (hh : ss_Hp) (hm : mm_P_spreadCosts N this a1 h = some hh) : ss_Ct l G yy_P_spreadCosts bb_P_spreadCosts 5 none ({ frames := 3, cells := 0, slots := 0, locals := 103 }) [ss_v (ss_b G) this, .int a1] h none hh := by
  obtain ⟨hck, hm⟩ := ss_chk hm
  refine Met.ofW (cc := bb_P_spreadCosts) (maxL := 5) (ret := none) (by decide) rfl ?_
  intro p e s m args below meth c s₁ B hml hv
  obtain ⟨rfl, hR, hK⟩ := hv
  have hC : CallFix p m c bb_P_spreadCosts 5 s _ lw_g sR_10 := ⟨B.exec, B.bytes, hml, findClass_of_methodNamed B.named, fun w hw => atoms_spec (ws := ss_w yy_P_spreadCosts bb_P_spreadCosts 5 none) B.pre w (List.mem_cons_of_mem _ hw)⟩
  have hx := hC.1
  have hb := hC.2.1
  have hr := B.returns
  have hlocks := B.notSynchronized
  have hS : va_S (ss_A G) s.heap s.heap [] := va_S.rf
  have hl := lv_entry ([ss_v (ss_b G) this, .int a1]) (n := 5) (by simp [lg_sl, ss_v_cat, ss_cat_i, ss_cat_l, ss_cat_r])
  rw [lg_entry_eq]
  generalize (lg_sl ([ss_v (ss_b G) this, .int a1]) ++ List.replicate (5 - (lg_sl ([ss_v (ss_b G) this, .int a1])).length) Slot.unset).toArray = ls at hl ⊢
  have hl : lv_has ls 5 [(0, ss_v (ss_b G) this), (1, .int a1)] := by simpa [lv_args, ss_v_cat, ss_cat_i, ss_cat_l, ss_cat_r] using hl
  refine ss_aload_n hx hb dd_P_spreadCosts_0 rfl (lv_at hl 0 rfl) ?_
  obtain ⟨r1, qr1, hm⟩ := ss_bind hm
  refine ss_getr hC hK hR kf_P_21 rfl qr1 dd_P_spreadCosts_1 ?_
  obtain ⟨r2, qr2, hm⟩ := ss_bind hm
  refine ss_getr hC hK hR kf_P_50 rfl qr2 dd_P_spreadCosts_4 ?_
  obtain ⟨v3, qv3, hm⟩ := ss_bind hm
  refine ss_geti hC hK hR kf_P_70 qv3 dd_P_spreadCosts_7 ?_
  refine lv_istore_n (lv' := [(2, .int v3), (0, ss_v (ss_b G) this), (1, .int a1)]) hx hb dd_P_spreadCosts_10 rfl hl (by decide) rfl (fun ls hl => ?_)
  refine lv_iconst (v := 0) hx hb dd_P_spreadCosts_11 (by decide) ?_
  refine lv_istore_n (lv' := [(3, .int (0 : Int32)), (2, .int v3), (0, ss_v (ss_b G) this), (1, .int a1)]) hx hb dd_P_spreadCosts_12 rfl hl (by decide) rfl (fun ls hl => ?_)
  obtain ⟨e_13, he_13, hm⟩ := ss_bind hm
  have X_13_45 : ∀  (h_13_45 : ss_Hp) (H : Heap) (locs : List Loc) (ls : Array Slot), e_13 = h_13_45 → ss_R G h_13_45 H → va_S (ss_A G) s.heap H locs → lv_has ls 5 [(0, ss_v (ss_b G) this), (2, .int v3)] → ww_P_spreadCosts p l e s m below meth c G this a1 h hh  H locs 0 0 (F0 m 45 ls []) := by
    intro h_13_45 H locs ls hq hR hS hl
    rw [hq] at hm
    refine lv_iconst (v := 0) hx hb dd_P_spreadCosts_45 (by decide) ?_
    refine lv_istore_n (lv' := [(3, .int (0 : Int32)), (0, ss_v (ss_b G) this), (2, .int v3)]) hx hb dd_P_spreadCosts_46 rfl hl (by decide) rfl (fun ls hl => ?_)
    obtain ⟨e_47, he_47, hm⟩ := ss_bind hm
    have X_47_103 : ∀  (h_47_103 : ss_Hp) (H : Heap) (locs : List Loc) (ls : Array Slot), e_47 = h_47_103 → ss_R G h_47_103 H → va_S (ss_A G) s.heap H locs → lv_has ls 5 [] → ww_P_spreadCosts p l e s m below meth c G this a1 h hh  H locs 0 0 (F0 m 103 ls []) := by
      intro h_47_103 H locs ls hq hR hS hl
      rw [hq] at hm
      exact ss_vret hC hr hlocks hR hS hm dd_P_spreadCosts_103
    have L_47 : ∀ (n : Nat) (x3_47 : Int32) (h_47 : ss_Hp) (H : Heap) (locs : List Loc) (ls : Array Slot), ss_lp (mm_P_spreadCosts_b47 N this v3) n (x3_47, h_47) = some e_47 → ss_R G h_47 H → va_S (ss_A G) s.heap H locs → lv_has ls 5 [(0, ss_v (ss_b G) this), (2, .int v3), (3, .int x3_47)] → ww_P_spreadCosts p l e s m below meth c G this a1 h hh  H locs 0 0 (F0 m 47 ls []) := by
      intro n
      induction n with
      | zero => intro x3_47 h_47 H locs ls hm; cases hm
      | succ n ih_47 =>
        intro x3_47 h_47 H locs ls hm hR hS hl
        obtain ⟨z_47, hm, hz1_47, hz2_47⟩ := ss_lps hm
        refine lv_iload_n hx hb dd_P_spreadCosts_47 rfl (lv_at hl 2 rfl) ?_
        refine lv_iload_n hx hb dd_P_spreadCosts_48 rfl (lv_at hl 1 rfl) ?_
        refine lv_icmp_ge (tgt := 103) hx hb dd_P_spreadCosts_49 (by decide) (fun c4 => ?_) (fun c4 => ?_)
        · have hm := ss_ift hm c4
          exact X_47_103 h_47 _ _ _ (hz2_47 _ (ss_some hm)) hR hS (lv_sub hl [] rfl)
        · have hm := ss_iff hm c4
          refine lv_iconst (v := 0) hx hb dd_P_spreadCosts_52 (by decide) ?_
          refine lv_istore (lv' := [(4, .int (0 : Int32)), (0, ss_v (ss_b G) this), (2, .int v3), (3, .int x3_47)]) hx hb dd_P_spreadCosts_53 hl (by decide) rfl (fun ls hl => ?_)
          obtain ⟨e_55, he_55, hm⟩ := ss_bind hm
          have X_55_97 : ∀  (h_55_97 : ss_Hp) (H : Heap) (locs : List Loc) (ls : Array Slot), e_55 = h_55_97 → ss_R G h_55_97 H → va_S (ss_A G) s.heap H locs → lv_has ls 5 [(0, ss_v (ss_b G) this), (2, .int v3), (3, .int x3_47)] → ww_P_spreadCosts p l e s m below meth c G this a1 h hh  H locs 0 0 (F0 m 97 ls []) := by
            intro h_55_97 H locs ls hq hR hS hl
            rw [hq] at hm
            obtain ⟨v5, qv5, hm⟩ := ss_bind hm
            refine lv_iinc (v := v5) (lv' := [(3, .int v5), (0, ss_v (ss_b G) this), (2, .int v3)]) hx hb dd_P_spreadCosts_97 hl (k := 2) rfl (ss_inc (by decide) qv5) (by decide) rfl (fun ls hl => ?_)
            refine lv_goto (tgt := 47) hx hb dd_P_spreadCosts_100 (by decide) ?_
            exact ih_47 v5 h_55_97 _ _ _ (hz1_47 _ (ss_some hm)) hR hS (lv_sub hl [1, 2, 0] rfl)
          have L_55 : ∀ (n : Nat) (x4_55 : Int32) (h_55 : ss_Hp) (H : Heap) (locs : List Loc) (ls : Array Slot), ss_lp (mm_P_spreadCosts_b55 N this v3 x3_47) n (x4_55, h_55) = some e_55 → ss_R G h_55 H → va_S (ss_A G) s.heap H locs → lv_has ls 5 [(0, ss_v (ss_b G) this), (2, .int v3), (3, .int x3_47), (4, .int x4_55)] → ww_P_spreadCosts p l e s m below meth c G this a1 h hh  H locs 0 0 (F0 m 55 ls []) := by
            intro n
            induction n with
            | zero => intro x4_55 h_55 H locs ls hm; cases hm
            | succ n ih_55 =>
              intro x4_55 h_55 H locs ls hm hR hS hl
              obtain ⟨z_55, hm, hz1_55, hz2_55⟩ := ss_lps hm
              refine lv_iload hx hb dd_P_spreadCosts_55 (lv_at hl 3 rfl) ?_
              refine lv_iload_n hx hb dd_P_spreadCosts_57 rfl (lv_at hl 1 rfl) ?_
              refine lv_icmp_ge (tgt := 97) hx hb dd_P_spreadCosts_58 (by decide) (fun c6 => ?_) (fun c6 => ?_)
              · have hm := ss_ift hm c6
                exact X_55_97 h_55 _ _ _ (hz2_55 _ (ss_some hm)) hR hS (lv_sub hl [0, 1, 2] rfl)
              · have hm := ss_iff hm c6
                refine ss_aload_n hx hb dd_P_spreadCosts_61 rfl (lv_at hl 0 rfl) ?_
                obtain ⟨r7, qr7, hm⟩ := ss_bind hm
                refine ss_getr hC hK hR kf_P_15 rfl qr7 dd_P_spreadCosts_62 ?_
                refine lv_iload hx hb dd_P_spreadCosts_65 (lv_at hl 3 rfl) ?_
                refine ss_aload_n hx hb dd_P_spreadCosts_67 rfl (lv_at hl 0 rfl) ?_
                obtain ⟨r8, qr8, hm⟩ := ss_bind hm
                refine ss_getr hC hK hR kf_P_15 rfl qr8 dd_P_spreadCosts_68 ?_
                refine lv_iload hx hb dd_P_spreadCosts_71 (lv_at hl 3 rfl) ?_
                obtain ⟨v9, qv9, hm⟩ := ss_bind hm
                refine ss_iald hC hK hR qv9 dd_P_spreadCosts_73 ?_
                refine ss_aload_n hx hb dd_P_spreadCosts_74 rfl (lv_at hl 0 rfl) ?_
                refine lv_iload hx hb dd_P_spreadCosts_75 (lv_at hl 3 rfl) ?_
                obtain ⟨v10, qv10, hm⟩ := ss_bind hm
                refine ss_cV 0 0 (As := [.int x4_55]) hC hK hR hS hl.1 (cc_P_weight l G N _ _ _ _ qv10) km_P_94 (ck_P_weight qv10) ⟨Nat.le_of_ble_eq_true rfl, Nat.le_of_ble_eq_true rfl⟩ ⟨Nat.le_of_ble_eq_true rfl, Nat.le_of_ble_eq_true rfl, Nat.le_of_ble_eq_true rfl, Nat.le_of_ble_eq_true rfl⟩ rfl rfl (by simp [ss_v_cat, ss_cat_i, ss_cat_l, ss_cat_r]) dd_P_spreadCosts_77 (fun H locs hR hS => ?_)
                refine ss_aload_n hx hb dd_P_spreadCosts_80 rfl (lv_at hl 0 rfl) ?_
                refine lv_iload hx hb dd_P_spreadCosts_81 (lv_at hl 3 rfl) ?_
                obtain ⟨v11, qv11, hm⟩ := ss_bind hm
                refine ss_cV 0 0 (As := [.int x4_55]) hC hK hR hS hl.1 (cc_P_cheapestBeside l G N _ _ _ _ qv11) km_P_97 (ck_P_cheapestBeside qv11) ⟨Nat.le_of_ble_eq_true rfl, Nat.le_of_ble_eq_true rfl⟩ ⟨Nat.le_of_ble_eq_true rfl, Nat.le_of_ble_eq_true rfl, Nat.le_of_ble_eq_true rfl, Nat.le_of_ble_eq_true rfl⟩ rfl rfl (by simp [ss_v_cat, ss_cat_i, ss_cat_l, ss_cat_r]) dd_P_spreadCosts_83 (fun H locs hR hS => ?_)
                refine lv_iadd hx hb dd_P_spreadCosts_86 ?_
                refine ss_min hC hl.1 kj_P_100 kj_min_s kj_math kj_min_c (Nat.le_of_ble_eq_true rfl) (by simp [ss_v_cat, ss_cat_i, ss_cat_l, ss_cat_r]) (Nat.le_of_ble_eq_true rfl) ⟨Nat.le_of_ble_eq_true rfl, Nat.le_of_ble_eq_true rfl⟩ dd_P_spreadCosts_87 ?_
                obtain ⟨h12, qh12, hm⟩ := ss_bind hm
                refine ss_iast hC hK hR hS qh12 dd_P_spreadCosts_90 (fun H locs hR hS => ?_)
                obtain ⟨v13, qv13, hm⟩ := ss_bind hm
                refine lv_iinc (v := v13) (lv' := [(4, .int v13), (0, ss_v (ss_b G) this), (2, .int v3), (3, .int x3_47)]) hx hb dd_P_spreadCosts_91 hl (k := 3) rfl (ss_inc (by decide) qv13) (by decide) rfl (fun ls hl => ?_)
                refine lv_goto (tgt := 55) hx hb dd_P_spreadCosts_94 (by decide) ?_
                exact ih_55 v13 h12 _ _ _ (hz1_55 _ (ss_some hm)) hR hS (lv_sub hl [1, 2, 3, 0] rfl)
          exact L_55 N (0 : Int32) h_47 _ _ _ he_55 hR hS (lv_sub hl [1, 2, 3, 0] rfl)
    exact L_47 N (0 : Int32) h_13_45 _ _ _ he_47 hR hS (lv_sub hl [1, 2, 0] rfl)
  have L_13 : ∀ (n : Nat) (x3_13 : Int32) (h_13 : ss_Hp) (H : Heap) (locs : List Loc) (ls : Array Slot), ss_lp (mm_P_spreadCosts_b13 N this a1 v3) n (x3_13, h_13) = some e_13 → ss_R G h_13 H → va_S (ss_A G) s.heap H locs → lv_has ls 5 [(0, ss_v (ss_b G) this), (1, .int a1), (2, .int v3), (3, .int x3_13)] → ww_P_spreadCosts p l e s m below meth c G this a1 h hh  H locs 0 0 (F0 m 13 ls []) := by
    intro n
    induction n with
    | zero => intro x3_13 h_13 H locs ls hm; cases hm
    | succ n ih_13 =>
      intro x3_13 h_13 H locs ls hm hR hS hl
      obtain ⟨z_13, hm, hz1_13, hz2_13⟩ := ss_lps hm
      have J_38 : ∀ (x3_38 : Int32) (s0_38 : Option Nat) (s1_38 : Int32) (s2_38 : Int32) (h_38 : ss_Hp) (H : Heap) (locs : List Loc) (ls : Array Slot), mm_P_spreadCosts_j38 N this a1 v3 x3_38 s0_38 s1_38 s2_38 h_38 = some z_13 → ss_R G h_38 H → va_S (ss_A G) s.heap H locs → lv_has ls 5 [(0, ss_v (ss_b G) this), (1, .int a1), (2, .int v3), (3, .int x3_38)] → ww_P_spreadCosts p l e s m below meth c G this a1 h hh  H locs 0 0 (F0 m 38 ls [.int s2_38, .int s1_38, ss_v (ss_b G) s0_38]) := by
        intro x3_38 s0_38 s1_38 s2_38 h_38 H locs ls hm hR hS hl
        obtain ⟨h14, qh14, hm⟩ := ss_bind hm
        refine ss_iast hC hK hR hS qh14 dd_P_spreadCosts_38 (fun H locs hR hS => ?_)
        obtain ⟨v15, qv15, hm⟩ := ss_bind hm
        refine lv_iinc (v := v15) (lv' := [(3, .int v15), (0, ss_v (ss_b G) this), (1, .int a1), (2, .int v3)]) hx hb dd_P_spreadCosts_39 hl (k := 3) rfl (ss_inc (by decide) qv15) (by decide) rfl (fun ls hl => ?_)
        refine lv_goto (tgt := 13) hx hb dd_P_spreadCosts_42 (by decide) ?_
        exact ih_13 v15 h14 _ _ _ (hz1_13 _ (ss_some hm)) hR hS (lv_sub hl [1, 2, 3, 0] rfl)
      refine lv_iload_n hx hb dd_P_spreadCosts_13 rfl (lv_at hl 3 rfl) ?_
      refine lv_iload_n hx hb dd_P_spreadCosts_14 rfl (lv_at hl 2 rfl) ?_
      refine lv_icmp_ge (tgt := 45) hx hb dd_P_spreadCosts_15 (by decide) (fun c16 => ?_) (fun c16 => ?_)
      · have hm := ss_ift hm c16
        exact X_13_45 h_13 _ _ _ (hz2_13 _ (ss_some hm)) hR hS (lv_sub hl [0, 2] rfl)
      · have hm := ss_iff hm c16
        refine ss_aload_n hx hb dd_P_spreadCosts_18 rfl (lv_at hl 0 rfl) ?_
        obtain ⟨r17, qr17, hm⟩ := ss_bind hm
        refine ss_getr hC hK hR kf_P_15 rfl qr17 dd_P_spreadCosts_19 ?_
        refine lv_iload_n hx hb dd_P_spreadCosts_22 rfl (lv_at hl 3 rfl) ?_
        refine lv_iload_n hx hb dd_P_spreadCosts_23 rfl (lv_at hl 3 rfl) ?_
        refine lv_iload_n hx hb dd_P_spreadCosts_24 rfl (lv_at hl 1 rfl) ?_
        refine lv_icmp_ne (tgt := 36) hx hb dd_P_spreadCosts_25 (by decide) (fun c18 => ?_) (fun c18 => ?_)
        · have hm := ss_iff hm c18
          refine lv_ldc (v := 1000000) hx hb hC.2.2.2.1 (hC.2.2.2.2 _ kc_P_86) dd_P_spreadCosts_36 ?_
          exact J_38 x3_13 r17 x3_13 (1000000 : Int32) h_13 _ _ _ hm hR hS hl
        · have hm := ss_ift hm c18
          refine ss_aload_n hx hb dd_P_spreadCosts_28 rfl (lv_at hl 0 rfl) ?_
          refine lv_iload_n hx hb dd_P_spreadCosts_29 rfl (lv_at hl 3 rfl) ?_
          obtain ⟨v19, qv19, hm⟩ := ss_bind hm
          refine ss_cV 0 0 (As := [.int x3_13]) hC hK hR hS hl.1 (cc_P_weight l G N _ _ _ _ qv19) km_P_94 (ck_P_weight qv19) ⟨Nat.le_of_ble_eq_true rfl, Nat.le_of_ble_eq_true rfl⟩ ⟨Nat.le_of_ble_eq_true rfl, Nat.le_of_ble_eq_true rfl, Nat.le_of_ble_eq_true rfl, Nat.le_of_ble_eq_true rfl⟩ rfl rfl (by simp [ss_v_cat, ss_cat_i, ss_cat_l, ss_cat_r]) dd_P_spreadCosts_30 (fun H locs hR hS => ?_)
          refine lv_goto (tgt := 38) hx hb dd_P_spreadCosts_33 (by decide) ?_
          exact J_38 x3_13 r17 x3_13 v19 h_13 _ _ _ hm hR hS hl
  exact L_13 N (0 : Int32) h _ _ _ he_13 hR hS (lv_sub hl [2, 3, 1, 0] rfl)
theorem dd_P_nextOnWay_0 : decode bb_P_nextOnWay 0 = .ok (.aload_n 0, 1) := by decide +kernel
theorem dd_P_nextOnWay_1 : decode bb_P_nextOnWay 1 = .ok (.getfield 15, 3) := by decide +kernel
theorem dd_P_nextOnWay_4 : decode bb_P_nextOnWay 4 = .ok (.iload_n 1, 1) := by decide +kernel
theorem dd_P_nextOnWay_5 : decode bb_P_nextOnWay 5 = .ok (.iaload, 1) := by decide +kernel
theorem dd_P_nextOnWay_6 : decode bb_P_nextOnWay 6 = .ok (.aload_n 0, 1) := by decide +kernel
theorem dd_P_nextOnWay_7 : decode bb_P_nextOnWay 7 = .ok (.iload_n 1, 1) := by decide +kernel
theorem dd_P_nextOnWay_8 : decode bb_P_nextOnWay 8 = .ok (.invokevirtual 94, 3) := by decide +kernel
theorem dd_P_nextOnWay_11 : decode bb_P_nextOnWay 11 = .ok (.isub, 1) := by decide +kernel
theorem dd_P_nextOnWay_12 : decode bb_P_nextOnWay 12 = .ok (.istore_n 2, 1) := by decide +kernel
theorem dd_P_nextOnWay_13 : decode bb_P_nextOnWay 13 = .ok (.iconst 0, 1) := by decide +kernel
theorem dd_P_nextOnWay_14 : decode bb_P_nextOnWay 14 = .ok (.istore_n 3, 1) := by decide +kernel
theorem dd_P_nextOnWay_15 : decode bb_P_nextOnWay 15 = .ok (.iload_n 3, 1) := by decide +kernel
theorem dd_P_nextOnWay_16 : decode bb_P_nextOnWay 16 = .ok (.aload_n 0, 1) := by decide +kernel
theorem dd_P_nextOnWay_17 : decode bb_P_nextOnWay 17 = .ok (.getfield 21, 3) := by decide +kernel
theorem dd_P_nextOnWay_20 : decode bb_P_nextOnWay 20 = .ok (.getfield 50, 3) := by decide +kernel
theorem dd_P_nextOnWay_23 : decode bb_P_nextOnWay 23 = .ok (.getfield 70, 3) := by decide +kernel
theorem dd_P_nextOnWay_26 : decode bb_P_nextOnWay 26 = .ok (.if_icmp .ge 41, 3) := by decide +kernel
theorem dd_P_nextOnWay_29 : decode bb_P_nextOnWay 29 = .ok (.aload_n 0, 1) := by decide +kernel
theorem dd_P_nextOnWay_30 : decode bb_P_nextOnWay 30 = .ok (.getfield 21, 3) := by decide +kernel
theorem dd_P_nextOnWay_33 : decode bb_P_nextOnWay 33 = .ok (.getfield 50, 3) := by decide +kernel
theorem dd_P_nextOnWay_36 : decode bb_P_nextOnWay 36 = .ok (.getfield 106, 3) := by decide +kernel
theorem dd_P_nextOnWay_39 : decode bb_P_nextOnWay 39 = .ok (.iload_n 1, 1) := by decide +kernel
theorem dd_P_nextOnWay_40 : decode bb_P_nextOnWay 40 = .ok (.iaload, 1) := by decide +kernel
theorem dd_P_nextOnWay_41 : decode bb_P_nextOnWay 41 = .ok (.iload_n 3, 1) := by decide +kernel
theorem dd_P_nextOnWay_42 : decode bb_P_nextOnWay 42 = .ok (.ishr, 1) := by decide +kernel
theorem dd_P_nextOnWay_43 : decode bb_P_nextOnWay 43 = .ok (.iconst 1, 1) := by decide +kernel
theorem dd_P_nextOnWay_44 : decode bb_P_nextOnWay 44 = .ok (.iand, 1) := by decide +kernel
theorem dd_P_nextOnWay_45 : decode bb_P_nextOnWay 45 = .ok (.iconst 1, 1) := by decide +kernel
theorem dd_P_nextOnWay_46 : decode bb_P_nextOnWay 46 = .ok (.if_icmp .ne 15, 3) := by decide +kernel
theorem dd_P_nextOnWay_49 : decode bb_P_nextOnWay 49 = .ok (.aload_n 0, 1) := by decide +kernel
theorem dd_P_nextOnWay_50 : decode bb_P_nextOnWay 50 = .ok (.getfield 15, 3) := by decide +kernel
theorem dd_P_nextOnWay_53 : decode bb_P_nextOnWay 53 = .ok (.iload_n 3, 1) := by decide +kernel
theorem dd_P_nextOnWay_54 : decode bb_P_nextOnWay 54 = .ok (.iaload, 1) := by decide +kernel
theorem dd_P_nextOnWay_55 : decode bb_P_nextOnWay 55 = .ok (.iload_n 2, 1) := by decide +kernel
theorem dd_P_nextOnWay_56 : decode bb_P_nextOnWay 56 = .ok (.if_icmp .ne 5, 3) := by decide +kernel
theorem dd_P_nextOnWay_59 : decode bb_P_nextOnWay 59 = .ok (.iload_n 3, 1) := by decide +kernel
theorem dd_P_nextOnWay_60 : decode bb_P_nextOnWay 60 = .ok (.ireturn, 1) := by decide +kernel
theorem dd_P_nextOnWay_61 : decode bb_P_nextOnWay 61 = .ok (.iinc 3 1, 3) := by decide +kernel
theorem dd_P_nextOnWay_64 : decode bb_P_nextOnWay 64 = .ok (.goto (-49), 3) := by decide +kernel
theorem dd_P_nextOnWay_67 : decode bb_P_nextOnWay 67 = .ok (.iconst (-1), 1) := by decide +kernel
theorem dd_P_nextOnWay_68 : decode bb_P_nextOnWay 68 = .ok (.ireturn, 1) := by decide +kernel
def mm_P_nextOnWay_j61 (N : Nat) (this : Option Nat) (a1 : Int32) (v4 : Int32) (h : ss_Hp) (x3_61 : Int32) : Option (Int32 ⊕ (Unit ⊕ Int32)) :=
  (some (x3_61 + (1 : Int32))).bind fun v5 =>
  some (.inl v5)
def mm_P_nextOnWay_b15 (N : Nat) (this : Option Nat) (a1 : Int32) (v4 : Int32) (h : ss_Hp) (st : Int32) : Option (Int32 ⊕ (Unit ⊕ Int32)) :=
  match st with
  | x3_15 =>
    (ss_gr h this 10 0).bind fun r6 =>
    (ss_gr h r6 8 0).bind fun r7 =>
    (ss_gi h r7 5 3).bind fun v8 =>
    if v8 ≤ x3_15 then
      some (.inr (.inl ()))
    else
      (ss_gr h this 10 0).bind fun r10 =>
      (ss_gr h r10 8 0).bind fun r11 =>
      (ss_gr h r11 5 2).bind fun r12 =>
      (ss_ai h r12 20 a1).bind fun v13 =>
      if ((v13 >>> (x3_15 &&& 31)) &&& (1 : Int32)) = (1 : Int32) then
        (ss_gr h this 10 3).bind fun r15 =>
        (ss_ai h r15 20 x3_15).bind fun v16 =>
        if v16 = v4 then
          some (.inr (.inr x3_15))
        else
          mm_P_nextOnWay_j61 N this a1 v4 h x3_15
      else
        mm_P_nextOnWay_j61 N this a1 v4 h x3_15
def mm_P_nextOnWay (N : Nat) (this : Option Nat) (a1 : Int32) (h : ss_Hp) : Option Int32 :=
  if ss_is h this 10 = true then
    (ss_gr h this 10 3).bind fun r1 =>
    (ss_ai h r1 20 a1).bind fun v2 =>
    (mm_P_weight N this a1 h).bind fun v3 =>
    (some (v2 - v3)).bind fun v4 =>
    (ss_lp (mm_P_nextOnWay_b15 N this a1 v4 h) N (0 : Int32)).bind fun e_15 =>
    match e_15 with
    | (.inl ()) =>
      some (-1 : Int32)
    | (.inr y3_15_59) =>
      some y3_15_59
  else none
abbrev ww_P_nextOnWay (p : Program) (l : Launch) (e : Env) (s : State) (m : MethodId) (below : List Frame) (meth : Method) (c : Code) (G : ss_G) (this : Option Nat) (a1 : Int32) (h : ss_Hp) (rr : Int32) (H : Heap) (locs : List Loc) (k n : Nat) (g : JFrame) : Prop := W p l e (headSpec (ss_w yy_P_nextOnWay bb_P_nextOnWay 4 (some (.int))) ({ frames := 3, cells := 0, slots := 0, locals := 64 })).room s m ([ss_v (ss_b G) this, .int a1] : List Value).toArray below meth c H locs k n (MQ below (ss_Qc G (some (.int rr)) h) ([ss_v (ss_b G) this, .int a1] : List Value).toArray s 0 0 (ss_A G)) g
theorem ck_P_nextOnWay {N : Nat} {this : Option Nat} {a1 : Int32} {h : ss_Hp} {res : Int32} (hm : mm_P_nextOnWay N this a1 h = some res) : ss_is h this 10 = true := (ss_chk hm).1
set_option maxHeartbeats 4000000 in
set_option maxRecDepth 100000 in
theorem cc_P_nextOnWay (l : Launch) (G : ss_G) (N : Nat) (this : Option Nat) (a1 : Int32) (h : ss_Hp) (rr : Int32) (hm : mm_P_nextOnWay N this a1 h = some rr) : ss_Ct l G yy_P_nextOnWay bb_P_nextOnWay 4 (some (.int)) ({ frames := 3, cells := 0, slots := 0, locals := 64 }) [ss_v (ss_b G) this, .int a1] h (some (.int rr)) h := by
  obtain ⟨hck, hm⟩ := ss_chk hm
  refine Met.ofW (cc := bb_P_nextOnWay) (maxL := 4) (ret := (some (.int))) (by decide) rfl ?_
  intro p e s m args below meth c s₁ B hml hv
  obtain ⟨rfl, hR, hK⟩ := hv
  have hC : CallFix p m c bb_P_nextOnWay 4 s _ lw_g sR_10 := ⟨B.exec, B.bytes, hml, findClass_of_methodNamed B.named, fun w hw => atoms_spec (ws := ss_w yy_P_nextOnWay bb_P_nextOnWay 4 (some (.int))) B.pre w (List.mem_cons_of_mem _ hw)⟩
  have hx := hC.1
  have hb := hC.2.1
  have hr := B.returns
  have hlocks := B.notSynchronized
  have hS : va_S (ss_A G) s.heap s.heap [] := va_S.rf
  have hl := lv_entry ([ss_v (ss_b G) this, .int a1]) (n := 4) (by simp [lg_sl, ss_v_cat, ss_cat_i, ss_cat_l, ss_cat_r])
  rw [lg_entry_eq]
  generalize (lg_sl ([ss_v (ss_b G) this, .int a1]) ++ List.replicate (4 - (lg_sl ([ss_v (ss_b G) this, .int a1])).length) Slot.unset).toArray = ls at hl ⊢
  have hl : lv_has ls 4 [(0, ss_v (ss_b G) this), (1, .int a1)] := by simpa [lv_args, ss_v_cat, ss_cat_i, ss_cat_l, ss_cat_r] using hl
  refine ss_aload_n hx hb dd_P_nextOnWay_0 rfl (lv_at hl 0 rfl) ?_
  obtain ⟨r1, qr1, hm⟩ := ss_bind hm
  refine ss_getr hC hK hR kf_P_15 rfl qr1 dd_P_nextOnWay_1 ?_
  refine lv_iload_n hx hb dd_P_nextOnWay_4 rfl (lv_at hl 1 rfl) ?_
  obtain ⟨v2, qv2, hm⟩ := ss_bind hm
  refine ss_iald hC hK hR qv2 dd_P_nextOnWay_5 ?_
  refine ss_aload_n hx hb dd_P_nextOnWay_6 rfl (lv_at hl 0 rfl) ?_
  refine lv_iload_n hx hb dd_P_nextOnWay_7 rfl (lv_at hl 1 rfl) ?_
  obtain ⟨v3, qv3, hm⟩ := ss_bind hm
  refine ss_cV 0 0 (As := [.int a1]) hC hK hR hS hl.1 (cc_P_weight l G N _ _ _ _ qv3) km_P_94 (ck_P_weight qv3) ⟨Nat.le_of_ble_eq_true rfl, Nat.le_of_ble_eq_true rfl⟩ ⟨Nat.le_of_ble_eq_true rfl, Nat.le_of_ble_eq_true rfl, Nat.le_of_ble_eq_true rfl, Nat.le_of_ble_eq_true rfl⟩ rfl rfl (Nat.le_of_ble_eq_true rfl) dd_P_nextOnWay_8 (fun H locs hR hS => ?_)
  refine lv_isub hx hb dd_P_nextOnWay_11 ?_
  obtain ⟨v4, qv4, hm⟩ := ss_bind hm
  refine ss_topi qv4 ?_
  refine lv_istore_n (lv' := [(2, .int v4), (0, ss_v (ss_b G) this), (1, .int a1)]) hx hb dd_P_nextOnWay_12 rfl hl (by decide) rfl (fun ls hl => ?_)
  refine lv_iconst (v := 0) hx hb dd_P_nextOnWay_13 (by decide) ?_
  refine lv_istore_n (lv' := [(3, .int (0 : Int32)), (2, .int v4), (0, ss_v (ss_b G) this), (1, .int a1)]) hx hb dd_P_nextOnWay_14 rfl hl (by decide) rfl (fun ls hl => ?_)
  obtain ⟨e_15, he_15, hm⟩ := ss_bind hm
  have X_15_67 : ∀  (H : Heap) (locs : List Loc) (ls : Array Slot), e_15 = (.inl ()) → ss_R G h H → va_S (ss_A G) s.heap H locs → lv_has ls 4 [] → ww_P_nextOnWay p l e s m below meth c G this a1 h rr  H locs 0 0 (F0 m 67 ls []) := by
    intro  H locs ls hq hR hS hl
    rw [hq] at hm
    refine lv_iconst (v := -1) hx hb dd_P_nextOnWay_67 (by decide) ?_
    exact ss_iret hC hr hlocks hR hS (ss_with _ hm) dd_P_nextOnWay_68
  have X_15_59 : ∀ (y3_15_59 : Int32) (H : Heap) (locs : List Loc) (ls : Array Slot), e_15 = (.inr y3_15_59) → ss_R G h H → va_S (ss_A G) s.heap H locs → lv_has ls 4 [(3, .int y3_15_59)] → ww_P_nextOnWay p l e s m below meth c G this a1 h rr  H locs 0 0 (F0 m 59 ls []) := by
    intro y3_15_59 H locs ls hq hR hS hl
    rw [hq] at hm
    refine lv_iload_n hx hb dd_P_nextOnWay_59 rfl (lv_at hl 0 rfl) ?_
    exact ss_iret hC hr hlocks hR hS (ss_with _ hm) dd_P_nextOnWay_60
  have L_15 : ∀ (n : Nat) (x3_15 : Int32) (H : Heap) (locs : List Loc) (ls : Array Slot), ss_lp (mm_P_nextOnWay_b15 N this a1 v4 h) n x3_15 = some e_15 → ss_R G h H → va_S (ss_A G) s.heap H locs → lv_has ls 4 [(0, ss_v (ss_b G) this), (1, .int a1), (2, .int v4), (3, .int x3_15)] → ww_P_nextOnWay p l e s m below meth c G this a1 h rr  H locs 0 0 (F0 m 15 ls []) := by
    intro n
    induction n with
    | zero => intro x3_15 H locs ls hm; cases hm
    | succ n ih_15 =>
      intro x3_15 H locs ls hm hR hS hl
      obtain ⟨z_15, hm, hz1_15, hz2_15⟩ := ss_lps hm
      have J_61 : ∀ (x3_61 : Int32) (H : Heap) (locs : List Loc) (ls : Array Slot), mm_P_nextOnWay_j61 N this a1 v4 h x3_61 = some z_15 → ss_R G h H → va_S (ss_A G) s.heap H locs → lv_has ls 4 [(0, ss_v (ss_b G) this), (1, .int a1), (2, .int v4), (3, .int x3_61)] → ww_P_nextOnWay p l e s m below meth c G this a1 h rr  H locs 0 0 (F0 m 61 ls []) := by
        intro x3_61 H locs ls hm hR hS hl
        obtain ⟨v5, qv5, hm⟩ := ss_bind hm
        refine lv_iinc (v := v5) (lv' := [(3, .int v5), (0, ss_v (ss_b G) this), (1, .int a1), (2, .int v4)]) hx hb dd_P_nextOnWay_61 hl (k := 3) rfl (ss_inc (by decide) qv5) (by decide) rfl (fun ls hl => ?_)
        refine lv_goto (tgt := 15) hx hb dd_P_nextOnWay_64 (by decide) ?_
        exact ih_15 v5  _ _ _ (hz1_15 _ (ss_some hm)) hR hS (lv_sub hl [1, 2, 3, 0] rfl)
      refine lv_iload_n hx hb dd_P_nextOnWay_15 rfl (lv_at hl 3 rfl) ?_
      refine ss_aload_n hx hb dd_P_nextOnWay_16 rfl (lv_at hl 0 rfl) ?_
      obtain ⟨r6, qr6, hm⟩ := ss_bind hm
      refine ss_getr hC hK hR kf_P_21 rfl qr6 dd_P_nextOnWay_17 ?_
      obtain ⟨r7, qr7, hm⟩ := ss_bind hm
      refine ss_getr hC hK hR kf_P_50 rfl qr7 dd_P_nextOnWay_20 ?_
      obtain ⟨v8, qv8, hm⟩ := ss_bind hm
      refine ss_geti hC hK hR kf_P_70 qv8 dd_P_nextOnWay_23 ?_
      refine lv_icmp_ge (tgt := 67) hx hb dd_P_nextOnWay_26 (by decide) (fun c9 => ?_) (fun c9 => ?_)
      · have hm := ss_ift hm c9
        exact X_15_67  _ _ _ (hz2_15 _ (ss_some hm)) hR hS (lv_sub hl [] rfl)
      · have hm := ss_iff hm c9
        refine ss_aload_n hx hb dd_P_nextOnWay_29 rfl (lv_at hl 0 rfl) ?_
        obtain ⟨r10, qr10, hm⟩ := ss_bind hm
        refine ss_getr hC hK hR kf_P_21 rfl qr10 dd_P_nextOnWay_30 ?_
        obtain ⟨r11, qr11, hm⟩ := ss_bind hm
        refine ss_getr hC hK hR kf_P_50 rfl qr11 dd_P_nextOnWay_33 ?_
        obtain ⟨r12, qr12, hm⟩ := ss_bind hm
        refine ss_getr hC hK hR kf_P_106 rfl qr12 dd_P_nextOnWay_36 ?_
        refine lv_iload_n hx hb dd_P_nextOnWay_39 rfl (lv_at hl 1 rfl) ?_
        obtain ⟨v13, qv13, hm⟩ := ss_bind hm
        refine ss_iald hC hK hR qv13 dd_P_nextOnWay_40 ?_
        refine lv_iload_n hx hb dd_P_nextOnWay_41 rfl (lv_at hl 3 rfl) ?_
        refine lv_ishr hx hb dd_P_nextOnWay_42 ?_
        refine lv_iconst (v := 1) hx hb dd_P_nextOnWay_43 (by decide) ?_
        refine lv_iand hx hb dd_P_nextOnWay_44 ?_
        refine lv_iconst (v := 1) hx hb dd_P_nextOnWay_45 (by decide) ?_
        refine lv_icmp_ne (tgt := 61) hx hb dd_P_nextOnWay_46 (by decide) (fun c14 => ?_) (fun c14 => ?_)
        · have hm := ss_iff hm c14
          exact J_61 x3_15  _ _ _ hm hR hS hl
        · have hm := ss_ift hm c14
          refine ss_aload_n hx hb dd_P_nextOnWay_49 rfl (lv_at hl 0 rfl) ?_
          obtain ⟨r15, qr15, hm⟩ := ss_bind hm
          refine ss_getr hC hK hR kf_P_15 rfl qr15 dd_P_nextOnWay_50 ?_
          refine lv_iload_n hx hb dd_P_nextOnWay_53 rfl (lv_at hl 3 rfl) ?_
          obtain ⟨v16, qv16, hm⟩ := ss_bind hm
          refine ss_iald hC hK hR qv16 dd_P_nextOnWay_54 ?_
          refine lv_iload_n hx hb dd_P_nextOnWay_55 rfl (lv_at hl 2 rfl) ?_
          refine lv_icmp_ne (tgt := 61) hx hb dd_P_nextOnWay_56 (by decide) (fun c17 => ?_) (fun c17 => ?_)
          · have hm := ss_iff hm c17
            exact J_61 x3_15  _ _ _ hm hR hS hl
          · have hm := ss_ift hm c17
            exact X_15_59 x3_15  _ _ _ (hz2_15 _ (ss_some hm)) hR hS (lv_sub hl [3] rfl)
  exact L_15 N (0 : Int32) _ _ _ he_15 hR hS (lv_sub hl [2, 3, 1, 0] rfl)
theorem dd_P_wayOf_0 : decode bb_P_wayOf 0 = .ok (.aload_n 0, 1) := by decide +kernel
theorem dd_P_wayOf_1 : decode bb_P_wayOf 1 = .ok (.iload_n 2, 1) := by decide +kernel
theorem dd_P_wayOf_2 : decode bb_P_wayOf 2 = .ok (.invokevirtual 82, 3) := by decide +kernel
theorem dd_P_wayOf_5 : decode bb_P_wayOf 5 = .ok (.aload_n 0, 1) := by decide +kernel
theorem dd_P_wayOf_6 : decode bb_P_wayOf 6 = .ok (.getfield 15, 3) := by decide +kernel
theorem dd_P_wayOf_9 : decode bb_P_wayOf 9 = .ok (.iload_n 1, 1) := by decide +kernel
theorem dd_P_wayOf_10 : decode bb_P_wayOf 10 = .ok (.iaload, 1) := by decide +kernel
theorem dd_P_wayOf_11 : decode bb_P_wayOf 11 = .ok (.ldc 86, 2) := by decide +kernel
theorem dd_P_wayOf_13 : decode bb_P_wayOf 13 = .ok (.if_icmp .lt 6, 3) := by decide +kernel
theorem dd_P_wayOf_16 : decode bb_P_wayOf 16 = .ok (.bipush (-2), 2) := by decide +kernel
theorem dd_P_wayOf_18 : decode bb_P_wayOf 18 = .ok (.ireturn, 1) := by decide +kernel
theorem dd_P_wayOf_19 : decode bb_P_wayOf 19 = .ok (.iload_n 3, 1) := by decide +kernel
theorem dd_P_wayOf_20 : decode bb_P_wayOf 20 = .ok (.ifCond .ne 13, 3) := by decide +kernel
theorem dd_P_wayOf_23 : decode bb_P_wayOf 23 = .ok (.aload_n 0, 1) := by decide +kernel
theorem dd_P_wayOf_24 : decode bb_P_wayOf 24 = .ok (.getfield 15, 3) := by decide +kernel
theorem dd_P_wayOf_27 : decode bb_P_wayOf 27 = .ok (.iload_n 1, 1) := by decide +kernel
theorem dd_P_wayOf_28 : decode bb_P_wayOf 28 = .ok (.iaload, 1) := by decide +kernel
theorem dd_P_wayOf_29 : decode bb_P_wayOf 29 = .ok (.bipush 16, 2) := by decide +kernel
theorem dd_P_wayOf_31 : decode bb_P_wayOf 31 = .ok (.idiv, 1) := by decide +kernel
theorem dd_P_wayOf_32 : decode bb_P_wayOf 32 = .ok (.ireturn, 1) := by decide +kernel
theorem dd_P_wayOf_33 : decode bb_P_wayOf 33 = .ok (.iload_n 3, 1) := by decide +kernel
theorem dd_P_wayOf_34 : decode bb_P_wayOf 34 = .ok (.iconst 1, 1) := by decide +kernel
theorem dd_P_wayOf_35 : decode bb_P_wayOf 35 = .ok (.if_icmp .ne 13, 3) := by decide +kernel
theorem dd_P_wayOf_38 : decode bb_P_wayOf 38 = .ok (.aload_n 0, 1) := by decide +kernel
theorem dd_P_wayOf_39 : decode bb_P_wayOf 39 = .ok (.getfield 15, 3) := by decide +kernel
theorem dd_P_wayOf_42 : decode bb_P_wayOf 42 = .ok (.iload_n 1, 1) := by decide +kernel
theorem dd_P_wayOf_43 : decode bb_P_wayOf 43 = .ok (.iaload, 1) := by decide +kernel
theorem dd_P_wayOf_44 : decode bb_P_wayOf 44 = .ok (.bipush 16, 2) := by decide +kernel
theorem dd_P_wayOf_46 : decode bb_P_wayOf 46 = .ok (.irem, 1) := by decide +kernel
theorem dd_P_wayOf_47 : decode bb_P_wayOf 47 = .ok (.ireturn, 1) := by decide +kernel
theorem dd_P_wayOf_48 : decode bb_P_wayOf 48 = .ok (.iload_n 1, 1) := by decide +kernel
theorem dd_P_wayOf_49 : decode bb_P_wayOf 49 = .ok (.iload_n 2, 1) := by decide +kernel
theorem dd_P_wayOf_50 : decode bb_P_wayOf 50 = .ok (.if_icmp .ne 7, 3) := by decide +kernel
theorem dd_P_wayOf_53 : decode bb_P_wayOf 53 = .ok (.iconst (-1), 1) := by decide +kernel
theorem dd_P_wayOf_54 : decode bb_P_wayOf 54 = .ok (.goto 8, 3) := by decide +kernel
theorem dd_P_wayOf_57 : decode bb_P_wayOf 57 = .ok (.aload_n 0, 1) := by decide +kernel
theorem dd_P_wayOf_58 : decode bb_P_wayOf 58 = .ok (.iload_n 1, 1) := by decide +kernel
theorem dd_P_wayOf_59 : decode bb_P_wayOf 59 = .ok (.invokevirtual 87, 3) := by decide +kernel
theorem dd_P_wayOf_62 : decode bb_P_wayOf 62 = .ok (.ireturn, 1) := by decide +kernel
def mm_P_wayOf_j62 (N : Nat) (this : Option Nat) (a1 : Int32) (a2 : Int32) (a3 : Int32) (s0_62 : Int32) (h_62 : ss_Hp) : Option (Int32 × ss_Hp) :=
  some (s0_62, h_62)
def mm_P_wayOf (N : Nat) (this : Option Nat) (a1 : Int32) (a2 : Int32) (a3 : Int32) (h : ss_Hp) : Option (Int32 × ss_Hp) :=
  if ss_is h this 10 = true then
    (mm_P_spreadCosts N this a2 h).bind fun h1 =>
    (ss_gr h1 this 10 3).bind fun r2 =>
    (ss_ai h1 r2 20 a1).bind fun v3 =>
    if v3 < (1000000 : Int32) then
      if a3 = 0 then
        (ss_gr h1 this 10 3).bind fun r12 =>
        (ss_ai h1 r12 20 a1).bind fun v13 =>
        (ss_div v13 (16 : Int32)).bind fun v14 =>
        some (v14, h1)
      else
        if a3 = (1 : Int32) then
          (ss_gr h1 this 10 3).bind fun r9 =>
          (ss_ai h1 r9 20 a1).bind fun v10 =>
          (ss_rem v10 (16 : Int32)).bind fun v11 =>
          some (v11, h1)
        else
          if a1 = a2 then
            mm_P_wayOf_j62 N this a1 a2 a3 (-1 : Int32) h1
          else
            (mm_P_nextOnWay N this a1 h1).bind fun v8 =>
            mm_P_wayOf_j62 N this a1 a2 a3 v8 h1
    else
      some ((-2 : Int32), h1)
  else none
abbrev ww_P_wayOf (p : Program) (l : Launch) (e : Env) (s : State) (m : MethodId) (below : List Frame) (meth : Method) (c : Code) (G : ss_G) (this : Option Nat) (a1 : Int32) (a2 : Int32) (a3 : Int32) (h : ss_Hp) (rr : Int32) (hh : ss_Hp) (H : Heap) (locs : List Loc) (k n : Nat) (g : JFrame) : Prop := W p l e (headSpec (ss_w yy_P_wayOf bb_P_wayOf 4 (some (.int))) ({ frames := 4, cells := 0, slots := 0, locals := 127 })).room s m ([ss_v (ss_b G) this, .int a1, .int a2, .int a3] : List Value).toArray below meth c H locs k n (MQ below (ss_Qc G (some (.int rr)) hh) ([ss_v (ss_b G) this, .int a1, .int a2, .int a3] : List Value).toArray s 0 0 (ss_A G)) g
theorem ck_P_wayOf {N : Nat} {this : Option Nat} {a1 : Int32} {a2 : Int32} {a3 : Int32} {h : ss_Hp} {res : Int32 × ss_Hp} (hm : mm_P_wayOf N this a1 a2 a3 h = some res) : ss_is h this 10 = true := (ss_chk hm).1
set_option maxHeartbeats 4000000 in
set_option maxRecDepth 100000 in
theorem cc_P_wayOf (l : Launch) (G : ss_G) (N : Nat) (this : Option Nat) (a1 : Int32) (a2 : Int32) (a3 : Int32) (h : ss_Hp) (rr : Int32) (hh : ss_Hp) (hm : mm_P_wayOf N this a1 a2 a3 h = some (rr, hh)) : ss_Ct l G yy_P_wayOf bb_P_wayOf 4 (some (.int)) ({ frames := 4, cells := 0, slots := 0, locals := 127 }) [ss_v (ss_b G) this, .int a1, .int a2, .int a3] h (some (.int rr)) hh := by
  obtain ⟨hck, hm⟩ := ss_chk hm
  refine Met.ofW (cc := bb_P_wayOf) (maxL := 4) (ret := (some (.int))) (by decide) rfl ?_
  intro p e s m args below meth c s₁ B hml hv
  obtain ⟨rfl, hR, hK⟩ := hv
  have hC : CallFix p m c bb_P_wayOf 4 s _ lw_g sR_10 := ⟨B.exec, B.bytes, hml, findClass_of_methodNamed B.named, fun w hw => atoms_spec (ws := ss_w yy_P_wayOf bb_P_wayOf 4 (some (.int))) B.pre w (List.mem_cons_of_mem _ hw)⟩
  have hx := hC.1
  have hb := hC.2.1
  have hr := B.returns
  have hlocks := B.notSynchronized
  have hS : va_S (ss_A G) s.heap s.heap [] := va_S.rf
  have hl := lv_entry ([ss_v (ss_b G) this, .int a1, .int a2, .int a3]) (n := 4) (by simp [lg_sl, ss_v_cat, ss_cat_i, ss_cat_l, ss_cat_r])
  rw [lg_entry_eq]
  generalize (lg_sl ([ss_v (ss_b G) this, .int a1, .int a2, .int a3]) ++ List.replicate (4 - (lg_sl ([ss_v (ss_b G) this, .int a1, .int a2, .int a3])).length) Slot.unset).toArray = ls at hl ⊢
  have hl : lv_has ls 4 [(0, ss_v (ss_b G) this), (1, .int a1), (2, .int a2), (3, .int a3)] := by simpa [lv_args, ss_v_cat, ss_cat_i, ss_cat_l, ss_cat_r] using hl
  have J_62 : ∀ (s0_62 : Int32) (h_62 : ss_Hp) (H : Heap) (locs : List Loc) (ls : Array Slot), mm_P_wayOf_j62 N this a1 a2 a3 s0_62 h_62 = some (rr, hh) → ss_R G h_62 H → va_S (ss_A G) s.heap H locs → lv_has ls 4 [] → ww_P_wayOf p l e s m below meth c G this a1 a2 a3 h rr hh  H locs 0 0 (F0 m 62 ls [.int s0_62]) := by
    intro s0_62 h_62 H locs ls hm hR hS hl
    exact ss_iret hC hr hlocks hR hS hm dd_P_wayOf_62
  refine ss_aload_n hx hb dd_P_wayOf_0 rfl (lv_at hl 0 rfl) ?_
  refine lv_iload_n hx hb dd_P_wayOf_1 rfl (lv_at hl 2 rfl) ?_
  obtain ⟨h1, qh1, hm⟩ := ss_bind hm
  refine ss_cVv 0 0 (As := [.int a2]) hC hK hR hS hl.1 (cc_P_spreadCosts l G N _ _ _ _ qh1) km_P_82 (ck_P_spreadCosts qh1) ⟨Nat.le_of_ble_eq_true rfl, Nat.le_of_ble_eq_true rfl⟩ ⟨Nat.le_of_ble_eq_true rfl, Nat.le_of_ble_eq_true rfl, Nat.le_of_ble_eq_true rfl, Nat.le_of_ble_eq_true rfl⟩ rfl rfl (Nat.le_of_ble_eq_true rfl) dd_P_wayOf_2 (fun H locs hR hS => ?_)
  refine ss_aload_n hx hb dd_P_wayOf_5 rfl (lv_at hl 0 rfl) ?_
  obtain ⟨r2, qr2, hm⟩ := ss_bind hm
  refine ss_getr hC hK hR kf_P_15 rfl qr2 dd_P_wayOf_6 ?_
  refine lv_iload_n hx hb dd_P_wayOf_9 rfl (lv_at hl 1 rfl) ?_
  obtain ⟨v3, qv3, hm⟩ := ss_bind hm
  refine ss_iald hC hK hR qv3 dd_P_wayOf_10 ?_
  refine lv_ldc (v := 1000000) hx hb hC.2.2.2.1 (hC.2.2.2.2 _ kc_P_86) dd_P_wayOf_11 ?_
  refine lv_icmp_lt (tgt := 19) hx hb dd_P_wayOf_13 (by decide) (fun c4 => ?_) (fun c4 => ?_)
  · have hm := ss_ift hm c4
    refine lv_iload_n hx hb dd_P_wayOf_19 rfl (lv_at hl 3 rfl) ?_
    refine lv_if_ne (tgt := 33) hx hb dd_P_wayOf_20 (by decide) (fun c5 => ?_) (fun c5 => ?_)
    · have hm := ss_iff hm c5
      refine lv_iload_n hx hb dd_P_wayOf_33 rfl (lv_at hl 3 rfl) ?_
      refine lv_iconst (v := 1) hx hb dd_P_wayOf_34 (by decide) ?_
      refine lv_icmp_ne (tgt := 48) hx hb dd_P_wayOf_35 (by decide) (fun c6 => ?_) (fun c6 => ?_)
      · have hm := ss_iff hm c6
        refine lv_iload_n hx hb dd_P_wayOf_48 rfl (lv_at hl 1 rfl) ?_
        refine lv_iload_n hx hb dd_P_wayOf_49 rfl (lv_at hl 2 rfl) ?_
        refine lv_icmp_ne (tgt := 57) hx hb dd_P_wayOf_50 (by decide) (fun c7 => ?_) (fun c7 => ?_)
        · have hm := ss_iff hm c7
          refine ss_aload_n hx hb dd_P_wayOf_57 rfl (lv_at hl 0 rfl) ?_
          refine lv_iload_n hx hb dd_P_wayOf_58 rfl (lv_at hl 1 rfl) ?_
          obtain ⟨v8, qv8, hm⟩ := ss_bind hm
          refine ss_cV 0 0 (As := [.int a1]) hC hK hR hS hl.1 (cc_P_nextOnWay l G N _ _ _ _ qv8) km_P_87 (ck_P_nextOnWay qv8) ⟨Nat.le_of_ble_eq_true rfl, Nat.le_of_ble_eq_true rfl⟩ ⟨Nat.le_of_ble_eq_true rfl, Nat.le_of_ble_eq_true rfl, Nat.le_of_ble_eq_true rfl, Nat.le_of_ble_eq_true rfl⟩ rfl rfl (Nat.le_of_ble_eq_true rfl) dd_P_wayOf_59 (fun H locs hR hS => ?_)
          exact J_62 v8 h1 _ _ _ hm hR hS (lv_sub hl [] rfl)
        · have hm := ss_ift hm c7
          refine lv_iconst (v := -1) hx hb dd_P_wayOf_53 (by decide) ?_
          refine lv_goto (tgt := 62) hx hb dd_P_wayOf_54 (by decide) ?_
          exact J_62 (-1 : Int32) h1 _ _ _ hm hR hS (lv_sub hl [] rfl)
      · have hm := ss_ift hm c6
        refine ss_aload_n hx hb dd_P_wayOf_38 rfl (lv_at hl 0 rfl) ?_
        obtain ⟨r9, qr9, hm⟩ := ss_bind hm
        refine ss_getr hC hK hR kf_P_15 rfl qr9 dd_P_wayOf_39 ?_
        refine lv_iload_n hx hb dd_P_wayOf_42 rfl (lv_at hl 1 rfl) ?_
        obtain ⟨v10, qv10, hm⟩ := ss_bind hm
        refine ss_iald hC hK hR qv10 dd_P_wayOf_43 ?_
        refine lv_bipush (v := 16) hx hb dd_P_wayOf_44 (by decide) ?_
        obtain ⟨v11, qv11, hm⟩ := ss_bind hm
        refine ss_irem hx hb qv11 dd_P_wayOf_46 ?_
        exact ss_iret hC hr hlocks hR hS hm dd_P_wayOf_47
    · have hm := ss_ift hm c5
      refine ss_aload_n hx hb dd_P_wayOf_23 rfl (lv_at hl 0 rfl) ?_
      obtain ⟨r12, qr12, hm⟩ := ss_bind hm
      refine ss_getr hC hK hR kf_P_15 rfl qr12 dd_P_wayOf_24 ?_
      refine lv_iload_n hx hb dd_P_wayOf_27 rfl (lv_at hl 1 rfl) ?_
      obtain ⟨v13, qv13, hm⟩ := ss_bind hm
      refine ss_iald hC hK hR qv13 dd_P_wayOf_28 ?_
      refine lv_bipush (v := 16) hx hb dd_P_wayOf_29 (by decide) ?_
      obtain ⟨v14, qv14, hm⟩ := ss_bind hm
      refine ss_idiv hx hb qv14 dd_P_wayOf_31 ?_
      exact ss_iret hC hr hlocks hR hS hm dd_P_wayOf_32
  · have hm := ss_iff hm c4
    refine lv_bipush (v := -2) hx hb dd_P_wayOf_16 (by decide) ?_
    exact ss_iret hC hr hlocks hR hS hm dd_P_wayOf_18
theorem dd_S_way_0 : decode bb_S_way 0 = .ok (.aload_n 0, 1) := by decide +kernel
theorem dd_S_way_1 : decode bb_S_way 1 = .ok (.iload_n 1, 1) := by decide +kernel
theorem dd_S_way_2 : decode bb_S_way 2 = .ok (.invokevirtual 123, 3) := by decide +kernel
theorem dd_S_way_5 : decode bb_S_way 5 = .ok (.ifCond .eq 20, 3) := by decide +kernel
theorem dd_S_way_8 : decode bb_S_way 8 = .ok (.aload_n 0, 1) := by decide +kernel
theorem dd_S_way_9 : decode bb_S_way 9 = .ok (.iload_n 2, 1) := by decide +kernel
theorem dd_S_way_10 : decode bb_S_way 10 = .ok (.invokevirtual 123, 3) := by decide +kernel
theorem dd_S_way_13 : decode bb_S_way 13 = .ok (.ifCond .eq 12, 3) := by decide +kernel
theorem dd_S_way_16 : decode bb_S_way 16 = .ok (.iload_n 3, 1) := by decide +kernel
theorem dd_S_way_17 : decode bb_S_way 17 = .ok (.iconst 0, 1) := by decide +kernel
theorem dd_S_way_18 : decode bb_S_way 18 = .ok (.iconst 2, 1) := by decide +kernel
theorem dd_S_way_19 : decode bb_S_way 19 = .ok (.invokestatic 194, 3) := by decide +kernel
theorem dd_S_way_22 : decode bb_S_way 22 = .ok (.ifCond .ne 6, 3) := by decide +kernel
theorem dd_S_way_25 : decode bb_S_way 25 = .ok (.bipush (-3), 2) := by decide +kernel
theorem dd_S_way_27 : decode bb_S_way 27 = .ok (.ireturn, 1) := by decide +kernel
theorem dd_S_way_28 : decode bb_S_way 28 = .ok (.aload_n 0, 1) := by decide +kernel
theorem dd_S_way_29 : decode bb_S_way 29 = .ok (.getfield 83, 3) := by decide +kernel
theorem dd_S_way_32 : decode bb_S_way 32 = .ok (.iload_n 1, 1) := by decide +kernel
theorem dd_S_way_33 : decode bb_S_way 33 = .ok (.iload_n 2, 1) := by decide +kernel
theorem dd_S_way_34 : decode bb_S_way 34 = .ok (.iload_n 3, 1) := by decide +kernel
theorem dd_S_way_35 : decode bb_S_way 35 = .ok (.invokevirtual 239, 3) := by decide +kernel
theorem dd_S_way_38 : decode bb_S_way 38 = .ok (.ireturn, 1) := by decide +kernel
def mm_S_way_j25 (N : Nat) (this : Option Nat) (a1 : Int32) (a2 : Int32) (a3 : Int32) (h_25 : ss_Hp) : Option (Int32 × ss_Hp) :=
  some ((-3 : Int32), h_25)
def mm_S_way (N : Nat) (this : Option Nat) (a1 : Int32) (a2 : Int32) (a3 : Int32) (h : ss_Hp) : Option (Int32 × ss_Hp) :=
  if ss_is h this 11 = true then
    (mm_S_isStep N this a1 h).bind fun v1 =>
    if v1 = 0 then
      mm_S_way_j25 N this a1 a2 a3 h
    else
      (mm_S_isStep N this a2 h).bind fun v3 =>
      if v3 = 0 then
        mm_S_way_j25 N this a1 a2 a3 h
      else
        (mm_S_isWithin N a3 (0 : Int32) (2 : Int32)).bind fun v5 =>
        if v5 = 0 then
          mm_S_way_j25 N this a1 a2 a3 h
        else
          (ss_gr h this 11 9).bind fun r7 =>
          ss_b2 (mm_P_wayOf N r7 a1 a2 a3 h) fun v8 h9 =>
          some (v8, h9)
  else none
abbrev ww_S_way (p : Program) (l : Launch) (e : Env) (s : State) (m : MethodId) (below : List Frame) (meth : Method) (c : Code) (G : ss_G) (this : Option Nat) (a1 : Int32) (a2 : Int32) (a3 : Int32) (h : ss_Hp) (rr : Int32) (hh : ss_Hp) (H : Heap) (locs : List Loc) (k n : Nat) (g : JFrame) : Prop := W p l e (headSpec (ss_w yy_S_way bb_S_way 4 (some (.int))) ({ frames := 5, cells := 0, slots := 0, locals := 150 })).room s m ([ss_v (ss_b G) this, .int a1, .int a2, .int a3] : List Value).toArray below meth c H locs k n (MQ below (ss_Qc G (some (.int rr)) hh) ([ss_v (ss_b G) this, .int a1, .int a2, .int a3] : List Value).toArray s 0 0 (ss_A G)) g
theorem ck_S_way {N : Nat} {this : Option Nat} {a1 : Int32} {a2 : Int32} {a3 : Int32} {h : ss_Hp} {res : Int32 × ss_Hp} (hm : mm_S_way N this a1 a2 a3 h = some res) : ss_is h this 11 = true := (ss_chk hm).1
set_option maxHeartbeats 4000000 in
set_option maxRecDepth 100000 in
theorem cc_S_way (l : Launch) (G : ss_G) (N : Nat) (this : Option Nat) (a1 : Int32) (a2 : Int32) (a3 : Int32) (h : ss_Hp) (rr : Int32) (hh : ss_Hp) (hm : mm_S_way N this a1 a2 a3 h = some (rr, hh)) : ss_Ct l G yy_S_way bb_S_way 4 (some (.int)) ({ frames := 5, cells := 0, slots := 0, locals := 150 }) [ss_v (ss_b G) this, .int a1, .int a2, .int a3] h (some (.int rr)) hh := by
  obtain ⟨hck, hm⟩ := ss_chk hm
  refine Met.ofW (cc := bb_S_way) (maxL := 4) (ret := (some (.int))) (by decide) rfl ?_
  intro p e s m args below meth c s₁ B hml hv
  obtain ⟨rfl, hR, hK⟩ := hv
  have hC : CallFix p m c bb_S_way 4 s _ lw_g sR_11 := ⟨B.exec, B.bytes, hml, findClass_of_methodNamed B.named, fun w hw => atoms_spec (ws := ss_w yy_S_way bb_S_way 4 (some (.int))) B.pre w (List.mem_cons_of_mem _ hw)⟩
  have hx := hC.1
  have hb := hC.2.1
  have hr := B.returns
  have hlocks := B.notSynchronized
  have hS : va_S (ss_A G) s.heap s.heap [] := va_S.rf
  have hl := lv_entry ([ss_v (ss_b G) this, .int a1, .int a2, .int a3]) (n := 4) (by simp [lg_sl, ss_v_cat, ss_cat_i, ss_cat_l, ss_cat_r])
  rw [lg_entry_eq]
  generalize (lg_sl ([ss_v (ss_b G) this, .int a1, .int a2, .int a3]) ++ List.replicate (4 - (lg_sl ([ss_v (ss_b G) this, .int a1, .int a2, .int a3])).length) Slot.unset).toArray = ls at hl ⊢
  have hl : lv_has ls 4 [(0, ss_v (ss_b G) this), (1, .int a1), (2, .int a2), (3, .int a3)] := by simpa [lv_args, ss_v_cat, ss_cat_i, ss_cat_l, ss_cat_r] using hl
  have J_25 : ∀ (h_25 : ss_Hp) (H : Heap) (locs : List Loc) (ls : Array Slot), mm_S_way_j25 N this a1 a2 a3 h_25 = some (rr, hh) → ss_R G h_25 H → va_S (ss_A G) s.heap H locs → lv_has ls 4 [] → ww_S_way p l e s m below meth c G this a1 a2 a3 h rr hh  H locs 0 0 (F0 m 25 ls []) := by
    intro h_25 H locs ls hm hR hS hl
    refine lv_bipush (v := -3) hx hb dd_S_way_25 (by decide) ?_
    exact ss_iret hC hr hlocks hR hS hm dd_S_way_27
  refine ss_aload_n hx hb dd_S_way_0 rfl (lv_at hl 0 rfl) ?_
  refine lv_iload_n hx hb dd_S_way_1 rfl (lv_at hl 1 rfl) ?_
  obtain ⟨v1, qv1, hm⟩ := ss_bind hm
  refine ss_cV 0 0 (As := [.int a1]) hC hK hR hS hl.1 (cc_S_isStep l G N _ _ _ _ qv1) km_S_123 (ck_S_isStep qv1) ⟨Nat.le_of_ble_eq_true rfl, Nat.le_of_ble_eq_true rfl⟩ ⟨Nat.le_of_ble_eq_true rfl, Nat.le_of_ble_eq_true rfl, Nat.le_of_ble_eq_true rfl, Nat.le_of_ble_eq_true rfl⟩ rfl rfl (Nat.le_of_ble_eq_true rfl) dd_S_way_2 (fun H locs hR hS => ?_)
  refine lv_if_eq (tgt := 25) hx hb dd_S_way_5 (by decide) (fun c2 => ?_) (fun c2 => ?_)
  · have hm := ss_ift hm c2
    exact J_25 h _ _ _ hm hR hS (lv_sub hl [] rfl)
  · have hm := ss_iff hm c2
    refine ss_aload_n hx hb dd_S_way_8 rfl (lv_at hl 0 rfl) ?_
    refine lv_iload_n hx hb dd_S_way_9 rfl (lv_at hl 2 rfl) ?_
    obtain ⟨v3, qv3, hm⟩ := ss_bind hm
    refine ss_cV 0 0 (As := [.int a2]) hC hK hR hS hl.1 (cc_S_isStep l G N _ _ _ _ qv3) km_S_123 (ck_S_isStep qv3) ⟨Nat.le_of_ble_eq_true rfl, Nat.le_of_ble_eq_true rfl⟩ ⟨Nat.le_of_ble_eq_true rfl, Nat.le_of_ble_eq_true rfl, Nat.le_of_ble_eq_true rfl, Nat.le_of_ble_eq_true rfl⟩ rfl rfl (Nat.le_of_ble_eq_true rfl) dd_S_way_10 (fun H locs hR hS => ?_)
    refine lv_if_eq (tgt := 25) hx hb dd_S_way_13 (by decide) (fun c4 => ?_) (fun c4 => ?_)
    · have hm := ss_ift hm c4
      exact J_25 h _ _ _ hm hR hS (lv_sub hl [] rfl)
    · have hm := ss_iff hm c4
      refine lv_iload_n hx hb dd_S_way_16 rfl (lv_at hl 3 rfl) ?_
      refine lv_iconst (v := 0) hx hb dd_S_way_17 (by decide) ?_
      refine lv_iconst (v := 2) hx hb dd_S_way_18 (by decide) ?_
      obtain ⟨v5, qv5, hm⟩ := ss_bind hm
      refine ss_cS 0 0 (As := [.int a3, .int (0 : Int32), .int (2 : Int32)]) hC hK hR hS hl.1 (cc_S_isWithin l G N _ _ _ _ _ qv5) km_S_194 ⟨Nat.le_of_ble_eq_true rfl, Nat.le_of_ble_eq_true rfl⟩ ⟨Nat.le_of_ble_eq_true rfl, Nat.le_of_ble_eq_true rfl, Nat.le_of_ble_eq_true rfl, Nat.le_of_ble_eq_true rfl⟩ rfl rfl (Nat.le_of_ble_eq_true rfl) dd_S_way_19 (fun H locs hR hS => ?_)
      refine lv_if_ne (tgt := 28) hx hb dd_S_way_22 (by decide) (fun c6 => ?_) (fun c6 => ?_)
      · have hm := ss_iff hm c6
        refine ss_aload_n hx hb dd_S_way_28 rfl (lv_at hl 0 rfl) ?_
        obtain ⟨r7, qr7, hm⟩ := ss_bind hm
        refine ss_getr hC hK hR kf_S_83 rfl qr7 dd_S_way_29 ?_
        refine lv_iload_n hx hb dd_S_way_32 rfl (lv_at hl 1 rfl) ?_
        refine lv_iload_n hx hb dd_S_way_33 rfl (lv_at hl 2 rfl) ?_
        refine lv_iload_n hx hb dd_S_way_34 rfl (lv_at hl 3 rfl) ?_
        obtain ⟨v8, h9, qh9, hm⟩ := ss_bind2 hm
        refine ss_cV 0 0 (As := [.int a1, .int a2, .int a3]) hC hK hR hS hl.1 (cc_P_wayOf l G N _ _ _ _ _ _ _ qh9) km_S_239 (ck_P_wayOf qh9) ⟨Nat.le_of_ble_eq_true rfl, Nat.le_of_ble_eq_true rfl⟩ ⟨Nat.le_of_ble_eq_true rfl, Nat.le_of_ble_eq_true rfl, Nat.le_of_ble_eq_true rfl, Nat.le_of_ble_eq_true rfl⟩ rfl rfl (Nat.le_of_ble_eq_true rfl) dd_S_way_35 (fun H locs hR hS => ?_)
        exact ss_iret hC hr hlocks hR hS hm dd_S_way_38
      · have hm := ss_ift hm c6
        exact J_25 h _ _ _ hm hR hS (lv_sub hl [] rfl)
theorem dd_P_setCount_0 : decode bb_P_setCount 0 = .ok (.iconst 1, 1) := by decide +kernel
theorem dd_P_setCount_1 : decode bb_P_setCount 1 = .ok (.aload_n 0, 1) := by decide +kernel
theorem dd_P_setCount_2 : decode bb_P_setCount 2 = .ok (.getfield 21, 3) := by decide +kernel
theorem dd_P_setCount_5 : decode bb_P_setCount 5 = .ok (.getfield 50, 3) := by decide +kernel
theorem dd_P_setCount_8 : decode bb_P_setCount 8 = .ok (.getfield 109, 3) := by decide +kernel
theorem dd_P_setCount_11 : decode bb_P_setCount 11 = .ok (.ishl, 1) := by decide +kernel
theorem dd_P_setCount_12 : decode bb_P_setCount 12 = .ok (.ireturn, 1) := by decide +kernel
def mm_P_setCount (N : Nat) (this : Option Nat) (h : ss_Hp) : Option Int32 :=
  if ss_is h this 10 = true then
    (ss_gr h this 10 0).bind fun r1 =>
    (ss_gr h r1 8 0).bind fun r2 =>
    (ss_gi h r2 5 4).bind fun v3 =>
    some ((1 : Int32) <<< (v3 &&& 31))
  else none
abbrev ww_P_setCount (p : Program) (l : Launch) (e : Env) (s : State) (m : MethodId) (below : List Frame) (meth : Method) (c : Code) (G : ss_G) (this : Option Nat) (h : ss_Hp) (rr : Int32) (H : Heap) (locs : List Loc) (k n : Nat) (g : JFrame) : Prop := W p l e (headSpec (ss_w yy_P_setCount bb_P_setCount 1 (some (.int))) ({ frames := 0, cells := 0, slots := 0, locals := 0 })).room s m ([ss_v (ss_b G) this] : List Value).toArray below meth c H locs k n (MQ below (ss_Qc G (some (.int rr)) h) ([ss_v (ss_b G) this] : List Value).toArray s 0 0 (ss_A G)) g
theorem ck_P_setCount {N : Nat} {this : Option Nat} {h : ss_Hp} {res : Int32} (hm : mm_P_setCount N this h = some res) : ss_is h this 10 = true := (ss_chk hm).1
set_option maxHeartbeats 4000000 in
set_option maxRecDepth 100000 in
theorem cc_P_setCount (l : Launch) (G : ss_G) (N : Nat) (this : Option Nat) (h : ss_Hp) (rr : Int32) (hm : mm_P_setCount N this h = some rr) : ss_Ct l G yy_P_setCount bb_P_setCount 1 (some (.int)) ({ frames := 0, cells := 0, slots := 0, locals := 0 }) [ss_v (ss_b G) this] h (some (.int rr)) h := by
  obtain ⟨hck, hm⟩ := ss_chk hm
  refine Met.ofW (cc := bb_P_setCount) (maxL := 1) (ret := (some (.int))) (by decide) rfl ?_
  intro p e s m args below meth c s₁ B hml hv
  obtain ⟨rfl, hR, hK⟩ := hv
  have hC : CallFix p m c bb_P_setCount 1 s _ lw_g sR_10 := ⟨B.exec, B.bytes, hml, findClass_of_methodNamed B.named, fun w hw => atoms_spec (ws := ss_w yy_P_setCount bb_P_setCount 1 (some (.int))) B.pre w (List.mem_cons_of_mem _ hw)⟩
  have hx := hC.1
  have hb := hC.2.1
  have hr := B.returns
  have hlocks := B.notSynchronized
  have hS : va_S (ss_A G) s.heap s.heap [] := va_S.rf
  have hl := lv_entry ([ss_v (ss_b G) this]) (n := 1) (by simp [lg_sl, ss_v_cat, ss_cat_i, ss_cat_l, ss_cat_r])
  rw [lg_entry_eq]
  generalize (lg_sl ([ss_v (ss_b G) this]) ++ List.replicate (1 - (lg_sl ([ss_v (ss_b G) this])).length) Slot.unset).toArray = ls at hl ⊢
  have hl : lv_has ls 1 [(0, ss_v (ss_b G) this)] := by simpa [lv_args, ss_v_cat, ss_cat_i, ss_cat_l, ss_cat_r] using hl
  refine lv_iconst (v := 1) hx hb dd_P_setCount_0 (by decide) ?_
  refine ss_aload_n hx hb dd_P_setCount_1 rfl (lv_at hl 0 rfl) ?_
  obtain ⟨r1, qr1, hm⟩ := ss_bind hm
  refine ss_getr hC hK hR kf_P_21 rfl qr1 dd_P_setCount_2 ?_
  obtain ⟨r2, qr2, hm⟩ := ss_bind hm
  refine ss_getr hC hK hR kf_P_50 rfl qr2 dd_P_setCount_5 ?_
  obtain ⟨v3, qv3, hm⟩ := ss_bind hm
  refine ss_geti hC hK hR kf_P_109 qv3 dd_P_setCount_8 ?_
  refine lv_ishl hx hb dd_P_setCount_11 ?_
  exact ss_iret hC hr hlocks hR hS (ss_with _ hm) dd_P_setCount_12
theorem dd_P_sweepAsAgreed_0 : decode bb_P_sweepAsAgreed 0 = .ok (.iconst 0, 1) := by decide +kernel
theorem dd_P_sweepAsAgreed_1 : decode bb_P_sweepAsAgreed 1 = .ok (.istore_n 2, 1) := by decide +kernel
theorem dd_P_sweepAsAgreed_2 : decode bb_P_sweepAsAgreed 2 = .ok (.iload_n 2, 1) := by decide +kernel
theorem dd_P_sweepAsAgreed_3 : decode bb_P_sweepAsAgreed 3 = .ok (.aload_n 0, 1) := by decide +kernel
theorem dd_P_sweepAsAgreed_4 : decode bb_P_sweepAsAgreed 4 = .ok (.getfield 21, 3) := by decide +kernel
theorem dd_P_sweepAsAgreed_7 : decode bb_P_sweepAsAgreed 7 = .ok (.getfield 50, 3) := by decide +kernel
theorem dd_P_sweepAsAgreed_10 : decode bb_P_sweepAsAgreed 10 = .ok (.getfield 109, 3) := by decide +kernel
theorem dd_P_sweepAsAgreed_13 : decode bb_P_sweepAsAgreed 13 = .ok (.if_icmp .ge 70, 3) := by decide +kernel
theorem dd_P_sweepAsAgreed_16 : decode bb_P_sweepAsAgreed 16 = .ok (.aload_n 0, 1) := by decide +kernel
theorem dd_P_sweepAsAgreed_17 : decode bb_P_sweepAsAgreed 17 = .ok (.getfield 21, 3) := by decide +kernel
theorem dd_P_sweepAsAgreed_20 : decode bb_P_sweepAsAgreed 20 = .ok (.getfield 50, 3) := by decide +kernel
theorem dd_P_sweepAsAgreed_23 : decode bb_P_sweepAsAgreed 23 = .ok (.getfield 130, 3) := by decide +kernel
theorem dd_P_sweepAsAgreed_26 : decode bb_P_sweepAsAgreed 26 = .ok (.iload_n 2, 1) := by decide +kernel
theorem dd_P_sweepAsAgreed_27 : decode bb_P_sweepAsAgreed 27 = .ok (.iaload, 1) := by decide +kernel
theorem dd_P_sweepAsAgreed_28 : decode bb_P_sweepAsAgreed 28 = .ok (.istore_n 3, 1) := by decide +kernel
theorem dd_P_sweepAsAgreed_29 : decode bb_P_sweepAsAgreed 29 = .ok (.iload_n 1, 1) := by decide +kernel
theorem dd_P_sweepAsAgreed_30 : decode bb_P_sweepAsAgreed 30 = .ok (.iload_n 2, 1) := by decide +kernel
theorem dd_P_sweepAsAgreed_31 : decode bb_P_sweepAsAgreed 31 = .ok (.ishr, 1) := by decide +kernel
theorem dd_P_sweepAsAgreed_32 : decode bb_P_sweepAsAgreed 32 = .ok (.iconst 1, 1) := by decide +kernel
theorem dd_P_sweepAsAgreed_33 : decode bb_P_sweepAsAgreed 33 = .ok (.iand, 1) := by decide +kernel
theorem dd_P_sweepAsAgreed_34 : decode bb_P_sweepAsAgreed 34 = .ok (.iconst 1, 1) := by decide +kernel
theorem dd_P_sweepAsAgreed_35 : decode bb_P_sweepAsAgreed 35 = .ok (.if_icmp .ne 42, 3) := by decide +kernel
theorem dd_P_sweepAsAgreed_38 : decode bb_P_sweepAsAgreed 38 = .ok (.aload_n 0, 1) := by decide +kernel
theorem dd_P_sweepAsAgreed_39 : decode bb_P_sweepAsAgreed 39 = .ok (.getfield 25, 3) := by decide +kernel
theorem dd_P_sweepAsAgreed_42 : decode bb_P_sweepAsAgreed 42 = .ok (.getfield 133, 3) := by decide +kernel
theorem dd_P_sweepAsAgreed_45 : decode bb_P_sweepAsAgreed 45 = .ok (.getfield 45, 3) := by decide +kernel
theorem dd_P_sweepAsAgreed_48 : decode bb_P_sweepAsAgreed 48 = .ok (.iload_n 3, 1) := by decide +kernel
theorem dd_P_sweepAsAgreed_49 : decode bb_P_sweepAsAgreed 49 = .ok (.iaload, 1) := by decide +kernel
theorem dd_P_sweepAsAgreed_50 : decode bb_P_sweepAsAgreed 50 = .ok (.ifCond .le 27, 3) := by decide +kernel
theorem dd_P_sweepAsAgreed_53 : decode bb_P_sweepAsAgreed 53 = .ok (.aload_n 0, 1) := by decide +kernel
theorem dd_P_sweepAsAgreed_54 : decode bb_P_sweepAsAgreed 54 = .ok (.getfield 25, 3) := by decide +kernel
theorem dd_P_sweepAsAgreed_57 : decode bb_P_sweepAsAgreed 57 = .ok (.iload_n 2, 1) := by decide +kernel
theorem dd_P_sweepAsAgreed_58 : decode bb_P_sweepAsAgreed 58 = .ok (.iload_n 3, 1) := by decide +kernel
theorem dd_P_sweepAsAgreed_59 : decode bb_P_sweepAsAgreed 59 = .ok (.invokevirtual 134, 3) := by decide +kernel
theorem dd_P_sweepAsAgreed_62 : decode bb_P_sweepAsAgreed 62 = .ok (.pop, 1) := by decide +kernel
theorem dd_P_sweepAsAgreed_63 : decode bb_P_sweepAsAgreed 63 = .ok (.aload_n 0, 1) := by decide +kernel
theorem dd_P_sweepAsAgreed_64 : decode bb_P_sweepAsAgreed 64 = .ok (.getfield 18, 3) := by decide +kernel
theorem dd_P_sweepAsAgreed_67 : decode bb_P_sweepAsAgreed 67 = .ok (.iload_n 1, 1) := by decide +kernel
theorem dd_P_sweepAsAgreed_68 : decode bb_P_sweepAsAgreed 68 = .ok (.iconst 4, 1) := by decide +kernel
theorem dd_P_sweepAsAgreed_69 : decode bb_P_sweepAsAgreed 69 = .ok (.imul, 1) := by decide +kernel
theorem dd_P_sweepAsAgreed_70 : decode bb_P_sweepAsAgreed 70 = .ok (.iload_n 2, 1) := by decide +kernel
theorem dd_P_sweepAsAgreed_71 : decode bb_P_sweepAsAgreed 71 = .ok (.iadd, 1) := by decide +kernel
theorem dd_P_sweepAsAgreed_72 : decode bb_P_sweepAsAgreed 72 = .ok (.dup2, 1) := by decide +kernel
theorem dd_P_sweepAsAgreed_73 : decode bb_P_sweepAsAgreed 73 = .ok (.iaload, 1) := by decide +kernel
theorem dd_P_sweepAsAgreed_74 : decode bb_P_sweepAsAgreed 74 = .ok (.iconst 1, 1) := by decide +kernel
theorem dd_P_sweepAsAgreed_75 : decode bb_P_sweepAsAgreed 75 = .ok (.isub, 1) := by decide +kernel
theorem dd_P_sweepAsAgreed_76 : decode bb_P_sweepAsAgreed 76 = .ok (.iastore, 1) := by decide +kernel
theorem dd_P_sweepAsAgreed_77 : decode bb_P_sweepAsAgreed 77 = .ok (.iinc 2 1, 3) := by decide +kernel
theorem dd_P_sweepAsAgreed_80 : decode bb_P_sweepAsAgreed 80 = .ok (.goto (-78), 3) := by decide +kernel
theorem dd_P_sweepAsAgreed_83 : decode bb_P_sweepAsAgreed 83 = .ok (.return_, 1) := by decide +kernel
def mm_P_sweepAsAgreed_j77 (N : Nat) (this : Option Nat) (a1 : Int32) (x2_77 : Int32) (h_77 : ss_Hp) : Option ((Int32 × ss_Hp) ⊕ ss_Hp) :=
  (some (x2_77 + (1 : Int32))).bind fun v1 =>
  some (.inl (v1, h_77))
def mm_P_sweepAsAgreed_b2 (N : Nat) (this : Option Nat) (a1 : Int32) (st : Int32 × ss_Hp) : Option ((Int32 × ss_Hp) ⊕ ss_Hp) :=
  match st with
  | (x2_2, h_2) =>
    (ss_gr h_2 this 10 0).bind fun r2 =>
    (ss_gr h_2 r2 8 0).bind fun r3 =>
    (ss_gi h_2 r3 5 4).bind fun v4 =>
    if v4 ≤ x2_2 then
      some (.inr h_2)
    else
      (ss_gr h_2 this 10 0).bind fun r6 =>
      (ss_gr h_2 r6 8 0).bind fun r7 =>
      (ss_gr h_2 r7 5 0).bind fun r8 =>
      (ss_ai h_2 r8 20 x2_2).bind fun v9 =>
      if ((a1 >>> (x2_2 &&& 31)) &&& (1 : Int32)) = (1 : Int32) then
        (ss_gr h_2 this 10 1).bind fun r11 =>
        (ss_gr h_2 r11 7 0).bind fun r12 =>
        (ss_gr h_2 r12 0 0).bind fun r13 =>
        (ss_ai h_2 r13 20 v9).bind fun v14 =>
        if v14 ≤ 0 then
          mm_P_sweepAsAgreed_j77 N this a1 x2_2 h_2
        else
          (ss_gr h_2 this 10 1).bind fun r16 =>
          ss_b2 (mm_Wi_sweepBy N r16 x2_2 v9 h_2) fun v17 h18 =>
          (ss_gr h18 this 10 4).bind fun r19 =>
          (some ((a1 * (4 : Int32)) + x2_2)).bind fun v20 =>
          (ss_ai h18 r19 20 v20).bind fun v21 =>
          (ss_ui h18 r19 20 v20 (v21 - (1 : Int32))).bind fun h22 =>
          mm_P_sweepAsAgreed_j77 N this a1 x2_2 h22
      else
        mm_P_sweepAsAgreed_j77 N this a1 x2_2 h_2
def mm_P_sweepAsAgreed (N : Nat) (this : Option Nat) (a1 : Int32) (h : ss_Hp) : Option ss_Hp :=
  if ss_is h this 10 = true then
    (ss_lp (mm_P_sweepAsAgreed_b2 N this a1) N ((0 : Int32), h)).bind fun h_2_83 =>
    some h_2_83
  else none
abbrev ww_P_sweepAsAgreed (p : Program) (l : Launch) (e : Env) (s : State) (m : MethodId) (below : List Frame) (meth : Method) (c : Code) (G : ss_G) (this : Option Nat) (a1 : Int32) (h : ss_Hp) (hh : ss_Hp) (H : Heap) (locs : List Loc) (k n : Nat) (g : JFrame) : Prop := W p l e (headSpec (ss_w yy_P_sweepAsAgreed bb_P_sweepAsAgreed 4 none) ({ frames := 3, cells := 0, slots := 0, locals := 126 })).room s m ([ss_v (ss_b G) this, .int a1] : List Value).toArray below meth c H locs k n (MQ below (ss_Qc G none hh) ([ss_v (ss_b G) this, .int a1] : List Value).toArray s 0 0 (ss_A G)) g
theorem ck_P_sweepAsAgreed {N : Nat} {this : Option Nat} {a1 : Int32} {h : ss_Hp} {res : ss_Hp} (hm : mm_P_sweepAsAgreed N this a1 h = some res) : ss_is h this 10 = true := (ss_chk hm).1
set_option maxHeartbeats 4000000 in
set_option maxRecDepth 100000 in
theorem cc_P_sweepAsAgreed (l : Launch) (G : ss_G) (N : Nat) (this : Option Nat) (a1 : Int32) (h : ss_Hp) (hh : ss_Hp) (hm : mm_P_sweepAsAgreed N this a1 h = some hh) : ss_Ct l G yy_P_sweepAsAgreed bb_P_sweepAsAgreed 4 none ({ frames := 3, cells := 0, slots := 0, locals := 126 }) [ss_v (ss_b G) this, .int a1] h none hh := by
  obtain ⟨hck, hm⟩ := ss_chk hm
  refine Met.ofW (cc := bb_P_sweepAsAgreed) (maxL := 4) (ret := none) (by decide) rfl ?_
  intro p e s m args below meth c s₁ B hml hv
  obtain ⟨rfl, hR, hK⟩ := hv
  have hC : CallFix p m c bb_P_sweepAsAgreed 4 s _ lw_g sR_10 := ⟨B.exec, B.bytes, hml, findClass_of_methodNamed B.named, fun w hw => atoms_spec (ws := ss_w yy_P_sweepAsAgreed bb_P_sweepAsAgreed 4 none) B.pre w (List.mem_cons_of_mem _ hw)⟩
  have hx := hC.1
  have hb := hC.2.1
  have hr := B.returns
  have hlocks := B.notSynchronized
  have hS : va_S (ss_A G) s.heap s.heap [] := va_S.rf
  have hl := lv_entry ([ss_v (ss_b G) this, .int a1]) (n := 4) (by simp [lg_sl, ss_v_cat, ss_cat_i, ss_cat_l, ss_cat_r])
  rw [lg_entry_eq]
  generalize (lg_sl ([ss_v (ss_b G) this, .int a1]) ++ List.replicate (4 - (lg_sl ([ss_v (ss_b G) this, .int a1])).length) Slot.unset).toArray = ls at hl ⊢
  have hl : lv_has ls 4 [(0, ss_v (ss_b G) this), (1, .int a1)] := by simpa [lv_args, ss_v_cat, ss_cat_i, ss_cat_l, ss_cat_r] using hl
  refine lv_iconst (v := 0) hx hb dd_P_sweepAsAgreed_0 (by decide) ?_
  refine lv_istore_n (lv' := [(2, .int (0 : Int32)), (0, ss_v (ss_b G) this), (1, .int a1)]) hx hb dd_P_sweepAsAgreed_1 rfl hl (by decide) rfl (fun ls hl => ?_)
  obtain ⟨e_2, he_2, hm⟩ := ss_bind hm
  have X_2_83 : ∀  (h_2_83 : ss_Hp) (H : Heap) (locs : List Loc) (ls : Array Slot), e_2 = h_2_83 → ss_R G h_2_83 H → va_S (ss_A G) s.heap H locs → lv_has ls 4 [] → ww_P_sweepAsAgreed p l e s m below meth c G this a1 h hh  H locs 0 0 (F0 m 83 ls []) := by
    intro h_2_83 H locs ls hq hR hS hl
    rw [hq] at hm
    exact ss_vret hC hr hlocks hR hS hm dd_P_sweepAsAgreed_83
  have L_2 : ∀ (n : Nat) (x2_2 : Int32) (h_2 : ss_Hp) (H : Heap) (locs : List Loc) (ls : Array Slot), ss_lp (mm_P_sweepAsAgreed_b2 N this a1) n (x2_2, h_2) = some e_2 → ss_R G h_2 H → va_S (ss_A G) s.heap H locs → lv_has ls 4 [(0, ss_v (ss_b G) this), (1, .int a1), (2, .int x2_2)] → ww_P_sweepAsAgreed p l e s m below meth c G this a1 h hh  H locs 0 0 (F0 m 2 ls []) := by
    intro n
    induction n with
    | zero => intro x2_2 h_2 H locs ls hm; cases hm
    | succ n ih_2 =>
      intro x2_2 h_2 H locs ls hm hR hS hl
      obtain ⟨z_2, hm, hz1_2, hz2_2⟩ := ss_lps hm
      have J_77 : ∀ (x2_77 : Int32) (h_77 : ss_Hp) (H : Heap) (locs : List Loc) (ls : Array Slot), mm_P_sweepAsAgreed_j77 N this a1 x2_77 h_77 = some z_2 → ss_R G h_77 H → va_S (ss_A G) s.heap H locs → lv_has ls 4 [(0, ss_v (ss_b G) this), (1, .int a1), (2, .int x2_77)] → ww_P_sweepAsAgreed p l e s m below meth c G this a1 h hh  H locs 0 0 (F0 m 77 ls []) := by
        intro x2_77 h_77 H locs ls hm hR hS hl
        obtain ⟨v1, qv1, hm⟩ := ss_bind hm
        refine lv_iinc (v := v1) (lv' := [(2, .int v1), (0, ss_v (ss_b G) this), (1, .int a1)]) hx hb dd_P_sweepAsAgreed_77 hl (k := 2) rfl (ss_inc (by decide) qv1) (by decide) rfl (fun ls hl => ?_)
        refine lv_goto (tgt := 2) hx hb dd_P_sweepAsAgreed_80 (by decide) ?_
        exact ih_2 v1 h_77 _ _ _ (hz1_2 _ (ss_some hm)) hR hS (lv_sub hl [1, 2, 0] rfl)
      refine lv_iload_n hx hb dd_P_sweepAsAgreed_2 rfl (lv_at hl 2 rfl) ?_
      refine ss_aload_n hx hb dd_P_sweepAsAgreed_3 rfl (lv_at hl 0 rfl) ?_
      obtain ⟨r2, qr2, hm⟩ := ss_bind hm
      refine ss_getr hC hK hR kf_P_21 rfl qr2 dd_P_sweepAsAgreed_4 ?_
      obtain ⟨r3, qr3, hm⟩ := ss_bind hm
      refine ss_getr hC hK hR kf_P_50 rfl qr3 dd_P_sweepAsAgreed_7 ?_
      obtain ⟨v4, qv4, hm⟩ := ss_bind hm
      refine ss_geti hC hK hR kf_P_109 qv4 dd_P_sweepAsAgreed_10 ?_
      refine lv_icmp_ge (tgt := 83) hx hb dd_P_sweepAsAgreed_13 (by decide) (fun c5 => ?_) (fun c5 => ?_)
      · have hm := ss_ift hm c5
        exact X_2_83 h_2 _ _ _ (hz2_2 _ (ss_some hm)) hR hS (lv_sub hl [] rfl)
      · have hm := ss_iff hm c5
        refine ss_aload_n hx hb dd_P_sweepAsAgreed_16 rfl (lv_at hl 0 rfl) ?_
        obtain ⟨r6, qr6, hm⟩ := ss_bind hm
        refine ss_getr hC hK hR kf_P_21 rfl qr6 dd_P_sweepAsAgreed_17 ?_
        obtain ⟨r7, qr7, hm⟩ := ss_bind hm
        refine ss_getr hC hK hR kf_P_50 rfl qr7 dd_P_sweepAsAgreed_20 ?_
        obtain ⟨r8, qr8, hm⟩ := ss_bind hm
        refine ss_getr hC hK hR kf_P_130 rfl qr8 dd_P_sweepAsAgreed_23 ?_
        refine lv_iload_n hx hb dd_P_sweepAsAgreed_26 rfl (lv_at hl 2 rfl) ?_
        obtain ⟨v9, qv9, hm⟩ := ss_bind hm
        refine ss_iald hC hK hR qv9 dd_P_sweepAsAgreed_27 ?_
        refine lv_istore_n (lv' := [(3, .int v9), (0, ss_v (ss_b G) this), (1, .int a1), (2, .int x2_2)]) hx hb dd_P_sweepAsAgreed_28 rfl hl (by decide) rfl (fun ls hl => ?_)
        refine lv_iload_n hx hb dd_P_sweepAsAgreed_29 rfl (lv_at hl 2 rfl) ?_
        refine lv_iload_n hx hb dd_P_sweepAsAgreed_30 rfl (lv_at hl 3 rfl) ?_
        refine lv_ishr hx hb dd_P_sweepAsAgreed_31 ?_
        refine lv_iconst (v := 1) hx hb dd_P_sweepAsAgreed_32 (by decide) ?_
        refine lv_iand hx hb dd_P_sweepAsAgreed_33 ?_
        refine lv_iconst (v := 1) hx hb dd_P_sweepAsAgreed_34 (by decide) ?_
        refine lv_icmp_ne (tgt := 77) hx hb dd_P_sweepAsAgreed_35 (by decide) (fun c10 => ?_) (fun c10 => ?_)
        · have hm := ss_iff hm c10
          exact J_77 x2_2 h_2 _ _ _ hm hR hS (lv_sub hl [1, 2, 3] rfl)
        · have hm := ss_ift hm c10
          refine ss_aload_n hx hb dd_P_sweepAsAgreed_38 rfl (lv_at hl 1 rfl) ?_
          obtain ⟨r11, qr11, hm⟩ := ss_bind hm
          refine ss_getr hC hK hR kf_P_25 rfl qr11 dd_P_sweepAsAgreed_39 ?_
          obtain ⟨r12, qr12, hm⟩ := ss_bind hm
          refine ss_getr hC hK hR kf_P_133 rfl qr12 dd_P_sweepAsAgreed_42 ?_
          obtain ⟨r13, qr13, hm⟩ := ss_bind hm
          refine ss_getr hC hK hR kf_P_45 rfl qr13 dd_P_sweepAsAgreed_45 ?_
          refine lv_iload_n hx hb dd_P_sweepAsAgreed_48 rfl (lv_at hl 0 rfl) ?_
          obtain ⟨v14, qv14, hm⟩ := ss_bind hm
          refine ss_iald hC hK hR qv14 dd_P_sweepAsAgreed_49 ?_
          refine lv_if_le (tgt := 77) hx hb dd_P_sweepAsAgreed_50 (by decide) (fun c15 => ?_) (fun c15 => ?_)
          · have hm := ss_ift hm c15
            exact J_77 x2_2 h_2 _ _ _ hm hR hS (lv_sub hl [1, 2, 3] rfl)
          · have hm := ss_iff hm c15
            refine ss_aload_n hx hb dd_P_sweepAsAgreed_53 rfl (lv_at hl 1 rfl) ?_
            obtain ⟨r16, qr16, hm⟩ := ss_bind hm
            refine ss_getr hC hK hR kf_P_25 rfl qr16 dd_P_sweepAsAgreed_54 ?_
            refine lv_iload_n hx hb dd_P_sweepAsAgreed_57 rfl (lv_at hl 3 rfl) ?_
            refine lv_iload_n hx hb dd_P_sweepAsAgreed_58 rfl (lv_at hl 0 rfl) ?_
            obtain ⟨v17, h18, qh18, hm⟩ := ss_bind2 hm
            refine ss_cV 0 0 (As := [.int x2_2, .int v9]) hC hK hR hS hl.1 (cc_Wi_sweepBy l G N _ _ _ _ _ _ qh18) km_P_134 (ck_Wi_sweepBy qh18) ⟨Nat.le_of_ble_eq_true rfl, Nat.le_of_ble_eq_true rfl⟩ ⟨Nat.le_of_ble_eq_true rfl, Nat.le_of_ble_eq_true rfl, Nat.le_of_ble_eq_true rfl, Nat.le_of_ble_eq_true rfl⟩ rfl rfl (Nat.le_of_ble_eq_true rfl) dd_P_sweepAsAgreed_59 (fun H locs hR hS => ?_)
            refine lv_pop hx hb dd_P_sweepAsAgreed_62 rfl ?_
            refine ss_aload_n hx hb dd_P_sweepAsAgreed_63 rfl (lv_at hl 1 rfl) ?_
            obtain ⟨r19, qr19, hm⟩ := ss_bind hm
            refine ss_getr hC hK hR kf_P_18 rfl qr19 dd_P_sweepAsAgreed_64 ?_
            refine lv_iload_n hx hb dd_P_sweepAsAgreed_67 rfl (lv_at hl 2 rfl) ?_
            refine lv_iconst (v := 4) hx hb dd_P_sweepAsAgreed_68 (by decide) ?_
            refine lv_imul hx hb dd_P_sweepAsAgreed_69 ?_
            refine lv_iload_n hx hb dd_P_sweepAsAgreed_70 rfl (lv_at hl 3 rfl) ?_
            refine lv_iadd hx hb dd_P_sweepAsAgreed_71 ?_
            obtain ⟨v20, qv20, hm⟩ := ss_bind hm
            refine ss_topi qv20 ?_
            refine ss_dup2ir hx hb dd_P_sweepAsAgreed_72 ?_
            obtain ⟨v21, qv21, hm⟩ := ss_bind hm
            refine ss_iald hC hK hR qv21 dd_P_sweepAsAgreed_73 ?_
            refine lv_iconst (v := 1) hx hb dd_P_sweepAsAgreed_74 (by decide) ?_
            refine lv_isub hx hb dd_P_sweepAsAgreed_75 ?_
            obtain ⟨h22, qh22, hm⟩ := ss_bind hm
            refine ss_iast hC hK hR hS qh22 dd_P_sweepAsAgreed_76 (fun H locs hR hS => ?_)
            exact J_77 x2_2 h22 _ _ _ hm hR hS (lv_sub hl [1, 2, 3] rfl)
  exact L_2 N (0 : Int32) h _ _ _ he_2 hR hS (lv_sub hl [1, 2, 0] rfl)
theorem dd_P_addOpen_0 : decode bb_P_addOpen 0 = .ok (.aload_n 0, 1) := by decide +kernel
theorem dd_P_addOpen_1 : decode bb_P_addOpen 1 = .ok (.getfield 25, 3) := by decide +kernel
theorem dd_P_addOpen_4 : decode bb_P_addOpen 4 = .ok (.invokevirtual 137, 3) := by decide +kernel
theorem dd_P_addOpen_7 : decode bb_P_addOpen 7 = .ok (.istore_n 2, 1) := by decide +kernel
theorem dd_P_addOpen_8 : decode bb_P_addOpen 8 = .ok (.iconst 0, 1) := by decide +kernel
theorem dd_P_addOpen_9 : decode bb_P_addOpen 9 = .ok (.istore_n 3, 1) := by decide +kernel
theorem dd_P_addOpen_10 : decode bb_P_addOpen 10 = .ok (.iload_n 3, 1) := by decide +kernel
theorem dd_P_addOpen_11 : decode bb_P_addOpen 11 = .ok (.aload_n 0, 1) := by decide +kernel
theorem dd_P_addOpen_12 : decode bb_P_addOpen 12 = .ok (.getfield 21, 3) := by decide +kernel
theorem dd_P_addOpen_15 : decode bb_P_addOpen 15 = .ok (.getfield 50, 3) := by decide +kernel
theorem dd_P_addOpen_18 : decode bb_P_addOpen 18 = .ok (.getfield 109, 3) := by decide +kernel
theorem dd_P_addOpen_21 : decode bb_P_addOpen 21 = .ok (.if_icmp .ge 42, 3) := by decide +kernel
theorem dd_P_addOpen_24 : decode bb_P_addOpen 24 = .ok (.iload_n 2, 1) := by decide +kernel
theorem dd_P_addOpen_25 : decode bb_P_addOpen 25 = .ok (.aload_n 0, 1) := by decide +kernel
theorem dd_P_addOpen_26 : decode bb_P_addOpen 26 = .ok (.getfield 21, 3) := by decide +kernel
theorem dd_P_addOpen_29 : decode bb_P_addOpen 29 = .ok (.getfield 50, 3) := by decide +kernel
theorem dd_P_addOpen_32 : decode bb_P_addOpen 32 = .ok (.getfield 130, 3) := by decide +kernel
theorem dd_P_addOpen_35 : decode bb_P_addOpen 35 = .ok (.iload_n 3, 1) := by decide +kernel
theorem dd_P_addOpen_36 : decode bb_P_addOpen 36 = .ok (.iaload, 1) := by decide +kernel
theorem dd_P_addOpen_37 : decode bb_P_addOpen 37 = .ok (.ishr, 1) := by decide +kernel
theorem dd_P_addOpen_38 : decode bb_P_addOpen 38 = .ok (.iconst 1, 1) := by decide +kernel
theorem dd_P_addOpen_39 : decode bb_P_addOpen 39 = .ok (.iand, 1) := by decide +kernel
theorem dd_P_addOpen_40 : decode bb_P_addOpen 40 = .ok (.ifCond .ne 17, 3) := by decide +kernel
theorem dd_P_addOpen_43 : decode bb_P_addOpen 43 = .ok (.aload_n 0, 1) := by decide +kernel
theorem dd_P_addOpen_44 : decode bb_P_addOpen 44 = .ok (.getfield 18, 3) := by decide +kernel
theorem dd_P_addOpen_47 : decode bb_P_addOpen 47 = .ok (.iload_n 1, 1) := by decide +kernel
theorem dd_P_addOpen_48 : decode bb_P_addOpen 48 = .ok (.iconst 4, 1) := by decide +kernel
theorem dd_P_addOpen_49 : decode bb_P_addOpen 49 = .ok (.imul, 1) := by decide +kernel
theorem dd_P_addOpen_50 : decode bb_P_addOpen 50 = .ok (.iload_n 3, 1) := by decide +kernel
theorem dd_P_addOpen_51 : decode bb_P_addOpen 51 = .ok (.iadd, 1) := by decide +kernel
theorem dd_P_addOpen_52 : decode bb_P_addOpen 52 = .ok (.dup2, 1) := by decide +kernel
theorem dd_P_addOpen_53 : decode bb_P_addOpen 53 = .ok (.iaload, 1) := by decide +kernel
theorem dd_P_addOpen_54 : decode bb_P_addOpen 54 = .ok (.iconst 2, 1) := by decide +kernel
theorem dd_P_addOpen_55 : decode bb_P_addOpen 55 = .ok (.iadd, 1) := by decide +kernel
theorem dd_P_addOpen_56 : decode bb_P_addOpen 56 = .ok (.iastore, 1) := by decide +kernel
theorem dd_P_addOpen_57 : decode bb_P_addOpen 57 = .ok (.iinc 3 1, 3) := by decide +kernel
theorem dd_P_addOpen_60 : decode bb_P_addOpen 60 = .ok (.goto (-50), 3) := by decide +kernel
theorem dd_P_addOpen_63 : decode bb_P_addOpen 63 = .ok (.return_, 1) := by decide +kernel
def mm_P_addOpen_j57 (N : Nat) (this : Option Nat) (a1 : Int32) (v2 : Int32) (x3_57 : Int32) (h_57 : ss_Hp) : Option ((Int32 × ss_Hp) ⊕ ss_Hp) :=
  (some (x3_57 + (1 : Int32))).bind fun v3 =>
  some (.inl (v3, h_57))
def mm_P_addOpen_b10 (N : Nat) (this : Option Nat) (a1 : Int32) (v2 : Int32) (st : Int32 × ss_Hp) : Option ((Int32 × ss_Hp) ⊕ ss_Hp) :=
  match st with
  | (x3_10, h_10) =>
    (ss_gr h_10 this 10 0).bind fun r4 =>
    (ss_gr h_10 r4 8 0).bind fun r5 =>
    (ss_gi h_10 r5 5 4).bind fun v6 =>
    if v6 ≤ x3_10 then
      some (.inr h_10)
    else
      (ss_gr h_10 this 10 0).bind fun r8 =>
      (ss_gr h_10 r8 8 0).bind fun r9 =>
      (ss_gr h_10 r9 5 0).bind fun r10 =>
      (ss_ai h_10 r10 20 x3_10).bind fun v11 =>
      if ((v2 >>> (v11 &&& 31)) &&& (1 : Int32)) = 0 then
        (ss_gr h_10 this 10 4).bind fun r13 =>
        (some ((a1 * (4 : Int32)) + x3_10)).bind fun v14 =>
        (ss_ai h_10 r13 20 v14).bind fun v15 =>
        (ss_ui h_10 r13 20 v14 (v15 + (2 : Int32))).bind fun h16 =>
        mm_P_addOpen_j57 N this a1 v2 x3_10 h16
      else
        mm_P_addOpen_j57 N this a1 v2 x3_10 h_10
def mm_P_addOpen (N : Nat) (this : Option Nat) (a1 : Int32) (h : ss_Hp) : Option ss_Hp :=
  if ss_is h this 10 = true then
    (ss_gr h this 10 1).bind fun r1 =>
    (mm_Wi_closedBits N r1 h).bind fun v2 =>
    (ss_lp (mm_P_addOpen_b10 N this a1 v2) N ((0 : Int32), h)).bind fun h_10_63 =>
    some h_10_63
  else none
abbrev ww_P_addOpen (p : Program) (l : Launch) (e : Env) (s : State) (m : MethodId) (below : List Frame) (meth : Method) (c : Code) (G : ss_G) (this : Option Nat) (a1 : Int32) (h : ss_Hp) (hh : ss_Hp) (H : Heap) (locs : List Loc) (k n : Nat) (g : JFrame) : Prop := W p l e (headSpec (ss_w yy_P_addOpen bb_P_addOpen 4 none) ({ frames := 2, cells := 0, slots := 0, locals := 43 })).room s m ([ss_v (ss_b G) this, .int a1] : List Value).toArray below meth c H locs k n (MQ below (ss_Qc G none hh) ([ss_v (ss_b G) this, .int a1] : List Value).toArray s 0 0 (ss_A G)) g
theorem ck_P_addOpen {N : Nat} {this : Option Nat} {a1 : Int32} {h : ss_Hp} {res : ss_Hp} (hm : mm_P_addOpen N this a1 h = some res) : ss_is h this 10 = true := (ss_chk hm).1
set_option maxHeartbeats 4000000 in
set_option maxRecDepth 100000 in
theorem cc_P_addOpen (l : Launch) (G : ss_G) (N : Nat) (this : Option Nat) (a1 : Int32) (h : ss_Hp) (hh : ss_Hp) (hm : mm_P_addOpen N this a1 h = some hh) : ss_Ct l G yy_P_addOpen bb_P_addOpen 4 none ({ frames := 2, cells := 0, slots := 0, locals := 43 }) [ss_v (ss_b G) this, .int a1] h none hh := by
  obtain ⟨hck, hm⟩ := ss_chk hm
  refine Met.ofW (cc := bb_P_addOpen) (maxL := 4) (ret := none) (by decide) rfl ?_
  intro p e s m args below meth c s₁ B hml hv
  obtain ⟨rfl, hR, hK⟩ := hv
  have hC : CallFix p m c bb_P_addOpen 4 s _ lw_g sR_10 := ⟨B.exec, B.bytes, hml, findClass_of_methodNamed B.named, fun w hw => atoms_spec (ws := ss_w yy_P_addOpen bb_P_addOpen 4 none) B.pre w (List.mem_cons_of_mem _ hw)⟩
  have hx := hC.1
  have hb := hC.2.1
  have hr := B.returns
  have hlocks := B.notSynchronized
  have hS : va_S (ss_A G) s.heap s.heap [] := va_S.rf
  have hl := lv_entry ([ss_v (ss_b G) this, .int a1]) (n := 4) (by simp [lg_sl, ss_v_cat, ss_cat_i, ss_cat_l, ss_cat_r])
  rw [lg_entry_eq]
  generalize (lg_sl ([ss_v (ss_b G) this, .int a1]) ++ List.replicate (4 - (lg_sl ([ss_v (ss_b G) this, .int a1])).length) Slot.unset).toArray = ls at hl ⊢
  have hl : lv_has ls 4 [(0, ss_v (ss_b G) this), (1, .int a1)] := by simpa [lv_args, ss_v_cat, ss_cat_i, ss_cat_l, ss_cat_r] using hl
  refine ss_aload_n hx hb dd_P_addOpen_0 rfl (lv_at hl 0 rfl) ?_
  obtain ⟨r1, qr1, hm⟩ := ss_bind hm
  refine ss_getr hC hK hR kf_P_25 rfl qr1 dd_P_addOpen_1 ?_
  obtain ⟨v2, qv2, hm⟩ := ss_bind hm
  refine ss_cV 0 0 (As := []) hC hK hR hS hl.1 (cc_Wi_closedBits l G N _ _ _ qv2) km_P_137 (ck_Wi_closedBits qv2) ⟨Nat.le_of_ble_eq_true rfl, Nat.le_of_ble_eq_true rfl⟩ ⟨Nat.le_of_ble_eq_true rfl, Nat.le_of_ble_eq_true rfl, Nat.le_of_ble_eq_true rfl, Nat.le_of_ble_eq_true rfl⟩ rfl rfl (Nat.le_of_ble_eq_true rfl) dd_P_addOpen_4 (fun H locs hR hS => ?_)
  refine lv_istore_n (lv' := [(2, .int v2), (0, ss_v (ss_b G) this), (1, .int a1)]) hx hb dd_P_addOpen_7 rfl hl (by decide) rfl (fun ls hl => ?_)
  refine lv_iconst (v := 0) hx hb dd_P_addOpen_8 (by decide) ?_
  refine lv_istore_n (lv' := [(3, .int (0 : Int32)), (2, .int v2), (0, ss_v (ss_b G) this), (1, .int a1)]) hx hb dd_P_addOpen_9 rfl hl (by decide) rfl (fun ls hl => ?_)
  obtain ⟨e_10, he_10, hm⟩ := ss_bind hm
  have X_10_63 : ∀  (h_10_63 : ss_Hp) (H : Heap) (locs : List Loc) (ls : Array Slot), e_10 = h_10_63 → ss_R G h_10_63 H → va_S (ss_A G) s.heap H locs → lv_has ls 4 [] → ww_P_addOpen p l e s m below meth c G this a1 h hh  H locs 0 0 (F0 m 63 ls []) := by
    intro h_10_63 H locs ls hq hR hS hl
    rw [hq] at hm
    exact ss_vret hC hr hlocks hR hS hm dd_P_addOpen_63
  have L_10 : ∀ (n : Nat) (x3_10 : Int32) (h_10 : ss_Hp) (H : Heap) (locs : List Loc) (ls : Array Slot), ss_lp (mm_P_addOpen_b10 N this a1 v2) n (x3_10, h_10) = some e_10 → ss_R G h_10 H → va_S (ss_A G) s.heap H locs → lv_has ls 4 [(0, ss_v (ss_b G) this), (1, .int a1), (2, .int v2), (3, .int x3_10)] → ww_P_addOpen p l e s m below meth c G this a1 h hh  H locs 0 0 (F0 m 10 ls []) := by
    intro n
    induction n with
    | zero => intro x3_10 h_10 H locs ls hm; cases hm
    | succ n ih_10 =>
      intro x3_10 h_10 H locs ls hm hR hS hl
      obtain ⟨z_10, hm, hz1_10, hz2_10⟩ := ss_lps hm
      have J_57 : ∀ (x3_57 : Int32) (h_57 : ss_Hp) (H : Heap) (locs : List Loc) (ls : Array Slot), mm_P_addOpen_j57 N this a1 v2 x3_57 h_57 = some z_10 → ss_R G h_57 H → va_S (ss_A G) s.heap H locs → lv_has ls 4 [(0, ss_v (ss_b G) this), (1, .int a1), (2, .int v2), (3, .int x3_57)] → ww_P_addOpen p l e s m below meth c G this a1 h hh  H locs 0 0 (F0 m 57 ls []) := by
        intro x3_57 h_57 H locs ls hm hR hS hl
        obtain ⟨v3, qv3, hm⟩ := ss_bind hm
        refine lv_iinc (v := v3) (lv' := [(3, .int v3), (0, ss_v (ss_b G) this), (1, .int a1), (2, .int v2)]) hx hb dd_P_addOpen_57 hl (k := 3) rfl (ss_inc (by decide) qv3) (by decide) rfl (fun ls hl => ?_)
        refine lv_goto (tgt := 10) hx hb dd_P_addOpen_60 (by decide) ?_
        exact ih_10 v3 h_57 _ _ _ (hz1_10 _ (ss_some hm)) hR hS (lv_sub hl [1, 2, 3, 0] rfl)
      refine lv_iload_n hx hb dd_P_addOpen_10 rfl (lv_at hl 3 rfl) ?_
      refine ss_aload_n hx hb dd_P_addOpen_11 rfl (lv_at hl 0 rfl) ?_
      obtain ⟨r4, qr4, hm⟩ := ss_bind hm
      refine ss_getr hC hK hR kf_P_21 rfl qr4 dd_P_addOpen_12 ?_
      obtain ⟨r5, qr5, hm⟩ := ss_bind hm
      refine ss_getr hC hK hR kf_P_50 rfl qr5 dd_P_addOpen_15 ?_
      obtain ⟨v6, qv6, hm⟩ := ss_bind hm
      refine ss_geti hC hK hR kf_P_109 qv6 dd_P_addOpen_18 ?_
      refine lv_icmp_ge (tgt := 63) hx hb dd_P_addOpen_21 (by decide) (fun c7 => ?_) (fun c7 => ?_)
      · have hm := ss_ift hm c7
        exact X_10_63 h_10 _ _ _ (hz2_10 _ (ss_some hm)) hR hS (lv_sub hl [] rfl)
      · have hm := ss_iff hm c7
        refine lv_iload_n hx hb dd_P_addOpen_24 rfl (lv_at hl 2 rfl) ?_
        refine ss_aload_n hx hb dd_P_addOpen_25 rfl (lv_at hl 0 rfl) ?_
        obtain ⟨r8, qr8, hm⟩ := ss_bind hm
        refine ss_getr hC hK hR kf_P_21 rfl qr8 dd_P_addOpen_26 ?_
        obtain ⟨r9, qr9, hm⟩ := ss_bind hm
        refine ss_getr hC hK hR kf_P_50 rfl qr9 dd_P_addOpen_29 ?_
        obtain ⟨r10, qr10, hm⟩ := ss_bind hm
        refine ss_getr hC hK hR kf_P_130 rfl qr10 dd_P_addOpen_32 ?_
        refine lv_iload_n hx hb dd_P_addOpen_35 rfl (lv_at hl 3 rfl) ?_
        obtain ⟨v11, qv11, hm⟩ := ss_bind hm
        refine ss_iald hC hK hR qv11 dd_P_addOpen_36 ?_
        refine lv_ishr hx hb dd_P_addOpen_37 ?_
        refine lv_iconst (v := 1) hx hb dd_P_addOpen_38 (by decide) ?_
        refine lv_iand hx hb dd_P_addOpen_39 ?_
        refine lv_if_ne (tgt := 57) hx hb dd_P_addOpen_40 (by decide) (fun c12 => ?_) (fun c12 => ?_)
        · have hm := ss_iff hm c12
          exact J_57 x3_10 h_10 _ _ _ hm hR hS hl
        · have hm := ss_ift hm c12
          refine ss_aload_n hx hb dd_P_addOpen_43 rfl (lv_at hl 0 rfl) ?_
          obtain ⟨r13, qr13, hm⟩ := ss_bind hm
          refine ss_getr hC hK hR kf_P_18 rfl qr13 dd_P_addOpen_44 ?_
          refine lv_iload_n hx hb dd_P_addOpen_47 rfl (lv_at hl 1 rfl) ?_
          refine lv_iconst (v := 4) hx hb dd_P_addOpen_48 (by decide) ?_
          refine lv_imul hx hb dd_P_addOpen_49 ?_
          refine lv_iload_n hx hb dd_P_addOpen_50 rfl (lv_at hl 3 rfl) ?_
          refine lv_iadd hx hb dd_P_addOpen_51 ?_
          obtain ⟨v14, qv14, hm⟩ := ss_bind hm
          refine ss_topi qv14 ?_
          refine ss_dup2ir hx hb dd_P_addOpen_52 ?_
          obtain ⟨v15, qv15, hm⟩ := ss_bind hm
          refine ss_iald hC hK hR qv15 dd_P_addOpen_53 ?_
          refine lv_iconst (v := 2) hx hb dd_P_addOpen_54 (by decide) ?_
          refine lv_iadd hx hb dd_P_addOpen_55 ?_
          obtain ⟨h16, qh16, hm⟩ := ss_bind hm
          refine ss_iast hC hK hR hS qh16 dd_P_addOpen_56 (fun H locs hR hS => ?_)
          exact J_57 x3_10 h16 _ _ _ hm hR hS hl
  exact L_10 N (0 : Int32) h _ _ _ he_10 hR hS (lv_sub hl [2, 3, 1, 0] rfl)
theorem dd_P_weighSets_0 : decode bb_P_weighSets 0 = .ok (.iconst 0, 1) := by decide +kernel
theorem dd_P_weighSets_1 : decode bb_P_weighSets 1 = .ok (.istore_n 2, 1) := by decide +kernel
theorem dd_P_weighSets_2 : decode bb_P_weighSets 2 = .ok (.iload_n 2, 1) := by decide +kernel
theorem dd_P_weighSets_3 : decode bb_P_weighSets 3 = .ok (.aload_n 0, 1) := by decide +kernel
theorem dd_P_weighSets_4 : decode bb_P_weighSets 4 = .ok (.invokevirtual 112, 3) := by decide +kernel
theorem dd_P_weighSets_7 : decode bb_P_weighSets 7 = .ok (.if_icmp .ge 79, 3) := by decide +kernel
theorem dd_P_weighSets_10 : decode bb_P_weighSets 10 = .ok (.iconst 0, 1) := by decide +kernel
theorem dd_P_weighSets_11 : decode bb_P_weighSets 11 = .ok (.istore_n 3, 1) := by decide +kernel
theorem dd_P_weighSets_12 : decode bb_P_weighSets 12 = .ok (.iload_n 3, 1) := by decide +kernel
theorem dd_P_weighSets_13 : decode bb_P_weighSets 13 = .ok (.iconst 4, 1) := by decide +kernel
theorem dd_P_weighSets_14 : decode bb_P_weighSets 14 = .ok (.if_icmp .ge 20, 3) := by decide +kernel
theorem dd_P_weighSets_17 : decode bb_P_weighSets 17 = .ok (.aload_n 0, 1) := by decide +kernel
theorem dd_P_weighSets_18 : decode bb_P_weighSets 18 = .ok (.getfield 18, 3) := by decide +kernel
theorem dd_P_weighSets_21 : decode bb_P_weighSets 21 = .ok (.iload_n 2, 1) := by decide +kernel
theorem dd_P_weighSets_22 : decode bb_P_weighSets 22 = .ok (.iconst 4, 1) := by decide +kernel
theorem dd_P_weighSets_23 : decode bb_P_weighSets 23 = .ok (.imul, 1) := by decide +kernel
theorem dd_P_weighSets_24 : decode bb_P_weighSets 24 = .ok (.iload_n 3, 1) := by decide +kernel
theorem dd_P_weighSets_25 : decode bb_P_weighSets 25 = .ok (.iadd, 1) := by decide +kernel
theorem dd_P_weighSets_26 : decode bb_P_weighSets 26 = .ok (.iconst 0, 1) := by decide +kernel
theorem dd_P_weighSets_27 : decode bb_P_weighSets 27 = .ok (.iastore, 1) := by decide +kernel
theorem dd_P_weighSets_28 : decode bb_P_weighSets 28 = .ok (.iinc 3 1, 3) := by decide +kernel
theorem dd_P_weighSets_31 : decode bb_P_weighSets 31 = .ok (.goto (-19), 3) := by decide +kernel
theorem dd_P_weighSets_34 : decode bb_P_weighSets 34 = .ok (.aload_n 0, 1) := by decide +kernel
theorem dd_P_weighSets_35 : decode bb_P_weighSets 35 = .ok (.getfield 25, 3) := by decide +kernel
theorem dd_P_weighSets_38 : decode bb_P_weighSets 38 = .ok (.aconst_null, 1) := by decide +kernel
theorem dd_P_weighSets_39 : decode bb_P_weighSets 39 = .ok (.aload_n 0, 1) := by decide +kernel
theorem dd_P_weighSets_40 : decode bb_P_weighSets 40 = .ok (.getfield 21, 3) := by decide +kernel
theorem dd_P_weighSets_43 : decode bb_P_weighSets 43 = .ok (.getfield 39, 3) := by decide +kernel
theorem dd_P_weighSets_46 : decode bb_P_weighSets 46 = .ok (.invokevirtual 115, 3) := by decide +kernel
theorem dd_P_weighSets_49 : decode bb_P_weighSets 49 = .ok (.iconst 0, 1) := by decide +kernel
theorem dd_P_weighSets_50 : decode bb_P_weighSets 50 = .ok (.istore_n 3, 1) := by decide +kernel
theorem dd_P_weighSets_51 : decode bb_P_weighSets 51 = .ok (.iload_n 3, 1) := by decide +kernel
theorem dd_P_weighSets_52 : decode bb_P_weighSets 52 = .ok (.iload_n 1, 1) := by decide +kernel
theorem dd_P_weighSets_53 : decode bb_P_weighSets 53 = .ok (.if_icmp .ge 27, 3) := by decide +kernel
theorem dd_P_weighSets_56 : decode bb_P_weighSets 56 = .ok (.aload_n 0, 1) := by decide +kernel
theorem dd_P_weighSets_57 : decode bb_P_weighSets 57 = .ok (.iload_n 2, 1) := by decide +kernel
theorem dd_P_weighSets_58 : decode bb_P_weighSets 58 = .ok (.invokevirtual 121, 3) := by decide +kernel
theorem dd_P_weighSets_61 : decode bb_P_weighSets 61 = .ok (.aload_n 0, 1) := by decide +kernel
theorem dd_P_weighSets_62 : decode bb_P_weighSets 62 = .ok (.getfield 25, 3) := by decide +kernel
theorem dd_P_weighSets_65 : decode bb_P_weighSets 65 = .ok (.invokevirtual 124, 3) := by decide +kernel
theorem dd_P_weighSets_68 : decode bb_P_weighSets 68 = .ok (.pop, 1) := by decide +kernel
theorem dd_P_weighSets_69 : decode bb_P_weighSets 69 = .ok (.aload_n 0, 1) := by decide +kernel
theorem dd_P_weighSets_70 : decode bb_P_weighSets 70 = .ok (.iload_n 2, 1) := by decide +kernel
theorem dd_P_weighSets_71 : decode bb_P_weighSets 71 = .ok (.invokevirtual 127, 3) := by decide +kernel
theorem dd_P_weighSets_74 : decode bb_P_weighSets 74 = .ok (.iinc 3 1, 3) := by decide +kernel
theorem dd_P_weighSets_77 : decode bb_P_weighSets 77 = .ok (.goto (-26), 3) := by decide +kernel
theorem dd_P_weighSets_80 : decode bb_P_weighSets 80 = .ok (.iinc 2 1, 3) := by decide +kernel
theorem dd_P_weighSets_83 : decode bb_P_weighSets 83 = .ok (.goto (-81), 3) := by decide +kernel
theorem dd_P_weighSets_86 : decode bb_P_weighSets 86 = .ok (.return_, 1) := by decide +kernel
def mm_P_weighSets_b51 (N : Nat) (this : Option Nat) (a1 : Int32) (x2_2 : Int32) (st : Int32 × ss_Hp) : Option ((Int32 × ss_Hp) ⊕ ss_Hp) :=
  match st with
  | (x3_51, h_51) =>
    if a1 ≤ x3_51 then
      some (.inr h_51)
    else
      (mm_P_sweepAsAgreed N this x2_2 h_51).bind fun h9 =>
      (ss_gr h9 this 10 1).bind fun r10 =>
      ss_b2 (mm_Wi_passNight N r10 h9) fun v11 h12 =>
      (mm_P_addOpen N this x2_2 h12).bind fun h13 =>
      (some (x3_51 + (1 : Int32))).bind fun v14 =>
      some (.inl (v14, h13))
def mm_P_weighSets_b12 (N : Nat) (this : Option Nat) (a1 : Int32) (x2_2 : Int32) (st : Int32 × ss_Hp) : Option ((Int32 × ss_Hp) ⊕ ss_Hp) :=
  match st with
  | (x3_12, h_12) =>
    if (4 : Int32) ≤ x3_12 then
      some (.inr h_12)
    else
      (ss_gr h_12 this 10 4).bind fun r16 =>
      (ss_ui h_12 r16 20 ((x2_2 * (4 : Int32)) + x3_12) (0 : Int32)).bind fun h17 =>
      (some (x3_12 + (1 : Int32))).bind fun v18 =>
      some (.inl (v18, h17))
def mm_P_weighSets_b2 (N : Nat) (this : Option Nat) (a1 : Int32) (st : Int32 × ss_Hp) : Option ((Int32 × ss_Hp) ⊕ ss_Hp) :=
  match st with
  | (x2_2, h_2) =>
    (mm_P_setCount N this h_2).bind fun v1 =>
    if v1 ≤ x2_2 then
      some (.inr h_2)
    else
      (ss_lp (mm_P_weighSets_b12 N this a1 x2_2) N ((0 : Int32), h_2)).bind fun h_12_34 =>
      (ss_gr h_12_34 this 10 1).bind fun r3 =>
      (ss_gr h_12_34 this 10 0).bind fun r4 =>
      (ss_gr h_12_34 r4 8 1).bind fun r5 =>
      (mm_Wi_begin N r3 none r5 h_12_34).bind fun h6 =>
      (ss_lp (mm_P_weighSets_b51 N this a1 x2_2) N ((0 : Int32), h6)).bind fun h_51_80 =>
      (some (x2_2 + (1 : Int32))).bind fun v7 =>
      some (.inl (v7, h_51_80))
def mm_P_weighSets (N : Nat) (this : Option Nat) (a1 : Int32) (h : ss_Hp) : Option ss_Hp :=
  if ss_is h this 10 = true then
    (ss_lp (mm_P_weighSets_b2 N this a1) N ((0 : Int32), h)).bind fun h_2_86 =>
    some h_2_86
  else none
abbrev ww_P_weighSets (p : Program) (l : Launch) (e : Env) (s : State) (m : MethodId) (below : List Frame) (meth : Method) (c : Code) (G : ss_G) (this : Option Nat) (a1 : Int32) (h : ss_Hp) (hh : ss_Hp) (H : Heap) (locs : List Loc) (k n : Nat) (g : JFrame) : Prop := W p l e (headSpec (ss_w yy_P_weighSets bb_P_weighSets 4 none) ({ frames := 4, cells := 0, slots := 0, locals := 149 })).room s m ([ss_v (ss_b G) this, .int a1] : List Value).toArray below meth c H locs k n (MQ below (ss_Qc G none hh) ([ss_v (ss_b G) this, .int a1] : List Value).toArray s 0 0 (ss_A G)) g
theorem ck_P_weighSets {N : Nat} {this : Option Nat} {a1 : Int32} {h : ss_Hp} {res : ss_Hp} (hm : mm_P_weighSets N this a1 h = some res) : ss_is h this 10 = true := (ss_chk hm).1
set_option maxHeartbeats 4000000 in
set_option maxRecDepth 100000 in
theorem cc_P_weighSets (l : Launch) (G : ss_G) (N : Nat) (this : Option Nat) (a1 : Int32) (h : ss_Hp) (hh : ss_Hp) (hm : mm_P_weighSets N this a1 h = some hh) : ss_Ct l G yy_P_weighSets bb_P_weighSets 4 none ({ frames := 4, cells := 0, slots := 0, locals := 149 }) [ss_v (ss_b G) this, .int a1] h none hh := by
  obtain ⟨hck, hm⟩ := ss_chk hm
  refine Met.ofW (cc := bb_P_weighSets) (maxL := 4) (ret := none) (by decide) rfl ?_
  intro p e s m args below meth c s₁ B hml hv
  obtain ⟨rfl, hR, hK⟩ := hv
  have hC : CallFix p m c bb_P_weighSets 4 s _ lw_g sR_10 := ⟨B.exec, B.bytes, hml, findClass_of_methodNamed B.named, fun w hw => atoms_spec (ws := ss_w yy_P_weighSets bb_P_weighSets 4 none) B.pre w (List.mem_cons_of_mem _ hw)⟩
  have hx := hC.1
  have hb := hC.2.1
  have hr := B.returns
  have hlocks := B.notSynchronized
  have hS : va_S (ss_A G) s.heap s.heap [] := va_S.rf
  have hl := lv_entry ([ss_v (ss_b G) this, .int a1]) (n := 4) (by simp [lg_sl, ss_v_cat, ss_cat_i, ss_cat_l, ss_cat_r])
  rw [lg_entry_eq]
  generalize (lg_sl ([ss_v (ss_b G) this, .int a1]) ++ List.replicate (4 - (lg_sl ([ss_v (ss_b G) this, .int a1])).length) Slot.unset).toArray = ls at hl ⊢
  have hl : lv_has ls 4 [(0, ss_v (ss_b G) this), (1, .int a1)] := by simpa [lv_args, ss_v_cat, ss_cat_i, ss_cat_l, ss_cat_r] using hl
  refine lv_iconst (v := 0) hx hb dd_P_weighSets_0 (by decide) ?_
  refine lv_istore_n (lv' := [(2, .int (0 : Int32)), (0, ss_v (ss_b G) this), (1, .int a1)]) hx hb dd_P_weighSets_1 rfl hl (by decide) rfl (fun ls hl => ?_)
  obtain ⟨e_2, he_2, hm⟩ := ss_bind hm
  have X_2_86 : ∀  (h_2_86 : ss_Hp) (H : Heap) (locs : List Loc) (ls : Array Slot), e_2 = h_2_86 → ss_R G h_2_86 H → va_S (ss_A G) s.heap H locs → lv_has ls 4 [] → ww_P_weighSets p l e s m below meth c G this a1 h hh  H locs 0 0 (F0 m 86 ls []) := by
    intro h_2_86 H locs ls hq hR hS hl
    rw [hq] at hm
    exact ss_vret hC hr hlocks hR hS hm dd_P_weighSets_86
  have L_2 : ∀ (n : Nat) (x2_2 : Int32) (h_2 : ss_Hp) (H : Heap) (locs : List Loc) (ls : Array Slot), ss_lp (mm_P_weighSets_b2 N this a1) n (x2_2, h_2) = some e_2 → ss_R G h_2 H → va_S (ss_A G) s.heap H locs → lv_has ls 4 [(0, ss_v (ss_b G) this), (1, .int a1), (2, .int x2_2)] → ww_P_weighSets p l e s m below meth c G this a1 h hh  H locs 0 0 (F0 m 2 ls []) := by
    intro n
    induction n with
    | zero => intro x2_2 h_2 H locs ls hm; cases hm
    | succ n ih_2 =>
      intro x2_2 h_2 H locs ls hm hR hS hl
      obtain ⟨z_2, hm, hz1_2, hz2_2⟩ := ss_lps hm
      refine lv_iload_n hx hb dd_P_weighSets_2 rfl (lv_at hl 2 rfl) ?_
      refine ss_aload_n hx hb dd_P_weighSets_3 rfl (lv_at hl 0 rfl) ?_
      obtain ⟨v1, qv1, hm⟩ := ss_bind hm
      refine ss_cV 0 0 (As := []) hC hK hR hS hl.1 (cc_P_setCount l G N _ _ _ qv1) km_P_112 (ck_P_setCount qv1) ⟨Nat.le_of_ble_eq_true rfl, Nat.le_of_ble_eq_true rfl⟩ ⟨Nat.le_of_ble_eq_true rfl, Nat.le_of_ble_eq_true rfl, Nat.le_of_ble_eq_true rfl, Nat.le_of_ble_eq_true rfl⟩ rfl rfl (Nat.le_of_ble_eq_true rfl) dd_P_weighSets_4 (fun H locs hR hS => ?_)
      refine lv_icmp_ge (tgt := 86) hx hb dd_P_weighSets_7 (by decide) (fun c2 => ?_) (fun c2 => ?_)
      · have hm := ss_ift hm c2
        exact X_2_86 h_2 _ _ _ (hz2_2 _ (ss_some hm)) hR hS (lv_sub hl [] rfl)
      · have hm := ss_iff hm c2
        refine lv_iconst (v := 0) hx hb dd_P_weighSets_10 (by decide) ?_
        refine lv_istore_n (lv' := [(3, .int (0 : Int32)), (0, ss_v (ss_b G) this), (1, .int a1), (2, .int x2_2)]) hx hb dd_P_weighSets_11 rfl hl (by decide) rfl (fun ls hl => ?_)
        obtain ⟨e_12, he_12, hm⟩ := ss_bind hm
        have X_12_34 : ∀  (h_12_34 : ss_Hp) (H : Heap) (locs : List Loc) (ls : Array Slot), e_12 = h_12_34 → ss_R G h_12_34 H → va_S (ss_A G) s.heap H locs → lv_has ls 4 [(0, ss_v (ss_b G) this), (1, .int a1), (2, .int x2_2)] → ww_P_weighSets p l e s m below meth c G this a1 h hh  H locs 0 0 (F0 m 34 ls []) := by
          intro h_12_34 H locs ls hq hR hS hl
          rw [hq] at hm
          refine ss_aload_n hx hb dd_P_weighSets_34 rfl (lv_at hl 0 rfl) ?_
          obtain ⟨r3, qr3, hm⟩ := ss_bind hm
          refine ss_getr hC hK hR kf_P_25 rfl qr3 dd_P_weighSets_35 ?_
          refine ss_null hx hb (ss_b G) dd_P_weighSets_38 ?_
          refine ss_aload_n hx hb dd_P_weighSets_39 rfl (lv_at hl 0 rfl) ?_
          obtain ⟨r4, qr4, hm⟩ := ss_bind hm
          refine ss_getr hC hK hR kf_P_21 rfl qr4 dd_P_weighSets_40 ?_
          obtain ⟨r5, qr5, hm⟩ := ss_bind hm
          refine ss_getr hC hK hR kf_P_39 rfl qr5 dd_P_weighSets_43 ?_
          obtain ⟨h6, qh6, hm⟩ := ss_bind hm
          refine ss_cVv 0 0 (As := [ss_v (ss_b G) none, ss_v (ss_b G) r5]) hC hK hR hS hl.1 (cc_Wi_begin l G N _ _ _ _ _ qh6) km_P_115 (ck_Wi_begin qh6) ⟨Nat.le_of_ble_eq_true rfl, Nat.le_of_ble_eq_true rfl⟩ ⟨Nat.le_of_ble_eq_true rfl, Nat.le_of_ble_eq_true rfl, Nat.le_of_ble_eq_true rfl, Nat.le_of_ble_eq_true rfl⟩ rfl rfl (Nat.le_of_ble_eq_true rfl) dd_P_weighSets_46 (fun H locs hR hS => ?_)
          refine lv_iconst (v := 0) hx hb dd_P_weighSets_49 (by decide) ?_
          refine lv_istore_n (lv' := [(3, .int (0 : Int32)), (0, ss_v (ss_b G) this), (1, .int a1), (2, .int x2_2)]) hx hb dd_P_weighSets_50 rfl hl (by decide) rfl (fun ls hl => ?_)
          obtain ⟨e_51, he_51, hm⟩ := ss_bind hm
          have X_51_80 : ∀  (h_51_80 : ss_Hp) (H : Heap) (locs : List Loc) (ls : Array Slot), e_51 = h_51_80 → ss_R G h_51_80 H → va_S (ss_A G) s.heap H locs → lv_has ls 4 [(0, ss_v (ss_b G) this), (1, .int a1), (2, .int x2_2)] → ww_P_weighSets p l e s m below meth c G this a1 h hh  H locs 0 0 (F0 m 80 ls []) := by
            intro h_51_80 H locs ls hq hR hS hl
            rw [hq] at hm
            obtain ⟨v7, qv7, hm⟩ := ss_bind hm
            refine lv_iinc (v := v7) (lv' := [(2, .int v7), (0, ss_v (ss_b G) this), (1, .int a1)]) hx hb dd_P_weighSets_80 hl (k := 2) rfl (ss_inc (by decide) qv7) (by decide) rfl (fun ls hl => ?_)
            refine lv_goto (tgt := 2) hx hb dd_P_weighSets_83 (by decide) ?_
            exact ih_2 v7 h_51_80 _ _ _ (hz1_2 _ (ss_some hm)) hR hS (lv_sub hl [1, 2, 0] rfl)
          have L_51 : ∀ (n : Nat) (x3_51 : Int32) (h_51 : ss_Hp) (H : Heap) (locs : List Loc) (ls : Array Slot), ss_lp (mm_P_weighSets_b51 N this a1 x2_2) n (x3_51, h_51) = some e_51 → ss_R G h_51 H → va_S (ss_A G) s.heap H locs → lv_has ls 4 [(0, ss_v (ss_b G) this), (1, .int a1), (2, .int x2_2), (3, .int x3_51)] → ww_P_weighSets p l e s m below meth c G this a1 h hh  H locs 0 0 (F0 m 51 ls []) := by
            intro n
            induction n with
            | zero => intro x3_51 h_51 H locs ls hm; cases hm
            | succ n ih_51 =>
              intro x3_51 h_51 H locs ls hm hR hS hl
              obtain ⟨z_51, hm, hz1_51, hz2_51⟩ := ss_lps hm
              refine lv_iload_n hx hb dd_P_weighSets_51 rfl (lv_at hl 3 rfl) ?_
              refine lv_iload_n hx hb dd_P_weighSets_52 rfl (lv_at hl 1 rfl) ?_
              refine lv_icmp_ge (tgt := 80) hx hb dd_P_weighSets_53 (by decide) (fun c8 => ?_) (fun c8 => ?_)
              · have hm := ss_ift hm c8
                exact X_51_80 h_51 _ _ _ (hz2_51 _ (ss_some hm)) hR hS (lv_sub hl [0, 1, 2] rfl)
              · have hm := ss_iff hm c8
                refine ss_aload_n hx hb dd_P_weighSets_56 rfl (lv_at hl 0 rfl) ?_
                refine lv_iload_n hx hb dd_P_weighSets_57 rfl (lv_at hl 2 rfl) ?_
                obtain ⟨h9, qh9, hm⟩ := ss_bind hm
                refine ss_cVv 0 0 (As := [.int x2_2]) hC hK hR hS hl.1 (cc_P_sweepAsAgreed l G N _ _ _ _ qh9) km_P_121 (ck_P_sweepAsAgreed qh9) ⟨Nat.le_of_ble_eq_true rfl, Nat.le_of_ble_eq_true rfl⟩ ⟨Nat.le_of_ble_eq_true rfl, Nat.le_of_ble_eq_true rfl, Nat.le_of_ble_eq_true rfl, Nat.le_of_ble_eq_true rfl⟩ rfl rfl (Nat.le_of_ble_eq_true rfl) dd_P_weighSets_58 (fun H locs hR hS => ?_)
                refine ss_aload_n hx hb dd_P_weighSets_61 rfl (lv_at hl 0 rfl) ?_
                obtain ⟨r10, qr10, hm⟩ := ss_bind hm
                refine ss_getr hC hK hR kf_P_25 rfl qr10 dd_P_weighSets_62 ?_
                obtain ⟨v11, h12, qh12, hm⟩ := ss_bind2 hm
                refine ss_cV 0 0 (As := []) hC hK hR hS hl.1 (cc_Wi_passNight l G N _ _ _ _ qh12) km_P_124 (ck_Wi_passNight qh12) ⟨Nat.le_of_ble_eq_true rfl, Nat.le_of_ble_eq_true rfl⟩ ⟨Nat.le_of_ble_eq_true rfl, Nat.le_of_ble_eq_true rfl, Nat.le_of_ble_eq_true rfl, Nat.le_of_ble_eq_true rfl⟩ rfl rfl (Nat.le_of_ble_eq_true rfl) dd_P_weighSets_65 (fun H locs hR hS => ?_)
                refine lv_pop hx hb dd_P_weighSets_68 rfl ?_
                refine ss_aload_n hx hb dd_P_weighSets_69 rfl (lv_at hl 0 rfl) ?_
                refine lv_iload_n hx hb dd_P_weighSets_70 rfl (lv_at hl 2 rfl) ?_
                obtain ⟨h13, qh13, hm⟩ := ss_bind hm
                refine ss_cVv 0 0 (As := [.int x2_2]) hC hK hR hS hl.1 (cc_P_addOpen l G N _ _ _ _ qh13) km_P_127 (ck_P_addOpen qh13) ⟨Nat.le_of_ble_eq_true rfl, Nat.le_of_ble_eq_true rfl⟩ ⟨Nat.le_of_ble_eq_true rfl, Nat.le_of_ble_eq_true rfl, Nat.le_of_ble_eq_true rfl, Nat.le_of_ble_eq_true rfl⟩ rfl rfl (Nat.le_of_ble_eq_true rfl) dd_P_weighSets_71 (fun H locs hR hS => ?_)
                obtain ⟨v14, qv14, hm⟩ := ss_bind hm
                refine lv_iinc (v := v14) (lv' := [(3, .int v14), (0, ss_v (ss_b G) this), (1, .int a1), (2, .int x2_2)]) hx hb dd_P_weighSets_74 hl (k := 3) rfl (ss_inc (by decide) qv14) (by decide) rfl (fun ls hl => ?_)
                refine lv_goto (tgt := 51) hx hb dd_P_weighSets_77 (by decide) ?_
                exact ih_51 v14 h13 _ _ _ (hz1_51 _ (ss_some hm)) hR hS (lv_sub hl [1, 2, 3, 0] rfl)
          exact L_51 N (0 : Int32) h6 _ _ _ he_51 hR hS (lv_sub hl [1, 2, 3, 0] rfl)
        have L_12 : ∀ (n : Nat) (x3_12 : Int32) (h_12 : ss_Hp) (H : Heap) (locs : List Loc) (ls : Array Slot), ss_lp (mm_P_weighSets_b12 N this a1 x2_2) n (x3_12, h_12) = some e_12 → ss_R G h_12 H → va_S (ss_A G) s.heap H locs → lv_has ls 4 [(0, ss_v (ss_b G) this), (1, .int a1), (2, .int x2_2), (3, .int x3_12)] → ww_P_weighSets p l e s m below meth c G this a1 h hh  H locs 0 0 (F0 m 12 ls []) := by
          intro n
          induction n with
          | zero => intro x3_12 h_12 H locs ls hm; cases hm
          | succ n ih_12 =>
            intro x3_12 h_12 H locs ls hm hR hS hl
            obtain ⟨z_12, hm, hz1_12, hz2_12⟩ := ss_lps hm
            refine lv_iload_n hx hb dd_P_weighSets_12 rfl (lv_at hl 3 rfl) ?_
            refine lv_iconst (v := 4) hx hb dd_P_weighSets_13 (by decide) ?_
            refine lv_icmp_ge (tgt := 34) hx hb dd_P_weighSets_14 (by decide) (fun c15 => ?_) (fun c15 => ?_)
            · have hm := ss_ift hm c15
              exact X_12_34 h_12 _ _ _ (hz2_12 _ (ss_some hm)) hR hS (lv_sub hl [0, 1, 2] rfl)
            · have hm := ss_iff hm c15
              refine ss_aload_n hx hb dd_P_weighSets_17 rfl (lv_at hl 0 rfl) ?_
              obtain ⟨r16, qr16, hm⟩ := ss_bind hm
              refine ss_getr hC hK hR kf_P_18 rfl qr16 dd_P_weighSets_18 ?_
              refine lv_iload_n hx hb dd_P_weighSets_21 rfl (lv_at hl 2 rfl) ?_
              refine lv_iconst (v := 4) hx hb dd_P_weighSets_22 (by decide) ?_
              refine lv_imul hx hb dd_P_weighSets_23 ?_
              refine lv_iload_n hx hb dd_P_weighSets_24 rfl (lv_at hl 3 rfl) ?_
              refine lv_iadd hx hb dd_P_weighSets_25 ?_
              refine lv_iconst (v := 0) hx hb dd_P_weighSets_26 (by decide) ?_
              obtain ⟨h17, qh17, hm⟩ := ss_bind hm
              refine ss_iast hC hK hR hS qh17 dd_P_weighSets_27 (fun H locs hR hS => ?_)
              obtain ⟨v18, qv18, hm⟩ := ss_bind hm
              refine lv_iinc (v := v18) (lv' := [(3, .int v18), (0, ss_v (ss_b G) this), (1, .int a1), (2, .int x2_2)]) hx hb dd_P_weighSets_28 hl (k := 3) rfl (ss_inc (by decide) qv18) (by decide) rfl (fun ls hl => ?_)
              refine lv_goto (tgt := 12) hx hb dd_P_weighSets_31 (by decide) ?_
              exact ih_12 v18 h17 _ _ _ (hz1_12 _ (ss_some hm)) hR hS (lv_sub hl [1, 2, 3, 0] rfl)
        exact L_12 N (0 : Int32) h_2 _ _ _ he_12 hR hS (lv_sub hl [1, 2, 3, 0] rfl)
  exact L_2 N (0 : Int32) h _ _ _ he_2 hR hS (lv_sub hl [1, 2, 0] rfl)
