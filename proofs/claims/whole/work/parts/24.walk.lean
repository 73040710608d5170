theorem dd_M_sum_0 : decode bb_M_sum 0 = .ok (.aload_n 0, 1) := by decide +kernel
theorem dd_M_sum_1 : decode bb_M_sum 1 = .ok (.invokevirtual 186, 3) := by decide +kernel
theorem dd_M_sum_4 : decode bb_M_sum 4 = .ok (.ifCond .ne 5, 3) := by decide +kernel
theorem dd_M_sum_7 : decode bb_M_sum 7 = .ok (.iconst 0, 1) := by decide +kernel
theorem dd_M_sum_8 : decode bb_M_sum 8 = .ok (.ireturn, 1) := by decide +kernel
theorem dd_M_sum_9 : decode bb_M_sum 9 = .ok (.aload_n 0, 1) := by decide +kernel
theorem dd_M_sum_10 : decode bb_M_sum 10 = .ok (.invokevirtual 99, 3) := by decide +kernel
theorem dd_M_sum_13 : decode bb_M_sum 13 = .ok (.bipush 43, 2) := by decide +kernel
theorem dd_M_sum_15 : decode bb_M_sum 15 = .ok (.if_icmp .eq 12, 3) := by decide +kernel
theorem dd_M_sum_18 : decode bb_M_sum 18 = .ok (.aload_n 0, 1) := by decide +kernel
theorem dd_M_sum_19 : decode bb_M_sum 19 = .ok (.invokevirtual 99, 3) := by decide +kernel
theorem dd_M_sum_22 : decode bb_M_sum 22 = .ok (.bipush 45, 2) := by decide +kernel
theorem dd_M_sum_24 : decode bb_M_sum 24 = .ok (.if_icmp .ne 51, 3) := by decide +kernel
theorem dd_M_sum_27 : decode bb_M_sum 27 = .ok (.aload_n 0, 1) := by decide +kernel
theorem dd_M_sum_28 : decode bb_M_sum 28 = .ok (.getfield 7, 3) := by decide +kernel
theorem dd_M_sum_31 : decode bb_M_sum 31 = .ok (.aload_n 0, 1) := by decide +kernel
theorem dd_M_sum_32 : decode bb_M_sum 32 = .ok (.getfield 96, 3) := by decide +kernel
theorem dd_M_sum_35 : decode bb_M_sum 35 = .ok (.baload, 1) := by decide +kernel
theorem dd_M_sum_36 : decode bb_M_sum 36 = .ok (.bipush 43, 2) := by decide +kernel
theorem dd_M_sum_38 : decode bb_M_sum 38 = .ok (.if_icmp .ne 7, 3) := by decide +kernel
theorem dd_M_sum_41 : decode bb_M_sum 41 = .ok (.iconst 2, 1) := by decide +kernel
theorem dd_M_sum_42 : decode bb_M_sum 42 = .ok (.goto 4, 3) := by decide +kernel
theorem dd_M_sum_45 : decode bb_M_sum 45 = .ok (.iconst 3, 1) := by decide +kernel
theorem dd_M_sum_46 : decode bb_M_sum 46 = .ok (.istore_n 1, 1) := by decide +kernel
theorem dd_M_sum_47 : decode bb_M_sum 47 = .ok (.aload_n 0, 1) := by decide +kernel
theorem dd_M_sum_48 : decode bb_M_sum 48 = .ok (.dup, 1) := by decide +kernel
theorem dd_M_sum_49 : decode bb_M_sum 49 = .ok (.getfield 96, 3) := by decide +kernel
theorem dd_M_sum_52 : decode bb_M_sum 52 = .ok (.iconst 1, 1) := by decide +kernel
theorem dd_M_sum_53 : decode bb_M_sum 53 = .ok (.iadd, 1) := by decide +kernel
theorem dd_M_sum_54 : decode bb_M_sum 54 = .ok (.putfield 96, 3) := by decide +kernel
theorem dd_M_sum_57 : decode bb_M_sum 57 = .ok (.aload_n 0, 1) := by decide +kernel
theorem dd_M_sum_58 : decode bb_M_sum 58 = .ok (.invokevirtual 186, 3) := by decide +kernel
theorem dd_M_sum_61 : decode bb_M_sum 61 = .ok (.ifCond .ne 5, 3) := by decide +kernel
theorem dd_M_sum_64 : decode bb_M_sum 64 = .ok (.iconst 0, 1) := by decide +kernel
theorem dd_M_sum_65 : decode bb_M_sum 65 = .ok (.ireturn, 1) := by decide +kernel
theorem dd_M_sum_66 : decode bb_M_sum 66 = .ok (.aload_n 0, 1) := by decide +kernel
theorem dd_M_sum_67 : decode bb_M_sum 67 = .ok (.iload_n 1, 1) := by decide +kernel
theorem dd_M_sum_68 : decode bb_M_sum 68 = .ok (.iconst 0, 1) := by decide +kernel
theorem dd_M_sum_69 : decode bb_M_sum 69 = .ok (.invokevirtual 168, 3) := by decide +kernel
theorem dd_M_sum_72 : decode bb_M_sum 72 = .ok (.goto (-63), 3) := by decide +kernel
theorem dd_M_sum_75 : decode bb_M_sum 75 = .ok (.iconst 1, 1) := by decide +kernel
theorem dd_M_sum_76 : decode bb_M_sum 76 = .ok (.ireturn, 1) := by decide +kernel
def mm_M_sum_j46 (N : Nat) (this : Option Nat) (s0_46 : Int32) (h_46 : ss_Hp) : Option (ss_Hp ⊕ (ss_Hp ⊕ ss_Hp)) :=
  (ss_gi h_46 this 12 2).bind fun v4 =>
  (ss_pi h_46 this 12 2 (v4 + (1 : Int32))).bind fun h5 =>
  ss_b2 (mm_M_term N this h5) fun v6 h7 =>
  if v6 = 0 then
    some (.inr (.inr h7))
  else
    (mm_M_puts N this s0_46 (0 : Int32) h7).bind fun h9 =>
    some (.inl h9)
def mm_M_sum_j27 (N : Nat) (this : Option Nat) (h_27 : ss_Hp) : Option (ss_Hp ⊕ (ss_Hp ⊕ ss_Hp)) :=
  (ss_gr h_27 this 12 0).bind fun r10 =>
  (ss_gi h_27 this 12 2).bind fun v11 =>
  (ss_ai h_27 r10 21 v11).bind fun v12 =>
  if v12 = (43 : Int32) then
    mm_M_sum_j46 N this (2 : Int32) h_27
  else
    mm_M_sum_j46 N this (3 : Int32) h_27
def mm_M_sum_b9 (N : Nat) (this : Option Nat) (st : ss_Hp) : Option (ss_Hp ⊕ (ss_Hp ⊕ ss_Hp)) :=
  match st with
  | h_9 =>
    ss_b2 (mm_M_see N this h_9) fun v14 h15 =>
    if v14 = (43 : Int32) then
      mm_M_sum_j27 N this h15
    else
      ss_b2 (mm_M_see N this h15) fun v17 h18 =>
      if v17 = (45 : Int32) then
        mm_M_sum_j27 N this h18
      else
        some (.inr (.inl h18))
def mm_M_sum (N : Nat) (this : Option Nat) (h : ss_Hp) : Option (Int32 × ss_Hp) :=
  if ss_is h this 12 = true then
    ss_b2 (mm_M_term N this h) fun v1 h2 =>
    if v1 = 0 then
      some ((0 : Int32), h2)
    else
      (ss_lp (mm_M_sum_b9 N this) N h2).bind fun e_9 =>
      match e_9 with
      | (.inl h_9_75) =>
        some ((1 : Int32), h_9_75)
      | (.inr h_9_64) =>
        some ((0 : Int32), h_9_64)
  else none
abbrev ww_M_sum (p : Program) (l : Launch) (e : Env) (s : State) (m : MethodId) (below : List Frame) (meth : Method) (c : Code) (G : ss_G) (this : Option Nat) (h : ss_Hp) (rr : Int32) (hh : ss_Hp) (H : Heap) (locs : List Loc) (k n : Nat) (g : JFrame) : Prop := W p l e (headSpec (ss_w yy_M_sum bb_M_sum 2 (some .boolean)) ({ frames := 5, cells := 0, slots := 0, locals := 109 })).room s m ([ss_v (ss_b G) this] : List Value).toArray below meth c H locs k n (MQ below (ss_Qc G (some (.int rr)) hh) ([ss_v (ss_b G) this] : List Value).toArray s 0 0 (ss_A G)) g
theorem ck_M_sum {N : Nat} {this : Option Nat} {h : ss_Hp} {res : Int32 × ss_Hp} (hm : mm_M_sum N this h = some res) : ss_is h this 12 = true := (ss_chk hm).1
set_option maxHeartbeats 4000000 in
set_option maxRecDepth 100000 in
theorem cc_M_sum (l : Launch) (G : ss_G) (N : Nat) (this : Option Nat) (h : ss_Hp) (rr : Int32) (hh : ss_Hp) (hm : mm_M_sum N this h = some (rr, hh)) : ss_Ct l G yy_M_sum bb_M_sum 2 (some .boolean) ({ frames := 5, cells := 0, slots := 0, locals := 109 }) [ss_v (ss_b G) this] h (some (.int rr)) hh := by
  obtain ⟨hck, hm⟩ := ss_chk hm
  refine Met.ofW (cc := bb_M_sum) (maxL := 2) (ret := (some .boolean)) (by decide) rfl ?_
  intro p e s m args below meth c s₁ B hml hv
  obtain ⟨rfl, hR, hK⟩ := hv
  have hC : CallFix p m c bb_M_sum 2 s _ lw_g sR_12 := ⟨B.exec, B.bytes, hml, findClass_of_methodNamed B.named, fun w hw => atoms_spec (ws := ss_w yy_M_sum bb_M_sum 2 (some .boolean)) B.pre w (List.mem_cons_of_mem _ hw)⟩
  have hx := hC.1
  have hb := hC.2.1
  have hr := B.returns
  have hlocks := B.notSynchronized
  have hS : va_S (ss_A G) s.heap s.heap [] := va_S.rf
  have hl := lv_entry ([ss_v (ss_b G) this]) (n := 2) (by simp [lg_sl, ss_v_cat, ss_cat_i, ss_cat_l, ss_cat_r])
  rw [lg_entry_eq]
  generalize (lg_sl ([ss_v (ss_b G) this]) ++ List.replicate (2 - (lg_sl ([ss_v (ss_b G) this])).length) Slot.unset).toArray = ls at hl ⊢
  have hl : lv_has ls 2 [(0, ss_v (ss_b G) this)] := by simpa [lv_args, ss_v_cat, ss_cat_i, ss_cat_l, ss_cat_r] using hl
  refine ss_aload_n hx hb dd_M_sum_0 rfl (lv_at hl 0 rfl) ?_
  obtain ⟨v1, h2, qh2, hm⟩ := ss_bind2 hm
  refine ss_cV 0 0 (As := []) hC hK hR hS hl.1 (cc_M_term l G N _ _ _ _ qh2) km_M_186 (ck_M_term qh2) ⟨Nat.le_of_ble_eq_true rfl, Nat.le_of_ble_eq_true rfl⟩ ⟨Nat.le_of_ble_eq_true rfl, Nat.le_of_ble_eq_true rfl, Nat.le_of_ble_eq_true rfl, Nat.le_of_ble_eq_true rfl⟩ rfl rfl (Nat.le_of_ble_eq_true rfl) dd_M_sum_1 (fun H locs hR hS => ?_)
  refine lv_if_ne (tgt := 9) hx hb dd_M_sum_4 (by decide) (fun c3 => ?_) (fun c3 => ?_)
  · have hm := ss_iff hm c3
    obtain ⟨e_9, he_9, hm⟩ := ss_bind hm
    have X_9_75 : ∀  (h_9_75 : ss_Hp) (H : Heap) (locs : List Loc) (ls : Array Slot), e_9 = (.inl h_9_75) → ss_R G h_9_75 H → va_S (ss_A G) s.heap H locs → lv_has ls 2 [] → ww_M_sum p l e s m below meth c G this h rr hh  H locs 0 0 (F0 m 75 ls []) := by
      intro h_9_75 H locs ls hq hR hS hl
      rw [hq] at hm
      refine lv_iconst (v := 1) hx hb dd_M_sum_75 (by decide) ?_
      exact ss_zret hC hr (by decide) hlocks hR hS hm dd_M_sum_76
    have X_9_64 : ∀  (h_9_64 : ss_Hp) (H : Heap) (locs : List Loc) (ls : Array Slot), e_9 = (.inr h_9_64) → ss_R G h_9_64 H → va_S (ss_A G) s.heap H locs → lv_has ls 2 [] → ww_M_sum p l e s m below meth c G this h rr hh  H locs 0 0 (F0 m 64 ls []) := by
      intro h_9_64 H locs ls hq hR hS hl
      rw [hq] at hm
      refine lv_iconst (v := 0) hx hb dd_M_sum_64 (by decide) ?_
      exact ss_zret hC hr (by decide) hlocks hR hS hm dd_M_sum_65
    have L_9 : ∀ (n : Nat)  (h_9 : ss_Hp) (H : Heap) (locs : List Loc) (ls : Array Slot), ss_lp (mm_M_sum_b9 N this) n h_9 = some e_9 → ss_R G h_9 H → va_S (ss_A G) s.heap H locs → lv_has ls 2 [(0, ss_v (ss_b G) this)] → ww_M_sum p l e s m below meth c G this h rr hh  H locs 0 0 (F0 m 9 ls []) := by
      intro n
      induction n with
      | zero => intro h_9 H locs ls hm; cases hm
      | succ n ih_9 =>
        intro h_9 H locs ls hm hR hS hl
        obtain ⟨z_9, hm, hz1_9, hz2_9⟩ := ss_lps hm
        have J_46 : ∀ (s0_46 : Int32) (h_46 : ss_Hp) (H : Heap) (locs : List Loc) (ls : Array Slot), mm_M_sum_j46 N this s0_46 h_46 = some z_9 → ss_R G h_46 H → va_S (ss_A G) s.heap H locs → lv_has ls 2 [(0, ss_v (ss_b G) this)] → ww_M_sum p l e s m below meth c G this h rr hh  H locs 0 0 (F0 m 46 ls [.int s0_46]) := by
          intro s0_46 h_46 H locs ls hm hR hS hl
          refine lv_istore_n (lv' := [(1, .int s0_46), (0, ss_v (ss_b G) this)]) hx hb dd_M_sum_46 rfl hl (by decide) (by simp only [List.filter_cons, ss_v_cat]; rfl) (fun ls hl => ?_)
          refine ss_aload_n hx hb dd_M_sum_47 rfl (lv_at hl 1 rfl) ?_
          refine ss_dupr hx hb dd_M_sum_48 ?_
          obtain ⟨v4, qv4, hm⟩ := ss_bind hm
          refine ss_geti hC hK hR kf_M_96 qv4 dd_M_sum_49 ?_
          refine lv_iconst (v := 1) hx hb dd_M_sum_52 (by decide) ?_
          refine lv_iadd hx hb dd_M_sum_53 ?_
          obtain ⟨h5, qh5, hm⟩ := ss_bind hm
          refine ss_puti hC hK hR hS kp_M_96 qh5 dd_M_sum_54 (fun H locs hR hS => ?_)
          refine ss_aload_n hx hb dd_M_sum_57 rfl (lv_at hl 1 rfl) ?_
          obtain ⟨v6, h7, qh7, hm⟩ := ss_bind2 hm
          refine ss_cV 0 0 (As := []) hC hK hR hS hl.1 (cc_M_term l G N _ _ _ _ qh7) km_M_186 (ck_M_term qh7) ⟨Nat.le_of_ble_eq_true rfl, Nat.le_of_ble_eq_true rfl⟩ ⟨Nat.le_of_ble_eq_true rfl, Nat.le_of_ble_eq_true rfl, Nat.le_of_ble_eq_true rfl, Nat.le_of_ble_eq_true rfl⟩ rfl rfl (Nat.le_of_ble_eq_true rfl) dd_M_sum_58 (fun H locs hR hS => ?_)
          refine lv_if_ne (tgt := 66) hx hb dd_M_sum_61 (by decide) (fun c8 => ?_) (fun c8 => ?_)
          · have hm := ss_iff hm c8
            refine ss_aload_n hx hb dd_M_sum_66 rfl (lv_at hl 1 rfl) ?_
            refine lv_iload_n hx hb dd_M_sum_67 rfl (lv_at hl 0 rfl) ?_
            refine lv_iconst (v := 0) hx hb dd_M_sum_68 (by decide) ?_
            obtain ⟨h9, qh9, hm⟩ := ss_bind hm
            refine ss_cVv 0 0 (As := [.int s0_46, .int (0 : Int32)]) hC hK hR hS hl.1 (cc_M_puts l G N _ _ _ _ _ qh9) km_M_168 (ck_M_puts qh9) ⟨Nat.le_of_ble_eq_true rfl, Nat.le_of_ble_eq_true rfl⟩ ⟨Nat.le_of_ble_eq_true rfl, Nat.le_of_ble_eq_true rfl, Nat.le_of_ble_eq_true rfl, Nat.le_of_ble_eq_true rfl⟩ rfl rfl (Nat.le_of_ble_eq_true rfl) dd_M_sum_69 (fun H locs hR hS => ?_)
            refine lv_goto (tgt := 9) hx hb dd_M_sum_72 (by decide) ?_
            exact ih_9 h9 _ _ _ (hz1_9 _ (ss_some hm)) hR hS (lv_sub hl [1] rfl)
          · have hm := ss_ift hm c8
            exact X_9_64 h7 _ _ _ (hz2_9 _ (ss_some hm)) hR hS (lv_sub hl [] rfl)
        have J_27 : ∀ (h_27 : ss_Hp) (H : Heap) (locs : List Loc) (ls : Array Slot), mm_M_sum_j27 N this h_27 = some z_9 → ss_R G h_27 H → va_S (ss_A G) s.heap H locs → lv_has ls 2 [(0, ss_v (ss_b G) this)] → ww_M_sum p l e s m below meth c G this h rr hh  H locs 0 0 (F0 m 27 ls []) := by
          intro h_27 H locs ls hm hR hS hl
          refine ss_aload_n hx hb dd_M_sum_27 rfl (lv_at hl 0 rfl) ?_
          obtain ⟨r10, qr10, hm⟩ := ss_bind hm
          refine ss_getr hC hK hR kf_M_7 rfl qr10 dd_M_sum_28 ?_
          refine ss_aload_n hx hb dd_M_sum_31 rfl (lv_at hl 0 rfl) ?_
          obtain ⟨v11, qv11, hm⟩ := ss_bind hm
          refine ss_geti hC hK hR kf_M_96 qv11 dd_M_sum_32 ?_
          obtain ⟨v12, qv12, hm⟩ := ss_bind hm
          refine ss_bald hC hK hR qv12 dd_M_sum_35 ?_
          refine lv_bipush (v := 43) hx hb dd_M_sum_36 (by decide) ?_
          refine lv_icmp_ne (tgt := 45) hx hb dd_M_sum_38 (by decide) (fun c13 => ?_) (fun c13 => ?_)
          · have hm := ss_iff hm c13
            refine lv_iconst (v := 3) hx hb dd_M_sum_45 (by decide) ?_
            exact J_46 (3 : Int32) h_27 _ _ _ hm hR hS hl
          · have hm := ss_ift hm c13
            refine lv_iconst (v := 2) hx hb dd_M_sum_41 (by decide) ?_
            refine lv_goto (tgt := 46) hx hb dd_M_sum_42 (by decide) ?_
            exact J_46 (2 : Int32) h_27 _ _ _ hm hR hS hl
        refine ss_aload_n hx hb dd_M_sum_9 rfl (lv_at hl 0 rfl) ?_
        obtain ⟨v14, h15, qh15, hm⟩ := ss_bind2 hm
        refine ss_cV 0 0 (As := []) hC hK hR hS hl.1 (cc_M_see l G N _ _ _ _ qh15) km_M_99 (ck_M_see qh15) ⟨Nat.le_of_ble_eq_true rfl, Nat.le_of_ble_eq_true rfl⟩ ⟨Nat.le_of_ble_eq_true rfl, Nat.le_of_ble_eq_true rfl, Nat.le_of_ble_eq_true rfl, Nat.le_of_ble_eq_true rfl⟩ rfl rfl (Nat.le_of_ble_eq_true rfl) dd_M_sum_10 (fun H locs hR hS => ?_)
        refine lv_bipush (v := 43) hx hb dd_M_sum_13 (by decide) ?_
        refine lv_icmp_eq (tgt := 27) hx hb dd_M_sum_15 (by decide) (fun c16 => ?_) (fun c16 => ?_)
        · have hm := ss_ift hm c16
          exact J_27 h15 _ _ _ hm hR hS hl
        · have hm := ss_iff hm c16
          refine ss_aload_n hx hb dd_M_sum_18 rfl (lv_at hl 0 rfl) ?_
          obtain ⟨v17, h18, qh18, hm⟩ := ss_bind2 hm
          refine ss_cV 0 0 (As := []) hC hK hR hS hl.1 (cc_M_see l G N _ _ _ _ qh18) km_M_99 (ck_M_see qh18) ⟨Nat.le_of_ble_eq_true rfl, Nat.le_of_ble_eq_true rfl⟩ ⟨Nat.le_of_ble_eq_true rfl, Nat.le_of_ble_eq_true rfl, Nat.le_of_ble_eq_true rfl, Nat.le_of_ble_eq_true rfl⟩ rfl rfl (Nat.le_of_ble_eq_true rfl) dd_M_sum_19 (fun H locs hR hS => ?_)
          refine lv_bipush (v := 45) hx hb dd_M_sum_22 (by decide) ?_
          refine lv_icmp_ne (tgt := 75) hx hb dd_M_sum_24 (by decide) (fun c19 => ?_) (fun c19 => ?_)
          · have hm := ss_iff hm c19
            exact X_9_75 h18 _ _ _ (hz2_9 _ (ss_some hm)) hR hS (lv_sub hl [] rfl)
          · have hm := ss_ift hm c19
            exact J_27 h18 _ _ _ hm hR hS hl
    exact L_9 N h2 _ _ _ he_9 hR hS hl
  · have hm := ss_ift hm c3
    refine lv_iconst (v := 0) hx hb dd_M_sum_7 (by decide) ?_
    exact ss_zret hC hr (by decide) hlocks hR hS hm dd_M_sum_8
theorem dd_M_takesWord_0 : decode bb_M_takesWord 0 = .ok (.aload_n 0, 1) := by decide +kernel
theorem dd_M_takesWord_1 : decode bb_M_takesWord 1 = .ok (.lload_n 1, 1) := by decide +kernel
theorem dd_M_takesWord_2 : decode bb_M_takesWord 2 = .ok (.invokevirtual 107, 3) := by decide +kernel
theorem dd_M_takesWord_5 : decode bb_M_takesWord 5 = .ok (.ifCond .ne 5, 3) := by decide +kernel
theorem dd_M_takesWord_8 : decode bb_M_takesWord 8 = .ok (.iconst 0, 1) := by decide +kernel
theorem dd_M_takesWord_9 : decode bb_M_takesWord 9 = .ok (.ireturn, 1) := by decide +kernel
theorem dd_M_takesWord_10 : decode bb_M_takesWord 10 = .ok (.aload_n 0, 1) := by decide +kernel
theorem dd_M_takesWord_11 : decode bb_M_takesWord 11 = .ok (.invokevirtual 111, 3) := by decide +kernel
theorem dd_M_takesWord_14 : decode bb_M_takesWord 14 = .ok (.iconst 1, 1) := by decide +kernel
theorem dd_M_takesWord_15 : decode bb_M_takesWord 15 = .ok (.ireturn, 1) := by decide +kernel
def mm_M_takesWord (N : Nat) (this : Option Nat) (a1 : Int64) (h : ss_Hp) : Option (Int32 × ss_Hp) :=
  if ss_is h this 12 = true then
    ss_b2 (mm_M_isWord N this a1 h) fun v1 h2 =>
    if v1 = 0 then
      some ((0 : Int32), h2)
    else
      (mm_M_passWord N this h2).bind fun h4 =>
      some ((1 : Int32), h4)
  else none
abbrev ww_M_takesWord (p : Program) (l : Launch) (e : Env) (s : State) (m : MethodId) (below : List Frame) (meth : Method) (c : Code) (G : ss_G) (this : Option Nat) (a1 : Int64) (h : ss_Hp) (rr : Int32) (hh : ss_Hp) (H : Heap) (locs : List Loc) (k n : Nat) (g : JFrame) : Prop := W p l e (headSpec (ss_w yy_M_takesWord bb_M_takesWord 3 (some .boolean)) ({ frames := 2, cells := 0, slots := 0, locals := 46 })).room s m ([ss_v (ss_b G) this, .long a1] : List Value).toArray below meth c H locs k n (MQ below (ss_Qc G (some (.int rr)) hh) ([ss_v (ss_b G) this, .long a1] : List Value).toArray s 0 0 (ss_A G)) g
theorem ck_M_takesWord {N : Nat} {this : Option Nat} {a1 : Int64} {h : ss_Hp} {res : Int32 × ss_Hp} (hm : mm_M_takesWord N this a1 h = some res) : ss_is h this 12 = true := (ss_chk hm).1
set_option maxHeartbeats 4000000 in
set_option maxRecDepth 100000 in
theorem cc_M_takesWord (l : Launch) (G : ss_G) (N : Nat) (this : Option Nat) (a1 : Int64) (h : ss_Hp) (rr : Int32) (hh : ss_Hp) (hm : mm_M_takesWord N this a1 h = some (rr, hh)) : ss_Ct l G yy_M_takesWord bb_M_takesWord 3 (some .boolean) ({ frames := 2, cells := 0, slots := 0, locals := 46 }) [ss_v (ss_b G) this, .long a1] h (some (.int rr)) hh := by
  obtain ⟨hck, hm⟩ := ss_chk hm
  refine Met.ofW (cc := bb_M_takesWord) (maxL := 3) (ret := (some .boolean)) (by decide) rfl ?_
  intro p e s m args below meth c s₁ B hml hv
  obtain ⟨rfl, hR, hK⟩ := hv
  have hC : CallFix p m c bb_M_takesWord 3 s _ lw_g sR_12 := ⟨B.exec, B.bytes, hml, findClass_of_methodNamed B.named, fun w hw => atoms_spec (ws := ss_w yy_M_takesWord bb_M_takesWord 3 (some .boolean)) B.pre w (List.mem_cons_of_mem _ hw)⟩
  have hx := hC.1
  have hb := hC.2.1
  have hr := B.returns
  have hlocks := B.notSynchronized
  have hS : va_S (ss_A G) s.heap s.heap [] := va_S.rf
  have hl := lv_entry ([ss_v (ss_b G) this, .long a1]) (n := 3) (by simp [lg_sl, ss_v_cat, ss_cat_i, ss_cat_l, ss_cat_r])
  rw [lg_entry_eq]
  generalize (lg_sl ([ss_v (ss_b G) this, .long a1]) ++ List.replicate (3 - (lg_sl ([ss_v (ss_b G) this, .long a1])).length) Slot.unset).toArray = ls at hl ⊢
  have hl : lv_has ls 3 [(0, ss_v (ss_b G) this), (1, .long a1)] := by simpa [lv_args, ss_v_cat, ss_cat_i, ss_cat_l, ss_cat_r] using hl
  refine ss_aload_n hx hb dd_M_takesWord_0 rfl (lv_at hl 0 rfl) ?_
  refine lv_lload_n hx hb dd_M_takesWord_1 rfl (lv_at hl 1 rfl) ?_
  obtain ⟨v1, h2, qh2, hm⟩ := ss_bind2 hm
  refine ss_cV 0 0 (As := [.long a1]) hC hK hR hS hl.1 (cc_M_isWord l G N _ _ _ _ _ qh2) km_M_107 (ck_M_isWord qh2) ⟨Nat.le_of_ble_eq_true rfl, Nat.le_of_ble_eq_true rfl⟩ ⟨Nat.le_of_ble_eq_true rfl, Nat.le_of_ble_eq_true rfl, Nat.le_of_ble_eq_true rfl, Nat.le_of_ble_eq_true rfl⟩ rfl rfl (Nat.le_of_ble_eq_true rfl) dd_M_takesWord_2 (fun H locs hR hS => ?_)
  refine lv_if_ne (tgt := 10) hx hb dd_M_takesWord_5 (by decide) (fun c3 => ?_) (fun c3 => ?_)
  · have hm := ss_iff hm c3
    refine ss_aload_n hx hb dd_M_takesWord_10 rfl (lv_at hl 0 rfl) ?_
    obtain ⟨h4, qh4, hm⟩ := ss_bind hm
    refine ss_cVv 0 0 (As := []) hC hK hR hS hl.1 (cc_M_passWord l G N _ _ _ qh4) km_M_111 (ck_M_passWord qh4) ⟨Nat.le_of_ble_eq_true rfl, Nat.le_of_ble_eq_true rfl⟩ ⟨Nat.le_of_ble_eq_true rfl, Nat.le_of_ble_eq_true rfl, Nat.le_of_ble_eq_true rfl, Nat.le_of_ble_eq_true rfl⟩ rfl rfl (Nat.le_of_ble_eq_true rfl) dd_M_takesWord_11 (fun H locs hR hS => ?_)
    refine lv_iconst (v := 1) hx hb dd_M_takesWord_14 (by decide) ?_
    exact ss_zret hC hr (by decide) hlocks hR hS hm dd_M_takesWord_15
  · have hm := ss_ift hm c3
    refine lv_iconst (v := 0) hx hb dd_M_takesWord_8 (by decide) ?_
    exact ss_zret hC hr (by decide) hlocks hR hS hm dd_M_takesWord_9
theorem dd_M_opens_0 : decode bb_M_opens 0 = .ok (.aload_n 0, 1) := by decide +kernel
theorem dd_M_opens_1 : decode bb_M_opens 1 = .ok (.getfield 158, 3) := by decide +kernel
theorem dd_M_opens_4 : decode bb_M_opens 4 = .ok (.bipush 10, 2) := by decide +kernel
theorem dd_M_opens_6 : decode bb_M_opens 6 = .ok (.if_icmp .ne 13, 3) := by decide +kernel
theorem dd_M_opens_9 : decode bb_M_opens 9 = .ok (.aload_n 0, 1) := by decide +kernel
theorem dd_M_opens_10 : decode bb_M_opens 10 = .ok (.iconst 2, 1) := by decide +kernel
theorem dd_M_opens_11 : decode bb_M_opens 11 = .ok (.aload_n 0, 1) := by decide +kernel
theorem dd_M_opens_12 : decode bb_M_opens 12 = .ok (.getfield 96, 3) := by decide +kernel
theorem dd_M_opens_15 : decode bb_M_opens 15 = .ok (.invokevirtual 117, 3) := by decide +kernel
theorem dd_M_opens_18 : decode bb_M_opens 18 = .ok (.ireturn, 1) := by decide +kernel
theorem dd_M_opens_19 : decode bb_M_opens 19 = .ok (.aload_n 0, 1) := by decide +kernel
theorem dd_M_opens_20 : decode bb_M_opens 20 = .ok (.dup, 1) := by decide +kernel
theorem dd_M_opens_21 : decode bb_M_opens 21 = .ok (.getfield 158, 3) := by decide +kernel
theorem dd_M_opens_24 : decode bb_M_opens 24 = .ok (.iconst 1, 1) := by decide +kernel
theorem dd_M_opens_25 : decode bb_M_opens 25 = .ok (.iadd, 1) := by decide +kernel
theorem dd_M_opens_26 : decode bb_M_opens 26 = .ok (.putfield 158, 3) := by decide +kernel
theorem dd_M_opens_29 : decode bb_M_opens 29 = .ok (.aload_n 0, 1) := by decide +kernel
theorem dd_M_opens_30 : decode bb_M_opens 30 = .ok (.getfield 29, 3) := by decide +kernel
theorem dd_M_opens_33 : decode bb_M_opens 33 = .ok (.aload_n 0, 1) := by decide +kernel
theorem dd_M_opens_34 : decode bb_M_opens 34 = .ok (.getfield 161, 3) := by decide +kernel
theorem dd_M_opens_37 : decode bb_M_opens 37 = .ok (.iload_n 1, 1) := by decide +kernel
theorem dd_M_opens_38 : decode bb_M_opens 38 = .ok (.iastore, 1) := by decide +kernel
theorem dd_M_opens_39 : decode bb_M_opens 39 = .ok (.aload_n 0, 1) := by decide +kernel
theorem dd_M_opens_40 : decode bb_M_opens 40 = .ok (.dup, 1) := by decide +kernel
theorem dd_M_opens_41 : decode bb_M_opens 41 = .ok (.getfield 161, 3) := by decide +kernel
theorem dd_M_opens_44 : decode bb_M_opens 44 = .ok (.iconst 1, 1) := by decide +kernel
theorem dd_M_opens_45 : decode bb_M_opens 45 = .ok (.iadd, 1) := by decide +kernel
theorem dd_M_opens_46 : decode bb_M_opens 46 = .ok (.putfield 161, 3) := by decide +kernel
theorem dd_M_opens_49 : decode bb_M_opens 49 = .ok (.iconst 1, 1) := by decide +kernel
theorem dd_M_opens_50 : decode bb_M_opens 50 = .ok (.ireturn, 1) := by decide +kernel
def mm_M_opens (N : Nat) (this : Option Nat) (a1 : Int32) (h : ss_Hp) : Option (Int32 × ss_Hp) :=
  if ss_is h this 12 = true then
    (ss_gi h this 12 7).bind fun v1 =>
    if v1 = (10 : Int32) then
      (ss_gi h this 12 2).bind fun v10 =>
      ss_b2 (mm_M_fails N this (2 : Int32) v10 h) fun v11 h12 =>
      (ss_bz v11).bind fun v13 =>
      some (v13, h12)
    else
      (ss_gi h this 12 7).bind fun v3 =>
      (ss_pi h this 12 7 (v3 + (1 : Int32))).bind fun h4 =>
      (ss_gr h4 this 12 6).bind fun r5 =>
      (ss_gi h4 this 12 9).bind fun v6 =>
      (ss_ui h4 r5 20 v6 a1).bind fun h7 =>
      (ss_gi h7 this 12 9).bind fun v8 =>
      (ss_pi h7 this 12 9 (v8 + (1 : Int32))).bind fun h9 =>
      some ((1 : Int32), h9)
  else none
abbrev ww_M_opens (p : Program) (l : Launch) (e : Env) (s : State) (m : MethodId) (below : List Frame) (meth : Method) (c : Code) (G : ss_G) (this : Option Nat) (a1 : Int32) (h : ss_Hp) (rr : Int32) (hh : ss_Hp) (H : Heap) (locs : List Loc) (k n : Nat) (g : JFrame) : Prop := W p l e (headSpec (ss_w yy_M_opens bb_M_opens 2 (some .boolean)) ({ frames := 1, cells := 0, slots := 0, locals := 22 })).room s m ([ss_v (ss_b G) this, .int a1] : List Value).toArray below meth c H locs k n (MQ below (ss_Qc G (some (.int rr)) hh) ([ss_v (ss_b G) this, .int a1] : List Value).toArray s 0 0 (ss_A G)) g
theorem ck_M_opens {N : Nat} {this : Option Nat} {a1 : Int32} {h : ss_Hp} {res : Int32 × ss_Hp} (hm : mm_M_opens N this a1 h = some res) : ss_is h this 12 = true := (ss_chk hm).1
set_option maxHeartbeats 4000000 in
set_option maxRecDepth 100000 in
theorem cc_M_opens (l : Launch) (G : ss_G) (N : Nat) (this : Option Nat) (a1 : Int32) (h : ss_Hp) (rr : Int32) (hh : ss_Hp) (hm : mm_M_opens N this a1 h = some (rr, hh)) : ss_Ct l G yy_M_opens bb_M_opens 2 (some .boolean) ({ frames := 1, cells := 0, slots := 0, locals := 22 }) [ss_v (ss_b G) this, .int a1] h (some (.int rr)) hh := by
  obtain ⟨hck, hm⟩ := ss_chk hm
  refine Met.ofW (cc := bb_M_opens) (maxL := 2) (ret := (some .boolean)) (by decide) rfl ?_
  intro p e s m args below meth c s₁ B hml hv
  obtain ⟨rfl, hR, hK⟩ := hv
  have hC : CallFix p m c bb_M_opens 2 s _ lw_g sR_12 := ⟨B.exec, B.bytes, hml, findClass_of_methodNamed B.named, fun w hw => atoms_spec (ws := ss_w yy_M_opens bb_M_opens 2 (some .boolean)) B.pre w (List.mem_cons_of_mem _ hw)⟩
  have hx := hC.1
  have hb := hC.2.1
  have hr := B.returns
  have hlocks := B.notSynchronized
  have hS : va_S (ss_A G) s.heap s.heap [] := va_S.rf
  have hl := lv_entry ([ss_v (ss_b G) this, .int a1]) (n := 2) (by simp [lg_sl, ss_v_cat, ss_cat_i, ss_cat_l, ss_cat_r])
  rw [lg_entry_eq]
  generalize (lg_sl ([ss_v (ss_b G) this, .int a1]) ++ List.replicate (2 - (lg_sl ([ss_v (ss_b G) this, .int a1])).length) Slot.unset).toArray = ls at hl ⊢
  have hl : lv_has ls 2 [(0, ss_v (ss_b G) this), (1, .int a1)] := by simpa [lv_args, ss_v_cat, ss_cat_i, ss_cat_l, ss_cat_r] using hl
  refine ss_aload_n hx hb dd_M_opens_0 rfl (lv_at hl 0 rfl) ?_
  obtain ⟨v1, qv1, hm⟩ := ss_bind hm
  refine ss_geti hC hK hR kf_M_158 qv1 dd_M_opens_1 ?_
  refine lv_bipush (v := 10) hx hb dd_M_opens_4 (by decide) ?_
  refine lv_icmp_ne (tgt := 19) hx hb dd_M_opens_6 (by decide) (fun c2 => ?_) (fun c2 => ?_)
  · have hm := ss_iff hm c2
    refine ss_aload_n hx hb dd_M_opens_19 rfl (lv_at hl 0 rfl) ?_
    refine ss_dupr hx hb dd_M_opens_20 ?_
    obtain ⟨v3, qv3, hm⟩ := ss_bind hm
    refine ss_geti hC hK hR kf_M_158 qv3 dd_M_opens_21 ?_
    refine lv_iconst (v := 1) hx hb dd_M_opens_24 (by decide) ?_
    refine lv_iadd hx hb dd_M_opens_25 ?_
    obtain ⟨h4, qh4, hm⟩ := ss_bind hm
    refine ss_puti hC hK hR hS kp_M_158 qh4 dd_M_opens_26 (fun H locs hR hS => ?_)
    refine ss_aload_n hx hb dd_M_opens_29 rfl (lv_at hl 0 rfl) ?_
    obtain ⟨r5, qr5, hm⟩ := ss_bind hm
    refine ss_getr hC hK hR kf_M_29 rfl qr5 dd_M_opens_30 ?_
    refine ss_aload_n hx hb dd_M_opens_33 rfl (lv_at hl 0 rfl) ?_
    obtain ⟨v6, qv6, hm⟩ := ss_bind hm
    refine ss_geti hC hK hR kf_M_161 qv6 dd_M_opens_34 ?_
    refine lv_iload_n hx hb dd_M_opens_37 rfl (lv_at hl 1 rfl) ?_
    obtain ⟨h7, qh7, hm⟩ := ss_bind hm
    refine ss_iast hC hK hR hS qh7 dd_M_opens_38 (fun H locs hR hS => ?_)
    refine ss_aload_n hx hb dd_M_opens_39 rfl (lv_at hl 0 rfl) ?_
    refine ss_dupr hx hb dd_M_opens_40 ?_
    obtain ⟨v8, qv8, hm⟩ := ss_bind hm
    refine ss_geti hC hK hR kf_M_161 qv8 dd_M_opens_41 ?_
    refine lv_iconst (v := 1) hx hb dd_M_opens_44 (by decide) ?_
    refine lv_iadd hx hb dd_M_opens_45 ?_
    obtain ⟨h9, qh9, hm⟩ := ss_bind hm
    refine ss_puti hC hK hR hS kp_M_161 qh9 dd_M_opens_46 (fun H locs hR hS => ?_)
    refine lv_iconst (v := 1) hx hb dd_M_opens_49 (by decide) ?_
    exact ss_zret hC hr (by decide) hlocks hR hS hm dd_M_opens_50
  · have hm := ss_ift hm c2
    refine ss_aload_n hx hb dd_M_opens_9 rfl (lv_at hl 0 rfl) ?_
    refine lv_iconst (v := 2) hx hb dd_M_opens_10 (by decide) ?_
    refine ss_aload_n hx hb dd_M_opens_11 rfl (lv_at hl 0 rfl) ?_
    obtain ⟨v10, qv10, hm⟩ := ss_bind hm
    refine ss_geti hC hK hR kf_M_96 qv10 dd_M_opens_12 ?_
    obtain ⟨v11, h12, qh12, hm⟩ := ss_bind2 hm
    refine ss_cV 0 0 (As := [.int (2 : Int32), .int v10]) hC hK hR hS hl.1 (cc_M_fails l G N _ _ _ _ _ _ qh12) km_M_117 (ck_M_fails qh12) ⟨Nat.le_of_ble_eq_true rfl, Nat.le_of_ble_eq_true rfl⟩ ⟨Nat.le_of_ble_eq_true rfl, Nat.le_of_ble_eq_true rfl, Nat.le_of_ble_eq_true rfl, Nat.le_of_ble_eq_true rfl⟩ rfl rfl (Nat.le_of_ble_eq_true rfl) dd_M_opens_15 (fun H locs hR hS => ?_)
    obtain ⟨v13, qv13, hm⟩ := ss_bind hm
    obtain ⟨hnb, rfl⟩ := ss_bzs qv13
    exact ss_zret hC hr hnb hlocks hR hS hm dd_M_opens_18
theorem dd_M_compare_0 : decode bb_M_compare 0 = .ok (.aload_n 0, 1) := by decide +kernel
theorem dd_M_compare_1 : decode bb_M_compare 1 = .ok (.invokevirtual 189, 3) := by decide +kernel
theorem dd_M_compare_4 : decode bb_M_compare 4 = .ok (.ifCond .ne 5, 3) := by decide +kernel
theorem dd_M_compare_7 : decode bb_M_compare 7 = .ok (.iconst 0, 1) := by decide +kernel
theorem dd_M_compare_8 : decode bb_M_compare 8 = .ok (.ireturn, 1) := by decide +kernel
theorem dd_M_compare_9 : decode bb_M_compare 9 = .ok (.aload_n 0, 1) := by decide +kernel
theorem dd_M_compare_10 : decode bb_M_compare 10 = .ok (.invokevirtual 99, 3) := by decide +kernel
theorem dd_M_compare_13 : decode bb_M_compare 13 = .ok (.istore_n 1, 1) := by decide +kernel
theorem dd_M_compare_14 : decode bb_M_compare 14 = .ok (.aload_n 0, 1) := by decide +kernel
theorem dd_M_compare_15 : decode bb_M_compare 15 = .ok (.getfield 96, 3) := by decide +kernel
theorem dd_M_compare_18 : decode bb_M_compare 18 = .ok (.istore_n 2, 1) := by decide +kernel
theorem dd_M_compare_19 : decode bb_M_compare 19 = .ok (.iload_n 1, 1) := by decide +kernel
theorem dd_M_compare_20 : decode bb_M_compare 20 = .ok (.bipush 60, 2) := by decide +kernel
theorem dd_M_compare_22 : decode bb_M_compare 22 = .ok (.if_icmp .eq 22, 3) := by decide +kernel
theorem dd_M_compare_25 : decode bb_M_compare 25 = .ok (.iload_n 1, 1) := by decide +kernel
theorem dd_M_compare_26 : decode bb_M_compare 26 = .ok (.bipush 61, 2) := by decide +kernel
theorem dd_M_compare_28 : decode bb_M_compare 28 = .ok (.if_icmp .eq 16, 3) := by decide +kernel
theorem dd_M_compare_31 : decode bb_M_compare 31 = .ok (.iload_n 1, 1) := by decide +kernel
theorem dd_M_compare_32 : decode bb_M_compare 32 = .ok (.bipush 62, 2) := by decide +kernel
theorem dd_M_compare_34 : decode bb_M_compare 34 = .ok (.if_icmp .eq 10, 3) := by decide +kernel
theorem dd_M_compare_37 : decode bb_M_compare 37 = .ok (.aload_n 0, 1) := by decide +kernel
theorem dd_M_compare_38 : decode bb_M_compare 38 = .ok (.iconst 0, 1) := by decide +kernel
theorem dd_M_compare_39 : decode bb_M_compare 39 = .ok (.iload_n 2, 1) := by decide +kernel
theorem dd_M_compare_40 : decode bb_M_compare 40 = .ok (.invokevirtual 117, 3) := by decide +kernel
theorem dd_M_compare_43 : decode bb_M_compare 43 = .ok (.ireturn, 1) := by decide +kernel
theorem dd_M_compare_44 : decode bb_M_compare 44 = .ok (.aload_n 0, 1) := by decide +kernel
theorem dd_M_compare_45 : decode bb_M_compare 45 = .ok (.dup, 1) := by decide +kernel
theorem dd_M_compare_46 : decode bb_M_compare 46 = .ok (.getfield 96, 3) := by decide +kernel
theorem dd_M_compare_49 : decode bb_M_compare 49 = .ok (.iconst 1, 1) := by decide +kernel
theorem dd_M_compare_50 : decode bb_M_compare 50 = .ok (.iadd, 1) := by decide +kernel
theorem dd_M_compare_51 : decode bb_M_compare 51 = .ok (.putfield 96, 3) := by decide +kernel
theorem dd_M_compare_54 : decode bb_M_compare 54 = .ok (.iload_n 1, 1) := by decide +kernel
theorem dd_M_compare_55 : decode bb_M_compare 55 = .ok (.bipush 61, 2) := by decide +kernel
theorem dd_M_compare_57 : decode bb_M_compare 57 = .ok (.if_icmp .eq 32, 3) := by decide +kernel
theorem dd_M_compare_60 : decode bb_M_compare 60 = .ok (.aload_n 0, 1) := by decide +kernel
theorem dd_M_compare_61 : decode bb_M_compare 61 = .ok (.getfield 96, 3) := by decide +kernel
theorem dd_M_compare_64 : decode bb_M_compare 64 = .ok (.aload_n 0, 1) := by decide +kernel
theorem dd_M_compare_65 : decode bb_M_compare 65 = .ok (.getfield 86, 3) := by decide +kernel
theorem dd_M_compare_68 : decode bb_M_compare 68 = .ok (.if_icmp .ge 21, 3) := by decide +kernel
theorem dd_M_compare_71 : decode bb_M_compare 71 = .ok (.aload_n 0, 1) := by decide +kernel
theorem dd_M_compare_72 : decode bb_M_compare 72 = .ok (.getfield 7, 3) := by decide +kernel
theorem dd_M_compare_75 : decode bb_M_compare 75 = .ok (.aload_n 0, 1) := by decide +kernel
theorem dd_M_compare_76 : decode bb_M_compare 76 = .ok (.getfield 96, 3) := by decide +kernel
theorem dd_M_compare_79 : decode bb_M_compare 79 = .ok (.baload, 1) := by decide +kernel
theorem dd_M_compare_80 : decode bb_M_compare 80 = .ok (.bipush 61, 2) := by decide +kernel
theorem dd_M_compare_82 : decode bb_M_compare 82 = .ok (.if_icmp .ne 7, 3) := by decide +kernel
theorem dd_M_compare_85 : decode bb_M_compare 85 = .ok (.iconst 1, 1) := by decide +kernel
theorem dd_M_compare_86 : decode bb_M_compare 86 = .ok (.goto 4, 3) := by decide +kernel
theorem dd_M_compare_89 : decode bb_M_compare 89 = .ok (.iconst 0, 1) := by decide +kernel
theorem dd_M_compare_90 : decode bb_M_compare 90 = .ok (.istore_n 3, 1) := by decide +kernel
theorem dd_M_compare_91 : decode bb_M_compare 91 = .ok (.iload_n 3, 1) := by decide +kernel
theorem dd_M_compare_92 : decode bb_M_compare 92 = .ok (.ifCond .eq 13, 3) := by decide +kernel
theorem dd_M_compare_95 : decode bb_M_compare 95 = .ok (.aload_n 0, 1) := by decide +kernel
theorem dd_M_compare_96 : decode bb_M_compare 96 = .ok (.dup, 1) := by decide +kernel
theorem dd_M_compare_97 : decode bb_M_compare 97 = .ok (.getfield 96, 3) := by decide +kernel
theorem dd_M_compare_100 : decode bb_M_compare 100 = .ok (.iconst 1, 1) := by decide +kernel
theorem dd_M_compare_101 : decode bb_M_compare 101 = .ok (.iadd, 1) := by decide +kernel
theorem dd_M_compare_102 : decode bb_M_compare 102 = .ok (.putfield 96, 3) := by decide +kernel
theorem dd_M_compare_105 : decode bb_M_compare 105 = .ok (.aload_n 0, 1) := by decide +kernel
theorem dd_M_compare_106 : decode bb_M_compare 106 = .ok (.iload_n 2, 1) := by decide +kernel
theorem dd_M_compare_107 : decode bb_M_compare 107 = .ok (.invokevirtual 176, 3) := by decide +kernel
theorem dd_M_compare_110 : decode bb_M_compare 110 = .ok (.ifCond .ne 5, 3) := by decide +kernel
theorem dd_M_compare_113 : decode bb_M_compare 113 = .ok (.iconst 0, 1) := by decide +kernel
theorem dd_M_compare_114 : decode bb_M_compare 114 = .ok (.ireturn, 1) := by decide +kernel
theorem dd_M_compare_115 : decode bb_M_compare 115 = .ok (.iload_n 1, 1) := by decide +kernel
theorem dd_M_compare_116 : decode bb_M_compare 116 = .ok (.bipush 60, 2) := by decide +kernel
theorem dd_M_compare_118 : decode bb_M_compare 118 = .ok (.if_icmp .ne 15, 3) := by decide +kernel
theorem dd_M_compare_121 : decode bb_M_compare 121 = .ok (.iload_n 3, 1) := by decide +kernel
theorem dd_M_compare_122 : decode bb_M_compare 122 = .ok (.ifCond .eq 7, 3) := by decide +kernel
theorem dd_M_compare_125 : decode bb_M_compare 125 = .ok (.iconst 1, 1) := by decide +kernel
theorem dd_M_compare_126 : decode bb_M_compare 126 = .ok (.goto 26, 3) := by decide +kernel
theorem dd_M_compare_129 : decode bb_M_compare 129 = .ok (.iconst 0, 1) := by decide +kernel
theorem dd_M_compare_130 : decode bb_M_compare 130 = .ok (.goto 22, 3) := by decide +kernel
theorem dd_M_compare_133 : decode bb_M_compare 133 = .ok (.iload_n 1, 1) := by decide +kernel
theorem dd_M_compare_134 : decode bb_M_compare 134 = .ok (.bipush 61, 2) := by decide +kernel
theorem dd_M_compare_136 : decode bb_M_compare 136 = .ok (.if_icmp .ne 7, 3) := by decide +kernel
theorem dd_M_compare_139 : decode bb_M_compare 139 = .ok (.iconst 2, 1) := by decide +kernel
theorem dd_M_compare_140 : decode bb_M_compare 140 = .ok (.goto 12, 3) := by decide +kernel
theorem dd_M_compare_143 : decode bb_M_compare 143 = .ok (.iload_n 3, 1) := by decide +kernel
theorem dd_M_compare_144 : decode bb_M_compare 144 = .ok (.ifCond .eq 7, 3) := by decide +kernel
theorem dd_M_compare_147 : decode bb_M_compare 147 = .ok (.iconst 3, 1) := by decide +kernel
theorem dd_M_compare_148 : decode bb_M_compare 148 = .ok (.goto 4, 3) := by decide +kernel
theorem dd_M_compare_151 : decode bb_M_compare 151 = .ok (.iconst 4, 1) := by decide +kernel
theorem dd_M_compare_152 : decode bb_M_compare 152 = .ok (.istore 4, 2) := by decide +kernel
theorem dd_M_compare_154 : decode bb_M_compare 154 = .ok (.aload_n 0, 1) := by decide +kernel
theorem dd_M_compare_155 : decode bb_M_compare 155 = .ok (.invokevirtual 189, 3) := by decide +kernel
theorem dd_M_compare_158 : decode bb_M_compare 158 = .ok (.ifCond .ne 5, 3) := by decide +kernel
theorem dd_M_compare_161 : decode bb_M_compare 161 = .ok (.iconst 0, 1) := by decide +kernel
theorem dd_M_compare_162 : decode bb_M_compare 162 = .ok (.ireturn, 1) := by decide +kernel
theorem dd_M_compare_163 : decode bb_M_compare 163 = .ok (.aload_n 0, 1) := by decide +kernel
theorem dd_M_compare_164 : decode bb_M_compare 164 = .ok (.bipush 6, 2) := by decide +kernel
theorem dd_M_compare_166 : decode bb_M_compare 166 = .ok (.iload 4, 2) := by decide +kernel
theorem dd_M_compare_168 : decode bb_M_compare 168 = .ok (.iadd, 1) := by decide +kernel
theorem dd_M_compare_169 : decode bb_M_compare 169 = .ok (.iconst 0, 1) := by decide +kernel
theorem dd_M_compare_170 : decode bb_M_compare 170 = .ok (.invokevirtual 168, 3) := by decide +kernel
theorem dd_M_compare_173 : decode bb_M_compare 173 = .ok (.iconst 1, 1) := by decide +kernel
theorem dd_M_compare_174 : decode bb_M_compare 174 = .ok (.ireturn, 1) := by decide +kernel
def mm_M_compare_j152 (N : Nat) (this : Option Nat) (s0_152 : Int32) (h_152 : ss_Hp) : Option (Int32 × ss_Hp) :=
  ss_b2 (mm_M_sum N this h_152) fun v1 h2 =>
  if v1 = 0 then
    some ((0 : Int32), h2)
  else
    (mm_M_puts N this ((6 : Int32) + s0_152) (0 : Int32) h2).bind fun h4 =>
    some ((1 : Int32), h4)
def mm_M_compare_j105 (N : Nat) (this : Option Nat) (x1_105 : Int32) (x2_105 : Int32) (x3_105 : Int32) (h_105 : ss_Hp) : Option (Int32 × ss_Hp) :=
  ss_b2 (mm_M_makes N this x2_105 h_105) fun v5 h6 =>
  if v5 = 0 then
    some ((0 : Int32), h6)
  else
    if x1_105 = (60 : Int32) then
      if x3_105 = 0 then
        mm_M_compare_j152 N this (0 : Int32) h6
      else
        mm_M_compare_j152 N this (1 : Int32) h6
    else
      if x1_105 = (61 : Int32) then
        mm_M_compare_j152 N this (2 : Int32) h6
      else
        if x3_105 = 0 then
          mm_M_compare_j152 N this (4 : Int32) h6
        else
          mm_M_compare_j152 N this (3 : Int32) h6
def mm_M_compare_j90 (N : Nat) (this : Option Nat) (x1_90 : Int32) (x2_90 : Int32) (s0_90 : Int32) (h_90 : ss_Hp) : Option (Int32 × ss_Hp) :=
  if s0_90 = 0 then
    mm_M_compare_j105 N this x1_90 x2_90 s0_90 h_90
  else
    (ss_gi h_90 this 12 2).bind fun v13 =>
    (ss_pi h_90 this 12 2 (v13 + (1 : Int32))).bind fun h14 =>
    mm_M_compare_j105 N this x1_90 x2_90 s0_90 h14
def mm_M_compare_j89 (N : Nat) (this : Option Nat) (x1_89 : Int32) (x2_89 : Int32) (h_89 : ss_Hp) : Option (Int32 × ss_Hp) :=
  mm_M_compare_j90 N this x1_89 x2_89 (0 : Int32) h_89
def mm_M_compare_j44 (N : Nat) (this : Option Nat) (x1_44 : Int32) (x2_44 : Int32) (h_44 : ss_Hp) : Option (Int32 × ss_Hp) :=
  (ss_gi h_44 this 12 2).bind fun v15 =>
  (ss_pi h_44 this 12 2 (v15 + (1 : Int32))).bind fun h16 =>
  if x1_44 = (61 : Int32) then
    mm_M_compare_j89 N this x1_44 x2_44 h16
  else
    (ss_gi h16 this 12 2).bind fun v18 =>
    (ss_gi h16 this 12 0).bind fun v19 =>
    if v19 ≤ v18 then
      mm_M_compare_j89 N this x1_44 x2_44 h16
    else
      (ss_gr h16 this 12 0).bind fun r21 =>
      (ss_gi h16 this 12 2).bind fun v22 =>
      (ss_ai h16 r21 21 v22).bind fun v23 =>
      if v23 = (61 : Int32) then
        mm_M_compare_j90 N this x1_44 x2_44 (1 : Int32) h16
      else
        mm_M_compare_j89 N this x1_44 x2_44 h16
def mm_M_compare (N : Nat) (this : Option Nat) (h : ss_Hp) : Option (Int32 × ss_Hp) :=
  if ss_is h this 12 = true then
    ss_b2 (mm_M_sum N this h) fun v25 h26 =>
    if v25 = 0 then
      some ((0 : Int32), h26)
    else
      ss_b2 (mm_M_see N this h26) fun v28 h29 =>
      (ss_gi h29 this 12 2).bind fun v30 =>
      if v28 = (60 : Int32) then
        mm_M_compare_j44 N this v28 v30 h29
      else
        if v28 = (61 : Int32) then
          mm_M_compare_j44 N this v28 v30 h29
        else
          if v28 = (62 : Int32) then
            mm_M_compare_j44 N this v28 v30 h29
          else
            ss_b2 (mm_M_fails N this (0 : Int32) v30 h29) fun v34 h35 =>
            (ss_bz v34).bind fun v36 =>
            some (v36, h35)
  else none
abbrev ww_M_compare (p : Program) (l : Launch) (e : Env) (s : State) (m : MethodId) (below : List Frame) (meth : Method) (c : Code) (G : ss_G) (this : Option Nat) (h : ss_Hp) (rr : Int32) (hh : ss_Hp) (H : Heap) (locs : List Loc) (k n : Nat) (g : JFrame) : Prop := W p l e (headSpec (ss_w yy_M_compare bb_M_compare 5 (some .boolean)) ({ frames := 6, cells := 0, slots := 0, locals := 130 })).room s m ([ss_v (ss_b G) this] : List Value).toArray below meth c H locs k n (MQ below (ss_Qc G (some (.int rr)) hh) ([ss_v (ss_b G) this] : List Value).toArray s 0 0 (ss_A G)) g
theorem ck_M_compare {N : Nat} {this : Option Nat} {h : ss_Hp} {res : Int32 × ss_Hp} (hm : mm_M_compare N this h = some res) : ss_is h this 12 = true := (ss_chk hm).1
set_option maxHeartbeats 4000000 in
set_option maxRecDepth 100000 in
theorem cc_M_compare (l : Launch) (G : ss_G) (N : Nat) (this : Option Nat) (h : ss_Hp) (rr : Int32) (hh : ss_Hp) (hm : mm_M_compare N this h = some (rr, hh)) : ss_Ct l G yy_M_compare bb_M_compare 5 (some .boolean) ({ frames := 6, cells := 0, slots := 0, locals := 130 }) [ss_v (ss_b G) this] h (some (.int rr)) hh := by
  obtain ⟨hck, hm⟩ := ss_chk hm
  refine Met.ofW (cc := bb_M_compare) (maxL := 5) (ret := (some .boolean)) (by decide) rfl ?_
  intro p e s m args below meth c s₁ B hml hv
  obtain ⟨rfl, hR, hK⟩ := hv
  have hC : CallFix p m c bb_M_compare 5 s _ lw_g sR_12 := ⟨B.exec, B.bytes, hml, findClass_of_methodNamed B.named, fun w hw => atoms_spec (ws := ss_w yy_M_compare bb_M_compare 5 (some .boolean)) B.pre w (List.mem_cons_of_mem _ hw)⟩
  have hx := hC.1
  have hb := hC.2.1
  have hr := B.returns
  have hlocks := B.notSynchronized
  have hS : va_S (ss_A G) s.heap s.heap [] := va_S.rf
  have hl := lv_entry ([ss_v (ss_b G) this]) (n := 5) (by simp [lg_sl, ss_v_cat, ss_cat_i, ss_cat_l, ss_cat_r])
  rw [lg_entry_eq]
  generalize (lg_sl ([ss_v (ss_b G) this]) ++ List.replicate (5 - (lg_sl ([ss_v (ss_b G) this])).length) Slot.unset).toArray = ls at hl ⊢
  have hl : lv_has ls 5 [(0, ss_v (ss_b G) this)] := by simpa [lv_args, ss_v_cat, ss_cat_i, ss_cat_l, ss_cat_r] using hl
  have J_152 : ∀ (s0_152 : Int32) (h_152 : ss_Hp) (H : Heap) (locs : List Loc) (ls : Array Slot), mm_M_compare_j152 N this s0_152 h_152 = some (rr, hh) → ss_R G h_152 H → va_S (ss_A G) s.heap H locs → lv_has ls 5 [(0, ss_v (ss_b G) this)] → ww_M_compare p l e s m below meth c G this h rr hh  H locs 0 0 (F0 m 152 ls [.int s0_152]) := by
    intro s0_152 h_152 H locs ls hm hR hS hl
    refine lv_istore (lv' := [(4, .int s0_152), (0, ss_v (ss_b G) this)]) hx hb dd_M_compare_152 hl (by decide) rfl (fun ls hl => ?_)
    refine ss_aload_n hx hb dd_M_compare_154 rfl (lv_at hl 1 rfl) ?_
    obtain ⟨v1, h2, qh2, hm⟩ := ss_bind2 hm
    refine ss_cV 0 0 (As := []) hC hK hR hS hl.1 (cc_M_sum l G N _ _ _ _ qh2) km_M_189 (ck_M_sum qh2) ⟨Nat.le_of_ble_eq_true rfl, Nat.le_of_ble_eq_true rfl⟩ ⟨Nat.le_of_ble_eq_true rfl, Nat.le_of_ble_eq_true rfl, Nat.le_of_ble_eq_true rfl, Nat.le_of_ble_eq_true rfl⟩ rfl rfl (Nat.le_of_ble_eq_true rfl) dd_M_compare_155 (fun H locs hR hS => ?_)
    refine lv_if_ne (tgt := 163) hx hb dd_M_compare_158 (by decide) (fun c3 => ?_) (fun c3 => ?_)
    · have hm := ss_iff hm c3
      refine ss_aload_n hx hb dd_M_compare_163 rfl (lv_at hl 1 rfl) ?_
      refine lv_bipush (v := 6) hx hb dd_M_compare_164 (by decide) ?_
      refine lv_iload hx hb dd_M_compare_166 (lv_at hl 0 rfl) ?_
      refine lv_iadd hx hb dd_M_compare_168 ?_
      refine lv_iconst (v := 0) hx hb dd_M_compare_169 (by decide) ?_
      obtain ⟨h4, qh4, hm⟩ := ss_bind hm
      refine ss_cVv 0 0 (As := [.int ((6 : Int32) + s0_152), .int (0 : Int32)]) hC hK hR hS hl.1 (cc_M_puts l G N _ _ _ _ _ qh4) km_M_168 (ck_M_puts qh4) ⟨Nat.le_of_ble_eq_true rfl, Nat.le_of_ble_eq_true rfl⟩ ⟨Nat.le_of_ble_eq_true rfl, Nat.le_of_ble_eq_true rfl, Nat.le_of_ble_eq_true rfl, Nat.le_of_ble_eq_true rfl⟩ rfl rfl (Nat.le_of_ble_eq_true rfl) dd_M_compare_170 (fun H locs hR hS => ?_)
      refine lv_iconst (v := 1) hx hb dd_M_compare_173 (by decide) ?_
      exact ss_zret hC hr (by decide) hlocks hR hS hm dd_M_compare_174
    · have hm := ss_ift hm c3
      refine lv_iconst (v := 0) hx hb dd_M_compare_161 (by decide) ?_
      exact ss_zret hC hr (by decide) hlocks hR hS hm dd_M_compare_162
  have J_105 : ∀ (x1_105 : Int32) (x2_105 : Int32) (x3_105 : Int32) (h_105 : ss_Hp) (H : Heap) (locs : List Loc) (ls : Array Slot), mm_M_compare_j105 N this x1_105 x2_105 x3_105 h_105 = some (rr, hh) → ss_R G h_105 H → va_S (ss_A G) s.heap H locs → lv_has ls 5 [(0, ss_v (ss_b G) this), (1, .int x1_105), (2, .int x2_105), (3, .int x3_105)] → ww_M_compare p l e s m below meth c G this h rr hh  H locs 0 0 (F0 m 105 ls []) := by
    intro x1_105 x2_105 x3_105 h_105 H locs ls hm hR hS hl
    refine ss_aload_n hx hb dd_M_compare_105 rfl (lv_at hl 0 rfl) ?_
    refine lv_iload_n hx hb dd_M_compare_106 rfl (lv_at hl 2 rfl) ?_
    obtain ⟨v5, h6, qh6, hm⟩ := ss_bind2 hm
    refine ss_cV 0 0 (As := [.int x2_105]) hC hK hR hS hl.1 (cc_M_makes l G N _ _ _ _ _ qh6) km_M_176 (ck_M_makes qh6) ⟨Nat.le_of_ble_eq_true rfl, Nat.le_of_ble_eq_true rfl⟩ ⟨Nat.le_of_ble_eq_true rfl, Nat.le_of_ble_eq_true rfl, Nat.le_of_ble_eq_true rfl, Nat.le_of_ble_eq_true rfl⟩ rfl rfl (Nat.le_of_ble_eq_true rfl) dd_M_compare_107 (fun H locs hR hS => ?_)
    refine lv_if_ne (tgt := 115) hx hb dd_M_compare_110 (by decide) (fun c7 => ?_) (fun c7 => ?_)
    · have hm := ss_iff hm c7
      refine lv_iload_n hx hb dd_M_compare_115 rfl (lv_at hl 1 rfl) ?_
      refine lv_bipush (v := 60) hx hb dd_M_compare_116 (by decide) ?_
      refine lv_icmp_ne (tgt := 133) hx hb dd_M_compare_118 (by decide) (fun c8 => ?_) (fun c8 => ?_)
      · have hm := ss_iff hm c8
        refine lv_iload_n hx hb dd_M_compare_133 rfl (lv_at hl 1 rfl) ?_
        refine lv_bipush (v := 61) hx hb dd_M_compare_134 (by decide) ?_
        refine lv_icmp_ne (tgt := 143) hx hb dd_M_compare_136 (by decide) (fun c9 => ?_) (fun c9 => ?_)
        · have hm := ss_iff hm c9
          refine lv_iload_n hx hb dd_M_compare_143 rfl (lv_at hl 3 rfl) ?_
          refine lv_if_eq (tgt := 151) hx hb dd_M_compare_144 (by decide) (fun c10 => ?_) (fun c10 => ?_)
          · have hm := ss_ift hm c10
            refine lv_iconst (v := 4) hx hb dd_M_compare_151 (by decide) ?_
            exact J_152 (4 : Int32) h6 _ _ _ hm hR hS (lv_sub hl [0] rfl)
          · have hm := ss_iff hm c10
            refine lv_iconst (v := 3) hx hb dd_M_compare_147 (by decide) ?_
            refine lv_goto (tgt := 152) hx hb dd_M_compare_148 (by decide) ?_
            exact J_152 (3 : Int32) h6 _ _ _ hm hR hS (lv_sub hl [0] rfl)
        · have hm := ss_ift hm c9
          refine lv_iconst (v := 2) hx hb dd_M_compare_139 (by decide) ?_
          refine lv_goto (tgt := 152) hx hb dd_M_compare_140 (by decide) ?_
          exact J_152 (2 : Int32) h6 _ _ _ hm hR hS (lv_sub hl [0] rfl)
      · have hm := ss_ift hm c8
        refine lv_iload_n hx hb dd_M_compare_121 rfl (lv_at hl 3 rfl) ?_
        refine lv_if_eq (tgt := 129) hx hb dd_M_compare_122 (by decide) (fun c11 => ?_) (fun c11 => ?_)
        · have hm := ss_ift hm c11
          refine lv_iconst (v := 0) hx hb dd_M_compare_129 (by decide) ?_
          refine lv_goto (tgt := 152) hx hb dd_M_compare_130 (by decide) ?_
          exact J_152 (0 : Int32) h6 _ _ _ hm hR hS (lv_sub hl [0] rfl)
        · have hm := ss_iff hm c11
          refine lv_iconst (v := 1) hx hb dd_M_compare_125 (by decide) ?_
          refine lv_goto (tgt := 152) hx hb dd_M_compare_126 (by decide) ?_
          exact J_152 (1 : Int32) h6 _ _ _ hm hR hS (lv_sub hl [0] rfl)
    · have hm := ss_ift hm c7
      refine lv_iconst (v := 0) hx hb dd_M_compare_113 (by decide) ?_
      exact ss_zret hC hr (by decide) hlocks hR hS hm dd_M_compare_114
  have J_90 : ∀ (x1_90 : Int32) (x2_90 : Int32) (s0_90 : Int32) (h_90 : ss_Hp) (H : Heap) (locs : List Loc) (ls : Array Slot), mm_M_compare_j90 N this x1_90 x2_90 s0_90 h_90 = some (rr, hh) → ss_R G h_90 H → va_S (ss_A G) s.heap H locs → lv_has ls 5 [(0, ss_v (ss_b G) this), (1, .int x1_90), (2, .int x2_90)] → ww_M_compare p l e s m below meth c G this h rr hh  H locs 0 0 (F0 m 90 ls [.int s0_90]) := by
    intro x1_90 x2_90 s0_90 h_90 H locs ls hm hR hS hl
    refine lv_istore_n (lv' := [(3, .int s0_90), (0, ss_v (ss_b G) this), (1, .int x1_90), (2, .int x2_90)]) hx hb dd_M_compare_90 rfl hl (by decide) rfl (fun ls hl => ?_)
    refine lv_iload_n hx hb dd_M_compare_91 rfl (lv_at hl 0 rfl) ?_
    refine lv_if_eq (tgt := 105) hx hb dd_M_compare_92 (by decide) (fun c12 => ?_) (fun c12 => ?_)
    · have hm := ss_ift hm c12
      exact J_105 x1_90 x2_90 s0_90 h_90 _ _ _ hm hR hS (lv_sub hl [1, 2, 3, 0] rfl)
    · have hm := ss_iff hm c12
      refine ss_aload_n hx hb dd_M_compare_95 rfl (lv_at hl 1 rfl) ?_
      refine ss_dupr hx hb dd_M_compare_96 ?_
      obtain ⟨v13, qv13, hm⟩ := ss_bind hm
      refine ss_geti hC hK hR kf_M_96 qv13 dd_M_compare_97 ?_
      refine lv_iconst (v := 1) hx hb dd_M_compare_100 (by decide) ?_
      refine lv_iadd hx hb dd_M_compare_101 ?_
      obtain ⟨h14, qh14, hm⟩ := ss_bind hm
      refine ss_puti hC hK hR hS kp_M_96 qh14 dd_M_compare_102 (fun H locs hR hS => ?_)
      exact J_105 x1_90 x2_90 s0_90 h14 _ _ _ hm hR hS (lv_sub hl [1, 2, 3, 0] rfl)
  have J_89 : ∀ (x1_89 : Int32) (x2_89 : Int32) (h_89 : ss_Hp) (H : Heap) (locs : List Loc) (ls : Array Slot), mm_M_compare_j89 N this x1_89 x2_89 h_89 = some (rr, hh) → ss_R G h_89 H → va_S (ss_A G) s.heap H locs → lv_has ls 5 [(0, ss_v (ss_b G) this), (1, .int x1_89), (2, .int x2_89)] → ww_M_compare p l e s m below meth c G this h rr hh  H locs 0 0 (F0 m 89 ls []) := by
    intro x1_89 x2_89 h_89 H locs ls hm hR hS hl
    refine lv_iconst (v := 0) hx hb dd_M_compare_89 (by decide) ?_
    exact J_90 x1_89 x2_89 (0 : Int32) h_89 _ _ _ hm hR hS hl
  have J_44 : ∀ (x1_44 : Int32) (x2_44 : Int32) (h_44 : ss_Hp) (H : Heap) (locs : List Loc) (ls : Array Slot), mm_M_compare_j44 N this x1_44 x2_44 h_44 = some (rr, hh) → ss_R G h_44 H → va_S (ss_A G) s.heap H locs → lv_has ls 5 [(0, ss_v (ss_b G) this), (1, .int x1_44), (2, .int x2_44)] → ww_M_compare p l e s m below meth c G this h rr hh  H locs 0 0 (F0 m 44 ls []) := by
    intro x1_44 x2_44 h_44 H locs ls hm hR hS hl
    refine ss_aload_n hx hb dd_M_compare_44 rfl (lv_at hl 0 rfl) ?_
    refine ss_dupr hx hb dd_M_compare_45 ?_
    obtain ⟨v15, qv15, hm⟩ := ss_bind hm
    refine ss_geti hC hK hR kf_M_96 qv15 dd_M_compare_46 ?_
    refine lv_iconst (v := 1) hx hb dd_M_compare_49 (by decide) ?_
    refine lv_iadd hx hb dd_M_compare_50 ?_
    obtain ⟨h16, qh16, hm⟩ := ss_bind hm
    refine ss_puti hC hK hR hS kp_M_96 qh16 dd_M_compare_51 (fun H locs hR hS => ?_)
    refine lv_iload_n hx hb dd_M_compare_54 rfl (lv_at hl 1 rfl) ?_
    refine lv_bipush (v := 61) hx hb dd_M_compare_55 (by decide) ?_
    refine lv_icmp_eq (tgt := 89) hx hb dd_M_compare_57 (by decide) (fun c17 => ?_) (fun c17 => ?_)
    · have hm := ss_ift hm c17
      exact J_89 x1_44 x2_44 h16 _ _ _ hm hR hS hl
    · have hm := ss_iff hm c17
      refine ss_aload_n hx hb dd_M_compare_60 rfl (lv_at hl 0 rfl) ?_
      obtain ⟨v18, qv18, hm⟩ := ss_bind hm
      refine ss_geti hC hK hR kf_M_96 qv18 dd_M_compare_61 ?_
      refine ss_aload_n hx hb dd_M_compare_64 rfl (lv_at hl 0 rfl) ?_
      obtain ⟨v19, qv19, hm⟩ := ss_bind hm
      refine ss_geti hC hK hR kf_M_86 qv19 dd_M_compare_65 ?_
      refine lv_icmp_ge (tgt := 89) hx hb dd_M_compare_68 (by decide) (fun c20 => ?_) (fun c20 => ?_)
      · have hm := ss_ift hm c20
        exact J_89 x1_44 x2_44 h16 _ _ _ hm hR hS hl
      · have hm := ss_iff hm c20
        refine ss_aload_n hx hb dd_M_compare_71 rfl (lv_at hl 0 rfl) ?_
        obtain ⟨r21, qr21, hm⟩ := ss_bind hm
        refine ss_getr hC hK hR kf_M_7 rfl qr21 dd_M_compare_72 ?_
        refine ss_aload_n hx hb dd_M_compare_75 rfl (lv_at hl 0 rfl) ?_
        obtain ⟨v22, qv22, hm⟩ := ss_bind hm
        refine ss_geti hC hK hR kf_M_96 qv22 dd_M_compare_76 ?_
        obtain ⟨v23, qv23, hm⟩ := ss_bind hm
        refine ss_bald hC hK hR qv23 dd_M_compare_79 ?_
        refine lv_bipush (v := 61) hx hb dd_M_compare_80 (by decide) ?_
        refine lv_icmp_ne (tgt := 89) hx hb dd_M_compare_82 (by decide) (fun c24 => ?_) (fun c24 => ?_)
        · have hm := ss_iff hm c24
          exact J_89 x1_44 x2_44 h16 _ _ _ hm hR hS hl
        · have hm := ss_ift hm c24
          refine lv_iconst (v := 1) hx hb dd_M_compare_85 (by decide) ?_
          refine lv_goto (tgt := 90) hx hb dd_M_compare_86 (by decide) ?_
          exact J_90 x1_44 x2_44 (1 : Int32) h16 _ _ _ hm hR hS hl
  refine ss_aload_n hx hb dd_M_compare_0 rfl (lv_at hl 0 rfl) ?_
  obtain ⟨v25, h26, qh26, hm⟩ := ss_bind2 hm
  refine ss_cV 0 0 (As := []) hC hK hR hS hl.1 (cc_M_sum l G N _ _ _ _ qh26) km_M_189 (ck_M_sum qh26) ⟨Nat.le_of_ble_eq_true rfl, Nat.le_of_ble_eq_true rfl⟩ ⟨Nat.le_of_ble_eq_true rfl, Nat.le_of_ble_eq_true rfl, Nat.le_of_ble_eq_true rfl, Nat.le_of_ble_eq_true rfl⟩ rfl rfl (Nat.le_of_ble_eq_true rfl) dd_M_compare_1 (fun H locs hR hS => ?_)
  refine lv_if_ne (tgt := 9) hx hb dd_M_compare_4 (by decide) (fun c27 => ?_) (fun c27 => ?_)
  · have hm := ss_iff hm c27
    refine ss_aload_n hx hb dd_M_compare_9 rfl (lv_at hl 0 rfl) ?_
    obtain ⟨v28, h29, qh29, hm⟩ := ss_bind2 hm
    refine ss_cV 0 0 (As := []) hC hK hR hS hl.1 (cc_M_see l G N _ _ _ _ qh29) km_M_99 (ck_M_see qh29) ⟨Nat.le_of_ble_eq_true rfl, Nat.le_of_ble_eq_true rfl⟩ ⟨Nat.le_of_ble_eq_true rfl, Nat.le_of_ble_eq_true rfl, Nat.le_of_ble_eq_true rfl, Nat.le_of_ble_eq_true rfl⟩ rfl rfl (Nat.le_of_ble_eq_true rfl) dd_M_compare_10 (fun H locs hR hS => ?_)
    refine lv_istore_n (lv' := [(1, .int v28), (0, ss_v (ss_b G) this)]) hx hb dd_M_compare_13 rfl hl (by decide) (by simp only [List.filter_cons, ss_v_cat]; rfl) (fun ls hl => ?_)
    refine ss_aload_n hx hb dd_M_compare_14 rfl (lv_at hl 1 rfl) ?_
    obtain ⟨v30, qv30, hm⟩ := ss_bind hm
    refine ss_geti hC hK hR kf_M_96 qv30 dd_M_compare_15 ?_
    refine lv_istore_n (lv' := [(2, .int v30), (1, .int v28), (0, ss_v (ss_b G) this)]) hx hb dd_M_compare_18 rfl hl (by decide) rfl (fun ls hl => ?_)
    refine lv_iload_n hx hb dd_M_compare_19 rfl (lv_at hl 1 rfl) ?_
    refine lv_bipush (v := 60) hx hb dd_M_compare_20 (by decide) ?_
    refine lv_icmp_eq (tgt := 44) hx hb dd_M_compare_22 (by decide) (fun c31 => ?_) (fun c31 => ?_)
    · have hm := ss_ift hm c31
      exact J_44 v28 v30 h29 _ _ _ hm hR hS (lv_sub hl [2, 1, 0] rfl)
    · have hm := ss_iff hm c31
      refine lv_iload_n hx hb dd_M_compare_25 rfl (lv_at hl 1 rfl) ?_
      refine lv_bipush (v := 61) hx hb dd_M_compare_26 (by decide) ?_
      refine lv_icmp_eq (tgt := 44) hx hb dd_M_compare_28 (by decide) (fun c32 => ?_) (fun c32 => ?_)
      · have hm := ss_ift hm c32
        exact J_44 v28 v30 h29 _ _ _ hm hR hS (lv_sub hl [2, 1, 0] rfl)
      · have hm := ss_iff hm c32
        refine lv_iload_n hx hb dd_M_compare_31 rfl (lv_at hl 1 rfl) ?_
        refine lv_bipush (v := 62) hx hb dd_M_compare_32 (by decide) ?_
        refine lv_icmp_eq (tgt := 44) hx hb dd_M_compare_34 (by decide) (fun c33 => ?_) (fun c33 => ?_)
        · have hm := ss_ift hm c33
          exact J_44 v28 v30 h29 _ _ _ hm hR hS (lv_sub hl [2, 1, 0] rfl)
        · have hm := ss_iff hm c33
          refine ss_aload_n hx hb dd_M_compare_37 rfl (lv_at hl 2 rfl) ?_
          refine lv_iconst (v := 0) hx hb dd_M_compare_38 (by decide) ?_
          refine lv_iload_n hx hb dd_M_compare_39 rfl (lv_at hl 0 rfl) ?_
          obtain ⟨v34, h35, qh35, hm⟩ := ss_bind2 hm
          refine ss_cV 0 0 (As := [.int (0 : Int32), .int v30]) hC hK hR hS hl.1 (cc_M_fails l G N _ _ _ _ _ _ qh35) km_M_117 (ck_M_fails qh35) ⟨Nat.le_of_ble_eq_true rfl, Nat.le_of_ble_eq_true rfl⟩ ⟨Nat.le_of_ble_eq_true rfl, Nat.le_of_ble_eq_true rfl, Nat.le_of_ble_eq_true rfl, Nat.le_of_ble_eq_true rfl⟩ rfl rfl (Nat.le_of_ble_eq_true rfl) dd_M_compare_40 (fun H locs hR hS => ?_)
          obtain ⟨v36, qv36, hm⟩ := ss_bind hm
          obtain ⟨hnb, rfl⟩ := ss_bzs qv36
          exact ss_zret hC hr hnb hlocks hR hS hm dd_M_compare_43
  · have hm := ss_ift hm c27
    refine lv_iconst (v := 0) hx hb dd_M_compare_7 (by decide) ?_
    exact ss_zret hC hr (by decide) hlocks hR hS hm dd_M_compare_8
theorem dd_M_fact_0 : decode bb_M_fact 0 = .ok (.iconst 1, 1) := by decide +kernel
theorem dd_M_fact_1 : decode bb_M_fact 1 = .ok (.istore_n 1, 1) := by decide +kernel
theorem dd_M_fact_2 : decode bb_M_fact 2 = .ok (.iload_n 1, 1) := by decide +kernel
theorem dd_M_fact_3 : decode bb_M_fact 3 = .ok (.ifCond .eq 72, 3) := by decide +kernel
theorem dd_M_fact_6 : decode bb_M_fact 6 = .ok (.iconst 0, 1) := by decide +kernel
theorem dd_M_fact_7 : decode bb_M_fact 7 = .ok (.istore_n 1, 1) := by decide +kernel
theorem dd_M_fact_8 : decode bb_M_fact 8 = .ok (.aload_n 0, 1) := by decide +kernel
theorem dd_M_fact_9 : decode bb_M_fact 9 = .ok (.invokevirtual 99, 3) := by decide +kernel
theorem dd_M_fact_12 : decode bb_M_fact 12 = .ok (.istore_n 2, 1) := by decide +kernel
theorem dd_M_fact_13 : decode bb_M_fact 13 = .ok (.aload_n 0, 1) := by decide +kernel
theorem dd_M_fact_14 : decode bb_M_fact 14 = .ok (.ldc2_w 192, 3) := by decide +kernel
theorem dd_M_fact_17 : decode bb_M_fact 17 = .ok (.invokevirtual 107, 3) := by decide +kernel
theorem dd_M_fact_20 : decode bb_M_fact 20 = .ok (.ifCond .eq 23, 3) := by decide +kernel
theorem dd_M_fact_23 : decode bb_M_fact 23 = .ok (.aload_n 0, 1) := by decide +kernel
theorem dd_M_fact_24 : decode bb_M_fact 24 = .ok (.bipush 11, 2) := by decide +kernel
theorem dd_M_fact_26 : decode bb_M_fact 26 = .ok (.invokevirtual 194, 3) := by decide +kernel
theorem dd_M_fact_29 : decode bb_M_fact 29 = .ok (.ifCond .ne 5, 3) := by decide +kernel
theorem dd_M_fact_32 : decode bb_M_fact 32 = .ok (.iconst 0, 1) := by decide +kernel
theorem dd_M_fact_33 : decode bb_M_fact 33 = .ok (.ireturn, 1) := by decide +kernel
theorem dd_M_fact_34 : decode bb_M_fact 34 = .ok (.aload_n 0, 1) := by decide +kernel
theorem dd_M_fact_35 : decode bb_M_fact 35 = .ok (.invokevirtual 111, 3) := by decide +kernel
theorem dd_M_fact_38 : decode bb_M_fact 38 = .ok (.iconst 1, 1) := by decide +kernel
theorem dd_M_fact_39 : decode bb_M_fact 39 = .ok (.istore_n 1, 1) := by decide +kernel
theorem dd_M_fact_40 : decode bb_M_fact 40 = .ok (.goto 32, 3) := by decide +kernel
theorem dd_M_fact_43 : decode bb_M_fact 43 = .ok (.iload_n 2, 1) := by decide +kernel
theorem dd_M_fact_44 : decode bb_M_fact 44 = .ok (.bipush 91, 2) := by decide +kernel
theorem dd_M_fact_46 : decode bb_M_fact 46 = .ok (.if_icmp .ne 26, 3) := by decide +kernel
theorem dd_M_fact_49 : decode bb_M_fact 49 = .ok (.aload_n 0, 1) := by decide +kernel
theorem dd_M_fact_50 : decode bb_M_fact 50 = .ok (.bipush 91, 2) := by decide +kernel
theorem dd_M_fact_52 : decode bb_M_fact 52 = .ok (.invokevirtual 194, 3) := by decide +kernel
theorem dd_M_fact_55 : decode bb_M_fact 55 = .ok (.ifCond .ne 5, 3) := by decide +kernel
theorem dd_M_fact_58 : decode bb_M_fact 58 = .ok (.iconst 0, 1) := by decide +kernel
theorem dd_M_fact_59 : decode bb_M_fact 59 = .ok (.ireturn, 1) := by decide +kernel
theorem dd_M_fact_60 : decode bb_M_fact 60 = .ok (.aload_n 0, 1) := by decide +kernel
theorem dd_M_fact_61 : decode bb_M_fact 61 = .ok (.dup, 1) := by decide +kernel
theorem dd_M_fact_62 : decode bb_M_fact 62 = .ok (.getfield 96, 3) := by decide +kernel
theorem dd_M_fact_65 : decode bb_M_fact 65 = .ok (.iconst 1, 1) := by decide +kernel
theorem dd_M_fact_66 : decode bb_M_fact 66 = .ok (.iadd, 1) := by decide +kernel
theorem dd_M_fact_67 : decode bb_M_fact 67 = .ok (.putfield 96, 3) := by decide +kernel
theorem dd_M_fact_70 : decode bb_M_fact 70 = .ok (.iconst 1, 1) := by decide +kernel
theorem dd_M_fact_71 : decode bb_M_fact 71 = .ok (.istore_n 1, 1) := by decide +kernel
theorem dd_M_fact_72 : decode bb_M_fact 72 = .ok (.goto (-70), 3) := by decide +kernel
theorem dd_M_fact_75 : decode bb_M_fact 75 = .ok (.aload_n 0, 1) := by decide +kernel
theorem dd_M_fact_76 : decode bb_M_fact 76 = .ok (.invokevirtual 197, 3) := by decide +kernel
theorem dd_M_fact_79 : decode bb_M_fact 79 = .ok (.ireturn, 1) := by decide +kernel
def mm_M_fact_j72 (N : Nat) (this : Option Nat) (x1_72 : Int32) (h_72 : ss_Hp) : Option ((Int32 × ss_Hp) ⊕ (ss_Hp ⊕ ss_Hp ⊕ ss_Hp)) :=
  some (.inl (x1_72, h_72))
def mm_M_fact_b2 (N : Nat) (this : Option Nat) (st : Int32 × ss_Hp) : Option ((Int32 × ss_Hp) ⊕ (ss_Hp ⊕ ss_Hp ⊕ ss_Hp)) :=
  match st with
  | (x1_2, h_2) =>
    if x1_2 = 0 then
      some (.inr (.inl h_2))
    else
      ss_b2 (mm_M_see N this h_2) fun v5 h6 =>
      ss_b2 (mm_M_isWord N this (7237492 : Int64) h6) fun v7 h8 =>
      if v7 = 0 then
        if v5 = (91 : Int32) then
          ss_b2 (mm_M_opens N this (91 : Int32) h8) fun v11 h12 =>
          if v11 = 0 then
            some (.inr (.inr (.inr h12)))
          else
            (ss_gi h12 this 12 2).bind fun v14 =>
            (ss_pi h12 this 12 2 (v14 + (1 : Int32))).bind fun h15 =>
            mm_M_fact_j72 N this (1 : Int32) h15
        else
          mm_M_fact_j72 N this (0 : Int32) h8
      else
        ss_b2 (mm_M_opens N this (11 : Int32) h8) fun v16 h17 =>
        if v16 = 0 then
          some (.inr (.inr (.inl h17)))
        else
          (mm_M_passWord N this h17).bind fun h19 =>
          mm_M_fact_j72 N this (1 : Int32) h19
def mm_M_fact (N : Nat) (this : Option Nat) (h : ss_Hp) : Option (Int32 × ss_Hp) :=
  if ss_is h this 12 = true then
    (ss_lp (mm_M_fact_b2 N this) N ((1 : Int32), h)).bind fun e_2 =>
    match e_2 with
    | (.inl h_2_75) =>
      ss_b2 (mm_M_compare N this h_2_75) fun v1 h2 =>
      (ss_bz v1).bind fun v3 =>
      some (v3, h2)
    | (.inr (.inl h_2_32)) =>
      some ((0 : Int32), h_2_32)
    | (.inr (.inr h_2_58)) =>
      some ((0 : Int32), h_2_58)
  else none
abbrev ww_M_fact (p : Program) (l : Launch) (e : Env) (s : State) (m : MethodId) (below : List Frame) (meth : Method) (c : Code) (G : ss_G) (this : Option Nat) (h : ss_Hp) (rr : Int32) (hh : ss_Hp) (H : Heap) (locs : List Loc) (k n : Nat) (g : JFrame) : Prop := W p l e (headSpec (ss_w yy_M_fact bb_M_fact 3 (some .boolean)) ({ frames := 7, cells := 0, slots := 0, locals := 154 })).room s m ([ss_v (ss_b G) this] : List Value).toArray below meth c H locs k n (MQ below (ss_Qc G (some (.int rr)) hh) ([ss_v (ss_b G) this] : List Value).toArray s 0 0 (ss_A G)) g
theorem ck_M_fact {N : Nat} {this : Option Nat} {h : ss_Hp} {res : Int32 × ss_Hp} (hm : mm_M_fact N this h = some res) : ss_is h this 12 = true := (ss_chk hm).1
set_option maxHeartbeats 4000000 in
set_option maxRecDepth 100000 in
theorem cc_M_fact (l : Launch) (G : ss_G) (N : Nat) (this : Option Nat) (h : ss_Hp) (rr : Int32) (hh : ss_Hp) (hm : mm_M_fact N this h = some (rr, hh)) : ss_Ct l G yy_M_fact bb_M_fact 3 (some .boolean) ({ frames := 7, cells := 0, slots := 0, locals := 154 }) [ss_v (ss_b G) this] h (some (.int rr)) hh := by
  obtain ⟨hck, hm⟩ := ss_chk hm
  refine Met.ofW (cc := bb_M_fact) (maxL := 3) (ret := (some .boolean)) (by decide) rfl ?_
  intro p e s m args below meth c s₁ B hml hv
  obtain ⟨rfl, hR, hK⟩ := hv
  have hC : CallFix p m c bb_M_fact 3 s _ lw_g sR_12 := ⟨B.exec, B.bytes, hml, findClass_of_methodNamed B.named, fun w hw => atoms_spec (ws := ss_w yy_M_fact bb_M_fact 3 (some .boolean)) B.pre w (List.mem_cons_of_mem _ hw)⟩
  have hx := hC.1
  have hb := hC.2.1
  have hr := B.returns
  have hlocks := B.notSynchronized
  have hS : va_S (ss_A G) s.heap s.heap [] := va_S.rf
  have hl := lv_entry ([ss_v (ss_b G) this]) (n := 3) (by simp [lg_sl, ss_v_cat, ss_cat_i, ss_cat_l, ss_cat_r])
  rw [lg_entry_eq]
  generalize (lg_sl ([ss_v (ss_b G) this]) ++ List.replicate (3 - (lg_sl ([ss_v (ss_b G) this])).length) Slot.unset).toArray = ls at hl ⊢
  have hl : lv_has ls 3 [(0, ss_v (ss_b G) this)] := by simpa [lv_args, ss_v_cat, ss_cat_i, ss_cat_l, ss_cat_r] using hl
  refine lv_iconst (v := 1) hx hb dd_M_fact_0 (by decide) ?_
  refine lv_istore_n (lv' := [(1, .int (1 : Int32)), (0, ss_v (ss_b G) this)]) hx hb dd_M_fact_1 rfl hl (by decide) (by simp only [List.filter_cons, ss_v_cat]; rfl) (fun ls hl => ?_)
  obtain ⟨e_2, he_2, hm⟩ := ss_bind hm
  have X_2_75 : ∀  (h_2_75 : ss_Hp) (H : Heap) (locs : List Loc) (ls : Array Slot), e_2 = (.inl h_2_75) → ss_R G h_2_75 H → va_S (ss_A G) s.heap H locs → lv_has ls 3 [(0, ss_v (ss_b G) this)] → ww_M_fact p l e s m below meth c G this h rr hh  H locs 0 0 (F0 m 75 ls []) := by
    intro h_2_75 H locs ls hq hR hS hl
    rw [hq] at hm
    refine ss_aload_n hx hb dd_M_fact_75 rfl (lv_at hl 0 rfl) ?_
    obtain ⟨v1, h2, qh2, hm⟩ := ss_bind2 hm
    refine ss_cV 0 0 (As := []) hC hK hR hS hl.1 (cc_M_compare l G N _ _ _ _ qh2) km_M_197 (ck_M_compare qh2) ⟨Nat.le_of_ble_eq_true rfl, Nat.le_of_ble_eq_true rfl⟩ ⟨Nat.le_of_ble_eq_true rfl, Nat.le_of_ble_eq_true rfl, Nat.le_of_ble_eq_true rfl, Nat.le_of_ble_eq_true rfl⟩ rfl rfl (Nat.le_of_ble_eq_true rfl) dd_M_fact_76 (fun H locs hR hS => ?_)
    obtain ⟨v3, qv3, hm⟩ := ss_bind hm
    obtain ⟨hnb, rfl⟩ := ss_bzs qv3
    exact ss_zret hC hr hnb hlocks hR hS hm dd_M_fact_79
  have X_2_32 : ∀  (h_2_32 : ss_Hp) (H : Heap) (locs : List Loc) (ls : Array Slot), e_2 = (.inr (.inl h_2_32)) → ss_R G h_2_32 H → va_S (ss_A G) s.heap H locs → lv_has ls 3 [] → ww_M_fact p l e s m below meth c G this h rr hh  H locs 0 0 (F0 m 32 ls []) := by
    intro h_2_32 H locs ls hq hR hS hl
    rw [hq] at hm
    refine lv_iconst (v := 0) hx hb dd_M_fact_32 (by decide) ?_
    exact ss_zret hC hr (by decide) hlocks hR hS hm dd_M_fact_33
  have X_2_58 : ∀  (h_2_58 : ss_Hp) (H : Heap) (locs : List Loc) (ls : Array Slot), e_2 = (.inr (.inr h_2_58)) → ss_R G h_2_58 H → va_S (ss_A G) s.heap H locs → lv_has ls 3 [] → ww_M_fact p l e s m below meth c G this h rr hh  H locs 0 0 (F0 m 58 ls []) := by
    intro h_2_58 H locs ls hq hR hS hl
    rw [hq] at hm
    refine lv_iconst (v := 0) hx hb dd_M_fact_58 (by decide) ?_
    exact ss_zret hC hr (by decide) hlocks hR hS hm dd_M_fact_59
  have L_2 : ∀ (n : Nat) (x1_2 : Int32) (h_2 : ss_Hp) (H : Heap) (locs : List Loc) (ls : Array Slot), ss_lp (mm_M_fact_b2 N this) n (x1_2, h_2) = some e_2 → ss_R G h_2 H → va_S (ss_A G) s.heap H locs → lv_has ls 3 [(0, ss_v (ss_b G) this), (1, .int x1_2)] → ww_M_fact p l e s m below meth c G this h rr hh  H locs 0 0 (F0 m 2 ls []) := by
    intro n
    induction n with
    | zero => intro x1_2 h_2 H locs ls hm; cases hm
    | succ n ih_2 =>
      intro x1_2 h_2 H locs ls hm hR hS hl
      obtain ⟨z_2, hm, hz1_2, hz2_2⟩ := ss_lps hm
      have J_72 : ∀ (x1_72 : Int32) (h_72 : ss_Hp) (H : Heap) (locs : List Loc) (ls : Array Slot), mm_M_fact_j72 N this x1_72 h_72 = some z_2 → ss_R G h_72 H → va_S (ss_A G) s.heap H locs → lv_has ls 3 [(0, ss_v (ss_b G) this), (1, .int x1_72)] → ww_M_fact p l e s m below meth c G this h rr hh  H locs 0 0 (F0 m 72 ls []) := by
        intro x1_72 h_72 H locs ls hm hR hS hl
        refine lv_goto (tgt := 2) hx hb dd_M_fact_72 (by decide) ?_
        exact ih_2 x1_72 h_72 _ _ _ (hz1_2 _ (ss_some hm)) hR hS hl
      refine lv_iload_n hx hb dd_M_fact_2 rfl (lv_at hl 1 rfl) ?_
      refine lv_if_eq (tgt := 75) hx hb dd_M_fact_3 (by decide) (fun c4 => ?_) (fun c4 => ?_)
      · have hm := ss_ift hm c4
        exact X_2_75 h_2 _ _ _ (hz2_2 _ (ss_some hm)) hR hS (lv_sub hl [0] rfl)
      · have hm := ss_iff hm c4
        refine lv_iconst (v := 0) hx hb dd_M_fact_6 (by decide) ?_
        refine lv_istore_n (lv' := [(1, .int (0 : Int32)), (0, ss_v (ss_b G) this)]) hx hb dd_M_fact_7 rfl hl (by decide) (by simp only [List.filter_cons, ss_v_cat]; rfl) (fun ls hl => ?_)
        refine ss_aload_n hx hb dd_M_fact_8 rfl (lv_at hl 1 rfl) ?_
        obtain ⟨v5, h6, qh6, hm⟩ := ss_bind2 hm
        refine ss_cV 0 0 (As := []) hC hK hR hS hl.1 (cc_M_see l G N _ _ _ _ qh6) km_M_99 (ck_M_see qh6) ⟨Nat.le_of_ble_eq_true rfl, Nat.le_of_ble_eq_true rfl⟩ ⟨Nat.le_of_ble_eq_true rfl, Nat.le_of_ble_eq_true rfl, Nat.le_of_ble_eq_true rfl, Nat.le_of_ble_eq_true rfl⟩ rfl rfl (Nat.le_of_ble_eq_true rfl) dd_M_fact_9 (fun H locs hR hS => ?_)
        refine lv_istore_n (lv' := [(2, .int v5), (1, .int (0 : Int32)), (0, ss_v (ss_b G) this)]) hx hb dd_M_fact_12 rfl hl (by decide) rfl (fun ls hl => ?_)
        refine ss_aload_n hx hb dd_M_fact_13 rfl (lv_at hl 2 rfl) ?_
        refine lv_ldc2 (v := 7237492) hx hb hC.2.2.2.1 (hC.2.2.2.2 _ kl_M_192) dd_M_fact_14 ?_
        obtain ⟨v7, h8, qh8, hm⟩ := ss_bind2 hm
        refine ss_cV 0 0 (As := [.long (7237492 : Int64)]) hC hK hR hS hl.1 (cc_M_isWord l G N _ _ _ _ _ qh8) km_M_107 (ck_M_isWord qh8) ⟨Nat.le_of_ble_eq_true rfl, Nat.le_of_ble_eq_true rfl⟩ ⟨Nat.le_of_ble_eq_true rfl, Nat.le_of_ble_eq_true rfl, Nat.le_of_ble_eq_true rfl, Nat.le_of_ble_eq_true rfl⟩ rfl rfl (Nat.le_of_ble_eq_true rfl) dd_M_fact_17 (fun H locs hR hS => ?_)
        refine lv_if_eq (tgt := 43) hx hb dd_M_fact_20 (by decide) (fun c9 => ?_) (fun c9 => ?_)
        · have hm := ss_ift hm c9
          refine lv_iload_n hx hb dd_M_fact_43 rfl (lv_at hl 0 rfl) ?_
          refine lv_bipush (v := 91) hx hb dd_M_fact_44 (by decide) ?_
          refine lv_icmp_ne (tgt := 72) hx hb dd_M_fact_46 (by decide) (fun c10 => ?_) (fun c10 => ?_)
          · have hm := ss_iff hm c10
            exact J_72 (0 : Int32) h8 _ _ _ hm hR hS (lv_sub hl [2, 1] rfl)
          · have hm := ss_ift hm c10
            refine ss_aload_n hx hb dd_M_fact_49 rfl (lv_at hl 2 rfl) ?_
            refine lv_bipush (v := 91) hx hb dd_M_fact_50 (by decide) ?_
            obtain ⟨v11, h12, qh12, hm⟩ := ss_bind2 hm
            refine ss_cV 0 0 (As := [.int (91 : Int32)]) hC hK hR hS hl.1 (cc_M_opens l G N _ _ _ _ _ qh12) km_M_194 (ck_M_opens qh12) ⟨Nat.le_of_ble_eq_true rfl, Nat.le_of_ble_eq_true rfl⟩ ⟨Nat.le_of_ble_eq_true rfl, Nat.le_of_ble_eq_true rfl, Nat.le_of_ble_eq_true rfl, Nat.le_of_ble_eq_true rfl⟩ rfl rfl (Nat.le_of_ble_eq_true rfl) dd_M_fact_52 (fun H locs hR hS => ?_)
            refine lv_if_ne (tgt := 60) hx hb dd_M_fact_55 (by decide) (fun c13 => ?_) (fun c13 => ?_)
            · have hm := ss_iff hm c13
              refine ss_aload_n hx hb dd_M_fact_60 rfl (lv_at hl 2 rfl) ?_
              refine ss_dupr hx hb dd_M_fact_61 ?_
              obtain ⟨v14, qv14, hm⟩ := ss_bind hm
              refine ss_geti hC hK hR kf_M_96 qv14 dd_M_fact_62 ?_
              refine lv_iconst (v := 1) hx hb dd_M_fact_65 (by decide) ?_
              refine lv_iadd hx hb dd_M_fact_66 ?_
              obtain ⟨h15, qh15, hm⟩ := ss_bind hm
              refine ss_puti hC hK hR hS kp_M_96 qh15 dd_M_fact_67 (fun H locs hR hS => ?_)
              refine lv_iconst (v := 1) hx hb dd_M_fact_70 (by decide) ?_
              refine lv_istore_n (lv' := [(1, .int (1 : Int32)), (2, .int v5), (0, ss_v (ss_b G) this)]) hx hb dd_M_fact_71 rfl hl (by decide) (by simp only [List.filter_cons, ss_v_cat]; rfl) (fun ls hl => ?_)
              exact J_72 (1 : Int32) h15 _ _ _ hm hR hS (lv_sub hl [2, 0] rfl)
            · have hm := ss_ift hm c13
              exact X_2_58 h12 _ _ _ (hz2_2 _ (ss_some hm)) hR hS (lv_sub hl [] rfl)
        · have hm := ss_iff hm c9
          refine ss_aload_n hx hb dd_M_fact_23 rfl (lv_at hl 2 rfl) ?_
          refine lv_bipush (v := 11) hx hb dd_M_fact_24 (by decide) ?_
          obtain ⟨v16, h17, qh17, hm⟩ := ss_bind2 hm
          refine ss_cV 0 0 (As := [.int (11 : Int32)]) hC hK hR hS hl.1 (cc_M_opens l G N _ _ _ _ _ qh17) km_M_194 (ck_M_opens qh17) ⟨Nat.le_of_ble_eq_true rfl, Nat.le_of_ble_eq_true rfl⟩ ⟨Nat.le_of_ble_eq_true rfl, Nat.le_of_ble_eq_true rfl, Nat.le_of_ble_eq_true rfl, Nat.le_of_ble_eq_true rfl⟩ rfl rfl (Nat.le_of_ble_eq_true rfl) dd_M_fact_26 (fun H locs hR hS => ?_)
          refine lv_if_ne (tgt := 34) hx hb dd_M_fact_29 (by decide) (fun c18 => ?_) (fun c18 => ?_)
          · have hm := ss_iff hm c18
            refine ss_aload_n hx hb dd_M_fact_34 rfl (lv_at hl 2 rfl) ?_
            obtain ⟨h19, qh19, hm⟩ := ss_bind hm
            refine ss_cVv 0 0 (As := []) hC hK hR hS hl.1 (cc_M_passWord l G N _ _ _ qh19) km_M_111 (ck_M_passWord qh19) ⟨Nat.le_of_ble_eq_true rfl, Nat.le_of_ble_eq_true rfl⟩ ⟨Nat.le_of_ble_eq_true rfl, Nat.le_of_ble_eq_true rfl, Nat.le_of_ble_eq_true rfl, Nat.le_of_ble_eq_true rfl⟩ rfl rfl (Nat.le_of_ble_eq_true rfl) dd_M_fact_35 (fun H locs hR hS => ?_)
            refine lv_iconst (v := 1) hx hb dd_M_fact_38 (by decide) ?_
            refine lv_istore_n (lv' := [(1, .int (1 : Int32)), (2, .int v5), (0, ss_v (ss_b G) this)]) hx hb dd_M_fact_39 rfl hl (by decide) (by simp only [List.filter_cons, ss_v_cat]; rfl) (fun ls hl => ?_)
            refine lv_goto (tgt := 72) hx hb dd_M_fact_40 (by decide) ?_
            exact J_72 (1 : Int32) h19 _ _ _ hm hR hS (lv_sub hl [2, 0] rfl)
          · have hm := ss_ift hm c18
            exact X_2_32 h17 _ _ _ (hz2_2 _ (ss_some hm)) hR hS (lv_sub hl [] rfl)
  exact L_2 N (1 : Int32) h _ _ _ he_2 hR hS (lv_sub hl [1, 0] rfl)
theorem dd_M_strength_0 : decode bb_M_strength 0 = .ok (.iload_n 0, 1) := by decide +kernel
theorem dd_M_strength_1 : decode bb_M_strength 1 = .ok (.bipush 13, 2) := by decide +kernel
theorem dd_M_strength_3 : decode bb_M_strength 3 = .ok (.if_icmp .ne 7, 3) := by decide +kernel
theorem dd_M_strength_6 : decode bb_M_strength 6 = .ok (.iconst 1, 1) := by decide +kernel
theorem dd_M_strength_7 : decode bb_M_strength 7 = .ok (.goto 24, 3) := by decide +kernel
theorem dd_M_strength_10 : decode bb_M_strength 10 = .ok (.iload_n 0, 1) := by decide +kernel
theorem dd_M_strength_11 : decode bb_M_strength 11 = .ok (.bipush 12, 2) := by decide +kernel
theorem dd_M_strength_13 : decode bb_M_strength 13 = .ok (.if_icmp .ne 7, 3) := by decide +kernel
theorem dd_M_strength_16 : decode bb_M_strength 16 = .ok (.iconst 2, 1) := by decide +kernel
theorem dd_M_strength_17 : decode bb_M_strength 17 = .ok (.goto 14, 3) := by decide +kernel
theorem dd_M_strength_20 : decode bb_M_strength 20 = .ok (.iload_n 0, 1) := by decide +kernel
theorem dd_M_strength_21 : decode bb_M_strength 21 = .ok (.bipush 11, 2) := by decide +kernel
theorem dd_M_strength_23 : decode bb_M_strength 23 = .ok (.if_icmp .ne 7, 3) := by decide +kernel
theorem dd_M_strength_26 : decode bb_M_strength 26 = .ok (.iconst 3, 1) := by decide +kernel
theorem dd_M_strength_27 : decode bb_M_strength 27 = .ok (.goto 4, 3) := by decide +kernel
theorem dd_M_strength_30 : decode bb_M_strength 30 = .ok (.iconst 0, 1) := by decide +kernel
theorem dd_M_strength_31 : decode bb_M_strength 31 = .ok (.ireturn, 1) := by decide +kernel
def mm_M_strength_j31 (N : Nat) (a1 : Int32) (s0_31 : Int32) : Option Int32 :=
  some s0_31
def mm_M_strength (N : Nat) (a1 : Int32) : Option Int32 :=
  if a1 = (13 : Int32) then
    mm_M_strength_j31 N a1 (1 : Int32)
  else
    if a1 = (12 : Int32) then
      mm_M_strength_j31 N a1 (2 : Int32)
    else
      if a1 = (11 : Int32) then
        mm_M_strength_j31 N a1 (3 : Int32)
      else
        mm_M_strength_j31 N a1 (0 : Int32)
abbrev ww_M_strength (p : Program) (l : Launch) (e : Env) (s : State) (m : MethodId) (below : List Frame) (meth : Method) (c : Code) (G : ss_G) (a1 : Int32) (h : ss_Hp) (rr : Int32) (H : Heap) (locs : List Loc) (k n : Nat) (g : JFrame) : Prop := W p l e (headSpec (ss_w yy_M_strength bb_M_strength 1 (some (.int))) ({ frames := 0, cells := 0, slots := 0, locals := 0 })).room s m ([.int a1] : List Value).toArray below meth c H locs k n (MQ below (ss_Qc G (some (.int rr)) h) ([.int a1] : List Value).toArray s 0 0 (ss_A G)) g
set_option maxHeartbeats 4000000 in
set_option maxRecDepth 100000 in
theorem cc_M_strength (l : Launch) (G : ss_G) (N : Nat) (a1 : Int32) (h : ss_Hp) (rr : Int32) (hm : mm_M_strength N a1 = some rr) : ss_Ct l G yy_M_strength bb_M_strength 1 (some (.int)) ({ frames := 0, cells := 0, slots := 0, locals := 0 }) [.int a1] h (some (.int rr)) h := by
  refine Met.ofW (cc := bb_M_strength) (maxL := 1) (ret := (some (.int))) (by decide) rfl ?_
  intro p e s m args below meth c s₁ B hml hv
  obtain ⟨rfl, hR, hK⟩ := hv
  have hC : CallFix p m c bb_M_strength 1 s _ lw_g sR_12 := ⟨B.exec, B.bytes, hml, findClass_of_methodNamed B.named, fun w hw => atoms_spec (ws := ss_w yy_M_strength bb_M_strength 1 (some (.int))) B.pre w (List.mem_cons_of_mem _ hw)⟩
  have hx := hC.1
  have hb := hC.2.1
  have hr := B.returns
  have hlocks := B.notSynchronized
  have hS : va_S (ss_A G) s.heap s.heap [] := va_S.rf
  have hl := lv_entry ([.int a1]) (n := 1) (Nat.le_of_ble_eq_true rfl)
  rw [lg_entry_eq]
  generalize (lg_sl ([.int a1]) ++ List.replicate (1 - (lg_sl ([.int a1])).length) Slot.unset).toArray = ls at hl ⊢
  have hl : lv_has ls 1 [(0, .int a1)] := hl
  have J_31 : ∀ (s0_31 : Int32) (H : Heap) (locs : List Loc) (ls : Array Slot), mm_M_strength_j31 N a1 s0_31 = some rr → ss_R G h H → va_S (ss_A G) s.heap H locs → lv_has ls 1 [] → ww_M_strength p l e s m below meth c G a1 h rr  H locs 0 0 (F0 m 31 ls [.int s0_31]) := by
    intro s0_31 H locs ls hm hR hS hl
    exact ss_iret hC hr hlocks hR hS (ss_with _ hm) dd_M_strength_31
  refine lv_iload_n hx hb dd_M_strength_0 rfl (lv_at hl 0 rfl) ?_
  refine lv_bipush (v := 13) hx hb dd_M_strength_1 (by decide) ?_
  refine lv_icmp_ne (tgt := 10) hx hb dd_M_strength_3 (by decide) (fun c1 => ?_) (fun c1 => ?_)
  · have hm := ss_iff hm c1
    refine lv_iload_n hx hb dd_M_strength_10 rfl (lv_at hl 0 rfl) ?_
    refine lv_bipush (v := 12) hx hb dd_M_strength_11 (by decide) ?_
    refine lv_icmp_ne (tgt := 20) hx hb dd_M_strength_13 (by decide) (fun c2 => ?_) (fun c2 => ?_)
    · have hm := ss_iff hm c2
      refine lv_iload_n hx hb dd_M_strength_20 rfl (lv_at hl 0 rfl) ?_
      refine lv_bipush (v := 11) hx hb dd_M_strength_21 (by decide) ?_
      refine lv_icmp_ne (tgt := 30) hx hb dd_M_strength_23 (by decide) (fun c3 => ?_) (fun c3 => ?_)
      · have hm := ss_iff hm c3
        refine lv_iconst (v := 0) hx hb dd_M_strength_30 (by decide) ?_
        exact J_31 (0 : Int32)  _ _ _ hm hR hS (lv_sub hl [] rfl)
      · have hm := ss_ift hm c3
        refine lv_iconst (v := 3) hx hb dd_M_strength_26 (by decide) ?_
        refine lv_goto (tgt := 31) hx hb dd_M_strength_27 (by decide) ?_
        exact J_31 (3 : Int32)  _ _ _ hm hR hS (lv_sub hl [] rfl)
    · have hm := ss_ift hm c2
      refine lv_iconst (v := 2) hx hb dd_M_strength_16 (by decide) ?_
      refine lv_goto (tgt := 31) hx hb dd_M_strength_17 (by decide) ?_
      exact J_31 (2 : Int32)  _ _ _ hm hR hS (lv_sub hl [] rfl)
  · have hm := ss_ift hm c1
    refine lv_iconst (v := 1) hx hb dd_M_strength_6 (by decide) ?_
    refine lv_goto (tgt := 31) hx hb dd_M_strength_7 (by decide) ?_
    exact J_31 (1 : Int32)  _ _ _ hm hR hS (lv_sub hl [] rfl)
theorem dd_M_settles_0 : decode bb_M_settles 0 = .ok (.aload_n 0, 1) := by decide +kernel
theorem dd_M_settles_1 : decode bb_M_settles 1 = .ok (.getfield 161, 3) := by decide +kernel
theorem dd_M_settles_4 : decode bb_M_settles 4 = .ok (.ifCond .le 72, 3) := by decide +kernel
theorem dd_M_settles_7 : decode bb_M_settles 7 = .ok (.aload_n 0, 1) := by decide +kernel
theorem dd_M_settles_8 : decode bb_M_settles 8 = .ok (.getfield 29, 3) := by decide +kernel
theorem dd_M_settles_11 : decode bb_M_settles 11 = .ok (.aload_n 0, 1) := by decide +kernel
theorem dd_M_settles_12 : decode bb_M_settles 12 = .ok (.getfield 161, 3) := by decide +kernel
theorem dd_M_settles_15 : decode bb_M_settles 15 = .ok (.iconst 1, 1) := by decide +kernel
theorem dd_M_settles_16 : decode bb_M_settles 16 = .ok (.isub, 1) := by decide +kernel
theorem dd_M_settles_17 : decode bb_M_settles 17 = .ok (.iaload, 1) := by decide +kernel
theorem dd_M_settles_18 : decode bb_M_settles 18 = .ok (.invokestatic 164, 3) := by decide +kernel
theorem dd_M_settles_21 : decode bb_M_settles 21 = .ok (.iload_n 1, 1) := by decide +kernel
theorem dd_M_settles_22 : decode bb_M_settles 22 = .ok (.if_icmp .lt 54, 3) := by decide +kernel
theorem dd_M_settles_25 : decode bb_M_settles 25 = .ok (.aload_n 0, 1) := by decide +kernel
theorem dd_M_settles_26 : decode bb_M_settles 26 = .ok (.dup, 1) := by decide +kernel
theorem dd_M_settles_27 : decode bb_M_settles 27 = .ok (.getfield 161, 3) := by decide +kernel
theorem dd_M_settles_30 : decode bb_M_settles 30 = .ok (.iconst 1, 1) := by decide +kernel
theorem dd_M_settles_31 : decode bb_M_settles 31 = .ok (.isub, 1) := by decide +kernel
theorem dd_M_settles_32 : decode bb_M_settles 32 = .ok (.putfield 161, 3) := by decide +kernel
theorem dd_M_settles_35 : decode bb_M_settles 35 = .ok (.aload_n 0, 1) := by decide +kernel
theorem dd_M_settles_36 : decode bb_M_settles 36 = .ok (.aload_n 0, 1) := by decide +kernel
theorem dd_M_settles_37 : decode bb_M_settles 37 = .ok (.getfield 29, 3) := by decide +kernel
theorem dd_M_settles_40 : decode bb_M_settles 40 = .ok (.aload_n 0, 1) := by decide +kernel
theorem dd_M_settles_41 : decode bb_M_settles 41 = .ok (.getfield 161, 3) := by decide +kernel
theorem dd_M_settles_44 : decode bb_M_settles 44 = .ok (.iaload, 1) := by decide +kernel
theorem dd_M_settles_45 : decode bb_M_settles 45 = .ok (.iconst 0, 1) := by decide +kernel
theorem dd_M_settles_46 : decode bb_M_settles 46 = .ok (.invokevirtual 168, 3) := by decide +kernel
theorem dd_M_settles_49 : decode bb_M_settles 49 = .ok (.aload_n 0, 1) := by decide +kernel
theorem dd_M_settles_50 : decode bb_M_settles 50 = .ok (.getfield 29, 3) := by decide +kernel
theorem dd_M_settles_53 : decode bb_M_settles 53 = .ok (.aload_n 0, 1) := by decide +kernel
theorem dd_M_settles_54 : decode bb_M_settles 54 = .ok (.getfield 161, 3) := by decide +kernel
theorem dd_M_settles_57 : decode bb_M_settles 57 = .ok (.iaload, 1) := by decide +kernel
theorem dd_M_settles_58 : decode bb_M_settles 58 = .ok (.bipush 11, 2) := by decide +kernel
theorem dd_M_settles_60 : decode bb_M_settles 60 = .ok (.if_icmp .ne (-60), 3) := by decide +kernel
theorem dd_M_settles_63 : decode bb_M_settles 63 = .ok (.aload_n 0, 1) := by decide +kernel
theorem dd_M_settles_64 : decode bb_M_settles 64 = .ok (.dup, 1) := by decide +kernel
theorem dd_M_settles_65 : decode bb_M_settles 65 = .ok (.getfield 158, 3) := by decide +kernel
theorem dd_M_settles_68 : decode bb_M_settles 68 = .ok (.iconst 1, 1) := by decide +kernel
theorem dd_M_settles_69 : decode bb_M_settles 69 = .ok (.isub, 1) := by decide +kernel
theorem dd_M_settles_70 : decode bb_M_settles 70 = .ok (.putfield 158, 3) := by decide +kernel
theorem dd_M_settles_73 : decode bb_M_settles 73 = .ok (.goto (-73), 3) := by decide +kernel
theorem dd_M_settles_76 : decode bb_M_settles 76 = .ok (.return_, 1) := by decide +kernel
def mm_M_settles_b0 (N : Nat) (this : Option Nat) (a1 : Int32) (st : ss_Hp) : Option (ss_Hp ⊕ ss_Hp) :=
  match st with
  | h_0 =>
    (ss_gi h_0 this 12 9).bind fun v1 =>
    if v1 ≤ 0 then
      some (.inr h_0)
    else
      (ss_gr h_0 this 12 6).bind fun r3 =>
      (ss_gi h_0 this 12 9).bind fun v4 =>
      (ss_ai h_0 r3 20 (v4 - (1 : Int32))).bind fun v5 =>
      (mm_M_strength N v5).bind fun v6 =>
      if v6 < a1 then
        some (.inr h_0)
      else
        (ss_gi h_0 this 12 9).bind fun v8 =>
        (ss_pi h_0 this 12 9 (v8 - (1 : Int32))).bind fun h9 =>
        (ss_gr h9 this 12 6).bind fun r10 =>
        (ss_gi h9 this 12 9).bind fun v11 =>
        (ss_ai h9 r10 20 v11).bind fun v12 =>
        (mm_M_puts N this v12 (0 : Int32) h9).bind fun h13 =>
        (ss_gr h13 this 12 6).bind fun r14 =>
        (ss_gi h13 this 12 9).bind fun v15 =>
        (ss_ai h13 r14 20 v15).bind fun v16 =>
        if v16 = (11 : Int32) then
          (ss_gi h13 this 12 7).bind fun v18 =>
          (ss_pi h13 this 12 7 (v18 - (1 : Int32))).bind fun h19 =>
          some (.inl h19)
        else
          some (.inl h13)
def mm_M_settles (N : Nat) (this : Option Nat) (a1 : Int32) (h : ss_Hp) : Option ss_Hp :=
  if ss_is h this 12 = true then
    (ss_lp (mm_M_settles_b0 N this a1) N h).bind fun h_0_76 =>
    some h_0_76
  else none
abbrev ww_M_settles (p : Program) (l : Launch) (e : Env) (s : State) (m : MethodId) (below : List Frame) (meth : Method) (c : Code) (G : ss_G) (this : Option Nat) (a1 : Int32) (h : ss_Hp) (hh : ss_Hp) (H : Heap) (locs : List Loc) (k n : Nat) (g : JFrame) : Prop := W p l e (headSpec (ss_w yy_M_settles bb_M_settles 2 none) ({ frames := 1, cells := 0, slots := 0, locals := 22 })).room s m ([ss_v (ss_b G) this, .int a1] : List Value).toArray below meth c H locs k n (MQ below (ss_Qc G none hh) ([ss_v (ss_b G) this, .int a1] : List Value).toArray s 0 0 (ss_A G)) g
theorem ck_M_settles {N : Nat} {this : Option Nat} {a1 : Int32} {h : ss_Hp} {res : ss_Hp} (hm : mm_M_settles N this a1 h = some res) : ss_is h this 12 = true := (ss_chk hm).1
set_option maxHeartbeats 4000000 in
set_option maxRecDepth 100000 in
theorem cc_M_settles (l : Launch) (G : ss_G) (N : Nat) (this : Option Nat) (a1 : Int32) (h : ss_Hp) (hh : ss_Hp) (hm : mm_M_settles N this a1 h = some hh) : ss_Ct l G yy_M_settles bb_M_settles 2 none ({ frames := 1, cells := 0, slots := 0, locals := 22 }) [ss_v (ss_b G) this, .int a1] h none hh := by
  obtain ⟨hck, hm⟩ := ss_chk hm
  refine Met.ofW (cc := bb_M_settles) (maxL := 2) (ret := none) (by decide) rfl ?_
  intro p e s m args below meth c s₁ B hml hv
  obtain ⟨rfl, hR, hK⟩ := hv
  have hC : CallFix p m c bb_M_settles 2 s _ lw_g sR_12 := ⟨B.exec, B.bytes, hml, findClass_of_methodNamed B.named, fun w hw => atoms_spec (ws := ss_w yy_M_settles bb_M_settles 2 none) B.pre w (List.mem_cons_of_mem _ hw)⟩
  have hx := hC.1
  have hb := hC.2.1
  have hr := B.returns
  have hlocks := B.notSynchronized
  have hS : va_S (ss_A G) s.heap s.heap [] := va_S.rf
  have hl := lv_entry ([ss_v (ss_b G) this, .int a1]) (n := 2) (by simp [lg_sl, ss_v_cat, ss_cat_i, ss_cat_l, ss_cat_r])
  rw [lg_entry_eq]
  generalize (lg_sl ([ss_v (ss_b G) this, .int a1]) ++ List.replicate (2 - (lg_sl ([ss_v (ss_b G) this, .int a1])).length) Slot.unset).toArray = ls at hl ⊢
  have hl : lv_has ls 2 [(0, ss_v (ss_b G) this), (1, .int a1)] := by simpa [lv_args, ss_v_cat, ss_cat_i, ss_cat_l, ss_cat_r] using hl
  obtain ⟨e_0, he_0, hm⟩ := ss_bind hm
  have X_0_76 : ∀  (h_0_76 : ss_Hp) (H : Heap) (locs : List Loc) (ls : Array Slot), e_0 = h_0_76 → ss_R G h_0_76 H → va_S (ss_A G) s.heap H locs → lv_has ls 2 [] → ww_M_settles p l e s m below meth c G this a1 h hh  H locs 0 0 (F0 m 76 ls []) := by
    intro h_0_76 H locs ls hq hR hS hl
    rw [hq] at hm
    exact ss_vret hC hr hlocks hR hS hm dd_M_settles_76
  have L_0 : ∀ (n : Nat)  (h_0 : ss_Hp) (H : Heap) (locs : List Loc) (ls : Array Slot), ss_lp (mm_M_settles_b0 N this a1) n h_0 = some e_0 → ss_R G h_0 H → va_S (ss_A G) s.heap H locs → lv_has ls 2 [(0, ss_v (ss_b G) this), (1, .int a1)] → ww_M_settles p l e s m below meth c G this a1 h hh  H locs 0 0 (F0 m 0 ls []) := by
    intro n
    induction n with
    | zero => intro h_0 H locs ls hm; cases hm
    | succ n ih_0 =>
      intro h_0 H locs ls hm hR hS hl
      obtain ⟨z_0, hm, hz1_0, hz2_0⟩ := ss_lps hm
      refine ss_aload_n hx hb dd_M_settles_0 rfl (lv_at hl 0 rfl) ?_
      obtain ⟨v1, qv1, hm⟩ := ss_bind hm
      refine ss_geti hC hK hR kf_M_161 qv1 dd_M_settles_1 ?_
      refine lv_if_le (tgt := 76) hx hb dd_M_settles_4 (by decide) (fun c2 => ?_) (fun c2 => ?_)
      · have hm := ss_ift hm c2
        exact X_0_76 h_0 _ _ _ (hz2_0 _ (ss_some hm)) hR hS (lv_sub hl [] rfl)
      · have hm := ss_iff hm c2
        refine ss_aload_n hx hb dd_M_settles_7 rfl (lv_at hl 0 rfl) ?_
        obtain ⟨r3, qr3, hm⟩ := ss_bind hm
        refine ss_getr hC hK hR kf_M_29 rfl qr3 dd_M_settles_8 ?_
        refine ss_aload_n hx hb dd_M_settles_11 rfl (lv_at hl 0 rfl) ?_
        obtain ⟨v4, qv4, hm⟩ := ss_bind hm
        refine ss_geti hC hK hR kf_M_161 qv4 dd_M_settles_12 ?_
        refine lv_iconst (v := 1) hx hb dd_M_settles_15 (by decide) ?_
        refine lv_isub hx hb dd_M_settles_16 ?_
        obtain ⟨v5, qv5, hm⟩ := ss_bind hm
        refine ss_iald hC hK hR qv5 dd_M_settles_17 ?_
        obtain ⟨v6, qv6, hm⟩ := ss_bind hm
        refine ss_cS 0 0 (As := [.int v5]) hC hK hR hS hl.1 (cc_M_strength l G N _ _ _ qv6) km_M_164 ⟨Nat.le_of_ble_eq_true rfl, Nat.le_of_ble_eq_true rfl⟩ ⟨Nat.le_of_ble_eq_true rfl, Nat.le_of_ble_eq_true rfl, Nat.le_of_ble_eq_true rfl, Nat.le_of_ble_eq_true rfl⟩ rfl rfl (Nat.le_of_ble_eq_true rfl) dd_M_settles_18 (fun H locs hR hS => ?_)
        refine lv_iload_n hx hb dd_M_settles_21 rfl (lv_at hl 1 rfl) ?_
        refine lv_icmp_lt (tgt := 76) hx hb dd_M_settles_22 (by decide) (fun c7 => ?_) (fun c7 => ?_)
        · have hm := ss_ift hm c7
          exact X_0_76 h_0 _ _ _ (hz2_0 _ (ss_some hm)) hR hS (lv_sub hl [] rfl)
        · have hm := ss_iff hm c7
          refine ss_aload_n hx hb dd_M_settles_25 rfl (lv_at hl 0 rfl) ?_
          refine ss_dupr hx hb dd_M_settles_26 ?_
          obtain ⟨v8, qv8, hm⟩ := ss_bind hm
          refine ss_geti hC hK hR kf_M_161 qv8 dd_M_settles_27 ?_
          refine lv_iconst (v := 1) hx hb dd_M_settles_30 (by decide) ?_
          refine lv_isub hx hb dd_M_settles_31 ?_
          obtain ⟨h9, qh9, hm⟩ := ss_bind hm
          refine ss_puti hC hK hR hS kp_M_161 qh9 dd_M_settles_32 (fun H locs hR hS => ?_)
          refine ss_aload_n hx hb dd_M_settles_35 rfl (lv_at hl 0 rfl) ?_
          refine ss_aload_n hx hb dd_M_settles_36 rfl (lv_at hl 0 rfl) ?_
          obtain ⟨r10, qr10, hm⟩ := ss_bind hm
          refine ss_getr hC hK hR kf_M_29 rfl qr10 dd_M_settles_37 ?_
          refine ss_aload_n hx hb dd_M_settles_40 rfl (lv_at hl 0 rfl) ?_
          obtain ⟨v11, qv11, hm⟩ := ss_bind hm
          refine ss_geti hC hK hR kf_M_161 qv11 dd_M_settles_41 ?_
          obtain ⟨v12, qv12, hm⟩ := ss_bind hm
          refine ss_iald hC hK hR qv12 dd_M_settles_44 ?_
          refine lv_iconst (v := 0) hx hb dd_M_settles_45 (by decide) ?_
          obtain ⟨h13, qh13, hm⟩ := ss_bind hm
          refine ss_cVv 0 0 (As := [.int v12, .int (0 : Int32)]) hC hK hR hS hl.1 (cc_M_puts l G N _ _ _ _ _ qh13) km_M_168 (ck_M_puts qh13) ⟨Nat.le_of_ble_eq_true rfl, Nat.le_of_ble_eq_true rfl⟩ ⟨Nat.le_of_ble_eq_true rfl, Nat.le_of_ble_eq_true rfl, Nat.le_of_ble_eq_true rfl, Nat.le_of_ble_eq_true rfl⟩ rfl rfl (Nat.le_of_ble_eq_true rfl) dd_M_settles_46 (fun H locs hR hS => ?_)
          refine ss_aload_n hx hb dd_M_settles_49 rfl (lv_at hl 0 rfl) ?_
          obtain ⟨r14, qr14, hm⟩ := ss_bind hm
          refine ss_getr hC hK hR kf_M_29 rfl qr14 dd_M_settles_50 ?_
          refine ss_aload_n hx hb dd_M_settles_53 rfl (lv_at hl 0 rfl) ?_
          obtain ⟨v15, qv15, hm⟩ := ss_bind hm
          refine ss_geti hC hK hR kf_M_161 qv15 dd_M_settles_54 ?_
          obtain ⟨v16, qv16, hm⟩ := ss_bind hm
          refine ss_iald hC hK hR qv16 dd_M_settles_57 ?_
          refine lv_bipush (v := 11) hx hb dd_M_settles_58 (by decide) ?_
          refine lv_icmp_ne (tgt := 0) hx hb dd_M_settles_60 (by decide) (fun c17 => ?_) (fun c17 => ?_)
          · have hm := ss_iff hm c17
            exact ih_0 h13 _ _ _ (hz1_0 _ (ss_some hm)) hR hS hl
          · have hm := ss_ift hm c17
            refine ss_aload_n hx hb dd_M_settles_63 rfl (lv_at hl 0 rfl) ?_
            refine ss_dupr hx hb dd_M_settles_64 ?_
            obtain ⟨v18, qv18, hm⟩ := ss_bind hm
            refine ss_geti hC hK hR kf_M_158 qv18 dd_M_settles_65 ?_
            refine lv_iconst (v := 1) hx hb dd_M_settles_68 (by decide) ?_
            refine lv_isub hx hb dd_M_settles_69 ?_
            obtain ⟨h19, qh19, hm⟩ := ss_bind hm
            refine ss_puti hC hK hR hS kp_M_158 qh19 dd_M_settles_70 (fun H locs hR hS => ?_)
            refine lv_goto (tgt := 0) hx hb dd_M_settles_73 (by decide) ?_
            exact ih_0 h19 _ _ _ (hz1_0 _ (ss_some hm)) hR hS hl
  exact L_0 N h _ _ _ he_0 hR hS hl
theorem dd_M_isInside_0 : decode bb_M_isInside 0 = .ok (.iconst 0, 1) := by decide +kernel
theorem dd_M_isInside_1 : decode bb_M_isInside 1 = .ok (.istore_n 1, 1) := by decide +kernel
theorem dd_M_isInside_2 : decode bb_M_isInside 2 = .ok (.iload_n 1, 1) := by decide +kernel
theorem dd_M_isInside_3 : decode bb_M_isInside 3 = .ok (.aload_n 0, 1) := by decide +kernel
theorem dd_M_isInside_4 : decode bb_M_isInside 4 = .ok (.getfield 161, 3) := by decide +kernel
theorem dd_M_isInside_7 : decode bb_M_isInside 7 = .ok (.if_icmp .ge 22, 3) := by decide +kernel
theorem dd_M_isInside_10 : decode bb_M_isInside 10 = .ok (.aload_n 0, 1) := by decide +kernel
theorem dd_M_isInside_11 : decode bb_M_isInside 11 = .ok (.getfield 29, 3) := by decide +kernel
theorem dd_M_isInside_14 : decode bb_M_isInside 14 = .ok (.iload_n 1, 1) := by decide +kernel
theorem dd_M_isInside_15 : decode bb_M_isInside 15 = .ok (.iaload, 1) := by decide +kernel
theorem dd_M_isInside_16 : decode bb_M_isInside 16 = .ok (.bipush 91, 2) := by decide +kernel
theorem dd_M_isInside_18 : decode bb_M_isInside 18 = .ok (.if_icmp .ne 5, 3) := by decide +kernel
theorem dd_M_isInside_21 : decode bb_M_isInside 21 = .ok (.iconst 1, 1) := by decide +kernel
theorem dd_M_isInside_22 : decode bb_M_isInside 22 = .ok (.ireturn, 1) := by decide +kernel
theorem dd_M_isInside_23 : decode bb_M_isInside 23 = .ok (.iinc 1 1, 3) := by decide +kernel
theorem dd_M_isInside_26 : decode bb_M_isInside 26 = .ok (.goto (-24), 3) := by decide +kernel
theorem dd_M_isInside_29 : decode bb_M_isInside 29 = .ok (.iconst 0, 1) := by decide +kernel
theorem dd_M_isInside_30 : decode bb_M_isInside 30 = .ok (.ireturn, 1) := by decide +kernel
def mm_M_isInside_b2 (N : Nat) (this : Option Nat) (h : ss_Hp) (st : Int32) : Option (Int32 ⊕ (Unit ⊕ Unit)) :=
  match st with
  | x1_2 =>
    (ss_gi h this 12 9).bind fun v1 =>
    if v1 ≤ x1_2 then
      some (.inr (.inl ()))
    else
      (ss_gr h this 12 6).bind fun r3 =>
      (ss_ai h r3 20 x1_2).bind fun v4 =>
      if v4 = (91 : Int32) then
        some (.inr (.inr ()))
      else
        (some (x1_2 + (1 : Int32))).bind fun v6 =>
        some (.inl v6)
def mm_M_isInside (N : Nat) (this : Option Nat) (h : ss_Hp) : Option Int32 :=
  if ss_is h this 12 = true then
    (ss_lp (mm_M_isInside_b2 N this h) N (0 : Int32)).bind fun e_2 =>
    match e_2 with
    | (.inl ()) =>
      some (0 : Int32)
    | (.inr ()) =>
      some (1 : Int32)
  else none
abbrev ww_M_isInside (p : Program) (l : Launch) (e : Env) (s : State) (m : MethodId) (below : List Frame) (meth : Method) (c : Code) (G : ss_G) (this : Option Nat) (h : ss_Hp) (rr : Int32) (H : Heap) (locs : List Loc) (k n : Nat) (g : JFrame) : Prop := W p l e (headSpec (ss_w yy_M_isInside bb_M_isInside 2 (some .boolean)) ({ frames := 0, cells := 0, slots := 0, locals := 0 })).room s m ([ss_v (ss_b G) this] : List Value).toArray below meth c H locs k n (MQ below (ss_Qc G (some (.int rr)) h) ([ss_v (ss_b G) this] : List Value).toArray s 0 0 (ss_A G)) g
theorem ck_M_isInside {N : Nat} {this : Option Nat} {h : ss_Hp} {res : Int32} (hm : mm_M_isInside N this h = some res) : ss_is h this 12 = true := (ss_chk hm).1
set_option maxHeartbeats 4000000 in
set_option maxRecDepth 100000 in
theorem cc_M_isInside (l : Launch) (G : ss_G) (N : Nat) (this : Option Nat) (h : ss_Hp) (rr : Int32) (hm : mm_M_isInside N this h = some rr) : ss_Ct l G yy_M_isInside bb_M_isInside 2 (some .boolean) ({ frames := 0, cells := 0, slots := 0, locals := 0 }) [ss_v (ss_b G) this] h (some (.int rr)) h := by
  obtain ⟨hck, hm⟩ := ss_chk hm
  refine Met.ofW (cc := bb_M_isInside) (maxL := 2) (ret := (some .boolean)) (by decide) rfl ?_
  intro p e s m args below meth c s₁ B hml hv
  obtain ⟨rfl, hR, hK⟩ := hv
  have hC : CallFix p m c bb_M_isInside 2 s _ lw_g sR_12 := ⟨B.exec, B.bytes, hml, findClass_of_methodNamed B.named, fun w hw => atoms_spec (ws := ss_w yy_M_isInside bb_M_isInside 2 (some .boolean)) B.pre w (List.mem_cons_of_mem _ hw)⟩
  have hx := hC.1
  have hb := hC.2.1
  have hr := B.returns
  have hlocks := B.notSynchronized
  have hS : va_S (ss_A G) s.heap s.heap [] := va_S.rf
  have hl := lv_entry ([ss_v (ss_b G) this]) (n := 2) (by simp [lg_sl, ss_v_cat, ss_cat_i, ss_cat_l, ss_cat_r])
  rw [lg_entry_eq]
  generalize (lg_sl ([ss_v (ss_b G) this]) ++ List.replicate (2 - (lg_sl ([ss_v (ss_b G) this])).length) Slot.unset).toArray = ls at hl ⊢
  have hl : lv_has ls 2 [(0, ss_v (ss_b G) this)] := by simpa [lv_args, ss_v_cat, ss_cat_i, ss_cat_l, ss_cat_r] using hl
  refine lv_iconst (v := 0) hx hb dd_M_isInside_0 (by decide) ?_
  refine lv_istore_n (lv' := [(1, .int (0 : Int32)), (0, ss_v (ss_b G) this)]) hx hb dd_M_isInside_1 rfl hl (by decide) (by simp only [List.filter_cons, ss_v_cat]; rfl) (fun ls hl => ?_)
  obtain ⟨e_2, he_2, hm⟩ := ss_bind hm
  have X_2_29 : ∀  (H : Heap) (locs : List Loc) (ls : Array Slot), e_2 = (.inl ()) → ss_R G h H → va_S (ss_A G) s.heap H locs → lv_has ls 2 [] → ww_M_isInside p l e s m below meth c G this h rr  H locs 0 0 (F0 m 29 ls []) := by
    intro  H locs ls hq hR hS hl
    rw [hq] at hm
    refine lv_iconst (v := 0) hx hb dd_M_isInside_29 (by decide) ?_
    exact ss_zret hC hr (by decide) hlocks hR hS (ss_with _ hm) dd_M_isInside_30
  have X_2_21 : ∀  (H : Heap) (locs : List Loc) (ls : Array Slot), e_2 = (.inr ()) → ss_R G h H → va_S (ss_A G) s.heap H locs → lv_has ls 2 [] → ww_M_isInside p l e s m below meth c G this h rr  H locs 0 0 (F0 m 21 ls []) := by
    intro  H locs ls hq hR hS hl
    rw [hq] at hm
    refine lv_iconst (v := 1) hx hb dd_M_isInside_21 (by decide) ?_
    exact ss_zret hC hr (by decide) hlocks hR hS (ss_with _ hm) dd_M_isInside_22
  have L_2 : ∀ (n : Nat) (x1_2 : Int32) (H : Heap) (locs : List Loc) (ls : Array Slot), ss_lp (mm_M_isInside_b2 N this h) n x1_2 = some e_2 → ss_R G h H → va_S (ss_A G) s.heap H locs → lv_has ls 2 [(0, ss_v (ss_b G) this), (1, .int x1_2)] → ww_M_isInside p l e s m below meth c G this h rr  H locs 0 0 (F0 m 2 ls []) := by
    intro n
    induction n with
    | zero => intro x1_2 H locs ls hm; cases hm
    | succ n ih_2 =>
      intro x1_2 H locs ls hm hR hS hl
      obtain ⟨z_2, hm, hz1_2, hz2_2⟩ := ss_lps hm
      refine lv_iload_n hx hb dd_M_isInside_2 rfl (lv_at hl 1 rfl) ?_
      refine ss_aload_n hx hb dd_M_isInside_3 rfl (lv_at hl 0 rfl) ?_
      obtain ⟨v1, qv1, hm⟩ := ss_bind hm
      refine ss_geti hC hK hR kf_M_161 qv1 dd_M_isInside_4 ?_
      refine lv_icmp_ge (tgt := 29) hx hb dd_M_isInside_7 (by decide) (fun c2 => ?_) (fun c2 => ?_)
      · have hm := ss_ift hm c2
        exact X_2_29  _ _ _ (hz2_2 _ (ss_some hm)) hR hS (lv_sub hl [] rfl)
      · have hm := ss_iff hm c2
        refine ss_aload_n hx hb dd_M_isInside_10 rfl (lv_at hl 0 rfl) ?_
        obtain ⟨r3, qr3, hm⟩ := ss_bind hm
        refine ss_getr hC hK hR kf_M_29 rfl qr3 dd_M_isInside_11 ?_
        refine lv_iload_n hx hb dd_M_isInside_14 rfl (lv_at hl 1 rfl) ?_
        obtain ⟨v4, qv4, hm⟩ := ss_bind hm
        refine ss_iald hC hK hR qv4 dd_M_isInside_15 ?_
        refine lv_bipush (v := 91) hx hb dd_M_isInside_16 (by decide) ?_
        refine lv_icmp_ne (tgt := 23) hx hb dd_M_isInside_18 (by decide) (fun c5 => ?_) (fun c5 => ?_)
        · have hm := ss_iff hm c5
          obtain ⟨v6, qv6, hm⟩ := ss_bind hm
          refine lv_iinc (v := v6) (lv' := [(1, .int v6), (0, ss_v (ss_b G) this)]) hx hb dd_M_isInside_23 hl (k := 1) rfl (ss_inc (by decide) qv6) (by decide) (by simp only [List.filter_cons, ss_v_cat]; rfl) (fun ls hl => ?_)
          refine lv_goto (tgt := 2) hx hb dd_M_isInside_26 (by decide) ?_
          exact ih_2 v6  _ _ _ (hz1_2 _ (ss_some hm)) hR hS (lv_sub hl [1, 0] rfl)
        · have hm := ss_ift hm c5
          exact X_2_21  _ _ _ (hz2_2 _ (ss_some hm)) hR hS (lv_sub hl [] rfl)
  exact L_2 N (0 : Int32) _ _ _ he_2 hR hS (lv_sub hl [1, 0] rfl)
theorem dd_M_closes0_0 : decode bb_M_closes0 0 = .ok (.aload_n 0, 1) := by decide +kernel
theorem dd_M_closes0_1 : decode bb_M_closes0 1 = .ok (.iconst 3, 1) := by decide +kernel
theorem dd_M_closes0_2 : decode bb_M_closes0 2 = .ok (.invokevirtual 200, 3) := by decide +kernel
theorem dd_M_closes0_5 : decode bb_M_closes0 5 = .ok (.aload_n 0, 1) := by decide +kernel
theorem dd_M_closes0_6 : decode bb_M_closes0 6 = .ok (.invokevirtual 99, 3) := by decide +kernel
theorem dd_M_closes0_9 : decode bb_M_closes0 9 = .ok (.bipush 93, 2) := by decide +kernel
theorem dd_M_closes0_11 : decode bb_M_closes0 11 = .ok (.if_icmp .ne 53, 3) := by decide +kernel
theorem dd_M_closes0_14 : decode bb_M_closes0 14 = .ok (.aload_n 0, 1) := by decide +kernel
theorem dd_M_closes0_15 : decode bb_M_closes0 15 = .ok (.invokevirtual 203, 3) := by decide +kernel
theorem dd_M_closes0_18 : decode bb_M_closes0 18 = .ok (.ifCond .eq 46, 3) := by decide +kernel
theorem dd_M_closes0_21 : decode bb_M_closes0 21 = .ok (.aload_n 0, 1) := by decide +kernel
theorem dd_M_closes0_22 : decode bb_M_closes0 22 = .ok (.iconst 1, 1) := by decide +kernel
theorem dd_M_closes0_23 : decode bb_M_closes0 23 = .ok (.invokevirtual 200, 3) := by decide +kernel
theorem dd_M_closes0_26 : decode bb_M_closes0 26 = .ok (.aload_n 0, 1) := by decide +kernel
theorem dd_M_closes0_27 : decode bb_M_closes0 27 = .ok (.dup, 1) := by decide +kernel
theorem dd_M_closes0_28 : decode bb_M_closes0 28 = .ok (.getfield 161, 3) := by decide +kernel
theorem dd_M_closes0_31 : decode bb_M_closes0 31 = .ok (.iconst 1, 1) := by decide +kernel
theorem dd_M_closes0_32 : decode bb_M_closes0 32 = .ok (.isub, 1) := by decide +kernel
theorem dd_M_closes0_33 : decode bb_M_closes0 33 = .ok (.putfield 161, 3) := by decide +kernel
theorem dd_M_closes0_36 : decode bb_M_closes0 36 = .ok (.aload_n 0, 1) := by decide +kernel
theorem dd_M_closes0_37 : decode bb_M_closes0 37 = .ok (.dup, 1) := by decide +kernel
theorem dd_M_closes0_38 : decode bb_M_closes0 38 = .ok (.getfield 158, 3) := by decide +kernel
theorem dd_M_closes0_41 : decode bb_M_closes0 41 = .ok (.iconst 1, 1) := by decide +kernel
theorem dd_M_closes0_42 : decode bb_M_closes0 42 = .ok (.isub, 1) := by decide +kernel
theorem dd_M_closes0_43 : decode bb_M_closes0 43 = .ok (.putfield 158, 3) := by decide +kernel
theorem dd_M_closes0_46 : decode bb_M_closes0 46 = .ok (.aload_n 0, 1) := by decide +kernel
theorem dd_M_closes0_47 : decode bb_M_closes0 47 = .ok (.dup, 1) := by decide +kernel
theorem dd_M_closes0_48 : decode bb_M_closes0 48 = .ok (.getfield 96, 3) := by decide +kernel
theorem dd_M_closes0_51 : decode bb_M_closes0 51 = .ok (.iconst 1, 1) := by decide +kernel
theorem dd_M_closes0_52 : decode bb_M_closes0 52 = .ok (.iadd, 1) := by decide +kernel
theorem dd_M_closes0_53 : decode bb_M_closes0 53 = .ok (.putfield 96, 3) := by decide +kernel
theorem dd_M_closes0_56 : decode bb_M_closes0 56 = .ok (.aload_n 0, 1) := by decide +kernel
theorem dd_M_closes0_57 : decode bb_M_closes0 57 = .ok (.iconst 3, 1) := by decide +kernel
theorem dd_M_closes0_58 : decode bb_M_closes0 58 = .ok (.invokevirtual 200, 3) := by decide +kernel
theorem dd_M_closes0_61 : decode bb_M_closes0 61 = .ok (.goto (-56), 3) := by decide +kernel
theorem dd_M_closes0_64 : decode bb_M_closes0 64 = .ok (.return_, 1) := by decide +kernel
def mm_M_closes0_b5 (N : Nat) (this : Option Nat) (st : ss_Hp) : Option (ss_Hp ⊕ ss_Hp) :=
  match st with
  | h_5 =>
    ss_b2 (mm_M_see N this h_5) fun v2 h3 =>
    if v2 = (93 : Int32) then
      (mm_M_isInside N this h3).bind fun v5 =>
      if v5 = 0 then
        some (.inr h3)
      else
        (mm_M_settles N this (1 : Int32) h3).bind fun h7 =>
        (ss_gi h7 this 12 9).bind fun v8 =>
        (ss_pi h7 this 12 9 (v8 - (1 : Int32))).bind fun h9 =>
        (ss_gi h9 this 12 7).bind fun v10 =>
        (ss_pi h9 this 12 7 (v10 - (1 : Int32))).bind fun h11 =>
        (ss_gi h11 this 12 2).bind fun v12 =>
        (ss_pi h11 this 12 2 (v12 + (1 : Int32))).bind fun h13 =>
        (mm_M_settles N this (3 : Int32) h13).bind fun h14 =>
        some (.inl h14)
    else
      some (.inr h3)
def mm_M_closes0 (N : Nat) (this : Option Nat) (h : ss_Hp) : Option ss_Hp :=
  if ss_is h this 12 = true then
    (mm_M_settles N this (3 : Int32) h).bind fun h1 =>
    (ss_lp (mm_M_closes0_b5 N this) N h1).bind fun h_5_64 =>
    some h_5_64
  else none
abbrev ww_M_closes0 (p : Program) (l : Launch) (e : Env) (s : State) (m : MethodId) (below : List Frame) (meth : Method) (c : Code) (G : ss_G) (this : Option Nat) (h : ss_Hp) (hh : ss_Hp) (H : Heap) (locs : List Loc) (k n : Nat) (g : JFrame) : Prop := W p l e (headSpec (ss_w yy_M_closes0 bb_M_closes0 1 none) ({ frames := 2, cells := 0, slots := 0, locals := 43 })).room s m ([ss_v (ss_b G) this] : List Value).toArray below meth c H locs k n (MQ below (ss_Qc G none hh) ([ss_v (ss_b G) this] : List Value).toArray s 0 0 (ss_A G)) g
theorem ck_M_closes0 {N : Nat} {this : Option Nat} {h : ss_Hp} {res : ss_Hp} (hm : mm_M_closes0 N this h = some res) : ss_is h this 12 = true := (ss_chk hm).1
set_option maxHeartbeats 4000000 in
set_option maxRecDepth 100000 in
theorem cc_M_closes0 (l : Launch) (G : ss_G) (N : Nat) (this : Option Nat) (h : ss_Hp) (hh : ss_Hp) (hm : mm_M_closes0 N this h = some hh) : ss_Ct l G yy_M_closes0 bb_M_closes0 1 none ({ frames := 2, cells := 0, slots := 0, locals := 43 }) [ss_v (ss_b G) this] h none hh := by
  obtain ⟨hck, hm⟩ := ss_chk hm
  refine Met.ofW (cc := bb_M_closes0) (maxL := 1) (ret := none) (by decide) rfl ?_
  intro p e s m args below meth c s₁ B hml hv
  obtain ⟨rfl, hR, hK⟩ := hv
  have hC : CallFix p m c bb_M_closes0 1 s _ lw_g sR_12 := ⟨B.exec, B.bytes, hml, findClass_of_methodNamed B.named, fun w hw => atoms_spec (ws := ss_w yy_M_closes0 bb_M_closes0 1 none) B.pre w (List.mem_cons_of_mem _ hw)⟩
  have hx := hC.1
  have hb := hC.2.1
  have hr := B.returns
  have hlocks := B.notSynchronized
  have hS : va_S (ss_A G) s.heap s.heap [] := va_S.rf
  have hl := lv_entry ([ss_v (ss_b G) this]) (n := 1) (by simp [lg_sl, ss_v_cat, ss_cat_i, ss_cat_l, ss_cat_r])
  rw [lg_entry_eq]
  generalize (lg_sl ([ss_v (ss_b G) this]) ++ List.replicate (1 - (lg_sl ([ss_v (ss_b G) this])).length) Slot.unset).toArray = ls at hl ⊢
  have hl : lv_has ls 1 [(0, ss_v (ss_b G) this)] := by simpa [lv_args, ss_v_cat, ss_cat_i, ss_cat_l, ss_cat_r] using hl
  refine ss_aload_n hx hb dd_M_closes0_0 rfl (lv_at hl 0 rfl) ?_
  refine lv_iconst (v := 3) hx hb dd_M_closes0_1 (by decide) ?_
  obtain ⟨h1, qh1, hm⟩ := ss_bind hm
  refine ss_cVv 0 0 (As := [.int (3 : Int32)]) hC hK hR hS hl.1 (cc_M_settles l G N _ _ _ _ qh1) km_M_200 (ck_M_settles qh1) ⟨Nat.le_of_ble_eq_true rfl, Nat.le_of_ble_eq_true rfl⟩ ⟨Nat.le_of_ble_eq_true rfl, Nat.le_of_ble_eq_true rfl, Nat.le_of_ble_eq_true rfl, Nat.le_of_ble_eq_true rfl⟩ rfl rfl (Nat.le_of_ble_eq_true rfl) dd_M_closes0_2 (fun H locs hR hS => ?_)
  obtain ⟨e_5, he_5, hm⟩ := ss_bind hm
  have X_5_64 : ∀  (h_5_64 : ss_Hp) (H : Heap) (locs : List Loc) (ls : Array Slot), e_5 = h_5_64 → ss_R G h_5_64 H → va_S (ss_A G) s.heap H locs → lv_has ls 1 [] → ww_M_closes0 p l e s m below meth c G this h hh  H locs 0 0 (F0 m 64 ls []) := by
    intro h_5_64 H locs ls hq hR hS hl
    rw [hq] at hm
    exact ss_vret hC hr hlocks hR hS hm dd_M_closes0_64
  have L_5 : ∀ (n : Nat)  (h_5 : ss_Hp) (H : Heap) (locs : List Loc) (ls : Array Slot), ss_lp (mm_M_closes0_b5 N this) n h_5 = some e_5 → ss_R G h_5 H → va_S (ss_A G) s.heap H locs → lv_has ls 1 [(0, ss_v (ss_b G) this)] → ww_M_closes0 p l e s m below meth c G this h hh  H locs 0 0 (F0 m 5 ls []) := by
    intro n
    induction n with
    | zero => intro h_5 H locs ls hm; cases hm
    | succ n ih_5 =>
      intro h_5 H locs ls hm hR hS hl
      obtain ⟨z_5, hm, hz1_5, hz2_5⟩ := ss_lps hm
      refine ss_aload_n hx hb dd_M_closes0_5 rfl (lv_at hl 0 rfl) ?_
      obtain ⟨v2, h3, qh3, hm⟩ := ss_bind2 hm
      refine ss_cV 0 0 (As := []) hC hK hR hS hl.1 (cc_M_see l G N _ _ _ _ qh3) km_M_99 (ck_M_see qh3) ⟨Nat.le_of_ble_eq_true rfl, Nat.le_of_ble_eq_true rfl⟩ ⟨Nat.le_of_ble_eq_true rfl, Nat.le_of_ble_eq_true rfl, Nat.le_of_ble_eq_true rfl, Nat.le_of_ble_eq_true rfl⟩ rfl rfl (Nat.le_of_ble_eq_true rfl) dd_M_closes0_6 (fun H locs hR hS => ?_)
      refine lv_bipush (v := 93) hx hb dd_M_closes0_9 (by decide) ?_
      refine lv_icmp_ne (tgt := 64) hx hb dd_M_closes0_11 (by decide) (fun c4 => ?_) (fun c4 => ?_)
      · have hm := ss_iff hm c4
        exact X_5_64 h3 _ _ _ (hz2_5 _ (ss_some hm)) hR hS (lv_sub hl [] rfl)
      · have hm := ss_ift hm c4
        refine ss_aload_n hx hb dd_M_closes0_14 rfl (lv_at hl 0 rfl) ?_
        obtain ⟨v5, qv5, hm⟩ := ss_bind hm
        refine ss_cV 0 0 (As := []) hC hK hR hS hl.1 (cc_M_isInside l G N _ _ _ qv5) km_M_203 (ck_M_isInside qv5) ⟨Nat.le_of_ble_eq_true rfl, Nat.le_of_ble_eq_true rfl⟩ ⟨Nat.le_of_ble_eq_true rfl, Nat.le_of_ble_eq_true rfl, Nat.le_of_ble_eq_true rfl, Nat.le_of_ble_eq_true rfl⟩ rfl rfl (Nat.le_of_ble_eq_true rfl) dd_M_closes0_15 (fun H locs hR hS => ?_)
        refine lv_if_eq (tgt := 64) hx hb dd_M_closes0_18 (by decide) (fun c6 => ?_) (fun c6 => ?_)
        · have hm := ss_ift hm c6
          exact X_5_64 h3 _ _ _ (hz2_5 _ (ss_some hm)) hR hS (lv_sub hl [] rfl)
        · have hm := ss_iff hm c6
          refine ss_aload_n hx hb dd_M_closes0_21 rfl (lv_at hl 0 rfl) ?_
          refine lv_iconst (v := 1) hx hb dd_M_closes0_22 (by decide) ?_
          obtain ⟨h7, qh7, hm⟩ := ss_bind hm
          refine ss_cVv 0 0 (As := [.int (1 : Int32)]) hC hK hR hS hl.1 (cc_M_settles l G N _ _ _ _ qh7) km_M_200 (ck_M_settles qh7) ⟨Nat.le_of_ble_eq_true rfl, Nat.le_of_ble_eq_true rfl⟩ ⟨Nat.le_of_ble_eq_true rfl, Nat.le_of_ble_eq_true rfl, Nat.le_of_ble_eq_true rfl, Nat.le_of_ble_eq_true rfl⟩ rfl rfl (Nat.le_of_ble_eq_true rfl) dd_M_closes0_23 (fun H locs hR hS => ?_)
          refine ss_aload_n hx hb dd_M_closes0_26 rfl (lv_at hl 0 rfl) ?_
          refine ss_dupr hx hb dd_M_closes0_27 ?_
          obtain ⟨v8, qv8, hm⟩ := ss_bind hm
          refine ss_geti hC hK hR kf_M_161 qv8 dd_M_closes0_28 ?_
          refine lv_iconst (v := 1) hx hb dd_M_closes0_31 (by decide) ?_
          refine lv_isub hx hb dd_M_closes0_32 ?_
          obtain ⟨h9, qh9, hm⟩ := ss_bind hm
          refine ss_puti hC hK hR hS kp_M_161 qh9 dd_M_closes0_33 (fun H locs hR hS => ?_)
          refine ss_aload_n hx hb dd_M_closes0_36 rfl (lv_at hl 0 rfl) ?_
          refine ss_dupr hx hb dd_M_closes0_37 ?_
          obtain ⟨v10, qv10, hm⟩ := ss_bind hm
          refine ss_geti hC hK hR kf_M_158 qv10 dd_M_closes0_38 ?_
          refine lv_iconst (v := 1) hx hb dd_M_closes0_41 (by decide) ?_
          refine lv_isub hx hb dd_M_closes0_42 ?_
          obtain ⟨h11, qh11, hm⟩ := ss_bind hm
          refine ss_puti hC hK hR hS kp_M_158 qh11 dd_M_closes0_43 (fun H locs hR hS => ?_)
          refine ss_aload_n hx hb dd_M_closes0_46 rfl (lv_at hl 0 rfl) ?_
          refine ss_dupr hx hb dd_M_closes0_47 ?_
          obtain ⟨v12, qv12, hm⟩ := ss_bind hm
          refine ss_geti hC hK hR kf_M_96 qv12 dd_M_closes0_48 ?_
          refine lv_iconst (v := 1) hx hb dd_M_closes0_51 (by decide) ?_
          refine lv_iadd hx hb dd_M_closes0_52 ?_
          obtain ⟨h13, qh13, hm⟩ := ss_bind hm
          refine ss_puti hC hK hR hS kp_M_96 qh13 dd_M_closes0_53 (fun H locs hR hS => ?_)
          refine ss_aload_n hx hb dd_M_closes0_56 rfl (lv_at hl 0 rfl) ?_
          refine lv_iconst (v := 3) hx hb dd_M_closes0_57 (by decide) ?_
          obtain ⟨h14, qh14, hm⟩ := ss_bind hm
          refine ss_cVv 0 0 (As := [.int (3 : Int32)]) hC hK hR hS hl.1 (cc_M_settles l G N _ _ _ _ qh14) km_M_200 (ck_M_settles qh14) ⟨Nat.le_of_ble_eq_true rfl, Nat.le_of_ble_eq_true rfl⟩ ⟨Nat.le_of_ble_eq_true rfl, Nat.le_of_ble_eq_true rfl, Nat.le_of_ble_eq_true rfl, Nat.le_of_ble_eq_true rfl⟩ rfl rfl (Nat.le_of_ble_eq_true rfl) dd_M_closes0_58 (fun H locs hR hS => ?_)
          refine lv_goto (tgt := 5) hx hb dd_M_closes0_61 (by decide) ?_
          exact ih_5 h14 _ _ _ (hz1_5 _ (ss_some hm)) hR hS hl
  exact L_5 N h1 _ _ _ he_5 hR hS hl
theorem dd_M_tested_0 : decode bb_M_tested 0 = .ok (.aload_n 0, 1) := by decide +kernel
theorem dd_M_tested_1 : decode bb_M_tested 1 = .ok (.iconst 0, 1) := by decide +kernel
theorem dd_M_tested_2 : decode bb_M_tested 2 = .ok (.putfield 161, 3) := by decide +kernel
theorem dd_M_tested_5 : decode bb_M_tested 5 = .ok (.aload_n 0, 1) := by decide +kernel
theorem dd_M_tested_6 : decode bb_M_tested 6 = .ok (.iconst 0, 1) := by decide +kernel
theorem dd_M_tested_7 : decode bb_M_tested 7 = .ok (.putfield 158, 3) := by decide +kernel
theorem dd_M_tested_10 : decode bb_M_tested 10 = .ok (.iconst 1, 1) := by decide +kernel
theorem dd_M_tested_11 : decode bb_M_tested 11 = .ok (.istore_n 1, 1) := by decide +kernel
theorem dd_M_tested_12 : decode bb_M_tested 12 = .ok (.iload_n 1, 1) := by decide +kernel
theorem dd_M_tested_13 : decode bb_M_tested 13 = .ok (.ifCond .eq 99, 3) := by decide +kernel
theorem dd_M_tested_16 : decode bb_M_tested 16 = .ok (.aload_n 0, 1) := by decide +kernel
theorem dd_M_tested_17 : decode bb_M_tested 17 = .ok (.invokevirtual 206, 3) := by decide +kernel
theorem dd_M_tested_20 : decode bb_M_tested 20 = .ok (.ifCond .ne 5, 3) := by decide +kernel
theorem dd_M_tested_23 : decode bb_M_tested 23 = .ok (.iconst 0, 1) := by decide +kernel
theorem dd_M_tested_24 : decode bb_M_tested 24 = .ok (.ireturn, 1) := by decide +kernel
theorem dd_M_tested_25 : decode bb_M_tested 25 = .ok (.aload_n 0, 1) := by decide +kernel
theorem dd_M_tested_26 : decode bb_M_tested 26 = .ok (.invokevirtual 209, 3) := by decide +kernel
theorem dd_M_tested_29 : decode bb_M_tested 29 = .ok (.aload_n 0, 1) := by decide +kernel
theorem dd_M_tested_30 : decode bb_M_tested 30 = .ok (.ldc2_w 212, 3) := by decide +kernel
theorem dd_M_tested_33 : decode bb_M_tested 33 = .ok (.invokevirtual 107, 3) := by decide +kernel
theorem dd_M_tested_36 : decode bb_M_tested 36 = .ok (.ifCond .ne 13, 3) := by decide +kernel
theorem dd_M_tested_39 : decode bb_M_tested 39 = .ok (.aload_n 0, 1) := by decide +kernel
theorem dd_M_tested_40 : decode bb_M_tested 40 = .ok (.ldc2_w 214, 3) := by decide +kernel
theorem dd_M_tested_43 : decode bb_M_tested 43 = .ok (.invokevirtual 107, 3) := by decide +kernel
theorem dd_M_tested_46 : decode bb_M_tested 46 = .ok (.ifCond .eq 7, 3) := by decide +kernel
theorem dd_M_tested_49 : decode bb_M_tested 49 = .ok (.iconst 1, 1) := by decide +kernel
theorem dd_M_tested_50 : decode bb_M_tested 50 = .ok (.goto 4, 3) := by decide +kernel
theorem dd_M_tested_53 : decode bb_M_tested 53 = .ok (.iconst 0, 1) := by decide +kernel
theorem dd_M_tested_54 : decode bb_M_tested 54 = .ok (.istore_n 1, 1) := by decide +kernel
theorem dd_M_tested_55 : decode bb_M_tested 55 = .ok (.iload_n 1, 1) := by decide +kernel
theorem dd_M_tested_56 : decode bb_M_tested 56 = .ok (.ifCond .eq (-44), 3) := by decide +kernel
theorem dd_M_tested_59 : decode bb_M_tested 59 = .ok (.aload_n 0, 1) := by decide +kernel
theorem dd_M_tested_60 : decode bb_M_tested 60 = .ok (.ldc2_w 212, 3) := by decide +kernel
theorem dd_M_tested_63 : decode bb_M_tested 63 = .ok (.invokevirtual 107, 3) := by decide +kernel
theorem dd_M_tested_66 : decode bb_M_tested 66 = .ok (.ifCond .eq 8, 3) := by decide +kernel
theorem dd_M_tested_69 : decode bb_M_tested 69 = .ok (.bipush 12, 2) := by decide +kernel
theorem dd_M_tested_71 : decode bb_M_tested 71 = .ok (.goto 5, 3) := by decide +kernel
theorem dd_M_tested_74 : decode bb_M_tested 74 = .ok (.bipush 13, 2) := by decide +kernel
theorem dd_M_tested_76 : decode bb_M_tested 76 = .ok (.istore_n 2, 1) := by decide +kernel
theorem dd_M_tested_77 : decode bb_M_tested 77 = .ok (.aload_n 0, 1) := by decide +kernel
theorem dd_M_tested_78 : decode bb_M_tested 78 = .ok (.invokevirtual 111, 3) := by decide +kernel
theorem dd_M_tested_81 : decode bb_M_tested 81 = .ok (.aload_n 0, 1) := by decide +kernel
theorem dd_M_tested_82 : decode bb_M_tested 82 = .ok (.iload_n 2, 1) := by decide +kernel
theorem dd_M_tested_83 : decode bb_M_tested 83 = .ok (.invokestatic 164, 3) := by decide +kernel
theorem dd_M_tested_86 : decode bb_M_tested 86 = .ok (.invokevirtual 200, 3) := by decide +kernel
theorem dd_M_tested_89 : decode bb_M_tested 89 = .ok (.aload_n 0, 1) := by decide +kernel
theorem dd_M_tested_90 : decode bb_M_tested 90 = .ok (.getfield 29, 3) := by decide +kernel
theorem dd_M_tested_93 : decode bb_M_tested 93 = .ok (.aload_n 0, 1) := by decide +kernel
theorem dd_M_tested_94 : decode bb_M_tested 94 = .ok (.getfield 161, 3) := by decide +kernel
theorem dd_M_tested_97 : decode bb_M_tested 97 = .ok (.iload_n 2, 1) := by decide +kernel
theorem dd_M_tested_98 : decode bb_M_tested 98 = .ok (.iastore, 1) := by decide +kernel
theorem dd_M_tested_99 : decode bb_M_tested 99 = .ok (.aload_n 0, 1) := by decide +kernel
theorem dd_M_tested_100 : decode bb_M_tested 100 = .ok (.dup, 1) := by decide +kernel
theorem dd_M_tested_101 : decode bb_M_tested 101 = .ok (.getfield 161, 3) := by decide +kernel
theorem dd_M_tested_104 : decode bb_M_tested 104 = .ok (.iconst 1, 1) := by decide +kernel
theorem dd_M_tested_105 : decode bb_M_tested 105 = .ok (.iadd, 1) := by decide +kernel
theorem dd_M_tested_106 : decode bb_M_tested 106 = .ok (.putfield 161, 3) := by decide +kernel
theorem dd_M_tested_109 : decode bb_M_tested 109 = .ok (.goto (-97), 3) := by decide +kernel
theorem dd_M_tested_112 : decode bb_M_tested 112 = .ok (.aload_n 0, 1) := by decide +kernel
theorem dd_M_tested_113 : decode bb_M_tested 113 = .ok (.invokevirtual 203, 3) := by decide +kernel
theorem dd_M_tested_116 : decode bb_M_tested 116 = .ok (.ifCond .eq 18, 3) := by decide +kernel
theorem dd_M_tested_119 : decode bb_M_tested 119 = .ok (.aload_n 0, 1) := by decide +kernel
theorem dd_M_tested_120 : decode bb_M_tested 120 = .ok (.invokevirtual 99, 3) := by decide +kernel
theorem dd_M_tested_123 : decode bb_M_tested 123 = .ok (.pop, 1) := by decide +kernel
theorem dd_M_tested_124 : decode bb_M_tested 124 = .ok (.aload_n 0, 1) := by decide +kernel
theorem dd_M_tested_125 : decode bb_M_tested 125 = .ok (.iconst 0, 1) := by decide +kernel
theorem dd_M_tested_126 : decode bb_M_tested 126 = .ok (.aload_n 0, 1) := by decide +kernel
theorem dd_M_tested_127 : decode bb_M_tested 127 = .ok (.getfield 96, 3) := by decide +kernel
theorem dd_M_tested_130 : decode bb_M_tested 130 = .ok (.invokevirtual 117, 3) := by decide +kernel
theorem dd_M_tested_133 : decode bb_M_tested 133 = .ok (.ireturn, 1) := by decide +kernel
theorem dd_M_tested_134 : decode bb_M_tested 134 = .ok (.aload_n 0, 1) := by decide +kernel
theorem dd_M_tested_135 : decode bb_M_tested 135 = .ok (.iconst 1, 1) := by decide +kernel
theorem dd_M_tested_136 : decode bb_M_tested 136 = .ok (.invokevirtual 200, 3) := by decide +kernel
theorem dd_M_tested_139 : decode bb_M_tested 139 = .ok (.iconst 1, 1) := by decide +kernel
theorem dd_M_tested_140 : decode bb_M_tested 140 = .ok (.ireturn, 1) := by decide +kernel
def mm_M_tested_j76 (N : Nat) (this : Option Nat) (x1_76 : Int32) (s0_76 : Int32) (h_76 : ss_Hp) : Option ((Int32 × ss_Hp) ⊕ (ss_Hp ⊕ ss_Hp)) :=
  (mm_M_passWord N this h_76).bind fun h12 =>
  (mm_M_strength N s0_76).bind fun v13 =>
  (mm_M_settles N this v13 h12).bind fun h14 =>
  (ss_gr h14 this 12 6).bind fun r15 =>
  (ss_gi h14 this 12 9).bind fun v16 =>
  (ss_ui h14 r15 20 v16 s0_76).bind fun h17 =>
  (ss_gi h17 this 12 9).bind fun v18 =>
  (ss_pi h17 this 12 9 (v18 + (1 : Int32))).bind fun h19 =>
  some (.inl (x1_76, h19))
def mm_M_tested_j54 (N : Nat) (this : Option Nat) (s0_54 : Int32) (h_54 : ss_Hp) : Option ((Int32 × ss_Hp) ⊕ (ss_Hp ⊕ ss_Hp)) :=
  if s0_54 = 0 then
    some (.inl (s0_54, h_54))
  else
    ss_b2 (mm_M_isWord N this (6385252 : Int64) h_54) fun v21 h22 =>
    if v21 = 0 then
      mm_M_tested_j76 N this s0_54 (13 : Int32) h22
    else
      mm_M_tested_j76 N this s0_54 (12 : Int32) h22
def mm_M_tested_j49 (N : Nat) (this : Option Nat) (h_49 : ss_Hp) : Option ((Int32 × ss_Hp) ⊕ (ss_Hp ⊕ ss_Hp)) :=
  mm_M_tested_j54 N this (1 : Int32) h_49
def mm_M_tested_b12 (N : Nat) (this : Option Nat) (st : Int32 × ss_Hp) : Option ((Int32 × ss_Hp) ⊕ (ss_Hp ⊕ ss_Hp)) :=
  match st with
  | (x1_12, h_12) =>
    if x1_12 = 0 then
      some (.inr (.inl h_12))
    else
      ss_b2 (mm_M_fact N this h_12) fun v25 h26 =>
      if v25 = 0 then
        some (.inr (.inr h26))
      else
        (mm_M_closes0 N this h26).bind fun h28 =>
        ss_b2 (mm_M_isWord N this (6385252 : Int64) h28) fun v29 h30 =>
        if v29 = 0 then
          ss_b2 (mm_M_isWord N this (28530 : Int64) h30) fun v32 h33 =>
          if v32 = 0 then
            mm_M_tested_j54 N this (0 : Int32) h33
          else
            mm_M_tested_j49 N this h33
        else
          mm_M_tested_j49 N this h30
def mm_M_tested (N : Nat) (this : Option Nat) (h : ss_Hp) : Option (Int32 × ss_Hp) :=
  if ss_is h this 12 = true then
    (ss_pi h this 12 9 (0 : Int32)).bind fun h1 =>
    (ss_pi h1 this 12 7 (0 : Int32)).bind fun h2 =>
    (ss_lp (mm_M_tested_b12 N this) N ((1 : Int32), h2)).bind fun e_12 =>
    match e_12 with
    | (.inl h_12_112) =>
      (mm_M_isInside N this h_12_112).bind fun v3 =>
      if v3 = 0 then
        (mm_M_settles N this (1 : Int32) h_12_112).bind fun h5 =>
        some ((1 : Int32), h5)
      else
        ss_b2 (mm_M_see N this h_12_112) fun v6 h7 =>
        (ss_gi h7 this 12 2).bind fun v8 =>
        ss_b2 (mm_M_fails N this (0 : Int32) v8 h7) fun v9 h10 =>
        (ss_bz v9).bind fun v11 =>
        some (v11, h10)
    | (.inr h_12_23) =>
      some ((0 : Int32), h_12_23)
  else none
abbrev ww_M_tested (p : Program) (l : Launch) (e : Env) (s : State) (m : MethodId) (below : List Frame) (meth : Method) (c : Code) (G : ss_G) (this : Option Nat) (h : ss_Hp) (rr : Int32) (hh : ss_Hp) (H : Heap) (locs : List Loc) (k n : Nat) (g : JFrame) : Prop := W p l e (headSpec (ss_w yy_M_tested bb_M_tested 3 (some .boolean)) ({ frames := 8, cells := 0, slots := 0, locals := 176 })).room s m ([ss_v (ss_b G) this] : List Value).toArray below meth c H locs k n (MQ below (ss_Qc G (some (.int rr)) hh) ([ss_v (ss_b G) this] : List Value).toArray s 0 0 (ss_A G)) g
theorem ck_M_tested {N : Nat} {this : Option Nat} {h : ss_Hp} {res : Int32 × ss_Hp} (hm : mm_M_tested N this h = some res) : ss_is h this 12 = true := (ss_chk hm).1
set_option maxHeartbeats 4000000 in
set_option maxRecDepth 100000 in
theorem cc_M_tested (l : Launch) (G : ss_G) (N : Nat) (this : Option Nat) (h : ss_Hp) (rr : Int32) (hh : ss_Hp) (hm : mm_M_tested N this h = some (rr, hh)) : ss_Ct l G yy_M_tested bb_M_tested 3 (some .boolean) ({ frames := 8, cells := 0, slots := 0, locals := 176 }) [ss_v (ss_b G) this] h (some (.int rr)) hh := by
  obtain ⟨hck, hm⟩ := ss_chk hm
  refine Met.ofW (cc := bb_M_tested) (maxL := 3) (ret := (some .boolean)) (by decide) rfl ?_
  intro p e s m args below meth c s₁ B hml hv
  obtain ⟨rfl, hR, hK⟩ := hv
  have hC : CallFix p m c bb_M_tested 3 s _ lw_g sR_12 := ⟨B.exec, B.bytes, hml, findClass_of_methodNamed B.named, fun w hw => atoms_spec (ws := ss_w yy_M_tested bb_M_tested 3 (some .boolean)) B.pre w (List.mem_cons_of_mem _ hw)⟩
  have hx := hC.1
  have hb := hC.2.1
  have hr := B.returns
  have hlocks := B.notSynchronized
  have hS : va_S (ss_A G) s.heap s.heap [] := va_S.rf
  have hl := lv_entry ([ss_v (ss_b G) this]) (n := 3) (by simp [lg_sl, ss_v_cat, ss_cat_i, ss_cat_l, ss_cat_r])
  rw [lg_entry_eq]
  generalize (lg_sl ([ss_v (ss_b G) this]) ++ List.replicate (3 - (lg_sl ([ss_v (ss_b G) this])).length) Slot.unset).toArray = ls at hl ⊢
  have hl : lv_has ls 3 [(0, ss_v (ss_b G) this)] := by simpa [lv_args, ss_v_cat, ss_cat_i, ss_cat_l, ss_cat_r] using hl
  refine ss_aload_n hx hb dd_M_tested_0 rfl (lv_at hl 0 rfl) ?_
  refine lv_iconst (v := 0) hx hb dd_M_tested_1 (by decide) ?_
  obtain ⟨h1, qh1, hm⟩ := ss_bind hm
  refine ss_puti hC hK hR hS kp_M_161 qh1 dd_M_tested_2 (fun H locs hR hS => ?_)
  refine ss_aload_n hx hb dd_M_tested_5 rfl (lv_at hl 0 rfl) ?_
  refine lv_iconst (v := 0) hx hb dd_M_tested_6 (by decide) ?_
  obtain ⟨h2, qh2, hm⟩ := ss_bind hm
  refine ss_puti hC hK hR hS kp_M_158 qh2 dd_M_tested_7 (fun H locs hR hS => ?_)
  refine lv_iconst (v := 1) hx hb dd_M_tested_10 (by decide) ?_
  refine lv_istore_n (lv' := [(1, .int (1 : Int32)), (0, ss_v (ss_b G) this)]) hx hb dd_M_tested_11 rfl hl (by decide) (by simp only [List.filter_cons, ss_v_cat]; rfl) (fun ls hl => ?_)
  obtain ⟨e_12, he_12, hm⟩ := ss_bind hm
  have X_12_112 : ∀  (h_12_112 : ss_Hp) (H : Heap) (locs : List Loc) (ls : Array Slot), e_12 = (.inl h_12_112) → ss_R G h_12_112 H → va_S (ss_A G) s.heap H locs → lv_has ls 3 [(0, ss_v (ss_b G) this)] → ww_M_tested p l e s m below meth c G this h rr hh  H locs 0 0 (F0 m 112 ls []) := by
    intro h_12_112 H locs ls hq hR hS hl
    rw [hq] at hm
    refine ss_aload_n hx hb dd_M_tested_112 rfl (lv_at hl 0 rfl) ?_
    obtain ⟨v3, qv3, hm⟩ := ss_bind hm
    refine ss_cV 0 0 (As := []) hC hK hR hS hl.1 (cc_M_isInside l G N _ _ _ qv3) km_M_203 (ck_M_isInside qv3) ⟨Nat.le_of_ble_eq_true rfl, Nat.le_of_ble_eq_true rfl⟩ ⟨Nat.le_of_ble_eq_true rfl, Nat.le_of_ble_eq_true rfl, Nat.le_of_ble_eq_true rfl, Nat.le_of_ble_eq_true rfl⟩ rfl rfl (Nat.le_of_ble_eq_true rfl) dd_M_tested_113 (fun H locs hR hS => ?_)
    refine lv_if_eq (tgt := 134) hx hb dd_M_tested_116 (by decide) (fun c4 => ?_) (fun c4 => ?_)
    · have hm := ss_ift hm c4
      refine ss_aload_n hx hb dd_M_tested_134 rfl (lv_at hl 0 rfl) ?_
      refine lv_iconst (v := 1) hx hb dd_M_tested_135 (by decide) ?_
      obtain ⟨h5, qh5, hm⟩ := ss_bind hm
      refine ss_cVv 0 0 (As := [.int (1 : Int32)]) hC hK hR hS hl.1 (cc_M_settles l G N _ _ _ _ qh5) km_M_200 (ck_M_settles qh5) ⟨Nat.le_of_ble_eq_true rfl, Nat.le_of_ble_eq_true rfl⟩ ⟨Nat.le_of_ble_eq_true rfl, Nat.le_of_ble_eq_true rfl, Nat.le_of_ble_eq_true rfl, Nat.le_of_ble_eq_true rfl⟩ rfl rfl (Nat.le_of_ble_eq_true rfl) dd_M_tested_136 (fun H locs hR hS => ?_)
      refine lv_iconst (v := 1) hx hb dd_M_tested_139 (by decide) ?_
      exact ss_zret hC hr (by decide) hlocks hR hS hm dd_M_tested_140
    · have hm := ss_iff hm c4
      refine ss_aload_n hx hb dd_M_tested_119 rfl (lv_at hl 0 rfl) ?_
      obtain ⟨v6, h7, qh7, hm⟩ := ss_bind2 hm
      refine ss_cV 0 0 (As := []) hC hK hR hS hl.1 (cc_M_see l G N _ _ _ _ qh7) km_M_99 (ck_M_see qh7) ⟨Nat.le_of_ble_eq_true rfl, Nat.le_of_ble_eq_true rfl⟩ ⟨Nat.le_of_ble_eq_true rfl, Nat.le_of_ble_eq_true rfl, Nat.le_of_ble_eq_true rfl, Nat.le_of_ble_eq_true rfl⟩ rfl rfl (Nat.le_of_ble_eq_true rfl) dd_M_tested_120 (fun H locs hR hS => ?_)
      refine lv_pop hx hb dd_M_tested_123 rfl ?_
      refine ss_aload_n hx hb dd_M_tested_124 rfl (lv_at hl 0 rfl) ?_
      refine lv_iconst (v := 0) hx hb dd_M_tested_125 (by decide) ?_
      refine ss_aload_n hx hb dd_M_tested_126 rfl (lv_at hl 0 rfl) ?_
      obtain ⟨v8, qv8, hm⟩ := ss_bind hm
      refine ss_geti hC hK hR kf_M_96 qv8 dd_M_tested_127 ?_
      obtain ⟨v9, h10, qh10, hm⟩ := ss_bind2 hm
      refine ss_cV 0 0 (As := [.int (0 : Int32), .int v8]) hC hK hR hS hl.1 (cc_M_fails l G N _ _ _ _ _ _ qh10) km_M_117 (ck_M_fails qh10) ⟨Nat.le_of_ble_eq_true rfl, Nat.le_of_ble_eq_true rfl⟩ ⟨Nat.le_of_ble_eq_true rfl, Nat.le_of_ble_eq_true rfl, Nat.le_of_ble_eq_true rfl, Nat.le_of_ble_eq_true rfl⟩ rfl rfl (Nat.le_of_ble_eq_true rfl) dd_M_tested_130 (fun H locs hR hS => ?_)
      obtain ⟨v11, qv11, hm⟩ := ss_bind hm
      obtain ⟨hnb, rfl⟩ := ss_bzs qv11
      exact ss_zret hC hr hnb hlocks hR hS hm dd_M_tested_133
  have X_12_23 : ∀  (h_12_23 : ss_Hp) (H : Heap) (locs : List Loc) (ls : Array Slot), e_12 = (.inr h_12_23) → ss_R G h_12_23 H → va_S (ss_A G) s.heap H locs → lv_has ls 3 [] → ww_M_tested p l e s m below meth c G this h rr hh  H locs 0 0 (F0 m 23 ls []) := by
    intro h_12_23 H locs ls hq hR hS hl
    rw [hq] at hm
    refine lv_iconst (v := 0) hx hb dd_M_tested_23 (by decide) ?_
    exact ss_zret hC hr (by decide) hlocks hR hS hm dd_M_tested_24
  have L_12 : ∀ (n : Nat) (x1_12 : Int32) (h_12 : ss_Hp) (H : Heap) (locs : List Loc) (ls : Array Slot), ss_lp (mm_M_tested_b12 N this) n (x1_12, h_12) = some e_12 → ss_R G h_12 H → va_S (ss_A G) s.heap H locs → lv_has ls 3 [(0, ss_v (ss_b G) this), (1, .int x1_12)] → ww_M_tested p l e s m below meth c G this h rr hh  H locs 0 0 (F0 m 12 ls []) := by
    intro n
    induction n with
    | zero => intro x1_12 h_12 H locs ls hm; cases hm
    | succ n ih_12 =>
      intro x1_12 h_12 H locs ls hm hR hS hl
      obtain ⟨z_12, hm, hz1_12, hz2_12⟩ := ss_lps hm
      have J_76 : ∀ (x1_76 : Int32) (s0_76 : Int32) (h_76 : ss_Hp) (H : Heap) (locs : List Loc) (ls : Array Slot), mm_M_tested_j76 N this x1_76 s0_76 h_76 = some z_12 → ss_R G h_76 H → va_S (ss_A G) s.heap H locs → lv_has ls 3 [(0, ss_v (ss_b G) this), (1, .int x1_76)] → ww_M_tested p l e s m below meth c G this h rr hh  H locs 0 0 (F0 m 76 ls [.int s0_76]) := by
        intro x1_76 s0_76 h_76 H locs ls hm hR hS hl
        refine lv_istore_n (lv' := [(2, .int s0_76), (0, ss_v (ss_b G) this), (1, .int x1_76)]) hx hb dd_M_tested_76 rfl hl (by decide) rfl (fun ls hl => ?_)
        refine ss_aload_n hx hb dd_M_tested_77 rfl (lv_at hl 1 rfl) ?_
        obtain ⟨h12, qh12, hm⟩ := ss_bind hm
        refine ss_cVv 0 0 (As := []) hC hK hR hS hl.1 (cc_M_passWord l G N _ _ _ qh12) km_M_111 (ck_M_passWord qh12) ⟨Nat.le_of_ble_eq_true rfl, Nat.le_of_ble_eq_true rfl⟩ ⟨Nat.le_of_ble_eq_true rfl, Nat.le_of_ble_eq_true rfl, Nat.le_of_ble_eq_true rfl, Nat.le_of_ble_eq_true rfl⟩ rfl rfl (Nat.le_of_ble_eq_true rfl) dd_M_tested_78 (fun H locs hR hS => ?_)
        refine ss_aload_n hx hb dd_M_tested_81 rfl (lv_at hl 1 rfl) ?_
        refine lv_iload_n hx hb dd_M_tested_82 rfl (lv_at hl 0 rfl) ?_
        obtain ⟨v13, qv13, hm⟩ := ss_bind hm
        refine ss_cS 0 0 (As := [.int s0_76]) hC hK hR hS hl.1 (cc_M_strength l G N _ _ _ qv13) km_M_164 ⟨Nat.le_of_ble_eq_true rfl, Nat.le_of_ble_eq_true rfl⟩ ⟨Nat.le_of_ble_eq_true rfl, Nat.le_of_ble_eq_true rfl, Nat.le_of_ble_eq_true rfl, Nat.le_of_ble_eq_true rfl⟩ rfl rfl (by simp [ss_v_cat, ss_cat_i, ss_cat_l, ss_cat_r]) dd_M_tested_83 (fun H locs hR hS => ?_)
        obtain ⟨h14, qh14, hm⟩ := ss_bind hm
        refine ss_cVv 0 0 (As := [.int v13]) hC hK hR hS hl.1 (cc_M_settles l G N _ _ _ _ qh14) km_M_200 (ck_M_settles qh14) ⟨Nat.le_of_ble_eq_true rfl, Nat.le_of_ble_eq_true rfl⟩ ⟨Nat.le_of_ble_eq_true rfl, Nat.le_of_ble_eq_true rfl, Nat.le_of_ble_eq_true rfl, Nat.le_of_ble_eq_true rfl⟩ rfl rfl (Nat.le_of_ble_eq_true rfl) dd_M_tested_86 (fun H locs hR hS => ?_)
        refine ss_aload_n hx hb dd_M_tested_89 rfl (lv_at hl 1 rfl) ?_
        obtain ⟨r15, qr15, hm⟩ := ss_bind hm
        refine ss_getr hC hK hR kf_M_29 rfl qr15 dd_M_tested_90 ?_
        refine ss_aload_n hx hb dd_M_tested_93 rfl (lv_at hl 1 rfl) ?_
        obtain ⟨v16, qv16, hm⟩ := ss_bind hm
        refine ss_geti hC hK hR kf_M_161 qv16 dd_M_tested_94 ?_
        refine lv_iload_n hx hb dd_M_tested_97 rfl (lv_at hl 0 rfl) ?_
        obtain ⟨h17, qh17, hm⟩ := ss_bind hm
        refine ss_iast hC hK hR hS qh17 dd_M_tested_98 (fun H locs hR hS => ?_)
        refine ss_aload_n hx hb dd_M_tested_99 rfl (lv_at hl 1 rfl) ?_
        refine ss_dupr hx hb dd_M_tested_100 ?_
        obtain ⟨v18, qv18, hm⟩ := ss_bind hm
        refine ss_geti hC hK hR kf_M_161 qv18 dd_M_tested_101 ?_
        refine lv_iconst (v := 1) hx hb dd_M_tested_104 (by decide) ?_
        refine lv_iadd hx hb dd_M_tested_105 ?_
        obtain ⟨h19, qh19, hm⟩ := ss_bind hm
        refine ss_puti hC hK hR hS kp_M_161 qh19 dd_M_tested_106 (fun H locs hR hS => ?_)
        refine lv_goto (tgt := 12) hx hb dd_M_tested_109 (by decide) ?_
        exact ih_12 x1_76 h19 _ _ _ (hz1_12 _ (ss_some hm)) hR hS (lv_sub hl [1, 2] rfl)
      have J_54 : ∀ (s0_54 : Int32) (h_54 : ss_Hp) (H : Heap) (locs : List Loc) (ls : Array Slot), mm_M_tested_j54 N this s0_54 h_54 = some z_12 → ss_R G h_54 H → va_S (ss_A G) s.heap H locs → lv_has ls 3 [(0, ss_v (ss_b G) this)] → ww_M_tested p l e s m below meth c G this h rr hh  H locs 0 0 (F0 m 54 ls [.int s0_54]) := by
        intro s0_54 h_54 H locs ls hm hR hS hl
        refine lv_istore_n (lv' := [(1, .int s0_54), (0, ss_v (ss_b G) this)]) hx hb dd_M_tested_54 rfl hl (by decide) (by simp only [List.filter_cons, ss_v_cat]; rfl) (fun ls hl => ?_)
        refine lv_iload_n hx hb dd_M_tested_55 rfl (lv_at hl 0 rfl) ?_
        refine lv_if_eq (tgt := 12) hx hb dd_M_tested_56 (by decide) (fun c20 => ?_) (fun c20 => ?_)
        · have hm := ss_ift hm c20
          exact ih_12 s0_54 h_54 _ _ _ (hz1_12 _ (ss_some hm)) hR hS (lv_sub hl [1, 0] rfl)
        · have hm := ss_iff hm c20
          refine ss_aload_n hx hb dd_M_tested_59 rfl (lv_at hl 1 rfl) ?_
          refine lv_ldc2 (v := 6385252) hx hb hC.2.2.2.1 (hC.2.2.2.2 _ kl_M_212) dd_M_tested_60 ?_
          obtain ⟨v21, h22, qh22, hm⟩ := ss_bind2 hm
          refine ss_cV 0 0 (As := [.long (6385252 : Int64)]) hC hK hR hS hl.1 (cc_M_isWord l G N _ _ _ _ _ qh22) km_M_107 (ck_M_isWord qh22) ⟨Nat.le_of_ble_eq_true rfl, Nat.le_of_ble_eq_true rfl⟩ ⟨Nat.le_of_ble_eq_true rfl, Nat.le_of_ble_eq_true rfl, Nat.le_of_ble_eq_true rfl, Nat.le_of_ble_eq_true rfl⟩ rfl rfl (Nat.le_of_ble_eq_true rfl) dd_M_tested_63 (fun H locs hR hS => ?_)
          refine lv_if_eq (tgt := 74) hx hb dd_M_tested_66 (by decide) (fun c23 => ?_) (fun c23 => ?_)
          · have hm := ss_ift hm c23
            refine lv_bipush (v := 13) hx hb dd_M_tested_74 (by decide) ?_
            exact J_76 s0_54 (13 : Int32) h22 _ _ _ hm hR hS (lv_sub hl [1, 0] rfl)
          · have hm := ss_iff hm c23
            refine lv_bipush (v := 12) hx hb dd_M_tested_69 (by decide) ?_
            refine lv_goto (tgt := 76) hx hb dd_M_tested_71 (by decide) ?_
            exact J_76 s0_54 (12 : Int32) h22 _ _ _ hm hR hS (lv_sub hl [1, 0] rfl)
      have J_49 : ∀ (h_49 : ss_Hp) (H : Heap) (locs : List Loc) (ls : Array Slot), mm_M_tested_j49 N this h_49 = some z_12 → ss_R G h_49 H → va_S (ss_A G) s.heap H locs → lv_has ls 3 [(0, ss_v (ss_b G) this)] → ww_M_tested p l e s m below meth c G this h rr hh  H locs 0 0 (F0 m 49 ls []) := by
        intro h_49 H locs ls hm hR hS hl
        refine lv_iconst (v := 1) hx hb dd_M_tested_49 (by decide) ?_
        refine lv_goto (tgt := 54) hx hb dd_M_tested_50 (by decide) ?_
        exact J_54 (1 : Int32) h_49 _ _ _ hm hR hS hl
      refine lv_iload_n hx hb dd_M_tested_12 rfl (lv_at hl 1 rfl) ?_
      refine lv_if_eq (tgt := 112) hx hb dd_M_tested_13 (by decide) (fun c24 => ?_) (fun c24 => ?_)
      · have hm := ss_ift hm c24
        exact X_12_112 h_12 _ _ _ (hz2_12 _ (ss_some hm)) hR hS (lv_sub hl [0] rfl)
      · have hm := ss_iff hm c24
        refine ss_aload_n hx hb dd_M_tested_16 rfl (lv_at hl 0 rfl) ?_
        obtain ⟨v25, h26, qh26, hm⟩ := ss_bind2 hm
        refine ss_cV 0 0 (As := []) hC hK hR hS hl.1 (cc_M_fact l G N _ _ _ _ qh26) km_M_206 (ck_M_fact qh26) ⟨Nat.le_of_ble_eq_true rfl, Nat.le_of_ble_eq_true rfl⟩ ⟨Nat.le_of_ble_eq_true rfl, Nat.le_of_ble_eq_true rfl, Nat.le_of_ble_eq_true rfl, Nat.le_of_ble_eq_true rfl⟩ rfl rfl (Nat.le_of_ble_eq_true rfl) dd_M_tested_17 (fun H locs hR hS => ?_)
        refine lv_if_ne (tgt := 25) hx hb dd_M_tested_20 (by decide) (fun c27 => ?_) (fun c27 => ?_)
        · have hm := ss_iff hm c27
          refine ss_aload_n hx hb dd_M_tested_25 rfl (lv_at hl 0 rfl) ?_
          obtain ⟨h28, qh28, hm⟩ := ss_bind hm
          refine ss_cVv 0 0 (As := []) hC hK hR hS hl.1 (cc_M_closes0 l G N _ _ _ qh28) km_M_209 (ck_M_closes0 qh28) ⟨Nat.le_of_ble_eq_true rfl, Nat.le_of_ble_eq_true rfl⟩ ⟨Nat.le_of_ble_eq_true rfl, Nat.le_of_ble_eq_true rfl, Nat.le_of_ble_eq_true rfl, Nat.le_of_ble_eq_true rfl⟩ rfl rfl (Nat.le_of_ble_eq_true rfl) dd_M_tested_26 (fun H locs hR hS => ?_)
          refine ss_aload_n hx hb dd_M_tested_29 rfl (lv_at hl 0 rfl) ?_
          refine lv_ldc2 (v := 6385252) hx hb hC.2.2.2.1 (hC.2.2.2.2 _ kl_M_212) dd_M_tested_30 ?_
          obtain ⟨v29, h30, qh30, hm⟩ := ss_bind2 hm
          refine ss_cV 0 0 (As := [.long (6385252 : Int64)]) hC hK hR hS hl.1 (cc_M_isWord l G N _ _ _ _ _ qh30) km_M_107 (ck_M_isWord qh30) ⟨Nat.le_of_ble_eq_true rfl, Nat.le_of_ble_eq_true rfl⟩ ⟨Nat.le_of_ble_eq_true rfl, Nat.le_of_ble_eq_true rfl, Nat.le_of_ble_eq_true rfl, Nat.le_of_ble_eq_true rfl⟩ rfl rfl (Nat.le_of_ble_eq_true rfl) dd_M_tested_33 (fun H locs hR hS => ?_)
          refine lv_if_ne (tgt := 49) hx hb dd_M_tested_36 (by decide) (fun c31 => ?_) (fun c31 => ?_)
          · have hm := ss_iff hm c31
            exact J_49 h30 _ _ _ hm hR hS (lv_sub hl [0] rfl)
          · have hm := ss_ift hm c31
            refine ss_aload_n hx hb dd_M_tested_39 rfl (lv_at hl 0 rfl) ?_
            refine lv_ldc2 (v := 28530) hx hb hC.2.2.2.1 (hC.2.2.2.2 _ kl_M_214) dd_M_tested_40 ?_
            obtain ⟨v32, h33, qh33, hm⟩ := ss_bind2 hm
            refine ss_cV 0 0 (As := [.long (28530 : Int64)]) hC hK hR hS hl.1 (cc_M_isWord l G N _ _ _ _ _ qh33) km_M_107 (ck_M_isWord qh33) ⟨Nat.le_of_ble_eq_true rfl, Nat.le_of_ble_eq_true rfl⟩ ⟨Nat.le_of_ble_eq_true rfl, Nat.le_of_ble_eq_true rfl, Nat.le_of_ble_eq_true rfl, Nat.le_of_ble_eq_true rfl⟩ rfl rfl (Nat.le_of_ble_eq_true rfl) dd_M_tested_43 (fun H locs hR hS => ?_)
            refine lv_if_eq (tgt := 53) hx hb dd_M_tested_46 (by decide) (fun c34 => ?_) (fun c34 => ?_)
            · have hm := ss_ift hm c34
              refine lv_iconst (v := 0) hx hb dd_M_tested_53 (by decide) ?_
              exact J_54 (0 : Int32) h33 _ _ _ hm hR hS (lv_sub hl [0] rfl)
            · have hm := ss_iff hm c34
              exact J_49 h33 _ _ _ hm hR hS (lv_sub hl [0] rfl)
        · have hm := ss_ift hm c27
          exact X_12_23 h26 _ _ _ (hz2_12 _ (ss_some hm)) hR hS (lv_sub hl [] rfl)
  exact L_12 N (1 : Int32) h2 _ _ _ he_12 hR hS (lv_sub hl [1, 0] rfl)
