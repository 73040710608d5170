theorem dd_M_passes_0 : decode bb_M_passes 0 = .ok (.iconst 0, 1) := by decide +kernel
theorem dd_M_passes_1 : decode bb_M_passes 1 = .ok (.istore_n 1, 1) := by decide +kernel
theorem dd_M_passes_2 : decode bb_M_passes 2 = .ok (.iload_n 1, 1) := by decide +kernel
theorem dd_M_passes_3 : decode bb_M_passes 3 = .ok (.aload_n 0, 1) := by decide +kernel
theorem dd_M_passes_4 : decode bb_M_passes 4 = .ok (.getfield 39, 3) := by decide +kernel
theorem dd_M_passes_7 : decode bb_M_passes 7 = .ok (.iconst 3, 1) := by decide +kernel
theorem dd_M_passes_8 : decode bb_M_passes 8 = .ok (.iaload, 1) := by decide +kernel
theorem dd_M_passes_9 : decode bb_M_passes 9 = .ok (.if_icmp .ge 43, 3) := by decide +kernel
theorem dd_M_passes_12 : decode bb_M_passes 12 = .ok (.aload_n 0, 1) := by decide +kernel
theorem dd_M_passes_13 : decode bb_M_passes 13 = .ok (.getfield 39, 3) := by decide +kernel
theorem dd_M_passes_16 : decode bb_M_passes 16 = .ok (.bipush 13, 2) := by decide +kernel
theorem dd_M_passes_18 : decode bb_M_passes 18 = .ok (.iaload, 1) := by decide +kernel
theorem dd_M_passes_19 : decode bb_M_passes 19 = .ok (.iload_n 1, 1) := by decide +kernel
theorem dd_M_passes_20 : decode bb_M_passes 20 = .ok (.invokestatic 316, 3) := by decide +kernel
theorem dd_M_passes_23 : decode bb_M_passes 23 = .ok (.ifCond .eq 6, 3) := by decide +kernel
theorem dd_M_passes_26 : decode bb_M_passes 26 = .ok (.goto 20, 3) := by decide +kernel
theorem dd_M_passes_29 : decode bb_M_passes 29 = .ok (.aload_n 0, 1) := by decide +kernel
theorem dd_M_passes_30 : decode bb_M_passes 30 = .ok (.iload_n 1, 1) := by decide +kernel
theorem dd_M_passes_31 : decode bb_M_passes 31 = .ok (.invokevirtual 356, 3) := by decide +kernel
theorem dd_M_passes_34 : decode bb_M_passes 34 = .ok (.istore_n 2, 1) := by decide +kernel
theorem dd_M_passes_35 : decode bb_M_passes 35 = .ok (.iload_n 2, 1) := by decide +kernel
theorem dd_M_passes_36 : decode bb_M_passes 36 = .ok (.ifCond .lt 10, 3) := by decide +kernel
theorem dd_M_passes_39 : decode bb_M_passes 39 = .ok (.aload_n 0, 1) := by decide +kernel
theorem dd_M_passes_40 : decode bb_M_passes 40 = .ok (.iload_n 1, 1) := by decide +kernel
theorem dd_M_passes_41 : decode bb_M_passes 41 = .ok (.iload_n 2, 1) := by decide +kernel
theorem dd_M_passes_42 : decode bb_M_passes 42 = .ok (.invokevirtual 359, 3) := by decide +kernel
theorem dd_M_passes_45 : decode bb_M_passes 45 = .ok (.pop, 1) := by decide +kernel
theorem dd_M_passes_46 : decode bb_M_passes 46 = .ok (.iinc 1 1, 3) := by decide +kernel
theorem dd_M_passes_49 : decode bb_M_passes 49 = .ok (.goto (-47), 3) := by decide +kernel
theorem dd_M_passes_52 : decode bb_M_passes 52 = .ok (.aload_n 0, 1) := by decide +kernel
theorem dd_M_passes_53 : decode bb_M_passes 53 = .ok (.invokevirtual 363, 3) := by decide +kernel
theorem dd_M_passes_56 : decode bb_M_passes 56 = .ok (.ireturn, 1) := by decide +kernel
def mm_M_passes_j46 (N : Nat) (this : Option Nat) (x1_46 : Int32) (h_46 : ss_Hp) : Option ((Int32 × ss_Hp) ⊕ ss_Hp) :=
  (some (x1_46 + (1 : Int32))).bind fun v3 =>
  some (.inl (v3, h_46))
def mm_M_passes_b2 (N : Nat) (this : Option Nat) (st : Int32 × ss_Hp) : Option ((Int32 × ss_Hp) ⊕ ss_Hp) :=
  match st with
  | (x1_2, h_2) =>
    (ss_gr h_2 this 12 9).bind fun r4 =>
    (ss_ai h_2 r4 20 (3 : Int32)).bind fun v5 =>
    if v5 ≤ x1_2 then
      some (.inr h_2)
    else
      (ss_gr h_2 this 12 9).bind fun r7 =>
      (ss_ai h_2 r7 20 (13 : Int32)).bind fun v8 =>
      (mm_M_isOf N v8 x1_2).bind fun v9 =>
      if v9 = 0 then
        ss_b2 (mm_M_choice N this x1_2 h_2) fun v11 h12 =>
        if v11 < 0 then
          mm_M_passes_j46 N this x1_2 h12
        else
          ss_b2 (mm_M_takes N this x1_2 v11 h12) fun v14 h15 =>
          mm_M_passes_j46 N this x1_2 h15
      else
        mm_M_passes_j46 N this x1_2 h_2
def mm_M_passes (N : Nat) (this : Option Nat) (h : ss_Hp) : Option (Int32 × ss_Hp) :=
  if ss_is h this 12 = true then
    (ss_lp (mm_M_passes_b2 N this) N ((0 : Int32), h)).bind fun h_2_52 =>
    ss_b2 (mm_M_snows N this h_2_52) fun v1 h2 =>
    some (v1, h2)
  else none
abbrev ww_M_passes (p : Program) (l : Launch) (e : Env) (s : State) (m : MethodId) (below : List Frame) (meth : Method) (c : Code) (G : ss_G) (this : Option Nat) (h : ss_Hp) (rr : Int32) (hh : ss_Hp) (H : Heap) (locs : List Loc) (k n : Nat) (g : JFrame) : Prop := W p l e (headSpec (ss_w yy_M_passes bb_M_passes 3 (some (.int))) ({ frames := 4, cells := 0, slots := 0, locals := 104 })).room s m ([ss_v (ss_b G) this] : List Value).toArray below meth c H locs k n (MQ below (ss_Qc G (some (.int rr)) hh) ([ss_v (ss_b G) this] : List Value).toArray s 0 0 (ss_A G)) g
theorem ck_M_passes {N : Nat} {this : Option Nat} {h : ss_Hp} {res : Int32 × ss_Hp} (hm : mm_M_passes N this h = some res) : ss_is h this 12 = true := (ss_chk hm).1
set_option maxHeartbeats 4000000 in
set_option maxRecDepth 100000 in
theorem cc_M_passes (l : Launch) (G : ss_G) (N : Nat) (this : Option Nat) (h : ss_Hp) (rr : Int32) (hh : ss_Hp) (hm : mm_M_passes N this h = some (rr, hh)) : ss_Ct l G yy_M_passes bb_M_passes 3 (some (.int)) ({ frames := 4, cells := 0, slots := 0, locals := 104 }) [ss_v (ss_b G) this] h (some (.int rr)) hh := by
  obtain ⟨hck, hm⟩ := ss_chk hm
  refine Met.ofW (cc := bb_M_passes) (maxL := 3) (ret := (some (.int))) (by decide) rfl ?_
  intro p e s m args below meth c s₁ B hml hv
  obtain ⟨rfl, hR, hK⟩ := hv
  have hC : CallFix p m c bb_M_passes 3 s _ lw_g sR_12 := ⟨B.exec, B.bytes, hml, findClass_of_methodNamed B.named, fun w hw => atoms_spec (ws := ss_w yy_M_passes bb_M_passes 3 (some (.int))) B.pre w (List.mem_cons_of_mem _ hw)⟩
  have hx := hC.1
  have hb := hC.2.1
  have hr := B.returns
  have hlocks := B.notSynchronized
  have hS : va_S (ss_A G) s.heap s.heap [] := va_S.rf
  have hl := lv_entry ([ss_v (ss_b G) this]) (n := 3) (by simp [lg_sl, ss_v_cat, ss_cat_i, ss_cat_l, ss_cat_r])
  rw [lg_entry_eq]
  generalize (lg_sl ([ss_v (ss_b G) this]) ++ List.replicate (3 - (lg_sl ([ss_v (ss_b G) this])).length) Slot.unset).toArray = ls at hl ⊢
  have hl : lv_has ls 3 [(0, ss_v (ss_b G) this)] := by simpa [lv_args, ss_v_cat, ss_cat_i, ss_cat_l, ss_cat_r] using hl
  refine lv_iconst (v := 0) hx hb dd_M_passes_0 (by decide) ?_
  refine lv_istore_n (lv' := [(1, .int (0 : Int32)), (0, ss_v (ss_b G) this)]) hx hb dd_M_passes_1 rfl hl (by decide) (by simp only [List.filter_cons, ss_v_cat]; rfl) (fun ls hl => ?_)
  obtain ⟨e_2, he_2, hm⟩ := ss_bind hm
  have X_2_52 : ∀  (h_2_52 : ss_Hp) (H : Heap) (locs : List Loc) (ls : Array Slot), e_2 = h_2_52 → ss_R G h_2_52 H → va_S (ss_A G) s.heap H locs → lv_has ls 3 [(0, ss_v (ss_b G) this)] → ww_M_passes p l e s m below meth c G this h rr hh  H locs 0 0 (F0 m 52 ls []) := by
    intro h_2_52 H locs ls hq hR hS hl
    rw [hq] at hm
    refine ss_aload_n hx hb dd_M_passes_52 rfl (lv_at hl 0 rfl) ?_
    obtain ⟨v1, h2, qh2, hm⟩ := ss_bind2 hm
    refine ss_cV 0 0 (As := []) hC hK hR hS hl.1 (cc_M_snows l G N _ _ _ _ qh2) km_M_363 (ck_M_snows qh2) ⟨Nat.le_of_ble_eq_true rfl, Nat.le_of_ble_eq_true rfl⟩ ⟨Nat.le_of_ble_eq_true rfl, Nat.le_of_ble_eq_true rfl, Nat.le_of_ble_eq_true rfl, Nat.le_of_ble_eq_true rfl⟩ rfl rfl (Nat.le_of_ble_eq_true rfl) dd_M_passes_53 (fun H locs hR hS => ?_)
    exact ss_iret hC hr hlocks hR hS hm dd_M_passes_56
  have L_2 : ∀ (n : Nat) (x1_2 : Int32) (h_2 : ss_Hp) (H : Heap) (locs : List Loc) (ls : Array Slot), ss_lp (mm_M_passes_b2 N this) n (x1_2, h_2) = some e_2 → ss_R G h_2 H → va_S (ss_A G) s.heap H locs → lv_has ls 3 [(0, ss_v (ss_b G) this), (1, .int x1_2)] → ww_M_passes p l e s m below meth c G this h rr hh  H locs 0 0 (F0 m 2 ls []) := by
    intro n
    induction n with
    | zero => intro x1_2 h_2 H locs ls hm; cases hm
    | succ n ih_2 =>
      intro x1_2 h_2 H locs ls hm hR hS hl
      obtain ⟨z_2, hm, hz1_2, hz2_2⟩ := ss_lps hm
      have J_46 : ∀ (x1_46 : Int32) (h_46 : ss_Hp) (H : Heap) (locs : List Loc) (ls : Array Slot), mm_M_passes_j46 N this x1_46 h_46 = some z_2 → ss_R G h_46 H → va_S (ss_A G) s.heap H locs → lv_has ls 3 [(0, ss_v (ss_b G) this), (1, .int x1_46)] → ww_M_passes p l e s m below meth c G this h rr hh  H locs 0 0 (F0 m 46 ls []) := by
        intro x1_46 h_46 H locs ls hm hR hS hl
        obtain ⟨v3, qv3, hm⟩ := ss_bind hm
        refine lv_iinc (v := v3) (lv' := [(1, .int v3), (0, ss_v (ss_b G) this)]) hx hb dd_M_passes_46 hl (k := 1) rfl (ss_inc (by decide) qv3) (by decide) (by simp only [List.filter_cons, ss_v_cat]; rfl) (fun ls hl => ?_)
        refine lv_goto (tgt := 2) hx hb dd_M_passes_49 (by decide) ?_
        exact ih_2 v3 h_46 _ _ _ (hz1_2 _ (ss_some hm)) hR hS (lv_sub hl [1, 0] rfl)
      refine lv_iload_n hx hb dd_M_passes_2 rfl (lv_at hl 1 rfl) ?_
      refine ss_aload_n hx hb dd_M_passes_3 rfl (lv_at hl 0 rfl) ?_
      obtain ⟨r4, qr4, hm⟩ := ss_bind hm
      refine ss_getr hC hK hR kf_M_39 rfl qr4 dd_M_passes_4 ?_
      refine lv_iconst (v := 3) hx hb dd_M_passes_7 (by decide) ?_
      obtain ⟨v5, qv5, hm⟩ := ss_bind hm
      refine ss_iald hC hK hR qv5 dd_M_passes_8 ?_
      refine lv_icmp_ge (tgt := 52) hx hb dd_M_passes_9 (by decide) (fun c6 => ?_) (fun c6 => ?_)
      · have hm := ss_ift hm c6
        exact X_2_52 h_2 _ _ _ (hz2_2 _ (ss_some hm)) hR hS (lv_sub hl [0] rfl)
      · have hm := ss_iff hm c6
        refine ss_aload_n hx hb dd_M_passes_12 rfl (lv_at hl 0 rfl) ?_
        obtain ⟨r7, qr7, hm⟩ := ss_bind hm
        refine ss_getr hC hK hR kf_M_39 rfl qr7 dd_M_passes_13 ?_
        refine lv_bipush (v := 13) hx hb dd_M_passes_16 (by decide) ?_
        obtain ⟨v8, qv8, hm⟩ := ss_bind hm
        refine ss_iald hC hK hR qv8 dd_M_passes_18 ?_
        refine lv_iload_n hx hb dd_M_passes_19 rfl (lv_at hl 1 rfl) ?_
        obtain ⟨v9, qv9, hm⟩ := ss_bind hm
        refine ss_cS 0 0 (As := [.int v8, .int x1_2]) hC hK hR hS hl.1 (cc_M_isOf l G N _ _ _ _ qv9) km_M_316 ⟨Nat.le_of_ble_eq_true rfl, Nat.le_of_ble_eq_true rfl⟩ ⟨Nat.le_of_ble_eq_true rfl, Nat.le_of_ble_eq_true rfl, Nat.le_of_ble_eq_true rfl, Nat.le_of_ble_eq_true rfl⟩ rfl rfl (Nat.le_of_ble_eq_true rfl) dd_M_passes_20 (fun H locs hR hS => ?_)
        refine lv_if_eq (tgt := 29) hx hb dd_M_passes_23 (by decide) (fun c10 => ?_) (fun c10 => ?_)
        · have hm := ss_ift hm c10
          refine ss_aload_n hx hb dd_M_passes_29 rfl (lv_at hl 0 rfl) ?_
          refine lv_iload_n hx hb dd_M_passes_30 rfl (lv_at hl 1 rfl) ?_
          obtain ⟨v11, h12, qh12, hm⟩ := ss_bind2 hm
          refine ss_cV 0 0 (As := [.int x1_2]) hC hK hR hS hl.1 (cc_M_choice l G N _ _ _ _ _ qh12) km_M_356 (ck_M_choice qh12) ⟨Nat.le_of_ble_eq_true rfl, Nat.le_of_ble_eq_true rfl⟩ ⟨Nat.le_of_ble_eq_true rfl, Nat.le_of_ble_eq_true rfl, Nat.le_of_ble_eq_true rfl, Nat.le_of_ble_eq_true rfl⟩ rfl rfl (Nat.le_of_ble_eq_true rfl) dd_M_passes_31 (fun H locs hR hS => ?_)
          refine lv_istore_n (lv' := [(2, .int v11), (0, ss_v (ss_b G) this), (1, .int x1_2)]) hx hb dd_M_passes_34 rfl hl (by decide) rfl (fun ls hl => ?_)
          refine lv_iload_n hx hb dd_M_passes_35 rfl (lv_at hl 0 rfl) ?_
          refine lv_if_lt (tgt := 46) hx hb dd_M_passes_36 (by decide) (fun c13 => ?_) (fun c13 => ?_)
          · have hm := ss_ift hm c13
            exact J_46 x1_2 h12 _ _ _ hm hR hS (lv_sub hl [1, 2] rfl)
          · have hm := ss_iff hm c13
            refine ss_aload_n hx hb dd_M_passes_39 rfl (lv_at hl 1 rfl) ?_
            refine lv_iload_n hx hb dd_M_passes_40 rfl (lv_at hl 2 rfl) ?_
            refine lv_iload_n hx hb dd_M_passes_41 rfl (lv_at hl 0 rfl) ?_
            obtain ⟨v14, h15, qh15, hm⟩ := ss_bind2 hm
            refine ss_cV 0 0 (As := [.int x1_2, .int v11]) hC hK hR hS hl.1 (cc_M_takes l G N _ _ _ _ _ _ qh15) km_M_359 (ck_M_takes qh15) ⟨Nat.le_of_ble_eq_true rfl, Nat.le_of_ble_eq_true rfl⟩ ⟨Nat.le_of_ble_eq_true rfl, Nat.le_of_ble_eq_true rfl, Nat.le_of_ble_eq_true rfl, Nat.le_of_ble_eq_true rfl⟩ rfl rfl (Nat.le_of_ble_eq_true rfl) dd_M_passes_42 (fun H locs hR hS => ?_)
            refine lv_pop hx hb dd_M_passes_45 rfl ?_
            exact J_46 x1_2 h15 _ _ _ hm hR hS (lv_sub hl [1, 2] rfl)
        · have hm := ss_iff hm c10
          refine lv_goto (tgt := 46) hx hb dd_M_passes_26 (by decide) ?_
          exact J_46 x1_2 h_2 _ _ _ hm hR hS hl
  exact L_2 N (0 : Int32) h _ _ _ he_2 hR hS (lv_sub hl [1, 0] rfl)
theorem dd_M_day_0 : decode bb_M_day 0 = .ok (.aload_n 0, 1) := by decide +kernel
theorem dd_M_day_1 : decode bb_M_day 1 = .ok (.invokevirtual 366, 3) := by decide +kernel
theorem dd_M_day_4 : decode bb_M_day 4 = .ok (.ifCond .eq 16, 3) := by decide +kernel
theorem dd_M_day_7 : decode bb_M_day 7 = .ok (.aload_n 0, 1) := by decide +kernel
theorem dd_M_day_8 : decode bb_M_day 8 = .ok (.getfield 39, 3) := by decide +kernel
theorem dd_M_day_11 : decode bb_M_day 11 = .ok (.bipush 10, 2) := by decide +kernel
theorem dd_M_day_13 : decode bb_M_day 13 = .ok (.iaload, 1) := by decide +kernel
theorem dd_M_day_14 : decode bb_M_day 14 = .ok (.sipush 999, 3) := by decide +kernel
theorem dd_M_day_17 : decode bb_M_day 17 = .ok (.if_icmp .ne 5, 3) := by decide +kernel
theorem dd_M_day_20 : decode bb_M_day 20 = .ok (.iconst (-1), 1) := by decide +kernel
theorem dd_M_day_21 : decode bb_M_day 21 = .ok (.ireturn, 1) := by decide +kernel
theorem dd_M_day_22 : decode bb_M_day 22 = .ok (.aload_n 0, 1) := by decide +kernel
theorem dd_M_day_23 : decode bb_M_day 23 = .ok (.invokevirtual 369, 3) := by decide +kernel
theorem dd_M_day_26 : decode bb_M_day 26 = .ok (.aload_n 0, 1) := by decide +kernel
theorem dd_M_day_27 : decode bb_M_day 27 = .ok (.invokevirtual 372, 3) := by decide +kernel
theorem dd_M_day_30 : decode bb_M_day 30 = .ok (.ireturn, 1) := by decide +kernel
def mm_M_day_j20 (N : Nat) (this : Option Nat) (h_20 : ss_Hp) : Option (Int32 × ss_Hp) :=
  some ((-1 : Int32), h_20)
def mm_M_day (N : Nat) (this : Option Nat) (h : ss_Hp) : Option (Int32 × ss_Hp) :=
  if ss_is h this 12 = true then
    (mm_M_isValley N this h).bind fun v1 =>
    if v1 = 0 then
      mm_M_day_j20 N this h
    else
      (ss_gr h this 12 9).bind fun r3 =>
      (ss_ai h r3 20 (10 : Int32)).bind fun v4 =>
      if v4 = (999 : Int32) then
        mm_M_day_j20 N this h
      else
        (mm_M_keepsAct N this h).bind fun h6 =>
        ss_b2 (mm_M_passes N this h6) fun v7 h8 =>
        some (v7, h8)
  else none
abbrev ww_M_day (p : Program) (l : Launch) (e : Env) (s : State) (m : MethodId) (below : List Frame) (meth : Method) (c : Code) (G : ss_G) (this : Option Nat) (h : ss_Hp) (rr : Int32) (hh : ss_Hp) (H : Heap) (locs : List Loc) (k n : Nat) (g : JFrame) : Prop := W p l e (headSpec (ss_w yy_M_day bb_M_day 1 (some (.int))) ({ frames := 5, cells := 0, slots := 0, locals := 126 })).room s m ([ss_v (ss_b G) this] : List Value).toArray below meth c H locs k n (MQ below (ss_Qc G (some (.int rr)) hh) ([ss_v (ss_b G) this] : List Value).toArray s 0 0 (ss_A G)) g
theorem ck_M_day {N : Nat} {this : Option Nat} {h : ss_Hp} {res : Int32 × ss_Hp} (hm : mm_M_day N this h = some res) : ss_is h this 12 = true := (ss_chk hm).1
set_option maxHeartbeats 4000000 in
set_option maxRecDepth 100000 in
theorem cc_M_day (l : Launch) (G : ss_G) (N : Nat) (this : Option Nat) (h : ss_Hp) (rr : Int32) (hh : ss_Hp) (hm : mm_M_day N this h = some (rr, hh)) : ss_Ct l G yy_M_day bb_M_day 1 (some (.int)) ({ frames := 5, cells := 0, slots := 0, locals := 126 }) [ss_v (ss_b G) this] h (some (.int rr)) hh := by
  obtain ⟨hck, hm⟩ := ss_chk hm
  refine Met.ofW (cc := bb_M_day) (maxL := 1) (ret := (some (.int))) (by decide) rfl ?_
  intro p e s m args below meth c s₁ B hml hv
  obtain ⟨rfl, hR, hK⟩ := hv
  have hC : CallFix p m c bb_M_day 1 s _ lw_g sR_12 := ⟨B.exec, B.bytes, hml, findClass_of_methodNamed B.named, fun w hw => atoms_spec (ws := ss_w yy_M_day bb_M_day 1 (some (.int))) B.pre w (List.mem_cons_of_mem _ hw)⟩
  have hx := hC.1
  have hb := hC.2.1
  have hr := B.returns
  have hlocks := B.notSynchronized
  have hS : va_S (ss_A G) s.heap s.heap [] := va_S.rf
  have hl := lv_entry ([ss_v (ss_b G) this]) (n := 1) (by simp [lg_sl, ss_v_cat, ss_cat_i, ss_cat_l, ss_cat_r])
  rw [lg_entry_eq]
  generalize (lg_sl ([ss_v (ss_b G) this]) ++ List.replicate (1 - (lg_sl ([ss_v (ss_b G) this])).length) Slot.unset).toArray = ls at hl ⊢
  have hl : lv_has ls 1 [(0, ss_v (ss_b G) this)] := by simpa [lv_args, ss_v_cat, ss_cat_i, ss_cat_l, ss_cat_r] using hl
  have J_20 : ∀ (h_20 : ss_Hp) (H : Heap) (locs : List Loc) (ls : Array Slot), mm_M_day_j20 N this h_20 = some (rr, hh) → ss_R G h_20 H → va_S (ss_A G) s.heap H locs → lv_has ls 1 [] → ww_M_day p l e s m below meth c G this h rr hh  H locs 0 0 (F0 m 20 ls []) := by
    intro h_20 H locs ls hm hR hS hl
    refine lv_iconst (v := -1) hx hb dd_M_day_20 (by decide) ?_
    exact ss_iret hC hr hlocks hR hS hm dd_M_day_21
  refine ss_aload_n hx hb dd_M_day_0 rfl (lv_at hl 0 rfl) ?_
  obtain ⟨v1, qv1, hm⟩ := ss_bind hm
  refine ss_cV 0 0 (As := []) hC hK hR hS hl.1 (cc_M_isValley l G N _ _ _ qv1) km_M_366 (ck_M_isValley qv1) ⟨Nat.le_of_ble_eq_true rfl, Nat.le_of_ble_eq_true rfl⟩ ⟨Nat.le_of_ble_eq_true rfl, Nat.le_of_ble_eq_true rfl, Nat.le_of_ble_eq_true rfl, Nat.le_of_ble_eq_true rfl⟩ rfl rfl (Nat.le_of_ble_eq_true rfl) dd_M_day_1 (fun H locs hR hS => ?_)
  refine lv_if_eq (tgt := 20) hx hb dd_M_day_4 (by decide) (fun c2 => ?_) (fun c2 => ?_)
  · have hm := ss_ift hm c2
    exact J_20 h _ _ _ hm hR hS (lv_sub hl [] rfl)
  · have hm := ss_iff hm c2
    refine ss_aload_n hx hb dd_M_day_7 rfl (lv_at hl 0 rfl) ?_
    obtain ⟨r3, qr3, hm⟩ := ss_bind hm
    refine ss_getr hC hK hR kf_M_39 rfl qr3 dd_M_day_8 ?_
    refine lv_bipush (v := 10) hx hb dd_M_day_11 (by decide) ?_
    obtain ⟨v4, qv4, hm⟩ := ss_bind hm
    refine ss_iald hC hK hR qv4 dd_M_day_13 ?_
    refine lv_sipush (v := 999) hx hb dd_M_day_14 (by decide) ?_
    refine lv_icmp_ne (tgt := 22) hx hb dd_M_day_17 (by decide) (fun c5 => ?_) (fun c5 => ?_)
    · have hm := ss_iff hm c5
      refine ss_aload_n hx hb dd_M_day_22 rfl (lv_at hl 0 rfl) ?_
      obtain ⟨h6, qh6, hm⟩ := ss_bind hm
      refine ss_cVv 0 0 (As := []) hC hK hR hS hl.1 (cc_M_keepsAct l G N _ _ _ qh6) km_M_369 (ck_M_keepsAct qh6) ⟨Nat.le_of_ble_eq_true rfl, Nat.le_of_ble_eq_true rfl⟩ ⟨Nat.le_of_ble_eq_true rfl, Nat.le_of_ble_eq_true rfl, Nat.le_of_ble_eq_true rfl, Nat.le_of_ble_eq_true rfl⟩ rfl rfl (Nat.le_of_ble_eq_true rfl) dd_M_day_23 (fun H locs hR hS => ?_)
      refine ss_aload_n hx hb dd_M_day_26 rfl (lv_at hl 0 rfl) ?_
      obtain ⟨v7, h8, qh8, hm⟩ := ss_bind2 hm
      refine ss_cV 0 0 (As := []) hC hK hR hS hl.1 (cc_M_passes l G N _ _ _ _ qh8) km_M_372 (ck_M_passes qh8) ⟨Nat.le_of_ble_eq_true rfl, Nat.le_of_ble_eq_true rfl⟩ ⟨Nat.le_of_ble_eq_true rfl, Nat.le_of_ble_eq_true rfl, Nat.le_of_ble_eq_true rfl, Nat.le_of_ble_eq_true rfl⟩ rfl rfl (Nat.le_of_ble_eq_true rfl) dd_M_day_27 (fun H locs hR hS => ?_)
      exact ss_iret hC hr hlocks hR hS hm dd_M_day_30
    · have hm := ss_ift hm c5
      exact J_20 h _ _ _ hm hR hS (lv_sub hl [] rfl)
theorem dd_M_canSweep_0 : decode bb_M_canSweep 0 = .ok (.aload_n 0, 1) := by decide +kernel
theorem dd_M_canSweep_1 : decode bb_M_canSweep 1 = .ok (.getfield 39, 3) := by decide +kernel
theorem dd_M_canSweep_4 : decode bb_M_canSweep 4 = .ok (.bipush 13, 2) := by decide +kernel
theorem dd_M_canSweep_6 : decode bb_M_canSweep 6 = .ok (.iaload, 1) := by decide +kernel
theorem dd_M_canSweep_7 : decode bb_M_canSweep 7 = .ok (.iload_n 1, 1) := by decide +kernel
theorem dd_M_canSweep_8 : decode bb_M_canSweep 8 = .ok (.invokestatic 316, 3) := by decide +kernel
theorem dd_M_canSweep_11 : decode bb_M_canSweep 11 = .ok (.ifCond .ne 19, 3) := by decide +kernel
theorem dd_M_canSweep_14 : decode bb_M_canSweep 14 = .ok (.aload_n 0, 1) := by decide +kernel
theorem dd_M_canSweep_15 : decode bb_M_canSweep 15 = .ok (.getfield 39, 3) := by decide +kernel
theorem dd_M_canSweep_18 : decode bb_M_canSweep 18 = .ok (.bipush 14, 2) := by decide +kernel
theorem dd_M_canSweep_20 : decode bb_M_canSweep 20 = .ok (.iload_n 2, 1) := by decide +kernel
theorem dd_M_canSweep_21 : decode bb_M_canSweep 21 = .ok (.iadd, 1) := by decide +kernel
theorem dd_M_canSweep_22 : decode bb_M_canSweep 22 = .ok (.iaload, 1) := by decide +kernel
theorem dd_M_canSweep_23 : decode bb_M_canSweep 23 = .ok (.ifCond .le 7, 3) := by decide +kernel
theorem dd_M_canSweep_26 : decode bb_M_canSweep 26 = .ok (.iconst 1, 1) := by decide +kernel
theorem dd_M_canSweep_27 : decode bb_M_canSweep 27 = .ok (.goto 4, 3) := by decide +kernel
theorem dd_M_canSweep_30 : decode bb_M_canSweep 30 = .ok (.iconst 0, 1) := by decide +kernel
theorem dd_M_canSweep_31 : decode bb_M_canSweep 31 = .ok (.ireturn, 1) := by decide +kernel
def mm_M_canSweep_j31 (N : Nat) (this : Option Nat) (a1 : Int32) (a2 : Int32) (h : ss_Hp) (s0_31 : Int32) : Option Int32 :=
  (ss_bz s0_31).bind fun v1 =>
  some v1
def mm_M_canSweep_j30 (N : Nat) (this : Option Nat) (a1 : Int32) (a2 : Int32) (h : ss_Hp) : Option Int32 :=
  mm_M_canSweep_j31 N this a1 a2 h (0 : Int32)
def mm_M_canSweep (N : Nat) (this : Option Nat) (a1 : Int32) (a2 : Int32) (h : ss_Hp) : Option Int32 :=
  if ss_is h this 12 = true then
    (ss_gr h this 12 9).bind fun r2 =>
    (ss_ai h r2 20 (13 : Int32)).bind fun v3 =>
    (mm_M_isOf N v3 a1).bind fun v4 =>
    if v4 = 0 then
      (ss_gr h this 12 9).bind fun r6 =>
      (ss_ai h r6 20 ((14 : Int32) + a2)).bind fun v7 =>
      if v7 ≤ 0 then
        mm_M_canSweep_j30 N this a1 a2 h
      else
        mm_M_canSweep_j31 N this a1 a2 h (1 : Int32)
    else
      mm_M_canSweep_j30 N this a1 a2 h
  else none
abbrev ww_M_canSweep (p : Program) (l : Launch) (e : Env) (s : State) (m : MethodId) (below : List Frame) (meth : Method) (c : Code) (G : ss_G) (this : Option Nat) (a1 : Int32) (a2 : Int32) (h : ss_Hp) (rr : Int32) (H : Heap) (locs : List Loc) (k n : Nat) (g : JFrame) : Prop := W p l e (headSpec (ss_w yy_M_canSweep bb_M_canSweep 3 (some .boolean)) ({ frames := 1, cells := 0, slots := 0, locals := 21 })).room s m ([ss_v (ss_b G) this, .int a1, .int a2] : List Value).toArray below meth c H locs k n (MQ below (ss_Qc G (some (.int rr)) h) ([ss_v (ss_b G) this, .int a1, .int a2] : List Value).toArray s 0 0 (ss_A G)) g
theorem ck_M_canSweep {N : Nat} {this : Option Nat} {a1 : Int32} {a2 : Int32} {h : ss_Hp} {res : Int32} (hm : mm_M_canSweep N this a1 a2 h = some res) : ss_is h this 12 = true := (ss_chk hm).1
set_option maxHeartbeats 4000000 in
set_option maxRecDepth 100000 in
theorem cc_M_canSweep (l : Launch) (G : ss_G) (N : Nat) (this : Option Nat) (a1 : Int32) (a2 : Int32) (h : ss_Hp) (rr : Int32) (hm : mm_M_canSweep N this a1 a2 h = some rr) : ss_Ct l G yy_M_canSweep bb_M_canSweep 3 (some .boolean) ({ frames := 1, cells := 0, slots := 0, locals := 21 }) [ss_v (ss_b G) this, .int a1, .int a2] h (some (.int rr)) h := by
  obtain ⟨hck, hm⟩ := ss_chk hm
  refine Met.ofW (cc := bb_M_canSweep) (maxL := 3) (ret := (some .boolean)) (by decide) rfl ?_
  intro p e s m args below meth c s₁ B hml hv
  obtain ⟨rfl, hR, hK⟩ := hv
  have hC : CallFix p m c bb_M_canSweep 3 s _ lw_g sR_12 := ⟨B.exec, B.bytes, hml, findClass_of_methodNamed B.named, fun w hw => atoms_spec (ws := ss_w yy_M_canSweep bb_M_canSweep 3 (some .boolean)) B.pre w (List.mem_cons_of_mem _ hw)⟩
  have hx := hC.1
  have hb := hC.2.1
  have hr := B.returns
  have hlocks := B.notSynchronized
  have hS : va_S (ss_A G) s.heap s.heap [] := va_S.rf
  have hl := lv_entry ([ss_v (ss_b G) this, .int a1, .int a2]) (n := 3) (by simp [lg_sl, ss_v_cat, ss_cat_i, ss_cat_l, ss_cat_r])
  rw [lg_entry_eq]
  generalize (lg_sl ([ss_v (ss_b G) this, .int a1, .int a2]) ++ List.replicate (3 - (lg_sl ([ss_v (ss_b G) this, .int a1, .int a2])).length) Slot.unset).toArray = ls at hl ⊢
  have hl : lv_has ls 3 [(0, ss_v (ss_b G) this), (1, .int a1), (2, .int a2)] := by simpa [lv_args, ss_v_cat, ss_cat_i, ss_cat_l, ss_cat_r] using hl
  have J_31 : ∀ (s0_31 : Int32) (H : Heap) (locs : List Loc) (ls : Array Slot), mm_M_canSweep_j31 N this a1 a2 h s0_31 = some rr → ss_R G h H → va_S (ss_A G) s.heap H locs → lv_has ls 3 [] → ww_M_canSweep p l e s m below meth c G this a1 a2 h rr  H locs 0 0 (F0 m 31 ls [.int s0_31]) := by
    intro s0_31 H locs ls hm hR hS hl
    obtain ⟨v1, qv1, hm⟩ := ss_bind hm
    obtain ⟨hnb, rfl⟩ := ss_bzs qv1
    exact ss_zret hC hr hnb hlocks hR hS (ss_with _ hm) dd_M_canSweep_31
  have J_30 : ∀  (H : Heap) (locs : List Loc) (ls : Array Slot), mm_M_canSweep_j30 N this a1 a2 h = some rr → ss_R G h H → va_S (ss_A G) s.heap H locs → lv_has ls 3 [] → ww_M_canSweep p l e s m below meth c G this a1 a2 h rr  H locs 0 0 (F0 m 30 ls []) := by
    intro  H locs ls hm hR hS hl
    refine lv_iconst (v := 0) hx hb dd_M_canSweep_30 (by decide) ?_
    exact J_31 (0 : Int32)  _ _ _ hm hR hS hl
  refine ss_aload_n hx hb dd_M_canSweep_0 rfl (lv_at hl 0 rfl) ?_
  obtain ⟨r2, qr2, hm⟩ := ss_bind hm
  refine ss_getr hC hK hR kf_M_39 rfl qr2 dd_M_canSweep_1 ?_
  refine lv_bipush (v := 13) hx hb dd_M_canSweep_4 (by decide) ?_
  obtain ⟨v3, qv3, hm⟩ := ss_bind hm
  refine ss_iald hC hK hR qv3 dd_M_canSweep_6 ?_
  refine lv_iload_n hx hb dd_M_canSweep_7 rfl (lv_at hl 1 rfl) ?_
  obtain ⟨v4, qv4, hm⟩ := ss_bind hm
  refine ss_cS 0 0 (As := [.int v3, .int a1]) hC hK hR hS hl.1 (cc_M_isOf l G N _ _ _ _ qv4) km_M_316 ⟨Nat.le_of_ble_eq_true rfl, Nat.le_of_ble_eq_true rfl⟩ ⟨Nat.le_of_ble_eq_true rfl, Nat.le_of_ble_eq_true rfl, Nat.le_of_ble_eq_true rfl, Nat.le_of_ble_eq_true rfl⟩ rfl rfl (Nat.le_of_ble_eq_true rfl) dd_M_canSweep_8 (fun H locs hR hS => ?_)
  refine lv_if_ne (tgt := 30) hx hb dd_M_canSweep_11 (by decide) (fun c5 => ?_) (fun c5 => ?_)
  · have hm := ss_iff hm c5
    exact J_30  _ _ _ hm hR hS (lv_sub hl [] rfl)
  · have hm := ss_ift hm c5
    refine ss_aload_n hx hb dd_M_canSweep_14 rfl (lv_at hl 0 rfl) ?_
    obtain ⟨r6, qr6, hm⟩ := ss_bind hm
    refine ss_getr hC hK hR kf_M_39 rfl qr6 dd_M_canSweep_15 ?_
    refine lv_bipush (v := 14) hx hb dd_M_canSweep_18 (by decide) ?_
    refine lv_iload_n hx hb dd_M_canSweep_20 rfl (lv_at hl 2 rfl) ?_
    refine lv_iadd hx hb dd_M_canSweep_21 ?_
    obtain ⟨v7, qv7, hm⟩ := ss_bind hm
    refine ss_iald hC hK hR qv7 dd_M_canSweep_22 ?_
    refine lv_if_le (tgt := 30) hx hb dd_M_canSweep_23 (by decide) (fun c8 => ?_) (fun c8 => ?_)
    · have hm := ss_ift hm c8
      exact J_30  _ _ _ hm hR hS (lv_sub hl [] rfl)
    · have hm := ss_iff hm c8
      refine lv_iconst (v := 1) hx hb dd_M_canSweep_26 (by decide) ?_
      refine lv_goto (tgt := 31) hx hb dd_M_canSweep_27 (by decide) ?_
      exact J_31 (1 : Int32)  _ _ _ hm hR hS (lv_sub hl [] rfl)
theorem dd_M_sweep_0 : decode bb_M_sweep 0 = .ok (.aload_n 0, 1) := by decide +kernel
theorem dd_M_sweep_1 : decode bb_M_sweep 1 = .ok (.iload_n 1, 1) := by decide +kernel
theorem dd_M_sweep_2 : decode bb_M_sweep 2 = .ok (.invokevirtual 322, 3) := by decide +kernel
theorem dd_M_sweep_5 : decode bb_M_sweep 5 = .ok (.ifCond .eq 20, 3) := by decide +kernel
theorem dd_M_sweep_8 : decode bb_M_sweep 8 = .ok (.aload_n 0, 1) := by decide +kernel
theorem dd_M_sweep_9 : decode bb_M_sweep 9 = .ok (.iload_n 2, 1) := by decide +kernel
theorem dd_M_sweep_10 : decode bb_M_sweep 10 = .ok (.invokevirtual 313, 3) := by decide +kernel
theorem dd_M_sweep_13 : decode bb_M_sweep 13 = .ok (.ifCond .eq 12, 3) := by decide +kernel
theorem dd_M_sweep_16 : decode bb_M_sweep 16 = .ok (.aload_n 0, 1) := by decide +kernel
theorem dd_M_sweep_17 : decode bb_M_sweep 17 = .ok (.iload_n 1, 1) := by decide +kernel
theorem dd_M_sweep_18 : decode bb_M_sweep 18 = .ok (.iload_n 2, 1) := by decide +kernel
theorem dd_M_sweep_19 : decode bb_M_sweep 19 = .ok (.invokevirtual 375, 3) := by decide +kernel
theorem dd_M_sweep_22 : decode bb_M_sweep 22 = .ok (.ifCond .ne 5, 3) := by decide +kernel
theorem dd_M_sweep_25 : decode bb_M_sweep 25 = .ok (.iconst (-1), 1) := by decide +kernel
theorem dd_M_sweep_26 : decode bb_M_sweep 26 = .ok (.ireturn, 1) := by decide +kernel
theorem dd_M_sweep_27 : decode bb_M_sweep 27 = .ok (.aload_n 0, 1) := by decide +kernel
theorem dd_M_sweep_28 : decode bb_M_sweep 28 = .ok (.invokevirtual 369, 3) := by decide +kernel
theorem dd_M_sweep_31 : decode bb_M_sweep 31 = .ok (.aload_n 0, 1) := by decide +kernel
theorem dd_M_sweep_32 : decode bb_M_sweep 32 = .ok (.getfield 39, 3) := by decide +kernel
theorem dd_M_sweep_35 : decode bb_M_sweep 35 = .ok (.bipush 13, 2) := by decide +kernel
theorem dd_M_sweep_37 : decode bb_M_sweep 37 = .ok (.dup2, 1) := by decide +kernel
theorem dd_M_sweep_38 : decode bb_M_sweep 38 = .ok (.iaload, 1) := by decide +kernel
theorem dd_M_sweep_39 : decode bb_M_sweep 39 = .ok (.iconst 1, 1) := by decide +kernel
theorem dd_M_sweep_40 : decode bb_M_sweep 40 = .ok (.iload_n 1, 1) := by decide +kernel
theorem dd_M_sweep_41 : decode bb_M_sweep 41 = .ok (.ishl, 1) := by decide +kernel
theorem dd_M_sweep_42 : decode bb_M_sweep 42 = .ok (.ior, 1) := by decide +kernel
theorem dd_M_sweep_43 : decode bb_M_sweep 43 = .ok (.iastore, 1) := by decide +kernel
theorem dd_M_sweep_44 : decode bb_M_sweep 44 = .ok (.aload_n 0, 1) := by decide +kernel
theorem dd_M_sweep_45 : decode bb_M_sweep 45 = .ok (.iload_n 1, 1) := by decide +kernel
theorem dd_M_sweep_46 : decode bb_M_sweep 46 = .ok (.iload_n 2, 1) := by decide +kernel
theorem dd_M_sweep_47 : decode bb_M_sweep 47 = .ok (.invokevirtual 359, 3) := by decide +kernel
theorem dd_M_sweep_50 : decode bb_M_sweep 50 = .ok (.ireturn, 1) := by decide +kernel
def mm_M_sweep_j25 (N : Nat) (this : Option Nat) (a1 : Int32) (a2 : Int32) (h_25 : ss_Hp) : Option (Int32 × ss_Hp) :=
  some ((-1 : Int32), h_25)
def mm_M_sweep (N : Nat) (this : Option Nat) (a1 : Int32) (a2 : Int32) (h : ss_Hp) : Option (Int32 × ss_Hp) :=
  if ss_is h this 12 = true then
    (mm_M_isHouse N this a1 h).bind fun v1 =>
    if v1 = 0 then
      mm_M_sweep_j25 N this a1 a2 h
    else
      (mm_M_isStep N this a2 h).bind fun v3 =>
      if v3 = 0 then
        mm_M_sweep_j25 N this a1 a2 h
      else
        (mm_M_canSweep N this a1 a2 h).bind fun v5 =>
        if v5 = 0 then
          mm_M_sweep_j25 N this a1 a2 h
        else
          (mm_M_keepsAct N this h).bind fun h7 =>
          (ss_gr h7 this 12 9).bind fun r8 =>
          (ss_ai h7 r8 20 (13 : Int32)).bind fun v9 =>
          (ss_ui h7 r8 20 (13 : Int32) (v9 ||| ((1 : Int32) <<< (a1 &&& 31)))).bind fun h10 =>
          ss_b2 (mm_M_takes N this a1 a2 h10) fun v11 h12 =>
          some (v11, h12)
  else none
abbrev ww_M_sweep (p : Program) (l : Launch) (e : Env) (s : State) (m : MethodId) (below : List Frame) (meth : Method) (c : Code) (G : ss_G) (this : Option Nat) (a1 : Int32) (a2 : Int32) (h : ss_Hp) (rr : Int32) (hh : ss_Hp) (H : Heap) (locs : List Loc) (k n : Nat) (g : JFrame) : Prop := W p l e (headSpec (ss_w yy_M_sweep bb_M_sweep 3 (some (.int))) ({ frames := 2, cells := 0, slots := 0, locals := 45 })).room s m ([ss_v (ss_b G) this, .int a1, .int a2] : List Value).toArray below meth c H locs k n (MQ below (ss_Qc G (some (.int rr)) hh) ([ss_v (ss_b G) this, .int a1, .int a2] : List Value).toArray s 0 0 (ss_A G)) g
theorem ck_M_sweep {N : Nat} {this : Option Nat} {a1 : Int32} {a2 : Int32} {h : ss_Hp} {res : Int32 × ss_Hp} (hm : mm_M_sweep N this a1 a2 h = some res) : ss_is h this 12 = true := (ss_chk hm).1
set_option maxHeartbeats 4000000 in
set_option maxRecDepth 100000 in
theorem cc_M_sweep (l : Launch) (G : ss_G) (N : Nat) (this : Option Nat) (a1 : Int32) (a2 : Int32) (h : ss_Hp) (rr : Int32) (hh : ss_Hp) (hm : mm_M_sweep N this a1 a2 h = some (rr, hh)) : ss_Ct l G yy_M_sweep bb_M_sweep 3 (some (.int)) ({ frames := 2, cells := 0, slots := 0, locals := 45 }) [ss_v (ss_b G) this, .int a1, .int a2] h (some (.int rr)) hh := by
  obtain ⟨hck, hm⟩ := ss_chk hm
  refine Met.ofW (cc := bb_M_sweep) (maxL := 3) (ret := (some (.int))) (by decide) rfl ?_
  intro p e s m args below meth c s₁ B hml hv
  obtain ⟨rfl, hR, hK⟩ := hv
  have hC : CallFix p m c bb_M_sweep 3 s _ lw_g sR_12 := ⟨B.exec, B.bytes, hml, findClass_of_methodNamed B.named, fun w hw => atoms_spec (ws := ss_w yy_M_sweep bb_M_sweep 3 (some (.int))) B.pre w (List.mem_cons_of_mem _ hw)⟩
  have hx := hC.1
  have hb := hC.2.1
  have hr := B.returns
  have hlocks := B.notSynchronized
  have hS : va_S (ss_A G) s.heap s.heap [] := va_S.rf
  have hl := lv_entry ([ss_v (ss_b G) this, .int a1, .int a2]) (n := 3) (by simp [lg_sl, ss_v_cat, ss_cat_i, ss_cat_l, ss_cat_r])
  rw [lg_entry_eq]
  generalize (lg_sl ([ss_v (ss_b G) this, .int a1, .int a2]) ++ List.replicate (3 - (lg_sl ([ss_v (ss_b G) this, .int a1, .int a2])).length) Slot.unset).toArray = ls at hl ⊢
  have hl : lv_has ls 3 [(0, ss_v (ss_b G) this), (1, .int a1), (2, .int a2)] := by simpa [lv_args, ss_v_cat, ss_cat_i, ss_cat_l, ss_cat_r] using hl
  have J_25 : ∀ (h_25 : ss_Hp) (H : Heap) (locs : List Loc) (ls : Array Slot), mm_M_sweep_j25 N this a1 a2 h_25 = some (rr, hh) → ss_R G h_25 H → va_S (ss_A G) s.heap H locs → lv_has ls 3 [] → ww_M_sweep p l e s m below meth c G this a1 a2 h rr hh  H locs 0 0 (F0 m 25 ls []) := by
    intro h_25 H locs ls hm hR hS hl
    refine lv_iconst (v := -1) hx hb dd_M_sweep_25 (by decide) ?_
    exact ss_iret hC hr hlocks hR hS hm dd_M_sweep_26
  refine ss_aload_n hx hb dd_M_sweep_0 rfl (lv_at hl 0 rfl) ?_
  refine lv_iload_n hx hb dd_M_sweep_1 rfl (lv_at hl 1 rfl) ?_
  obtain ⟨v1, qv1, hm⟩ := ss_bind hm
  refine ss_cV 0 0 (As := [.int a1]) hC hK hR hS hl.1 (cc_M_isHouse l G N _ _ _ _ qv1) km_M_322 (ck_M_isHouse qv1) ⟨Nat.le_of_ble_eq_true rfl, Nat.le_of_ble_eq_true rfl⟩ ⟨Nat.le_of_ble_eq_true rfl, Nat.le_of_ble_eq_true rfl, Nat.le_of_ble_eq_true rfl, Nat.le_of_ble_eq_true rfl⟩ rfl rfl (Nat.le_of_ble_eq_true rfl) dd_M_sweep_2 (fun H locs hR hS => ?_)
  refine lv_if_eq (tgt := 25) hx hb dd_M_sweep_5 (by decide) (fun c2 => ?_) (fun c2 => ?_)
  · have hm := ss_ift hm c2
    exact J_25 h _ _ _ hm hR hS (lv_sub hl [] rfl)
  · have hm := ss_iff hm c2
    refine ss_aload_n hx hb dd_M_sweep_8 rfl (lv_at hl 0 rfl) ?_
    refine lv_iload_n hx hb dd_M_sweep_9 rfl (lv_at hl 2 rfl) ?_
    obtain ⟨v3, qv3, hm⟩ := ss_bind hm
    refine ss_cV 0 0 (As := [.int a2]) hC hK hR hS hl.1 (cc_M_isStep l G N _ _ _ _ qv3) km_M_313 (ck_M_isStep qv3) ⟨Nat.le_of_ble_eq_true rfl, Nat.le_of_ble_eq_true rfl⟩ ⟨Nat.le_of_ble_eq_true rfl, Nat.le_of_ble_eq_true rfl, Nat.le_of_ble_eq_true rfl, Nat.le_of_ble_eq_true rfl⟩ rfl rfl (Nat.le_of_ble_eq_true rfl) dd_M_sweep_10 (fun H locs hR hS => ?_)
    refine lv_if_eq (tgt := 25) hx hb dd_M_sweep_13 (by decide) (fun c4 => ?_) (fun c4 => ?_)
    · have hm := ss_ift hm c4
      exact J_25 h _ _ _ hm hR hS (lv_sub hl [] rfl)
    · have hm := ss_iff hm c4
      refine ss_aload_n hx hb dd_M_sweep_16 rfl (lv_at hl 0 rfl) ?_
      refine lv_iload_n hx hb dd_M_sweep_17 rfl (lv_at hl 1 rfl) ?_
      refine lv_iload_n hx hb dd_M_sweep_18 rfl (lv_at hl 2 rfl) ?_
      obtain ⟨v5, qv5, hm⟩ := ss_bind hm
      refine ss_cV 0 0 (As := [.int a1, .int a2]) hC hK hR hS hl.1 (cc_M_canSweep l G N _ _ _ _ _ qv5) km_M_375 (ck_M_canSweep qv5) ⟨Nat.le_of_ble_eq_true rfl, Nat.le_of_ble_eq_true rfl⟩ ⟨Nat.le_of_ble_eq_true rfl, Nat.le_of_ble_eq_true rfl, Nat.le_of_ble_eq_true rfl, Nat.le_of_ble_eq_true rfl⟩ rfl rfl (Nat.le_of_ble_eq_true rfl) dd_M_sweep_19 (fun H locs hR hS => ?_)
      refine lv_if_ne (tgt := 27) hx hb dd_M_sweep_22 (by decide) (fun c6 => ?_) (fun c6 => ?_)
      · have hm := ss_iff hm c6
        refine ss_aload_n hx hb dd_M_sweep_27 rfl (lv_at hl 0 rfl) ?_
        obtain ⟨h7, qh7, hm⟩ := ss_bind hm
        refine ss_cVv 0 0 (As := []) hC hK hR hS hl.1 (cc_M_keepsAct l G N _ _ _ qh7) km_M_369 (ck_M_keepsAct qh7) ⟨Nat.le_of_ble_eq_true rfl, Nat.le_of_ble_eq_true rfl⟩ ⟨Nat.le_of_ble_eq_true rfl, Nat.le_of_ble_eq_true rfl, Nat.le_of_ble_eq_true rfl, Nat.le_of_ble_eq_true rfl⟩ rfl rfl (Nat.le_of_ble_eq_true rfl) dd_M_sweep_28 (fun H locs hR hS => ?_)
        refine ss_aload_n hx hb dd_M_sweep_31 rfl (lv_at hl 0 rfl) ?_
        obtain ⟨r8, qr8, hm⟩ := ss_bind hm
        refine ss_getr hC hK hR kf_M_39 rfl qr8 dd_M_sweep_32 ?_
        refine lv_bipush (v := 13) hx hb dd_M_sweep_35 (by decide) ?_
        refine ss_dup2ir hx hb dd_M_sweep_37 ?_
        obtain ⟨v9, qv9, hm⟩ := ss_bind hm
        refine ss_iald hC hK hR qv9 dd_M_sweep_38 ?_
        refine lv_iconst (v := 1) hx hb dd_M_sweep_39 (by decide) ?_
        refine lv_iload_n hx hb dd_M_sweep_40 rfl (lv_at hl 1 rfl) ?_
        refine lv_ishl hx hb dd_M_sweep_41 ?_
        refine lv_ior hx hb dd_M_sweep_42 ?_
        obtain ⟨h10, qh10, hm⟩ := ss_bind hm
        refine ss_iast hC hK hR hS qh10 dd_M_sweep_43 (fun H locs hR hS => ?_)
        refine ss_aload_n hx hb dd_M_sweep_44 rfl (lv_at hl 0 rfl) ?_
        refine lv_iload_n hx hb dd_M_sweep_45 rfl (lv_at hl 1 rfl) ?_
        refine lv_iload_n hx hb dd_M_sweep_46 rfl (lv_at hl 2 rfl) ?_
        obtain ⟨v11, h12, qh12, hm⟩ := ss_bind2 hm
        refine ss_cV 0 0 (As := [.int a1, .int a2]) hC hK hR hS hl.1 (cc_M_takes l G N _ _ _ _ _ _ qh12) km_M_359 (ck_M_takes qh12) ⟨Nat.le_of_ble_eq_true rfl, Nat.le_of_ble_eq_true rfl⟩ ⟨Nat.le_of_ble_eq_true rfl, Nat.le_of_ble_eq_true rfl, Nat.le_of_ble_eq_true rfl, Nat.le_of_ble_eq_true rfl⟩ rfl rfl (Nat.le_of_ble_eq_true rfl) dd_M_sweep_47 (fun H locs hR hS => ?_)
        exact ss_iret hC hr hlocks hR hS hm dd_M_sweep_50
      · have hm := ss_ift hm c6
        exact J_25 h _ _ _ hm hR hS (lv_sub hl [] rfl)
theorem dd_M_toss_0 : decode bb_M_toss 0 = .ok (.aload_n 0, 1) := by decide +kernel
theorem dd_M_toss_1 : decode bb_M_toss 1 = .ok (.iload_n 1, 1) := by decide +kernel
theorem dd_M_toss_2 : decode bb_M_toss 2 = .ok (.invokevirtual 313, 3) := by decide +kernel
theorem dd_M_toss_5 : decode bb_M_toss 5 = .ok (.ifCond .eq 15, 3) := by decide +kernel
theorem dd_M_toss_8 : decode bb_M_toss 8 = .ok (.iload_n 2, 1) := by decide +kernel
theorem dd_M_toss_9 : decode bb_M_toss 9 = .ok (.i2l, 1) := by decide +kernel
theorem dd_M_toss_10 : decode bb_M_toss 10 = .ok (.lconst 1, 1) := by decide +kernel
theorem dd_M_toss_11 : decode bb_M_toss 11 = .ok (.ldc2_w 378, 3) := by decide +kernel
theorem dd_M_toss_14 : decode bb_M_toss 14 = .ok (.invokestatic 124, 3) := by decide +kernel
theorem dd_M_toss_17 : decode bb_M_toss 17 = .ok (.ifCond .ne 5, 3) := by decide +kernel
theorem dd_M_toss_20 : decode bb_M_toss 20 = .ok (.iconst (-1), 1) := by decide +kernel
theorem dd_M_toss_21 : decode bb_M_toss 21 = .ok (.ireturn, 1) := by decide +kernel
theorem dd_M_toss_22 : decode bb_M_toss 22 = .ok (.aload_n 0, 1) := by decide +kernel
theorem dd_M_toss_23 : decode bb_M_toss 23 = .ok (.invokevirtual 369, 3) := by decide +kernel
theorem dd_M_toss_26 : decode bb_M_toss 26 = .ok (.aload_n 0, 1) := by decide +kernel
theorem dd_M_toss_27 : decode bb_M_toss 27 = .ok (.getfield 39, 3) := by decide +kernel
theorem dd_M_toss_30 : decode bb_M_toss 30 = .ok (.bipush 14, 2) := by decide +kernel
theorem dd_M_toss_32 : decode bb_M_toss 32 = .ok (.iload_n 1, 1) := by decide +kernel
theorem dd_M_toss_33 : decode bb_M_toss 33 = .ok (.iadd, 1) := by decide +kernel
theorem dd_M_toss_34 : decode bb_M_toss 34 = .ok (.aload_n 0, 1) := by decide +kernel
theorem dd_M_toss_35 : decode bb_M_toss 35 = .ok (.getfield 39, 3) := by decide +kernel
theorem dd_M_toss_38 : decode bb_M_toss 38 = .ok (.bipush 14, 2) := by decide +kernel
theorem dd_M_toss_40 : decode bb_M_toss 40 = .ok (.iload_n 1, 1) := by decide +kernel
theorem dd_M_toss_41 : decode bb_M_toss 41 = .ok (.iadd, 1) := by decide +kernel
theorem dd_M_toss_42 : decode bb_M_toss 42 = .ok (.iaload, 1) := by decide +kernel
theorem dd_M_toss_43 : decode bb_M_toss 43 = .ok (.iload_n 2, 1) := by decide +kernel
theorem dd_M_toss_44 : decode bb_M_toss 44 = .ok (.iadd, 1) := by decide +kernel
theorem dd_M_toss_45 : decode bb_M_toss 45 = .ok (.invokestatic 333, 3) := by decide +kernel
theorem dd_M_toss_48 : decode bb_M_toss 48 = .ok (.iastore, 1) := by decide +kernel
theorem dd_M_toss_49 : decode bb_M_toss 49 = .ok (.aload_n 0, 1) := by decide +kernel
theorem dd_M_toss_50 : decode bb_M_toss 50 = .ok (.getfield 39, 3) := by decide +kernel
theorem dd_M_toss_53 : decode bb_M_toss 53 = .ok (.bipush 14, 2) := by decide +kernel
theorem dd_M_toss_55 : decode bb_M_toss 55 = .ok (.iload_n 1, 1) := by decide +kernel
theorem dd_M_toss_56 : decode bb_M_toss 56 = .ok (.iadd, 1) := by decide +kernel
theorem dd_M_toss_57 : decode bb_M_toss 57 = .ok (.iaload, 1) := by decide +kernel
theorem dd_M_toss_58 : decode bb_M_toss 58 = .ok (.ireturn, 1) := by decide +kernel
def mm_M_toss_j20 (N : Nat) (this : Option Nat) (a1 : Int32) (a2 : Int32) (h_20 : ss_Hp) : Option (Int32 × ss_Hp) :=
  some ((-1 : Int32), h_20)
def mm_M_toss (N : Nat) (this : Option Nat) (a1 : Int32) (a2 : Int32) (h : ss_Hp) : Option (Int32 × ss_Hp) :=
  if ss_is h this 12 = true then
    (mm_M_isStep N this a1 h).bind fun v1 =>
    if v1 = 0 then
      mm_M_toss_j20 N this a1 a2 h
    else
      (mm_M_in N ((a2).toInt64) (1 : Int64) (99 : Int64)).bind fun v3 =>
      if v3 = 0 then
        mm_M_toss_j20 N this a1 a2 h
      else
        (mm_M_keepsAct N this h).bind fun h5 =>
        (ss_gr h5 this 12 9).bind fun r6 =>
        (ss_gr h5 this 12 9).bind fun r7 =>
        (ss_ai h5 r7 20 ((14 : Int32) + a1)).bind fun v8 =>
        (mm_M_held N (v8 + a2)).bind fun v9 =>
        (ss_ui h5 r6 20 ((14 : Int32) + a1) v9).bind fun h10 =>
        (ss_gr h10 this 12 9).bind fun r11 =>
        (ss_ai h10 r11 20 ((14 : Int32) + a1)).bind fun v12 =>
        some (v12, h10)
  else none
abbrev ww_M_toss (p : Program) (l : Launch) (e : Env) (s : State) (m : MethodId) (below : List Frame) (meth : Method) (c : Code) (G : ss_G) (this : Option Nat) (a1 : Int32) (a2 : Int32) (h : ss_Hp) (rr : Int32) (hh : ss_Hp) (H : Heap) (locs : List Loc) (k n : Nat) (g : JFrame) : Prop := W p l e (headSpec (ss_w yy_M_toss bb_M_toss 3 (some (.int))) ({ frames := 1, cells := 0, slots := 0, locals := 25 })).room s m ([ss_v (ss_b G) this, .int a1, .int a2] : List Value).toArray below meth c H locs k n (MQ below (ss_Qc G (some (.int rr)) hh) ([ss_v (ss_b G) this, .int a1, .int a2] : List Value).toArray s 0 0 (ss_A G)) g
theorem ck_M_toss {N : Nat} {this : Option Nat} {a1 : Int32} {a2 : Int32} {h : ss_Hp} {res : Int32 × ss_Hp} (hm : mm_M_toss N this a1 a2 h = some res) : ss_is h this 12 = true := (ss_chk hm).1
set_option maxHeartbeats 4000000 in
set_option maxRecDepth 100000 in
theorem cc_M_toss (l : Launch) (G : ss_G) (N : Nat) (this : Option Nat) (a1 : Int32) (a2 : Int32) (h : ss_Hp) (rr : Int32) (hh : ss_Hp) (hm : mm_M_toss N this a1 a2 h = some (rr, hh)) : ss_Ct l G yy_M_toss bb_M_toss 3 (some (.int)) ({ frames := 1, cells := 0, slots := 0, locals := 25 }) [ss_v (ss_b G) this, .int a1, .int a2] h (some (.int rr)) hh := by
  obtain ⟨hck, hm⟩ := ss_chk hm
  refine Met.ofW (cc := bb_M_toss) (maxL := 3) (ret := (some (.int))) (by decide) rfl ?_
  intro p e s m args below meth c s₁ B hml hv
  obtain ⟨rfl, hR, hK⟩ := hv
  have hC : CallFix p m c bb_M_toss 3 s _ lw_g sR_12 := ⟨B.exec, B.bytes, hml, findClass_of_methodNamed B.named, fun w hw => atoms_spec (ws := ss_w yy_M_toss bb_M_toss 3 (some (.int))) B.pre w (List.mem_cons_of_mem _ hw)⟩
  have hx := hC.1
  have hb := hC.2.1
  have hr := B.returns
  have hlocks := B.notSynchronized
  have hS : va_S (ss_A G) s.heap s.heap [] := va_S.rf
  have hl := lv_entry ([ss_v (ss_b G) this, .int a1, .int a2]) (n := 3) (by simp [lg_sl, ss_v_cat, ss_cat_i, ss_cat_l, ss_cat_r])
  rw [lg_entry_eq]
  generalize (lg_sl ([ss_v (ss_b G) this, .int a1, .int a2]) ++ List.replicate (3 - (lg_sl ([ss_v (ss_b G) this, .int a1, .int a2])).length) Slot.unset).toArray = ls at hl ⊢
  have hl : lv_has ls 3 [(0, ss_v (ss_b G) this), (1, .int a1), (2, .int a2)] := by simpa [lv_args, ss_v_cat, ss_cat_i, ss_cat_l, ss_cat_r] using hl
  have J_20 : ∀ (h_20 : ss_Hp) (H : Heap) (locs : List Loc) (ls : Array Slot), mm_M_toss_j20 N this a1 a2 h_20 = some (rr, hh) → ss_R G h_20 H → va_S (ss_A G) s.heap H locs → lv_has ls 3 [] → ww_M_toss p l e s m below meth c G this a1 a2 h rr hh  H locs 0 0 (F0 m 20 ls []) := by
    intro h_20 H locs ls hm hR hS hl
    refine lv_iconst (v := -1) hx hb dd_M_toss_20 (by decide) ?_
    exact ss_iret hC hr hlocks hR hS hm dd_M_toss_21
  refine ss_aload_n hx hb dd_M_toss_0 rfl (lv_at hl 0 rfl) ?_
  refine lv_iload_n hx hb dd_M_toss_1 rfl (lv_at hl 1 rfl) ?_
  obtain ⟨v1, qv1, hm⟩ := ss_bind hm
  refine ss_cV 0 0 (As := [.int a1]) hC hK hR hS hl.1 (cc_M_isStep l G N _ _ _ _ qv1) km_M_313 (ck_M_isStep qv1) ⟨Nat.le_of_ble_eq_true rfl, Nat.le_of_ble_eq_true rfl⟩ ⟨Nat.le_of_ble_eq_true rfl, Nat.le_of_ble_eq_true rfl, Nat.le_of_ble_eq_true rfl, Nat.le_of_ble_eq_true rfl⟩ rfl rfl (Nat.le_of_ble_eq_true rfl) dd_M_toss_2 (fun H locs hR hS => ?_)
  refine lv_if_eq (tgt := 20) hx hb dd_M_toss_5 (by decide) (fun c2 => ?_) (fun c2 => ?_)
  · have hm := ss_ift hm c2
    exact J_20 h _ _ _ hm hR hS (lv_sub hl [] rfl)
  · have hm := ss_iff hm c2
    refine lv_iload_n hx hb dd_M_toss_8 rfl (lv_at hl 2 rfl) ?_
    refine lv_i2l hx hb dd_M_toss_9 rfl ?_
    refine lv_lconst (v := 1) hx hb dd_M_toss_10 (by decide) ?_
    refine lv_ldc2 (v := 99) hx hb hC.2.2.2.1 (hC.2.2.2.2 _ kl_M_378) dd_M_toss_11 ?_
    obtain ⟨v3, qv3, hm⟩ := ss_bind hm
    refine ss_cS 0 0 (As := [.long ((a2).toInt64), .long (1 : Int64), .long (99 : Int64)]) hC hK hR hS hl.1 (cc_M_in l G N _ _ _ _ _ qv3) km_M_124 ⟨Nat.le_of_ble_eq_true rfl, Nat.le_of_ble_eq_true rfl⟩ ⟨Nat.le_of_ble_eq_true rfl, Nat.le_of_ble_eq_true rfl, Nat.le_of_ble_eq_true rfl, Nat.le_of_ble_eq_true rfl⟩ rfl rfl (Nat.le_of_ble_eq_true rfl) dd_M_toss_14 (fun H locs hR hS => ?_)
    refine lv_if_ne (tgt := 22) hx hb dd_M_toss_17 (by decide) (fun c4 => ?_) (fun c4 => ?_)
    · have hm := ss_iff hm c4
      refine ss_aload_n hx hb dd_M_toss_22 rfl (lv_at hl 0 rfl) ?_
      obtain ⟨h5, qh5, hm⟩ := ss_bind hm
      refine ss_cVv 0 0 (As := []) hC hK hR hS hl.1 (cc_M_keepsAct l G N _ _ _ qh5) km_M_369 (ck_M_keepsAct qh5) ⟨Nat.le_of_ble_eq_true rfl, Nat.le_of_ble_eq_true rfl⟩ ⟨Nat.le_of_ble_eq_true rfl, Nat.le_of_ble_eq_true rfl, Nat.le_of_ble_eq_true rfl, Nat.le_of_ble_eq_true rfl⟩ rfl rfl (Nat.le_of_ble_eq_true rfl) dd_M_toss_23 (fun H locs hR hS => ?_)
      refine ss_aload_n hx hb dd_M_toss_26 rfl (lv_at hl 0 rfl) ?_
      obtain ⟨r6, qr6, hm⟩ := ss_bind hm
      refine ss_getr hC hK hR kf_M_39 rfl qr6 dd_M_toss_27 ?_
      refine lv_bipush (v := 14) hx hb dd_M_toss_30 (by decide) ?_
      refine lv_iload_n hx hb dd_M_toss_32 rfl (lv_at hl 1 rfl) ?_
      refine lv_iadd hx hb dd_M_toss_33 ?_
      refine ss_aload_n hx hb dd_M_toss_34 rfl (lv_at hl 0 rfl) ?_
      obtain ⟨r7, qr7, hm⟩ := ss_bind hm
      refine ss_getr hC hK hR kf_M_39 rfl qr7 dd_M_toss_35 ?_
      refine lv_bipush (v := 14) hx hb dd_M_toss_38 (by decide) ?_
      refine lv_iload_n hx hb dd_M_toss_40 rfl (lv_at hl 1 rfl) ?_
      refine lv_iadd hx hb dd_M_toss_41 ?_
      obtain ⟨v8, qv8, hm⟩ := ss_bind hm
      refine ss_iald hC hK hR qv8 dd_M_toss_42 ?_
      refine lv_iload_n hx hb dd_M_toss_43 rfl (lv_at hl 2 rfl) ?_
      refine lv_iadd hx hb dd_M_toss_44 ?_
      obtain ⟨v9, qv9, hm⟩ := ss_bind hm
      refine ss_cS 0 0 (As := [.int (v8 + a2)]) hC hK hR hS hl.1 (cc_M_held l G N _ _ _ qv9) km_M_333 ⟨Nat.le_of_ble_eq_true rfl, Nat.le_of_ble_eq_true rfl⟩ ⟨Nat.le_of_ble_eq_true rfl, Nat.le_of_ble_eq_true rfl, Nat.le_of_ble_eq_true rfl, Nat.le_of_ble_eq_true rfl⟩ rfl rfl (by simp [ss_v_cat, ss_cat_i, ss_cat_l, ss_cat_r]) dd_M_toss_45 (fun H locs hR hS => ?_)
      obtain ⟨h10, qh10, hm⟩ := ss_bind hm
      refine ss_iast hC hK hR hS qh10 dd_M_toss_48 (fun H locs hR hS => ?_)
      refine ss_aload_n hx hb dd_M_toss_49 rfl (lv_at hl 0 rfl) ?_
      obtain ⟨r11, qr11, hm⟩ := ss_bind hm
      refine ss_getr hC hK hR kf_M_39 rfl qr11 dd_M_toss_50 ?_
      refine lv_bipush (v := 14) hx hb dd_M_toss_53 (by decide) ?_
      refine lv_iload_n hx hb dd_M_toss_55 rfl (lv_at hl 1 rfl) ?_
      refine lv_iadd hx hb dd_M_toss_56 ?_
      obtain ⟨v12, qv12, hm⟩ := ss_bind hm
      refine ss_iald hC hK hR qv12 dd_M_toss_57 ?_
      exact ss_iret hC hr hlocks hR hS hm dd_M_toss_58
    · have hm := ss_ift hm c4
      exact J_20 h _ _ _ hm hR hS (lv_sub hl [] rfl)
theorem dd_M_pull_0 : decode bb_M_pull 0 = .ok (.aload_n 0, 1) := by decide +kernel
theorem dd_M_pull_1 : decode bb_M_pull 1 = .ok (.iload_n 1, 1) := by decide +kernel
theorem dd_M_pull_2 : decode bb_M_pull 2 = .ok (.invokevirtual 313, 3) := by decide +kernel
theorem dd_M_pull_5 : decode bb_M_pull 5 = .ok (.ifCond .eq 15, 3) := by decide +kernel
theorem dd_M_pull_8 : decode bb_M_pull 8 = .ok (.aload_n 0, 1) := by decide +kernel
theorem dd_M_pull_9 : decode bb_M_pull 9 = .ok (.getfield 39, 3) := by decide +kernel
theorem dd_M_pull_12 : decode bb_M_pull 12 = .ok (.bipush 22, 2) := by decide +kernel
theorem dd_M_pull_14 : decode bb_M_pull 14 = .ok (.iload_n 1, 1) := by decide +kernel
theorem dd_M_pull_15 : decode bb_M_pull 15 = .ok (.iadd, 1) := by decide +kernel
theorem dd_M_pull_16 : decode bb_M_pull 16 = .ok (.iaload, 1) := by decide +kernel
theorem dd_M_pull_17 : decode bb_M_pull 17 = .ok (.ifCond .ge 5, 3) := by decide +kernel
theorem dd_M_pull_20 : decode bb_M_pull 20 = .ok (.iconst (-1), 1) := by decide +kernel
theorem dd_M_pull_21 : decode bb_M_pull 21 = .ok (.ireturn, 1) := by decide +kernel
theorem dd_M_pull_22 : decode bb_M_pull 22 = .ok (.aload_n 0, 1) := by decide +kernel
theorem dd_M_pull_23 : decode bb_M_pull 23 = .ok (.invokevirtual 369, 3) := by decide +kernel
theorem dd_M_pull_26 : decode bb_M_pull 26 = .ok (.aload_n 0, 1) := by decide +kernel
theorem dd_M_pull_27 : decode bb_M_pull 27 = .ok (.getfield 39, 3) := by decide +kernel
theorem dd_M_pull_30 : decode bb_M_pull 30 = .ok (.bipush 22, 2) := by decide +kernel
theorem dd_M_pull_32 : decode bb_M_pull 32 = .ok (.iload_n 1, 1) := by decide +kernel
theorem dd_M_pull_33 : decode bb_M_pull 33 = .ok (.iadd, 1) := by decide +kernel
theorem dd_M_pull_34 : decode bb_M_pull 34 = .ok (.iaload, 1) := by decide +kernel
theorem dd_M_pull_35 : decode bb_M_pull 35 = .ok (.istore_n 2, 1) := by decide +kernel
theorem dd_M_pull_36 : decode bb_M_pull 36 = .ok (.aload_n 0, 1) := by decide +kernel
theorem dd_M_pull_37 : decode bb_M_pull 37 = .ok (.getfield 39, 3) := by decide +kernel
theorem dd_M_pull_40 : decode bb_M_pull 40 = .ok (.bipush 22, 2) := by decide +kernel
theorem dd_M_pull_42 : decode bb_M_pull 42 = .ok (.iload_n 1, 1) := by decide +kernel
theorem dd_M_pull_43 : decode bb_M_pull 43 = .ok (.iadd, 1) := by decide +kernel
theorem dd_M_pull_44 : decode bb_M_pull 44 = .ok (.iconst (-1), 1) := by decide +kernel
theorem dd_M_pull_45 : decode bb_M_pull 45 = .ok (.iastore, 1) := by decide +kernel
theorem dd_M_pull_46 : decode bb_M_pull 46 = .ok (.iload_n 2, 1) := by decide +kernel
theorem dd_M_pull_47 : decode bb_M_pull 47 = .ok (.ireturn, 1) := by decide +kernel
def mm_M_pull_j20 (N : Nat) (this : Option Nat) (a1 : Int32) (h_20 : ss_Hp) : Option (Int32 × ss_Hp) :=
  some ((-1 : Int32), h_20)
def mm_M_pull (N : Nat) (this : Option Nat) (a1 : Int32) (h : ss_Hp) : Option (Int32 × ss_Hp) :=
  if ss_is h this 12 = true then
    (mm_M_isStep N this a1 h).bind fun v1 =>
    if v1 = 0 then
      mm_M_pull_j20 N this a1 h
    else
      (ss_gr h this 12 9).bind fun r3 =>
      (ss_ai h r3 20 ((22 : Int32) + a1)).bind fun v4 =>
      if 0 ≤ v4 then
        (mm_M_keepsAct N this h).bind fun h6 =>
        (ss_gr h6 this 12 9).bind fun r7 =>
        (ss_ai h6 r7 20 ((22 : Int32) + a1)).bind fun v8 =>
        (ss_gr h6 this 12 9).bind fun r9 =>
        (ss_ui h6 r9 20 ((22 : Int32) + a1) (-1 : Int32)).bind fun h10 =>
        some (v8, h10)
      else
        mm_M_pull_j20 N this a1 h
  else none
abbrev ww_M_pull (p : Program) (l : Launch) (e : Env) (s : State) (m : MethodId) (below : List Frame) (meth : Method) (c : Code) (G : ss_G) (this : Option Nat) (a1 : Int32) (h : ss_Hp) (rr : Int32) (hh : ss_Hp) (H : Heap) (locs : List Loc) (k n : Nat) (g : JFrame) : Prop := W p l e (headSpec (ss_w yy_M_pull bb_M_pull 3 (some (.int))) ({ frames := 1, cells := 0, slots := 0, locals := 21 })).room s m ([ss_v (ss_b G) this, .int a1] : List Value).toArray below meth c H locs k n (MQ below (ss_Qc G (some (.int rr)) hh) ([ss_v (ss_b G) this, .int a1] : List Value).toArray s 0 0 (ss_A G)) g
theorem ck_M_pull {N : Nat} {this : Option Nat} {a1 : Int32} {h : ss_Hp} {res : Int32 × ss_Hp} (hm : mm_M_pull N this a1 h = some res) : ss_is h this 12 = true := (ss_chk hm).1
set_option maxHeartbeats 4000000 in
set_option maxRecDepth 100000 in
theorem cc_M_pull (l : Launch) (G : ss_G) (N : Nat) (this : Option Nat) (a1 : Int32) (h : ss_Hp) (rr : Int32) (hh : ss_Hp) (hm : mm_M_pull N this a1 h = some (rr, hh)) : ss_Ct l G yy_M_pull bb_M_pull 3 (some (.int)) ({ frames := 1, cells := 0, slots := 0, locals := 21 }) [ss_v (ss_b G) this, .int a1] h (some (.int rr)) hh := by
  obtain ⟨hck, hm⟩ := ss_chk hm
  refine Met.ofW (cc := bb_M_pull) (maxL := 3) (ret := (some (.int))) (by decide) rfl ?_
  intro p e s m args below meth c s₁ B hml hv
  obtain ⟨rfl, hR, hK⟩ := hv
  have hC : CallFix p m c bb_M_pull 3 s _ lw_g sR_12 := ⟨B.exec, B.bytes, hml, findClass_of_methodNamed B.named, fun w hw => atoms_spec (ws := ss_w yy_M_pull bb_M_pull 3 (some (.int))) B.pre w (List.mem_cons_of_mem _ hw)⟩
  have hx := hC.1
  have hb := hC.2.1
  have hr := B.returns
  have hlocks := B.notSynchronized
  have hS : va_S (ss_A G) s.heap s.heap [] := va_S.rf
  have hl := lv_entry ([ss_v (ss_b G) this, .int a1]) (n := 3) (by simp [lg_sl, ss_v_cat, ss_cat_i, ss_cat_l, ss_cat_r])
  rw [lg_entry_eq]
  generalize (lg_sl ([ss_v (ss_b G) this, .int a1]) ++ List.replicate (3 - (lg_sl ([ss_v (ss_b G) this, .int a1])).length) Slot.unset).toArray = ls at hl ⊢
  have hl : lv_has ls 3 [(0, ss_v (ss_b G) this), (1, .int a1)] := by simpa [lv_args, ss_v_cat, ss_cat_i, ss_cat_l, ss_cat_r] using hl
  have J_20 : ∀ (h_20 : ss_Hp) (H : Heap) (locs : List Loc) (ls : Array Slot), mm_M_pull_j20 N this a1 h_20 = some (rr, hh) → ss_R G h_20 H → va_S (ss_A G) s.heap H locs → lv_has ls 3 [] → ww_M_pull p l e s m below meth c G this a1 h rr hh  H locs 0 0 (F0 m 20 ls []) := by
    intro h_20 H locs ls hm hR hS hl
    refine lv_iconst (v := -1) hx hb dd_M_pull_20 (by decide) ?_
    exact ss_iret hC hr hlocks hR hS hm dd_M_pull_21
  refine ss_aload_n hx hb dd_M_pull_0 rfl (lv_at hl 0 rfl) ?_
  refine lv_iload_n hx hb dd_M_pull_1 rfl (lv_at hl 1 rfl) ?_
  obtain ⟨v1, qv1, hm⟩ := ss_bind hm
  refine ss_cV 0 0 (As := [.int a1]) hC hK hR hS hl.1 (cc_M_isStep l G N _ _ _ _ qv1) km_M_313 (ck_M_isStep qv1) ⟨Nat.le_of_ble_eq_true rfl, Nat.le_of_ble_eq_true rfl⟩ ⟨Nat.le_of_ble_eq_true rfl, Nat.le_of_ble_eq_true rfl, Nat.le_of_ble_eq_true rfl, Nat.le_of_ble_eq_true rfl⟩ rfl rfl (Nat.le_of_ble_eq_true rfl) dd_M_pull_2 (fun H locs hR hS => ?_)
  refine lv_if_eq (tgt := 20) hx hb dd_M_pull_5 (by decide) (fun c2 => ?_) (fun c2 => ?_)
  · have hm := ss_ift hm c2
    exact J_20 h _ _ _ hm hR hS (lv_sub hl [] rfl)
  · have hm := ss_iff hm c2
    refine ss_aload_n hx hb dd_M_pull_8 rfl (lv_at hl 0 rfl) ?_
    obtain ⟨r3, qr3, hm⟩ := ss_bind hm
    refine ss_getr hC hK hR kf_M_39 rfl qr3 dd_M_pull_9 ?_
    refine lv_bipush (v := 22) hx hb dd_M_pull_12 (by decide) ?_
    refine lv_iload_n hx hb dd_M_pull_14 rfl (lv_at hl 1 rfl) ?_
    refine lv_iadd hx hb dd_M_pull_15 ?_
    obtain ⟨v4, qv4, hm⟩ := ss_bind hm
    refine ss_iald hC hK hR qv4 dd_M_pull_16 ?_
    refine lv_if_ge (tgt := 22) hx hb dd_M_pull_17 (by decide) (fun c5 => ?_) (fun c5 => ?_)
    · have hm := ss_ift hm c5
      refine ss_aload_n hx hb dd_M_pull_22 rfl (lv_at hl 0 rfl) ?_
      obtain ⟨h6, qh6, hm⟩ := ss_bind hm
      refine ss_cVv 0 0 (As := []) hC hK hR hS hl.1 (cc_M_keepsAct l G N _ _ _ qh6) km_M_369 (ck_M_keepsAct qh6) ⟨Nat.le_of_ble_eq_true rfl, Nat.le_of_ble_eq_true rfl⟩ ⟨Nat.le_of_ble_eq_true rfl, Nat.le_of_ble_eq_true rfl, Nat.le_of_ble_eq_true rfl, Nat.le_of_ble_eq_true rfl⟩ rfl rfl (Nat.le_of_ble_eq_true rfl) dd_M_pull_23 (fun H locs hR hS => ?_)
      refine ss_aload_n hx hb dd_M_pull_26 rfl (lv_at hl 0 rfl) ?_
      obtain ⟨r7, qr7, hm⟩ := ss_bind hm
      refine ss_getr hC hK hR kf_M_39 rfl qr7 dd_M_pull_27 ?_
      refine lv_bipush (v := 22) hx hb dd_M_pull_30 (by decide) ?_
      refine lv_iload_n hx hb dd_M_pull_32 rfl (lv_at hl 1 rfl) ?_
      refine lv_iadd hx hb dd_M_pull_33 ?_
      obtain ⟨v8, qv8, hm⟩ := ss_bind hm
      refine ss_iald hC hK hR qv8 dd_M_pull_34 ?_
      refine lv_istore_n (lv' := [(2, .int v8), (0, ss_v (ss_b G) this), (1, .int a1)]) hx hb dd_M_pull_35 rfl hl (by decide) rfl (fun ls hl => ?_)
      refine ss_aload_n hx hb dd_M_pull_36 rfl (lv_at hl 1 rfl) ?_
      obtain ⟨r9, qr9, hm⟩ := ss_bind hm
      refine ss_getr hC hK hR kf_M_39 rfl qr9 dd_M_pull_37 ?_
      refine lv_bipush (v := 22) hx hb dd_M_pull_40 (by decide) ?_
      refine lv_iload_n hx hb dd_M_pull_42 rfl (lv_at hl 2 rfl) ?_
      refine lv_iadd hx hb dd_M_pull_43 ?_
      refine lv_iconst (v := -1) hx hb dd_M_pull_44 (by decide) ?_
      obtain ⟨h10, qh10, hm⟩ := ss_bind hm
      refine ss_iast hC hK hR hS qh10 dd_M_pull_45 (fun H locs hR hS => ?_)
      refine lv_iload_n hx hb dd_M_pull_46 rfl (lv_at hl 0 rfl) ?_
      exact ss_iret hC hr hlocks hR hS hm dd_M_pull_47
    · have hm := ss_iff hm c5
      exact J_20 h _ _ _ hm hR hS (lv_sub hl [] rfl)
theorem dd_M_snowAll_0 : decode bb_M_snowAll 0 = .ok (.iconst 0, 1) := by decide +kernel
theorem dd_M_snowAll_1 : decode bb_M_snowAll 1 = .ok (.istore_n 1, 1) := by decide +kernel
theorem dd_M_snowAll_2 : decode bb_M_snowAll 2 = .ok (.iconst 0, 1) := by decide +kernel
theorem dd_M_snowAll_3 : decode bb_M_snowAll 3 = .ok (.istore_n 2, 1) := by decide +kernel
theorem dd_M_snowAll_4 : decode bb_M_snowAll 4 = .ok (.iload_n 2, 1) := by decide +kernel
theorem dd_M_snowAll_5 : decode bb_M_snowAll 5 = .ok (.aload_n 0, 1) := by decide +kernel
theorem dd_M_snowAll_6 : decode bb_M_snowAll 6 = .ok (.getfield 39, 3) := by decide +kernel
theorem dd_M_snowAll_9 : decode bb_M_snowAll 9 = .ok (.iconst 2, 1) := by decide +kernel
theorem dd_M_snowAll_10 : decode bb_M_snowAll 10 = .ok (.iaload, 1) := by decide +kernel
theorem dd_M_snowAll_11 : decode bb_M_snowAll 11 = .ok (.if_icmp .ge 21, 3) := by decide +kernel
theorem dd_M_snowAll_14 : decode bb_M_snowAll 14 = .ok (.iload_n 1, 1) := by decide +kernel
theorem dd_M_snowAll_15 : decode bb_M_snowAll 15 = .ok (.aload_n 0, 1) := by decide +kernel
theorem dd_M_snowAll_16 : decode bb_M_snowAll 16 = .ok (.getfield 39, 3) := by decide +kernel
theorem dd_M_snowAll_19 : decode bb_M_snowAll 19 = .ok (.bipush 14, 2) := by decide +kernel
theorem dd_M_snowAll_21 : decode bb_M_snowAll 21 = .ok (.iload_n 2, 1) := by decide +kernel
theorem dd_M_snowAll_22 : decode bb_M_snowAll 22 = .ok (.iadd, 1) := by decide +kernel
theorem dd_M_snowAll_23 : decode bb_M_snowAll 23 = .ok (.iaload, 1) := by decide +kernel
theorem dd_M_snowAll_24 : decode bb_M_snowAll 24 = .ok (.iadd, 1) := by decide +kernel
theorem dd_M_snowAll_25 : decode bb_M_snowAll 25 = .ok (.istore_n 1, 1) := by decide +kernel
theorem dd_M_snowAll_26 : decode bb_M_snowAll 26 = .ok (.iinc 2 1, 3) := by decide +kernel
theorem dd_M_snowAll_29 : decode bb_M_snowAll 29 = .ok (.goto (-25), 3) := by decide +kernel
theorem dd_M_snowAll_32 : decode bb_M_snowAll 32 = .ok (.iload_n 1, 1) := by decide +kernel
theorem dd_M_snowAll_33 : decode bb_M_snowAll 33 = .ok (.ireturn, 1) := by decide +kernel
def mm_M_snowAll_b4 (N : Nat) (this : Option Nat) (h : ss_Hp) (st : Int32 × Int32) : Option ((Int32 × Int32) ⊕ Int32) :=
  match st with
  | (x1_4, x2_4) =>
    (ss_gr h this 12 9).bind fun r1 =>
    (ss_ai h r1 20 (2 : Int32)).bind fun v2 =>
    if v2 ≤ x2_4 then
      some (.inr x1_4)
    else
      (ss_gr h this 12 9).bind fun r4 =>
      (ss_ai h r4 20 ((14 : Int32) + x2_4)).bind fun v5 =>
      (some (x1_4 + v5)).bind fun v6 =>
      (some (x2_4 + (1 : Int32))).bind fun v7 =>
      some (.inl (v6, v7))
def mm_M_snowAll (N : Nat) (this : Option Nat) (h : ss_Hp) : Option Int32 :=
  if ss_is h this 12 = true then
    (ss_lp (mm_M_snowAll_b4 N this h) N ((0 : Int32), (0 : Int32))).bind fun y1_4_32 =>
    some y1_4_32
  else none
abbrev ww_M_snowAll (p : Program) (l : Launch) (e : Env) (s : State) (m : MethodId) (below : List Frame) (meth : Method) (c : Code) (G : ss_G) (this : Option Nat) (h : ss_Hp) (rr : Int32) (H : Heap) (locs : List Loc) (k n : Nat) (g : JFrame) : Prop := W p l e (headSpec (ss_w yy_M_snowAll bb_M_snowAll 3 (some (.int))) ({ frames := 0, cells := 0, slots := 0, locals := 0 })).room s m ([ss_v (ss_b G) this] : List Value).toArray below meth c H locs k n (MQ below (ss_Qc G (some (.int rr)) h) ([ss_v (ss_b G) this] : List Value).toArray s 0 0 (ss_A G)) g
theorem ck_M_snowAll {N : Nat} {this : Option Nat} {h : ss_Hp} {res : Int32} (hm : mm_M_snowAll N this h = some res) : ss_is h this 12 = true := (ss_chk hm).1
set_option maxHeartbeats 4000000 in
set_option maxRecDepth 100000 in
theorem cc_M_snowAll (l : Launch) (G : ss_G) (N : Nat) (this : Option Nat) (h : ss_Hp) (rr : Int32) (hm : mm_M_snowAll N this h = some rr) : ss_Ct l G yy_M_snowAll bb_M_snowAll 3 (some (.int)) ({ frames := 0, cells := 0, slots := 0, locals := 0 }) [ss_v (ss_b G) this] h (some (.int rr)) h := by
  obtain ⟨hck, hm⟩ := ss_chk hm
  refine Met.ofW (cc := bb_M_snowAll) (maxL := 3) (ret := (some (.int))) (by decide) rfl ?_
  intro p e s m args below meth c s₁ B hml hv
  obtain ⟨rfl, hR, hK⟩ := hv
  have hC : CallFix p m c bb_M_snowAll 3 s _ lw_g sR_12 := ⟨B.exec, B.bytes, hml, findClass_of_methodNamed B.named, fun w hw => atoms_spec (ws := ss_w yy_M_snowAll bb_M_snowAll 3 (some (.int))) B.pre w (List.mem_cons_of_mem _ hw)⟩
  have hx := hC.1
  have hb := hC.2.1
  have hr := B.returns
  have hlocks := B.notSynchronized
  have hS : va_S (ss_A G) s.heap s.heap [] := va_S.rf
  have hl := lv_entry ([ss_v (ss_b G) this]) (n := 3) (by simp [lg_sl, ss_v_cat, ss_cat_i, ss_cat_l, ss_cat_r])
  rw [lg_entry_eq]
  generalize (lg_sl ([ss_v (ss_b G) this]) ++ List.replicate (3 - (lg_sl ([ss_v (ss_b G) this])).length) Slot.unset).toArray = ls at hl ⊢
  have hl : lv_has ls 3 [(0, ss_v (ss_b G) this)] := by simpa [lv_args, ss_v_cat, ss_cat_i, ss_cat_l, ss_cat_r] using hl
  refine lv_iconst (v := 0) hx hb dd_M_snowAll_0 (by decide) ?_
  refine lv_istore_n (lv' := [(1, .int (0 : Int32)), (0, ss_v (ss_b G) this)]) hx hb dd_M_snowAll_1 rfl hl (by decide) (by simp only [List.filter_cons, ss_v_cat]; rfl) (fun ls hl => ?_)
  refine lv_iconst (v := 0) hx hb dd_M_snowAll_2 (by decide) ?_
  refine lv_istore_n (lv' := [(2, .int (0 : Int32)), (1, .int (0 : Int32)), (0, ss_v (ss_b G) this)]) hx hb dd_M_snowAll_3 rfl hl (by decide) rfl (fun ls hl => ?_)
  obtain ⟨e_4, he_4, hm⟩ := ss_bind hm
  have X_4_32 : ∀ (y1_4_32 : Int32) (H : Heap) (locs : List Loc) (ls : Array Slot), e_4 = y1_4_32 → ss_R G h H → va_S (ss_A G) s.heap H locs → lv_has ls 3 [(1, .int y1_4_32)] → ww_M_snowAll p l e s m below meth c G this h rr  H locs 0 0 (F0 m 32 ls []) := by
    intro y1_4_32 H locs ls hq hR hS hl
    rw [hq] at hm
    refine lv_iload_n hx hb dd_M_snowAll_32 rfl (lv_at hl 0 rfl) ?_
    exact ss_iret hC hr hlocks hR hS (ss_with _ hm) dd_M_snowAll_33
  have L_4 : ∀ (n : Nat) (x1_4 : Int32) (x2_4 : Int32) (H : Heap) (locs : List Loc) (ls : Array Slot), ss_lp (mm_M_snowAll_b4 N this h) n (x1_4, x2_4) = some e_4 → ss_R G h H → va_S (ss_A G) s.heap H locs → lv_has ls 3 [(0, ss_v (ss_b G) this), (1, .int x1_4), (2, .int x2_4)] → ww_M_snowAll p l e s m below meth c G this h rr  H locs 0 0 (F0 m 4 ls []) := by
    intro n
    induction n with
    | zero => intro x1_4 x2_4 H locs ls hm; cases hm
    | succ n ih_4 =>
      intro x1_4 x2_4 H locs ls hm hR hS hl
      obtain ⟨z_4, hm, hz1_4, hz2_4⟩ := ss_lps hm
      refine lv_iload_n hx hb dd_M_snowAll_4 rfl (lv_at hl 2 rfl) ?_
      refine ss_aload_n hx hb dd_M_snowAll_5 rfl (lv_at hl 0 rfl) ?_
      obtain ⟨r1, qr1, hm⟩ := ss_bind hm
      refine ss_getr hC hK hR kf_M_39 rfl qr1 dd_M_snowAll_6 ?_
      refine lv_iconst (v := 2) hx hb dd_M_snowAll_9 (by decide) ?_
      obtain ⟨v2, qv2, hm⟩ := ss_bind hm
      refine ss_iald hC hK hR qv2 dd_M_snowAll_10 ?_
      refine lv_icmp_ge (tgt := 32) hx hb dd_M_snowAll_11 (by decide) (fun c3 => ?_) (fun c3 => ?_)
      · have hm := ss_ift hm c3
        exact X_4_32 x1_4  _ _ _ (hz2_4 _ (ss_some hm)) hR hS (lv_sub hl [1] rfl)
      · have hm := ss_iff hm c3
        refine lv_iload_n hx hb dd_M_snowAll_14 rfl (lv_at hl 1 rfl) ?_
        refine ss_aload_n hx hb dd_M_snowAll_15 rfl (lv_at hl 0 rfl) ?_
        obtain ⟨r4, qr4, hm⟩ := ss_bind hm
        refine ss_getr hC hK hR kf_M_39 rfl qr4 dd_M_snowAll_16 ?_
        refine lv_bipush (v := 14) hx hb dd_M_snowAll_19 (by decide) ?_
        refine lv_iload_n hx hb dd_M_snowAll_21 rfl (lv_at hl 2 rfl) ?_
        refine lv_iadd hx hb dd_M_snowAll_22 ?_
        obtain ⟨v5, qv5, hm⟩ := ss_bind hm
        refine ss_iald hC hK hR qv5 dd_M_snowAll_23 ?_
        refine lv_iadd hx hb dd_M_snowAll_24 ?_
        obtain ⟨v6, qv6, hm⟩ := ss_bind hm
        refine ss_topi qv6 ?_
        refine lv_istore_n (lv' := [(1, .int v6), (0, ss_v (ss_b G) this), (2, .int x2_4)]) hx hb dd_M_snowAll_25 rfl hl (by decide) (by simp only [List.filter_cons, ss_v_cat]; rfl) (fun ls hl => ?_)
        obtain ⟨v7, qv7, hm⟩ := ss_bind hm
        refine lv_iinc (v := v7) (lv' := [(2, .int v7), (1, .int v6), (0, ss_v (ss_b G) this)]) hx hb dd_M_snowAll_26 hl (k := 2) rfl (ss_inc (by decide) qv7) (by decide) rfl (fun ls hl => ?_)
        refine lv_goto (tgt := 4) hx hb dd_M_snowAll_29 (by decide) ?_
        exact ih_4 v6 v7  _ _ _ (hz1_4 _ (ss_some hm)) hR hS (lv_sub hl [2, 1, 0] rfl)
  exact L_4 N (0 : Int32) (0 : Int32) _ _ _ he_4 hR hS (lv_sub hl [2, 1, 0] rfl)
theorem dd_M_thaw_0 : decode bb_M_thaw 0 = .ok (.aload_n 0, 1) := by decide +kernel
theorem dd_M_thaw_1 : decode bb_M_thaw 1 = .ok (.invokevirtual 366, 3) := by decide +kernel
theorem dd_M_thaw_4 : decode bb_M_thaw 4 = .ok (.ifCond .eq 10, 3) := by decide +kernel
theorem dd_M_thaw_7 : decode bb_M_thaw 7 = .ok (.aload_n 0, 1) := by decide +kernel
theorem dd_M_thaw_8 : decode bb_M_thaw 8 = .ok (.invokevirtual 380, 3) := by decide +kernel
theorem dd_M_thaw_11 : decode bb_M_thaw 11 = .ok (.ifCond .ne 5, 3) := by decide +kernel
theorem dd_M_thaw_14 : decode bb_M_thaw 14 = .ok (.iconst (-1), 1) := by decide +kernel
theorem dd_M_thaw_15 : decode bb_M_thaw 15 = .ok (.ireturn, 1) := by decide +kernel
theorem dd_M_thaw_16 : decode bb_M_thaw 16 = .ok (.aload_n 0, 1) := by decide +kernel
theorem dd_M_thaw_17 : decode bb_M_thaw 17 = .ok (.invokevirtual 369, 3) := by decide +kernel
theorem dd_M_thaw_20 : decode bb_M_thaw 20 = .ok (.iconst 0, 1) := by decide +kernel
theorem dd_M_thaw_21 : decode bb_M_thaw 21 = .ok (.istore_n 1, 1) := by decide +kernel
theorem dd_M_thaw_22 : decode bb_M_thaw 22 = .ok (.iload_n 1, 1) := by decide +kernel
theorem dd_M_thaw_23 : decode bb_M_thaw 23 = .ok (.aload_n 0, 1) := by decide +kernel
theorem dd_M_thaw_24 : decode bb_M_thaw 24 = .ok (.getfield 39, 3) := by decide +kernel
theorem dd_M_thaw_27 : decode bb_M_thaw 27 = .ok (.iconst 2, 1) := by decide +kernel
theorem dd_M_thaw_28 : decode bb_M_thaw 28 = .ok (.iaload, 1) := by decide +kernel
theorem dd_M_thaw_29 : decode bb_M_thaw 29 = .ok (.if_icmp .ge 22, 3) := by decide +kernel
theorem dd_M_thaw_32 : decode bb_M_thaw 32 = .ok (.aload_n 0, 1) := by decide +kernel
theorem dd_M_thaw_33 : decode bb_M_thaw 33 = .ok (.getfield 39, 3) := by decide +kernel
theorem dd_M_thaw_36 : decode bb_M_thaw 36 = .ok (.bipush 14, 2) := by decide +kernel
theorem dd_M_thaw_38 : decode bb_M_thaw 38 = .ok (.iload_n 1, 1) := by decide +kernel
theorem dd_M_thaw_39 : decode bb_M_thaw 39 = .ok (.iadd, 1) := by decide +kernel
theorem dd_M_thaw_40 : decode bb_M_thaw 40 = .ok (.dup2, 1) := by decide +kernel
theorem dd_M_thaw_41 : decode bb_M_thaw 41 = .ok (.iaload, 1) := by decide +kernel
theorem dd_M_thaw_42 : decode bb_M_thaw 42 = .ok (.iconst 2, 1) := by decide +kernel
theorem dd_M_thaw_43 : decode bb_M_thaw 43 = .ok (.idiv, 1) := by decide +kernel
theorem dd_M_thaw_44 : decode bb_M_thaw 44 = .ok (.iastore, 1) := by decide +kernel
theorem dd_M_thaw_45 : decode bb_M_thaw 45 = .ok (.iinc 1 1, 3) := by decide +kernel
theorem dd_M_thaw_48 : decode bb_M_thaw 48 = .ok (.goto (-26), 3) := by decide +kernel
theorem dd_M_thaw_51 : decode bb_M_thaw 51 = .ok (.aload_n 0, 1) := by decide +kernel
theorem dd_M_thaw_52 : decode bb_M_thaw 52 = .ok (.invokevirtual 380, 3) := by decide +kernel
theorem dd_M_thaw_55 : decode bb_M_thaw 55 = .ok (.ireturn, 1) := by decide +kernel
def mm_M_thaw_j14 (N : Nat) (this : Option Nat) (h_14 : ss_Hp) : Option (Int32 × ss_Hp) :=
  some ((-1 : Int32), h_14)
def mm_M_thaw_b22 (N : Nat) (this : Option Nat) (st : Int32 × ss_Hp) : Option ((Int32 × ss_Hp) ⊕ ss_Hp) :=
  match st with
  | (x1_22, h_22) =>
    (ss_gr h_22 this 12 9).bind fun r7 =>
    (ss_ai h_22 r7 20 (2 : Int32)).bind fun v8 =>
    if v8 ≤ x1_22 then
      some (.inr h_22)
    else
      (ss_gr h_22 this 12 9).bind fun r10 =>
      (some ((14 : Int32) + x1_22)).bind fun v11 =>
      (ss_ai h_22 r10 20 v11).bind fun v12 =>
      (ss_div v12 (2 : Int32)).bind fun v13 =>
      (ss_ui h_22 r10 20 v11 v13).bind fun h14 =>
      (some (x1_22 + (1 : Int32))).bind fun v15 =>
      some (.inl (v15, h14))
def mm_M_thaw (N : Nat) (this : Option Nat) (h : ss_Hp) : Option (Int32 × ss_Hp) :=
  if ss_is h this 12 = true then
    (mm_M_isValley N this h).bind fun v1 =>
    if v1 = 0 then
      mm_M_thaw_j14 N this h
    else
      (mm_M_snowAll N this h).bind fun v3 =>
      if v3 = 0 then
        mm_M_thaw_j14 N this h
      else
        (mm_M_keepsAct N this h).bind fun h5 =>
        (ss_lp (mm_M_thaw_b22 N this) N ((0 : Int32), h5)).bind fun h_22_51 =>
        (mm_M_snowAll N this h_22_51).bind fun v6 =>
        some (v6, h_22_51)
  else none
abbrev ww_M_thaw (p : Program) (l : Launch) (e : Env) (s : State) (m : MethodId) (below : List Frame) (meth : Method) (c : Code) (G : ss_G) (this : Option Nat) (h : ss_Hp) (rr : Int32) (hh : ss_Hp) (H : Heap) (locs : List Loc) (k n : Nat) (g : JFrame) : Prop := W p l e (headSpec (ss_w yy_M_thaw bb_M_thaw 2 (some (.int))) ({ frames := 1, cells := 0, slots := 0, locals := 22 })).room s m ([ss_v (ss_b G) this] : List Value).toArray below meth c H locs k n (MQ below (ss_Qc G (some (.int rr)) hh) ([ss_v (ss_b G) this] : List Value).toArray s 0 0 (ss_A G)) g
theorem ck_M_thaw {N : Nat} {this : Option Nat} {h : ss_Hp} {res : Int32 × ss_Hp} (hm : mm_M_thaw N this h = some res) : ss_is h this 12 = true := (ss_chk hm).1
set_option maxHeartbeats 4000000 in
set_option maxRecDepth 100000 in
theorem cc_M_thaw (l : Launch) (G : ss_G) (N : Nat) (this : Option Nat) (h : ss_Hp) (rr : Int32) (hh : ss_Hp) (hm : mm_M_thaw N this h = some (rr, hh)) : ss_Ct l G yy_M_thaw bb_M_thaw 2 (some (.int)) ({ frames := 1, cells := 0, slots := 0, locals := 22 }) [ss_v (ss_b G) this] h (some (.int rr)) hh := by
  obtain ⟨hck, hm⟩ := ss_chk hm
  refine Met.ofW (cc := bb_M_thaw) (maxL := 2) (ret := (some (.int))) (by decide) rfl ?_
  intro p e s m args below meth c s₁ B hml hv
  obtain ⟨rfl, hR, hK⟩ := hv
  have hC : CallFix p m c bb_M_thaw 2 s _ lw_g sR_12 := ⟨B.exec, B.bytes, hml, findClass_of_methodNamed B.named, fun w hw => atoms_spec (ws := ss_w yy_M_thaw bb_M_thaw 2 (some (.int))) B.pre w (List.mem_cons_of_mem _ hw)⟩
  have hx := hC.1
  have hb := hC.2.1
  have hr := B.returns
  have hlocks := B.notSynchronized
  have hS : va_S (ss_A G) s.heap s.heap [] := va_S.rf
  have hl := lv_entry ([ss_v (ss_b G) this]) (n := 2) (by simp [lg_sl, ss_v_cat, ss_cat_i, ss_cat_l, ss_cat_r])
  rw [lg_entry_eq]
  generalize (lg_sl ([ss_v (ss_b G) this]) ++ List.replicate (2 - (lg_sl ([ss_v (ss_b G) this])).length) Slot.unset).toArray = ls at hl ⊢
  have hl : lv_has ls 2 [(0, ss_v (ss_b G) this)] := by simpa [lv_args, ss_v_cat, ss_cat_i, ss_cat_l, ss_cat_r] using hl
  have J_14 : ∀ (h_14 : ss_Hp) (H : Heap) (locs : List Loc) (ls : Array Slot), mm_M_thaw_j14 N this h_14 = some (rr, hh) → ss_R G h_14 H → va_S (ss_A G) s.heap H locs → lv_has ls 2 [] → ww_M_thaw p l e s m below meth c G this h rr hh  H locs 0 0 (F0 m 14 ls []) := by
    intro h_14 H locs ls hm hR hS hl
    refine lv_iconst (v := -1) hx hb dd_M_thaw_14 (by decide) ?_
    exact ss_iret hC hr hlocks hR hS hm dd_M_thaw_15
  refine ss_aload_n hx hb dd_M_thaw_0 rfl (lv_at hl 0 rfl) ?_
  obtain ⟨v1, qv1, hm⟩ := ss_bind hm
  refine ss_cV 0 0 (As := []) hC hK hR hS hl.1 (cc_M_isValley l G N _ _ _ qv1) km_M_366 (ck_M_isValley qv1) ⟨Nat.le_of_ble_eq_true rfl, Nat.le_of_ble_eq_true rfl⟩ ⟨Nat.le_of_ble_eq_true rfl, Nat.le_of_ble_eq_true rfl, Nat.le_of_ble_eq_true rfl, Nat.le_of_ble_eq_true rfl⟩ rfl rfl (Nat.le_of_ble_eq_true rfl) dd_M_thaw_1 (fun H locs hR hS => ?_)
  refine lv_if_eq (tgt := 14) hx hb dd_M_thaw_4 (by decide) (fun c2 => ?_) (fun c2 => ?_)
  · have hm := ss_ift hm c2
    exact J_14 h _ _ _ hm hR hS (lv_sub hl [] rfl)
  · have hm := ss_iff hm c2
    refine ss_aload_n hx hb dd_M_thaw_7 rfl (lv_at hl 0 rfl) ?_
    obtain ⟨v3, qv3, hm⟩ := ss_bind hm
    refine ss_cV 0 0 (As := []) hC hK hR hS hl.1 (cc_M_snowAll l G N _ _ _ qv3) km_M_380 (ck_M_snowAll qv3) ⟨Nat.le_of_ble_eq_true rfl, Nat.le_of_ble_eq_true rfl⟩ ⟨Nat.le_of_ble_eq_true rfl, Nat.le_of_ble_eq_true rfl, Nat.le_of_ble_eq_true rfl, Nat.le_of_ble_eq_true rfl⟩ rfl rfl (Nat.le_of_ble_eq_true rfl) dd_M_thaw_8 (fun H locs hR hS => ?_)
    refine lv_if_ne (tgt := 16) hx hb dd_M_thaw_11 (by decide) (fun c4 => ?_) (fun c4 => ?_)
    · have hm := ss_iff hm c4
      refine ss_aload_n hx hb dd_M_thaw_16 rfl (lv_at hl 0 rfl) ?_
      obtain ⟨h5, qh5, hm⟩ := ss_bind hm
      refine ss_cVv 0 0 (As := []) hC hK hR hS hl.1 (cc_M_keepsAct l G N _ _ _ qh5) km_M_369 (ck_M_keepsAct qh5) ⟨Nat.le_of_ble_eq_true rfl, Nat.le_of_ble_eq_true rfl⟩ ⟨Nat.le_of_ble_eq_true rfl, Nat.le_of_ble_eq_true rfl, Nat.le_of_ble_eq_true rfl, Nat.le_of_ble_eq_true rfl⟩ rfl rfl (Nat.le_of_ble_eq_true rfl) dd_M_thaw_17 (fun H locs hR hS => ?_)
      refine lv_iconst (v := 0) hx hb dd_M_thaw_20 (by decide) ?_
      refine lv_istore_n (lv' := [(1, .int (0 : Int32)), (0, ss_v (ss_b G) this)]) hx hb dd_M_thaw_21 rfl hl (by decide) (by simp only [List.filter_cons, ss_v_cat]; rfl) (fun ls hl => ?_)
      obtain ⟨e_22, he_22, hm⟩ := ss_bind hm
      have X_22_51 : ∀  (h_22_51 : ss_Hp) (H : Heap) (locs : List Loc) (ls : Array Slot), e_22 = h_22_51 → ss_R G h_22_51 H → va_S (ss_A G) s.heap H locs → lv_has ls 2 [(0, ss_v (ss_b G) this)] → ww_M_thaw p l e s m below meth c G this h rr hh  H locs 0 0 (F0 m 51 ls []) := by
        intro h_22_51 H locs ls hq hR hS hl
        rw [hq] at hm
        refine ss_aload_n hx hb dd_M_thaw_51 rfl (lv_at hl 0 rfl) ?_
        obtain ⟨v6, qv6, hm⟩ := ss_bind hm
        refine ss_cV 0 0 (As := []) hC hK hR hS hl.1 (cc_M_snowAll l G N _ _ _ qv6) km_M_380 (ck_M_snowAll qv6) ⟨Nat.le_of_ble_eq_true rfl, Nat.le_of_ble_eq_true rfl⟩ ⟨Nat.le_of_ble_eq_true rfl, Nat.le_of_ble_eq_true rfl, Nat.le_of_ble_eq_true rfl, Nat.le_of_ble_eq_true rfl⟩ rfl rfl (Nat.le_of_ble_eq_true rfl) dd_M_thaw_52 (fun H locs hR hS => ?_)
        exact ss_iret hC hr hlocks hR hS hm dd_M_thaw_55
      have L_22 : ∀ (n : Nat) (x1_22 : Int32) (h_22 : ss_Hp) (H : Heap) (locs : List Loc) (ls : Array Slot), ss_lp (mm_M_thaw_b22 N this) n (x1_22, h_22) = some e_22 → ss_R G h_22 H → va_S (ss_A G) s.heap H locs → lv_has ls 2 [(0, ss_v (ss_b G) this), (1, .int x1_22)] → ww_M_thaw p l e s m below meth c G this h rr hh  H locs 0 0 (F0 m 22 ls []) := by
        intro n
        induction n with
        | zero => intro x1_22 h_22 H locs ls hm; cases hm
        | succ n ih_22 =>
          intro x1_22 h_22 H locs ls hm hR hS hl
          obtain ⟨z_22, hm, hz1_22, hz2_22⟩ := ss_lps hm
          refine lv_iload_n hx hb dd_M_thaw_22 rfl (lv_at hl 1 rfl) ?_
          refine ss_aload_n hx hb dd_M_thaw_23 rfl (lv_at hl 0 rfl) ?_
          obtain ⟨r7, qr7, hm⟩ := ss_bind hm
          refine ss_getr hC hK hR kf_M_39 rfl qr7 dd_M_thaw_24 ?_
          refine lv_iconst (v := 2) hx hb dd_M_thaw_27 (by decide) ?_
          obtain ⟨v8, qv8, hm⟩ := ss_bind hm
          refine ss_iald hC hK hR qv8 dd_M_thaw_28 ?_
          refine lv_icmp_ge (tgt := 51) hx hb dd_M_thaw_29 (by decide) (fun c9 => ?_) (fun c9 => ?_)
          · have hm := ss_ift hm c9
            exact X_22_51 h_22 _ _ _ (hz2_22 _ (ss_some hm)) hR hS (lv_sub hl [0] rfl)
          · have hm := ss_iff hm c9
            refine ss_aload_n hx hb dd_M_thaw_32 rfl (lv_at hl 0 rfl) ?_
            obtain ⟨r10, qr10, hm⟩ := ss_bind hm
            refine ss_getr hC hK hR kf_M_39 rfl qr10 dd_M_thaw_33 ?_
            refine lv_bipush (v := 14) hx hb dd_M_thaw_36 (by decide) ?_
            refine lv_iload_n hx hb dd_M_thaw_38 rfl (lv_at hl 1 rfl) ?_
            refine lv_iadd hx hb dd_M_thaw_39 ?_
            obtain ⟨v11, qv11, hm⟩ := ss_bind hm
            refine ss_topi qv11 ?_
            refine ss_dup2ir hx hb dd_M_thaw_40 ?_
            obtain ⟨v12, qv12, hm⟩ := ss_bind hm
            refine ss_iald hC hK hR qv12 dd_M_thaw_41 ?_
            refine lv_iconst (v := 2) hx hb dd_M_thaw_42 (by decide) ?_
            obtain ⟨v13, qv13, hm⟩ := ss_bind hm
            refine ss_idiv hx hb qv13 dd_M_thaw_43 ?_
            obtain ⟨h14, qh14, hm⟩ := ss_bind hm
            refine ss_iast hC hK hR hS qh14 dd_M_thaw_44 (fun H locs hR hS => ?_)
            obtain ⟨v15, qv15, hm⟩ := ss_bind hm
            refine lv_iinc (v := v15) (lv' := [(1, .int v15), (0, ss_v (ss_b G) this)]) hx hb dd_M_thaw_45 hl (k := 1) rfl (ss_inc (by decide) qv15) (by decide) (by simp only [List.filter_cons, ss_v_cat]; rfl) (fun ls hl => ?_)
            refine lv_goto (tgt := 22) hx hb dd_M_thaw_48 (by decide) ?_
            exact ih_22 v15 h14 _ _ _ (hz1_22 _ (ss_some hm)) hR hS (lv_sub hl [1, 0] rfl)
      exact L_22 N (0 : Int32) h5 _ _ _ he_22 hR hS (lv_sub hl [1, 0] rfl)
    · have hm := ss_ift hm c4
      exact J_14 h _ _ _ hm hR hS (lv_sub hl [] rfl)
theorem dd_M_keeps_0 : decode bb_M_keeps 0 = .ok (.iconst 0, 1) := by decide +kernel
theorem dd_M_keeps_1 : decode bb_M_keeps 1 = .ok (.istore_n 1, 1) := by decide +kernel
theorem dd_M_keeps_2 : decode bb_M_keeps 2 = .ok (.iload_n 1, 1) := by decide +kernel
theorem dd_M_keeps_3 : decode bb_M_keeps 3 = .ok (.bipush 20, 2) := by decide +kernel
theorem dd_M_keeps_5 : decode bb_M_keeps 5 = .ok (.if_icmp .ge 24, 3) := by decide +kernel
theorem dd_M_keeps_8 : decode bb_M_keeps 8 = .ok (.aload_n 0, 1) := by decide +kernel
theorem dd_M_keeps_9 : decode bb_M_keeps 9 = .ok (.getfield 55, 3) := by decide +kernel
theorem dd_M_keeps_12 : decode bb_M_keeps 12 = .ok (.iload_n 1, 1) := by decide +kernel
theorem dd_M_keeps_13 : decode bb_M_keeps 13 = .ok (.aload_n 0, 1) := by decide +kernel
theorem dd_M_keeps_14 : decode bb_M_keeps 14 = .ok (.getfield 39, 3) := by decide +kernel
theorem dd_M_keeps_17 : decode bb_M_keeps 17 = .ok (.bipush 10, 2) := by decide +kernel
theorem dd_M_keeps_19 : decode bb_M_keeps 19 = .ok (.iload_n 1, 1) := by decide +kernel
theorem dd_M_keeps_20 : decode bb_M_keeps 20 = .ok (.iadd, 1) := by decide +kernel
theorem dd_M_keeps_21 : decode bb_M_keeps 21 = .ok (.iaload, 1) := by decide +kernel
theorem dd_M_keeps_22 : decode bb_M_keeps 22 = .ok (.iastore, 1) := by decide +kernel
theorem dd_M_keeps_23 : decode bb_M_keeps 23 = .ok (.iinc 1 1, 3) := by decide +kernel
theorem dd_M_keeps_26 : decode bb_M_keeps 26 = .ok (.goto (-24), 3) := by decide +kernel
theorem dd_M_keeps_29 : decode bb_M_keeps 29 = .ok (.return_, 1) := by decide +kernel
def mm_M_keeps_b2 (N : Nat) (this : Option Nat) (st : Int32 × ss_Hp) : Option ((Int32 × ss_Hp) ⊕ ss_Hp) :=
  match st with
  | (x1_2, h_2) =>
    if (20 : Int32) ≤ x1_2 then
      some (.inr h_2)
    else
      (ss_gr h_2 this 12 13).bind fun r2 =>
      (ss_gr h_2 this 12 9).bind fun r3 =>
      (ss_ai h_2 r3 20 ((10 : Int32) + x1_2)).bind fun v4 =>
      (ss_ui h_2 r2 20 x1_2 v4).bind fun h5 =>
      (some (x1_2 + (1 : Int32))).bind fun v6 =>
      some (.inl (v6, h5))
def mm_M_keeps (N : Nat) (this : Option Nat) (h : ss_Hp) : Option ss_Hp :=
  if ss_is h this 12 = true then
    (ss_lp (mm_M_keeps_b2 N this) N ((0 : Int32), h)).bind fun h_2_29 =>
    some h_2_29
  else none
abbrev ww_M_keeps (p : Program) (l : Launch) (e : Env) (s : State) (m : MethodId) (below : List Frame) (meth : Method) (c : Code) (G : ss_G) (this : Option Nat) (h : ss_Hp) (hh : ss_Hp) (H : Heap) (locs : List Loc) (k n : Nat) (g : JFrame) : Prop := W p l e (headSpec (ss_w yy_M_keeps bb_M_keeps 2 none) ({ frames := 0, cells := 0, slots := 0, locals := 0 })).room s m ([ss_v (ss_b G) this] : List Value).toArray below meth c H locs k n (MQ below (ss_Qc G none hh) ([ss_v (ss_b G) this] : List Value).toArray s 0 0 (ss_A G)) g
theorem ck_M_keeps {N : Nat} {this : Option Nat} {h : ss_Hp} {res : ss_Hp} (hm : mm_M_keeps N this h = some res) : ss_is h this 12 = true := (ss_chk hm).1
set_option maxHeartbeats 4000000 in
set_option maxRecDepth 100000 in
theorem cc_M_keeps (l : Launch) (G : ss_G) (N : Nat) (this : Option Nat) (h : ss_Hp) (hh : ss_Hp) (hm : mm_M_keeps N this h = some hh) : ss_Ct l G yy_M_keeps bb_M_keeps 2 none ({ frames := 0, cells := 0, slots := 0, locals := 0 }) [ss_v (ss_b G) this] h none hh := by
  obtain ⟨hck, hm⟩ := ss_chk hm
  refine Met.ofW (cc := bb_M_keeps) (maxL := 2) (ret := none) (by decide) rfl ?_
  intro p e s m args below meth c s₁ B hml hv
  obtain ⟨rfl, hR, hK⟩ := hv
  have hC : CallFix p m c bb_M_keeps 2 s _ lw_g sR_12 := ⟨B.exec, B.bytes, hml, findClass_of_methodNamed B.named, fun w hw => atoms_spec (ws := ss_w yy_M_keeps bb_M_keeps 2 none) B.pre w (List.mem_cons_of_mem _ hw)⟩
  have hx := hC.1
  have hb := hC.2.1
  have hr := B.returns
  have hlocks := B.notSynchronized
  have hS : va_S (ss_A G) s.heap s.heap [] := va_S.rf
  have hl := lv_entry ([ss_v (ss_b G) this]) (n := 2) (by simp [lg_sl, ss_v_cat, ss_cat_i, ss_cat_l, ss_cat_r])
  rw [lg_entry_eq]
  generalize (lg_sl ([ss_v (ss_b G) this]) ++ List.replicate (2 - (lg_sl ([ss_v (ss_b G) this])).length) Slot.unset).toArray = ls at hl ⊢
  have hl : lv_has ls 2 [(0, ss_v (ss_b G) this)] := by simpa [lv_args, ss_v_cat, ss_cat_i, ss_cat_l, ss_cat_r] using hl
  refine lv_iconst (v := 0) hx hb dd_M_keeps_0 (by decide) ?_
  refine lv_istore_n (lv' := [(1, .int (0 : Int32)), (0, ss_v (ss_b G) this)]) hx hb dd_M_keeps_1 rfl hl (by decide) (by simp only [List.filter_cons, ss_v_cat]; rfl) (fun ls hl => ?_)
  obtain ⟨e_2, he_2, hm⟩ := ss_bind hm
  have X_2_29 : ∀  (h_2_29 : ss_Hp) (H : Heap) (locs : List Loc) (ls : Array Slot), e_2 = h_2_29 → ss_R G h_2_29 H → va_S (ss_A G) s.heap H locs → lv_has ls 2 [] → ww_M_keeps p l e s m below meth c G this h hh  H locs 0 0 (F0 m 29 ls []) := by
    intro h_2_29 H locs ls hq hR hS hl
    rw [hq] at hm
    exact ss_vret hC hr hlocks hR hS hm dd_M_keeps_29
  have L_2 : ∀ (n : Nat) (x1_2 : Int32) (h_2 : ss_Hp) (H : Heap) (locs : List Loc) (ls : Array Slot), ss_lp (mm_M_keeps_b2 N this) n (x1_2, h_2) = some e_2 → ss_R G h_2 H → va_S (ss_A G) s.heap H locs → lv_has ls 2 [(0, ss_v (ss_b G) this), (1, .int x1_2)] → ww_M_keeps p l e s m below meth c G this h hh  H locs 0 0 (F0 m 2 ls []) := by
    intro n
    induction n with
    | zero => intro x1_2 h_2 H locs ls hm; cases hm
    | succ n ih_2 =>
      intro x1_2 h_2 H locs ls hm hR hS hl
      obtain ⟨z_2, hm, hz1_2, hz2_2⟩ := ss_lps hm
      refine lv_iload_n hx hb dd_M_keeps_2 rfl (lv_at hl 1 rfl) ?_
      refine lv_bipush (v := 20) hx hb dd_M_keeps_3 (by decide) ?_
      refine lv_icmp_ge (tgt := 29) hx hb dd_M_keeps_5 (by decide) (fun c1 => ?_) (fun c1 => ?_)
      · have hm := ss_ift hm c1
        exact X_2_29 h_2 _ _ _ (hz2_2 _ (ss_some hm)) hR hS (lv_sub hl [] rfl)
      · have hm := ss_iff hm c1
        refine ss_aload_n hx hb dd_M_keeps_8 rfl (lv_at hl 0 rfl) ?_
        obtain ⟨r2, qr2, hm⟩ := ss_bind hm
        refine ss_getr hC hK hR kf_M_55 rfl qr2 dd_M_keeps_9 ?_
        refine lv_iload_n hx hb dd_M_keeps_12 rfl (lv_at hl 1 rfl) ?_
        refine ss_aload_n hx hb dd_M_keeps_13 rfl (lv_at hl 0 rfl) ?_
        obtain ⟨r3, qr3, hm⟩ := ss_bind hm
        refine ss_getr hC hK hR kf_M_39 rfl qr3 dd_M_keeps_14 ?_
        refine lv_bipush (v := 10) hx hb dd_M_keeps_17 (by decide) ?_
        refine lv_iload_n hx hb dd_M_keeps_19 rfl (lv_at hl 1 rfl) ?_
        refine lv_iadd hx hb dd_M_keeps_20 ?_
        obtain ⟨v4, qv4, hm⟩ := ss_bind hm
        refine ss_iald hC hK hR qv4 dd_M_keeps_21 ?_
        obtain ⟨h5, qh5, hm⟩ := ss_bind hm
        refine ss_iast hC hK hR hS qh5 dd_M_keeps_22 (fun H locs hR hS => ?_)
        obtain ⟨v6, qv6, hm⟩ := ss_bind hm
        refine lv_iinc (v := v6) (lv' := [(1, .int v6), (0, ss_v (ss_b G) this)]) hx hb dd_M_keeps_23 hl (k := 1) rfl (ss_inc (by decide) qv6) (by decide) (by simp only [List.filter_cons, ss_v_cat]; rfl) (fun ls hl => ?_)
        refine lv_goto (tgt := 2) hx hb dd_M_keeps_26 (by decide) ?_
        exact ih_2 v6 h5 _ _ _ (hz1_2 _ (ss_some hm)) hR hS (lv_sub hl [1, 0] rfl)
  exact L_2 N (0 : Int32) h _ _ _ he_2 hR hS (lv_sub hl [1, 0] rfl)
theorem dd_M_laysBack_0 : decode bb_M_laysBack 0 = .ok (.iconst 0, 1) := by decide +kernel
theorem dd_M_laysBack_1 : decode bb_M_laysBack 1 = .ok (.istore_n 1, 1) := by decide +kernel
theorem dd_M_laysBack_2 : decode bb_M_laysBack 2 = .ok (.iload_n 1, 1) := by decide +kernel
theorem dd_M_laysBack_3 : decode bb_M_laysBack 3 = .ok (.bipush 20, 2) := by decide +kernel
theorem dd_M_laysBack_5 : decode bb_M_laysBack 5 = .ok (.if_icmp .ge 24, 3) := by decide +kernel
theorem dd_M_laysBack_8 : decode bb_M_laysBack 8 = .ok (.aload_n 0, 1) := by decide +kernel
theorem dd_M_laysBack_9 : decode bb_M_laysBack 9 = .ok (.getfield 39, 3) := by decide +kernel
theorem dd_M_laysBack_12 : decode bb_M_laysBack 12 = .ok (.bipush 10, 2) := by decide +kernel
theorem dd_M_laysBack_14 : decode bb_M_laysBack 14 = .ok (.iload_n 1, 1) := by decide +kernel
theorem dd_M_laysBack_15 : decode bb_M_laysBack 15 = .ok (.iadd, 1) := by decide +kernel
theorem dd_M_laysBack_16 : decode bb_M_laysBack 16 = .ok (.aload_n 0, 1) := by decide +kernel
theorem dd_M_laysBack_17 : decode bb_M_laysBack 17 = .ok (.getfield 55, 3) := by decide +kernel
theorem dd_M_laysBack_20 : decode bb_M_laysBack 20 = .ok (.iload_n 1, 1) := by decide +kernel
theorem dd_M_laysBack_21 : decode bb_M_laysBack 21 = .ok (.iaload, 1) := by decide +kernel
theorem dd_M_laysBack_22 : decode bb_M_laysBack 22 = .ok (.iastore, 1) := by decide +kernel
theorem dd_M_laysBack_23 : decode bb_M_laysBack 23 = .ok (.iinc 1 1, 3) := by decide +kernel
theorem dd_M_laysBack_26 : decode bb_M_laysBack 26 = .ok (.goto (-24), 3) := by decide +kernel
theorem dd_M_laysBack_29 : decode bb_M_laysBack 29 = .ok (.return_, 1) := by decide +kernel
def mm_M_laysBack_b2 (N : Nat) (this : Option Nat) (st : Int32 × ss_Hp) : Option ((Int32 × ss_Hp) ⊕ ss_Hp) :=
  match st with
  | (x1_2, h_2) =>
    if (20 : Int32) ≤ x1_2 then
      some (.inr h_2)
    else
      (ss_gr h_2 this 12 9).bind fun r2 =>
      (ss_gr h_2 this 12 13).bind fun r3 =>
      (ss_ai h_2 r3 20 x1_2).bind fun v4 =>
      (ss_ui h_2 r2 20 ((10 : Int32) + x1_2) v4).bind fun h5 =>
      (some (x1_2 + (1 : Int32))).bind fun v6 =>
      some (.inl (v6, h5))
def mm_M_laysBack (N : Nat) (this : Option Nat) (h : ss_Hp) : Option ss_Hp :=
  if ss_is h this 12 = true then
    (ss_lp (mm_M_laysBack_b2 N this) N ((0 : Int32), h)).bind fun h_2_29 =>
    some h_2_29
  else none
abbrev ww_M_laysBack (p : Program) (l : Launch) (e : Env) (s : State) (m : MethodId) (below : List Frame) (meth : Method) (c : Code) (G : ss_G) (this : Option Nat) (h : ss_Hp) (hh : ss_Hp) (H : Heap) (locs : List Loc) (k n : Nat) (g : JFrame) : Prop := W p l e (headSpec (ss_w yy_M_laysBack bb_M_laysBack 2 none) ({ frames := 0, cells := 0, slots := 0, locals := 0 })).room s m ([ss_v (ss_b G) this] : List Value).toArray below meth c H locs k n (MQ below (ss_Qc G none hh) ([ss_v (ss_b G) this] : List Value).toArray s 0 0 (ss_A G)) g
theorem ck_M_laysBack {N : Nat} {this : Option Nat} {h : ss_Hp} {res : ss_Hp} (hm : mm_M_laysBack N this h = some res) : ss_is h this 12 = true := (ss_chk hm).1
set_option maxHeartbeats 4000000 in
set_option maxRecDepth 100000 in
theorem cc_M_laysBack (l : Launch) (G : ss_G) (N : Nat) (this : Option Nat) (h : ss_Hp) (hh : ss_Hp) (hm : mm_M_laysBack N this h = some hh) : ss_Ct l G yy_M_laysBack bb_M_laysBack 2 none ({ frames := 0, cells := 0, slots := 0, locals := 0 }) [ss_v (ss_b G) this] h none hh := by
  obtain ⟨hck, hm⟩ := ss_chk hm
  refine Met.ofW (cc := bb_M_laysBack) (maxL := 2) (ret := none) (by decide) rfl ?_
  intro p e s m args below meth c s₁ B hml hv
  obtain ⟨rfl, hR, hK⟩ := hv
  have hC : CallFix p m c bb_M_laysBack 2 s _ lw_g sR_12 := ⟨B.exec, B.bytes, hml, findClass_of_methodNamed B.named, fun w hw => atoms_spec (ws := ss_w yy_M_laysBack bb_M_laysBack 2 none) B.pre w (List.mem_cons_of_mem _ hw)⟩
  have hx := hC.1
  have hb := hC.2.1
  have hr := B.returns
  have hlocks := B.notSynchronized
  have hS : va_S (ss_A G) s.heap s.heap [] := va_S.rf
  have hl := lv_entry ([ss_v (ss_b G) this]) (n := 2) (by simp [lg_sl, ss_v_cat, ss_cat_i, ss_cat_l, ss_cat_r])
  rw [lg_entry_eq]
  generalize (lg_sl ([ss_v (ss_b G) this]) ++ List.replicate (2 - (lg_sl ([ss_v (ss_b G) this])).length) Slot.unset).toArray = ls at hl ⊢
  have hl : lv_has ls 2 [(0, ss_v (ss_b G) this)] := by simpa [lv_args, ss_v_cat, ss_cat_i, ss_cat_l, ss_cat_r] using hl
  refine lv_iconst (v := 0) hx hb dd_M_laysBack_0 (by decide) ?_
  refine lv_istore_n (lv' := [(1, .int (0 : Int32)), (0, ss_v (ss_b G) this)]) hx hb dd_M_laysBack_1 rfl hl (by decide) (by simp only [List.filter_cons, ss_v_cat]; rfl) (fun ls hl => ?_)
  obtain ⟨e_2, he_2, hm⟩ := ss_bind hm
  have X_2_29 : ∀  (h_2_29 : ss_Hp) (H : Heap) (locs : List Loc) (ls : Array Slot), e_2 = h_2_29 → ss_R G h_2_29 H → va_S (ss_A G) s.heap H locs → lv_has ls 2 [] → ww_M_laysBack p l e s m below meth c G this h hh  H locs 0 0 (F0 m 29 ls []) := by
    intro h_2_29 H locs ls hq hR hS hl
    rw [hq] at hm
    exact ss_vret hC hr hlocks hR hS hm dd_M_laysBack_29
  have L_2 : ∀ (n : Nat) (x1_2 : Int32) (h_2 : ss_Hp) (H : Heap) (locs : List Loc) (ls : Array Slot), ss_lp (mm_M_laysBack_b2 N this) n (x1_2, h_2) = some e_2 → ss_R G h_2 H → va_S (ss_A G) s.heap H locs → lv_has ls 2 [(0, ss_v (ss_b G) this), (1, .int x1_2)] → ww_M_laysBack p l e s m below meth c G this h hh  H locs 0 0 (F0 m 2 ls []) := by
    intro n
    induction n with
    | zero => intro x1_2 h_2 H locs ls hm; cases hm
    | succ n ih_2 =>
      intro x1_2 h_2 H locs ls hm hR hS hl
      obtain ⟨z_2, hm, hz1_2, hz2_2⟩ := ss_lps hm
      refine lv_iload_n hx hb dd_M_laysBack_2 rfl (lv_at hl 1 rfl) ?_
      refine lv_bipush (v := 20) hx hb dd_M_laysBack_3 (by decide) ?_
      refine lv_icmp_ge (tgt := 29) hx hb dd_M_laysBack_5 (by decide) (fun c1 => ?_) (fun c1 => ?_)
      · have hm := ss_ift hm c1
        exact X_2_29 h_2 _ _ _ (hz2_2 _ (ss_some hm)) hR hS (lv_sub hl [] rfl)
      · have hm := ss_iff hm c1
        refine ss_aload_n hx hb dd_M_laysBack_8 rfl (lv_at hl 0 rfl) ?_
        obtain ⟨r2, qr2, hm⟩ := ss_bind hm
        refine ss_getr hC hK hR kf_M_39 rfl qr2 dd_M_laysBack_9 ?_
        refine lv_bipush (v := 10) hx hb dd_M_laysBack_12 (by decide) ?_
        refine lv_iload_n hx hb dd_M_laysBack_14 rfl (lv_at hl 1 rfl) ?_
        refine lv_iadd hx hb dd_M_laysBack_15 ?_
        refine ss_aload_n hx hb dd_M_laysBack_16 rfl (lv_at hl 0 rfl) ?_
        obtain ⟨r3, qr3, hm⟩ := ss_bind hm
        refine ss_getr hC hK hR kf_M_55 rfl qr3 dd_M_laysBack_17 ?_
        refine lv_iload_n hx hb dd_M_laysBack_20 rfl (lv_at hl 1 rfl) ?_
        obtain ⟨v4, qv4, hm⟩ := ss_bind hm
        refine ss_iald hC hK hR qv4 dd_M_laysBack_21 ?_
        obtain ⟨h5, qh5, hm⟩ := ss_bind hm
        refine ss_iast hC hK hR hS qh5 dd_M_laysBack_22 (fun H locs hR hS => ?_)
        obtain ⟨v6, qv6, hm⟩ := ss_bind hm
        refine lv_iinc (v := v6) (lv' := [(1, .int v6), (0, ss_v (ss_b G) this)]) hx hb dd_M_laysBack_23 hl (k := 1) rfl (ss_inc (by decide) qv6) (by decide) (by simp only [List.filter_cons, ss_v_cat]; rfl) (fun ls hl => ?_)
        refine lv_goto (tgt := 2) hx hb dd_M_laysBack_26 (by decide) ?_
        exact ih_2 v6 h5 _ _ _ (hz1_2 _ (ss_some hm)) hR hS (lv_sub hl [1, 0] rfl)
  exact L_2 N (0 : Int32) h _ _ _ he_2 hR hS (lv_sub hl [1, 0] rfl)
theorem dd_M_ahead_0 : decode bb_M_ahead 0 = .ok (.aload_n 0, 1) := by decide +kernel
theorem dd_M_ahead_1 : decode bb_M_ahead 1 = .ok (.invokevirtual 366, 3) := by decide +kernel
theorem dd_M_ahead_4 : decode bb_M_ahead 4 = .ok (.ifCond .eq 37, 3) := by decide +kernel
theorem dd_M_ahead_7 : decode bb_M_ahead 7 = .ok (.iload_n 2, 1) := by decide +kernel
theorem dd_M_ahead_8 : decode bb_M_ahead 8 = .ok (.i2l, 1) := by decide +kernel
theorem dd_M_ahead_9 : decode bb_M_ahead 9 = .ok (.lconst 0, 1) := by decide +kernel
theorem dd_M_ahead_10 : decode bb_M_ahead 10 = .ok (.ldc2_w 383, 3) := by decide +kernel
theorem dd_M_ahead_13 : decode bb_M_ahead 13 = .ok (.invokestatic 124, 3) := by decide +kernel
theorem dd_M_ahead_16 : decode bb_M_ahead 16 = .ok (.ifCond .eq 25, 3) := by decide +kernel
theorem dd_M_ahead_19 : decode bb_M_ahead 19 = .ok (.iload_n 3, 1) := by decide +kernel
theorem dd_M_ahead_20 : decode bb_M_ahead 20 = .ok (.i2l, 1) := by decide +kernel
theorem dd_M_ahead_21 : decode bb_M_ahead 21 = .ok (.lconst 0, 1) := by decide +kernel
theorem dd_M_ahead_22 : decode bb_M_ahead 22 = .ok (.lconst 1, 1) := by decide +kernel
theorem dd_M_ahead_23 : decode bb_M_ahead 23 = .ok (.invokestatic 124, 3) := by decide +kernel
theorem dd_M_ahead_26 : decode bb_M_ahead 26 = .ok (.ifCond .eq 15, 3) := by decide +kernel
theorem dd_M_ahead_29 : decode bb_M_ahead 29 = .ok (.iload_n 3, 1) := by decide +kernel
theorem dd_M_ahead_30 : decode bb_M_ahead 30 = .ok (.ifCond .ne 13, 3) := by decide +kernel
theorem dd_M_ahead_33 : decode bb_M_ahead 33 = .ok (.aload_n 0, 1) := by decide +kernel
theorem dd_M_ahead_34 : decode bb_M_ahead 34 = .ok (.iload_n 1, 1) := by decide +kernel
theorem dd_M_ahead_35 : decode bb_M_ahead 35 = .ok (.invokevirtual 313, 3) := by decide +kernel
theorem dd_M_ahead_38 : decode bb_M_ahead 38 = .ok (.ifCond .ne 5, 3) := by decide +kernel
theorem dd_M_ahead_41 : decode bb_M_ahead 41 = .ok (.iconst (-1), 1) := by decide +kernel
theorem dd_M_ahead_42 : decode bb_M_ahead 42 = .ok (.ireturn, 1) := by decide +kernel
theorem dd_M_ahead_43 : decode bb_M_ahead 43 = .ok (.aload_n 0, 1) := by decide +kernel
theorem dd_M_ahead_44 : decode bb_M_ahead 44 = .ok (.invokevirtual 385, 3) := by decide +kernel
theorem dd_M_ahead_47 : decode bb_M_ahead 47 = .ok (.iconst 0, 1) := by decide +kernel
theorem dd_M_ahead_48 : decode bb_M_ahead 48 = .ok (.istore 4, 2) := by decide +kernel
theorem dd_M_ahead_50 : decode bb_M_ahead 50 = .ok (.iload 4, 2) := by decide +kernel
theorem dd_M_ahead_52 : decode bb_M_ahead 52 = .ok (.iload_n 2, 1) := by decide +kernel
theorem dd_M_ahead_53 : decode bb_M_ahead 53 = .ok (.if_icmp .ge 14, 3) := by decide +kernel
theorem dd_M_ahead_56 : decode bb_M_ahead 56 = .ok (.aload_n 0, 1) := by decide +kernel
theorem dd_M_ahead_57 : decode bb_M_ahead 57 = .ok (.invokevirtual 372, 3) := by decide +kernel
theorem dd_M_ahead_60 : decode bb_M_ahead 60 = .ok (.pop, 1) := by decide +kernel
theorem dd_M_ahead_61 : decode bb_M_ahead 61 = .ok (.iinc 4 1, 3) := by decide +kernel
theorem dd_M_ahead_64 : decode bb_M_ahead 64 = .ok (.goto (-14), 3) := by decide +kernel
theorem dd_M_ahead_67 : decode bb_M_ahead 67 = .ok (.iload_n 3, 1) := by decide +kernel
theorem dd_M_ahead_68 : decode bb_M_ahead 68 = .ok (.ifCond .ne 15, 3) := by decide +kernel
theorem dd_M_ahead_71 : decode bb_M_ahead 71 = .ok (.aload_n 0, 1) := by decide +kernel
theorem dd_M_ahead_72 : decode bb_M_ahead 72 = .ok (.getfield 39, 3) := by decide +kernel
theorem dd_M_ahead_75 : decode bb_M_ahead 75 = .ok (.bipush 14, 2) := by decide +kernel
theorem dd_M_ahead_77 : decode bb_M_ahead 77 = .ok (.iload_n 1, 1) := by decide +kernel
theorem dd_M_ahead_78 : decode bb_M_ahead 78 = .ok (.iadd, 1) := by decide +kernel
theorem dd_M_ahead_79 : decode bb_M_ahead 79 = .ok (.iaload, 1) := by decide +kernel
theorem dd_M_ahead_80 : decode bb_M_ahead 80 = .ok (.goto 10, 3) := by decide +kernel
theorem dd_M_ahead_83 : decode bb_M_ahead 83 = .ok (.aload_n 0, 1) := by decide +kernel
theorem dd_M_ahead_84 : decode bb_M_ahead 84 = .ok (.invokevirtual 340, 3) := by decide +kernel
theorem dd_M_ahead_87 : decode bb_M_ahead 87 = .ok (.invokestatic 343, 3) := by decide +kernel
theorem dd_M_ahead_90 : decode bb_M_ahead 90 = .ok (.istore 4, 2) := by decide +kernel
theorem dd_M_ahead_92 : decode bb_M_ahead 92 = .ok (.aload_n 0, 1) := by decide +kernel
theorem dd_M_ahead_93 : decode bb_M_ahead 93 = .ok (.invokevirtual 388, 3) := by decide +kernel
theorem dd_M_ahead_96 : decode bb_M_ahead 96 = .ok (.iload 4, 2) := by decide +kernel
theorem dd_M_ahead_98 : decode bb_M_ahead 98 = .ok (.ireturn, 1) := by decide +kernel
def mm_M_ahead_j41 (N : Nat) (this : Option Nat) (a1 : Int32) (a2 : Int32) (a3 : Int32) (h_41 : ss_Hp) : Option (Int32 × ss_Hp) :=
  some ((-1 : Int32), h_41)
def mm_M_ahead_j90 (N : Nat) (this : Option Nat) (a1 : Int32) (a2 : Int32) (a3 : Int32) (s0_90 : Int32) (h_90 : ss_Hp) : Option (Int32 × ss_Hp) :=
  (mm_M_laysBack N this h_90).bind fun h1 =>
  some (s0_90, h1)
def mm_M_ahead_b50 (N : Nat) (this : Option Nat) (a1 : Int32) (a2 : Int32) (a3 : Int32) (st : Int32 × ss_Hp) : Option ((Int32 × ss_Hp) ⊕ ss_Hp) :=
  match st with
  | (x4_50, h_50) =>
    if a2 ≤ x4_50 then
      some (.inr h_50)
    else
      ss_b2 (mm_M_passes N this h_50) fun v9 h10 =>
      (some (x4_50 + (1 : Int32))).bind fun v11 =>
      some (.inl (v11, h10))
def mm_M_ahead_j43 (N : Nat) (this : Option Nat) (a1 : Int32) (a2 : Int32) (a3 : Int32) (h_43 : ss_Hp) : Option (Int32 × ss_Hp) :=
  (mm_M_keeps N this h_43).bind fun h2 =>
  (ss_lp (mm_M_ahead_b50 N this a1 a2 a3) N ((0 : Int32), h2)).bind fun h_50_67 =>
  if a3 = 0 then
    (ss_gr h_50_67 this 12 9).bind fun r6 =>
    (ss_ai h_50_67 r6 20 ((14 : Int32) + a1)).bind fun v7 =>
    mm_M_ahead_j90 N this a1 a2 a3 v7 h_50_67
  else
    (mm_M_closed N this h_50_67).bind fun v4 =>
    (mm_M_bits N v4).bind fun v5 =>
    mm_M_ahead_j90 N this a1 a2 a3 v5 h_50_67
def mm_M_ahead (N : Nat) (this : Option Nat) (a1 : Int32) (a2 : Int32) (a3 : Int32) (h : ss_Hp) : Option (Int32 × ss_Hp) :=
  if ss_is h this 12 = true then
    (mm_M_isValley N this h).bind fun v12 =>
    if v12 = 0 then
      mm_M_ahead_j41 N this a1 a2 a3 h
    else
      (mm_M_in N ((a2).toInt64) (0 : Int64) (100 : Int64)).bind fun v14 =>
      if v14 = 0 then
        mm_M_ahead_j41 N this a1 a2 a3 h
      else
        (mm_M_in N ((a3).toInt64) (0 : Int64) (1 : Int64)).bind fun v16 =>
        if v16 = 0 then
          mm_M_ahead_j41 N this a1 a2 a3 h
        else
          if a3 = 0 then
            (mm_M_isStep N this a1 h).bind fun v19 =>
            if v19 = 0 then
              mm_M_ahead_j41 N this a1 a2 a3 h
            else
              mm_M_ahead_j43 N this a1 a2 a3 h
          else
            mm_M_ahead_j43 N this a1 a2 a3 h
  else none
abbrev ww_M_ahead (p : Program) (l : Launch) (e : Env) (s : State) (m : MethodId) (below : List Frame) (meth : Method) (c : Code) (G : ss_G) (this : Option Nat) (a1 : Int32) (a2 : Int32) (a3 : Int32) (h : ss_Hp) (rr : Int32) (hh : ss_Hp) (H : Heap) (locs : List Loc) (k n : Nat) (g : JFrame) : Prop := W p l e (headSpec (ss_w yy_M_ahead bb_M_ahead 5 (some (.int))) ({ frames := 5, cells := 0, slots := 0, locals := 126 })).room s m ([ss_v (ss_b G) this, .int a1, .int a2, .int a3] : List Value).toArray below meth c H locs k n (MQ below (ss_Qc G (some (.int rr)) hh) ([ss_v (ss_b G) this, .int a1, .int a2, .int a3] : List Value).toArray s 0 0 (ss_A G)) g
theorem ck_M_ahead {N : Nat} {this : Option Nat} {a1 : Int32} {a2 : Int32} {a3 : Int32} {h : ss_Hp} {res : Int32 × ss_Hp} (hm : mm_M_ahead N this a1 a2 a3 h = some res) : ss_is h this 12 = true := (ss_chk hm).1
set_option maxHeartbeats 4000000 in
set_option maxRecDepth 100000 in
theorem cc_M_ahead (l : Launch) (G : ss_G) (N : Nat) (this : Option Nat) (a1 : Int32) (a2 : Int32) (a3 : Int32) (h : ss_Hp) (rr : Int32) (hh : ss_Hp) (hm : mm_M_ahead N this a1 a2 a3 h = some (rr, hh)) : ss_Ct l G yy_M_ahead bb_M_ahead 5 (some (.int)) ({ frames := 5, cells := 0, slots := 0, locals := 126 }) [ss_v (ss_b G) this, .int a1, .int a2, .int a3] h (some (.int rr)) hh := by
  obtain ⟨hck, hm⟩ := ss_chk hm
  refine Met.ofW (cc := bb_M_ahead) (maxL := 5) (ret := (some (.int))) (by decide) rfl ?_
  intro p e s m args below meth c s₁ B hml hv
  obtain ⟨rfl, hR, hK⟩ := hv
  have hC : CallFix p m c bb_M_ahead 5 s _ lw_g sR_12 := ⟨B.exec, B.bytes, hml, findClass_of_methodNamed B.named, fun w hw => atoms_spec (ws := ss_w yy_M_ahead bb_M_ahead 5 (some (.int))) B.pre w (List.mem_cons_of_mem _ hw)⟩
  have hx := hC.1
  have hb := hC.2.1
  have hr := B.returns
  have hlocks := B.notSynchronized
  have hS : va_S (ss_A G) s.heap s.heap [] := va_S.rf
  have hl := lv_entry ([ss_v (ss_b G) this, .int a1, .int a2, .int a3]) (n := 5) (by simp [lg_sl, ss_v_cat, ss_cat_i, ss_cat_l, ss_cat_r])
  rw [lg_entry_eq]
  generalize (lg_sl ([ss_v (ss_b G) this, .int a1, .int a2, .int a3]) ++ List.replicate (5 - (lg_sl ([ss_v (ss_b G) this, .int a1, .int a2, .int a3])).length) Slot.unset).toArray = ls at hl ⊢
  have hl : lv_has ls 5 [(0, ss_v (ss_b G) this), (1, .int a1), (2, .int a2), (3, .int a3)] := by simpa [lv_args, ss_v_cat, ss_cat_i, ss_cat_l, ss_cat_r] using hl
  have J_41 : ∀ (h_41 : ss_Hp) (H : Heap) (locs : List Loc) (ls : Array Slot), mm_M_ahead_j41 N this a1 a2 a3 h_41 = some (rr, hh) → ss_R G h_41 H → va_S (ss_A G) s.heap H locs → lv_has ls 5 [] → ww_M_ahead p l e s m below meth c G this a1 a2 a3 h rr hh  H locs 0 0 (F0 m 41 ls []) := by
    intro h_41 H locs ls hm hR hS hl
    refine lv_iconst (v := -1) hx hb dd_M_ahead_41 (by decide) ?_
    exact ss_iret hC hr hlocks hR hS hm dd_M_ahead_42
  have J_90 : ∀ (s0_90 : Int32) (h_90 : ss_Hp) (H : Heap) (locs : List Loc) (ls : Array Slot), mm_M_ahead_j90 N this a1 a2 a3 s0_90 h_90 = some (rr, hh) → ss_R G h_90 H → va_S (ss_A G) s.heap H locs → lv_has ls 5 [(0, ss_v (ss_b G) this)] → ww_M_ahead p l e s m below meth c G this a1 a2 a3 h rr hh  H locs 0 0 (F0 m 90 ls [.int s0_90]) := by
    intro s0_90 h_90 H locs ls hm hR hS hl
    refine lv_istore (lv' := [(4, .int s0_90), (0, ss_v (ss_b G) this)]) hx hb dd_M_ahead_90 hl (by decide) rfl (fun ls hl => ?_)
    refine ss_aload_n hx hb dd_M_ahead_92 rfl (lv_at hl 1 rfl) ?_
    obtain ⟨h1, qh1, hm⟩ := ss_bind hm
    refine ss_cVv 0 0 (As := []) hC hK hR hS hl.1 (cc_M_laysBack l G N _ _ _ qh1) km_M_388 (ck_M_laysBack qh1) ⟨Nat.le_of_ble_eq_true rfl, Nat.le_of_ble_eq_true rfl⟩ ⟨Nat.le_of_ble_eq_true rfl, Nat.le_of_ble_eq_true rfl, Nat.le_of_ble_eq_true rfl, Nat.le_of_ble_eq_true rfl⟩ rfl rfl (Nat.le_of_ble_eq_true rfl) dd_M_ahead_93 (fun H locs hR hS => ?_)
    refine lv_iload hx hb dd_M_ahead_96 (lv_at hl 0 rfl) ?_
    exact ss_iret hC hr hlocks hR hS hm dd_M_ahead_98
  have J_43 : ∀ (h_43 : ss_Hp) (H : Heap) (locs : List Loc) (ls : Array Slot), mm_M_ahead_j43 N this a1 a2 a3 h_43 = some (rr, hh) → ss_R G h_43 H → va_S (ss_A G) s.heap H locs → lv_has ls 5 [(0, ss_v (ss_b G) this), (1, .int a1), (2, .int a2), (3, .int a3)] → ww_M_ahead p l e s m below meth c G this a1 a2 a3 h rr hh  H locs 0 0 (F0 m 43 ls []) := by
    intro h_43 H locs ls hm hR hS hl
    refine ss_aload_n hx hb dd_M_ahead_43 rfl (lv_at hl 0 rfl) ?_
    obtain ⟨h2, qh2, hm⟩ := ss_bind hm
    refine ss_cVv 0 0 (As := []) hC hK hR hS hl.1 (cc_M_keeps l G N _ _ _ qh2) km_M_385 (ck_M_keeps qh2) ⟨Nat.le_of_ble_eq_true rfl, Nat.le_of_ble_eq_true rfl⟩ ⟨Nat.le_of_ble_eq_true rfl, Nat.le_of_ble_eq_true rfl, Nat.le_of_ble_eq_true rfl, Nat.le_of_ble_eq_true rfl⟩ rfl rfl (Nat.le_of_ble_eq_true rfl) dd_M_ahead_44 (fun H locs hR hS => ?_)
    refine lv_iconst (v := 0) hx hb dd_M_ahead_47 (by decide) ?_
    refine lv_istore (lv' := [(4, .int (0 : Int32)), (0, ss_v (ss_b G) this), (1, .int a1), (2, .int a2), (3, .int a3)]) hx hb dd_M_ahead_48 hl (by decide) rfl (fun ls hl => ?_)
    obtain ⟨e_50, he_50, hm⟩ := ss_bind hm
    have X_50_67 : ∀  (h_50_67 : ss_Hp) (H : Heap) (locs : List Loc) (ls : Array Slot), e_50 = h_50_67 → ss_R G h_50_67 H → va_S (ss_A G) s.heap H locs → lv_has ls 5 [(0, ss_v (ss_b G) this), (1, .int a1), (3, .int a3)] → ww_M_ahead p l e s m below meth c G this a1 a2 a3 h rr hh  H locs 0 0 (F0 m 67 ls []) := by
      intro h_50_67 H locs ls hq hR hS hl
      rw [hq] at hm
      refine lv_iload_n hx hb dd_M_ahead_67 rfl (lv_at hl 2 rfl) ?_
      refine lv_if_ne (tgt := 83) hx hb dd_M_ahead_68 (by decide) (fun c3 => ?_) (fun c3 => ?_)
      · have hm := ss_iff hm c3
        refine ss_aload_n hx hb dd_M_ahead_83 rfl (lv_at hl 0 rfl) ?_
        obtain ⟨v4, qv4, hm⟩ := ss_bind hm
        refine ss_cV 0 0 (As := []) hC hK hR hS hl.1 (cc_M_closed l G N _ _ _ qv4) km_M_340 (ck_M_closed qv4) ⟨Nat.le_of_ble_eq_true rfl, Nat.le_of_ble_eq_true rfl⟩ ⟨Nat.le_of_ble_eq_true rfl, Nat.le_of_ble_eq_true rfl, Nat.le_of_ble_eq_true rfl, Nat.le_of_ble_eq_true rfl⟩ rfl rfl (Nat.le_of_ble_eq_true rfl) dd_M_ahead_84 (fun H locs hR hS => ?_)
        obtain ⟨v5, qv5, hm⟩ := ss_bind hm
        refine ss_cS 0 0 (As := [.int v4]) hC hK hR hS hl.1 (cc_M_bits l G N _ _ _ qv5) km_M_343 ⟨Nat.le_of_ble_eq_true rfl, Nat.le_of_ble_eq_true rfl⟩ ⟨Nat.le_of_ble_eq_true rfl, Nat.le_of_ble_eq_true rfl, Nat.le_of_ble_eq_true rfl, Nat.le_of_ble_eq_true rfl⟩ rfl rfl (Nat.le_of_ble_eq_true rfl) dd_M_ahead_87 (fun H locs hR hS => ?_)
        exact J_90 v5 h_50_67 _ _ _ hm hR hS (lv_sub hl [0] rfl)
      · have hm := ss_ift hm c3
        refine ss_aload_n hx hb dd_M_ahead_71 rfl (lv_at hl 0 rfl) ?_
        obtain ⟨r6, qr6, hm⟩ := ss_bind hm
        refine ss_getr hC hK hR kf_M_39 rfl qr6 dd_M_ahead_72 ?_
        refine lv_bipush (v := 14) hx hb dd_M_ahead_75 (by decide) ?_
        refine lv_iload_n hx hb dd_M_ahead_77 rfl (lv_at hl 1 rfl) ?_
        refine lv_iadd hx hb dd_M_ahead_78 ?_
        obtain ⟨v7, qv7, hm⟩ := ss_bind hm
        refine ss_iald hC hK hR qv7 dd_M_ahead_79 ?_
        refine lv_goto (tgt := 90) hx hb dd_M_ahead_80 (by decide) ?_
        exact J_90 v7 h_50_67 _ _ _ hm hR hS (lv_sub hl [0] rfl)
    have L_50 : ∀ (n : Nat) (x4_50 : Int32) (h_50 : ss_Hp) (H : Heap) (locs : List Loc) (ls : Array Slot), ss_lp (mm_M_ahead_b50 N this a1 a2 a3) n (x4_50, h_50) = some e_50 → ss_R G h_50 H → va_S (ss_A G) s.heap H locs → lv_has ls 5 [(0, ss_v (ss_b G) this), (1, .int a1), (2, .int a2), (3, .int a3), (4, .int x4_50)] → ww_M_ahead p l e s m below meth c G this a1 a2 a3 h rr hh  H locs 0 0 (F0 m 50 ls []) := by
      intro n
      induction n with
      | zero => intro x4_50 h_50 H locs ls hm; cases hm
      | succ n ih_50 =>
        intro x4_50 h_50 H locs ls hm hR hS hl
        obtain ⟨z_50, hm, hz1_50, hz2_50⟩ := ss_lps hm
        refine lv_iload hx hb dd_M_ahead_50 (lv_at hl 4 rfl) ?_
        refine lv_iload_n hx hb dd_M_ahead_52 rfl (lv_at hl 2 rfl) ?_
        refine lv_icmp_ge (tgt := 67) hx hb dd_M_ahead_53 (by decide) (fun c8 => ?_) (fun c8 => ?_)
        · have hm := ss_ift hm c8
          exact X_50_67 h_50 _ _ _ (hz2_50 _ (ss_some hm)) hR hS (lv_sub hl [0, 1, 3] rfl)
        · have hm := ss_iff hm c8
          refine ss_aload_n hx hb dd_M_ahead_56 rfl (lv_at hl 0 rfl) ?_
          obtain ⟨v9, h10, qh10, hm⟩ := ss_bind2 hm
          refine ss_cV 0 0 (As := []) hC hK hR hS hl.1 (cc_M_passes l G N _ _ _ _ qh10) km_M_372 (ck_M_passes qh10) ⟨Nat.le_of_ble_eq_true rfl, Nat.le_of_ble_eq_true rfl⟩ ⟨Nat.le_of_ble_eq_true rfl, Nat.le_of_ble_eq_true rfl, Nat.le_of_ble_eq_true rfl, Nat.le_of_ble_eq_true rfl⟩ rfl rfl (Nat.le_of_ble_eq_true rfl) dd_M_ahead_57 (fun H locs hR hS => ?_)
          refine lv_pop hx hb dd_M_ahead_60 rfl ?_
          obtain ⟨v11, qv11, hm⟩ := ss_bind hm
          refine lv_iinc (v := v11) (lv' := [(4, .int v11), (0, ss_v (ss_b G) this), (1, .int a1), (2, .int a2), (3, .int a3)]) hx hb dd_M_ahead_61 hl (k := 4) rfl (ss_inc (by decide) qv11) (by decide) rfl (fun ls hl => ?_)
          refine lv_goto (tgt := 50) hx hb dd_M_ahead_64 (by decide) ?_
          exact ih_50 v11 h10 _ _ _ (hz1_50 _ (ss_some hm)) hR hS (lv_sub hl [1, 2, 3, 4, 0] rfl)
    exact L_50 N (0 : Int32) h2 _ _ _ he_50 hR hS (lv_sub hl [1, 2, 3, 4, 0] rfl)
  refine ss_aload_n hx hb dd_M_ahead_0 rfl (lv_at hl 0 rfl) ?_
  obtain ⟨v12, qv12, hm⟩ := ss_bind hm
  refine ss_cV 0 0 (As := []) hC hK hR hS hl.1 (cc_M_isValley l G N _ _ _ qv12) km_M_366 (ck_M_isValley qv12) ⟨Nat.le_of_ble_eq_true rfl, Nat.le_of_ble_eq_true rfl⟩ ⟨Nat.le_of_ble_eq_true rfl, Nat.le_of_ble_eq_true rfl, Nat.le_of_ble_eq_true rfl, Nat.le_of_ble_eq_true rfl⟩ rfl rfl (Nat.le_of_ble_eq_true rfl) dd_M_ahead_1 (fun H locs hR hS => ?_)
  refine lv_if_eq (tgt := 41) hx hb dd_M_ahead_4 (by decide) (fun c13 => ?_) (fun c13 => ?_)
  · have hm := ss_ift hm c13
    exact J_41 h _ _ _ hm hR hS (lv_sub hl [] rfl)
  · have hm := ss_iff hm c13
    refine lv_iload_n hx hb dd_M_ahead_7 rfl (lv_at hl 2 rfl) ?_
    refine lv_i2l hx hb dd_M_ahead_8 rfl ?_
    refine lv_lconst (v := 0) hx hb dd_M_ahead_9 (by decide) ?_
    refine lv_ldc2 (v := 100) hx hb hC.2.2.2.1 (hC.2.2.2.2 _ kl_M_383) dd_M_ahead_10 ?_
    obtain ⟨v14, qv14, hm⟩ := ss_bind hm
    refine ss_cS 0 0 (As := [.long ((a2).toInt64), .long (0 : Int64), .long (100 : Int64)]) hC hK hR hS hl.1 (cc_M_in l G N _ _ _ _ _ qv14) km_M_124 ⟨Nat.le_of_ble_eq_true rfl, Nat.le_of_ble_eq_true rfl⟩ ⟨Nat.le_of_ble_eq_true rfl, Nat.le_of_ble_eq_true rfl, Nat.le_of_ble_eq_true rfl, Nat.le_of_ble_eq_true rfl⟩ rfl rfl (Nat.le_of_ble_eq_true rfl) dd_M_ahead_13 (fun H locs hR hS => ?_)
    refine lv_if_eq (tgt := 41) hx hb dd_M_ahead_16 (by decide) (fun c15 => ?_) (fun c15 => ?_)
    · have hm := ss_ift hm c15
      exact J_41 h _ _ _ hm hR hS (lv_sub hl [] rfl)
    · have hm := ss_iff hm c15
      refine lv_iload_n hx hb dd_M_ahead_19 rfl (lv_at hl 3 rfl) ?_
      refine lv_i2l hx hb dd_M_ahead_20 rfl ?_
      refine lv_lconst (v := 0) hx hb dd_M_ahead_21 (by decide) ?_
      refine lv_lconst (v := 1) hx hb dd_M_ahead_22 (by decide) ?_
      obtain ⟨v16, qv16, hm⟩ := ss_bind hm
      refine ss_cS 0 0 (As := [.long ((a3).toInt64), .long (0 : Int64), .long (1 : Int64)]) hC hK hR hS hl.1 (cc_M_in l G N _ _ _ _ _ qv16) km_M_124 ⟨Nat.le_of_ble_eq_true rfl, Nat.le_of_ble_eq_true rfl⟩ ⟨Nat.le_of_ble_eq_true rfl, Nat.le_of_ble_eq_true rfl, Nat.le_of_ble_eq_true rfl, Nat.le_of_ble_eq_true rfl⟩ rfl rfl (Nat.le_of_ble_eq_true rfl) dd_M_ahead_23 (fun H locs hR hS => ?_)
      refine lv_if_eq (tgt := 41) hx hb dd_M_ahead_26 (by decide) (fun c17 => ?_) (fun c17 => ?_)
      · have hm := ss_ift hm c17
        exact J_41 h _ _ _ hm hR hS (lv_sub hl [] rfl)
      · have hm := ss_iff hm c17
        refine lv_iload_n hx hb dd_M_ahead_29 rfl (lv_at hl 3 rfl) ?_
        refine lv_if_ne (tgt := 43) hx hb dd_M_ahead_30 (by decide) (fun c18 => ?_) (fun c18 => ?_)
        · have hm := ss_iff hm c18
          exact J_43 h _ _ _ hm hR hS hl
        · have hm := ss_ift hm c18
          refine ss_aload_n hx hb dd_M_ahead_33 rfl (lv_at hl 0 rfl) ?_
          refine lv_iload_n hx hb dd_M_ahead_34 rfl (lv_at hl 1 rfl) ?_
          obtain ⟨v19, qv19, hm⟩ := ss_bind hm
          refine ss_cV 0 0 (As := [.int a1]) hC hK hR hS hl.1 (cc_M_isStep l G N _ _ _ _ qv19) km_M_313 (ck_M_isStep qv19) ⟨Nat.le_of_ble_eq_true rfl, Nat.le_of_ble_eq_true rfl⟩ ⟨Nat.le_of_ble_eq_true rfl, Nat.le_of_ble_eq_true rfl, Nat.le_of_ble_eq_true rfl, Nat.le_of_ble_eq_true rfl⟩ rfl rfl (Nat.le_of_ble_eq_true rfl) dd_M_ahead_35 (fun H locs hR hS => ?_)
          refine lv_if_ne (tgt := 43) hx hb dd_M_ahead_38 (by decide) (fun c20 => ?_) (fun c20 => ?_)
          · have hm := ss_iff hm c20
            exact J_43 h _ _ _ hm hR hS hl
          · have hm := ss_ift hm c20
            exact J_41 h _ _ _ hm hR hS (lv_sub hl [] rfl)
theorem dd_M_stays_0 : decode bb_M_stays 0 = .ok (.aload_n 0, 1) := by decide +kernel
theorem dd_M_stays_1 : decode bb_M_stays 1 = .ok (.invokevirtual 366, 3) := by decide +kernel
theorem dd_M_stays_4 : decode bb_M_stays 4 = .ok (.ifCond .eq 15, 3) := by decide +kernel
theorem dd_M_stays_7 : decode bb_M_stays 7 = .ok (.iload_n 1, 1) := by decide +kernel
theorem dd_M_stays_8 : decode bb_M_stays 8 = .ok (.i2l, 1) := by decide +kernel
theorem dd_M_stays_9 : decode bb_M_stays 9 = .ok (.lconst 1, 1) := by decide +kernel
theorem dd_M_stays_10 : decode bb_M_stays 10 = .ok (.ldc2_w 391, 3) := by decide +kernel
theorem dd_M_stays_13 : decode bb_M_stays 13 = .ok (.invokestatic 124, 3) := by decide +kernel
theorem dd_M_stays_16 : decode bb_M_stays 16 = .ok (.ifCond .ne 5, 3) := by decide +kernel
theorem dd_M_stays_19 : decode bb_M_stays 19 = .ok (.iconst (-1), 1) := by decide +kernel
theorem dd_M_stays_20 : decode bb_M_stays 20 = .ok (.ireturn, 1) := by decide +kernel
theorem dd_M_stays_21 : decode bb_M_stays 21 = .ok (.aload_n 0, 1) := by decide +kernel
theorem dd_M_stays_22 : decode bb_M_stays 22 = .ok (.invokevirtual 340, 3) := by decide +kernel
theorem dd_M_stays_25 : decode bb_M_stays 25 = .ok (.istore_n 2, 1) := by decide +kernel
theorem dd_M_stays_26 : decode bb_M_stays 26 = .ok (.aload_n 0, 1) := by decide +kernel
theorem dd_M_stays_27 : decode bb_M_stays 27 = .ok (.invokevirtual 385, 3) := by decide +kernel
theorem dd_M_stays_30 : decode bb_M_stays 30 = .ok (.iconst 0, 1) := by decide +kernel
theorem dd_M_stays_31 : decode bb_M_stays 31 = .ok (.istore_n 3, 1) := by decide +kernel
theorem dd_M_stays_32 : decode bb_M_stays 32 = .ok (.iload_n 3, 1) := by decide +kernel
theorem dd_M_stays_33 : decode bb_M_stays 33 = .ok (.iload_n 1, 1) := by decide +kernel
theorem dd_M_stays_34 : decode bb_M_stays 34 = .ok (.if_icmp .ge 21, 3) := by decide +kernel
theorem dd_M_stays_37 : decode bb_M_stays 37 = .ok (.aload_n 0, 1) := by decide +kernel
theorem dd_M_stays_38 : decode bb_M_stays 38 = .ok (.invokevirtual 372, 3) := by decide +kernel
theorem dd_M_stays_41 : decode bb_M_stays 41 = .ok (.pop, 1) := by decide +kernel
theorem dd_M_stays_42 : decode bb_M_stays 42 = .ok (.iload_n 2, 1) := by decide +kernel
theorem dd_M_stays_43 : decode bb_M_stays 43 = .ok (.aload_n 0, 1) := by decide +kernel
theorem dd_M_stays_44 : decode bb_M_stays 44 = .ok (.invokevirtual 340, 3) := by decide +kernel
theorem dd_M_stays_47 : decode bb_M_stays 47 = .ok (.ior, 1) := by decide +kernel
theorem dd_M_stays_48 : decode bb_M_stays 48 = .ok (.istore_n 2, 1) := by decide +kernel
theorem dd_M_stays_49 : decode bb_M_stays 49 = .ok (.iinc 3 1, 3) := by decide +kernel
theorem dd_M_stays_52 : decode bb_M_stays 52 = .ok (.goto (-20), 3) := by decide +kernel
theorem dd_M_stays_55 : decode bb_M_stays 55 = .ok (.aload_n 0, 1) := by decide +kernel
theorem dd_M_stays_56 : decode bb_M_stays 56 = .ok (.invokevirtual 388, 3) := by decide +kernel
theorem dd_M_stays_59 : decode bb_M_stays 59 = .ok (.iconst 1, 1) := by decide +kernel
theorem dd_M_stays_60 : decode bb_M_stays 60 = .ok (.aload_n 0, 1) := by decide +kernel
theorem dd_M_stays_61 : decode bb_M_stays 61 = .ok (.getfield 39, 3) := by decide +kernel
theorem dd_M_stays_64 : decode bb_M_stays 64 = .ok (.iconst 2, 1) := by decide +kernel
theorem dd_M_stays_65 : decode bb_M_stays 65 = .ok (.iaload, 1) := by decide +kernel
theorem dd_M_stays_66 : decode bb_M_stays 66 = .ok (.ishl, 1) := by decide +kernel
theorem dd_M_stays_67 : decode bb_M_stays 67 = .ok (.iconst 1, 1) := by decide +kernel
theorem dd_M_stays_68 : decode bb_M_stays 68 = .ok (.isub, 1) := by decide +kernel
theorem dd_M_stays_69 : decode bb_M_stays 69 = .ok (.iload_n 2, 1) := by decide +kernel
theorem dd_M_stays_70 : decode bb_M_stays 70 = .ok (.iconst (-1), 1) := by decide +kernel
theorem dd_M_stays_71 : decode bb_M_stays 71 = .ok (.ixor, 1) := by decide +kernel
theorem dd_M_stays_72 : decode bb_M_stays 72 = .ok (.iand, 1) := by decide +kernel
theorem dd_M_stays_73 : decode bb_M_stays 73 = .ok (.ireturn, 1) := by decide +kernel
def mm_M_stays_j19 (N : Nat) (this : Option Nat) (a1 : Int32) (h_19 : ss_Hp) : Option (Int32 × ss_Hp) :=
  some ((-1 : Int32), h_19)
def mm_M_stays_b32 (N : Nat) (this : Option Nat) (a1 : Int32) (st : Int32 × Int32 × ss_Hp) : Option ((Int32 × Int32 × ss_Hp) ⊕ (Int32 × ss_Hp)) :=
  match st with
  | (x2_32, x3_32, h_32) =>
    if a1 ≤ x3_32 then
      some (.inr (x2_32, h_32))
    else
      ss_b2 (mm_M_passes N this h_32) fun v11 h12 =>
      (mm_M_closed N this h12).bind fun v13 =>
      (some (x2_32 ||| v13)).bind fun v14 =>
      (some (x3_32 + (1 : Int32))).bind fun v15 =>
      some (.inl (v14, v15, h12))
def mm_M_stays (N : Nat) (this : Option Nat) (a1 : Int32) (h : ss_Hp) : Option (Int32 × ss_Hp) :=
  if ss_is h this 12 = true then
    (mm_M_isValley N this h).bind fun v1 =>
    if v1 = 0 then
      mm_M_stays_j19 N this a1 h
    else
      (mm_M_in N ((a1).toInt64) (1 : Int64) (60 : Int64)).bind fun v3 =>
      if v3 = 0 then
        mm_M_stays_j19 N this a1 h
      else
        (mm_M_closed N this h).bind fun v5 =>
        (mm_M_keeps N this h).bind fun h6 =>
        (ss_lp (mm_M_stays_b32 N this a1) N (v5, (0 : Int32), h6)).bind fun e_32 =>
        match e_32 with
        | (y2_32_55, h_32_55) =>
          (mm_M_laysBack N this h_32_55).bind fun h7 =>
          (ss_gr h7 this 12 9).bind fun r8 =>
          (ss_ai h7 r8 20 (2 : Int32)).bind fun v9 =>
          some (((((1 : Int32) <<< (v9 &&& 31)) - (1 : Int32)) &&& (y2_32_55 ^^^ (-1 : Int32))), h7)
  else none
abbrev ww_M_stays (p : Program) (l : Launch) (e : Env) (s : State) (m : MethodId) (below : List Frame) (meth : Method) (c : Code) (G : ss_G) (this : Option Nat) (a1 : Int32) (h : ss_Hp) (rr : Int32) (hh : ss_Hp) (H : Heap) (locs : List Loc) (k n : Nat) (g : JFrame) : Prop := W p l e (headSpec (ss_w yy_M_stays bb_M_stays 4 (some (.int))) ({ frames := 5, cells := 0, slots := 0, locals := 126 })).room s m ([ss_v (ss_b G) this, .int a1] : List Value).toArray below meth c H locs k n (MQ below (ss_Qc G (some (.int rr)) hh) ([ss_v (ss_b G) this, .int a1] : List Value).toArray s 0 0 (ss_A G)) g
theorem ck_M_stays {N : Nat} {this : Option Nat} {a1 : Int32} {h : ss_Hp} {res : Int32 × ss_Hp} (hm : mm_M_stays N this a1 h = some res) : ss_is h this 12 = true := (ss_chk hm).1
set_option maxHeartbeats 4000000 in
set_option maxRecDepth 100000 in
theorem cc_M_stays (l : Launch) (G : ss_G) (N : Nat) (this : Option Nat) (a1 : Int32) (h : ss_Hp) (rr : Int32) (hh : ss_Hp) (hm : mm_M_stays N this a1 h = some (rr, hh)) : ss_Ct l G yy_M_stays bb_M_stays 4 (some (.int)) ({ frames := 5, cells := 0, slots := 0, locals := 126 }) [ss_v (ss_b G) this, .int a1] h (some (.int rr)) hh := by
  obtain ⟨hck, hm⟩ := ss_chk hm
  refine Met.ofW (cc := bb_M_stays) (maxL := 4) (ret := (some (.int))) (by decide) rfl ?_
  intro p e s m args below meth c s₁ B hml hv
  obtain ⟨rfl, hR, hK⟩ := hv
  have hC : CallFix p m c bb_M_stays 4 s _ lw_g sR_12 := ⟨B.exec, B.bytes, hml, findClass_of_methodNamed B.named, fun w hw => atoms_spec (ws := ss_w yy_M_stays bb_M_stays 4 (some (.int))) B.pre w (List.mem_cons_of_mem _ hw)⟩
  have hx := hC.1
  have hb := hC.2.1
  have hr := B.returns
  have hlocks := B.notSynchronized
  have hS : va_S (ss_A G) s.heap s.heap [] := va_S.rf
  have hl := lv_entry ([ss_v (ss_b G) this, .int a1]) (n := 4) (by simp [lg_sl, ss_v_cat, ss_cat_i, ss_cat_l, ss_cat_r])
  rw [lg_entry_eq]
  generalize (lg_sl ([ss_v (ss_b G) this, .int a1]) ++ List.replicate (4 - (lg_sl ([ss_v (ss_b G) this, .int a1])).length) Slot.unset).toArray = ls at hl ⊢
  have hl : lv_has ls 4 [(0, ss_v (ss_b G) this), (1, .int a1)] := by simpa [lv_args, ss_v_cat, ss_cat_i, ss_cat_l, ss_cat_r] using hl
  have J_19 : ∀ (h_19 : ss_Hp) (H : Heap) (locs : List Loc) (ls : Array Slot), mm_M_stays_j19 N this a1 h_19 = some (rr, hh) → ss_R G h_19 H → va_S (ss_A G) s.heap H locs → lv_has ls 4 [] → ww_M_stays p l e s m below meth c G this a1 h rr hh  H locs 0 0 (F0 m 19 ls []) := by
    intro h_19 H locs ls hm hR hS hl
    refine lv_iconst (v := -1) hx hb dd_M_stays_19 (by decide) ?_
    exact ss_iret hC hr hlocks hR hS hm dd_M_stays_20
  refine ss_aload_n hx hb dd_M_stays_0 rfl (lv_at hl 0 rfl) ?_
  obtain ⟨v1, qv1, hm⟩ := ss_bind hm
  refine ss_cV 0 0 (As := []) hC hK hR hS hl.1 (cc_M_isValley l G N _ _ _ qv1) km_M_366 (ck_M_isValley qv1) ⟨Nat.le_of_ble_eq_true rfl, Nat.le_of_ble_eq_true rfl⟩ ⟨Nat.le_of_ble_eq_true rfl, Nat.le_of_ble_eq_true rfl, Nat.le_of_ble_eq_true rfl, Nat.le_of_ble_eq_true rfl⟩ rfl rfl (Nat.le_of_ble_eq_true rfl) dd_M_stays_1 (fun H locs hR hS => ?_)
  refine lv_if_eq (tgt := 19) hx hb dd_M_stays_4 (by decide) (fun c2 => ?_) (fun c2 => ?_)
  · have hm := ss_ift hm c2
    exact J_19 h _ _ _ hm hR hS (lv_sub hl [] rfl)
  · have hm := ss_iff hm c2
    refine lv_iload_n hx hb dd_M_stays_7 rfl (lv_at hl 1 rfl) ?_
    refine lv_i2l hx hb dd_M_stays_8 rfl ?_
    refine lv_lconst (v := 1) hx hb dd_M_stays_9 (by decide) ?_
    refine lv_ldc2 (v := 60) hx hb hC.2.2.2.1 (hC.2.2.2.2 _ kl_M_391) dd_M_stays_10 ?_
    obtain ⟨v3, qv3, hm⟩ := ss_bind hm
    refine ss_cS 0 0 (As := [.long ((a1).toInt64), .long (1 : Int64), .long (60 : Int64)]) hC hK hR hS hl.1 (cc_M_in l G N _ _ _ _ _ qv3) km_M_124 ⟨Nat.le_of_ble_eq_true rfl, Nat.le_of_ble_eq_true rfl⟩ ⟨Nat.le_of_ble_eq_true rfl, Nat.le_of_ble_eq_true rfl, Nat.le_of_ble_eq_true rfl, Nat.le_of_ble_eq_true rfl⟩ rfl rfl (Nat.le_of_ble_eq_true rfl) dd_M_stays_13 (fun H locs hR hS => ?_)
    refine lv_if_ne (tgt := 21) hx hb dd_M_stays_16 (by decide) (fun c4 => ?_) (fun c4 => ?_)
    · have hm := ss_iff hm c4
      refine ss_aload_n hx hb dd_M_stays_21 rfl (lv_at hl 0 rfl) ?_
      obtain ⟨v5, qv5, hm⟩ := ss_bind hm
      refine ss_cV 0 0 (As := []) hC hK hR hS hl.1 (cc_M_closed l G N _ _ _ qv5) km_M_340 (ck_M_closed qv5) ⟨Nat.le_of_ble_eq_true rfl, Nat.le_of_ble_eq_true rfl⟩ ⟨Nat.le_of_ble_eq_true rfl, Nat.le_of_ble_eq_true rfl, Nat.le_of_ble_eq_true rfl, Nat.le_of_ble_eq_true rfl⟩ rfl rfl (Nat.le_of_ble_eq_true rfl) dd_M_stays_22 (fun H locs hR hS => ?_)
      refine lv_istore_n (lv' := [(2, .int v5), (0, ss_v (ss_b G) this), (1, .int a1)]) hx hb dd_M_stays_25 rfl hl (by decide) rfl (fun ls hl => ?_)
      refine ss_aload_n hx hb dd_M_stays_26 rfl (lv_at hl 1 rfl) ?_
      obtain ⟨h6, qh6, hm⟩ := ss_bind hm
      refine ss_cVv 0 0 (As := []) hC hK hR hS hl.1 (cc_M_keeps l G N _ _ _ qh6) km_M_385 (ck_M_keeps qh6) ⟨Nat.le_of_ble_eq_true rfl, Nat.le_of_ble_eq_true rfl⟩ ⟨Nat.le_of_ble_eq_true rfl, Nat.le_of_ble_eq_true rfl, Nat.le_of_ble_eq_true rfl, Nat.le_of_ble_eq_true rfl⟩ rfl rfl (Nat.le_of_ble_eq_true rfl) dd_M_stays_27 (fun H locs hR hS => ?_)
      refine lv_iconst (v := 0) hx hb dd_M_stays_30 (by decide) ?_
      refine lv_istore_n (lv' := [(3, .int (0 : Int32)), (2, .int v5), (0, ss_v (ss_b G) this), (1, .int a1)]) hx hb dd_M_stays_31 rfl hl (by decide) rfl (fun ls hl => ?_)
      obtain ⟨e_32, he_32, hm⟩ := ss_bind hm
      have X_32_55 : ∀ (y2_32_55 : Int32) (h_32_55 : ss_Hp) (H : Heap) (locs : List Loc) (ls : Array Slot), e_32 = (y2_32_55, h_32_55) → ss_R G h_32_55 H → va_S (ss_A G) s.heap H locs → lv_has ls 4 [(0, ss_v (ss_b G) this), (2, .int y2_32_55)] → ww_M_stays p l e s m below meth c G this a1 h rr hh  H locs 0 0 (F0 m 55 ls []) := by
        intro y2_32_55 h_32_55 H locs ls hq hR hS hl
        rw [hq] at hm
        refine ss_aload_n hx hb dd_M_stays_55 rfl (lv_at hl 0 rfl) ?_
        obtain ⟨h7, qh7, hm⟩ := ss_bind hm
        refine ss_cVv 0 0 (As := []) hC hK hR hS hl.1 (cc_M_laysBack l G N _ _ _ qh7) km_M_388 (ck_M_laysBack qh7) ⟨Nat.le_of_ble_eq_true rfl, Nat.le_of_ble_eq_true rfl⟩ ⟨Nat.le_of_ble_eq_true rfl, Nat.le_of_ble_eq_true rfl, Nat.le_of_ble_eq_true rfl, Nat.le_of_ble_eq_true rfl⟩ rfl rfl (Nat.le_of_ble_eq_true rfl) dd_M_stays_56 (fun H locs hR hS => ?_)
        refine lv_iconst (v := 1) hx hb dd_M_stays_59 (by decide) ?_
        refine ss_aload_n hx hb dd_M_stays_60 rfl (lv_at hl 0 rfl) ?_
        obtain ⟨r8, qr8, hm⟩ := ss_bind hm
        refine ss_getr hC hK hR kf_M_39 rfl qr8 dd_M_stays_61 ?_
        refine lv_iconst (v := 2) hx hb dd_M_stays_64 (by decide) ?_
        obtain ⟨v9, qv9, hm⟩ := ss_bind hm
        refine ss_iald hC hK hR qv9 dd_M_stays_65 ?_
        refine lv_ishl hx hb dd_M_stays_66 ?_
        refine lv_iconst (v := 1) hx hb dd_M_stays_67 (by decide) ?_
        refine lv_isub hx hb dd_M_stays_68 ?_
        refine lv_iload_n hx hb dd_M_stays_69 rfl (lv_at hl 1 rfl) ?_
        refine lv_iconst (v := -1) hx hb dd_M_stays_70 (by decide) ?_
        refine lv_ixor hx hb dd_M_stays_71 ?_
        refine lv_iand hx hb dd_M_stays_72 ?_
        exact ss_iret hC hr hlocks hR hS hm dd_M_stays_73
      have L_32 : ∀ (n : Nat) (x2_32 : Int32) (x3_32 : Int32) (h_32 : ss_Hp) (H : Heap) (locs : List Loc) (ls : Array Slot), ss_lp (mm_M_stays_b32 N this a1) n (x2_32, x3_32, h_32) = some e_32 → ss_R G h_32 H → va_S (ss_A G) s.heap H locs → lv_has ls 4 [(0, ss_v (ss_b G) this), (1, .int a1), (2, .int x2_32), (3, .int x3_32)] → ww_M_stays p l e s m below meth c G this a1 h rr hh  H locs 0 0 (F0 m 32 ls []) := by
        intro n
        induction n with
        | zero => intro x2_32 x3_32 h_32 H locs ls hm; cases hm
        | succ n ih_32 =>
          intro x2_32 x3_32 h_32 H locs ls hm hR hS hl
          obtain ⟨z_32, hm, hz1_32, hz2_32⟩ := ss_lps hm
          refine lv_iload_n hx hb dd_M_stays_32 rfl (lv_at hl 3 rfl) ?_
          refine lv_iload_n hx hb dd_M_stays_33 rfl (lv_at hl 1 rfl) ?_
          refine lv_icmp_ge (tgt := 55) hx hb dd_M_stays_34 (by decide) (fun c10 => ?_) (fun c10 => ?_)
          · have hm := ss_ift hm c10
            exact X_32_55 x2_32 h_32 _ _ _ (hz2_32 _ (ss_some hm)) hR hS (lv_sub hl [0, 2] rfl)
          · have hm := ss_iff hm c10
            refine ss_aload_n hx hb dd_M_stays_37 rfl (lv_at hl 0 rfl) ?_
            obtain ⟨v11, h12, qh12, hm⟩ := ss_bind2 hm
            refine ss_cV 0 0 (As := []) hC hK hR hS hl.1 (cc_M_passes l G N _ _ _ _ qh12) km_M_372 (ck_M_passes qh12) ⟨Nat.le_of_ble_eq_true rfl, Nat.le_of_ble_eq_true rfl⟩ ⟨Nat.le_of_ble_eq_true rfl, Nat.le_of_ble_eq_true rfl, Nat.le_of_ble_eq_true rfl, Nat.le_of_ble_eq_true rfl⟩ rfl rfl (Nat.le_of_ble_eq_true rfl) dd_M_stays_38 (fun H locs hR hS => ?_)
            refine lv_pop hx hb dd_M_stays_41 rfl ?_
            refine lv_iload_n hx hb dd_M_stays_42 rfl (lv_at hl 2 rfl) ?_
            refine ss_aload_n hx hb dd_M_stays_43 rfl (lv_at hl 0 rfl) ?_
            obtain ⟨v13, qv13, hm⟩ := ss_bind hm
            refine ss_cV 0 0 (As := []) hC hK hR hS hl.1 (cc_M_closed l G N _ _ _ qv13) km_M_340 (ck_M_closed qv13) ⟨Nat.le_of_ble_eq_true rfl, Nat.le_of_ble_eq_true rfl⟩ ⟨Nat.le_of_ble_eq_true rfl, Nat.le_of_ble_eq_true rfl, Nat.le_of_ble_eq_true rfl, Nat.le_of_ble_eq_true rfl⟩ rfl rfl (Nat.le_of_ble_eq_true rfl) dd_M_stays_44 (fun H locs hR hS => ?_)
            refine lv_ior hx hb dd_M_stays_47 ?_
            obtain ⟨v14, qv14, hm⟩ := ss_bind hm
            refine ss_topi qv14 ?_
            refine lv_istore_n (lv' := [(2, .int v14), (0, ss_v (ss_b G) this), (1, .int a1), (3, .int x3_32)]) hx hb dd_M_stays_48 rfl hl (by decide) rfl (fun ls hl => ?_)
            obtain ⟨v15, qv15, hm⟩ := ss_bind hm
            refine lv_iinc (v := v15) (lv' := [(3, .int v15), (2, .int v14), (0, ss_v (ss_b G) this), (1, .int a1)]) hx hb dd_M_stays_49 hl (k := 3) rfl (ss_inc (by decide) qv15) (by decide) rfl (fun ls hl => ?_)
            refine lv_goto (tgt := 32) hx hb dd_M_stays_52 (by decide) ?_
            exact ih_32 v14 v15 h12 _ _ _ (hz1_32 _ (ss_some hm)) hR hS (lv_sub hl [2, 3, 1, 0] rfl)
      exact L_32 N v5 (0 : Int32) h6 _ _ _ he_32 hR hS (lv_sub hl [2, 3, 1, 0] rfl)
    · have hm := ss_ift hm c4
      exact J_19 h _ _ _ hm hR hS (lv_sub hl [] rfl)
theorem dd_M_closes1_0 : decode bb_M_closes1 0 = .ok (.aload_n 0, 1) := by decide +kernel
theorem dd_M_closes1_1 : decode bb_M_closes1 1 = .ok (.iload_n 1, 1) := by decide +kernel
theorem dd_M_closes1_2 : decode bb_M_closes1 2 = .ok (.invokevirtual 313, 3) := by decide +kernel
theorem dd_M_closes1_5 : decode bb_M_closes1 5 = .ok (.ifCond .ne 5, 3) := by decide +kernel
theorem dd_M_closes1_8 : decode bb_M_closes1 8 = .ok (.iconst (-1), 1) := by decide +kernel
theorem dd_M_closes1_9 : decode bb_M_closes1 9 = .ok (.ireturn, 1) := by decide +kernel
theorem dd_M_closes1_10 : decode bb_M_closes1 10 = .ok (.bipush (-2), 2) := by decide +kernel
theorem dd_M_closes1_12 : decode bb_M_closes1 12 = .ok (.istore_n 2, 1) := by decide +kernel
theorem dd_M_closes1_13 : decode bb_M_closes1 13 = .ok (.aload_n 0, 1) := by decide +kernel
theorem dd_M_closes1_14 : decode bb_M_closes1 14 = .ok (.invokevirtual 385, 3) := by decide +kernel
theorem dd_M_closes1_17 : decode bb_M_closes1 17 = .ok (.iconst 0, 1) := by decide +kernel
theorem dd_M_closes1_18 : decode bb_M_closes1 18 = .ok (.istore_n 3, 1) := by decide +kernel
theorem dd_M_closes1_19 : decode bb_M_closes1 19 = .ok (.iload_n 3, 1) := by decide +kernel
theorem dd_M_closes1_20 : decode bb_M_closes1 20 = .ok (.bipush 100, 2) := by decide +kernel
theorem dd_M_closes1_22 : decode bb_M_closes1 22 = .ok (.if_icmp .ge 34, 3) := by decide +kernel
theorem dd_M_closes1_25 : decode bb_M_closes1 25 = .ok (.iload_n 2, 1) := by decide +kernel
theorem dd_M_closes1_26 : decode bb_M_closes1 26 = .ok (.ifCond .ge 30, 3) := by decide +kernel
theorem dd_M_closes1_29 : decode bb_M_closes1 29 = .ok (.aload_n 0, 1) := by decide +kernel
theorem dd_M_closes1_30 : decode bb_M_closes1 30 = .ok (.iload_n 1, 1) := by decide +kernel
theorem dd_M_closes1_31 : decode bb_M_closes1 31 = .ok (.invokevirtual 307, 3) := by decide +kernel
theorem dd_M_closes1_34 : decode bb_M_closes1 34 = .ok (.ifCond .eq 11, 3) := by decide +kernel
theorem dd_M_closes1_37 : decode bb_M_closes1 37 = .ok (.aload_n 0, 1) := by decide +kernel
theorem dd_M_closes1_38 : decode bb_M_closes1 38 = .ok (.getfield 39, 3) := by decide +kernel
theorem dd_M_closes1_41 : decode bb_M_closes1 41 = .ok (.bipush 10, 2) := by decide +kernel
theorem dd_M_closes1_43 : decode bb_M_closes1 43 = .ok (.iaload, 1) := by decide +kernel
theorem dd_M_closes1_44 : decode bb_M_closes1 44 = .ok (.istore_n 2, 1) := by decide +kernel
theorem dd_M_closes1_45 : decode bb_M_closes1 45 = .ok (.aload_n 0, 1) := by decide +kernel
theorem dd_M_closes1_46 : decode bb_M_closes1 46 = .ok (.invokevirtual 372, 3) := by decide +kernel
theorem dd_M_closes1_49 : decode bb_M_closes1 49 = .ok (.pop, 1) := by decide +kernel
theorem dd_M_closes1_50 : decode bb_M_closes1 50 = .ok (.iinc 3 1, 3) := by decide +kernel
theorem dd_M_closes1_53 : decode bb_M_closes1 53 = .ok (.goto (-34), 3) := by decide +kernel
theorem dd_M_closes1_56 : decode bb_M_closes1 56 = .ok (.aload_n 0, 1) := by decide +kernel
theorem dd_M_closes1_57 : decode bb_M_closes1 57 = .ok (.invokevirtual 388, 3) := by decide +kernel
theorem dd_M_closes1_60 : decode bb_M_closes1 60 = .ok (.iload_n 2, 1) := by decide +kernel
theorem dd_M_closes1_61 : decode bb_M_closes1 61 = .ok (.ireturn, 1) := by decide +kernel
def mm_M_closes1_j45 (N : Nat) (this : Option Nat) (a1 : Int32) (x2_45 : Int32) (x3_45 : Int32) (h_45 : ss_Hp) : Option ((Int32 × Int32 × ss_Hp) ⊕ (Int32 × ss_Hp)) :=
  ss_b2 (mm_M_passes N this h_45) fun v5 h6 =>
  (some (x3_45 + (1 : Int32))).bind fun v7 =>
  some (.inl (x2_45, v7, h6))
def mm_M_closes1_b19 (N : Nat) (this : Option Nat) (a1 : Int32) (st : Int32 × Int32 × ss_Hp) : Option ((Int32 × Int32 × ss_Hp) ⊕ (Int32 × ss_Hp)) :=
  match st with
  | (x2_19, x3_19, h_19) =>
    if (100 : Int32) ≤ x3_19 then
      some (.inr (x2_19, h_19))
    else
      if 0 ≤ x2_19 then
        some (.inr (x2_19, h_19))
      else
        (mm_M_isClosed N this a1 h_19).bind fun v10 =>
        if v10 = 0 then
          mm_M_closes1_j45 N this a1 x2_19 x3_19 h_19
        else
          (ss_gr h_19 this 12 9).bind fun r12 =>
          (ss_ai h_19 r12 20 (10 : Int32)).bind fun v13 =>
          mm_M_closes1_j45 N this a1 v13 x3_19 h_19
def mm_M_closes1 (N : Nat) (this : Option Nat) (a1 : Int32) (h : ss_Hp) : Option (Int32 × ss_Hp) :=
  if ss_is h this 12 = true then
    (mm_M_isStep N this a1 h).bind fun v1 =>
    if v1 = 0 then
      some ((-1 : Int32), h)
    else
      (mm_M_keeps N this h).bind fun h3 =>
      (ss_lp (mm_M_closes1_b19 N this a1) N ((-2 : Int32), (0 : Int32), h3)).bind fun e_19 =>
      match e_19 with
      | (y2_19_56, h_19_56) =>
        (mm_M_laysBack N this h_19_56).bind fun h4 =>
        some (y2_19_56, h4)
  else none
abbrev ww_M_closes1 (p : Program) (l : Launch) (e : Env) (s : State) (m : MethodId) (below : List Frame) (meth : Method) (c : Code) (G : ss_G) (this : Option Nat) (a1 : Int32) (h : ss_Hp) (rr : Int32) (hh : ss_Hp) (H : Heap) (locs : List Loc) (k n : Nat) (g : JFrame) : Prop := W p l e (headSpec (ss_w yy_M_closes1 bb_M_closes1 4 (some (.int))) ({ frames := 5, cells := 0, slots := 0, locals := 126 })).room s m ([ss_v (ss_b G) this, .int a1] : List Value).toArray below meth c H locs k n (MQ below (ss_Qc G (some (.int rr)) hh) ([ss_v (ss_b G) this, .int a1] : List Value).toArray s 0 0 (ss_A G)) g
theorem ck_M_closes1 {N : Nat} {this : Option Nat} {a1 : Int32} {h : ss_Hp} {res : Int32 × ss_Hp} (hm : mm_M_closes1 N this a1 h = some res) : ss_is h this 12 = true := (ss_chk hm).1
set_option maxHeartbeats 4000000 in
set_option maxRecDepth 100000 in
theorem cc_M_closes1 (l : Launch) (G : ss_G) (N : Nat) (this : Option Nat) (a1 : Int32) (h : ss_Hp) (rr : Int32) (hh : ss_Hp) (hm : mm_M_closes1 N this a1 h = some (rr, hh)) : ss_Ct l G yy_M_closes1 bb_M_closes1 4 (some (.int)) ({ frames := 5, cells := 0, slots := 0, locals := 126 }) [ss_v (ss_b G) this, .int a1] h (some (.int rr)) hh := by
  obtain ⟨hck, hm⟩ := ss_chk hm
  refine Met.ofW (cc := bb_M_closes1) (maxL := 4) (ret := (some (.int))) (by decide) rfl ?_
  intro p e s m args below meth c s₁ B hml hv
  obtain ⟨rfl, hR, hK⟩ := hv
  have hC : CallFix p m c bb_M_closes1 4 s _ lw_g sR_12 := ⟨B.exec, B.bytes, hml, findClass_of_methodNamed B.named, fun w hw => atoms_spec (ws := ss_w yy_M_closes1 bb_M_closes1 4 (some (.int))) B.pre w (List.mem_cons_of_mem _ hw)⟩
  have hx := hC.1
  have hb := hC.2.1
  have hr := B.returns
  have hlocks := B.notSynchronized
  have hS : va_S (ss_A G) s.heap s.heap [] := va_S.rf
  have hl := lv_entry ([ss_v (ss_b G) this, .int a1]) (n := 4) (by simp [lg_sl, ss_v_cat, ss_cat_i, ss_cat_l, ss_cat_r])
  rw [lg_entry_eq]
  generalize (lg_sl ([ss_v (ss_b G) this, .int a1]) ++ List.replicate (4 - (lg_sl ([ss_v (ss_b G) this, .int a1])).length) Slot.unset).toArray = ls at hl ⊢
  have hl : lv_has ls 4 [(0, ss_v (ss_b G) this), (1, .int a1)] := by simpa [lv_args, ss_v_cat, ss_cat_i, ss_cat_l, ss_cat_r] using hl
  refine ss_aload_n hx hb dd_M_closes1_0 rfl (lv_at hl 0 rfl) ?_
  refine lv_iload_n hx hb dd_M_closes1_1 rfl (lv_at hl 1 rfl) ?_
  obtain ⟨v1, qv1, hm⟩ := ss_bind hm
  refine ss_cV 0 0 (As := [.int a1]) hC hK hR hS hl.1 (cc_M_isStep l G N _ _ _ _ qv1) km_M_313 (ck_M_isStep qv1) ⟨Nat.le_of_ble_eq_true rfl, Nat.le_of_ble_eq_true rfl⟩ ⟨Nat.le_of_ble_eq_true rfl, Nat.le_of_ble_eq_true rfl, Nat.le_of_ble_eq_true rfl, Nat.le_of_ble_eq_true rfl⟩ rfl rfl (Nat.le_of_ble_eq_true rfl) dd_M_closes1_2 (fun H locs hR hS => ?_)
  refine lv_if_ne (tgt := 10) hx hb dd_M_closes1_5 (by decide) (fun c2 => ?_) (fun c2 => ?_)
  · have hm := ss_iff hm c2
    refine lv_bipush (v := -2) hx hb dd_M_closes1_10 (by decide) ?_
    refine lv_istore_n (lv' := [(2, .int (-2 : Int32)), (0, ss_v (ss_b G) this), (1, .int a1)]) hx hb dd_M_closes1_12 rfl hl (by decide) rfl (fun ls hl => ?_)
    refine ss_aload_n hx hb dd_M_closes1_13 rfl (lv_at hl 1 rfl) ?_
    obtain ⟨h3, qh3, hm⟩ := ss_bind hm
    refine ss_cVv 0 0 (As := []) hC hK hR hS hl.1 (cc_M_keeps l G N _ _ _ qh3) km_M_385 (ck_M_keeps qh3) ⟨Nat.le_of_ble_eq_true rfl, Nat.le_of_ble_eq_true rfl⟩ ⟨Nat.le_of_ble_eq_true rfl, Nat.le_of_ble_eq_true rfl, Nat.le_of_ble_eq_true rfl, Nat.le_of_ble_eq_true rfl⟩ rfl rfl (Nat.le_of_ble_eq_true rfl) dd_M_closes1_14 (fun H locs hR hS => ?_)
    refine lv_iconst (v := 0) hx hb dd_M_closes1_17 (by decide) ?_
    refine lv_istore_n (lv' := [(3, .int (0 : Int32)), (2, .int (-2 : Int32)), (0, ss_v (ss_b G) this), (1, .int a1)]) hx hb dd_M_closes1_18 rfl hl (by decide) rfl (fun ls hl => ?_)
    obtain ⟨e_19, he_19, hm⟩ := ss_bind hm
    have X_19_56 : ∀ (y2_19_56 : Int32) (h_19_56 : ss_Hp) (H : Heap) (locs : List Loc) (ls : Array Slot), e_19 = (y2_19_56, h_19_56) → ss_R G h_19_56 H → va_S (ss_A G) s.heap H locs → lv_has ls 4 [(0, ss_v (ss_b G) this), (2, .int y2_19_56)] → ww_M_closes1 p l e s m below meth c G this a1 h rr hh  H locs 0 0 (F0 m 56 ls []) := by
      intro y2_19_56 h_19_56 H locs ls hq hR hS hl
      rw [hq] at hm
      refine ss_aload_n hx hb dd_M_closes1_56 rfl (lv_at hl 0 rfl) ?_
      obtain ⟨h4, qh4, hm⟩ := ss_bind hm
      refine ss_cVv 0 0 (As := []) hC hK hR hS hl.1 (cc_M_laysBack l G N _ _ _ qh4) km_M_388 (ck_M_laysBack qh4) ⟨Nat.le_of_ble_eq_true rfl, Nat.le_of_ble_eq_true rfl⟩ ⟨Nat.le_of_ble_eq_true rfl, Nat.le_of_ble_eq_true rfl, Nat.le_of_ble_eq_true rfl, Nat.le_of_ble_eq_true rfl⟩ rfl rfl (Nat.le_of_ble_eq_true rfl) dd_M_closes1_57 (fun H locs hR hS => ?_)
      refine lv_iload_n hx hb dd_M_closes1_60 rfl (lv_at hl 1 rfl) ?_
      exact ss_iret hC hr hlocks hR hS hm dd_M_closes1_61
    have L_19 : ∀ (n : Nat) (x2_19 : Int32) (x3_19 : Int32) (h_19 : ss_Hp) (H : Heap) (locs : List Loc) (ls : Array Slot), ss_lp (mm_M_closes1_b19 N this a1) n (x2_19, x3_19, h_19) = some e_19 → ss_R G h_19 H → va_S (ss_A G) s.heap H locs → lv_has ls 4 [(0, ss_v (ss_b G) this), (1, .int a1), (2, .int x2_19), (3, .int x3_19)] → ww_M_closes1 p l e s m below meth c G this a1 h rr hh  H locs 0 0 (F0 m 19 ls []) := by
      intro n
      induction n with
      | zero => intro x2_19 x3_19 h_19 H locs ls hm; cases hm
      | succ n ih_19 =>
        intro x2_19 x3_19 h_19 H locs ls hm hR hS hl
        obtain ⟨z_19, hm, hz1_19, hz2_19⟩ := ss_lps hm
        have J_45 : ∀ (x2_45 : Int32) (x3_45 : Int32) (h_45 : ss_Hp) (H : Heap) (locs : List Loc) (ls : Array Slot), mm_M_closes1_j45 N this a1 x2_45 x3_45 h_45 = some z_19 → ss_R G h_45 H → va_S (ss_A G) s.heap H locs → lv_has ls 4 [(0, ss_v (ss_b G) this), (1, .int a1), (2, .int x2_45), (3, .int x3_45)] → ww_M_closes1 p l e s m below meth c G this a1 h rr hh  H locs 0 0 (F0 m 45 ls []) := by
          intro x2_45 x3_45 h_45 H locs ls hm hR hS hl
          refine ss_aload_n hx hb dd_M_closes1_45 rfl (lv_at hl 0 rfl) ?_
          obtain ⟨v5, h6, qh6, hm⟩ := ss_bind2 hm
          refine ss_cV 0 0 (As := []) hC hK hR hS hl.1 (cc_M_passes l G N _ _ _ _ qh6) km_M_372 (ck_M_passes qh6) ⟨Nat.le_of_ble_eq_true rfl, Nat.le_of_ble_eq_true rfl⟩ ⟨Nat.le_of_ble_eq_true rfl, Nat.le_of_ble_eq_true rfl, Nat.le_of_ble_eq_true rfl, Nat.le_of_ble_eq_true rfl⟩ rfl rfl (Nat.le_of_ble_eq_true rfl) dd_M_closes1_46 (fun H locs hR hS => ?_)
          refine lv_pop hx hb dd_M_closes1_49 rfl ?_
          obtain ⟨v7, qv7, hm⟩ := ss_bind hm
          refine lv_iinc (v := v7) (lv' := [(3, .int v7), (0, ss_v (ss_b G) this), (1, .int a1), (2, .int x2_45)]) hx hb dd_M_closes1_50 hl (k := 3) rfl (ss_inc (by decide) qv7) (by decide) rfl (fun ls hl => ?_)
          refine lv_goto (tgt := 19) hx hb dd_M_closes1_53 (by decide) ?_
          exact ih_19 x2_45 v7 h6 _ _ _ (hz1_19 _ (ss_some hm)) hR hS (lv_sub hl [1, 2, 3, 0] rfl)
        refine lv_iload_n hx hb dd_M_closes1_19 rfl (lv_at hl 3 rfl) ?_
        refine lv_bipush (v := 100) hx hb dd_M_closes1_20 (by decide) ?_
        refine lv_icmp_ge (tgt := 56) hx hb dd_M_closes1_22 (by decide) (fun c8 => ?_) (fun c8 => ?_)
        · have hm := ss_ift hm c8
          exact X_19_56 x2_19 h_19 _ _ _ (hz2_19 _ (ss_some hm)) hR hS (lv_sub hl [0, 2] rfl)
        · have hm := ss_iff hm c8
          refine lv_iload_n hx hb dd_M_closes1_25 rfl (lv_at hl 2 rfl) ?_
          refine lv_if_ge (tgt := 56) hx hb dd_M_closes1_26 (by decide) (fun c9 => ?_) (fun c9 => ?_)
          · have hm := ss_ift hm c9
            exact X_19_56 x2_19 h_19 _ _ _ (hz2_19 _ (ss_some hm)) hR hS (lv_sub hl [0, 2] rfl)
          · have hm := ss_iff hm c9
            refine ss_aload_n hx hb dd_M_closes1_29 rfl (lv_at hl 0 rfl) ?_
            refine lv_iload_n hx hb dd_M_closes1_30 rfl (lv_at hl 1 rfl) ?_
            obtain ⟨v10, qv10, hm⟩ := ss_bind hm
            refine ss_cV 0 0 (As := [.int a1]) hC hK hR hS hl.1 (cc_M_isClosed l G N _ _ _ _ qv10) km_M_307 (ck_M_isClosed qv10) ⟨Nat.le_of_ble_eq_true rfl, Nat.le_of_ble_eq_true rfl⟩ ⟨Nat.le_of_ble_eq_true rfl, Nat.le_of_ble_eq_true rfl, Nat.le_of_ble_eq_true rfl, Nat.le_of_ble_eq_true rfl⟩ rfl rfl (Nat.le_of_ble_eq_true rfl) dd_M_closes1_31 (fun H locs hR hS => ?_)
            refine lv_if_eq (tgt := 45) hx hb dd_M_closes1_34 (by decide) (fun c11 => ?_) (fun c11 => ?_)
            · have hm := ss_ift hm c11
              exact J_45 x2_19 x3_19 h_19 _ _ _ hm hR hS hl
            · have hm := ss_iff hm c11
              refine ss_aload_n hx hb dd_M_closes1_37 rfl (lv_at hl 0 rfl) ?_
              obtain ⟨r12, qr12, hm⟩ := ss_bind hm
              refine ss_getr hC hK hR kf_M_39 rfl qr12 dd_M_closes1_38 ?_
              refine lv_bipush (v := 10) hx hb dd_M_closes1_41 (by decide) ?_
              obtain ⟨v13, qv13, hm⟩ := ss_bind hm
              refine ss_iald hC hK hR qv13 dd_M_closes1_43 ?_
              refine lv_istore_n (lv' := [(2, .int v13), (0, ss_v (ss_b G) this), (1, .int a1), (3, .int x3_19)]) hx hb dd_M_closes1_44 rfl hl (by decide) rfl (fun ls hl => ?_)
              exact J_45 v13 x3_19 h_19 _ _ _ hm hR hS (lv_sub hl [1, 2, 0, 3] rfl)
    exact L_19 N (-2 : Int32) (0 : Int32) h3 _ _ _ he_19 hR hS (lv_sub hl [2, 3, 1, 0] rfl)
  · have hm := ss_ift hm c2
    refine lv_iconst (v := -1) hx hb dd_M_closes1_8 (by decide) ?_
    exact ss_iret hC hr hlocks hR hS hm dd_M_closes1_9
theorem dd_M_areAlike_0 : decode bb_M_areAlike 0 = .ok (.iconst 0, 1) := by decide +kernel
theorem dd_M_areAlike_1 : decode bb_M_areAlike 1 = .ok (.istore_n 3, 1) := by decide +kernel
theorem dd_M_areAlike_2 : decode bb_M_areAlike 2 = .ok (.iload_n 3, 1) := by decide +kernel
theorem dd_M_areAlike_3 : decode bb_M_areAlike 3 = .ok (.aload_n 0, 1) := by decide +kernel
theorem dd_M_areAlike_4 : decode bb_M_areAlike 4 = .ok (.getfield 39, 3) := by decide +kernel
theorem dd_M_areAlike_7 : decode bb_M_areAlike 7 = .ok (.iconst 2, 1) := by decide +kernel
theorem dd_M_areAlike_8 : decode bb_M_areAlike 8 = .ok (.iaload, 1) := by decide +kernel
theorem dd_M_areAlike_9 : decode bb_M_areAlike 9 = .ok (.if_icmp .ge 36, 3) := by decide +kernel
theorem dd_M_areAlike_12 : decode bb_M_areAlike 12 = .ok (.aload_n 0, 1) := by decide +kernel
theorem dd_M_areAlike_13 : decode bb_M_areAlike 13 = .ok (.getfield 58, 3) := by decide +kernel
theorem dd_M_areAlike_16 : decode bb_M_areAlike 16 = .ok (.bipush 8, 2) := by decide +kernel
theorem dd_M_areAlike_18 : decode bb_M_areAlike 18 = .ok (.iload_n 1, 1) := by decide +kernel
theorem dd_M_areAlike_19 : decode bb_M_areAlike 19 = .ok (.imul, 1) := by decide +kernel
theorem dd_M_areAlike_20 : decode bb_M_areAlike 20 = .ok (.iload_n 3, 1) := by decide +kernel
theorem dd_M_areAlike_21 : decode bb_M_areAlike 21 = .ok (.iadd, 1) := by decide +kernel
theorem dd_M_areAlike_22 : decode bb_M_areAlike 22 = .ok (.iaload, 1) := by decide +kernel
theorem dd_M_areAlike_23 : decode bb_M_areAlike 23 = .ok (.aload_n 0, 1) := by decide +kernel
theorem dd_M_areAlike_24 : decode bb_M_areAlike 24 = .ok (.getfield 58, 3) := by decide +kernel
theorem dd_M_areAlike_27 : decode bb_M_areAlike 27 = .ok (.bipush 8, 2) := by decide +kernel
theorem dd_M_areAlike_29 : decode bb_M_areAlike 29 = .ok (.iload_n 2, 1) := by decide +kernel
theorem dd_M_areAlike_30 : decode bb_M_areAlike 30 = .ok (.imul, 1) := by decide +kernel
theorem dd_M_areAlike_31 : decode bb_M_areAlike 31 = .ok (.iload_n 3, 1) := by decide +kernel
theorem dd_M_areAlike_32 : decode bb_M_areAlike 32 = .ok (.iadd, 1) := by decide +kernel
theorem dd_M_areAlike_33 : decode bb_M_areAlike 33 = .ok (.iaload, 1) := by decide +kernel
theorem dd_M_areAlike_34 : decode bb_M_areAlike 34 = .ok (.if_icmp .eq 5, 3) := by decide +kernel
theorem dd_M_areAlike_37 : decode bb_M_areAlike 37 = .ok (.iconst 0, 1) := by decide +kernel
theorem dd_M_areAlike_38 : decode bb_M_areAlike 38 = .ok (.ireturn, 1) := by decide +kernel
theorem dd_M_areAlike_39 : decode bb_M_areAlike 39 = .ok (.iinc 3 1, 3) := by decide +kernel
theorem dd_M_areAlike_42 : decode bb_M_areAlike 42 = .ok (.goto (-40), 3) := by decide +kernel
theorem dd_M_areAlike_45 : decode bb_M_areAlike 45 = .ok (.iconst 1, 1) := by decide +kernel
theorem dd_M_areAlike_46 : decode bb_M_areAlike 46 = .ok (.ireturn, 1) := by decide +kernel
def mm_M_areAlike_b2 (N : Nat) (this : Option Nat) (a1 : Int32) (a2 : Int32) (h : ss_Hp) (st : Int32) : Option (Int32 ⊕ (Unit ⊕ Unit)) :=
  match st with
  | x3_2 =>
    (ss_gr h this 12 9).bind fun r1 =>
    (ss_ai h r1 20 (2 : Int32)).bind fun v2 =>
    if v2 ≤ x3_2 then
      some (.inr (.inl ()))
    else
      (ss_gr h this 12 14).bind fun r4 =>
      (ss_ai h r4 20 (((8 : Int32) * a1) + x3_2)).bind fun v5 =>
      (ss_gr h this 12 14).bind fun r6 =>
      (ss_ai h r6 20 (((8 : Int32) * a2) + x3_2)).bind fun v7 =>
      if v5 = v7 then
        (some (x3_2 + (1 : Int32))).bind fun v9 =>
        some (.inl v9)
      else
        some (.inr (.inr ()))
def mm_M_areAlike (N : Nat) (this : Option Nat) (a1 : Int32) (a2 : Int32) (h : ss_Hp) : Option Int32 :=
  if ss_is h this 12 = true then
    (ss_lp (mm_M_areAlike_b2 N this a1 a2 h) N (0 : Int32)).bind fun e_2 =>
    match e_2 with
    | (.inl ()) =>
      some (1 : Int32)
    | (.inr ()) =>
      some (0 : Int32)
  else none
abbrev ww_M_areAlike (p : Program) (l : Launch) (e : Env) (s : State) (m : MethodId) (below : List Frame) (meth : Method) (c : Code) (G : ss_G) (this : Option Nat) (a1 : Int32) (a2 : Int32) (h : ss_Hp) (rr : Int32) (H : Heap) (locs : List Loc) (k n : Nat) (g : JFrame) : Prop := W p l e (headSpec (ss_w yy_M_areAlike bb_M_areAlike 4 (some .boolean)) ({ frames := 0, cells := 0, slots := 0, locals := 0 })).room s m ([ss_v (ss_b G) this, .int a1, .int a2] : List Value).toArray below meth c H locs k n (MQ below (ss_Qc G (some (.int rr)) h) ([ss_v (ss_b G) this, .int a1, .int a2] : List Value).toArray s 0 0 (ss_A G)) g
theorem ck_M_areAlike {N : Nat} {this : Option Nat} {a1 : Int32} {a2 : Int32} {h : ss_Hp} {res : Int32} (hm : mm_M_areAlike N this a1 a2 h = some res) : ss_is h this 12 = true := (ss_chk hm).1
set_option maxHeartbeats 4000000 in
set_option maxRecDepth 100000 in
theorem cc_M_areAlike (l : Launch) (G : ss_G) (N : Nat) (this : Option Nat) (a1 : Int32) (a2 : Int32) (h : ss_Hp) (rr : Int32) (hm : mm_M_areAlike N this a1 a2 h = some rr) : ss_Ct l G yy_M_areAlike bb_M_areAlike 4 (some .boolean) ({ frames := 0, cells := 0, slots := 0, locals := 0 }) [ss_v (ss_b G) this, .int a1, .int a2] h (some (.int rr)) h := by
  obtain ⟨hck, hm⟩ := ss_chk hm
  refine Met.ofW (cc := bb_M_areAlike) (maxL := 4) (ret := (some .boolean)) (by decide) rfl ?_
  intro p e s m args below meth c s₁ B hml hv
  obtain ⟨rfl, hR, hK⟩ := hv
  have hC : CallFix p m c bb_M_areAlike 4 s _ lw_g sR_12 := ⟨B.exec, B.bytes, hml, findClass_of_methodNamed B.named, fun w hw => atoms_spec (ws := ss_w yy_M_areAlike bb_M_areAlike 4 (some .boolean)) B.pre w (List.mem_cons_of_mem _ hw)⟩
  have hx := hC.1
  have hb := hC.2.1
  have hr := B.returns
  have hlocks := B.notSynchronized
  have hS : va_S (ss_A G) s.heap s.heap [] := va_S.rf
  have hl := lv_entry ([ss_v (ss_b G) this, .int a1, .int a2]) (n := 4) (by simp [lg_sl, ss_v_cat, ss_cat_i, ss_cat_l, ss_cat_r])
  rw [lg_entry_eq]
  generalize (lg_sl ([ss_v (ss_b G) this, .int a1, .int a2]) ++ List.replicate (4 - (lg_sl ([ss_v (ss_b G) this, .int a1, .int a2])).length) Slot.unset).toArray = ls at hl ⊢
  have hl : lv_has ls 4 [(0, ss_v (ss_b G) this), (1, .int a1), (2, .int a2)] := by simpa [lv_args, ss_v_cat, ss_cat_i, ss_cat_l, ss_cat_r] using hl
  refine lv_iconst (v := 0) hx hb dd_M_areAlike_0 (by decide) ?_
  refine lv_istore_n (lv' := [(3, .int (0 : Int32)), (0, ss_v (ss_b G) this), (1, .int a1), (2, .int a2)]) hx hb dd_M_areAlike_1 rfl hl (by decide) rfl (fun ls hl => ?_)
  obtain ⟨e_2, he_2, hm⟩ := ss_bind hm
  have X_2_45 : ∀  (H : Heap) (locs : List Loc) (ls : Array Slot), e_2 = (.inl ()) → ss_R G h H → va_S (ss_A G) s.heap H locs → lv_has ls 4 [] → ww_M_areAlike p l e s m below meth c G this a1 a2 h rr  H locs 0 0 (F0 m 45 ls []) := by
    intro  H locs ls hq hR hS hl
    rw [hq] at hm
    refine lv_iconst (v := 1) hx hb dd_M_areAlike_45 (by decide) ?_
    exact ss_zret hC hr (by decide) hlocks hR hS (ss_with _ hm) dd_M_areAlike_46
  have X_2_37 : ∀  (H : Heap) (locs : List Loc) (ls : Array Slot), e_2 = (.inr ()) → ss_R G h H → va_S (ss_A G) s.heap H locs → lv_has ls 4 [] → ww_M_areAlike p l e s m below meth c G this a1 a2 h rr  H locs 0 0 (F0 m 37 ls []) := by
    intro  H locs ls hq hR hS hl
    rw [hq] at hm
    refine lv_iconst (v := 0) hx hb dd_M_areAlike_37 (by decide) ?_
    exact ss_zret hC hr (by decide) hlocks hR hS (ss_with _ hm) dd_M_areAlike_38
  have L_2 : ∀ (n : Nat) (x3_2 : Int32) (H : Heap) (locs : List Loc) (ls : Array Slot), ss_lp (mm_M_areAlike_b2 N this a1 a2 h) n x3_2 = some e_2 → ss_R G h H → va_S (ss_A G) s.heap H locs → lv_has ls 4 [(0, ss_v (ss_b G) this), (1, .int a1), (2, .int a2), (3, .int x3_2)] → ww_M_areAlike p l e s m below meth c G this a1 a2 h rr  H locs 0 0 (F0 m 2 ls []) := by
    intro n
    induction n with
    | zero => intro x3_2 H locs ls hm; cases hm
    | succ n ih_2 =>
      intro x3_2 H locs ls hm hR hS hl
      obtain ⟨z_2, hm, hz1_2, hz2_2⟩ := ss_lps hm
      refine lv_iload_n hx hb dd_M_areAlike_2 rfl (lv_at hl 3 rfl) ?_
      refine ss_aload_n hx hb dd_M_areAlike_3 rfl (lv_at hl 0 rfl) ?_
      obtain ⟨r1, qr1, hm⟩ := ss_bind hm
      refine ss_getr hC hK hR kf_M_39 rfl qr1 dd_M_areAlike_4 ?_
      refine lv_iconst (v := 2) hx hb dd_M_areAlike_7 (by decide) ?_
      obtain ⟨v2, qv2, hm⟩ := ss_bind hm
      refine ss_iald hC hK hR qv2 dd_M_areAlike_8 ?_
      refine lv_icmp_ge (tgt := 45) hx hb dd_M_areAlike_9 (by decide) (fun c3 => ?_) (fun c3 => ?_)
      · have hm := ss_ift hm c3
        exact X_2_45  _ _ _ (hz2_2 _ (ss_some hm)) hR hS (lv_sub hl [] rfl)
      · have hm := ss_iff hm c3
        refine ss_aload_n hx hb dd_M_areAlike_12 rfl (lv_at hl 0 rfl) ?_
        obtain ⟨r4, qr4, hm⟩ := ss_bind hm
        refine ss_getr hC hK hR kf_M_58 rfl qr4 dd_M_areAlike_13 ?_
        refine lv_bipush (v := 8) hx hb dd_M_areAlike_16 (by decide) ?_
        refine lv_iload_n hx hb dd_M_areAlike_18 rfl (lv_at hl 1 rfl) ?_
        refine lv_imul hx hb dd_M_areAlike_19 ?_
        refine lv_iload_n hx hb dd_M_areAlike_20 rfl (lv_at hl 3 rfl) ?_
        refine lv_iadd hx hb dd_M_areAlike_21 ?_
        obtain ⟨v5, qv5, hm⟩ := ss_bind hm
        refine ss_iald hC hK hR qv5 dd_M_areAlike_22 ?_
        refine ss_aload_n hx hb dd_M_areAlike_23 rfl (lv_at hl 0 rfl) ?_
        obtain ⟨r6, qr6, hm⟩ := ss_bind hm
        refine ss_getr hC hK hR kf_M_58 rfl qr6 dd_M_areAlike_24 ?_
        refine lv_bipush (v := 8) hx hb dd_M_areAlike_27 (by decide) ?_
        refine lv_iload_n hx hb dd_M_areAlike_29 rfl (lv_at hl 2 rfl) ?_
        refine lv_imul hx hb dd_M_areAlike_30 ?_
        refine lv_iload_n hx hb dd_M_areAlike_31 rfl (lv_at hl 3 rfl) ?_
        refine lv_iadd hx hb dd_M_areAlike_32 ?_
        obtain ⟨v7, qv7, hm⟩ := ss_bind hm
        refine ss_iald hC hK hR qv7 dd_M_areAlike_33 ?_
        refine lv_icmp_eq (tgt := 39) hx hb dd_M_areAlike_34 (by decide) (fun c8 => ?_) (fun c8 => ?_)
        · have hm := ss_ift hm c8
          obtain ⟨v9, qv9, hm⟩ := ss_bind hm
          refine lv_iinc (v := v9) (lv' := [(3, .int v9), (0, ss_v (ss_b G) this), (1, .int a1), (2, .int a2)]) hx hb dd_M_areAlike_39 hl (k := 3) rfl (ss_inc (by decide) qv9) (by decide) rfl (fun ls hl => ?_)
          refine lv_goto (tgt := 2) hx hb dd_M_areAlike_42 (by decide) ?_
          exact ih_2 v9  _ _ _ (hz1_2 _ (ss_some hm)) hR hS (lv_sub hl [1, 2, 3, 0] rfl)
        · have hm := ss_iff hm c8
          exact X_2_37  _ _ _ (hz2_2 _ (ss_some hm)) hR hS (lv_sub hl [] rfl)
  exact L_2 N (0 : Int32) _ _ _ he_2 hR hS (lv_sub hl [1, 2, 3, 0] rfl)
