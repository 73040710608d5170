theorem dd_P_sumOf_0 : decode bb_P_sumOf 0 = .ok (.iconst 0, 1) := by decide +kernel
theorem dd_P_sumOf_1 : decode bb_P_sumOf 1 = .ok (.istore_n 2, 1) := by decide +kernel
theorem dd_P_sumOf_2 : decode bb_P_sumOf 2 = .ok (.iconst 0, 1) := by decide +kernel
theorem dd_P_sumOf_3 : decode bb_P_sumOf 3 = .ok (.istore_n 3, 1) := by decide +kernel
theorem dd_P_sumOf_4 : decode bb_P_sumOf 4 = .ok (.iload_n 3, 1) := by decide +kernel
theorem dd_P_sumOf_5 : decode bb_P_sumOf 5 = .ok (.aload_n 0, 1) := by decide +kernel
theorem dd_P_sumOf_6 : decode bb_P_sumOf 6 = .ok (.getfield 21, 3) := by decide +kernel
theorem dd_P_sumOf_9 : decode bb_P_sumOf 9 = .ok (.getfield 50, 3) := by decide +kernel
theorem dd_P_sumOf_12 : decode bb_P_sumOf 12 = .ok (.getfield 109, 3) := by decide +kernel
theorem dd_P_sumOf_15 : decode bb_P_sumOf 15 = .ok (.if_icmp .ge 22, 3) := by decide +kernel
theorem dd_P_sumOf_18 : decode bb_P_sumOf 18 = .ok (.iload_n 2, 1) := by decide +kernel
theorem dd_P_sumOf_19 : decode bb_P_sumOf 19 = .ok (.aload_n 0, 1) := by decide +kernel
theorem dd_P_sumOf_20 : decode bb_P_sumOf 20 = .ok (.getfield 18, 3) := by decide +kernel
theorem dd_P_sumOf_23 : decode bb_P_sumOf 23 = .ok (.iload_n 1, 1) := by decide +kernel
theorem dd_P_sumOf_24 : decode bb_P_sumOf 24 = .ok (.iconst 4, 1) := by decide +kernel
theorem dd_P_sumOf_25 : decode bb_P_sumOf 25 = .ok (.imul, 1) := by decide +kernel
theorem dd_P_sumOf_26 : decode bb_P_sumOf 26 = .ok (.iload_n 3, 1) := by decide +kernel
theorem dd_P_sumOf_27 : decode bb_P_sumOf 27 = .ok (.iadd, 1) := by decide +kernel
theorem dd_P_sumOf_28 : decode bb_P_sumOf 28 = .ok (.iaload, 1) := by decide +kernel
theorem dd_P_sumOf_29 : decode bb_P_sumOf 29 = .ok (.iadd, 1) := by decide +kernel
theorem dd_P_sumOf_30 : decode bb_P_sumOf 30 = .ok (.istore_n 2, 1) := by decide +kernel
theorem dd_P_sumOf_31 : decode bb_P_sumOf 31 = .ok (.iinc 3 1, 3) := by decide +kernel
theorem dd_P_sumOf_34 : decode bb_P_sumOf 34 = .ok (.goto (-30), 3) := by decide +kernel
theorem dd_P_sumOf_37 : decode bb_P_sumOf 37 = .ok (.iload_n 2, 1) := by decide +kernel
theorem dd_P_sumOf_38 : decode bb_P_sumOf 38 = .ok (.ireturn, 1) := by decide +kernel
def mm_P_sumOf_b4 (N : Nat) (this : Option Nat) (a1 : Int32) (h : ss_Hp) (st : Int32 × Int32) : Option ((Int32 × Int32) ⊕ Int32) :=
  match st with
  | (x2_4, x3_4) =>
    (ss_gr h this 10 0).bind fun r1 =>
    (ss_gr h r1 8 0).bind fun r2 =>
    (ss_gi h r2 5 4).bind fun v3 =>
    if v3 ≤ x3_4 then
      some (.inr x2_4)
    else
      (ss_gr h this 10 4).bind fun r5 =>
      (ss_ai h r5 20 ((a1 * (4 : Int32)) + x3_4)).bind fun v6 =>
      (some (x2_4 + v6)).bind fun v7 =>
      (some (x3_4 + (1 : Int32))).bind fun v8 =>
      some (.inl (v7, v8))
def mm_P_sumOf (N : Nat) (this : Option Nat) (a1 : Int32) (h : ss_Hp) : Option Int32 :=
  if ss_is h this 10 = true then
    (ss_lp (mm_P_sumOf_b4 N this a1 h) N ((0 : Int32), (0 : Int32))).bind fun y2_4_37 =>
    some y2_4_37
  else none
abbrev ww_P_sumOf (p : Program) (l : Launch) (e : Env) (s : State) (m : MethodId) (below : List Frame) (meth : Method) (c : Code) (G : ss_G) (this : Option Nat) (a1 : Int32) (h : ss_Hp) (rr : Int32) (H : Heap) (locs : List Loc) (k n : Nat) (g : JFrame) : Prop := W p l e (headSpec (ss_w yy_P_sumOf bb_P_sumOf 4 (some (.int))) ({ frames := 0, cells := 0, slots := 0, locals := 0 })).room s m ([ss_v (ss_b G) this, .int a1] : List Value).toArray below meth c H locs k n (MQ below (ss_Qc G (some (.int rr)) h) ([ss_v (ss_b G) this, .int a1] : List Value).toArray s 0 0 (ss_A G)) g
theorem ck_P_sumOf {N : Nat} {this : Option Nat} {a1 : Int32} {h : ss_Hp} {res : Int32} (hm : mm_P_sumOf N this a1 h = some res) : ss_is h this 10 = true := (ss_chk hm).1
set_option maxHeartbeats 4000000 in
set_option maxRecDepth 100000 in
theorem cc_P_sumOf (l : Launch) (G : ss_G) (N : Nat) (this : Option Nat) (a1 : Int32) (h : ss_Hp) (rr : Int32) (hm : mm_P_sumOf N this a1 h = some rr) : ss_Ct l G yy_P_sumOf bb_P_sumOf 4 (some (.int)) ({ frames := 0, cells := 0, slots := 0, locals := 0 }) [ss_v (ss_b G) this, .int a1] h (some (.int rr)) h := by
  obtain ⟨hck, hm⟩ := ss_chk hm
  refine Met.ofW (cc := bb_P_sumOf) (maxL := 4) (ret := (some (.int))) (by decide) rfl ?_
  intro p e s m args below meth c s₁ B hml hv
  obtain ⟨rfl, hR, hK⟩ := hv
  have hC : CallFix p m c bb_P_sumOf 4 s _ lw_g sR_10 := ⟨B.exec, B.bytes, hml, findClass_of_methodNamed B.named, fun w hw => atoms_spec (ws := ss_w yy_P_sumOf bb_P_sumOf 4 (some (.int))) B.pre w (List.mem_cons_of_mem _ hw)⟩
  have hx := hC.1
  have hb := hC.2.1
  have hr := B.returns
  have hlocks := B.notSynchronized
  have hS : va_S (ss_A G) s.heap s.heap [] := va_S.rf
  have hl := lv_entry ([ss_v (ss_b G) this, .int a1]) (n := 4) (by simp [lg_sl, ss_v_cat, ss_cat_i, ss_cat_l, ss_cat_r])
  rw [lg_entry_eq]
  generalize (lg_sl ([ss_v (ss_b G) this, .int a1]) ++ List.replicate (4 - (lg_sl ([ss_v (ss_b G) this, .int a1])).length) Slot.unset).toArray = ls at hl ⊢
  have hl : lv_has ls 4 [(0, ss_v (ss_b G) this), (1, .int a1)] := by simpa [lv_args, ss_v_cat, ss_cat_i, ss_cat_l, ss_cat_r] using hl
  refine lv_iconst (v := 0) hx hb dd_P_sumOf_0 (by decide) ?_
  refine lv_istore_n (lv' := [(2, .int (0 : Int32)), (0, ss_v (ss_b G) this), (1, .int a1)]) hx hb dd_P_sumOf_1 rfl hl (by decide) rfl (fun ls hl => ?_)
  refine lv_iconst (v := 0) hx hb dd_P_sumOf_2 (by decide) ?_
  refine lv_istore_n (lv' := [(3, .int (0 : Int32)), (2, .int (0 : Int32)), (0, ss_v (ss_b G) this), (1, .int a1)]) hx hb dd_P_sumOf_3 rfl hl (by decide) rfl (fun ls hl => ?_)
  obtain ⟨e_4, he_4, hm⟩ := ss_bind hm
  have X_4_37 : ∀ (y2_4_37 : Int32) (H : Heap) (locs : List Loc) (ls : Array Slot), e_4 = y2_4_37 → ss_R G h H → va_S (ss_A G) s.heap H locs → lv_has ls 4 [(2, .int y2_4_37)] → ww_P_sumOf p l e s m below meth c G this a1 h rr  H locs 0 0 (F0 m 37 ls []) := by
    intro y2_4_37 H locs ls hq hR hS hl
    rw [hq] at hm
    refine lv_iload_n hx hb dd_P_sumOf_37 rfl (lv_at hl 0 rfl) ?_
    exact ss_iret hC hr hlocks hR hS (ss_with _ hm) dd_P_sumOf_38
  have L_4 : ∀ (n : Nat) (x2_4 : Int32) (x3_4 : Int32) (H : Heap) (locs : List Loc) (ls : Array Slot), ss_lp (mm_P_sumOf_b4 N this a1 h) n (x2_4, x3_4) = some e_4 → ss_R G h H → va_S (ss_A G) s.heap H locs → lv_has ls 4 [(0, ss_v (ss_b G) this), (1, .int a1), (2, .int x2_4), (3, .int x3_4)] → ww_P_sumOf p l e s m below meth c G this a1 h rr  H locs 0 0 (F0 m 4 ls []) := by
    intro n
    induction n with
    | zero => intro x2_4 x3_4 H locs ls hm; cases hm
    | succ n ih_4 =>
      intro x2_4 x3_4 H locs ls hm hR hS hl
      obtain ⟨z_4, hm, hz1_4, hz2_4⟩ := ss_lps hm
      refine lv_iload_n hx hb dd_P_sumOf_4 rfl (lv_at hl 3 rfl) ?_
      refine ss_aload_n hx hb dd_P_sumOf_5 rfl (lv_at hl 0 rfl) ?_
      obtain ⟨r1, qr1, hm⟩ := ss_bind hm
      refine ss_getr hC hK hR kf_P_21 rfl qr1 dd_P_sumOf_6 ?_
      obtain ⟨r2, qr2, hm⟩ := ss_bind hm
      refine ss_getr hC hK hR kf_P_50 rfl qr2 dd_P_sumOf_9 ?_
      obtain ⟨v3, qv3, hm⟩ := ss_bind hm
      refine ss_geti hC hK hR kf_P_109 qv3 dd_P_sumOf_12 ?_
      refine lv_icmp_ge (tgt := 37) hx hb dd_P_sumOf_15 (by decide) (fun c4 => ?_) (fun c4 => ?_)
      · have hm := ss_ift hm c4
        exact X_4_37 x2_4  _ _ _ (hz2_4 _ (ss_some hm)) hR hS (lv_sub hl [2] rfl)
      · have hm := ss_iff hm c4
        refine lv_iload_n hx hb dd_P_sumOf_18 rfl (lv_at hl 2 rfl) ?_
        refine ss_aload_n hx hb dd_P_sumOf_19 rfl (lv_at hl 0 rfl) ?_
        obtain ⟨r5, qr5, hm⟩ := ss_bind hm
        refine ss_getr hC hK hR kf_P_18 rfl qr5 dd_P_sumOf_20 ?_
        refine lv_iload_n hx hb dd_P_sumOf_23 rfl (lv_at hl 1 rfl) ?_
        refine lv_iconst (v := 4) hx hb dd_P_sumOf_24 (by decide) ?_
        refine lv_imul hx hb dd_P_sumOf_25 ?_
        refine lv_iload_n hx hb dd_P_sumOf_26 rfl (lv_at hl 3 rfl) ?_
        refine lv_iadd hx hb dd_P_sumOf_27 ?_
        obtain ⟨v6, qv6, hm⟩ := ss_bind hm
        refine ss_iald hC hK hR qv6 dd_P_sumOf_28 ?_
        refine lv_iadd hx hb dd_P_sumOf_29 ?_
        obtain ⟨v7, qv7, hm⟩ := ss_bind hm
        refine ss_topi qv7 ?_
        refine lv_istore_n (lv' := [(2, .int v7), (0, ss_v (ss_b G) this), (1, .int a1), (3, .int x3_4)]) hx hb dd_P_sumOf_30 rfl hl (by decide) rfl (fun ls hl => ?_)
        obtain ⟨v8, qv8, hm⟩ := ss_bind hm
        refine lv_iinc (v := v8) (lv' := [(3, .int v8), (2, .int v7), (0, ss_v (ss_b G) this), (1, .int a1)]) hx hb dd_P_sumOf_31 hl (k := 3) rfl (ss_inc (by decide) qv8) (by decide) rfl (fun ls hl => ?_)
        refine lv_goto (tgt := 4) hx hb dd_P_sumOf_34 (by decide) ?_
        exact ih_4 v7 v8  _ _ _ (hz1_4 _ (ss_some hm)) hR hS (lv_sub hl [2, 3, 1, 0] rfl)
  exact L_4 N (0 : Int32) (0 : Int32) _ _ _ he_4 hR hS (lv_sub hl [2, 3, 1, 0] rfl)
theorem dd_P_spread_0 : decode bb_P_spread 0 = .ok (.aload_n 0, 1) := by decide +kernel
theorem dd_P_spread_1 : decode bb_P_spread 1 = .ok (.iconst 0, 1) := by decide +kernel
theorem dd_P_spread_2 : decode bb_P_spread 2 = .ok (.invokevirtual 142, 3) := by decide +kernel
theorem dd_P_spread_5 : decode bb_P_spread 5 = .ok (.istore_n 1, 1) := by decide +kernel
theorem dd_P_spread_6 : decode bb_P_spread 6 = .ok (.iload_n 1, 1) := by decide +kernel
theorem dd_P_spread_7 : decode bb_P_spread 7 = .ok (.istore_n 2, 1) := by decide +kernel
theorem dd_P_spread_8 : decode bb_P_spread 8 = .ok (.iconst 1, 1) := by decide +kernel
theorem dd_P_spread_9 : decode bb_P_spread 9 = .ok (.istore_n 3, 1) := by decide +kernel
theorem dd_P_spread_10 : decode bb_P_spread 10 = .ok (.iload_n 3, 1) := by decide +kernel
theorem dd_P_spread_11 : decode bb_P_spread 11 = .ok (.aload_n 0, 1) := by decide +kernel
theorem dd_P_spread_12 : decode bb_P_spread 12 = .ok (.invokevirtual 112, 3) := by decide +kernel
theorem dd_P_spread_15 : decode bb_P_spread 15 = .ok (.if_icmp .ge 30, 3) := by decide +kernel
theorem dd_P_spread_18 : decode bb_P_spread 18 = .ok (.aload_n 0, 1) := by decide +kernel
theorem dd_P_spread_19 : decode bb_P_spread 19 = .ok (.iload_n 3, 1) := by decide +kernel
theorem dd_P_spread_20 : decode bb_P_spread 20 = .ok (.invokevirtual 142, 3) := by decide +kernel
theorem dd_P_spread_23 : decode bb_P_spread 23 = .ok (.istore 4, 2) := by decide +kernel
theorem dd_P_spread_25 : decode bb_P_spread 25 = .ok (.iload_n 1, 1) := by decide +kernel
theorem dd_P_spread_26 : decode bb_P_spread 26 = .ok (.iload 4, 2) := by decide +kernel
theorem dd_P_spread_28 : decode bb_P_spread 28 = .ok (.invokestatic 145, 3) := by decide +kernel
theorem dd_P_spread_31 : decode bb_P_spread 31 = .ok (.istore_n 1, 1) := by decide +kernel
theorem dd_P_spread_32 : decode bb_P_spread 32 = .ok (.iload_n 2, 1) := by decide +kernel
theorem dd_P_spread_33 : decode bb_P_spread 33 = .ok (.iload 4, 2) := by decide +kernel
theorem dd_P_spread_35 : decode bb_P_spread 35 = .ok (.invokestatic 100, 3) := by decide +kernel
theorem dd_P_spread_38 : decode bb_P_spread 38 = .ok (.istore_n 2, 1) := by decide +kernel
theorem dd_P_spread_39 : decode bb_P_spread 39 = .ok (.iinc 3 1, 3) := by decide +kernel
theorem dd_P_spread_42 : decode bb_P_spread 42 = .ok (.goto (-32), 3) := by decide +kernel
theorem dd_P_spread_45 : decode bb_P_spread 45 = .ok (.iload_n 1, 1) := by decide +kernel
theorem dd_P_spread_46 : decode bb_P_spread 46 = .ok (.iload_n 2, 1) := by decide +kernel
theorem dd_P_spread_47 : decode bb_P_spread 47 = .ok (.isub, 1) := by decide +kernel
theorem dd_P_spread_48 : decode bb_P_spread 48 = .ok (.ireturn, 1) := by decide +kernel
def mm_P_spread_b10 (N : Nat) (this : Option Nat) (h : ss_Hp) (st : Int32 × Int32 × Int32) : Option ((Int32 × Int32 × Int32) ⊕ (Int32 × Int32)) :=
  match st with
  | (x1_10, x2_10, x3_10) =>
    (mm_P_setCount N this h).bind fun v2 =>
    if v2 ≤ x3_10 then
      some (.inr (x1_10, x2_10))
    else
      (mm_P_sumOf N this x3_10 h).bind fun v4 =>
      (some (if x1_10 < v4 then v4 else x1_10)).bind fun v5 =>
      (some (if v4 < x2_10 then v4 else x2_10)).bind fun v6 =>
      (some (x3_10 + (1 : Int32))).bind fun v7 =>
      some (.inl (v5, v6, v7))
def mm_P_spread (N : Nat) (this : Option Nat) (h : ss_Hp) : Option Int32 :=
  if ss_is h this 10 = true then
    (mm_P_sumOf N this (0 : Int32) h).bind fun v1 =>
    (ss_lp (mm_P_spread_b10 N this h) N (v1, v1, (1 : Int32))).bind fun e_10 =>
    match e_10 with
    | (y1_10_45, y2_10_45) =>
      some (y1_10_45 - y2_10_45)
  else none
abbrev ww_P_spread (p : Program) (l : Launch) (e : Env) (s : State) (m : MethodId) (below : List Frame) (meth : Method) (c : Code) (G : ss_G) (this : Option Nat) (h : ss_Hp) (rr : Int32) (H : Heap) (locs : List Loc) (k n : Nat) (g : JFrame) : Prop := W p l e (headSpec (ss_w yy_P_spread bb_P_spread 5 (some (.int))) ({ frames := 1, cells := 0, slots := 0, locals := 80 })).room s m ([ss_v (ss_b G) this] : List Value).toArray below meth c H locs k n (MQ below (ss_Qc G (some (.int rr)) h) ([ss_v (ss_b G) this] : List Value).toArray s 0 0 (ss_A G)) g
theorem ck_P_spread {N : Nat} {this : Option Nat} {h : ss_Hp} {res : Int32} (hm : mm_P_spread N this h = some res) : ss_is h this 10 = true := (ss_chk hm).1
set_option maxHeartbeats 4000000 in
set_option maxRecDepth 100000 in
theorem cc_P_spread (l : Launch) (G : ss_G) (N : Nat) (this : Option Nat) (h : ss_Hp) (rr : Int32) (hm : mm_P_spread N this h = some rr) : ss_Ct l G yy_P_spread bb_P_spread 5 (some (.int)) ({ frames := 1, cells := 0, slots := 0, locals := 80 }) [ss_v (ss_b G) this] h (some (.int rr)) h := by
  obtain ⟨hck, hm⟩ := ss_chk hm
  refine Met.ofW (cc := bb_P_spread) (maxL := 5) (ret := (some (.int))) (by decide) rfl ?_
  intro p e s m args below meth c s₁ B hml hv
  obtain ⟨rfl, hR, hK⟩ := hv
  have hC : CallFix p m c bb_P_spread 5 s _ lw_g sR_10 := ⟨B.exec, B.bytes, hml, findClass_of_methodNamed B.named, fun w hw => atoms_spec (ws := ss_w yy_P_spread bb_P_spread 5 (some (.int))) B.pre w (List.mem_cons_of_mem _ hw)⟩
  have hx := hC.1
  have hb := hC.2.1
  have hr := B.returns
  have hlocks := B.notSynchronized
  have hS : va_S (ss_A G) s.heap s.heap [] := va_S.rf
  have hl := lv_entry ([ss_v (ss_b G) this]) (n := 5) (by simp [lg_sl, ss_v_cat, ss_cat_i, ss_cat_l, ss_cat_r])
  rw [lg_entry_eq]
  generalize (lg_sl ([ss_v (ss_b G) this]) ++ List.replicate (5 - (lg_sl ([ss_v (ss_b G) this])).length) Slot.unset).toArray = ls at hl ⊢
  have hl : lv_has ls 5 [(0, ss_v (ss_b G) this)] := by simpa [lv_args, ss_v_cat, ss_cat_i, ss_cat_l, ss_cat_r] using hl
  refine ss_aload_n hx hb dd_P_spread_0 rfl (lv_at hl 0 rfl) ?_
  refine lv_iconst (v := 0) hx hb dd_P_spread_1 (by decide) ?_
  obtain ⟨v1, qv1, hm⟩ := ss_bind hm
  refine ss_cV 0 0 (As := [.int (0 : Int32)]) hC hK hR hS hl.1 (cc_P_sumOf l G N _ _ _ _ qv1) km_P_142 (ck_P_sumOf qv1) ⟨Nat.le_of_ble_eq_true rfl, Nat.le_of_ble_eq_true rfl⟩ ⟨Nat.le_of_ble_eq_true rfl, Nat.le_of_ble_eq_true rfl, Nat.le_of_ble_eq_true rfl, Nat.le_of_ble_eq_true rfl⟩ rfl rfl (Nat.le_of_ble_eq_true rfl) dd_P_spread_2 (fun H locs hR hS => ?_)
  refine lv_istore_n (lv' := [(1, .int v1), (0, ss_v (ss_b G) this)]) hx hb dd_P_spread_5 rfl hl (by decide) (by simp only [List.filter_cons, ss_v_cat]; rfl) (fun ls hl => ?_)
  refine lv_iload_n hx hb dd_P_spread_6 rfl (lv_at hl 0 rfl) ?_
  refine lv_istore_n (lv' := [(2, .int v1), (1, .int v1), (0, ss_v (ss_b G) this)]) hx hb dd_P_spread_7 rfl hl (by decide) rfl (fun ls hl => ?_)
  refine lv_iconst (v := 1) hx hb dd_P_spread_8 (by decide) ?_
  refine lv_istore_n (lv' := [(3, .int (1 : Int32)), (2, .int v1), (1, .int v1), (0, ss_v (ss_b G) this)]) hx hb dd_P_spread_9 rfl hl (by decide) rfl (fun ls hl => ?_)
  obtain ⟨e_10, he_10, hm⟩ := ss_bind hm
  have X_10_45 : ∀ (y1_10_45 : Int32) (y2_10_45 : Int32) (H : Heap) (locs : List Loc) (ls : Array Slot), e_10 = (y1_10_45, y2_10_45) → ss_R G h H → va_S (ss_A G) s.heap H locs → lv_has ls 5 [(1, .int y1_10_45), (2, .int y2_10_45)] → ww_P_spread p l e s m below meth c G this h rr  H locs 0 0 (F0 m 45 ls []) := by
    intro y1_10_45 y2_10_45 H locs ls hq hR hS hl
    rw [hq] at hm
    refine lv_iload_n hx hb dd_P_spread_45 rfl (lv_at hl 0 rfl) ?_
    refine lv_iload_n hx hb dd_P_spread_46 rfl (lv_at hl 1 rfl) ?_
    refine lv_isub hx hb dd_P_spread_47 ?_
    exact ss_iret hC hr hlocks hR hS (ss_with _ hm) dd_P_spread_48
  have L_10 : ∀ (n : Nat) (x1_10 : Int32) (x2_10 : Int32) (x3_10 : Int32) (H : Heap) (locs : List Loc) (ls : Array Slot), ss_lp (mm_P_spread_b10 N this h) n (x1_10, x2_10, x3_10) = some e_10 → ss_R G h H → va_S (ss_A G) s.heap H locs → lv_has ls 5 [(0, ss_v (ss_b G) this), (1, .int x1_10), (2, .int x2_10), (3, .int x3_10)] → ww_P_spread p l e s m below meth c G this h rr  H locs 0 0 (F0 m 10 ls []) := by
    intro n
    induction n with
    | zero => intro x1_10 x2_10 x3_10 H locs ls hm; cases hm
    | succ n ih_10 =>
      intro x1_10 x2_10 x3_10 H locs ls hm hR hS hl
      obtain ⟨z_10, hm, hz1_10, hz2_10⟩ := ss_lps hm
      refine lv_iload_n hx hb dd_P_spread_10 rfl (lv_at hl 3 rfl) ?_
      refine ss_aload_n hx hb dd_P_spread_11 rfl (lv_at hl 0 rfl) ?_
      obtain ⟨v2, qv2, hm⟩ := ss_bind hm
      refine ss_cV 0 0 (As := []) hC hK hR hS hl.1 (cc_P_setCount l G N _ _ _ qv2) km_P_112 (ck_P_setCount qv2) ⟨Nat.le_of_ble_eq_true rfl, Nat.le_of_ble_eq_true rfl⟩ ⟨Nat.le_of_ble_eq_true rfl, Nat.le_of_ble_eq_true rfl, Nat.le_of_ble_eq_true rfl, Nat.le_of_ble_eq_true rfl⟩ rfl rfl (Nat.le_of_ble_eq_true rfl) dd_P_spread_12 (fun H locs hR hS => ?_)
      refine lv_icmp_ge (tgt := 45) hx hb dd_P_spread_15 (by decide) (fun c3 => ?_) (fun c3 => ?_)
      · have hm := ss_ift hm c3
        exact X_10_45 x1_10 x2_10  _ _ _ (hz2_10 _ (ss_some hm)) hR hS (lv_sub hl [1, 2] rfl)
      · have hm := ss_iff hm c3
        refine ss_aload_n hx hb dd_P_spread_18 rfl (lv_at hl 0 rfl) ?_
        refine lv_iload_n hx hb dd_P_spread_19 rfl (lv_at hl 3 rfl) ?_
        obtain ⟨v4, qv4, hm⟩ := ss_bind hm
        refine ss_cV 0 0 (As := [.int x3_10]) hC hK hR hS hl.1 (cc_P_sumOf l G N _ _ _ _ qv4) km_P_142 (ck_P_sumOf qv4) ⟨Nat.le_of_ble_eq_true rfl, Nat.le_of_ble_eq_true rfl⟩ ⟨Nat.le_of_ble_eq_true rfl, Nat.le_of_ble_eq_true rfl, Nat.le_of_ble_eq_true rfl, Nat.le_of_ble_eq_true rfl⟩ rfl rfl (Nat.le_of_ble_eq_true rfl) dd_P_spread_20 (fun H locs hR hS => ?_)
        refine lv_istore (lv' := [(4, .int v4), (0, ss_v (ss_b G) this), (1, .int x1_10), (2, .int x2_10), (3, .int x3_10)]) hx hb dd_P_spread_23 hl (by decide) rfl (fun ls hl => ?_)
        refine lv_iload_n hx hb dd_P_spread_25 rfl (lv_at hl 2 rfl) ?_
        refine lv_iload hx hb dd_P_spread_26 (lv_at hl 0 rfl) ?_
        refine ss_max hC hl.1 kj_P_145 kj_max_s kj_math kj_max_c (Nat.le_of_ble_eq_true rfl) (Nat.le_of_ble_eq_true rfl) (Nat.le_of_ble_eq_true rfl) ⟨Nat.le_of_ble_eq_true rfl, Nat.le_of_ble_eq_true rfl⟩ dd_P_spread_28 ?_
        obtain ⟨v5, qv5, hm⟩ := ss_bind hm
        refine ss_topi qv5 ?_
        refine lv_istore_n (lv' := [(1, .int v5), (4, .int v4), (0, ss_v (ss_b G) this), (2, .int x2_10), (3, .int x3_10)]) hx hb dd_P_spread_31 rfl hl (by decide) (by simp only [List.filter_cons, ss_v_cat]; rfl) (fun ls hl => ?_)
        refine lv_iload_n hx hb dd_P_spread_32 rfl (lv_at hl 3 rfl) ?_
        refine lv_iload hx hb dd_P_spread_33 (lv_at hl 1 rfl) ?_
        refine ss_min hC hl.1 kj_P_100 kj_min_s kj_math kj_min_c (Nat.le_of_ble_eq_true rfl) (Nat.le_of_ble_eq_true rfl) (Nat.le_of_ble_eq_true rfl) ⟨Nat.le_of_ble_eq_true rfl, Nat.le_of_ble_eq_true rfl⟩ dd_P_spread_35 ?_
        obtain ⟨v6, qv6, hm⟩ := ss_bind hm
        refine ss_topi qv6 ?_
        refine lv_istore_n (lv' := [(2, .int v6), (1, .int v5), (4, .int v4), (0, ss_v (ss_b G) this), (3, .int x3_10)]) hx hb dd_P_spread_38 rfl hl (by decide) rfl (fun ls hl => ?_)
        obtain ⟨v7, qv7, hm⟩ := ss_bind hm
        refine lv_iinc (v := v7) (lv' := [(3, .int v7), (2, .int v6), (1, .int v5), (4, .int v4), (0, ss_v (ss_b G) this)]) hx hb dd_P_spread_39 hl (k := 4) rfl (ss_inc (by decide) qv7) (by decide) rfl (fun ls hl => ?_)
        refine lv_goto (tgt := 10) hx hb dd_P_spread_42 (by decide) ?_
        exact ih_10 v5 v6 v7  _ _ _ (hz1_10 _ (ss_some hm)) hR hS (lv_sub hl [4, 2, 1, 0] rfl)
  exact L_10 N v1 v1 (1 : Int32) _ _ _ he_10 hR hS (lv_sub hl [3, 2, 1, 0] rfl)
theorem dd_P_isPact_0 : decode bb_P_isPact 0 = .ok (.iconst 0, 1) := by decide +kernel
theorem dd_P_isPact_1 : decode bb_P_isPact 1 = .ok (.istore_n 2, 1) := by decide +kernel
theorem dd_P_isPact_2 : decode bb_P_isPact 2 = .ok (.iload_n 2, 1) := by decide +kernel
theorem dd_P_isPact_3 : decode bb_P_isPact 3 = .ok (.aload_n 0, 1) := by decide +kernel
theorem dd_P_isPact_4 : decode bb_P_isPact 4 = .ok (.getfield 21, 3) := by decide +kernel
theorem dd_P_isPact_7 : decode bb_P_isPact 7 = .ok (.getfield 50, 3) := by decide +kernel
theorem dd_P_isPact_10 : decode bb_P_isPact 10 = .ok (.getfield 109, 3) := by decide +kernel
theorem dd_P_isPact_13 : decode bb_P_isPact 13 = .ok (.if_icmp .ge 40, 3) := by decide +kernel
theorem dd_P_isPact_16 : decode bb_P_isPact 16 = .ok (.iload_n 1, 1) := by decide +kernel
theorem dd_P_isPact_17 : decode bb_P_isPact 17 = .ok (.iconst 1, 1) := by decide +kernel
theorem dd_P_isPact_18 : decode bb_P_isPact 18 = .ok (.iload_n 2, 1) := by decide +kernel
theorem dd_P_isPact_19 : decode bb_P_isPact 19 = .ok (.ishl, 1) := by decide +kernel
theorem dd_P_isPact_20 : decode bb_P_isPact 20 = .ok (.ixor, 1) := by decide +kernel
theorem dd_P_isPact_21 : decode bb_P_isPact 21 = .ok (.istore_n 3, 1) := by decide +kernel
theorem dd_P_isPact_22 : decode bb_P_isPact 22 = .ok (.aload_n 0, 1) := by decide +kernel
theorem dd_P_isPact_23 : decode bb_P_isPact 23 = .ok (.getfield 18, 3) := by decide +kernel
theorem dd_P_isPact_26 : decode bb_P_isPact 26 = .ok (.iload_n 3, 1) := by decide +kernel
theorem dd_P_isPact_27 : decode bb_P_isPact 27 = .ok (.iconst 4, 1) := by decide +kernel
theorem dd_P_isPact_28 : decode bb_P_isPact 28 = .ok (.imul, 1) := by decide +kernel
theorem dd_P_isPact_29 : decode bb_P_isPact 29 = .ok (.iload_n 2, 1) := by decide +kernel
theorem dd_P_isPact_30 : decode bb_P_isPact 30 = .ok (.iadd, 1) := by decide +kernel
theorem dd_P_isPact_31 : decode bb_P_isPact 31 = .ok (.iaload, 1) := by decide +kernel
theorem dd_P_isPact_32 : decode bb_P_isPact 32 = .ok (.aload_n 0, 1) := by decide +kernel
theorem dd_P_isPact_33 : decode bb_P_isPact 33 = .ok (.getfield 18, 3) := by decide +kernel
theorem dd_P_isPact_36 : decode bb_P_isPact 36 = .ok (.iload_n 1, 1) := by decide +kernel
theorem dd_P_isPact_37 : decode bb_P_isPact 37 = .ok (.iconst 4, 1) := by decide +kernel
theorem dd_P_isPact_38 : decode bb_P_isPact 38 = .ok (.imul, 1) := by decide +kernel
theorem dd_P_isPact_39 : decode bb_P_isPact 39 = .ok (.iload_n 2, 1) := by decide +kernel
theorem dd_P_isPact_40 : decode bb_P_isPact 40 = .ok (.iadd, 1) := by decide +kernel
theorem dd_P_isPact_41 : decode bb_P_isPact 41 = .ok (.iaload, 1) := by decide +kernel
theorem dd_P_isPact_42 : decode bb_P_isPact 42 = .ok (.if_icmp .le 5, 3) := by decide +kernel
theorem dd_P_isPact_45 : decode bb_P_isPact 45 = .ok (.iconst 0, 1) := by decide +kernel
theorem dd_P_isPact_46 : decode bb_P_isPact 46 = .ok (.ireturn, 1) := by decide +kernel
theorem dd_P_isPact_47 : decode bb_P_isPact 47 = .ok (.iinc 2 1, 3) := by decide +kernel
theorem dd_P_isPact_50 : decode bb_P_isPact 50 = .ok (.goto (-48), 3) := by decide +kernel
theorem dd_P_isPact_53 : decode bb_P_isPact 53 = .ok (.iconst 1, 1) := by decide +kernel
theorem dd_P_isPact_54 : decode bb_P_isPact 54 = .ok (.ireturn, 1) := by decide +kernel
def mm_P_isPact_b2 (N : Nat) (this : Option Nat) (a1 : Int32) (h : ss_Hp) (st : Int32) : Option (Int32 ⊕ (Unit ⊕ Unit)) :=
  match st with
  | x2_2 =>
    (ss_gr h this 10 0).bind fun r1 =>
    (ss_gr h r1 8 0).bind fun r2 =>
    (ss_gi h r2 5 4).bind fun v3 =>
    if v3 ≤ x2_2 then
      some (.inr (.inl ()))
    else
      (some (a1 ^^^ ((1 : Int32) <<< (x2_2 &&& 31)))).bind fun v5 =>
      (ss_gr h this 10 4).bind fun r6 =>
      (ss_ai h r6 20 ((v5 * (4 : Int32)) + x2_2)).bind fun v7 =>
      (ss_gr h this 10 4).bind fun r8 =>
      (ss_ai h r8 20 ((a1 * (4 : Int32)) + x2_2)).bind fun v9 =>
      if v7 ≤ v9 then
        (some (x2_2 + (1 : Int32))).bind fun v11 =>
        some (.inl v11)
      else
        some (.inr (.inr ()))
def mm_P_isPact (N : Nat) (this : Option Nat) (a1 : Int32) (h : ss_Hp) : Option Int32 :=
  if ss_is h this 10 = true then
    (ss_lp (mm_P_isPact_b2 N this a1 h) N (0 : Int32)).bind fun e_2 =>
    match e_2 with
    | (.inl ()) =>
      some (1 : Int32)
    | (.inr ()) =>
      some (0 : Int32)
  else none
abbrev ww_P_isPact (p : Program) (l : Launch) (e : Env) (s : State) (m : MethodId) (below : List Frame) (meth : Method) (c : Code) (G : ss_G) (this : Option Nat) (a1 : Int32) (h : ss_Hp) (rr : Int32) (H : Heap) (locs : List Loc) (k n : Nat) (g : JFrame) : Prop := W p l e (headSpec (ss_w yy_P_isPact bb_P_isPact 4 (some .boolean)) ({ frames := 0, cells := 0, slots := 0, locals := 0 })).room s m ([ss_v (ss_b G) this, .int a1] : List Value).toArray below meth c H locs k n (MQ below (ss_Qc G (some (.int rr)) h) ([ss_v (ss_b G) this, .int a1] : List Value).toArray s 0 0 (ss_A G)) g
theorem ck_P_isPact {N : Nat} {this : Option Nat} {a1 : Int32} {h : ss_Hp} {res : Int32} (hm : mm_P_isPact N this a1 h = some res) : ss_is h this 10 = true := (ss_chk hm).1
set_option maxHeartbeats 4000000 in
set_option maxRecDepth 100000 in
theorem cc_P_isPact (l : Launch) (G : ss_G) (N : Nat) (this : Option Nat) (a1 : Int32) (h : ss_Hp) (rr : Int32) (hm : mm_P_isPact N this a1 h = some rr) : ss_Ct l G yy_P_isPact bb_P_isPact 4 (some .boolean) ({ frames := 0, cells := 0, slots := 0, locals := 0 }) [ss_v (ss_b G) this, .int a1] h (some (.int rr)) h := by
  obtain ⟨hck, hm⟩ := ss_chk hm
  refine Met.ofW (cc := bb_P_isPact) (maxL := 4) (ret := (some .boolean)) (by decide) rfl ?_
  intro p e s m args below meth c s₁ B hml hv
  obtain ⟨rfl, hR, hK⟩ := hv
  have hC : CallFix p m c bb_P_isPact 4 s _ lw_g sR_10 := ⟨B.exec, B.bytes, hml, findClass_of_methodNamed B.named, fun w hw => atoms_spec (ws := ss_w yy_P_isPact bb_P_isPact 4 (some .boolean)) B.pre w (List.mem_cons_of_mem _ hw)⟩
  have hx := hC.1
  have hb := hC.2.1
  have hr := B.returns
  have hlocks := B.notSynchronized
  have hS : va_S (ss_A G) s.heap s.heap [] := va_S.rf
  have hl := lv_entry ([ss_v (ss_b G) this, .int a1]) (n := 4) (by simp [lg_sl, ss_v_cat, ss_cat_i, ss_cat_l, ss_cat_r])
  rw [lg_entry_eq]
  generalize (lg_sl ([ss_v (ss_b G) this, .int a1]) ++ List.replicate (4 - (lg_sl ([ss_v (ss_b G) this, .int a1])).length) Slot.unset).toArray = ls at hl ⊢
  have hl : lv_has ls 4 [(0, ss_v (ss_b G) this), (1, .int a1)] := by simpa [lv_args, ss_v_cat, ss_cat_i, ss_cat_l, ss_cat_r] using hl
  refine lv_iconst (v := 0) hx hb dd_P_isPact_0 (by decide) ?_
  refine lv_istore_n (lv' := [(2, .int (0 : Int32)), (0, ss_v (ss_b G) this), (1, .int a1)]) hx hb dd_P_isPact_1 rfl hl (by decide) rfl (fun ls hl => ?_)
  obtain ⟨e_2, he_2, hm⟩ := ss_bind hm
  have X_2_53 : ∀  (H : Heap) (locs : List Loc) (ls : Array Slot), e_2 = (.inl ()) → ss_R G h H → va_S (ss_A G) s.heap H locs → lv_has ls 4 [] → ww_P_isPact p l e s m below meth c G this a1 h rr  H locs 0 0 (F0 m 53 ls []) := by
    intro  H locs ls hq hR hS hl
    rw [hq] at hm
    refine lv_iconst (v := 1) hx hb dd_P_isPact_53 (by decide) ?_
    exact ss_zret hC hr (by decide) hlocks hR hS (ss_with _ hm) dd_P_isPact_54
  have X_2_45 : ∀  (H : Heap) (locs : List Loc) (ls : Array Slot), e_2 = (.inr ()) → ss_R G h H → va_S (ss_A G) s.heap H locs → lv_has ls 4 [] → ww_P_isPact p l e s m below meth c G this a1 h rr  H locs 0 0 (F0 m 45 ls []) := by
    intro  H locs ls hq hR hS hl
    rw [hq] at hm
    refine lv_iconst (v := 0) hx hb dd_P_isPact_45 (by decide) ?_
    exact ss_zret hC hr (by decide) hlocks hR hS (ss_with _ hm) dd_P_isPact_46
  have L_2 : ∀ (n : Nat) (x2_2 : Int32) (H : Heap) (locs : List Loc) (ls : Array Slot), ss_lp (mm_P_isPact_b2 N this a1 h) n x2_2 = some e_2 → ss_R G h H → va_S (ss_A G) s.heap H locs → lv_has ls 4 [(0, ss_v (ss_b G) this), (1, .int a1), (2, .int x2_2)] → ww_P_isPact p l e s m below meth c G this a1 h rr  H locs 0 0 (F0 m 2 ls []) := by
    intro n
    induction n with
    | zero => intro x2_2 H locs ls hm; cases hm
    | succ n ih_2 =>
      intro x2_2 H locs ls hm hR hS hl
      obtain ⟨z_2, hm, hz1_2, hz2_2⟩ := ss_lps hm
      refine lv_iload_n hx hb dd_P_isPact_2 rfl (lv_at hl 2 rfl) ?_
      refine ss_aload_n hx hb dd_P_isPact_3 rfl (lv_at hl 0 rfl) ?_
      obtain ⟨r1, qr1, hm⟩ := ss_bind hm
      refine ss_getr hC hK hR kf_P_21 rfl qr1 dd_P_isPact_4 ?_
      obtain ⟨r2, qr2, hm⟩ := ss_bind hm
      refine ss_getr hC hK hR kf_P_50 rfl qr2 dd_P_isPact_7 ?_
      obtain ⟨v3, qv3, hm⟩ := ss_bind hm
      refine ss_geti hC hK hR kf_P_109 qv3 dd_P_isPact_10 ?_
      refine lv_icmp_ge (tgt := 53) hx hb dd_P_isPact_13 (by decide) (fun c4 => ?_) (fun c4 => ?_)
      · have hm := ss_ift hm c4
        exact X_2_53  _ _ _ (hz2_2 _ (ss_some hm)) hR hS (lv_sub hl [] rfl)
      · have hm := ss_iff hm c4
        refine lv_iload_n hx hb dd_P_isPact_16 rfl (lv_at hl 1 rfl) ?_
        refine lv_iconst (v := 1) hx hb dd_P_isPact_17 (by decide) ?_
        refine lv_iload_n hx hb dd_P_isPact_18 rfl (lv_at hl 2 rfl) ?_
        refine lv_ishl hx hb dd_P_isPact_19 ?_
        refine lv_ixor hx hb dd_P_isPact_20 ?_
        obtain ⟨v5, qv5, hm⟩ := ss_bind hm
        refine ss_topi qv5 ?_
        refine lv_istore_n (lv' := [(3, .int v5), (0, ss_v (ss_b G) this), (1, .int a1), (2, .int x2_2)]) hx hb dd_P_isPact_21 rfl hl (by decide) rfl (fun ls hl => ?_)
        refine ss_aload_n hx hb dd_P_isPact_22 rfl (lv_at hl 1 rfl) ?_
        obtain ⟨r6, qr6, hm⟩ := ss_bind hm
        refine ss_getr hC hK hR kf_P_18 rfl qr6 dd_P_isPact_23 ?_
        refine lv_iload_n hx hb dd_P_isPact_26 rfl (lv_at hl 0 rfl) ?_
        refine lv_iconst (v := 4) hx hb dd_P_isPact_27 (by decide) ?_
        refine lv_imul hx hb dd_P_isPact_28 ?_
        refine lv_iload_n hx hb dd_P_isPact_29 rfl (lv_at hl 3 rfl) ?_
        refine lv_iadd hx hb dd_P_isPact_30 ?_
        obtain ⟨v7, qv7, hm⟩ := ss_bind hm
        refine ss_iald hC hK hR qv7 dd_P_isPact_31 ?_
        refine ss_aload_n hx hb dd_P_isPact_32 rfl (lv_at hl 1 rfl) ?_
        obtain ⟨r8, qr8, hm⟩ := ss_bind hm
        refine ss_getr hC hK hR kf_P_18 rfl qr8 dd_P_isPact_33 ?_
        refine lv_iload_n hx hb dd_P_isPact_36 rfl (lv_at hl 2 rfl) ?_
        refine lv_iconst (v := 4) hx hb dd_P_isPact_37 (by decide) ?_
        refine lv_imul hx hb dd_P_isPact_38 ?_
        refine lv_iload_n hx hb dd_P_isPact_39 rfl (lv_at hl 3 rfl) ?_
        refine lv_iadd hx hb dd_P_isPact_40 ?_
        obtain ⟨v9, qv9, hm⟩ := ss_bind hm
        refine ss_iald hC hK hR qv9 dd_P_isPact_41 ?_
        refine lv_icmp_le (tgt := 47) hx hb dd_P_isPact_42 (by decide) (fun c10 => ?_) (fun c10 => ?_)
        · have hm := ss_ift hm c10
          obtain ⟨v11, qv11, hm⟩ := ss_bind hm
          refine lv_iinc (v := v11) (lv' := [(2, .int v11), (3, .int v5), (0, ss_v (ss_b G) this), (1, .int a1)]) hx hb dd_P_isPact_47 hl (k := 3) rfl (ss_inc (by decide) qv11) (by decide) rfl (fun ls hl => ?_)
          refine lv_goto (tgt := 2) hx hb dd_P_isPact_50 (by decide) ?_
          exact ih_2 v11  _ _ _ (hz1_2 _ (ss_some hm)) hR hS (lv_sub hl [2, 3, 0] rfl)
        · have hm := ss_iff hm c10
          exact X_2_45  _ _ _ (hz2_2 _ (ss_some hm)) hR hS (lv_sub hl [] rfl)
  exact L_2 N (0 : Int32) _ _ _ he_2 hR hS (lv_sub hl [1, 2, 0] rfl)
theorem dd_P_pactCount_0 : decode bb_P_pactCount 0 = .ok (.iconst 0, 1) := by decide +kernel
theorem dd_P_pactCount_1 : decode bb_P_pactCount 1 = .ok (.istore_n 1, 1) := by decide +kernel
theorem dd_P_pactCount_2 : decode bb_P_pactCount 2 = .ok (.iconst 0, 1) := by decide +kernel
theorem dd_P_pactCount_3 : decode bb_P_pactCount 3 = .ok (.istore_n 2, 1) := by decide +kernel
theorem dd_P_pactCount_4 : decode bb_P_pactCount 4 = .ok (.iload_n 2, 1) := by decide +kernel
theorem dd_P_pactCount_5 : decode bb_P_pactCount 5 = .ok (.aload_n 0, 1) := by decide +kernel
theorem dd_P_pactCount_6 : decode bb_P_pactCount 6 = .ok (.invokevirtual 112, 3) := by decide +kernel
theorem dd_P_pactCount_9 : decode bb_P_pactCount 9 = .ok (.if_icmp .ge 25, 3) := by decide +kernel
theorem dd_P_pactCount_12 : decode bb_P_pactCount 12 = .ok (.iload_n 1, 1) := by decide +kernel
theorem dd_P_pactCount_13 : decode bb_P_pactCount 13 = .ok (.aload_n 0, 1) := by decide +kernel
theorem dd_P_pactCount_14 : decode bb_P_pactCount 14 = .ok (.iload_n 2, 1) := by decide +kernel
theorem dd_P_pactCount_15 : decode bb_P_pactCount 15 = .ok (.invokevirtual 138, 3) := by decide +kernel
theorem dd_P_pactCount_18 : decode bb_P_pactCount 18 = .ok (.ifCond .eq 7, 3) := by decide +kernel
theorem dd_P_pactCount_21 : decode bb_P_pactCount 21 = .ok (.iconst 1, 1) := by decide +kernel
theorem dd_P_pactCount_22 : decode bb_P_pactCount 22 = .ok (.goto 4, 3) := by decide +kernel
theorem dd_P_pactCount_25 : decode bb_P_pactCount 25 = .ok (.iconst 0, 1) := by decide +kernel
theorem dd_P_pactCount_26 : decode bb_P_pactCount 26 = .ok (.iadd, 1) := by decide +kernel
theorem dd_P_pactCount_27 : decode bb_P_pactCount 27 = .ok (.istore_n 1, 1) := by decide +kernel
theorem dd_P_pactCount_28 : decode bb_P_pactCount 28 = .ok (.iinc 2 1, 3) := by decide +kernel
theorem dd_P_pactCount_31 : decode bb_P_pactCount 31 = .ok (.goto (-27), 3) := by decide +kernel
theorem dd_P_pactCount_34 : decode bb_P_pactCount 34 = .ok (.iload_n 1, 1) := by decide +kernel
theorem dd_P_pactCount_35 : decode bb_P_pactCount 35 = .ok (.ireturn, 1) := by decide +kernel
def mm_P_pactCount_j26 (N : Nat) (this : Option Nat) (h : ss_Hp) (x2_26 : Int32) (s0_26 : Int32) (s1_26 : Int32) : Option ((Int32 × Int32) ⊕ Int32) :=
  (some (s0_26 + s1_26)).bind fun v1 =>
  (some (x2_26 + (1 : Int32))).bind fun v2 =>
  some (.inl (v1, v2))
def mm_P_pactCount_b4 (N : Nat) (this : Option Nat) (h : ss_Hp) (st : Int32 × Int32) : Option ((Int32 × Int32) ⊕ Int32) :=
  match st with
  | (x1_4, x2_4) =>
    (mm_P_setCount N this h).bind fun v3 =>
    if v3 ≤ x2_4 then
      some (.inr x1_4)
    else
      (mm_P_isPact N this x2_4 h).bind fun v5 =>
      if v5 = 0 then
        mm_P_pactCount_j26 N this h x2_4 x1_4 (0 : Int32)
      else
        mm_P_pactCount_j26 N this h x2_4 x1_4 (1 : Int32)
def mm_P_pactCount (N : Nat) (this : Option Nat) (h : ss_Hp) : Option Int32 :=
  if ss_is h this 10 = true then
    (ss_lp (mm_P_pactCount_b4 N this h) N ((0 : Int32), (0 : Int32))).bind fun y1_4_34 =>
    some y1_4_34
  else none
abbrev ww_P_pactCount (p : Program) (l : Launch) (e : Env) (s : State) (m : MethodId) (below : List Frame) (meth : Method) (c : Code) (G : ss_G) (this : Option Nat) (h : ss_Hp) (rr : Int32) (H : Heap) (locs : List Loc) (k n : Nat) (g : JFrame) : Prop := W p l e (headSpec (ss_w yy_P_pactCount bb_P_pactCount 3 (some (.int))) ({ frames := 1, cells := 0, slots := 0, locals := 23 })).room s m ([ss_v (ss_b G) this] : List Value).toArray below meth c H locs k n (MQ below (ss_Qc G (some (.int rr)) h) ([ss_v (ss_b G) this] : List Value).toArray s 0 0 (ss_A G)) g
theorem ck_P_pactCount {N : Nat} {this : Option Nat} {h : ss_Hp} {res : Int32} (hm : mm_P_pactCount N this h = some res) : ss_is h this 10 = true := (ss_chk hm).1
set_option maxHeartbeats 4000000 in
set_option maxRecDepth 100000 in
theorem cc_P_pactCount (l : Launch) (G : ss_G) (N : Nat) (this : Option Nat) (h : ss_Hp) (rr : Int32) (hm : mm_P_pactCount N this h = some rr) : ss_Ct l G yy_P_pactCount bb_P_pactCount 3 (some (.int)) ({ frames := 1, cells := 0, slots := 0, locals := 23 }) [ss_v (ss_b G) this] h (some (.int rr)) h := by
  obtain ⟨hck, hm⟩ := ss_chk hm
  refine Met.ofW (cc := bb_P_pactCount) (maxL := 3) (ret := (some (.int))) (by decide) rfl ?_
  intro p e s m args below meth c s₁ B hml hv
  obtain ⟨rfl, hR, hK⟩ := hv
  have hC : CallFix p m c bb_P_pactCount 3 s _ lw_g sR_10 := ⟨B.exec, B.bytes, hml, findClass_of_methodNamed B.named, fun w hw => atoms_spec (ws := ss_w yy_P_pactCount bb_P_pactCount 3 (some (.int))) B.pre w (List.mem_cons_of_mem _ hw)⟩
  have hx := hC.1
  have hb := hC.2.1
  have hr := B.returns
  have hlocks := B.notSynchronized
  have hS : va_S (ss_A G) s.heap s.heap [] := va_S.rf
  have hl := lv_entry ([ss_v (ss_b G) this]) (n := 3) (by simp [lg_sl, ss_v_cat, ss_cat_i, ss_cat_l, ss_cat_r])
  rw [lg_entry_eq]
  generalize (lg_sl ([ss_v (ss_b G) this]) ++ List.replicate (3 - (lg_sl ([ss_v (ss_b G) this])).length) Slot.unset).toArray = ls at hl ⊢
  have hl : lv_has ls 3 [(0, ss_v (ss_b G) this)] := by simpa [lv_args, ss_v_cat, ss_cat_i, ss_cat_l, ss_cat_r] using hl
  refine lv_iconst (v := 0) hx hb dd_P_pactCount_0 (by decide) ?_
  refine lv_istore_n (lv' := [(1, .int (0 : Int32)), (0, ss_v (ss_b G) this)]) hx hb dd_P_pactCount_1 rfl hl (by decide) (by simp only [List.filter_cons, ss_v_cat]; rfl) (fun ls hl => ?_)
  refine lv_iconst (v := 0) hx hb dd_P_pactCount_2 (by decide) ?_
  refine lv_istore_n (lv' := [(2, .int (0 : Int32)), (1, .int (0 : Int32)), (0, ss_v (ss_b G) this)]) hx hb dd_P_pactCount_3 rfl hl (by decide) rfl (fun ls hl => ?_)
  obtain ⟨e_4, he_4, hm⟩ := ss_bind hm
  have X_4_34 : ∀ (y1_4_34 : Int32) (H : Heap) (locs : List Loc) (ls : Array Slot), e_4 = y1_4_34 → ss_R G h H → va_S (ss_A G) s.heap H locs → lv_has ls 3 [(1, .int y1_4_34)] → ww_P_pactCount p l e s m below meth c G this h rr  H locs 0 0 (F0 m 34 ls []) := by
    intro y1_4_34 H locs ls hq hR hS hl
    rw [hq] at hm
    refine lv_iload_n hx hb dd_P_pactCount_34 rfl (lv_at hl 0 rfl) ?_
    exact ss_iret hC hr hlocks hR hS (ss_with _ hm) dd_P_pactCount_35
  have L_4 : ∀ (n : Nat) (x1_4 : Int32) (x2_4 : Int32) (H : Heap) (locs : List Loc) (ls : Array Slot), ss_lp (mm_P_pactCount_b4 N this h) n (x1_4, x2_4) = some e_4 → ss_R G h H → va_S (ss_A G) s.heap H locs → lv_has ls 3 [(0, ss_v (ss_b G) this), (1, .int x1_4), (2, .int x2_4)] → ww_P_pactCount p l e s m below meth c G this h rr  H locs 0 0 (F0 m 4 ls []) := by
    intro n
    induction n with
    | zero => intro x1_4 x2_4 H locs ls hm; cases hm
    | succ n ih_4 =>
      intro x1_4 x2_4 H locs ls hm hR hS hl
      obtain ⟨z_4, hm, hz1_4, hz2_4⟩ := ss_lps hm
      have J_26 : ∀ (x2_26 : Int32) (s0_26 : Int32) (s1_26 : Int32) (H : Heap) (locs : List Loc) (ls : Array Slot), mm_P_pactCount_j26 N this h x2_26 s0_26 s1_26 = some z_4 → ss_R G h H → va_S (ss_A G) s.heap H locs → lv_has ls 3 [(0, ss_v (ss_b G) this), (2, .int x2_26)] → ww_P_pactCount p l e s m below meth c G this h rr  H locs 0 0 (F0 m 26 ls [.int s1_26, .int s0_26]) := by
        intro x2_26 s0_26 s1_26 H locs ls hm hR hS hl
        refine lv_iadd hx hb dd_P_pactCount_26 ?_
        obtain ⟨v1, qv1, hm⟩ := ss_bind hm
        refine ss_topi qv1 ?_
        refine lv_istore_n (lv' := [(1, .int v1), (0, ss_v (ss_b G) this), (2, .int x2_26)]) hx hb dd_P_pactCount_27 rfl hl (by decide) (by simp only [List.filter_cons, ss_v_cat]; rfl) (fun ls hl => ?_)
        obtain ⟨v2, qv2, hm⟩ := ss_bind hm
        refine lv_iinc (v := v2) (lv' := [(2, .int v2), (1, .int v1), (0, ss_v (ss_b G) this)]) hx hb dd_P_pactCount_28 hl (k := 2) rfl (ss_inc (by decide) qv2) (by decide) rfl (fun ls hl => ?_)
        refine lv_goto (tgt := 4) hx hb dd_P_pactCount_31 (by decide) ?_
        exact ih_4 v1 v2  _ _ _ (hz1_4 _ (ss_some hm)) hR hS (lv_sub hl [2, 1, 0] rfl)
      refine lv_iload_n hx hb dd_P_pactCount_4 rfl (lv_at hl 2 rfl) ?_
      refine ss_aload_n hx hb dd_P_pactCount_5 rfl (lv_at hl 0 rfl) ?_
      obtain ⟨v3, qv3, hm⟩ := ss_bind hm
      refine ss_cV 0 0 (As := []) hC hK hR hS hl.1 (cc_P_setCount l G N _ _ _ qv3) km_P_112 (ck_P_setCount qv3) ⟨Nat.le_of_ble_eq_true rfl, Nat.le_of_ble_eq_true rfl⟩ ⟨Nat.le_of_ble_eq_true rfl, Nat.le_of_ble_eq_true rfl, Nat.le_of_ble_eq_true rfl, Nat.le_of_ble_eq_true rfl⟩ rfl rfl (Nat.le_of_ble_eq_true rfl) dd_P_pactCount_6 (fun H locs hR hS => ?_)
      refine lv_icmp_ge (tgt := 34) hx hb dd_P_pactCount_9 (by decide) (fun c4 => ?_) (fun c4 => ?_)
      · have hm := ss_ift hm c4
        exact X_4_34 x1_4  _ _ _ (hz2_4 _ (ss_some hm)) hR hS (lv_sub hl [1] rfl)
      · have hm := ss_iff hm c4
        refine lv_iload_n hx hb dd_P_pactCount_12 rfl (lv_at hl 1 rfl) ?_
        refine ss_aload_n hx hb dd_P_pactCount_13 rfl (lv_at hl 0 rfl) ?_
        refine lv_iload_n hx hb dd_P_pactCount_14 rfl (lv_at hl 2 rfl) ?_
        obtain ⟨v5, qv5, hm⟩ := ss_bind hm
        refine ss_cV 0 0 (As := [.int x2_4]) hC hK hR hS hl.1 (cc_P_isPact l G N _ _ _ _ qv5) km_P_138 (ck_P_isPact qv5) ⟨Nat.le_of_ble_eq_true rfl, Nat.le_of_ble_eq_true rfl⟩ ⟨Nat.le_of_ble_eq_true rfl, Nat.le_of_ble_eq_true rfl, Nat.le_of_ble_eq_true rfl, Nat.le_of_ble_eq_true rfl⟩ rfl rfl (Nat.le_of_ble_eq_true rfl) dd_P_pactCount_15 (fun H locs hR hS => ?_)
        refine lv_if_eq (tgt := 25) hx hb dd_P_pactCount_18 (by decide) (fun c6 => ?_) (fun c6 => ?_)
        · have hm := ss_ift hm c6
          refine lv_iconst (v := 0) hx hb dd_P_pactCount_25 (by decide) ?_
          exact J_26 x2_4 x1_4 (0 : Int32)  _ _ _ hm hR hS (lv_sub hl [0, 2] rfl)
        · have hm := ss_iff hm c6
          refine lv_iconst (v := 1) hx hb dd_P_pactCount_21 (by decide) ?_
          refine lv_goto (tgt := 26) hx hb dd_P_pactCount_22 (by decide) ?_
          exact J_26 x2_4 x1_4 (1 : Int32)  _ _ _ hm hR hS (lv_sub hl [0, 2] rfl)
  exact L_4 N (0 : Int32) (0 : Int32) _ _ _ he_4 hR hS (lv_sub hl [2, 1, 0] rfl)
theorem dd_P_leastPact_0 : decode bb_P_leastPact 0 = .ok (.iconst 0, 1) := by decide +kernel
theorem dd_P_leastPact_1 : decode bb_P_leastPact 1 = .ok (.istore_n 1, 1) := by decide +kernel
theorem dd_P_leastPact_2 : decode bb_P_leastPact 2 = .ok (.iload_n 1, 1) := by decide +kernel
theorem dd_P_leastPact_3 : decode bb_P_leastPact 3 = .ok (.aload_n 0, 1) := by decide +kernel
theorem dd_P_leastPact_4 : decode bb_P_leastPact 4 = .ok (.invokevirtual 112, 3) := by decide +kernel
theorem dd_P_leastPact_7 : decode bb_P_leastPact 7 = .ok (.if_icmp .ge 19, 3) := by decide +kernel
theorem dd_P_leastPact_10 : decode bb_P_leastPact 10 = .ok (.aload_n 0, 1) := by decide +kernel
theorem dd_P_leastPact_11 : decode bb_P_leastPact 11 = .ok (.iload_n 1, 1) := by decide +kernel
theorem dd_P_leastPact_12 : decode bb_P_leastPact 12 = .ok (.invokevirtual 138, 3) := by decide +kernel
theorem dd_P_leastPact_15 : decode bb_P_leastPact 15 = .ok (.ifCond .eq 5, 3) := by decide +kernel
theorem dd_P_leastPact_18 : decode bb_P_leastPact 18 = .ok (.iload_n 1, 1) := by decide +kernel
theorem dd_P_leastPact_19 : decode bb_P_leastPact 19 = .ok (.ireturn, 1) := by decide +kernel
theorem dd_P_leastPact_20 : decode bb_P_leastPact 20 = .ok (.iinc 1 1, 3) := by decide +kernel
theorem dd_P_leastPact_23 : decode bb_P_leastPact 23 = .ok (.goto (-21), 3) := by decide +kernel
theorem dd_P_leastPact_26 : decode bb_P_leastPact 26 = .ok (.bipush (-2), 2) := by decide +kernel
theorem dd_P_leastPact_28 : decode bb_P_leastPact 28 = .ok (.ireturn, 1) := by decide +kernel
def mm_P_leastPact_b2 (N : Nat) (this : Option Nat) (h : ss_Hp) (st : Int32) : Option (Int32 ⊕ (Unit ⊕ Int32)) :=
  match st with
  | x1_2 =>
    (mm_P_setCount N this h).bind fun v1 =>
    if v1 ≤ x1_2 then
      some (.inr (.inl ()))
    else
      (mm_P_isPact N this x1_2 h).bind fun v3 =>
      if v3 = 0 then
        (some (x1_2 + (1 : Int32))).bind fun v5 =>
        some (.inl v5)
      else
        some (.inr (.inr x1_2))
def mm_P_leastPact (N : Nat) (this : Option Nat) (h : ss_Hp) : Option Int32 :=
  if ss_is h this 10 = true then
    (ss_lp (mm_P_leastPact_b2 N this h) N (0 : Int32)).bind fun e_2 =>
    match e_2 with
    | (.inl ()) =>
      some (-2 : Int32)
    | (.inr y1_2_18) =>
      some y1_2_18
  else none
abbrev ww_P_leastPact (p : Program) (l : Launch) (e : Env) (s : State) (m : MethodId) (below : List Frame) (meth : Method) (c : Code) (G : ss_G) (this : Option Nat) (h : ss_Hp) (rr : Int32) (H : Heap) (locs : List Loc) (k n : Nat) (g : JFrame) : Prop := W p l e (headSpec (ss_w yy_P_leastPact bb_P_leastPact 2 (some (.int))) ({ frames := 1, cells := 0, slots := 0, locals := 23 })).room s m ([ss_v (ss_b G) this] : List Value).toArray below meth c H locs k n (MQ below (ss_Qc G (some (.int rr)) h) ([ss_v (ss_b G) this] : List Value).toArray s 0 0 (ss_A G)) g
theorem ck_P_leastPact {N : Nat} {this : Option Nat} {h : ss_Hp} {res : Int32} (hm : mm_P_leastPact N this h = some res) : ss_is h this 10 = true := (ss_chk hm).1
set_option maxHeartbeats 4000000 in
set_option maxRecDepth 100000 in
theorem cc_P_leastPact (l : Launch) (G : ss_G) (N : Nat) (this : Option Nat) (h : ss_Hp) (rr : Int32) (hm : mm_P_leastPact N this h = some rr) : ss_Ct l G yy_P_leastPact bb_P_leastPact 2 (some (.int)) ({ frames := 1, cells := 0, slots := 0, locals := 23 }) [ss_v (ss_b G) this] h (some (.int rr)) h := by
  obtain ⟨hck, hm⟩ := ss_chk hm
  refine Met.ofW (cc := bb_P_leastPact) (maxL := 2) (ret := (some (.int))) (by decide) rfl ?_
  intro p e s m args below meth c s₁ B hml hv
  obtain ⟨rfl, hR, hK⟩ := hv
  have hC : CallFix p m c bb_P_leastPact 2 s _ lw_g sR_10 := ⟨B.exec, B.bytes, hml, findClass_of_methodNamed B.named, fun w hw => atoms_spec (ws := ss_w yy_P_leastPact bb_P_leastPact 2 (some (.int))) B.pre w (List.mem_cons_of_mem _ hw)⟩
  have hx := hC.1
  have hb := hC.2.1
  have hr := B.returns
  have hlocks := B.notSynchronized
  have hS : va_S (ss_A G) s.heap s.heap [] := va_S.rf
  have hl := lv_entry ([ss_v (ss_b G) this]) (n := 2) (by simp [lg_sl, ss_v_cat, ss_cat_i, ss_cat_l, ss_cat_r])
  rw [lg_entry_eq]
  generalize (lg_sl ([ss_v (ss_b G) this]) ++ List.replicate (2 - (lg_sl ([ss_v (ss_b G) this])).length) Slot.unset).toArray = ls at hl ⊢
  have hl : lv_has ls 2 [(0, ss_v (ss_b G) this)] := by simpa [lv_args, ss_v_cat, ss_cat_i, ss_cat_l, ss_cat_r] using hl
  refine lv_iconst (v := 0) hx hb dd_P_leastPact_0 (by decide) ?_
  refine lv_istore_n (lv' := [(1, .int (0 : Int32)), (0, ss_v (ss_b G) this)]) hx hb dd_P_leastPact_1 rfl hl (by decide) (by simp only [List.filter_cons, ss_v_cat]; rfl) (fun ls hl => ?_)
  obtain ⟨e_2, he_2, hm⟩ := ss_bind hm
  have X_2_26 : ∀  (H : Heap) (locs : List Loc) (ls : Array Slot), e_2 = (.inl ()) → ss_R G h H → va_S (ss_A G) s.heap H locs → lv_has ls 2 [] → ww_P_leastPact p l e s m below meth c G this h rr  H locs 0 0 (F0 m 26 ls []) := by
    intro  H locs ls hq hR hS hl
    rw [hq] at hm
    refine lv_bipush (v := -2) hx hb dd_P_leastPact_26 (by decide) ?_
    exact ss_iret hC hr hlocks hR hS (ss_with _ hm) dd_P_leastPact_28
  have X_2_18 : ∀ (y1_2_18 : Int32) (H : Heap) (locs : List Loc) (ls : Array Slot), e_2 = (.inr y1_2_18) → ss_R G h H → va_S (ss_A G) s.heap H locs → lv_has ls 2 [(1, .int y1_2_18)] → ww_P_leastPact p l e s m below meth c G this h rr  H locs 0 0 (F0 m 18 ls []) := by
    intro y1_2_18 H locs ls hq hR hS hl
    rw [hq] at hm
    refine lv_iload_n hx hb dd_P_leastPact_18 rfl (lv_at hl 0 rfl) ?_
    exact ss_iret hC hr hlocks hR hS (ss_with _ hm) dd_P_leastPact_19
  have L_2 : ∀ (n : Nat) (x1_2 : Int32) (H : Heap) (locs : List Loc) (ls : Array Slot), ss_lp (mm_P_leastPact_b2 N this h) n x1_2 = some e_2 → ss_R G h H → va_S (ss_A G) s.heap H locs → lv_has ls 2 [(0, ss_v (ss_b G) this), (1, .int x1_2)] → ww_P_leastPact p l e s m below meth c G this h rr  H locs 0 0 (F0 m 2 ls []) := by
    intro n
    induction n with
    | zero => intro x1_2 H locs ls hm; cases hm
    | succ n ih_2 =>
      intro x1_2 H locs ls hm hR hS hl
      obtain ⟨z_2, hm, hz1_2, hz2_2⟩ := ss_lps hm
      refine lv_iload_n hx hb dd_P_leastPact_2 rfl (lv_at hl 1 rfl) ?_
      refine ss_aload_n hx hb dd_P_leastPact_3 rfl (lv_at hl 0 rfl) ?_
      obtain ⟨v1, qv1, hm⟩ := ss_bind hm
      refine ss_cV 0 0 (As := []) hC hK hR hS hl.1 (cc_P_setCount l G N _ _ _ qv1) km_P_112 (ck_P_setCount qv1) ⟨Nat.le_of_ble_eq_true rfl, Nat.le_of_ble_eq_true rfl⟩ ⟨Nat.le_of_ble_eq_true rfl, Nat.le_of_ble_eq_true rfl, Nat.le_of_ble_eq_true rfl, Nat.le_of_ble_eq_true rfl⟩ rfl rfl (Nat.le_of_ble_eq_true rfl) dd_P_leastPact_4 (fun H locs hR hS => ?_)
      refine lv_icmp_ge (tgt := 26) hx hb dd_P_leastPact_7 (by decide) (fun c2 => ?_) (fun c2 => ?_)
      · have hm := ss_ift hm c2
        exact X_2_26  _ _ _ (hz2_2 _ (ss_some hm)) hR hS (lv_sub hl [] rfl)
      · have hm := ss_iff hm c2
        refine ss_aload_n hx hb dd_P_leastPact_10 rfl (lv_at hl 0 rfl) ?_
        refine lv_iload_n hx hb dd_P_leastPact_11 rfl (lv_at hl 1 rfl) ?_
        obtain ⟨v3, qv3, hm⟩ := ss_bind hm
        refine ss_cV 0 0 (As := [.int x1_2]) hC hK hR hS hl.1 (cc_P_isPact l G N _ _ _ _ qv3) km_P_138 (ck_P_isPact qv3) ⟨Nat.le_of_ble_eq_true rfl, Nat.le_of_ble_eq_true rfl⟩ ⟨Nat.le_of_ble_eq_true rfl, Nat.le_of_ble_eq_true rfl, Nat.le_of_ble_eq_true rfl, Nat.le_of_ble_eq_true rfl⟩ rfl rfl (Nat.le_of_ble_eq_true rfl) dd_P_leastPact_12 (fun H locs hR hS => ?_)
        refine lv_if_eq (tgt := 20) hx hb dd_P_leastPact_15 (by decide) (fun c4 => ?_) (fun c4 => ?_)
        · have hm := ss_ift hm c4
          obtain ⟨v5, qv5, hm⟩ := ss_bind hm
          refine lv_iinc (v := v5) (lv' := [(1, .int v5), (0, ss_v (ss_b G) this)]) hx hb dd_P_leastPact_20 hl (k := 1) rfl (ss_inc (by decide) qv5) (by decide) (by simp only [List.filter_cons, ss_v_cat]; rfl) (fun ls hl => ?_)
          refine lv_goto (tgt := 2) hx hb dd_P_leastPact_23 (by decide) ?_
          exact ih_2 v5  _ _ _ (hz1_2 _ (ss_some hm)) hR hS (lv_sub hl [1, 0] rfl)
        · have hm := ss_iff hm c4
          exact X_2_18 x1_2  _ _ _ (hz2_2 _ (ss_some hm)) hR hS (lv_sub hl [1] rfl)
  exact L_2 N (0 : Int32) _ _ _ he_2 hR hS (lv_sub hl [1, 0] rfl)
theorem dd_S_pacts_0 : decode bb_S_pacts 0 = .ok (.aload_n 0, 1) := by decide +kernel
theorem dd_S_pacts_1 : decode bb_S_pacts 1 = .ok (.getfield 41, 3) := by decide +kernel
theorem dd_S_pacts_4 : decode bb_S_pacts 4 = .ok (.getfield 58, 3) := by decide +kernel
theorem dd_S_pacts_7 : decode bb_S_pacts 7 = .ok (.getfield 169, 3) := by decide +kernel
theorem dd_S_pacts_10 : decode bb_S_pacts 10 = .ok (.ifCond .eq 22, 3) := by decide +kernel
theorem dd_S_pacts_13 : decode bb_S_pacts 13 = .ok (.iload_n 1, 1) := by decide +kernel
theorem dd_S_pacts_14 : decode bb_S_pacts 14 = .ok (.iconst 1, 1) := by decide +kernel
theorem dd_S_pacts_15 : decode bb_S_pacts 15 = .ok (.bipush 30, 2) := by decide +kernel
theorem dd_S_pacts_17 : decode bb_S_pacts 17 = .ok (.invokestatic 194, 3) := by decide +kernel
theorem dd_S_pacts_20 : decode bb_S_pacts 20 = .ok (.ifCond .eq 12, 3) := by decide +kernel
theorem dd_S_pacts_23 : decode bb_S_pacts 23 = .ok (.iload_n 2, 1) := by decide +kernel
theorem dd_S_pacts_24 : decode bb_S_pacts 24 = .ok (.iconst 0, 1) := by decide +kernel
theorem dd_S_pacts_25 : decode bb_S_pacts 25 = .ok (.iconst 2, 1) := by decide +kernel
theorem dd_S_pacts_26 : decode bb_S_pacts 26 = .ok (.invokestatic 194, 3) := by decide +kernel
theorem dd_S_pacts_29 : decode bb_S_pacts 29 = .ok (.ifCond .ne 5, 3) := by decide +kernel
theorem dd_S_pacts_32 : decode bb_S_pacts 32 = .ok (.iconst (-1), 1) := by decide +kernel
theorem dd_S_pacts_33 : decode bb_S_pacts 33 = .ok (.ireturn, 1) := by decide +kernel
theorem dd_S_pacts_34 : decode bb_S_pacts 34 = .ok (.aload_n 0, 1) := by decide +kernel
theorem dd_S_pacts_35 : decode bb_S_pacts 35 = .ok (.getfield 83, 3) := by decide +kernel
theorem dd_S_pacts_38 : decode bb_S_pacts 38 = .ok (.iload_n 1, 1) := by decide +kernel
theorem dd_S_pacts_39 : decode bb_S_pacts 39 = .ok (.invokevirtual 243, 3) := by decide +kernel
theorem dd_S_pacts_42 : decode bb_S_pacts 42 = .ok (.iload_n 2, 1) := by decide +kernel
theorem dd_S_pacts_43 : decode bb_S_pacts 43 = .ok (.iconst 2, 1) := by decide +kernel
theorem dd_S_pacts_44 : decode bb_S_pacts 44 = .ok (.if_icmp .ne 11, 3) := by decide +kernel
theorem dd_S_pacts_47 : decode bb_S_pacts 47 = .ok (.aload_n 0, 1) := by decide +kernel
theorem dd_S_pacts_48 : decode bb_S_pacts 48 = .ok (.getfield 83, 3) := by decide +kernel
theorem dd_S_pacts_51 : decode bb_S_pacts 51 = .ok (.invokevirtual 246, 3) := by decide +kernel
theorem dd_S_pacts_54 : decode bb_S_pacts 54 = .ok (.ireturn, 1) := by decide +kernel
theorem dd_S_pacts_55 : decode bb_S_pacts 55 = .ok (.iload_n 2, 1) := by decide +kernel
theorem dd_S_pacts_56 : decode bb_S_pacts 56 = .ok (.ifCond .ne 13, 3) := by decide +kernel
theorem dd_S_pacts_59 : decode bb_S_pacts 59 = .ok (.aload_n 0, 1) := by decide +kernel
theorem dd_S_pacts_60 : decode bb_S_pacts 60 = .ok (.getfield 83, 3) := by decide +kernel
theorem dd_S_pacts_63 : decode bb_S_pacts 63 = .ok (.invokevirtual 249, 3) := by decide +kernel
theorem dd_S_pacts_66 : decode bb_S_pacts 66 = .ok (.goto 10, 3) := by decide +kernel
theorem dd_S_pacts_69 : decode bb_S_pacts 69 = .ok (.aload_n 0, 1) := by decide +kernel
theorem dd_S_pacts_70 : decode bb_S_pacts 70 = .ok (.getfield 83, 3) := by decide +kernel
theorem dd_S_pacts_73 : decode bb_S_pacts 73 = .ok (.invokevirtual 252, 3) := by decide +kernel
theorem dd_S_pacts_76 : decode bb_S_pacts 76 = .ok (.ireturn, 1) := by decide +kernel
def mm_S_pacts_j32 (N : Nat) (this : Option Nat) (a1 : Int32) (a2 : Int32) (h_32 : ss_Hp) : Option (Int32 × ss_Hp) :=
  some ((-1 : Int32), h_32)
def mm_S_pacts_j76 (N : Nat) (this : Option Nat) (a1 : Int32) (a2 : Int32) (s0_76 : Int32) (h_76 : ss_Hp) : Option (Int32 × ss_Hp) :=
  some (s0_76, h_76)
def mm_S_pacts (N : Nat) (this : Option Nat) (a1 : Int32) (a2 : Int32) (h : ss_Hp) : Option (Int32 × ss_Hp) :=
  if ss_is h this 11 = true then
    (ss_gr h this 11 4).bind fun r1 =>
    (ss_gr h r1 8 0).bind fun r2 =>
    (ss_gi h r2 5 0).bind fun v3 =>
    if v3 = 0 then
      mm_S_pacts_j32 N this a1 a2 h
    else
      (mm_S_isWithin N a1 (1 : Int32) (30 : Int32)).bind fun v5 =>
      if v5 = 0 then
        mm_S_pacts_j32 N this a1 a2 h
      else
        (mm_S_isWithin N a2 (0 : Int32) (2 : Int32)).bind fun v7 =>
        if v7 = 0 then
          mm_S_pacts_j32 N this a1 a2 h
        else
          (ss_gr h this 11 9).bind fun r9 =>
          (mm_P_weighSets N r9 a1 h).bind fun h10 =>
          if a2 = (2 : Int32) then
            (ss_gr h10 this 11 9).bind fun r17 =>
            (mm_P_spread N r17 h10).bind fun v18 =>
            some (v18, h10)
          else
            if a2 = 0 then
              (ss_gr h10 this 11 9).bind fun r15 =>
              (mm_P_pactCount N r15 h10).bind fun v16 =>
              mm_S_pacts_j76 N this a1 a2 v16 h10
            else
              (ss_gr h10 this 11 9).bind fun r13 =>
              (mm_P_leastPact N r13 h10).bind fun v14 =>
              mm_S_pacts_j76 N this a1 a2 v14 h10
  else none
abbrev ww_S_pacts (p : Program) (l : Launch) (e : Env) (s : State) (m : MethodId) (below : List Frame) (meth : Method) (c : Code) (G : ss_G) (this : Option Nat) (a1 : Int32) (a2 : Int32) (h : ss_Hp) (rr : Int32) (hh : ss_Hp) (H : Heap) (locs : List Loc) (k n : Nat) (g : JFrame) : Prop := W p l e (headSpec (ss_w yy_S_pacts bb_S_pacts 3 (some (.int))) ({ frames := 5, cells := 0, slots := 0, locals := 172 })).room s m ([ss_v (ss_b G) this, .int a1, .int a2] : List Value).toArray below meth c H locs k n (MQ below (ss_Qc G (some (.int rr)) hh) ([ss_v (ss_b G) this, .int a1, .int a2] : List Value).toArray s 0 0 (ss_A G)) g
theorem ck_S_pacts {N : Nat} {this : Option Nat} {a1 : Int32} {a2 : Int32} {h : ss_Hp} {res : Int32 × ss_Hp} (hm : mm_S_pacts N this a1 a2 h = some res) : ss_is h this 11 = true := (ss_chk hm).1
set_option maxHeartbeats 4000000 in
set_option maxRecDepth 100000 in
theorem cc_S_pacts (l : Launch) (G : ss_G) (N : Nat) (this : Option Nat) (a1 : Int32) (a2 : Int32) (h : ss_Hp) (rr : Int32) (hh : ss_Hp) (hm : mm_S_pacts N this a1 a2 h = some (rr, hh)) : ss_Ct l G yy_S_pacts bb_S_pacts 3 (some (.int)) ({ frames := 5, cells := 0, slots := 0, locals := 172 }) [ss_v (ss_b G) this, .int a1, .int a2] h (some (.int rr)) hh := by
  obtain ⟨hck, hm⟩ := ss_chk hm
  refine Met.ofW (cc := bb_S_pacts) (maxL := 3) (ret := (some (.int))) (by decide) rfl ?_
  intro p e s m args below meth c s₁ B hml hv
  obtain ⟨rfl, hR, hK⟩ := hv
  have hC : CallFix p m c bb_S_pacts 3 s _ lw_g sR_11 := ⟨B.exec, B.bytes, hml, findClass_of_methodNamed B.named, fun w hw => atoms_spec (ws := ss_w yy_S_pacts bb_S_pacts 3 (some (.int))) B.pre w (List.mem_cons_of_mem _ hw)⟩
  have hx := hC.1
  have hb := hC.2.1
  have hr := B.returns
  have hlocks := B.notSynchronized
  have hS : va_S (ss_A G) s.heap s.heap [] := va_S.rf
  have hl := lv_entry ([ss_v (ss_b G) this, .int a1, .int a2]) (n := 3) (by simp [lg_sl, ss_v_cat, ss_cat_i, ss_cat_l, ss_cat_r])
  rw [lg_entry_eq]
  generalize (lg_sl ([ss_v (ss_b G) this, .int a1, .int a2]) ++ List.replicate (3 - (lg_sl ([ss_v (ss_b G) this, .int a1, .int a2])).length) Slot.unset).toArray = ls at hl ⊢
  have hl : lv_has ls 3 [(0, ss_v (ss_b G) this), (1, .int a1), (2, .int a2)] := by simpa [lv_args, ss_v_cat, ss_cat_i, ss_cat_l, ss_cat_r] using hl
  have J_32 : ∀ (h_32 : ss_Hp) (H : Heap) (locs : List Loc) (ls : Array Slot), mm_S_pacts_j32 N this a1 a2 h_32 = some (rr, hh) → ss_R G h_32 H → va_S (ss_A G) s.heap H locs → lv_has ls 3 [] → ww_S_pacts p l e s m below meth c G this a1 a2 h rr hh  H locs 0 0 (F0 m 32 ls []) := by
    intro h_32 H locs ls hm hR hS hl
    refine lv_iconst (v := -1) hx hb dd_S_pacts_32 (by decide) ?_
    exact ss_iret hC hr hlocks hR hS hm dd_S_pacts_33
  have J_76 : ∀ (s0_76 : Int32) (h_76 : ss_Hp) (H : Heap) (locs : List Loc) (ls : Array Slot), mm_S_pacts_j76 N this a1 a2 s0_76 h_76 = some (rr, hh) → ss_R G h_76 H → va_S (ss_A G) s.heap H locs → lv_has ls 3 [] → ww_S_pacts p l e s m below meth c G this a1 a2 h rr hh  H locs 0 0 (F0 m 76 ls [.int s0_76]) := by
    intro s0_76 h_76 H locs ls hm hR hS hl
    exact ss_iret hC hr hlocks hR hS hm dd_S_pacts_76
  refine ss_aload_n hx hb dd_S_pacts_0 rfl (lv_at hl 0 rfl) ?_
  obtain ⟨r1, qr1, hm⟩ := ss_bind hm
  refine ss_getr hC hK hR kf_S_41 rfl qr1 dd_S_pacts_1 ?_
  obtain ⟨r2, qr2, hm⟩ := ss_bind hm
  refine ss_getr hC hK hR kf_S_58 rfl qr2 dd_S_pacts_4 ?_
  obtain ⟨v3, qv3, hm⟩ := ss_bind hm
  refine ss_geti hC hK hR kf_S_169 qv3 dd_S_pacts_7 ?_
  refine lv_if_eq (tgt := 32) hx hb dd_S_pacts_10 (by decide) (fun c4 => ?_) (fun c4 => ?_)
  · have hm := ss_ift hm c4
    exact J_32 h _ _ _ hm hR hS (lv_sub hl [] rfl)
  · have hm := ss_iff hm c4
    refine lv_iload_n hx hb dd_S_pacts_13 rfl (lv_at hl 1 rfl) ?_
    refine lv_iconst (v := 1) hx hb dd_S_pacts_14 (by decide) ?_
    refine lv_bipush (v := 30) hx hb dd_S_pacts_15 (by decide) ?_
    obtain ⟨v5, qv5, hm⟩ := ss_bind hm
    refine ss_cS 0 0 (As := [.int a1, .int (1 : Int32), .int (30 : Int32)]) hC hK hR hS hl.1 (cc_S_isWithin l G N _ _ _ _ _ qv5) km_S_194 ⟨Nat.le_of_ble_eq_true rfl, Nat.le_of_ble_eq_true rfl⟩ ⟨Nat.le_of_ble_eq_true rfl, Nat.le_of_ble_eq_true rfl, Nat.le_of_ble_eq_true rfl, Nat.le_of_ble_eq_true rfl⟩ rfl rfl (Nat.le_of_ble_eq_true rfl) dd_S_pacts_17 (fun H locs hR hS => ?_)
    refine lv_if_eq (tgt := 32) hx hb dd_S_pacts_20 (by decide) (fun c6 => ?_) (fun c6 => ?_)
    · have hm := ss_ift hm c6
      exact J_32 h _ _ _ hm hR hS (lv_sub hl [] rfl)
    · have hm := ss_iff hm c6
      refine lv_iload_n hx hb dd_S_pacts_23 rfl (lv_at hl 2 rfl) ?_
      refine lv_iconst (v := 0) hx hb dd_S_pacts_24 (by decide) ?_
      refine lv_iconst (v := 2) hx hb dd_S_pacts_25 (by decide) ?_
      obtain ⟨v7, qv7, hm⟩ := ss_bind hm
      refine ss_cS 0 0 (As := [.int a2, .int (0 : Int32), .int (2 : Int32)]) hC hK hR hS hl.1 (cc_S_isWithin l G N _ _ _ _ _ qv7) km_S_194 ⟨Nat.le_of_ble_eq_true rfl, Nat.le_of_ble_eq_true rfl⟩ ⟨Nat.le_of_ble_eq_true rfl, Nat.le_of_ble_eq_true rfl, Nat.le_of_ble_eq_true rfl, Nat.le_of_ble_eq_true rfl⟩ rfl rfl (Nat.le_of_ble_eq_true rfl) dd_S_pacts_26 (fun H locs hR hS => ?_)
      refine lv_if_ne (tgt := 34) hx hb dd_S_pacts_29 (by decide) (fun c8 => ?_) (fun c8 => ?_)
      · have hm := ss_iff hm c8
        refine ss_aload_n hx hb dd_S_pacts_34 rfl (lv_at hl 0 rfl) ?_
        obtain ⟨r9, qr9, hm⟩ := ss_bind hm
        refine ss_getr hC hK hR kf_S_83 rfl qr9 dd_S_pacts_35 ?_
        refine lv_iload_n hx hb dd_S_pacts_38 rfl (lv_at hl 1 rfl) ?_
        obtain ⟨h10, qh10, hm⟩ := ss_bind hm
        refine ss_cVv 0 0 (As := [.int a1]) hC hK hR hS hl.1 (cc_P_weighSets l G N _ _ _ _ qh10) km_S_243 (ck_P_weighSets qh10) ⟨Nat.le_of_ble_eq_true rfl, Nat.le_of_ble_eq_true rfl⟩ ⟨Nat.le_of_ble_eq_true rfl, Nat.le_of_ble_eq_true rfl, Nat.le_of_ble_eq_true rfl, Nat.le_of_ble_eq_true rfl⟩ rfl rfl (Nat.le_of_ble_eq_true rfl) dd_S_pacts_39 (fun H locs hR hS => ?_)
        refine lv_iload_n hx hb dd_S_pacts_42 rfl (lv_at hl 2 rfl) ?_
        refine lv_iconst (v := 2) hx hb dd_S_pacts_43 (by decide) ?_
        refine lv_icmp_ne (tgt := 55) hx hb dd_S_pacts_44 (by decide) (fun c11 => ?_) (fun c11 => ?_)
        · have hm := ss_iff hm c11
          refine lv_iload_n hx hb dd_S_pacts_55 rfl (lv_at hl 2 rfl) ?_
          refine lv_if_ne (tgt := 69) hx hb dd_S_pacts_56 (by decide) (fun c12 => ?_) (fun c12 => ?_)
          · have hm := ss_iff hm c12
            refine ss_aload_n hx hb dd_S_pacts_69 rfl (lv_at hl 0 rfl) ?_
            obtain ⟨r13, qr13, hm⟩ := ss_bind hm
            refine ss_getr hC hK hR kf_S_83 rfl qr13 dd_S_pacts_70 ?_
            obtain ⟨v14, qv14, hm⟩ := ss_bind hm
            refine ss_cV 0 0 (As := []) hC hK hR hS hl.1 (cc_P_leastPact l G N _ _ _ qv14) km_S_252 (ck_P_leastPact qv14) ⟨Nat.le_of_ble_eq_true rfl, Nat.le_of_ble_eq_true rfl⟩ ⟨Nat.le_of_ble_eq_true rfl, Nat.le_of_ble_eq_true rfl, Nat.le_of_ble_eq_true rfl, Nat.le_of_ble_eq_true rfl⟩ rfl rfl (Nat.le_of_ble_eq_true rfl) dd_S_pacts_73 (fun H locs hR hS => ?_)
            exact J_76 v14 h10 _ _ _ hm hR hS (lv_sub hl [] rfl)
          · have hm := ss_ift hm c12
            refine ss_aload_n hx hb dd_S_pacts_59 rfl (lv_at hl 0 rfl) ?_
            obtain ⟨r15, qr15, hm⟩ := ss_bind hm
            refine ss_getr hC hK hR kf_S_83 rfl qr15 dd_S_pacts_60 ?_
            obtain ⟨v16, qv16, hm⟩ := ss_bind hm
            refine ss_cV 0 0 (As := []) hC hK hR hS hl.1 (cc_P_pactCount l G N _ _ _ qv16) km_S_249 (ck_P_pactCount qv16) ⟨Nat.le_of_ble_eq_true rfl, Nat.le_of_ble_eq_true rfl⟩ ⟨Nat.le_of_ble_eq_true rfl, Nat.le_of_ble_eq_true rfl, Nat.le_of_ble_eq_true rfl, Nat.le_of_ble_eq_true rfl⟩ rfl rfl (Nat.le_of_ble_eq_true rfl) dd_S_pacts_63 (fun H locs hR hS => ?_)
            refine lv_goto (tgt := 76) hx hb dd_S_pacts_66 (by decide) ?_
            exact J_76 v16 h10 _ _ _ hm hR hS (lv_sub hl [] rfl)
        · have hm := ss_ift hm c11
          refine ss_aload_n hx hb dd_S_pacts_47 rfl (lv_at hl 0 rfl) ?_
          obtain ⟨r17, qr17, hm⟩ := ss_bind hm
          refine ss_getr hC hK hR kf_S_83 rfl qr17 dd_S_pacts_48 ?_
          obtain ⟨v18, qv18, hm⟩ := ss_bind hm
          refine ss_cV 0 0 (As := []) hC hK hR hS hl.1 (cc_P_spread l G N _ _ _ qv18) km_S_246 (ck_P_spread qv18) ⟨Nat.le_of_ble_eq_true rfl, Nat.le_of_ble_eq_true rfl⟩ ⟨Nat.le_of_ble_eq_true rfl, Nat.le_of_ble_eq_true rfl, Nat.le_of_ble_eq_true rfl, Nat.le_of_ble_eq_true rfl⟩ rfl rfl (Nat.le_of_ble_eq_true rfl) dd_S_pacts_51 (fun H locs hR hS => ?_)
          exact ss_iret hC hr hlocks hR hS hm dd_S_pacts_54
      · have hm := ss_ift hm c8
        exact J_32 h _ _ _ hm hR hS (lv_sub hl [] rfl)
theorem dd_S_thrownOn_0 : decode bb_S_thrownOn 0 = .ok (.aload_n 0, 1) := by decide +kernel
theorem dd_S_thrownOn_1 : decode bb_S_thrownOn 1 = .ok (.iload_n 1, 1) := by decide +kernel
theorem dd_S_thrownOn_2 : decode bb_S_thrownOn 2 = .ok (.invokevirtual 123, 3) := by decide +kernel
theorem dd_S_thrownOn_5 : decode bb_S_thrownOn 5 = .ok (.ifCond .eq 22, 3) := by decide +kernel
theorem dd_S_thrownOn_8 : decode bb_S_thrownOn 8 = .ok (.iload_n 2, 1) := by decide +kernel
theorem dd_S_thrownOn_9 : decode bb_S_thrownOn 9 = .ok (.iconst 1, 1) := by decide +kernel
theorem dd_S_thrownOn_10 : decode bb_S_thrownOn 10 = .ok (.bipush 60, 2) := by decide +kernel
theorem dd_S_thrownOn_12 : decode bb_S_thrownOn 12 = .ok (.invokestatic 194, 3) := by decide +kernel
theorem dd_S_thrownOn_15 : decode bb_S_thrownOn 15 = .ok (.ifCond .eq 12, 3) := by decide +kernel
theorem dd_S_thrownOn_18 : decode bb_S_thrownOn 18 = .ok (.iload_n 3, 1) := by decide +kernel
theorem dd_S_thrownOn_19 : decode bb_S_thrownOn 19 = .ok (.iconst 0, 1) := by decide +kernel
theorem dd_S_thrownOn_20 : decode bb_S_thrownOn 20 = .ok (.iconst 1, 1) := by decide +kernel
theorem dd_S_thrownOn_21 : decode bb_S_thrownOn 21 = .ok (.invokestatic 194, 3) := by decide +kernel
theorem dd_S_thrownOn_24 : decode bb_S_thrownOn 24 = .ok (.ifCond .ne 5, 3) := by decide +kernel
theorem dd_S_thrownOn_27 : decode bb_S_thrownOn 27 = .ok (.iconst (-1), 1) := by decide +kernel
theorem dd_S_thrownOn_28 : decode bb_S_thrownOn 28 = .ok (.ireturn, 1) := by decide +kernel
theorem dd_S_thrownOn_29 : decode bb_S_thrownOn 29 = .ok (.aload_n 0, 1) := by decide +kernel
theorem dd_S_thrownOn_30 : decode bb_S_thrownOn 30 = .ok (.getfield 74, 3) := by decide +kernel
theorem dd_S_thrownOn_33 : decode bb_S_thrownOn 33 = .ok (.iload_n 2, 1) := by decide +kernel
theorem dd_S_thrownOn_34 : decode bb_S_thrownOn 34 = .ok (.invokevirtual 255, 3) := by decide +kernel
theorem dd_S_thrownOn_37 : decode bb_S_thrownOn 37 = .ok (.iload_n 3, 1) := by decide +kernel
theorem dd_S_thrownOn_38 : decode bb_S_thrownOn 38 = .ok (.ifCond .ne 15, 3) := by decide +kernel
theorem dd_S_thrownOn_41 : decode bb_S_thrownOn 41 = .ok (.aload_n 0, 1) := by decide +kernel
theorem dd_S_thrownOn_42 : decode bb_S_thrownOn 42 = .ok (.getfield 65, 3) := by decide +kernel
theorem dd_S_thrownOn_45 : decode bb_S_thrownOn 45 = .ok (.getfield 258, 3) := by decide +kernel
theorem dd_S_thrownOn_48 : decode bb_S_thrownOn 48 = .ok (.iload_n 1, 1) := by decide +kernel
theorem dd_S_thrownOn_49 : decode bb_S_thrownOn 49 = .ok (.iaload, 1) := by decide +kernel
theorem dd_S_thrownOn_50 : decode bb_S_thrownOn 50 = .ok (.goto 12, 3) := by decide +kernel
theorem dd_S_thrownOn_53 : decode bb_S_thrownOn 53 = .ok (.aload_n 0, 1) := by decide +kernel
theorem dd_S_thrownOn_54 : decode bb_S_thrownOn 54 = .ok (.getfield 65, 3) := by decide +kernel
theorem dd_S_thrownOn_57 : decode bb_S_thrownOn 57 = .ok (.getfield 261, 3) := by decide +kernel
theorem dd_S_thrownOn_60 : decode bb_S_thrownOn 60 = .ok (.iload_n 1, 1) := by decide +kernel
theorem dd_S_thrownOn_61 : decode bb_S_thrownOn 61 = .ok (.iaload, 1) := by decide +kernel
theorem dd_S_thrownOn_62 : decode bb_S_thrownOn 62 = .ok (.ireturn, 1) := by decide +kernel
def mm_S_thrownOn_j27 (N : Nat) (this : Option Nat) (a1 : Int32) (a2 : Int32) (a3 : Int32) (h_27 : ss_Hp) : Option (Int32 × ss_Hp) :=
  some ((-1 : Int32), h_27)
def mm_S_thrownOn_j62 (N : Nat) (this : Option Nat) (a1 : Int32) (a2 : Int32) (a3 : Int32) (s0_62 : Int32) (h_62 : ss_Hp) : Option (Int32 × ss_Hp) :=
  some (s0_62, h_62)
def mm_S_thrownOn (N : Nat) (this : Option Nat) (a1 : Int32) (a2 : Int32) (a3 : Int32) (h : ss_Hp) : Option (Int32 × ss_Hp) :=
  if ss_is h this 11 = true then
    (mm_S_isStep N this a1 h).bind fun v1 =>
    if v1 = 0 then
      mm_S_thrownOn_j27 N this a1 a2 a3 h
    else
      (mm_S_isWithin N a2 (1 : Int32) (60 : Int32)).bind fun v3 =>
      if v3 = 0 then
        mm_S_thrownOn_j27 N this a1 a2 a3 h
      else
        (mm_S_isWithin N a3 (0 : Int32) (1 : Int32)).bind fun v5 =>
        if v5 = 0 then
          mm_S_thrownOn_j27 N this a1 a2 a3 h
        else
          (ss_gr h this 11 8).bind fun r7 =>
          (mm_F_go N r7 a2 h).bind fun h8 =>
          if a3 = 0 then
            (ss_gr h8 this 11 7).bind fun r13 =>
            (ss_gr h8 r13 7 2).bind fun r14 =>
            (ss_ai h8 r14 20 a1).bind fun v15 =>
            mm_S_thrownOn_j62 N this a1 a2 a3 v15 h8
          else
            (ss_gr h8 this 11 7).bind fun r10 =>
            (ss_gr h8 r10 7 3).bind fun r11 =>
            (ss_ai h8 r11 20 a1).bind fun v12 =>
            mm_S_thrownOn_j62 N this a1 a2 a3 v12 h8
  else none
abbrev ww_S_thrownOn (p : Program) (l : Launch) (e : Env) (s : State) (m : MethodId) (below : List Frame) (meth : Method) (c : Code) (G : ss_G) (this : Option Nat) (a1 : Int32) (a2 : Int32) (a3 : Int32) (h : ss_Hp) (rr : Int32) (hh : ss_Hp) (H : Heap) (locs : List Loc) (k n : Nat) (g : JFrame) : Prop := W p l e (headSpec (ss_w yy_S_thrownOn bb_S_thrownOn 4 (some (.int))) ({ frames := 6, cells := 0, slots := 0, locals := 170 })).room s m ([ss_v (ss_b G) this, .int a1, .int a2, .int a3] : List Value).toArray below meth c H locs k n (MQ below (ss_Qc G (some (.int rr)) hh) ([ss_v (ss_b G) this, .int a1, .int a2, .int a3] : List Value).toArray s 0 0 (ss_A G)) g
theorem ck_S_thrownOn {N : Nat} {this : Option Nat} {a1 : Int32} {a2 : Int32} {a3 : Int32} {h : ss_Hp} {res : Int32 × ss_Hp} (hm : mm_S_thrownOn N this a1 a2 a3 h = some res) : ss_is h this 11 = true := (ss_chk hm).1
set_option maxHeartbeats 4000000 in
set_option maxRecDepth 100000 in
theorem cc_S_thrownOn (l : Launch) (G : ss_G) (N : Nat) (this : Option Nat) (a1 : Int32) (a2 : Int32) (a3 : Int32) (h : ss_Hp) (rr : Int32) (hh : ss_Hp) (hm : mm_S_thrownOn N this a1 a2 a3 h = some (rr, hh)) : ss_Ct l G yy_S_thrownOn bb_S_thrownOn 4 (some (.int)) ({ frames := 6, cells := 0, slots := 0, locals := 170 }) [ss_v (ss_b G) this, .int a1, .int a2, .int a3] h (some (.int rr)) hh := by
  obtain ⟨hck, hm⟩ := ss_chk hm
  refine Met.ofW (cc := bb_S_thrownOn) (maxL := 4) (ret := (some (.int))) (by decide) rfl ?_
  intro p e s m args below meth c s₁ B hml hv
  obtain ⟨rfl, hR, hK⟩ := hv
  have hC : CallFix p m c bb_S_thrownOn 4 s _ lw_g sR_11 := ⟨B.exec, B.bytes, hml, findClass_of_methodNamed B.named, fun w hw => atoms_spec (ws := ss_w yy_S_thrownOn bb_S_thrownOn 4 (some (.int))) B.pre w (List.mem_cons_of_mem _ hw)⟩
  have hx := hC.1
  have hb := hC.2.1
  have hr := B.returns
  have hlocks := B.notSynchronized
  have hS : va_S (ss_A G) s.heap s.heap [] := va_S.rf
  have hl := lv_entry ([ss_v (ss_b G) this, .int a1, .int a2, .int a3]) (n := 4) (by simp [lg_sl, ss_v_cat, ss_cat_i, ss_cat_l, ss_cat_r])
  rw [lg_entry_eq]
  generalize (lg_sl ([ss_v (ss_b G) this, .int a1, .int a2, .int a3]) ++ List.replicate (4 - (lg_sl ([ss_v (ss_b G) this, .int a1, .int a2, .int a3])).length) Slot.unset).toArray = ls at hl ⊢
  have hl : lv_has ls 4 [(0, ss_v (ss_b G) this), (1, .int a1), (2, .int a2), (3, .int a3)] := by simpa [lv_args, ss_v_cat, ss_cat_i, ss_cat_l, ss_cat_r] using hl
  have J_27 : ∀ (h_27 : ss_Hp) (H : Heap) (locs : List Loc) (ls : Array Slot), mm_S_thrownOn_j27 N this a1 a2 a3 h_27 = some (rr, hh) → ss_R G h_27 H → va_S (ss_A G) s.heap H locs → lv_has ls 4 [] → ww_S_thrownOn p l e s m below meth c G this a1 a2 a3 h rr hh  H locs 0 0 (F0 m 27 ls []) := by
    intro h_27 H locs ls hm hR hS hl
    refine lv_iconst (v := -1) hx hb dd_S_thrownOn_27 (by decide) ?_
    exact ss_iret hC hr hlocks hR hS hm dd_S_thrownOn_28
  have J_62 : ∀ (s0_62 : Int32) (h_62 : ss_Hp) (H : Heap) (locs : List Loc) (ls : Array Slot), mm_S_thrownOn_j62 N this a1 a2 a3 s0_62 h_62 = some (rr, hh) → ss_R G h_62 H → va_S (ss_A G) s.heap H locs → lv_has ls 4 [] → ww_S_thrownOn p l e s m below meth c G this a1 a2 a3 h rr hh  H locs 0 0 (F0 m 62 ls [.int s0_62]) := by
    intro s0_62 h_62 H locs ls hm hR hS hl
    exact ss_iret hC hr hlocks hR hS hm dd_S_thrownOn_62
  refine ss_aload_n hx hb dd_S_thrownOn_0 rfl (lv_at hl 0 rfl) ?_
  refine lv_iload_n hx hb dd_S_thrownOn_1 rfl (lv_at hl 1 rfl) ?_
  obtain ⟨v1, qv1, hm⟩ := ss_bind hm
  refine ss_cV 0 0 (As := [.int a1]) hC hK hR hS hl.1 (cc_S_isStep l G N _ _ _ _ qv1) km_S_123 (ck_S_isStep qv1) ⟨Nat.le_of_ble_eq_true rfl, Nat.le_of_ble_eq_true rfl⟩ ⟨Nat.le_of_ble_eq_true rfl, Nat.le_of_ble_eq_true rfl, Nat.le_of_ble_eq_true rfl, Nat.le_of_ble_eq_true rfl⟩ rfl rfl (Nat.le_of_ble_eq_true rfl) dd_S_thrownOn_2 (fun H locs hR hS => ?_)
  refine lv_if_eq (tgt := 27) hx hb dd_S_thrownOn_5 (by decide) (fun c2 => ?_) (fun c2 => ?_)
  · have hm := ss_ift hm c2
    exact J_27 h _ _ _ hm hR hS (lv_sub hl [] rfl)
  · have hm := ss_iff hm c2
    refine lv_iload_n hx hb dd_S_thrownOn_8 rfl (lv_at hl 2 rfl) ?_
    refine lv_iconst (v := 1) hx hb dd_S_thrownOn_9 (by decide) ?_
    refine lv_bipush (v := 60) hx hb dd_S_thrownOn_10 (by decide) ?_
    obtain ⟨v3, qv3, hm⟩ := ss_bind hm
    refine ss_cS 0 0 (As := [.int a2, .int (1 : Int32), .int (60 : Int32)]) hC hK hR hS hl.1 (cc_S_isWithin l G N _ _ _ _ _ qv3) km_S_194 ⟨Nat.le_of_ble_eq_true rfl, Nat.le_of_ble_eq_true rfl⟩ ⟨Nat.le_of_ble_eq_true rfl, Nat.le_of_ble_eq_true rfl, Nat.le_of_ble_eq_true rfl, Nat.le_of_ble_eq_true rfl⟩ rfl rfl (Nat.le_of_ble_eq_true rfl) dd_S_thrownOn_12 (fun H locs hR hS => ?_)
    refine lv_if_eq (tgt := 27) hx hb dd_S_thrownOn_15 (by decide) (fun c4 => ?_) (fun c4 => ?_)
    · have hm := ss_ift hm c4
      exact J_27 h _ _ _ hm hR hS (lv_sub hl [] rfl)
    · have hm := ss_iff hm c4
      refine lv_iload_n hx hb dd_S_thrownOn_18 rfl (lv_at hl 3 rfl) ?_
      refine lv_iconst (v := 0) hx hb dd_S_thrownOn_19 (by decide) ?_
      refine lv_iconst (v := 1) hx hb dd_S_thrownOn_20 (by decide) ?_
      obtain ⟨v5, qv5, hm⟩ := ss_bind hm
      refine ss_cS 0 0 (As := [.int a3, .int (0 : Int32), .int (1 : Int32)]) hC hK hR hS hl.1 (cc_S_isWithin l G N _ _ _ _ _ qv5) km_S_194 ⟨Nat.le_of_ble_eq_true rfl, Nat.le_of_ble_eq_true rfl⟩ ⟨Nat.le_of_ble_eq_true rfl, Nat.le_of_ble_eq_true rfl, Nat.le_of_ble_eq_true rfl, Nat.le_of_ble_eq_true rfl⟩ rfl rfl (Nat.le_of_ble_eq_true rfl) dd_S_thrownOn_21 (fun H locs hR hS => ?_)
      refine lv_if_ne (tgt := 29) hx hb dd_S_thrownOn_24 (by decide) (fun c6 => ?_) (fun c6 => ?_)
      · have hm := ss_iff hm c6
        refine ss_aload_n hx hb dd_S_thrownOn_29 rfl (lv_at hl 0 rfl) ?_
        obtain ⟨r7, qr7, hm⟩ := ss_bind hm
        refine ss_getr hC hK hR kf_S_74 rfl qr7 dd_S_thrownOn_30 ?_
        refine lv_iload_n hx hb dd_S_thrownOn_33 rfl (lv_at hl 2 rfl) ?_
        obtain ⟨h8, qh8, hm⟩ := ss_bind hm
        refine ss_cVv 0 0 (As := [.int a2]) hC hK hR hS hl.1 (cc_F_go l G N _ _ _ _ qh8) km_S_255 (ck_F_go qh8) ⟨Nat.le_of_ble_eq_true rfl, Nat.le_of_ble_eq_true rfl⟩ ⟨Nat.le_of_ble_eq_true rfl, Nat.le_of_ble_eq_true rfl, Nat.le_of_ble_eq_true rfl, Nat.le_of_ble_eq_true rfl⟩ rfl rfl (Nat.le_of_ble_eq_true rfl) dd_S_thrownOn_34 (fun H locs hR hS => ?_)
        refine lv_iload_n hx hb dd_S_thrownOn_37 rfl (lv_at hl 3 rfl) ?_
        refine lv_if_ne (tgt := 53) hx hb dd_S_thrownOn_38 (by decide) (fun c9 => ?_) (fun c9 => ?_)
        · have hm := ss_iff hm c9
          refine ss_aload_n hx hb dd_S_thrownOn_53 rfl (lv_at hl 0 rfl) ?_
          obtain ⟨r10, qr10, hm⟩ := ss_bind hm
          refine ss_getr hC hK hR kf_S_65 rfl qr10 dd_S_thrownOn_54 ?_
          obtain ⟨r11, qr11, hm⟩ := ss_bind hm
          refine ss_getr hC hK hR kf_S_261 rfl qr11 dd_S_thrownOn_57 ?_
          refine lv_iload_n hx hb dd_S_thrownOn_60 rfl (lv_at hl 1 rfl) ?_
          obtain ⟨v12, qv12, hm⟩ := ss_bind hm
          refine ss_iald hC hK hR qv12 dd_S_thrownOn_61 ?_
          exact J_62 v12 h8 _ _ _ hm hR hS (lv_sub hl [] rfl)
        · have hm := ss_ift hm c9
          refine ss_aload_n hx hb dd_S_thrownOn_41 rfl (lv_at hl 0 rfl) ?_
          obtain ⟨r13, qr13, hm⟩ := ss_bind hm
          refine ss_getr hC hK hR kf_S_65 rfl qr13 dd_S_thrownOn_42 ?_
          obtain ⟨r14, qr14, hm⟩ := ss_bind hm
          refine ss_getr hC hK hR kf_S_258 rfl qr14 dd_S_thrownOn_45 ?_
          refine lv_iload_n hx hb dd_S_thrownOn_48 rfl (lv_at hl 1 rfl) ?_
          obtain ⟨v15, qv15, hm⟩ := ss_bind hm
          refine ss_iald hC hK hR qv15 dd_S_thrownOn_49 ?_
          refine lv_goto (tgt := 62) hx hb dd_S_thrownOn_50 (by decide) ?_
          exact J_62 v15 h8 _ _ _ hm hR hS (lv_sub hl [] rfl)
      · have hm := ss_ift hm c6
        exact J_27 h _ _ _ hm hR hS (lv_sub hl [] rfl)
theorem dd_F_closedBy_0 : decode bb_F_closedBy 0 = .ok (.aload_n 0, 1) := by decide +kernel
theorem dd_F_closedBy_1 : decode bb_F_closedBy 1 = .ok (.invokevirtual 51, 3) := by decide +kernel
theorem dd_F_closedBy_4 : decode bb_F_closedBy 4 = .ok (.iload_n 2, 1) := by decide +kernel
theorem dd_F_closedBy_5 : decode bb_F_closedBy 5 = .ok (.iconst (-1), 1) := by decide +kernel
theorem dd_F_closedBy_6 : decode bb_F_closedBy 6 = .ok (.if_icmp .eq 13, 3) := by decide +kernel
theorem dd_F_closedBy_9 : decode bb_F_closedBy 9 = .ok (.aload_n 0, 1) := by decide +kernel
theorem dd_F_closedBy_10 : decode bb_F_closedBy 10 = .ok (.getfield 27, 3) := by decide +kernel
theorem dd_F_closedBy_13 : decode bb_F_closedBy 13 = .ok (.iload_n 1, 1) := by decide +kernel
theorem dd_F_closedBy_14 : decode bb_F_closedBy 14 = .ok (.iload_n 2, 1) := by decide +kernel
theorem dd_F_closedBy_15 : decode bb_F_closedBy 15 = .ok (.invokevirtual 103, 3) := by decide +kernel
theorem dd_F_closedBy_18 : decode bb_F_closedBy 18 = .ok (.pop, 1) := by decide +kernel
theorem dd_F_closedBy_19 : decode bb_F_closedBy 19 = .ok (.iconst 0, 1) := by decide +kernel
theorem dd_F_closedBy_20 : decode bb_F_closedBy 20 = .ok (.istore 4, 2) := by decide +kernel
theorem dd_F_closedBy_22 : decode bb_F_closedBy 22 = .ok (.iload 4, 2) := by decide +kernel
theorem dd_F_closedBy_24 : decode bb_F_closedBy 24 = .ok (.iload_n 3, 1) := by decide +kernel
theorem dd_F_closedBy_25 : decode bb_F_closedBy 25 = .ok (.if_icmp .ge 17, 3) := by decide +kernel
theorem dd_F_closedBy_28 : decode bb_F_closedBy 28 = .ok (.aload_n 0, 1) := by decide +kernel
theorem dd_F_closedBy_29 : decode bb_F_closedBy 29 = .ok (.getfield 27, 3) := by decide +kernel
theorem dd_F_closedBy_32 : decode bb_F_closedBy 32 = .ok (.invokevirtual 54, 3) := by decide +kernel
theorem dd_F_closedBy_35 : decode bb_F_closedBy 35 = .ok (.pop, 1) := by decide +kernel
theorem dd_F_closedBy_36 : decode bb_F_closedBy 36 = .ok (.iinc 4 1, 3) := by decide +kernel
theorem dd_F_closedBy_39 : decode bb_F_closedBy 39 = .ok (.goto (-17), 3) := by decide +kernel
theorem dd_F_closedBy_42 : decode bb_F_closedBy 42 = .ok (.aload_n 0, 1) := by decide +kernel
theorem dd_F_closedBy_43 : decode bb_F_closedBy 43 = .ok (.getfield 27, 3) := by decide +kernel
theorem dd_F_closedBy_46 : decode bb_F_closedBy 46 = .ok (.invokevirtual 68, 3) := by decide +kernel
theorem dd_F_closedBy_49 : decode bb_F_closedBy 49 = .ok (.invokestatic 71, 3) := by decide +kernel
theorem dd_F_closedBy_52 : decode bb_F_closedBy 52 = .ok (.ireturn, 1) := by decide +kernel
def mm_F_closedBy_b22 (N : Nat) (this : Option Nat) (a3 : Int32) (st : Int32 × ss_Hp) : Option ((Int32 × ss_Hp) ⊕ ss_Hp) :=
  match st with
  | (x4_22, h_22) =>
    if a3 ≤ x4_22 then
      some (.inr h_22)
    else
      (ss_gr h_22 this 9 2).bind fun r5 =>
      ss_b2 (mm_Wi_passDay N r5 h_22) fun v6 h7 =>
      (some (x4_22 + (1 : Int32))).bind fun v8 =>
      some (.inl (v8, h7))
def mm_F_closedBy_j19 (N : Nat) (this : Option Nat) (a1 : Int32) (a2 : Int32) (a3 : Int32) (h_19 : ss_Hp) : Option (Int32 × ss_Hp) :=
  (ss_lp (mm_F_closedBy_b22 N this a3) N ((0 : Int32), h_19)).bind fun h_22_42 =>
  (ss_gr h_22_42 this 9 2).bind fun r1 =>
  (mm_Wi_closedBits N r1 h_22_42).bind fun v2 =>
  (mm_JI_bitCount N v2).bind fun v3 =>
  some (v3, h_22_42)
def mm_F_closedBy (N : Nat) (this : Option Nat) (a1 : Int32) (a2 : Int32) (a3 : Int32) (h : ss_Hp) : Option (Int32 × ss_Hp) :=
  if ss_is h this 9 = true then
    (mm_F_start N this h).bind fun h9 =>
    if a2 = (-1 : Int32) then
      mm_F_closedBy_j19 N this a1 a2 a3 h9
    else
      (ss_gr h9 this 9 2).bind fun r11 =>
      ss_b2 (mm_Wi_sweepBy N r11 a1 a2 h9) fun v12 h13 =>
      mm_F_closedBy_j19 N this a1 a2 a3 h13
  else none
abbrev ww_F_closedBy (p : Program) (l : Launch) (e : Env) (s : State) (m : MethodId) (below : List Frame) (meth : Method) (c : Code) (G : ss_G) (this : Option Nat) (a1 : Int32) (a2 : Int32) (a3 : Int32) (h : ss_Hp) (rr : Int32) (hh : ss_Hp) (H : Heap) (locs : List Loc) (k n : Nat) (g : JFrame) : Prop := W p l e (headSpec (ss_w yy_F_closedBy bb_F_closedBy 5 (some (.int))) ({ frames := 5, cells := 0, slots := 0, locals := 148 })).room s m ([ss_v (ss_b G) this, .int a1, .int a2, .int a3] : List Value).toArray below meth c H locs k n (MQ below (ss_Qc G (some (.int rr)) hh) ([ss_v (ss_b G) this, .int a1, .int a2, .int a3] : List Value).toArray s 0 0 (ss_A G)) g
theorem ck_F_closedBy {N : Nat} {this : Option Nat} {a1 : Int32} {a2 : Int32} {a3 : Int32} {h : ss_Hp} {res : Int32 × ss_Hp} (hm : mm_F_closedBy N this a1 a2 a3 h = some res) : ss_is h this 9 = true := (ss_chk hm).1
set_option maxHeartbeats 4000000 in
set_option maxRecDepth 100000 in
theorem cc_F_closedBy (l : Launch) (G : ss_G) (N : Nat) (this : Option Nat) (a1 : Int32) (a2 : Int32) (a3 : Int32) (h : ss_Hp) (rr : Int32) (hh : ss_Hp) (hm : mm_F_closedBy N this a1 a2 a3 h = some (rr, hh)) : ss_Ct l G yy_F_closedBy bb_F_closedBy 5 (some (.int)) ({ frames := 5, cells := 0, slots := 0, locals := 148 }) [ss_v (ss_b G) this, .int a1, .int a2, .int a3] h (some (.int rr)) hh := by
  obtain ⟨hck, hm⟩ := ss_chk hm
  refine Met.ofW (cc := bb_F_closedBy) (maxL := 5) (ret := (some (.int))) (by decide) rfl ?_
  intro p e s m args below meth c s₁ B hml hv
  obtain ⟨rfl, hR, hK⟩ := hv
  have hC : CallFix p m c bb_F_closedBy 5 s _ lw_g sR_9 := ⟨B.exec, B.bytes, hml, findClass_of_methodNamed B.named, fun w hw => atoms_spec (ws := ss_w yy_F_closedBy bb_F_closedBy 5 (some (.int))) B.pre w (List.mem_cons_of_mem _ hw)⟩
  have hx := hC.1
  have hb := hC.2.1
  have hr := B.returns
  have hlocks := B.notSynchronized
  have hS : va_S (ss_A G) s.heap s.heap [] := va_S.rf
  have hl := lv_entry ([ss_v (ss_b G) this, .int a1, .int a2, .int a3]) (n := 5) (by simp [lg_sl, ss_v_cat, ss_cat_i, ss_cat_l, ss_cat_r])
  rw [lg_entry_eq]
  generalize (lg_sl ([ss_v (ss_b G) this, .int a1, .int a2, .int a3]) ++ List.replicate (5 - (lg_sl ([ss_v (ss_b G) this, .int a1, .int a2, .int a3])).length) Slot.unset).toArray = ls at hl ⊢
  have hl : lv_has ls 5 [(0, ss_v (ss_b G) this), (1, .int a1), (2, .int a2), (3, .int a3)] := by simpa [lv_args, ss_v_cat, ss_cat_i, ss_cat_l, ss_cat_r] using hl
  have J_19 : ∀ (h_19 : ss_Hp) (H : Heap) (locs : List Loc) (ls : Array Slot), mm_F_closedBy_j19 N this a1 a2 a3 h_19 = some (rr, hh) → ss_R G h_19 H → va_S (ss_A G) s.heap H locs → lv_has ls 5 [(0, ss_v (ss_b G) this), (3, .int a3)] → ww_F_closedBy p l e s m below meth c G this a1 a2 a3 h rr hh  H locs 0 0 (F0 m 19 ls []) := by
    intro h_19 H locs ls hm hR hS hl
    refine lv_iconst (v := 0) hx hb dd_F_closedBy_19 (by decide) ?_
    refine lv_istore (lv' := [(4, .int (0 : Int32)), (0, ss_v (ss_b G) this), (3, .int a3)]) hx hb dd_F_closedBy_20 hl (by decide) rfl (fun ls hl => ?_)
    obtain ⟨e_22, he_22, hm⟩ := ss_bind hm
    have X_22_42 : ∀  (h_22_42 : ss_Hp) (H : Heap) (locs : List Loc) (ls : Array Slot), e_22 = h_22_42 → ss_R G h_22_42 H → va_S (ss_A G) s.heap H locs → lv_has ls 5 [(0, ss_v (ss_b G) this)] → ww_F_closedBy p l e s m below meth c G this a1 a2 a3 h rr hh  H locs 0 0 (F0 m 42 ls []) := by
      intro h_22_42 H locs ls hq hR hS hl
      rw [hq] at hm
      refine ss_aload_n hx hb dd_F_closedBy_42 rfl (lv_at hl 0 rfl) ?_
      obtain ⟨r1, qr1, hm⟩ := ss_bind hm
      refine ss_getr hC hK hR kf_F_27 rfl qr1 dd_F_closedBy_43 ?_
      obtain ⟨v2, qv2, hm⟩ := ss_bind hm
      refine ss_cV 0 0 (As := []) hC hK hR hS hl.1 (cc_Wi_closedBits l G N _ _ _ qv2) km_F_68 (ck_Wi_closedBits qv2) ⟨Nat.le_of_ble_eq_true rfl, Nat.le_of_ble_eq_true rfl⟩ ⟨Nat.le_of_ble_eq_true rfl, Nat.le_of_ble_eq_true rfl, Nat.le_of_ble_eq_true rfl, Nat.le_of_ble_eq_true rfl⟩ rfl rfl (Nat.le_of_ble_eq_true rfl) dd_F_closedBy_46 (fun H locs hR hS => ?_)
      obtain ⟨v3, qv3, hm⟩ := ss_bind hm
      refine ss_cS 0 0 (As := [.int v2]) hC hK hR hS hl.1 (cc_JI_bitCount l G N _ _ _ qv3) km_F_71 ⟨Nat.le_of_ble_eq_true rfl, Nat.le_of_ble_eq_true rfl⟩ ⟨Nat.le_of_ble_eq_true rfl, Nat.le_of_ble_eq_true rfl, Nat.le_of_ble_eq_true rfl, Nat.le_of_ble_eq_true rfl⟩ rfl rfl (Nat.le_of_ble_eq_true rfl) dd_F_closedBy_49 (fun H locs hR hS => ?_)
      exact ss_iret hC hr hlocks hR hS hm dd_F_closedBy_52
    have L_22 : ∀ (n : Nat) (x4_22 : Int32) (h_22 : ss_Hp) (H : Heap) (locs : List Loc) (ls : Array Slot), ss_lp (mm_F_closedBy_b22 N this a3) n (x4_22, h_22) = some e_22 → ss_R G h_22 H → va_S (ss_A G) s.heap H locs → lv_has ls 5 [(0, ss_v (ss_b G) this), (3, .int a3), (4, .int x4_22)] → ww_F_closedBy p l e s m below meth c G this a1 a2 a3 h rr hh  H locs 0 0 (F0 m 22 ls []) := by
      intro n
      induction n with
      | zero => intro x4_22 h_22 H locs ls hm; cases hm
      | succ n ih_22 =>
        intro x4_22 h_22 H locs ls hm hR hS hl
        obtain ⟨z_22, hm, hz1_22, hz2_22⟩ := ss_lps hm
        refine lv_iload hx hb dd_F_closedBy_22 (lv_at hl 2 rfl) ?_
        refine lv_iload_n hx hb dd_F_closedBy_24 rfl (lv_at hl 1 rfl) ?_
        refine lv_icmp_ge (tgt := 42) hx hb dd_F_closedBy_25 (by decide) (fun c4 => ?_) (fun c4 => ?_)
        · have hm := ss_ift hm c4
          exact X_22_42 h_22 _ _ _ (hz2_22 _ (ss_some hm)) hR hS (lv_sub hl [0] rfl)
        · have hm := ss_iff hm c4
          refine ss_aload_n hx hb dd_F_closedBy_28 rfl (lv_at hl 0 rfl) ?_
          obtain ⟨r5, qr5, hm⟩ := ss_bind hm
          refine ss_getr hC hK hR kf_F_27 rfl qr5 dd_F_closedBy_29 ?_
          obtain ⟨v6, h7, qh7, hm⟩ := ss_bind2 hm
          refine ss_cV 0 0 (As := []) hC hK hR hS hl.1 (cc_Wi_passDay l G N _ _ _ _ qh7) km_F_54 (ck_Wi_passDay qh7) ⟨Nat.le_of_ble_eq_true rfl, Nat.le_of_ble_eq_true rfl⟩ ⟨Nat.le_of_ble_eq_true rfl, Nat.le_of_ble_eq_true rfl, Nat.le_of_ble_eq_true rfl, Nat.le_of_ble_eq_true rfl⟩ rfl rfl (Nat.le_of_ble_eq_true rfl) dd_F_closedBy_32 (fun H locs hR hS => ?_)
          refine lv_pop hx hb dd_F_closedBy_35 rfl ?_
          obtain ⟨v8, qv8, hm⟩ := ss_bind hm
          refine lv_iinc (v := v8) (lv' := [(4, .int v8), (0, ss_v (ss_b G) this), (3, .int a3)]) hx hb dd_F_closedBy_36 hl (k := 2) rfl (ss_inc (by decide) qv8) (by decide) rfl (fun ls hl => ?_)
          refine lv_goto (tgt := 22) hx hb dd_F_closedBy_39 (by decide) ?_
          exact ih_22 v8 h7 _ _ _ (hz1_22 _ (ss_some hm)) hR hS (lv_sub hl [1, 2, 0] rfl)
    exact L_22 N (0 : Int32) h_19 _ _ _ he_22 hR hS (lv_sub hl [1, 2, 0] rfl)
  refine ss_aload_n hx hb dd_F_closedBy_0 rfl (lv_at hl 0 rfl) ?_
  obtain ⟨h9, qh9, hm⟩ := ss_bind hm
  refine ss_cVv 0 0 (As := []) hC hK hR hS hl.1 (cc_F_start l G N _ _ _ qh9) km_F_51 (ck_F_start qh9) ⟨Nat.le_of_ble_eq_true rfl, Nat.le_of_ble_eq_true rfl⟩ ⟨Nat.le_of_ble_eq_true rfl, Nat.le_of_ble_eq_true rfl, Nat.le_of_ble_eq_true rfl, Nat.le_of_ble_eq_true rfl⟩ rfl rfl (Nat.le_of_ble_eq_true rfl) dd_F_closedBy_1 (fun H locs hR hS => ?_)
  refine lv_iload_n hx hb dd_F_closedBy_4 rfl (lv_at hl 2 rfl) ?_
  refine lv_iconst (v := -1) hx hb dd_F_closedBy_5 (by decide) ?_
  refine lv_icmp_eq (tgt := 19) hx hb dd_F_closedBy_6 (by decide) (fun c10 => ?_) (fun c10 => ?_)
  · have hm := ss_ift hm c10
    exact J_19 h9 _ _ _ hm hR hS (lv_sub hl [0, 3] rfl)
  · have hm := ss_iff hm c10
    refine ss_aload_n hx hb dd_F_closedBy_9 rfl (lv_at hl 0 rfl) ?_
    obtain ⟨r11, qr11, hm⟩ := ss_bind hm
    refine ss_getr hC hK hR kf_F_27 rfl qr11 dd_F_closedBy_10 ?_
    refine lv_iload_n hx hb dd_F_closedBy_13 rfl (lv_at hl 1 rfl) ?_
    refine lv_iload_n hx hb dd_F_closedBy_14 rfl (lv_at hl 2 rfl) ?_
    obtain ⟨v12, h13, qh13, hm⟩ := ss_bind2 hm
    refine ss_cV 0 0 (As := [.int a1, .int a2]) hC hK hR hS hl.1 (cc_Wi_sweepBy l G N _ _ _ _ _ _ qh13) km_F_103 (ck_Wi_sweepBy qh13) ⟨Nat.le_of_ble_eq_true rfl, Nat.le_of_ble_eq_true rfl⟩ ⟨Nat.le_of_ble_eq_true rfl, Nat.le_of_ble_eq_true rfl, Nat.le_of_ble_eq_true rfl, Nat.le_of_ble_eq_true rfl⟩ rfl rfl (Nat.le_of_ble_eq_true rfl) dd_F_closedBy_15 (fun H locs hR hS => ?_)
    refine lv_pop hx hb dd_F_closedBy_18 rfl ?_
    exact J_19 h13 _ _ _ hm hR hS (lv_sub hl [0, 3] rfl)
theorem dd_F_bestSweep_0 : decode bb_F_bestSweep 0 = .ok (.iconst (-1), 1) := by decide +kernel
theorem dd_F_bestSweep_1 : decode bb_F_bestSweep 1 = .ok (.istore 4, 2) := by decide +kernel
theorem dd_F_bestSweep_3 : decode bb_F_bestSweep 3 = .ok (.aload_n 0, 1) := by decide +kernel
theorem dd_F_bestSweep_4 : decode bb_F_bestSweep 4 = .ok (.iload_n 1, 1) := by decide +kernel
theorem dd_F_bestSweep_5 : decode bb_F_bestSweep 5 = .ok (.iconst (-1), 1) := by decide +kernel
theorem dd_F_bestSweep_6 : decode bb_F_bestSweep 6 = .ok (.iload_n 2, 1) := by decide +kernel
theorem dd_F_bestSweep_7 : decode bb_F_bestSweep 7 = .ok (.invokevirtual 99, 3) := by decide +kernel
theorem dd_F_bestSweep_10 : decode bb_F_bestSweep 10 = .ok (.istore 5, 2) := by decide +kernel
theorem dd_F_bestSweep_12 : decode bb_F_bestSweep 12 = .ok (.iconst 0, 1) := by decide +kernel
theorem dd_F_bestSweep_13 : decode bb_F_bestSweep 13 = .ok (.istore 6, 2) := by decide +kernel
theorem dd_F_bestSweep_15 : decode bb_F_bestSweep 15 = .ok (.iload 6, 2) := by decide +kernel
theorem dd_F_bestSweep_17 : decode bb_F_bestSweep 17 = .ok (.aload_n 0, 1) := by decide +kernel
theorem dd_F_bestSweep_18 : decode bb_F_bestSweep 18 = .ok (.getfield 19, 3) := by decide +kernel
theorem dd_F_bestSweep_21 : decode bb_F_bestSweep 21 = .ok (.getfield 77, 3) := by decide +kernel
theorem dd_F_bestSweep_24 : decode bb_F_bestSweep 24 = .ok (.getfield 81, 3) := by decide +kernel
theorem dd_F_bestSweep_27 : decode bb_F_bestSweep 27 = .ok (.if_icmp .ge 55, 3) := by decide +kernel
theorem dd_F_bestSweep_30 : decode bb_F_bestSweep 30 = .ok (.aload_n 0, 1) := by decide +kernel
theorem dd_F_bestSweep_31 : decode bb_F_bestSweep 31 = .ok (.getfield 19, 3) := by decide +kernel
theorem dd_F_bestSweep_34 : decode bb_F_bestSweep 34 = .ok (.getfield 41, 3) := by decide +kernel
theorem dd_F_bestSweep_37 : decode bb_F_bestSweep 37 = .ok (.getfield 63, 3) := by decide +kernel
theorem dd_F_bestSweep_40 : decode bb_F_bestSweep 40 = .ok (.iload 6, 2) := by decide +kernel
theorem dd_F_bestSweep_42 : decode bb_F_bestSweep 42 = .ok (.iaload, 1) := by decide +kernel
theorem dd_F_bestSweep_43 : decode bb_F_bestSweep 43 = .ok (.ifCond .le 14, 3) := by decide +kernel
theorem dd_F_bestSweep_46 : decode bb_F_bestSweep 46 = .ok (.aload_n 0, 1) := by decide +kernel
theorem dd_F_bestSweep_47 : decode bb_F_bestSweep 47 = .ok (.iload_n 1, 1) := by decide +kernel
theorem dd_F_bestSweep_48 : decode bb_F_bestSweep 48 = .ok (.iload 6, 2) := by decide +kernel
theorem dd_F_bestSweep_50 : decode bb_F_bestSweep 50 = .ok (.iload_n 2, 1) := by decide +kernel
theorem dd_F_bestSweep_51 : decode bb_F_bestSweep 51 = .ok (.invokevirtual 99, 3) := by decide +kernel
theorem dd_F_bestSweep_54 : decode bb_F_bestSweep 54 = .ok (.goto 5, 3) := by decide +kernel
theorem dd_F_bestSweep_57 : decode bb_F_bestSweep 57 = .ok (.iload 5, 2) := by decide +kernel
theorem dd_F_bestSweep_59 : decode bb_F_bestSweep 59 = .ok (.istore 7, 2) := by decide +kernel
theorem dd_F_bestSweep_61 : decode bb_F_bestSweep 61 = .ok (.iload 7, 2) := by decide +kernel
theorem dd_F_bestSweep_63 : decode bb_F_bestSweep 63 = .ok (.iload 5, 2) := by decide +kernel
theorem dd_F_bestSweep_65 : decode bb_F_bestSweep 65 = .ok (.if_icmp .ge 11, 3) := by decide +kernel
theorem dd_F_bestSweep_68 : decode bb_F_bestSweep 68 = .ok (.iload 7, 2) := by decide +kernel
theorem dd_F_bestSweep_70 : decode bb_F_bestSweep 70 = .ok (.istore 5, 2) := by decide +kernel
theorem dd_F_bestSweep_72 : decode bb_F_bestSweep 72 = .ok (.iload 6, 2) := by decide +kernel
theorem dd_F_bestSweep_74 : decode bb_F_bestSweep 74 = .ok (.istore 4, 2) := by decide +kernel
theorem dd_F_bestSweep_76 : decode bb_F_bestSweep 76 = .ok (.iinc 6 1, 3) := by decide +kernel
theorem dd_F_bestSweep_79 : decode bb_F_bestSweep 79 = .ok (.goto (-64), 3) := by decide +kernel
theorem dd_F_bestSweep_82 : decode bb_F_bestSweep 82 = .ok (.iload_n 3, 1) := by decide +kernel
theorem dd_F_bestSweep_83 : decode bb_F_bestSweep 83 = .ok (.ifCond .eq 8, 3) := by decide +kernel
theorem dd_F_bestSweep_86 : decode bb_F_bestSweep 86 = .ok (.iload 5, 2) := by decide +kernel
theorem dd_F_bestSweep_88 : decode bb_F_bestSweep 88 = .ok (.goto 5, 3) := by decide +kernel
theorem dd_F_bestSweep_91 : decode bb_F_bestSweep 91 = .ok (.iload 4, 2) := by decide +kernel
theorem dd_F_bestSweep_93 : decode bb_F_bestSweep 93 = .ok (.ireturn, 1) := by decide +kernel
def mm_F_bestSweep_j93 (N : Nat) (this : Option Nat) (a1 : Int32) (a2 : Int32) (a3 : Int32) (s0_93 : Int32) (h_93 : ss_Hp) : Option (Int32 × ss_Hp) :=
  some (s0_93, h_93)
def mm_F_bestSweep_j76 (N : Nat) (this : Option Nat) (a1 : Int32) (a2 : Int32) (a3 : Int32) (x4_76 : Int32) (x5_76 : Int32) (x6_76 : Int32) (h_76 : ss_Hp) : Option ((Int32 × Int32 × Int32 × ss_Hp) ⊕ (Int32 × Int32 × ss_Hp)) :=
  (some (x6_76 + (1 : Int32))).bind fun v4 =>
  some (.inl (x4_76, x5_76, v4, h_76))
def mm_F_bestSweep_j59 (N : Nat) (this : Option Nat) (a1 : Int32) (a2 : Int32) (a3 : Int32) (x4_59 : Int32) (x5_59 : Int32) (x6_59 : Int32) (s0_59 : Int32) (h_59 : ss_Hp) : Option ((Int32 × Int32 × Int32 × ss_Hp) ⊕ (Int32 × Int32 × ss_Hp)) :=
  if x5_59 ≤ s0_59 then
    mm_F_bestSweep_j76 N this a1 a2 a3 x4_59 x5_59 x6_59 h_59
  else
    mm_F_bestSweep_j76 N this a1 a2 a3 x6_59 s0_59 x6_59 h_59
def mm_F_bestSweep_b15 (N : Nat) (this : Option Nat) (a1 : Int32) (a2 : Int32) (a3 : Int32) (st : Int32 × Int32 × Int32 × ss_Hp) : Option ((Int32 × Int32 × Int32 × ss_Hp) ⊕ (Int32 × Int32 × ss_Hp)) :=
  match st with
  | (x4_15, x5_15, x6_15, h_15) =>
    (ss_gr h_15 this 9 0).bind fun r6 =>
    (ss_gr h_15 r6 8 0).bind fun r7 =>
    (ss_gi h_15 r7 5 3).bind fun v8 =>
    if v8 ≤ x6_15 then
      some (.inr (x4_15, x5_15, h_15))
    else
      (ss_gr h_15 this 9 0).bind fun r10 =>
      (ss_gr h_15 r10 8 1).bind fun r11 =>
      (ss_gr h_15 r11 0 0).bind fun r12 =>
      (ss_ai h_15 r12 20 x6_15).bind fun v13 =>
      if v13 ≤ 0 then
        mm_F_bestSweep_j59 N this a1 a2 a3 x4_15 x5_15 x6_15 x5_15 h_15
      else
        ss_b2 (mm_F_closedBy N this a1 x6_15 a2 h_15) fun v15 h16 =>
        mm_F_bestSweep_j59 N this a1 a2 a3 x4_15 x5_15 x6_15 v15 h16
def mm_F_bestSweep (N : Nat) (this : Option Nat) (a1 : Int32) (a2 : Int32) (a3 : Int32) (h : ss_Hp) : Option (Int32 × ss_Hp) :=
  if ss_is h this 9 = true then
    ss_b2 (mm_F_closedBy N this a1 (-1 : Int32) a2 h) fun v1 h2 =>
    (ss_lp (mm_F_bestSweep_b15 N this a1 a2 a3) N ((-1 : Int32), v1, (0 : Int32), h2)).bind fun e_15 =>
    match e_15 with
    | (y4_15_82, y5_15_82, h_15_82) =>
      if a3 = 0 then
        mm_F_bestSweep_j93 N this a1 a2 a3 y4_15_82 h_15_82
      else
        mm_F_bestSweep_j93 N this a1 a2 a3 y5_15_82 h_15_82
  else none
abbrev ww_F_bestSweep (p : Program) (l : Launch) (e : Env) (s : State) (m : MethodId) (below : List Frame) (meth : Method) (c : Code) (G : ss_G) (this : Option Nat) (a1 : Int32) (a2 : Int32) (a3 : Int32) (h : ss_Hp) (rr : Int32) (hh : ss_Hp) (H : Heap) (locs : List Loc) (k n : Nat) (g : JFrame) : Prop := W p l e (headSpec (ss_w yy_F_bestSweep bb_F_bestSweep 8 (some (.int))) ({ frames := 6, cells := 0, slots := 0, locals := 172 })).room s m ([ss_v (ss_b G) this, .int a1, .int a2, .int a3] : List Value).toArray below meth c H locs k n (MQ below (ss_Qc G (some (.int rr)) hh) ([ss_v (ss_b G) this, .int a1, .int a2, .int a3] : List Value).toArray s 0 0 (ss_A G)) g
theorem ck_F_bestSweep {N : Nat} {this : Option Nat} {a1 : Int32} {a2 : Int32} {a3 : Int32} {h : ss_Hp} {res : Int32 × ss_Hp} (hm : mm_F_bestSweep N this a1 a2 a3 h = some res) : ss_is h this 9 = true := (ss_chk hm).1
set_option maxHeartbeats 4000000 in
set_option maxRecDepth 100000 in
theorem cc_F_bestSweep (l : Launch) (G : ss_G) (N : Nat) (this : Option Nat) (a1 : Int32) (a2 : Int32) (a3 : Int32) (h : ss_Hp) (rr : Int32) (hh : ss_Hp) (hm : mm_F_bestSweep N this a1 a2 a3 h = some (rr, hh)) : ss_Ct l G yy_F_bestSweep bb_F_bestSweep 8 (some (.int)) ({ frames := 6, cells := 0, slots := 0, locals := 172 }) [ss_v (ss_b G) this, .int a1, .int a2, .int a3] h (some (.int rr)) hh := by
  obtain ⟨hck, hm⟩ := ss_chk hm
  refine Met.ofW (cc := bb_F_bestSweep) (maxL := 8) (ret := (some (.int))) (by decide) rfl ?_
  intro p e s m args below meth c s₁ B hml hv
  obtain ⟨rfl, hR, hK⟩ := hv
  have hC : CallFix p m c bb_F_bestSweep 8 s _ lw_g sR_9 := ⟨B.exec, B.bytes, hml, findClass_of_methodNamed B.named, fun w hw => atoms_spec (ws := ss_w yy_F_bestSweep bb_F_bestSweep 8 (some (.int))) B.pre w (List.mem_cons_of_mem _ hw)⟩
  have hx := hC.1
  have hb := hC.2.1
  have hr := B.returns
  have hlocks := B.notSynchronized
  have hS : va_S (ss_A G) s.heap s.heap [] := va_S.rf
  have hl := lv_entry ([ss_v (ss_b G) this, .int a1, .int a2, .int a3]) (n := 8) (by simp [lg_sl, ss_v_cat, ss_cat_i, ss_cat_l, ss_cat_r])
  rw [lg_entry_eq]
  generalize (lg_sl ([ss_v (ss_b G) this, .int a1, .int a2, .int a3]) ++ List.replicate (8 - (lg_sl ([ss_v (ss_b G) this, .int a1, .int a2, .int a3])).length) Slot.unset).toArray = ls at hl ⊢
  have hl : lv_has ls 8 [(0, ss_v (ss_b G) this), (1, .int a1), (2, .int a2), (3, .int a3)] := by simpa [lv_args, ss_v_cat, ss_cat_i, ss_cat_l, ss_cat_r] using hl
  have J_93 : ∀ (s0_93 : Int32) (h_93 : ss_Hp) (H : Heap) (locs : List Loc) (ls : Array Slot), mm_F_bestSweep_j93 N this a1 a2 a3 s0_93 h_93 = some (rr, hh) → ss_R G h_93 H → va_S (ss_A G) s.heap H locs → lv_has ls 8 [] → ww_F_bestSweep p l e s m below meth c G this a1 a2 a3 h rr hh  H locs 0 0 (F0 m 93 ls [.int s0_93]) := by
    intro s0_93 h_93 H locs ls hm hR hS hl
    exact ss_iret hC hr hlocks hR hS hm dd_F_bestSweep_93
  refine lv_iconst (v := -1) hx hb dd_F_bestSweep_0 (by decide) ?_
  refine lv_istore (lv' := [(4, .int (-1 : Int32)), (0, ss_v (ss_b G) this), (1, .int a1), (2, .int a2), (3, .int a3)]) hx hb dd_F_bestSweep_1 hl (by decide) rfl (fun ls hl => ?_)
  refine ss_aload_n hx hb dd_F_bestSweep_3 rfl (lv_at hl 1 rfl) ?_
  refine lv_iload_n hx hb dd_F_bestSweep_4 rfl (lv_at hl 2 rfl) ?_
  refine lv_iconst (v := -1) hx hb dd_F_bestSweep_5 (by decide) ?_
  refine lv_iload_n hx hb dd_F_bestSweep_6 rfl (lv_at hl 3 rfl) ?_
  obtain ⟨v1, h2, qh2, hm⟩ := ss_bind2 hm
  refine ss_cV 0 0 (As := [.int a1, .int (-1 : Int32), .int a2]) hC hK hR hS hl.1 (cc_F_closedBy l G N _ _ _ _ _ _ _ qh2) km_F_99 (ck_F_closedBy qh2) ⟨Nat.le_of_ble_eq_true rfl, Nat.le_of_ble_eq_true rfl⟩ ⟨Nat.le_of_ble_eq_true rfl, Nat.le_of_ble_eq_true rfl, Nat.le_of_ble_eq_true rfl, Nat.le_of_ble_eq_true rfl⟩ rfl rfl (Nat.le_of_ble_eq_true rfl) dd_F_bestSweep_7 (fun H locs hR hS => ?_)
  refine lv_istore (lv' := [(5, .int v1), (4, .int (-1 : Int32)), (0, ss_v (ss_b G) this), (1, .int a1), (2, .int a2), (3, .int a3)]) hx hb dd_F_bestSweep_10 hl (by decide) rfl (fun ls hl => ?_)
  refine lv_iconst (v := 0) hx hb dd_F_bestSweep_12 (by decide) ?_
  refine lv_istore (lv' := [(6, .int (0 : Int32)), (5, .int v1), (4, .int (-1 : Int32)), (0, ss_v (ss_b G) this), (1, .int a1), (2, .int a2), (3, .int a3)]) hx hb dd_F_bestSweep_13 hl (by decide) rfl (fun ls hl => ?_)
  obtain ⟨e_15, he_15, hm⟩ := ss_bind hm
  have X_15_82 : ∀ (y4_15_82 : Int32) (y5_15_82 : Int32) (h_15_82 : ss_Hp) (H : Heap) (locs : List Loc) (ls : Array Slot), e_15 = (y4_15_82, y5_15_82, h_15_82) → ss_R G h_15_82 H → va_S (ss_A G) s.heap H locs → lv_has ls 8 [(3, .int a3), (4, .int y4_15_82), (5, .int y5_15_82)] → ww_F_bestSweep p l e s m below meth c G this a1 a2 a3 h rr hh  H locs 0 0 (F0 m 82 ls []) := by
    intro y4_15_82 y5_15_82 h_15_82 H locs ls hq hR hS hl
    rw [hq] at hm
    refine lv_iload_n hx hb dd_F_bestSweep_82 rfl (lv_at hl 0 rfl) ?_
    refine lv_if_eq (tgt := 91) hx hb dd_F_bestSweep_83 (by decide) (fun c3 => ?_) (fun c3 => ?_)
    · have hm := ss_ift hm c3
      refine lv_iload hx hb dd_F_bestSweep_91 (lv_at hl 1 rfl) ?_
      exact J_93 y4_15_82 h_15_82 _ _ _ hm hR hS (lv_sub hl [] rfl)
    · have hm := ss_iff hm c3
      refine lv_iload hx hb dd_F_bestSweep_86 (lv_at hl 2 rfl) ?_
      refine lv_goto (tgt := 93) hx hb dd_F_bestSweep_88 (by decide) ?_
      exact J_93 y5_15_82 h_15_82 _ _ _ hm hR hS (lv_sub hl [] rfl)
  have L_15 : ∀ (n : Nat) (x4_15 : Int32) (x5_15 : Int32) (x6_15 : Int32) (h_15 : ss_Hp) (H : Heap) (locs : List Loc) (ls : Array Slot), ss_lp (mm_F_bestSweep_b15 N this a1 a2 a3) n (x4_15, x5_15, x6_15, h_15) = some e_15 → ss_R G h_15 H → va_S (ss_A G) s.heap H locs → lv_has ls 8 [(0, ss_v (ss_b G) this), (1, .int a1), (2, .int a2), (3, .int a3), (4, .int x4_15), (5, .int x5_15), (6, .int x6_15)] → ww_F_bestSweep p l e s m below meth c G this a1 a2 a3 h rr hh  H locs 0 0 (F0 m 15 ls []) := by
    intro n
    induction n with
    | zero => intro x4_15 x5_15 x6_15 h_15 H locs ls hm; cases hm
    | succ n ih_15 =>
      intro x4_15 x5_15 x6_15 h_15 H locs ls hm hR hS hl
      obtain ⟨z_15, hm, hz1_15, hz2_15⟩ := ss_lps hm
      have J_76 : ∀ (x4_76 : Int32) (x5_76 : Int32) (x6_76 : Int32) (h_76 : ss_Hp) (H : Heap) (locs : List Loc) (ls : Array Slot), mm_F_bestSweep_j76 N this a1 a2 a3 x4_76 x5_76 x6_76 h_76 = some z_15 → ss_R G h_76 H → va_S (ss_A G) s.heap H locs → lv_has ls 8 [(0, ss_v (ss_b G) this), (1, .int a1), (2, .int a2), (3, .int a3), (4, .int x4_76), (5, .int x5_76), (6, .int x6_76)] → ww_F_bestSweep p l e s m below meth c G this a1 a2 a3 h rr hh  H locs 0 0 (F0 m 76 ls []) := by
        intro x4_76 x5_76 x6_76 h_76 H locs ls hm hR hS hl
        obtain ⟨v4, qv4, hm⟩ := ss_bind hm
        refine lv_iinc (v := v4) (lv' := [(6, .int v4), (0, ss_v (ss_b G) this), (1, .int a1), (2, .int a2), (3, .int a3), (4, .int x4_76), (5, .int x5_76)]) hx hb dd_F_bestSweep_76 hl (k := 6) rfl (ss_inc (by decide) qv4) (by decide) rfl (fun ls hl => ?_)
        refine lv_goto (tgt := 15) hx hb dd_F_bestSweep_79 (by decide) ?_
        exact ih_15 x4_76 x5_76 v4 h_76 _ _ _ (hz1_15 _ (ss_some hm)) hR hS (lv_sub hl [1, 2, 3, 4, 5, 6, 0] rfl)
      have J_59 : ∀ (x4_59 : Int32) (x5_59 : Int32) (x6_59 : Int32) (s0_59 : Int32) (h_59 : ss_Hp) (H : Heap) (locs : List Loc) (ls : Array Slot), mm_F_bestSweep_j59 N this a1 a2 a3 x4_59 x5_59 x6_59 s0_59 h_59 = some z_15 → ss_R G h_59 H → va_S (ss_A G) s.heap H locs → lv_has ls 8 [(0, ss_v (ss_b G) this), (1, .int a1), (2, .int a2), (3, .int a3), (4, .int x4_59), (5, .int x5_59), (6, .int x6_59)] → ww_F_bestSweep p l e s m below meth c G this a1 a2 a3 h rr hh  H locs 0 0 (F0 m 59 ls [.int s0_59]) := by
        intro x4_59 x5_59 x6_59 s0_59 h_59 H locs ls hm hR hS hl
        refine lv_istore (lv' := [(7, .int s0_59), (0, ss_v (ss_b G) this), (1, .int a1), (2, .int a2), (3, .int a3), (4, .int x4_59), (5, .int x5_59), (6, .int x6_59)]) hx hb dd_F_bestSweep_59 hl (by decide) rfl (fun ls hl => ?_)
        refine lv_iload hx hb dd_F_bestSweep_61 (lv_at hl 0 rfl) ?_
        refine lv_iload hx hb dd_F_bestSweep_63 (lv_at hl 6 rfl) ?_
        refine lv_icmp_ge (tgt := 76) hx hb dd_F_bestSweep_65 (by decide) (fun c5 => ?_) (fun c5 => ?_)
        · have hm := ss_ift hm c5
          exact J_76 x4_59 x5_59 x6_59 h_59 _ _ _ hm hR hS (lv_sub hl [1, 2, 3, 4, 5, 6, 7] rfl)
        · have hm := ss_iff hm c5
          refine lv_iload hx hb dd_F_bestSweep_68 (lv_at hl 0 rfl) ?_
          refine lv_istore (lv' := [(5, .int s0_59), (7, .int s0_59), (0, ss_v (ss_b G) this), (1, .int a1), (2, .int a2), (3, .int a3), (4, .int x4_59), (6, .int x6_59)]) hx hb dd_F_bestSweep_70 hl (by decide) rfl (fun ls hl => ?_)
          refine lv_iload hx hb dd_F_bestSweep_72 (lv_at hl 7 rfl) ?_
          refine lv_istore (lv' := [(4, .int x6_59), (5, .int s0_59), (7, .int s0_59), (0, ss_v (ss_b G) this), (1, .int a1), (2, .int a2), (3, .int a3), (6, .int x6_59)]) hx hb dd_F_bestSweep_74 hl (by decide) rfl (fun ls hl => ?_)
          exact J_76 x6_59 s0_59 x6_59 h_59 _ _ _ hm hR hS (lv_sub hl [3, 4, 5, 6, 0, 1, 7] rfl)
      refine lv_iload hx hb dd_F_bestSweep_15 (lv_at hl 6 rfl) ?_
      refine ss_aload_n hx hb dd_F_bestSweep_17 rfl (lv_at hl 0 rfl) ?_
      obtain ⟨r6, qr6, hm⟩ := ss_bind hm
      refine ss_getr hC hK hR kf_F_19 rfl qr6 dd_F_bestSweep_18 ?_
      obtain ⟨r7, qr7, hm⟩ := ss_bind hm
      refine ss_getr hC hK hR kf_F_77 rfl qr7 dd_F_bestSweep_21 ?_
      obtain ⟨v8, qv8, hm⟩ := ss_bind hm
      refine ss_geti hC hK hR kf_F_81 qv8 dd_F_bestSweep_24 ?_
      refine lv_icmp_ge (tgt := 82) hx hb dd_F_bestSweep_27 (by decide) (fun c9 => ?_) (fun c9 => ?_)
      · have hm := ss_ift hm c9
        exact X_15_82 x4_15 x5_15 h_15 _ _ _ (hz2_15 _ (ss_some hm)) hR hS (lv_sub hl [3, 4, 5] rfl)
      · have hm := ss_iff hm c9
        refine ss_aload_n hx hb dd_F_bestSweep_30 rfl (lv_at hl 0 rfl) ?_
        obtain ⟨r10, qr10, hm⟩ := ss_bind hm
        refine ss_getr hC hK hR kf_F_19 rfl qr10 dd_F_bestSweep_31 ?_
        obtain ⟨r11, qr11, hm⟩ := ss_bind hm
        refine ss_getr hC hK hR kf_F_41 rfl qr11 dd_F_bestSweep_34 ?_
        obtain ⟨r12, qr12, hm⟩ := ss_bind hm
        refine ss_getr hC hK hR kf_F_63 rfl qr12 dd_F_bestSweep_37 ?_
        refine lv_iload hx hb dd_F_bestSweep_40 (lv_at hl 6 rfl) ?_
        obtain ⟨v13, qv13, hm⟩ := ss_bind hm
        refine ss_iald hC hK hR qv13 dd_F_bestSweep_42 ?_
        refine lv_if_le (tgt := 57) hx hb dd_F_bestSweep_43 (by decide) (fun c14 => ?_) (fun c14 => ?_)
        · have hm := ss_ift hm c14
          refine lv_iload hx hb dd_F_bestSweep_57 (lv_at hl 5 rfl) ?_
          exact J_59 x4_15 x5_15 x6_15 x5_15 h_15 _ _ _ hm hR hS hl
        · have hm := ss_iff hm c14
          refine ss_aload_n hx hb dd_F_bestSweep_46 rfl (lv_at hl 0 rfl) ?_
          refine lv_iload_n hx hb dd_F_bestSweep_47 rfl (lv_at hl 1 rfl) ?_
          refine lv_iload hx hb dd_F_bestSweep_48 (lv_at hl 6 rfl) ?_
          refine lv_iload_n hx hb dd_F_bestSweep_50 rfl (lv_at hl 2 rfl) ?_
          obtain ⟨v15, h16, qh16, hm⟩ := ss_bind2 hm
          refine ss_cV 0 0 (As := [.int a1, .int x6_15, .int a2]) hC hK hR hS hl.1 (cc_F_closedBy l G N _ _ _ _ _ _ _ qh16) km_F_99 (ck_F_closedBy qh16) ⟨Nat.le_of_ble_eq_true rfl, Nat.le_of_ble_eq_true rfl⟩ ⟨Nat.le_of_ble_eq_true rfl, Nat.le_of_ble_eq_true rfl, Nat.le_of_ble_eq_true rfl, Nat.le_of_ble_eq_true rfl⟩ rfl rfl (Nat.le_of_ble_eq_true rfl) dd_F_bestSweep_51 (fun H locs hR hS => ?_)
          refine lv_goto (tgt := 59) hx hb dd_F_bestSweep_54 (by decide) ?_
          exact J_59 x4_15 x5_15 x6_15 v15 h16 _ _ _ hm hR hS hl
  exact L_15 N (-1 : Int32) v1 (0 : Int32) h2 _ _ _ he_15 hR hS (lv_sub hl [3, 4, 5, 6, 2, 1, 0] rfl)
theorem dd_S_best_0 : decode bb_S_best 0 = .ok (.aload_n 0, 1) := by decide +kernel
theorem dd_S_best_1 : decode bb_S_best 1 = .ok (.iload_n 1, 1) := by decide +kernel
theorem dd_S_best_2 : decode bb_S_best 2 = .ok (.invokevirtual 187, 3) := by decide +kernel
theorem dd_S_best_5 : decode bb_S_best 5 = .ok (.ifCond .eq 22, 3) := by decide +kernel
theorem dd_S_best_8 : decode bb_S_best 8 = .ok (.iload_n 2, 1) := by decide +kernel
theorem dd_S_best_9 : decode bb_S_best 9 = .ok (.iconst 1, 1) := by decide +kernel
theorem dd_S_best_10 : decode bb_S_best 10 = .ok (.bipush 30, 2) := by decide +kernel
theorem dd_S_best_12 : decode bb_S_best 12 = .ok (.invokestatic 194, 3) := by decide +kernel
theorem dd_S_best_15 : decode bb_S_best 15 = .ok (.ifCond .eq 12, 3) := by decide +kernel
theorem dd_S_best_18 : decode bb_S_best 18 = .ok (.iload_n 3, 1) := by decide +kernel
theorem dd_S_best_19 : decode bb_S_best 19 = .ok (.iconst 0, 1) := by decide +kernel
theorem dd_S_best_20 : decode bb_S_best 20 = .ok (.iconst 1, 1) := by decide +kernel
theorem dd_S_best_21 : decode bb_S_best 21 = .ok (.invokestatic 194, 3) := by decide +kernel
theorem dd_S_best_24 : decode bb_S_best 24 = .ok (.ifCond .ne 6, 3) := by decide +kernel
theorem dd_S_best_27 : decode bb_S_best 27 = .ok (.bipush (-2), 2) := by decide +kernel
theorem dd_S_best_29 : decode bb_S_best 29 = .ok (.ireturn, 1) := by decide +kernel
theorem dd_S_best_30 : decode bb_S_best 30 = .ok (.aload_n 0, 1) := by decide +kernel
theorem dd_S_best_31 : decode bb_S_best 31 = .ok (.getfield 74, 3) := by decide +kernel
theorem dd_S_best_34 : decode bb_S_best 34 = .ok (.iload_n 1, 1) := by decide +kernel
theorem dd_S_best_35 : decode bb_S_best 35 = .ok (.iload_n 2, 1) := by decide +kernel
theorem dd_S_best_36 : decode bb_S_best 36 = .ok (.iload_n 3, 1) := by decide +kernel
theorem dd_S_best_37 : decode bb_S_best 37 = .ok (.iconst 1, 1) := by decide +kernel
theorem dd_S_best_38 : decode bb_S_best 38 = .ok (.if_icmp .ne 7, 3) := by decide +kernel
theorem dd_S_best_41 : decode bb_S_best 41 = .ok (.iconst 1, 1) := by decide +kernel
theorem dd_S_best_42 : decode bb_S_best 42 = .ok (.goto 4, 3) := by decide +kernel
theorem dd_S_best_45 : decode bb_S_best 45 = .ok (.iconst 0, 1) := by decide +kernel
theorem dd_S_best_46 : decode bb_S_best 46 = .ok (.invokevirtual 264, 3) := by decide +kernel
theorem dd_S_best_49 : decode bb_S_best 49 = .ok (.ireturn, 1) := by decide +kernel
def mm_S_best_j27 (N : Nat) (this : Option Nat) (a1 : Int32) (a2 : Int32) (a3 : Int32) (h_27 : ss_Hp) : Option (Int32 × ss_Hp) :=
  some ((-2 : Int32), h_27)
def mm_S_best_j46 (N : Nat) (this : Option Nat) (a1 : Int32) (a2 : Int32) (a3 : Int32) (s0_46 : Option Nat) (s1_46 : Int32) (s2_46 : Int32) (s3_46 : Int32) (h_46 : ss_Hp) : Option (Int32 × ss_Hp) :=
  ss_b2 (mm_F_bestSweep N s0_46 s1_46 s2_46 s3_46 h_46) fun v1 h2 =>
  some (v1, h2)
def mm_S_best (N : Nat) (this : Option Nat) (a1 : Int32) (a2 : Int32) (a3 : Int32) (h : ss_Hp) : Option (Int32 × ss_Hp) :=
  if ss_is h this 11 = true then
    (mm_S_isFree N this a1 h).bind fun v3 =>
    if v3 = 0 then
      mm_S_best_j27 N this a1 a2 a3 h
    else
      (mm_S_isWithin N a2 (1 : Int32) (30 : Int32)).bind fun v5 =>
      if v5 = 0 then
        mm_S_best_j27 N this a1 a2 a3 h
      else
        (mm_S_isWithin N a3 (0 : Int32) (1 : Int32)).bind fun v7 =>
        if v7 = 0 then
          mm_S_best_j27 N this a1 a2 a3 h
        else
          (ss_gr h this 11 8).bind fun r9 =>
          if a3 = (1 : Int32) then
            mm_S_best_j46 N this a1 a2 a3 r9 a1 a2 (1 : Int32) h
          else
            mm_S_best_j46 N this a1 a2 a3 r9 a1 a2 (0 : Int32) h
  else none
abbrev ww_S_best (p : Program) (l : Launch) (e : Env) (s : State) (m : MethodId) (below : List Frame) (meth : Method) (c : Code) (G : ss_G) (this : Option Nat) (a1 : Int32) (a2 : Int32) (a3 : Int32) (h : ss_Hp) (rr : Int32) (hh : ss_Hp) (H : Heap) (locs : List Loc) (k n : Nat) (g : JFrame) : Prop := W p l e (headSpec (ss_w yy_S_best bb_S_best 4 (some (.int))) ({ frames := 7, cells := 0, slots := 0, locals := 199 })).room s m ([ss_v (ss_b G) this, .int a1, .int a2, .int a3] : List Value).toArray below meth c H locs k n (MQ below (ss_Qc G (some (.int rr)) hh) ([ss_v (ss_b G) this, .int a1, .int a2, .int a3] : List Value).toArray s 0 0 (ss_A G)) g
theorem ck_S_best {N : Nat} {this : Option Nat} {a1 : Int32} {a2 : Int32} {a3 : Int32} {h : ss_Hp} {res : Int32 × ss_Hp} (hm : mm_S_best N this a1 a2 a3 h = some res) : ss_is h this 11 = true := (ss_chk hm).1
set_option maxHeartbeats 4000000 in
set_option maxRecDepth 100000 in
theorem cc_S_best (l : Launch) (G : ss_G) (N : Nat) (this : Option Nat) (a1 : Int32) (a2 : Int32) (a3 : Int32) (h : ss_Hp) (rr : Int32) (hh : ss_Hp) (hm : mm_S_best N this a1 a2 a3 h = some (rr, hh)) : ss_Ct l G yy_S_best bb_S_best 4 (some (.int)) ({ frames := 7, cells := 0, slots := 0, locals := 199 }) [ss_v (ss_b G) this, .int a1, .int a2, .int a3] h (some (.int rr)) hh := by
  obtain ⟨hck, hm⟩ := ss_chk hm
  refine Met.ofW (cc := bb_S_best) (maxL := 4) (ret := (some (.int))) (by decide) rfl ?_
  intro p e s m args below meth c s₁ B hml hv
  obtain ⟨rfl, hR, hK⟩ := hv
  have hC : CallFix p m c bb_S_best 4 s _ lw_g sR_11 := ⟨B.exec, B.bytes, hml, findClass_of_methodNamed B.named, fun w hw => atoms_spec (ws := ss_w yy_S_best bb_S_best 4 (some (.int))) B.pre w (List.mem_cons_of_mem _ hw)⟩
  have hx := hC.1
  have hb := hC.2.1
  have hr := B.returns
  have hlocks := B.notSynchronized
  have hS : va_S (ss_A G) s.heap s.heap [] := va_S.rf
  have hl := lv_entry ([ss_v (ss_b G) this, .int a1, .int a2, .int a3]) (n := 4) (by simp [lg_sl, ss_v_cat, ss_cat_i, ss_cat_l, ss_cat_r])
  rw [lg_entry_eq]
  generalize (lg_sl ([ss_v (ss_b G) this, .int a1, .int a2, .int a3]) ++ List.replicate (4 - (lg_sl ([ss_v (ss_b G) this, .int a1, .int a2, .int a3])).length) Slot.unset).toArray = ls at hl ⊢
  have hl : lv_has ls 4 [(0, ss_v (ss_b G) this), (1, .int a1), (2, .int a2), (3, .int a3)] := by simpa [lv_args, ss_v_cat, ss_cat_i, ss_cat_l, ss_cat_r] using hl
  have J_27 : ∀ (h_27 : ss_Hp) (H : Heap) (locs : List Loc) (ls : Array Slot), mm_S_best_j27 N this a1 a2 a3 h_27 = some (rr, hh) → ss_R G h_27 H → va_S (ss_A G) s.heap H locs → lv_has ls 4 [] → ww_S_best p l e s m below meth c G this a1 a2 a3 h rr hh  H locs 0 0 (F0 m 27 ls []) := by
    intro h_27 H locs ls hm hR hS hl
    refine lv_bipush (v := -2) hx hb dd_S_best_27 (by decide) ?_
    exact ss_iret hC hr hlocks hR hS hm dd_S_best_29
  have J_46 : ∀ (s0_46 : Option Nat) (s1_46 : Int32) (s2_46 : Int32) (s3_46 : Int32) (h_46 : ss_Hp) (H : Heap) (locs : List Loc) (ls : Array Slot), mm_S_best_j46 N this a1 a2 a3 s0_46 s1_46 s2_46 s3_46 h_46 = some (rr, hh) → ss_R G h_46 H → va_S (ss_A G) s.heap H locs → lv_has ls 4 [] → ww_S_best p l e s m below meth c G this a1 a2 a3 h rr hh  H locs 0 0 (F0 m 46 ls [.int s3_46, .int s2_46, .int s1_46, ss_v (ss_b G) s0_46]) := by
    intro s0_46 s1_46 s2_46 s3_46 h_46 H locs ls hm hR hS hl
    obtain ⟨v1, h2, qh2, hm⟩ := ss_bind2 hm
    refine ss_cV 0 0 (As := [.int s1_46, .int s2_46, .int s3_46]) hC hK hR hS hl.1 (cc_F_bestSweep l G N _ _ _ _ _ _ _ qh2) km_S_264 (ck_F_bestSweep qh2) ⟨Nat.le_of_ble_eq_true rfl, Nat.le_of_ble_eq_true rfl⟩ ⟨Nat.le_of_ble_eq_true rfl, Nat.le_of_ble_eq_true rfl, Nat.le_of_ble_eq_true rfl, Nat.le_of_ble_eq_true rfl⟩ rfl rfl (Nat.le_of_ble_eq_true rfl) dd_S_best_46 (fun H locs hR hS => ?_)
    exact ss_iret hC hr hlocks hR hS hm dd_S_best_49
  refine ss_aload_n hx hb dd_S_best_0 rfl (lv_at hl 0 rfl) ?_
  refine lv_iload_n hx hb dd_S_best_1 rfl (lv_at hl 1 rfl) ?_
  obtain ⟨v3, qv3, hm⟩ := ss_bind hm
  refine ss_cV 0 0 (As := [.int a1]) hC hK hR hS hl.1 (cc_S_isFree l G N _ _ _ _ qv3) km_S_187 (ck_S_isFree qv3) ⟨Nat.le_of_ble_eq_true rfl, Nat.le_of_ble_eq_true rfl⟩ ⟨Nat.le_of_ble_eq_true rfl, Nat.le_of_ble_eq_true rfl, Nat.le_of_ble_eq_true rfl, Nat.le_of_ble_eq_true rfl⟩ rfl rfl (Nat.le_of_ble_eq_true rfl) dd_S_best_2 (fun H locs hR hS => ?_)
  refine lv_if_eq (tgt := 27) hx hb dd_S_best_5 (by decide) (fun c4 => ?_) (fun c4 => ?_)
  · have hm := ss_ift hm c4
    exact J_27 h _ _ _ hm hR hS (lv_sub hl [] rfl)
  · have hm := ss_iff hm c4
    refine lv_iload_n hx hb dd_S_best_8 rfl (lv_at hl 2 rfl) ?_
    refine lv_iconst (v := 1) hx hb dd_S_best_9 (by decide) ?_
    refine lv_bipush (v := 30) hx hb dd_S_best_10 (by decide) ?_
    obtain ⟨v5, qv5, hm⟩ := ss_bind hm
    refine ss_cS 0 0 (As := [.int a2, .int (1 : Int32), .int (30 : Int32)]) hC hK hR hS hl.1 (cc_S_isWithin l G N _ _ _ _ _ qv5) km_S_194 ⟨Nat.le_of_ble_eq_true rfl, Nat.le_of_ble_eq_true rfl⟩ ⟨Nat.le_of_ble_eq_true rfl, Nat.le_of_ble_eq_true rfl, Nat.le_of_ble_eq_true rfl, Nat.le_of_ble_eq_true rfl⟩ rfl rfl (Nat.le_of_ble_eq_true rfl) dd_S_best_12 (fun H locs hR hS => ?_)
    refine lv_if_eq (tgt := 27) hx hb dd_S_best_15 (by decide) (fun c6 => ?_) (fun c6 => ?_)
    · have hm := ss_ift hm c6
      exact J_27 h _ _ _ hm hR hS (lv_sub hl [] rfl)
    · have hm := ss_iff hm c6
      refine lv_iload_n hx hb dd_S_best_18 rfl (lv_at hl 3 rfl) ?_
      refine lv_iconst (v := 0) hx hb dd_S_best_19 (by decide) ?_
      refine lv_iconst (v := 1) hx hb dd_S_best_20 (by decide) ?_
      obtain ⟨v7, qv7, hm⟩ := ss_bind hm
      refine ss_cS 0 0 (As := [.int a3, .int (0 : Int32), .int (1 : Int32)]) hC hK hR hS hl.1 (cc_S_isWithin l G N _ _ _ _ _ qv7) km_S_194 ⟨Nat.le_of_ble_eq_true rfl, Nat.le_of_ble_eq_true rfl⟩ ⟨Nat.le_of_ble_eq_true rfl, Nat.le_of_ble_eq_true rfl, Nat.le_of_ble_eq_true rfl, Nat.le_of_ble_eq_true rfl⟩ rfl rfl (Nat.le_of_ble_eq_true rfl) dd_S_best_21 (fun H locs hR hS => ?_)
      refine lv_if_ne (tgt := 30) hx hb dd_S_best_24 (by decide) (fun c8 => ?_) (fun c8 => ?_)
      · have hm := ss_iff hm c8
        refine ss_aload_n hx hb dd_S_best_30 rfl (lv_at hl 0 rfl) ?_
        obtain ⟨r9, qr9, hm⟩ := ss_bind hm
        refine ss_getr hC hK hR kf_S_74 rfl qr9 dd_S_best_31 ?_
        refine lv_iload_n hx hb dd_S_best_34 rfl (lv_at hl 1 rfl) ?_
        refine lv_iload_n hx hb dd_S_best_35 rfl (lv_at hl 2 rfl) ?_
        refine lv_iload_n hx hb dd_S_best_36 rfl (lv_at hl 3 rfl) ?_
        refine lv_iconst (v := 1) hx hb dd_S_best_37 (by decide) ?_
        refine lv_icmp_ne (tgt := 45) hx hb dd_S_best_38 (by decide) (fun c10 => ?_) (fun c10 => ?_)
        · have hm := ss_iff hm c10
          refine lv_iconst (v := 0) hx hb dd_S_best_45 (by decide) ?_
          exact J_46 r9 a1 a2 (0 : Int32) h _ _ _ hm hR hS (lv_sub hl [] rfl)
        · have hm := ss_ift hm c10
          refine lv_iconst (v := 1) hx hb dd_S_best_41 (by decide) ?_
          refine lv_goto (tgt := 46) hx hb dd_S_best_42 (by decide) ?_
          exact J_46 r9 a1 a2 (1 : Int32) h _ _ _ hm hR hS (lv_sub hl [] rfl)
      · have hm := ss_ift hm c8
        exact J_27 h _ _ _ hm hR hS (lv_sub hl [] rfl)
theorem dd_F_keepsOpen_0 : decode bb_F_keepsOpen 0 = .ok (.aload_n 0, 1) := by decide +kernel
theorem dd_F_keepsOpen_1 : decode bb_F_keepsOpen 1 = .ok (.invokevirtual 51, 3) := by decide +kernel
theorem dd_F_keepsOpen_4 : decode bb_F_keepsOpen 4 = .ok (.aload_n 0, 1) := by decide +kernel
theorem dd_F_keepsOpen_5 : decode bb_F_keepsOpen 5 = .ok (.getfield 27, 3) := by decide +kernel
theorem dd_F_keepsOpen_8 : decode bb_F_keepsOpen 8 = .ok (.getfield 111, 3) := by decide +kernel
theorem dd_F_keepsOpen_11 : decode bb_F_keepsOpen 11 = .ok (.iload_n 1, 1) := by decide +kernel
theorem dd_F_keepsOpen_12 : decode bb_F_keepsOpen 12 = .ok (.iload_n 2, 1) := by decide +kernel
theorem dd_F_keepsOpen_13 : decode bb_F_keepsOpen 13 = .ok (.iastore, 1) := by decide +kernel
theorem dd_F_keepsOpen_14 : decode bb_F_keepsOpen 14 = .ok (.aload_n 0, 1) := by decide +kernel
theorem dd_F_keepsOpen_15 : decode bb_F_keepsOpen 15 = .ok (.getfield 19, 3) := by decide +kernel
theorem dd_F_keepsOpen_18 : decode bb_F_keepsOpen 18 = .ok (.getfield 77, 3) := by decide +kernel
theorem dd_F_keepsOpen_21 : decode bb_F_keepsOpen 21 = .ok (.getfield 114, 3) := by decide +kernel
theorem dd_F_keepsOpen_24 : decode bb_F_keepsOpen 24 = .ok (.iload_n 1, 1) := by decide +kernel
theorem dd_F_keepsOpen_25 : decode bb_F_keepsOpen 25 = .ok (.iaload, 1) := by decide +kernel
theorem dd_F_keepsOpen_26 : decode bb_F_keepsOpen 26 = .ok (.istore 4, 2) := by decide +kernel
theorem dd_F_keepsOpen_28 : decode bb_F_keepsOpen 28 = .ok (.iconst 0, 1) := by decide +kernel
theorem dd_F_keepsOpen_29 : decode bb_F_keepsOpen 29 = .ok (.istore 5, 2) := by decide +kernel
theorem dd_F_keepsOpen_31 : decode bb_F_keepsOpen 31 = .ok (.iload 5, 2) := by decide +kernel
theorem dd_F_keepsOpen_33 : decode bb_F_keepsOpen 33 = .ok (.iload_n 3, 1) := by decide +kernel
theorem dd_F_keepsOpen_34 : decode bb_F_keepsOpen 34 = .ok (.if_icmp .ge 45, 3) := by decide +kernel
theorem dd_F_keepsOpen_37 : decode bb_F_keepsOpen 37 = .ok (.aload_n 0, 1) := by decide +kernel
theorem dd_F_keepsOpen_38 : decode bb_F_keepsOpen 38 = .ok (.getfield 27, 3) := by decide +kernel
theorem dd_F_keepsOpen_41 : decode bb_F_keepsOpen 41 = .ok (.invokevirtual 54, 3) := by decide +kernel
theorem dd_F_keepsOpen_44 : decode bb_F_keepsOpen 44 = .ok (.pop, 1) := by decide +kernel
theorem dd_F_keepsOpen_45 : decode bb_F_keepsOpen 45 = .ok (.aload_n 0, 1) := by decide +kernel
theorem dd_F_keepsOpen_46 : decode bb_F_keepsOpen 46 = .ok (.getfield 27, 3) := by decide +kernel
theorem dd_F_keepsOpen_49 : decode bb_F_keepsOpen 49 = .ok (.getfield 62, 3) := by decide +kernel
theorem dd_F_keepsOpen_52 : decode bb_F_keepsOpen 52 = .ok (.getfield 63, 3) := by decide +kernel
theorem dd_F_keepsOpen_55 : decode bb_F_keepsOpen 55 = .ok (.iload 4, 2) := by decide +kernel
theorem dd_F_keepsOpen_57 : decode bb_F_keepsOpen 57 = .ok (.iaload, 1) := by decide +kernel
theorem dd_F_keepsOpen_58 : decode bb_F_keepsOpen 58 = .ok (.aload_n 0, 1) := by decide +kernel
theorem dd_F_keepsOpen_59 : decode bb_F_keepsOpen 59 = .ok (.getfield 19, 3) := by decide +kernel
theorem dd_F_keepsOpen_62 : decode bb_F_keepsOpen 62 = .ok (.getfield 77, 3) := by decide +kernel
theorem dd_F_keepsOpen_65 : decode bb_F_keepsOpen 65 = .ok (.getfield 117, 3) := by decide +kernel
theorem dd_F_keepsOpen_68 : decode bb_F_keepsOpen 68 = .ok (.if_icmp .lt 5, 3) := by decide +kernel
theorem dd_F_keepsOpen_71 : decode bb_F_keepsOpen 71 = .ok (.iconst 0, 1) := by decide +kernel
theorem dd_F_keepsOpen_72 : decode bb_F_keepsOpen 72 = .ok (.ireturn, 1) := by decide +kernel
theorem dd_F_keepsOpen_73 : decode bb_F_keepsOpen 73 = .ok (.iinc 5 1, 3) := by decide +kernel
theorem dd_F_keepsOpen_76 : decode bb_F_keepsOpen 76 = .ok (.goto (-45), 3) := by decide +kernel
theorem dd_F_keepsOpen_79 : decode bb_F_keepsOpen 79 = .ok (.iconst 1, 1) := by decide +kernel
theorem dd_F_keepsOpen_80 : decode bb_F_keepsOpen 80 = .ok (.ireturn, 1) := by decide +kernel
def mm_F_keepsOpen_b31 (N : Nat) (this : Option Nat) (a3 : Int32) (v8 : Int32) (st : Int32 × ss_Hp) : Option ((Int32 × ss_Hp) ⊕ (ss_Hp ⊕ ss_Hp)) :=
  match st with
  | (x5_31, h_31) =>
    if a3 ≤ x5_31 then
      some (.inr (.inl h_31))
    else
      (ss_gr h_31 this 9 2).bind fun r10 =>
      ss_b2 (mm_Wi_passDay N r10 h_31) fun v11 h12 =>
      (ss_gr h12 this 9 2).bind fun r13 =>
      (ss_gr h12 r13 7 0).bind fun r14 =>
      (ss_gr h12 r14 0 0).bind fun r15 =>
      (ss_ai h12 r15 20 v8).bind fun v16 =>
      (ss_gr h12 this 9 0).bind fun r17 =>
      (ss_gr h12 r17 8 0).bind fun r18 =>
      (ss_gi h12 r18 5 2).bind fun v19 =>
      if v16 < v19 then
        (some (x5_31 + (1 : Int32))).bind fun v21 =>
        some (.inl (v21, h12))
      else
        some (.inr (.inr h12))
def mm_F_keepsOpen (N : Nat) (this : Option Nat) (a1 : Int32) (a2 : Int32) (a3 : Int32) (h : ss_Hp) : Option (Int32 × ss_Hp) :=
  if ss_is h this 9 = true then
    (mm_F_start N this h).bind fun h1 =>
    (ss_gr h1 this 9 2).bind fun r2 =>
    (ss_gr h1 r2 7 1).bind fun r3 =>
    (ss_ui h1 r3 20 a1 a2).bind fun h4 =>
    (ss_gr h4 this 9 0).bind fun r5 =>
    (ss_gr h4 r5 8 0).bind fun r6 =>
    (ss_gr h4 r6 5 0).bind fun r7 =>
    (ss_ai h4 r7 20 a1).bind fun v8 =>
    (ss_lp (mm_F_keepsOpen_b31 N this a3 v8) N ((0 : Int32), h4)).bind fun e_31 =>
    match e_31 with
    | (.inl h_31_79) =>
      some ((1 : Int32), h_31_79)
    | (.inr h_31_71) =>
      some ((0 : Int32), h_31_71)
  else none
abbrev ww_F_keepsOpen (p : Program) (l : Launch) (e : Env) (s : State) (m : MethodId) (below : List Frame) (meth : Method) (c : Code) (G : ss_G) (this : Option Nat) (a1 : Int32) (a2 : Int32) (a3 : Int32) (h : ss_Hp) (rr : Int32) (hh : ss_Hp) (H : Heap) (locs : List Loc) (k n : Nat) (g : JFrame) : Prop := W p l e (headSpec (ss_w yy_F_keepsOpen bb_F_keepsOpen 6 (some .boolean)) ({ frames := 5, cells := 0, slots := 0, locals := 148 })).room s m ([ss_v (ss_b G) this, .int a1, .int a2, .int a3] : List Value).toArray below meth c H locs k n (MQ below (ss_Qc G (some (.int rr)) hh) ([ss_v (ss_b G) this, .int a1, .int a2, .int a3] : List Value).toArray s 0 0 (ss_A G)) g
theorem ck_F_keepsOpen {N : Nat} {this : Option Nat} {a1 : Int32} {a2 : Int32} {a3 : Int32} {h : ss_Hp} {res : Int32 × ss_Hp} (hm : mm_F_keepsOpen N this a1 a2 a3 h = some res) : ss_is h this 9 = true := (ss_chk hm).1
set_option maxHeartbeats 4000000 in
set_option maxRecDepth 100000 in
theorem cc_F_keepsOpen (l : Launch) (G : ss_G) (N : Nat) (this : Option Nat) (a1 : Int32) (a2 : Int32) (a3 : Int32) (h : ss_Hp) (rr : Int32) (hh : ss_Hp) (hm : mm_F_keepsOpen N this a1 a2 a3 h = some (rr, hh)) : ss_Ct l G yy_F_keepsOpen bb_F_keepsOpen 6 (some .boolean) ({ frames := 5, cells := 0, slots := 0, locals := 148 }) [ss_v (ss_b G) this, .int a1, .int a2, .int a3] h (some (.int rr)) hh := by
  obtain ⟨hck, hm⟩ := ss_chk hm
  refine Met.ofW (cc := bb_F_keepsOpen) (maxL := 6) (ret := (some .boolean)) (by decide) rfl ?_
  intro p e s m args below meth c s₁ B hml hv
  obtain ⟨rfl, hR, hK⟩ := hv
  have hC : CallFix p m c bb_F_keepsOpen 6 s _ lw_g sR_9 := ⟨B.exec, B.bytes, hml, findClass_of_methodNamed B.named, fun w hw => atoms_spec (ws := ss_w yy_F_keepsOpen bb_F_keepsOpen 6 (some .boolean)) B.pre w (List.mem_cons_of_mem _ hw)⟩
  have hx := hC.1
  have hb := hC.2.1
  have hr := B.returns
  have hlocks := B.notSynchronized
  have hS : va_S (ss_A G) s.heap s.heap [] := va_S.rf
  have hl := lv_entry ([ss_v (ss_b G) this, .int a1, .int a2, .int a3]) (n := 6) (by simp [lg_sl, ss_v_cat, ss_cat_i, ss_cat_l, ss_cat_r])
  rw [lg_entry_eq]
  generalize (lg_sl ([ss_v (ss_b G) this, .int a1, .int a2, .int a3]) ++ List.replicate (6 - (lg_sl ([ss_v (ss_b G) this, .int a1, .int a2, .int a3])).length) Slot.unset).toArray = ls at hl ⊢
  have hl : lv_has ls 6 [(0, ss_v (ss_b G) this), (1, .int a1), (2, .int a2), (3, .int a3)] := by simpa [lv_args, ss_v_cat, ss_cat_i, ss_cat_l, ss_cat_r] using hl
  refine ss_aload_n hx hb dd_F_keepsOpen_0 rfl (lv_at hl 0 rfl) ?_
  obtain ⟨h1, qh1, hm⟩ := ss_bind hm
  refine ss_cVv 0 0 (As := []) hC hK hR hS hl.1 (cc_F_start l G N _ _ _ qh1) km_F_51 (ck_F_start qh1) ⟨Nat.le_of_ble_eq_true rfl, Nat.le_of_ble_eq_true rfl⟩ ⟨Nat.le_of_ble_eq_true rfl, Nat.le_of_ble_eq_true rfl, Nat.le_of_ble_eq_true rfl, Nat.le_of_ble_eq_true rfl⟩ rfl rfl (Nat.le_of_ble_eq_true rfl) dd_F_keepsOpen_1 (fun H locs hR hS => ?_)
  refine ss_aload_n hx hb dd_F_keepsOpen_4 rfl (lv_at hl 0 rfl) ?_
  obtain ⟨r2, qr2, hm⟩ := ss_bind hm
  refine ss_getr hC hK hR kf_F_27 rfl qr2 dd_F_keepsOpen_5 ?_
  obtain ⟨r3, qr3, hm⟩ := ss_bind hm
  refine ss_getr hC hK hR kf_F_111 rfl qr3 dd_F_keepsOpen_8 ?_
  refine lv_iload_n hx hb dd_F_keepsOpen_11 rfl (lv_at hl 1 rfl) ?_
  refine lv_iload_n hx hb dd_F_keepsOpen_12 rfl (lv_at hl 2 rfl) ?_
  obtain ⟨h4, qh4, hm⟩ := ss_bind hm
  refine ss_iast hC hK hR hS qh4 dd_F_keepsOpen_13 (fun H locs hR hS => ?_)
  refine ss_aload_n hx hb dd_F_keepsOpen_14 rfl (lv_at hl 0 rfl) ?_
  obtain ⟨r5, qr5, hm⟩ := ss_bind hm
  refine ss_getr hC hK hR kf_F_19 rfl qr5 dd_F_keepsOpen_15 ?_
  obtain ⟨r6, qr6, hm⟩ := ss_bind hm
  refine ss_getr hC hK hR kf_F_77 rfl qr6 dd_F_keepsOpen_18 ?_
  obtain ⟨r7, qr7, hm⟩ := ss_bind hm
  refine ss_getr hC hK hR kf_F_114 rfl qr7 dd_F_keepsOpen_21 ?_
  refine lv_iload_n hx hb dd_F_keepsOpen_24 rfl (lv_at hl 1 rfl) ?_
  obtain ⟨v8, qv8, hm⟩ := ss_bind hm
  refine ss_iald hC hK hR qv8 dd_F_keepsOpen_25 ?_
  refine lv_istore (lv' := [(4, .int v8), (0, ss_v (ss_b G) this), (1, .int a1), (2, .int a2), (3, .int a3)]) hx hb dd_F_keepsOpen_26 hl (by decide) rfl (fun ls hl => ?_)
  refine lv_iconst (v := 0) hx hb dd_F_keepsOpen_28 (by decide) ?_
  refine lv_istore (lv' := [(5, .int (0 : Int32)), (4, .int v8), (0, ss_v (ss_b G) this), (1, .int a1), (2, .int a2), (3, .int a3)]) hx hb dd_F_keepsOpen_29 hl (by decide) rfl (fun ls hl => ?_)
  obtain ⟨e_31, he_31, hm⟩ := ss_bind hm
  have X_31_79 : ∀  (h_31_79 : ss_Hp) (H : Heap) (locs : List Loc) (ls : Array Slot), e_31 = (.inl h_31_79) → ss_R G h_31_79 H → va_S (ss_A G) s.heap H locs → lv_has ls 6 [] → ww_F_keepsOpen p l e s m below meth c G this a1 a2 a3 h rr hh  H locs 0 0 (F0 m 79 ls []) := by
    intro h_31_79 H locs ls hq hR hS hl
    rw [hq] at hm
    refine lv_iconst (v := 1) hx hb dd_F_keepsOpen_79 (by decide) ?_
    exact ss_zret hC hr (by decide) hlocks hR hS hm dd_F_keepsOpen_80
  have X_31_71 : ∀  (h_31_71 : ss_Hp) (H : Heap) (locs : List Loc) (ls : Array Slot), e_31 = (.inr h_31_71) → ss_R G h_31_71 H → va_S (ss_A G) s.heap H locs → lv_has ls 6 [] → ww_F_keepsOpen p l e s m below meth c G this a1 a2 a3 h rr hh  H locs 0 0 (F0 m 71 ls []) := by
    intro h_31_71 H locs ls hq hR hS hl
    rw [hq] at hm
    refine lv_iconst (v := 0) hx hb dd_F_keepsOpen_71 (by decide) ?_
    exact ss_zret hC hr (by decide) hlocks hR hS hm dd_F_keepsOpen_72
  have L_31 : ∀ (n : Nat) (x5_31 : Int32) (h_31 : ss_Hp) (H : Heap) (locs : List Loc) (ls : Array Slot), ss_lp (mm_F_keepsOpen_b31 N this a3 v8) n (x5_31, h_31) = some e_31 → ss_R G h_31 H → va_S (ss_A G) s.heap H locs → lv_has ls 6 [(0, ss_v (ss_b G) this), (3, .int a3), (4, .int v8), (5, .int x5_31)] → ww_F_keepsOpen p l e s m below meth c G this a1 a2 a3 h rr hh  H locs 0 0 (F0 m 31 ls []) := by
    intro n
    induction n with
    | zero => intro x5_31 h_31 H locs ls hm; cases hm
    | succ n ih_31 =>
      intro x5_31 h_31 H locs ls hm hR hS hl
      obtain ⟨z_31, hm, hz1_31, hz2_31⟩ := ss_lps hm
      refine lv_iload hx hb dd_F_keepsOpen_31 (lv_at hl 3 rfl) ?_
      refine lv_iload_n hx hb dd_F_keepsOpen_33 rfl (lv_at hl 1 rfl) ?_
      refine lv_icmp_ge (tgt := 79) hx hb dd_F_keepsOpen_34 (by decide) (fun c9 => ?_) (fun c9 => ?_)
      · have hm := ss_ift hm c9
        exact X_31_79 h_31 _ _ _ (hz2_31 _ (ss_some hm)) hR hS (lv_sub hl [] rfl)
      · have hm := ss_iff hm c9
        refine ss_aload_n hx hb dd_F_keepsOpen_37 rfl (lv_at hl 0 rfl) ?_
        obtain ⟨r10, qr10, hm⟩ := ss_bind hm
        refine ss_getr hC hK hR kf_F_27 rfl qr10 dd_F_keepsOpen_38 ?_
        obtain ⟨v11, h12, qh12, hm⟩ := ss_bind2 hm
        refine ss_cV 0 0 (As := []) hC hK hR hS hl.1 (cc_Wi_passDay l G N _ _ _ _ qh12) km_F_54 (ck_Wi_passDay qh12) ⟨Nat.le_of_ble_eq_true rfl, Nat.le_of_ble_eq_true rfl⟩ ⟨Nat.le_of_ble_eq_true rfl, Nat.le_of_ble_eq_true rfl, Nat.le_of_ble_eq_true rfl, Nat.le_of_ble_eq_true rfl⟩ rfl rfl (Nat.le_of_ble_eq_true rfl) dd_F_keepsOpen_41 (fun H locs hR hS => ?_)
        refine lv_pop hx hb dd_F_keepsOpen_44 rfl ?_
        refine ss_aload_n hx hb dd_F_keepsOpen_45 rfl (lv_at hl 0 rfl) ?_
        obtain ⟨r13, qr13, hm⟩ := ss_bind hm
        refine ss_getr hC hK hR kf_F_27 rfl qr13 dd_F_keepsOpen_46 ?_
        obtain ⟨r14, qr14, hm⟩ := ss_bind hm
        refine ss_getr hC hK hR kf_F_62 rfl qr14 dd_F_keepsOpen_49 ?_
        obtain ⟨r15, qr15, hm⟩ := ss_bind hm
        refine ss_getr hC hK hR kf_F_63 rfl qr15 dd_F_keepsOpen_52 ?_
        refine lv_iload hx hb dd_F_keepsOpen_55 (lv_at hl 2 rfl) ?_
        obtain ⟨v16, qv16, hm⟩ := ss_bind hm
        refine ss_iald hC hK hR qv16 dd_F_keepsOpen_57 ?_
        refine ss_aload_n hx hb dd_F_keepsOpen_58 rfl (lv_at hl 0 rfl) ?_
        obtain ⟨r17, qr17, hm⟩ := ss_bind hm
        refine ss_getr hC hK hR kf_F_19 rfl qr17 dd_F_keepsOpen_59 ?_
        obtain ⟨r18, qr18, hm⟩ := ss_bind hm
        refine ss_getr hC hK hR kf_F_77 rfl qr18 dd_F_keepsOpen_62 ?_
        obtain ⟨v19, qv19, hm⟩ := ss_bind hm
        refine ss_geti hC hK hR kf_F_117 qv19 dd_F_keepsOpen_65 ?_
        refine lv_icmp_lt (tgt := 73) hx hb dd_F_keepsOpen_68 (by decide) (fun c20 => ?_) (fun c20 => ?_)
        · have hm := ss_ift hm c20
          obtain ⟨v21, qv21, hm⟩ := ss_bind hm
          refine lv_iinc (v := v21) (lv' := [(5, .int v21), (0, ss_v (ss_b G) this), (3, .int a3), (4, .int v8)]) hx hb dd_F_keepsOpen_73 hl (k := 3) rfl (ss_inc (by decide) qv21) (by decide) rfl (fun ls hl => ?_)
          refine lv_goto (tgt := 31) hx hb dd_F_keepsOpen_76 (by decide) ?_
          exact ih_31 v21 h12 _ _ _ (hz1_31 _ (ss_some hm)) hR hS (lv_sub hl [1, 2, 3, 0] rfl)
        · have hm := ss_iff hm c20
          exact X_31_71 h12 _ _ _ (hz2_31 _ (ss_some hm)) hR hS (lv_sub hl [] rfl)
  exact L_31 N (0 : Int32) h4 _ _ _ he_31 hR hS (lv_sub hl [2, 5, 1, 0] rfl)
theorem dd_F_leastStrength_0 : decode bb_F_leastStrength 0 = .ok (.iconst 1, 1) := by decide +kernel
theorem dd_F_leastStrength_1 : decode bb_F_leastStrength 1 = .ok (.istore_n 3, 1) := by decide +kernel
theorem dd_F_leastStrength_2 : decode bb_F_leastStrength 2 = .ok (.iload_n 3, 1) := by decide +kernel
theorem dd_F_leastStrength_3 : decode bb_F_leastStrength 3 = .ok (.bipush 99, 2) := by decide +kernel
theorem dd_F_leastStrength_5 : decode bb_F_leastStrength 5 = .ok (.if_icmp .gt 21, 3) := by decide +kernel
theorem dd_F_leastStrength_8 : decode bb_F_leastStrength 8 = .ok (.aload_n 0, 1) := by decide +kernel
theorem dd_F_leastStrength_9 : decode bb_F_leastStrength 9 = .ok (.iload_n 1, 1) := by decide +kernel
theorem dd_F_leastStrength_10 : decode bb_F_leastStrength 10 = .ok (.iload_n 3, 1) := by decide +kernel
theorem dd_F_leastStrength_11 : decode bb_F_leastStrength 11 = .ok (.iload_n 2, 1) := by decide +kernel
theorem dd_F_leastStrength_12 : decode bb_F_leastStrength 12 = .ok (.invokevirtual 107, 3) := by decide +kernel
theorem dd_F_leastStrength_15 : decode bb_F_leastStrength 15 = .ok (.ifCond .eq 5, 3) := by decide +kernel
theorem dd_F_leastStrength_18 : decode bb_F_leastStrength 18 = .ok (.iload_n 3, 1) := by decide +kernel
theorem dd_F_leastStrength_19 : decode bb_F_leastStrength 19 = .ok (.ireturn, 1) := by decide +kernel
theorem dd_F_leastStrength_20 : decode bb_F_leastStrength 20 = .ok (.iinc 3 1, 3) := by decide +kernel
theorem dd_F_leastStrength_23 : decode bb_F_leastStrength 23 = .ok (.goto (-21), 3) := by decide +kernel
theorem dd_F_leastStrength_26 : decode bb_F_leastStrength 26 = .ok (.bipush (-2), 2) := by decide +kernel
theorem dd_F_leastStrength_28 : decode bb_F_leastStrength 28 = .ok (.ireturn, 1) := by decide +kernel
def mm_F_leastStrength_b2 (N : Nat) (this : Option Nat) (a1 : Int32) (a2 : Int32) (st : Int32 × ss_Hp) : Option ((Int32 × ss_Hp) ⊕ (ss_Hp ⊕ (Int32 × ss_Hp))) :=
  match st with
  | (x3_2, h_2) =>
    if (99 : Int32) < x3_2 then
      some (.inr (.inl h_2))
    else
      ss_b2 (mm_F_keepsOpen N this a1 x3_2 a2 h_2) fun v2 h3 =>
      if v2 = 0 then
        (some (x3_2 + (1 : Int32))).bind fun v5 =>
        some (.inl (v5, h3))
      else
        some (.inr (.inr (x3_2, h3)))
def mm_F_leastStrength (N : Nat) (this : Option Nat) (a1 : Int32) (a2 : Int32) (h : ss_Hp) : Option (Int32 × ss_Hp) :=
  if ss_is h this 9 = true then
    (ss_lp (mm_F_leastStrength_b2 N this a1 a2) N ((1 : Int32), h)).bind fun e_2 =>
    match e_2 with
    | (.inl h_2_26) =>
      some ((-2 : Int32), h_2_26)
    | (.inr (y3_2_18, h_2_18)) =>
      some (y3_2_18, h_2_18)
  else none
abbrev ww_F_leastStrength (p : Program) (l : Launch) (e : Env) (s : State) (m : MethodId) (below : List Frame) (meth : Method) (c : Code) (G : ss_G) (this : Option Nat) (a1 : Int32) (a2 : Int32) (h : ss_Hp) (rr : Int32) (hh : ss_Hp) (H : Heap) (locs : List Loc) (k n : Nat) (g : JFrame) : Prop := W p l e (headSpec (ss_w yy_F_leastStrength bb_F_leastStrength 4 (some (.int))) ({ frames := 6, cells := 0, slots := 0, locals := 173 })).room s m ([ss_v (ss_b G) this, .int a1, .int a2] : List Value).toArray below meth c H locs k n (MQ below (ss_Qc G (some (.int rr)) hh) ([ss_v (ss_b G) this, .int a1, .int a2] : List Value).toArray s 0 0 (ss_A G)) g
theorem ck_F_leastStrength {N : Nat} {this : Option Nat} {a1 : Int32} {a2 : Int32} {h : ss_Hp} {res : Int32 × ss_Hp} (hm : mm_F_leastStrength N this a1 a2 h = some res) : ss_is h this 9 = true := (ss_chk hm).1
set_option maxHeartbeats 4000000 in
set_option maxRecDepth 100000 in
theorem cc_F_leastStrength (l : Launch) (G : ss_G) (N : Nat) (this : Option Nat) (a1 : Int32) (a2 : Int32) (h : ss_Hp) (rr : Int32) (hh : ss_Hp) (hm : mm_F_leastStrength N this a1 a2 h = some (rr, hh)) : ss_Ct l G yy_F_leastStrength bb_F_leastStrength 4 (some (.int)) ({ frames := 6, cells := 0, slots := 0, locals := 173 }) [ss_v (ss_b G) this, .int a1, .int a2] h (some (.int rr)) hh := by
  obtain ⟨hck, hm⟩ := ss_chk hm
  refine Met.ofW (cc := bb_F_leastStrength) (maxL := 4) (ret := (some (.int))) (by decide) rfl ?_
  intro p e s m args below meth c s₁ B hml hv
  obtain ⟨rfl, hR, hK⟩ := hv
  have hC : CallFix p m c bb_F_leastStrength 4 s _ lw_g sR_9 := ⟨B.exec, B.bytes, hml, findClass_of_methodNamed B.named, fun w hw => atoms_spec (ws := ss_w yy_F_leastStrength bb_F_leastStrength 4 (some (.int))) B.pre w (List.mem_cons_of_mem _ hw)⟩
  have hx := hC.1
  have hb := hC.2.1
  have hr := B.returns
  have hlocks := B.notSynchronized
  have hS : va_S (ss_A G) s.heap s.heap [] := va_S.rf
  have hl := lv_entry ([ss_v (ss_b G) this, .int a1, .int a2]) (n := 4) (by simp [lg_sl, ss_v_cat, ss_cat_i, ss_cat_l, ss_cat_r])
  rw [lg_entry_eq]
  generalize (lg_sl ([ss_v (ss_b G) this, .int a1, .int a2]) ++ List.replicate (4 - (lg_sl ([ss_v (ss_b G) this, .int a1, .int a2])).length) Slot.unset).toArray = ls at hl ⊢
  have hl : lv_has ls 4 [(0, ss_v (ss_b G) this), (1, .int a1), (2, .int a2)] := by simpa [lv_args, ss_v_cat, ss_cat_i, ss_cat_l, ss_cat_r] using hl
  refine lv_iconst (v := 1) hx hb dd_F_leastStrength_0 (by decide) ?_
  refine lv_istore_n (lv' := [(3, .int (1 : Int32)), (0, ss_v (ss_b G) this), (1, .int a1), (2, .int a2)]) hx hb dd_F_leastStrength_1 rfl hl (by decide) rfl (fun ls hl => ?_)
  obtain ⟨e_2, he_2, hm⟩ := ss_bind hm
  have X_2_26 : ∀  (h_2_26 : ss_Hp) (H : Heap) (locs : List Loc) (ls : Array Slot), e_2 = (.inl h_2_26) → ss_R G h_2_26 H → va_S (ss_A G) s.heap H locs → lv_has ls 4 [] → ww_F_leastStrength p l e s m below meth c G this a1 a2 h rr hh  H locs 0 0 (F0 m 26 ls []) := by
    intro h_2_26 H locs ls hq hR hS hl
    rw [hq] at hm
    refine lv_bipush (v := -2) hx hb dd_F_leastStrength_26 (by decide) ?_
    exact ss_iret hC hr hlocks hR hS hm dd_F_leastStrength_28
  have X_2_18 : ∀ (y3_2_18 : Int32) (h_2_18 : ss_Hp) (H : Heap) (locs : List Loc) (ls : Array Slot), e_2 = (.inr (y3_2_18, h_2_18)) → ss_R G h_2_18 H → va_S (ss_A G) s.heap H locs → lv_has ls 4 [(3, .int y3_2_18)] → ww_F_leastStrength p l e s m below meth c G this a1 a2 h rr hh  H locs 0 0 (F0 m 18 ls []) := by
    intro y3_2_18 h_2_18 H locs ls hq hR hS hl
    rw [hq] at hm
    refine lv_iload_n hx hb dd_F_leastStrength_18 rfl (lv_at hl 0 rfl) ?_
    exact ss_iret hC hr hlocks hR hS hm dd_F_leastStrength_19
  have L_2 : ∀ (n : Nat) (x3_2 : Int32) (h_2 : ss_Hp) (H : Heap) (locs : List Loc) (ls : Array Slot), ss_lp (mm_F_leastStrength_b2 N this a1 a2) n (x3_2, h_2) = some e_2 → ss_R G h_2 H → va_S (ss_A G) s.heap H locs → lv_has ls 4 [(0, ss_v (ss_b G) this), (1, .int a1), (2, .int a2), (3, .int x3_2)] → ww_F_leastStrength p l e s m below meth c G this a1 a2 h rr hh  H locs 0 0 (F0 m 2 ls []) := by
    intro n
    induction n with
    | zero => intro x3_2 h_2 H locs ls hm; cases hm
    | succ n ih_2 =>
      intro x3_2 h_2 H locs ls hm hR hS hl
      obtain ⟨z_2, hm, hz1_2, hz2_2⟩ := ss_lps hm
      refine lv_iload_n hx hb dd_F_leastStrength_2 rfl (lv_at hl 3 rfl) ?_
      refine lv_bipush (v := 99) hx hb dd_F_leastStrength_3 (by decide) ?_
      refine lv_icmp_gt (tgt := 26) hx hb dd_F_leastStrength_5 (by decide) (fun c1 => ?_) (fun c1 => ?_)
      · have hm := ss_ift hm c1
        exact X_2_26 h_2 _ _ _ (hz2_2 _ (ss_some hm)) hR hS (lv_sub hl [] rfl)
      · have hm := ss_iff hm c1
        refine ss_aload_n hx hb dd_F_leastStrength_8 rfl (lv_at hl 0 rfl) ?_
        refine lv_iload_n hx hb dd_F_leastStrength_9 rfl (lv_at hl 1 rfl) ?_
        refine lv_iload_n hx hb dd_F_leastStrength_10 rfl (lv_at hl 3 rfl) ?_
        refine lv_iload_n hx hb dd_F_leastStrength_11 rfl (lv_at hl 2 rfl) ?_
        obtain ⟨v2, h3, qh3, hm⟩ := ss_bind2 hm
        refine ss_cV 0 0 (As := [.int a1, .int x3_2, .int a2]) hC hK hR hS hl.1 (cc_F_keepsOpen l G N _ _ _ _ _ _ _ qh3) km_F_107 (ck_F_keepsOpen qh3) ⟨Nat.le_of_ble_eq_true rfl, Nat.le_of_ble_eq_true rfl⟩ ⟨Nat.le_of_ble_eq_true rfl, Nat.le_of_ble_eq_true rfl, Nat.le_of_ble_eq_true rfl, Nat.le_of_ble_eq_true rfl⟩ rfl rfl (Nat.le_of_ble_eq_true rfl) dd_F_leastStrength_12 (fun H locs hR hS => ?_)
        refine lv_if_eq (tgt := 20) hx hb dd_F_leastStrength_15 (by decide) (fun c4 => ?_) (fun c4 => ?_)
        · have hm := ss_ift hm c4
          obtain ⟨v5, qv5, hm⟩ := ss_bind hm
          refine lv_iinc (v := v5) (lv' := [(3, .int v5), (0, ss_v (ss_b G) this), (1, .int a1), (2, .int a2)]) hx hb dd_F_leastStrength_20 hl (k := 3) rfl (ss_inc (by decide) qv5) (by decide) rfl (fun ls hl => ?_)
          refine lv_goto (tgt := 2) hx hb dd_F_leastStrength_23 (by decide) ?_
          exact ih_2 v5 h3 _ _ _ (hz1_2 _ (ss_some hm)) hR hS (lv_sub hl [1, 2, 3, 0] rfl)
        · have hm := ss_iff hm c4
          exact X_2_18 x3_2 h3 _ _ _ (hz2_2 _ (ss_some hm)) hR hS (lv_sub hl [3] rfl)
  exact L_2 N (1 : Int32) h _ _ _ he_2 hR hS (lv_sub hl [1, 2, 3, 0] rfl)
theorem dd_S_might_0 : decode bb_S_might 0 = .ok (.aload_n 0, 1) := by decide +kernel
theorem dd_S_might_1 : decode bb_S_might 1 = .ok (.iload_n 1, 1) := by decide +kernel
theorem dd_S_might_2 : decode bb_S_might 2 = .ok (.invokevirtual 157, 3) := by decide +kernel
theorem dd_S_might_5 : decode bb_S_might 5 = .ok (.ifCond .eq 25, 3) := by decide +kernel
theorem dd_S_might_8 : decode bb_S_might 8 = .ok (.iload_n 2, 1) := by decide +kernel
theorem dd_S_might_9 : decode bb_S_might 9 = .ok (.iconst 1, 1) := by decide +kernel
theorem dd_S_might_10 : decode bb_S_might 10 = .ok (.bipush 30, 2) := by decide +kernel
theorem dd_S_might_12 : decode bb_S_might 12 = .ok (.invokestatic 194, 3) := by decide +kernel
theorem dd_S_might_15 : decode bb_S_might 15 = .ok (.ifCond .eq 15, 3) := by decide +kernel
theorem dd_S_might_18 : decode bb_S_might 18 = .ok (.aload_n 0, 1) := by decide +kernel
theorem dd_S_might_19 : decode bb_S_might 19 = .ok (.getfield 74, 3) := by decide +kernel
theorem dd_S_might_22 : decode bb_S_might 22 = .ok (.iload_n 1, 1) := by decide +kernel
theorem dd_S_might_23 : decode bb_S_might 23 = .ok (.iload_n 2, 1) := by decide +kernel
theorem dd_S_might_24 : decode bb_S_might 24 = .ok (.invokevirtual 268, 3) := by decide +kernel
theorem dd_S_might_27 : decode bb_S_might 27 = .ok (.goto 4, 3) := by decide +kernel
theorem dd_S_might_30 : decode bb_S_might 30 = .ok (.iconst (-1), 1) := by decide +kernel
theorem dd_S_might_31 : decode bb_S_might 31 = .ok (.ireturn, 1) := by decide +kernel
def mm_S_might_j31 (N : Nat) (this : Option Nat) (a1 : Int32) (a2 : Int32) (s0_31 : Int32) (h_31 : ss_Hp) : Option (Int32 × ss_Hp) :=
  some (s0_31, h_31)
def mm_S_might_j30 (N : Nat) (this : Option Nat) (a1 : Int32) (a2 : Int32) (h_30 : ss_Hp) : Option (Int32 × ss_Hp) :=
  mm_S_might_j31 N this a1 a2 (-1 : Int32) h_30
def mm_S_might (N : Nat) (this : Option Nat) (a1 : Int32) (a2 : Int32) (h : ss_Hp) : Option (Int32 × ss_Hp) :=
  if ss_is h this 11 = true then
    (mm_S_isHouse N this a1 h).bind fun v1 =>
    if v1 = 0 then
      mm_S_might_j30 N this a1 a2 h
    else
      (mm_S_isWithin N a2 (1 : Int32) (30 : Int32)).bind fun v3 =>
      if v3 = 0 then
        mm_S_might_j30 N this a1 a2 h
      else
        (ss_gr h this 11 8).bind fun r5 =>
        ss_b2 (mm_F_leastStrength N r5 a1 a2 h) fun v6 h7 =>
        mm_S_might_j31 N this a1 a2 v6 h7
  else none
abbrev ww_S_might (p : Program) (l : Launch) (e : Env) (s : State) (m : MethodId) (below : List Frame) (meth : Method) (c : Code) (G : ss_G) (this : Option Nat) (a1 : Int32) (a2 : Int32) (h : ss_Hp) (rr : Int32) (hh : ss_Hp) (H : Heap) (locs : List Loc) (k n : Nat) (g : JFrame) : Prop := W p l e (headSpec (ss_w yy_S_might bb_S_might 3 (some (.int))) ({ frames := 7, cells := 0, slots := 0, locals := 196 })).room s m ([ss_v (ss_b G) this, .int a1, .int a2] : List Value).toArray below meth c H locs k n (MQ below (ss_Qc G (some (.int rr)) hh) ([ss_v (ss_b G) this, .int a1, .int a2] : List Value).toArray s 0 0 (ss_A G)) g
theorem ck_S_might {N : Nat} {this : Option Nat} {a1 : Int32} {a2 : Int32} {h : ss_Hp} {res : Int32 × ss_Hp} (hm : mm_S_might N this a1 a2 h = some res) : ss_is h this 11 = true := (ss_chk hm).1
set_option maxHeartbeats 4000000 in
set_option maxRecDepth 100000 in
theorem cc_S_might (l : Launch) (G : ss_G) (N : Nat) (this : Option Nat) (a1 : Int32) (a2 : Int32) (h : ss_Hp) (rr : Int32) (hh : ss_Hp) (hm : mm_S_might N this a1 a2 h = some (rr, hh)) : ss_Ct l G yy_S_might bb_S_might 3 (some (.int)) ({ frames := 7, cells := 0, slots := 0, locals := 196 }) [ss_v (ss_b G) this, .int a1, .int a2] h (some (.int rr)) hh := by
  obtain ⟨hck, hm⟩ := ss_chk hm
  refine Met.ofW (cc := bb_S_might) (maxL := 3) (ret := (some (.int))) (by decide) rfl ?_
  intro p e s m args below meth c s₁ B hml hv
  obtain ⟨rfl, hR, hK⟩ := hv
  have hC : CallFix p m c bb_S_might 3 s _ lw_g sR_11 := ⟨B.exec, B.bytes, hml, findClass_of_methodNamed B.named, fun w hw => atoms_spec (ws := ss_w yy_S_might bb_S_might 3 (some (.int))) B.pre w (List.mem_cons_of_mem _ hw)⟩
  have hx := hC.1
  have hb := hC.2.1
  have hr := B.returns
  have hlocks := B.notSynchronized
  have hS : va_S (ss_A G) s.heap s.heap [] := va_S.rf
  have hl := lv_entry ([ss_v (ss_b G) this, .int a1, .int a2]) (n := 3) (by simp [lg_sl, ss_v_cat, ss_cat_i, ss_cat_l, ss_cat_r])
  rw [lg_entry_eq]
  generalize (lg_sl ([ss_v (ss_b G) this, .int a1, .int a2]) ++ List.replicate (3 - (lg_sl ([ss_v (ss_b G) this, .int a1, .int a2])).length) Slot.unset).toArray = ls at hl ⊢
  have hl : lv_has ls 3 [(0, ss_v (ss_b G) this), (1, .int a1), (2, .int a2)] := by simpa [lv_args, ss_v_cat, ss_cat_i, ss_cat_l, ss_cat_r] using hl
  have J_31 : ∀ (s0_31 : Int32) (h_31 : ss_Hp) (H : Heap) (locs : List Loc) (ls : Array Slot), mm_S_might_j31 N this a1 a2 s0_31 h_31 = some (rr, hh) → ss_R G h_31 H → va_S (ss_A G) s.heap H locs → lv_has ls 3 [] → ww_S_might p l e s m below meth c G this a1 a2 h rr hh  H locs 0 0 (F0 m 31 ls [.int s0_31]) := by
    intro s0_31 h_31 H locs ls hm hR hS hl
    exact ss_iret hC hr hlocks hR hS hm dd_S_might_31
  have J_30 : ∀ (h_30 : ss_Hp) (H : Heap) (locs : List Loc) (ls : Array Slot), mm_S_might_j30 N this a1 a2 h_30 = some (rr, hh) → ss_R G h_30 H → va_S (ss_A G) s.heap H locs → lv_has ls 3 [] → ww_S_might p l e s m below meth c G this a1 a2 h rr hh  H locs 0 0 (F0 m 30 ls []) := by
    intro h_30 H locs ls hm hR hS hl
    refine lv_iconst (v := -1) hx hb dd_S_might_30 (by decide) ?_
    exact J_31 (-1 : Int32) h_30 _ _ _ hm hR hS hl
  refine ss_aload_n hx hb dd_S_might_0 rfl (lv_at hl 0 rfl) ?_
  refine lv_iload_n hx hb dd_S_might_1 rfl (lv_at hl 1 rfl) ?_
  obtain ⟨v1, qv1, hm⟩ := ss_bind hm
  refine ss_cV 0 0 (As := [.int a1]) hC hK hR hS hl.1 (cc_S_isHouse l G N _ _ _ _ qv1) km_S_157 (ck_S_isHouse qv1) ⟨Nat.le_of_ble_eq_true rfl, Nat.le_of_ble_eq_true rfl⟩ ⟨Nat.le_of_ble_eq_true rfl, Nat.le_of_ble_eq_true rfl, Nat.le_of_ble_eq_true rfl, Nat.le_of_ble_eq_true rfl⟩ rfl rfl (Nat.le_of_ble_eq_true rfl) dd_S_might_2 (fun H locs hR hS => ?_)
  refine lv_if_eq (tgt := 30) hx hb dd_S_might_5 (by decide) (fun c2 => ?_) (fun c2 => ?_)
  · have hm := ss_ift hm c2
    exact J_30 h _ _ _ hm hR hS (lv_sub hl [] rfl)
  · have hm := ss_iff hm c2
    refine lv_iload_n hx hb dd_S_might_8 rfl (lv_at hl 2 rfl) ?_
    refine lv_iconst (v := 1) hx hb dd_S_might_9 (by decide) ?_
    refine lv_bipush (v := 30) hx hb dd_S_might_10 (by decide) ?_
    obtain ⟨v3, qv3, hm⟩ := ss_bind hm
    refine ss_cS 0 0 (As := [.int a2, .int (1 : Int32), .int (30 : Int32)]) hC hK hR hS hl.1 (cc_S_isWithin l G N _ _ _ _ _ qv3) km_S_194 ⟨Nat.le_of_ble_eq_true rfl, Nat.le_of_ble_eq_true rfl⟩ ⟨Nat.le_of_ble_eq_true rfl, Nat.le_of_ble_eq_true rfl, Nat.le_of_ble_eq_true rfl, Nat.le_of_ble_eq_true rfl⟩ rfl rfl (Nat.le_of_ble_eq_true rfl) dd_S_might_12 (fun H locs hR hS => ?_)
    refine lv_if_eq (tgt := 30) hx hb dd_S_might_15 (by decide) (fun c4 => ?_) (fun c4 => ?_)
    · have hm := ss_ift hm c4
      exact J_30 h _ _ _ hm hR hS (lv_sub hl [] rfl)
    · have hm := ss_iff hm c4
      refine ss_aload_n hx hb dd_S_might_18 rfl (lv_at hl 0 rfl) ?_
      obtain ⟨r5, qr5, hm⟩ := ss_bind hm
      refine ss_getr hC hK hR kf_S_74 rfl qr5 dd_S_might_19 ?_
      refine lv_iload_n hx hb dd_S_might_22 rfl (lv_at hl 1 rfl) ?_
      refine lv_iload_n hx hb dd_S_might_23 rfl (lv_at hl 2 rfl) ?_
      obtain ⟨v6, h7, qh7, hm⟩ := ss_bind2 hm
      refine ss_cV 0 0 (As := [.int a1, .int a2]) hC hK hR hS hl.1 (cc_F_leastStrength l G N _ _ _ _ _ _ qh7) km_S_268 (ck_F_leastStrength qh7) ⟨Nat.le_of_ble_eq_true rfl, Nat.le_of_ble_eq_true rfl⟩ ⟨Nat.le_of_ble_eq_true rfl, Nat.le_of_ble_eq_true rfl, Nat.le_of_ble_eq_true rfl, Nat.le_of_ble_eq_true rfl⟩ rfl rfl (Nat.le_of_ble_eq_true rfl) dd_S_might_24 (fun H locs hR hS => ?_)
      refine lv_goto (tgt := 31) hx hb dd_S_might_27 (by decide) ?_
      exact J_31 v6 h7 _ _ _ hm hR hS (lv_sub hl [] rfl)
theorem dd_Wo_addNote_0 : decode bb_Wo_addNote 0 = .ok (.aload_n 0, 1) := by decide +kernel
theorem dd_Wo_addNote_1 : decode bb_Wo_addNote 1 = .ok (.getfield 49, 3) := by decide +kernel
theorem dd_Wo_addNote_4 : decode bb_Wo_addNote 4 = .ok (.bipush 10, 2) := by decide +kernel
theorem dd_Wo_addNote_6 : decode bb_Wo_addNote 6 = .ok (.if_icmp .ge 43, 3) := by decide +kernel
theorem dd_Wo_addNote_9 : decode bb_Wo_addNote 9 = .ok (.aload_n 0, 1) := by decide +kernel
theorem dd_Wo_addNote_10 : decode bb_Wo_addNote 10 = .ok (.getfield 29, 3) := by decide +kernel
theorem dd_Wo_addNote_13 : decode bb_Wo_addNote 13 = .ok (.aload_n 0, 1) := by decide +kernel
theorem dd_Wo_addNote_14 : decode bb_Wo_addNote 14 = .ok (.getfield 49, 3) := by decide +kernel
theorem dd_Wo_addNote_17 : decode bb_Wo_addNote 17 = .ok (.iload_n 1, 1) := by decide +kernel
theorem dd_Wo_addNote_18 : decode bb_Wo_addNote 18 = .ok (.iastore, 1) := by decide +kernel
theorem dd_Wo_addNote_19 : decode bb_Wo_addNote 19 = .ok (.aload_n 0, 1) := by decide +kernel
theorem dd_Wo_addNote_20 : decode bb_Wo_addNote 20 = .ok (.getfield 33, 3) := by decide +kernel
theorem dd_Wo_addNote_23 : decode bb_Wo_addNote 23 = .ok (.aload_n 0, 1) := by decide +kernel
theorem dd_Wo_addNote_24 : decode bb_Wo_addNote 24 = .ok (.getfield 49, 3) := by decide +kernel
theorem dd_Wo_addNote_27 : decode bb_Wo_addNote 27 = .ok (.iload_n 2, 1) := by decide +kernel
theorem dd_Wo_addNote_28 : decode bb_Wo_addNote 28 = .ok (.iastore, 1) := by decide +kernel
theorem dd_Wo_addNote_29 : decode bb_Wo_addNote 29 = .ok (.aload_n 0, 1) := by decide +kernel
theorem dd_Wo_addNote_30 : decode bb_Wo_addNote 30 = .ok (.getfield 36, 3) := by decide +kernel
theorem dd_Wo_addNote_33 : decode bb_Wo_addNote 33 = .ok (.aload_n 0, 1) := by decide +kernel
theorem dd_Wo_addNote_34 : decode bb_Wo_addNote 34 = .ok (.getfield 49, 3) := by decide +kernel
theorem dd_Wo_addNote_37 : decode bb_Wo_addNote 37 = .ok (.iload_n 3, 1) := by decide +kernel
theorem dd_Wo_addNote_38 : decode bb_Wo_addNote 38 = .ok (.iastore, 1) := by decide +kernel
theorem dd_Wo_addNote_39 : decode bb_Wo_addNote 39 = .ok (.aload_n 0, 1) := by decide +kernel
theorem dd_Wo_addNote_40 : decode bb_Wo_addNote 40 = .ok (.dup, 1) := by decide +kernel
theorem dd_Wo_addNote_41 : decode bb_Wo_addNote 41 = .ok (.getfield 49, 3) := by decide +kernel
theorem dd_Wo_addNote_44 : decode bb_Wo_addNote 44 = .ok (.iconst 1, 1) := by decide +kernel
theorem dd_Wo_addNote_45 : decode bb_Wo_addNote 45 = .ok (.iadd, 1) := by decide +kernel
theorem dd_Wo_addNote_46 : decode bb_Wo_addNote 46 = .ok (.putfield 49, 3) := by decide +kernel
theorem dd_Wo_addNote_49 : decode bb_Wo_addNote 49 = .ok (.aload_n 0, 1) := by decide +kernel
theorem dd_Wo_addNote_50 : decode bb_Wo_addNote 50 = .ok (.getfield 49, 3) := by decide +kernel
theorem dd_Wo_addNote_53 : decode bb_Wo_addNote 53 = .ok (.ireturn, 1) := by decide +kernel
def mm_Wo_addNote_j49 (N : Nat) (this : Option Nat) (a1 : Int32) (a2 : Int32) (a3 : Int32) (h_49 : ss_Hp) : Option (Int32 × ss_Hp) :=
  (ss_gi h_49 this 8 2).bind fun v1 =>
  some (v1, h_49)
def mm_Wo_addNote (N : Nat) (this : Option Nat) (a1 : Int32) (a2 : Int32) (a3 : Int32) (h : ss_Hp) : Option (Int32 × ss_Hp) :=
  if ss_is h this 8 = true then
    (ss_gi h this 8 2).bind fun v2 =>
    if (10 : Int32) ≤ v2 then
      mm_Wo_addNote_j49 N this a1 a2 a3 h
    else
      (ss_gr h this 8 2).bind fun r4 =>
      (ss_gi h this 8 2).bind fun v5 =>
      (ss_ui h r4 20 v5 a1).bind fun h6 =>
      (ss_gr h6 this 8 3).bind fun r7 =>
      (ss_gi h6 this 8 2).bind fun v8 =>
      (ss_ui h6 r7 20 v8 a2).bind fun h9 =>
      (ss_gr h9 this 8 4).bind fun r10 =>
      (ss_gi h9 this 8 2).bind fun v11 =>
      (ss_ui h9 r10 20 v11 a3).bind fun h12 =>
      (ss_gi h12 this 8 2).bind fun v13 =>
      (ss_pi h12 this 8 2 (v13 + (1 : Int32))).bind fun h14 =>
      mm_Wo_addNote_j49 N this a1 a2 a3 h14
  else none
abbrev ww_Wo_addNote (p : Program) (l : Launch) (e : Env) (s : State) (m : MethodId) (below : List Frame) (meth : Method) (c : Code) (G : ss_G) (this : Option Nat) (a1 : Int32) (a2 : Int32) (a3 : Int32) (h : ss_Hp) (rr : Int32) (hh : ss_Hp) (H : Heap) (locs : List Loc) (k n : Nat) (g : JFrame) : Prop := W p l e (headSpec (ss_w yy_Wo_addNote bb_Wo_addNote 4 (some (.int))) ({ frames := 0, cells := 0, slots := 0, locals := 0 })).room s m ([ss_v (ss_b G) this, .int a1, .int a2, .int a3] : List Value).toArray below meth c H locs k n (MQ below (ss_Qc G (some (.int rr)) hh) ([ss_v (ss_b G) this, .int a1, .int a2, .int a3] : List Value).toArray s 0 0 (ss_A G)) g
theorem ck_Wo_addNote {N : Nat} {this : Option Nat} {a1 : Int32} {a2 : Int32} {a3 : Int32} {h : ss_Hp} {res : Int32 × ss_Hp} (hm : mm_Wo_addNote N this a1 a2 a3 h = some res) : ss_is h this 8 = true := (ss_chk hm).1
set_option maxHeartbeats 4000000 in
set_option maxRecDepth 100000 in
theorem cc_Wo_addNote (l : Launch) (G : ss_G) (N : Nat) (this : Option Nat) (a1 : Int32) (a2 : Int32) (a3 : Int32) (h : ss_Hp) (rr : Int32) (hh : ss_Hp) (hm : mm_Wo_addNote N this a1 a2 a3 h = some (rr, hh)) : ss_Ct l G yy_Wo_addNote bb_Wo_addNote 4 (some (.int)) ({ frames := 0, cells := 0, slots := 0, locals := 0 }) [ss_v (ss_b G) this, .int a1, .int a2, .int a3] h (some (.int rr)) hh := by
  obtain ⟨hck, hm⟩ := ss_chk hm
  refine Met.ofW (cc := bb_Wo_addNote) (maxL := 4) (ret := (some (.int))) (by decide) rfl ?_
  intro p e s m args below meth c s₁ B hml hv
  obtain ⟨rfl, hR, hK⟩ := hv
  have hC : CallFix p m c bb_Wo_addNote 4 s _ lw_g sR_8 := ⟨B.exec, B.bytes, hml, findClass_of_methodNamed B.named, fun w hw => atoms_spec (ws := ss_w yy_Wo_addNote bb_Wo_addNote 4 (some (.int))) B.pre w (List.mem_cons_of_mem _ hw)⟩
  have hx := hC.1
  have hb := hC.2.1
  have hr := B.returns
  have hlocks := B.notSynchronized
  have hS : va_S (ss_A G) s.heap s.heap [] := va_S.rf
  have hl := lv_entry ([ss_v (ss_b G) this, .int a1, .int a2, .int a3]) (n := 4) (by simp [lg_sl, ss_v_cat, ss_cat_i, ss_cat_l, ss_cat_r])
  rw [lg_entry_eq]
  generalize (lg_sl ([ss_v (ss_b G) this, .int a1, .int a2, .int a3]) ++ List.replicate (4 - (lg_sl ([ss_v (ss_b G) this, .int a1, .int a2, .int a3])).length) Slot.unset).toArray = ls at hl ⊢
  have hl : lv_has ls 4 [(0, ss_v (ss_b G) this), (1, .int a1), (2, .int a2), (3, .int a3)] := by simpa [lv_args, ss_v_cat, ss_cat_i, ss_cat_l, ss_cat_r] using hl
  have J_49 : ∀ (h_49 : ss_Hp) (H : Heap) (locs : List Loc) (ls : Array Slot), mm_Wo_addNote_j49 N this a1 a2 a3 h_49 = some (rr, hh) → ss_R G h_49 H → va_S (ss_A G) s.heap H locs → lv_has ls 4 [(0, ss_v (ss_b G) this)] → ww_Wo_addNote p l e s m below meth c G this a1 a2 a3 h rr hh  H locs 0 0 (F0 m 49 ls []) := by
    intro h_49 H locs ls hm hR hS hl
    refine ss_aload_n hx hb dd_Wo_addNote_49 rfl (lv_at hl 0 rfl) ?_
    obtain ⟨v1, qv1, hm⟩ := ss_bind hm
    refine ss_geti hC hK hR kf_Wo_49 qv1 dd_Wo_addNote_50 ?_
    exact ss_iret hC hr hlocks hR hS hm dd_Wo_addNote_53
  refine ss_aload_n hx hb dd_Wo_addNote_0 rfl (lv_at hl 0 rfl) ?_
  obtain ⟨v2, qv2, hm⟩ := ss_bind hm
  refine ss_geti hC hK hR kf_Wo_49 qv2 dd_Wo_addNote_1 ?_
  refine lv_bipush (v := 10) hx hb dd_Wo_addNote_4 (by decide) ?_
  refine lv_icmp_ge (tgt := 49) hx hb dd_Wo_addNote_6 (by decide) (fun c3 => ?_) (fun c3 => ?_)
  · have hm := ss_ift hm c3
    exact J_49 h _ _ _ hm hR hS (lv_sub hl [0] rfl)
  · have hm := ss_iff hm c3
    refine ss_aload_n hx hb dd_Wo_addNote_9 rfl (lv_at hl 0 rfl) ?_
    obtain ⟨r4, qr4, hm⟩ := ss_bind hm
    refine ss_getr hC hK hR kf_Wo_29 rfl qr4 dd_Wo_addNote_10 ?_
    refine ss_aload_n hx hb dd_Wo_addNote_13 rfl (lv_at hl 0 rfl) ?_
    obtain ⟨v5, qv5, hm⟩ := ss_bind hm
    refine ss_geti hC hK hR kf_Wo_49 qv5 dd_Wo_addNote_14 ?_
    refine lv_iload_n hx hb dd_Wo_addNote_17 rfl (lv_at hl 1 rfl) ?_
    obtain ⟨h6, qh6, hm⟩ := ss_bind hm
    refine ss_iast hC hK hR hS qh6 dd_Wo_addNote_18 (fun H locs hR hS => ?_)
    refine ss_aload_n hx hb dd_Wo_addNote_19 rfl (lv_at hl 0 rfl) ?_
    obtain ⟨r7, qr7, hm⟩ := ss_bind hm
    refine ss_getr hC hK hR kf_Wo_33 rfl qr7 dd_Wo_addNote_20 ?_
    refine ss_aload_n hx hb dd_Wo_addNote_23 rfl (lv_at hl 0 rfl) ?_
    obtain ⟨v8, qv8, hm⟩ := ss_bind hm
    refine ss_geti hC hK hR kf_Wo_49 qv8 dd_Wo_addNote_24 ?_
    refine lv_iload_n hx hb dd_Wo_addNote_27 rfl (lv_at hl 2 rfl) ?_
    obtain ⟨h9, qh9, hm⟩ := ss_bind hm
    refine ss_iast hC hK hR hS qh9 dd_Wo_addNote_28 (fun H locs hR hS => ?_)
    refine ss_aload_n hx hb dd_Wo_addNote_29 rfl (lv_at hl 0 rfl) ?_
    obtain ⟨r10, qr10, hm⟩ := ss_bind hm
    refine ss_getr hC hK hR kf_Wo_36 rfl qr10 dd_Wo_addNote_30 ?_
    refine ss_aload_n hx hb dd_Wo_addNote_33 rfl (lv_at hl 0 rfl) ?_
    obtain ⟨v11, qv11, hm⟩ := ss_bind hm
    refine ss_geti hC hK hR kf_Wo_49 qv11 dd_Wo_addNote_34 ?_
    refine lv_iload_n hx hb dd_Wo_addNote_37 rfl (lv_at hl 3 rfl) ?_
    obtain ⟨h12, qh12, hm⟩ := ss_bind hm
    refine ss_iast hC hK hR hS qh12 dd_Wo_addNote_38 (fun H locs hR hS => ?_)
    refine ss_aload_n hx hb dd_Wo_addNote_39 rfl (lv_at hl 0 rfl) ?_
    refine ss_dupr hx hb dd_Wo_addNote_40 ?_
    obtain ⟨v13, qv13, hm⟩ := ss_bind hm
    refine ss_geti hC hK hR kf_Wo_49 qv13 dd_Wo_addNote_41 ?_
    refine lv_iconst (v := 1) hx hb dd_Wo_addNote_44 (by decide) ?_
    refine lv_iadd hx hb dd_Wo_addNote_45 ?_
    obtain ⟨h14, qh14, hm⟩ := ss_bind hm
    refine ss_puti hC hK hR hS kp_Wo_49 qh14 dd_Wo_addNote_46 (fun H locs hR hS => ?_)
    exact J_49 h14 _ _ _ hm hR hS (lv_sub hl [0] rfl)
