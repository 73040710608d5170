theorem dd_S_undo_0 : decode bb_S_undo 0 = .ok (.aload_n 0, 1) := by decide +kernel
theorem dd_S_undo_1 : decode bb_S_undo 1 = .ok (.getfield 52, 3) := by decide +kernel
theorem dd_S_undo_4 : decode bb_S_undo 4 = .ok (.aload_n 0, 1) := by decide +kernel
theorem dd_S_undo_5 : decode bb_S_undo 5 = .ok (.getfield 41, 3) := by decide +kernel
theorem dd_S_undo_8 : decode bb_S_undo 8 = .ok (.getfield 127, 3) := by decide +kernel
theorem dd_S_undo_11 : decode bb_S_undo 11 = .ok (.invokevirtual 208, 3) := by decide +kernel
theorem dd_S_undo_14 : decode bb_S_undo 14 = .ok (.ireturn, 1) := by decide +kernel
def mm_S_undo (N : Nat) (this : Option Nat) (h : ss_Hp) : Option (Int32 × ss_Hp) :=
  if ss_is h this 11 = true then
    (ss_gr h this 11 6).bind fun r1 =>
    (ss_gr h this 11 4).bind fun r2 =>
    (ss_gr h r2 8 1).bind fun r3 =>
    ss_b2 (mm_A_takeBack N r1 r3 h) fun v4 h5 =>
    some (v4, h5)
  else none
abbrev ww_S_undo (p : Program) (l : Launch) (e : Env) (s : State) (m : MethodId) (below : List Frame) (meth : Method) (c : Code) (G : ss_G) (this : Option Nat) (h : ss_Hp) (rr : Int32) (hh : ss_Hp) (H : Heap) (locs : List Loc) (k n : Nat) (g : JFrame) : Prop := W p l e (headSpec (ss_w yy_S_undo bb_S_undo 1 (some (.int))) ({ frames := 3, cells := 0, slots := 0, locals := 122 })).room s m ([ss_v (ss_b G) this] : List Value).toArray below meth c H locs k n (MQ below (ss_Qc G (some (.int rr)) hh) ([ss_v (ss_b G) this] : List Value).toArray s 0 0 (ss_A G)) g
theorem ck_S_undo {N : Nat} {this : Option Nat} {h : ss_Hp} {res : Int32 × ss_Hp} (hm : mm_S_undo N this h = some res) : ss_is h this 11 = true := (ss_chk hm).1
set_option maxHeartbeats 4000000 in
set_option maxRecDepth 100000 in
theorem cc_S_undo (l : Launch) (G : ss_G) (N : Nat) (this : Option Nat) (h : ss_Hp) (rr : Int32) (hh : ss_Hp) (hm : mm_S_undo N this h = some (rr, hh)) : ss_Ct l G yy_S_undo bb_S_undo 1 (some (.int)) ({ frames := 3, cells := 0, slots := 0, locals := 122 }) [ss_v (ss_b G) this] h (some (.int rr)) hh := by
  obtain ⟨hck, hm⟩ := ss_chk hm
  refine Met.ofW (cc := bb_S_undo) (maxL := 1) (ret := (some (.int))) (by decide) rfl ?_
  intro p e s m args below meth c s₁ B hml hv
  obtain ⟨rfl, hR, hK⟩ := hv
  have hC : CallFix p m c bb_S_undo 1 s _ lw_g sR_11 := ⟨B.exec, B.bytes, hml, findClass_of_methodNamed B.named, fun w hw => atoms_spec (ws := ss_w yy_S_undo bb_S_undo 1 (some (.int))) B.pre w (List.mem_cons_of_mem _ hw)⟩
  have hx := hC.1
  have hb := hC.2.1
  have hr := B.returns
  have hlocks := B.notSynchronized
  have hS : va_S (ss_A G) s.heap s.heap [] := va_S.rf
  have hl := lv_entry ([ss_v (ss_b G) this]) (n := 1) (by simp [lg_sl, ss_v_cat, ss_cat_i, ss_cat_l, ss_cat_r])
  rw [lg_entry_eq]
  generalize (lg_sl ([ss_v (ss_b G) this]) ++ List.replicate (1 - (lg_sl ([ss_v (ss_b G) this])).length) Slot.unset).toArray = ls at hl ⊢
  have hl : lv_has ls 1 [(0, ss_v (ss_b G) this)] := by simpa [lv_args, ss_v_cat, ss_cat_i, ss_cat_l, ss_cat_r] using hl
  refine ss_aload_n hx hb dd_S_undo_0 rfl (lv_at hl 0 rfl) ?_
  obtain ⟨r1, qr1, hm⟩ := ss_bind hm
  refine ss_getr hC hK hR kf_S_52 rfl qr1 dd_S_undo_1 ?_
  refine ss_aload_n hx hb dd_S_undo_4 rfl (lv_at hl 0 rfl) ?_
  obtain ⟨r2, qr2, hm⟩ := ss_bind hm
  refine ss_getr hC hK hR kf_S_41 rfl qr2 dd_S_undo_5 ?_
  obtain ⟨r3, qr3, hm⟩ := ss_bind hm
  refine ss_getr hC hK hR kf_S_127 rfl qr3 dd_S_undo_8 ?_
  obtain ⟨v4, h5, qh5, hm⟩ := ss_bind2 hm
  refine ss_cV 0 0 (As := [ss_v (ss_b G) r3]) hC hK hR hS hl.1 (cc_A_takeBack l G N _ _ _ _ _ qh5) km_S_208 (ck_A_takeBack qh5) ⟨Nat.le_of_ble_eq_true rfl, Nat.le_of_ble_eq_true rfl⟩ ⟨Nat.le_of_ble_eq_true rfl, Nat.le_of_ble_eq_true rfl, Nat.le_of_ble_eq_true rfl, Nat.le_of_ble_eq_true rfl⟩ rfl rfl (Nat.le_of_ble_eq_true rfl) dd_S_undo_11 (fun H locs hR hS => ?_)
  exact ss_iret hC hr hlocks hR hS hm dd_S_undo_14
theorem dd_F_go_0 : decode bb_F_go 0 = .ok (.aload_n 0, 1) := by decide +kernel
theorem dd_F_go_1 : decode bb_F_go 1 = .ok (.invokevirtual 51, 3) := by decide +kernel
theorem dd_F_go_4 : decode bb_F_go 4 = .ok (.iconst 0, 1) := by decide +kernel
theorem dd_F_go_5 : decode bb_F_go 5 = .ok (.istore_n 2, 1) := by decide +kernel
theorem dd_F_go_6 : decode bb_F_go 6 = .ok (.iload_n 2, 1) := by decide +kernel
theorem dd_F_go_7 : decode bb_F_go 7 = .ok (.iload_n 1, 1) := by decide +kernel
theorem dd_F_go_8 : decode bb_F_go 8 = .ok (.if_icmp .ge 17, 3) := by decide +kernel
theorem dd_F_go_11 : decode bb_F_go 11 = .ok (.aload_n 0, 1) := by decide +kernel
theorem dd_F_go_12 : decode bb_F_go 12 = .ok (.getfield 27, 3) := by decide +kernel
theorem dd_F_go_15 : decode bb_F_go 15 = .ok (.invokevirtual 54, 3) := by decide +kernel
theorem dd_F_go_18 : decode bb_F_go 18 = .ok (.pop, 1) := by decide +kernel
theorem dd_F_go_19 : decode bb_F_go 19 = .ok (.iinc 2 1, 3) := by decide +kernel
theorem dd_F_go_22 : decode bb_F_go 22 = .ok (.goto (-16), 3) := by decide +kernel
theorem dd_F_go_25 : decode bb_F_go 25 = .ok (.return_, 1) := by decide +kernel
def mm_F_go_b6 (N : Nat) (this : Option Nat) (a1 : Int32) (st : Int32 × ss_Hp) : Option ((Int32 × ss_Hp) ⊕ ss_Hp) :=
  match st with
  | (x2_6, h_6) =>
    if a1 ≤ x2_6 then
      some (.inr h_6)
    else
      (ss_gr h_6 this 9 2).bind fun r3 =>
      ss_b2 (mm_Wi_passDay N r3 h_6) fun v4 h5 =>
      (some (x2_6 + (1 : Int32))).bind fun v6 =>
      some (.inl (v6, h5))
def mm_F_go (N : Nat) (this : Option Nat) (a1 : Int32) (h : ss_Hp) : Option ss_Hp :=
  if ss_is h this 9 = true then
    (mm_F_start N this h).bind fun h1 =>
    (ss_lp (mm_F_go_b6 N this a1) N ((0 : Int32), h1)).bind fun h_6_25 =>
    some h_6_25
  else none
abbrev ww_F_go (p : Program) (l : Launch) (e : Env) (s : State) (m : MethodId) (below : List Frame) (meth : Method) (c : Code) (G : ss_G) (this : Option Nat) (a1 : Int32) (h : ss_Hp) (hh : ss_Hp) (H : Heap) (locs : List Loc) (k n : Nat) (g : JFrame) : Prop := W p l e (headSpec (ss_w yy_F_go bb_F_go 3 none) ({ frames := 5, cells := 0, slots := 0, locals := 148 })).room s m ([ss_v (ss_b G) this, .int a1] : List Value).toArray below meth c H locs k n (MQ below (ss_Qc G none hh) ([ss_v (ss_b G) this, .int a1] : List Value).toArray s 0 0 (ss_A G)) g
theorem ck_F_go {N : Nat} {this : Option Nat} {a1 : Int32} {h : ss_Hp} {res : ss_Hp} (hm : mm_F_go N this a1 h = some res) : ss_is h this 9 = true := (ss_chk hm).1
set_option maxHeartbeats 4000000 in
set_option maxRecDepth 100000 in
theorem cc_F_go (l : Launch) (G : ss_G) (N : Nat) (this : Option Nat) (a1 : Int32) (h : ss_Hp) (hh : ss_Hp) (hm : mm_F_go N this a1 h = some hh) : ss_Ct l G yy_F_go bb_F_go 3 none ({ frames := 5, cells := 0, slots := 0, locals := 148 }) [ss_v (ss_b G) this, .int a1] h none hh := by
  obtain ⟨hck, hm⟩ := ss_chk hm
  refine Met.ofW (cc := bb_F_go) (maxL := 3) (ret := none) (by decide) rfl ?_
  intro p e s m args below meth c s₁ B hml hv
  obtain ⟨rfl, hR, hK⟩ := hv
  have hC : CallFix p m c bb_F_go 3 s _ lw_g sR_9 := ⟨B.exec, B.bytes, hml, findClass_of_methodNamed B.named, fun w hw => atoms_spec (ws := ss_w yy_F_go bb_F_go 3 none) B.pre w (List.mem_cons_of_mem _ hw)⟩
  have hx := hC.1
  have hb := hC.2.1
  have hr := B.returns
  have hlocks := B.notSynchronized
  have hS : va_S (ss_A G) s.heap s.heap [] := va_S.rf
  have hl := lv_entry ([ss_v (ss_b G) this, .int a1]) (n := 3) (by simp [lg_sl, ss_v_cat, ss_cat_i, ss_cat_l, ss_cat_r])
  rw [lg_entry_eq]
  generalize (lg_sl ([ss_v (ss_b G) this, .int a1]) ++ List.replicate (3 - (lg_sl ([ss_v (ss_b G) this, .int a1])).length) Slot.unset).toArray = ls at hl ⊢
  have hl : lv_has ls 3 [(0, ss_v (ss_b G) this), (1, .int a1)] := by simpa [lv_args, ss_v_cat, ss_cat_i, ss_cat_l, ss_cat_r] using hl
  refine ss_aload_n hx hb dd_F_go_0 rfl (lv_at hl 0 rfl) ?_
  obtain ⟨h1, qh1, hm⟩ := ss_bind hm
  refine ss_cVv 0 0 (As := []) hC hK hR hS hl.1 (cc_F_start l G N _ _ _ qh1) km_F_51 (ck_F_start qh1) ⟨Nat.le_of_ble_eq_true rfl, Nat.le_of_ble_eq_true rfl⟩ ⟨Nat.le_of_ble_eq_true rfl, Nat.le_of_ble_eq_true rfl, Nat.le_of_ble_eq_true rfl, Nat.le_of_ble_eq_true rfl⟩ rfl rfl (Nat.le_of_ble_eq_true rfl) dd_F_go_1 (fun H locs hR hS => ?_)
  refine lv_iconst (v := 0) hx hb dd_F_go_4 (by decide) ?_
  refine lv_istore_n (lv' := [(2, .int (0 : Int32)), (0, ss_v (ss_b G) this), (1, .int a1)]) hx hb dd_F_go_5 rfl hl (by decide) rfl (fun ls hl => ?_)
  obtain ⟨e_6, he_6, hm⟩ := ss_bind hm
  have X_6_25 : ∀  (h_6_25 : ss_Hp) (H : Heap) (locs : List Loc) (ls : Array Slot), e_6 = h_6_25 → ss_R G h_6_25 H → va_S (ss_A G) s.heap H locs → lv_has ls 3 [] → ww_F_go p l e s m below meth c G this a1 h hh  H locs 0 0 (F0 m 25 ls []) := by
    intro h_6_25 H locs ls hq hR hS hl
    rw [hq] at hm
    exact ss_vret hC hr hlocks hR hS hm dd_F_go_25
  have L_6 : ∀ (n : Nat) (x2_6 : Int32) (h_6 : ss_Hp) (H : Heap) (locs : List Loc) (ls : Array Slot), ss_lp (mm_F_go_b6 N this a1) n (x2_6, h_6) = some e_6 → ss_R G h_6 H → va_S (ss_A G) s.heap H locs → lv_has ls 3 [(0, ss_v (ss_b G) this), (1, .int a1), (2, .int x2_6)] → ww_F_go p l e s m below meth c G this a1 h hh  H locs 0 0 (F0 m 6 ls []) := by
    intro n
    induction n with
    | zero => intro x2_6 h_6 H locs ls hm; cases hm
    | succ n ih_6 =>
      intro x2_6 h_6 H locs ls hm hR hS hl
      obtain ⟨z_6, hm, hz1_6, hz2_6⟩ := ss_lps hm
      refine lv_iload_n hx hb dd_F_go_6 rfl (lv_at hl 2 rfl) ?_
      refine lv_iload_n hx hb dd_F_go_7 rfl (lv_at hl 1 rfl) ?_
      refine lv_icmp_ge (tgt := 25) hx hb dd_F_go_8 (by decide) (fun c2 => ?_) (fun c2 => ?_)
      · have hm := ss_ift hm c2
        exact X_6_25 h_6 _ _ _ (hz2_6 _ (ss_some hm)) hR hS (lv_sub hl [] rfl)
      · have hm := ss_iff hm c2
        refine ss_aload_n hx hb dd_F_go_11 rfl (lv_at hl 0 rfl) ?_
        obtain ⟨r3, qr3, hm⟩ := ss_bind hm
        refine ss_getr hC hK hR kf_F_27 rfl qr3 dd_F_go_12 ?_
        obtain ⟨v4, h5, qh5, hm⟩ := ss_bind2 hm
        refine ss_cV 0 0 (As := []) hC hK hR hS hl.1 (cc_Wi_passDay l G N _ _ _ _ qh5) km_F_54 (ck_Wi_passDay qh5) ⟨Nat.le_of_ble_eq_true rfl, Nat.le_of_ble_eq_true rfl⟩ ⟨Nat.le_of_ble_eq_true rfl, Nat.le_of_ble_eq_true rfl, Nat.le_of_ble_eq_true rfl, Nat.le_of_ble_eq_true rfl⟩ rfl rfl (Nat.le_of_ble_eq_true rfl) dd_F_go_15 (fun H locs hR hS => ?_)
        refine lv_pop hx hb dd_F_go_18 rfl ?_
        obtain ⟨v6, qv6, hm⟩ := ss_bind hm
        refine lv_iinc (v := v6) (lv' := [(2, .int v6), (0, ss_v (ss_b G) this), (1, .int a1)]) hx hb dd_F_go_19 hl (k := 2) rfl (ss_inc (by decide) qv6) (by decide) rfl (fun ls hl => ?_)
        refine lv_goto (tgt := 6) hx hb dd_F_go_22 (by decide) ?_
        exact ih_6 v6 h5 _ _ _ (hz1_6 _ (ss_some hm)) hR hS (lv_sub hl [1, 2, 0] rfl)
  exact L_6 N (0 : Int32) h1 _ _ _ he_6 hR hS (lv_sub hl [1, 2, 0] rfl)
theorem dd_F_closedAfter_0 : decode bb_F_closedAfter 0 = .ok (.aload_n 0, 1) := by decide +kernel
theorem dd_F_closedAfter_1 : decode bb_F_closedAfter 1 = .ok (.iload_n 1, 1) := by decide +kernel
theorem dd_F_closedAfter_2 : decode bb_F_closedAfter 2 = .ok (.invokevirtual 58, 3) := by decide +kernel
theorem dd_F_closedAfter_5 : decode bb_F_closedAfter 5 = .ok (.aload_n 0, 1) := by decide +kernel
theorem dd_F_closedAfter_6 : decode bb_F_closedAfter 6 = .ok (.getfield 27, 3) := by decide +kernel
theorem dd_F_closedAfter_9 : decode bb_F_closedAfter 9 = .ok (.invokevirtual 68, 3) := by decide +kernel
theorem dd_F_closedAfter_12 : decode bb_F_closedAfter 12 = .ok (.invokestatic 71, 3) := by decide +kernel
theorem dd_F_closedAfter_15 : decode bb_F_closedAfter 15 = .ok (.ireturn, 1) := by decide +kernel
def mm_F_closedAfter (N : Nat) (this : Option Nat) (a1 : Int32) (h : ss_Hp) : Option (Int32 × ss_Hp) :=
  if ss_is h this 9 = true then
    (mm_F_go N this a1 h).bind fun h1 =>
    (ss_gr h1 this 9 2).bind fun r2 =>
    (mm_Wi_closedBits N r2 h1).bind fun v3 =>
    (mm_JI_bitCount N v3).bind fun v4 =>
    some (v4, h1)
  else none
abbrev ww_F_closedAfter (p : Program) (l : Launch) (e : Env) (s : State) (m : MethodId) (below : List Frame) (meth : Method) (c : Code) (G : ss_G) (this : Option Nat) (a1 : Int32) (h : ss_Hp) (rr : Int32) (hh : ss_Hp) (H : Heap) (locs : List Loc) (k n : Nat) (g : JFrame) : Prop := W p l e (headSpec (ss_w yy_F_closedAfter bb_F_closedAfter 2 (some (.int))) ({ frames := 6, cells := 0, slots := 0, locals := 170 })).room s m ([ss_v (ss_b G) this, .int a1] : List Value).toArray below meth c H locs k n (MQ below (ss_Qc G (some (.int rr)) hh) ([ss_v (ss_b G) this, .int a1] : List Value).toArray s 0 0 (ss_A G)) g
theorem ck_F_closedAfter {N : Nat} {this : Option Nat} {a1 : Int32} {h : ss_Hp} {res : Int32 × ss_Hp} (hm : mm_F_closedAfter N this a1 h = some res) : ss_is h this 9 = true := (ss_chk hm).1
set_option maxHeartbeats 4000000 in
set_option maxRecDepth 100000 in
theorem cc_F_closedAfter (l : Launch) (G : ss_G) (N : Nat) (this : Option Nat) (a1 : Int32) (h : ss_Hp) (rr : Int32) (hh : ss_Hp) (hm : mm_F_closedAfter N this a1 h = some (rr, hh)) : ss_Ct l G yy_F_closedAfter bb_F_closedAfter 2 (some (.int)) ({ frames := 6, cells := 0, slots := 0, locals := 170 }) [ss_v (ss_b G) this, .int a1] h (some (.int rr)) hh := by
  obtain ⟨hck, hm⟩ := ss_chk hm
  refine Met.ofW (cc := bb_F_closedAfter) (maxL := 2) (ret := (some (.int))) (by decide) rfl ?_
  intro p e s m args below meth c s₁ B hml hv
  obtain ⟨rfl, hR, hK⟩ := hv
  have hC : CallFix p m c bb_F_closedAfter 2 s _ lw_g sR_9 := ⟨B.exec, B.bytes, hml, findClass_of_methodNamed B.named, fun w hw => atoms_spec (ws := ss_w yy_F_closedAfter bb_F_closedAfter 2 (some (.int))) B.pre w (List.mem_cons_of_mem _ hw)⟩
  have hx := hC.1
  have hb := hC.2.1
  have hr := B.returns
  have hlocks := B.notSynchronized
  have hS : va_S (ss_A G) s.heap s.heap [] := va_S.rf
  have hl := lv_entry ([ss_v (ss_b G) this, .int a1]) (n := 2) (by simp [lg_sl, ss_v_cat, ss_cat_i, ss_cat_l, ss_cat_r])
  rw [lg_entry_eq]
  generalize (lg_sl ([ss_v (ss_b G) this, .int a1]) ++ List.replicate (2 - (lg_sl ([ss_v (ss_b G) this, .int a1])).length) Slot.unset).toArray = ls at hl ⊢
  have hl : lv_has ls 2 [(0, ss_v (ss_b G) this), (1, .int a1)] := by simpa [lv_args, ss_v_cat, ss_cat_i, ss_cat_l, ss_cat_r] using hl
  refine ss_aload_n hx hb dd_F_closedAfter_0 rfl (lv_at hl 0 rfl) ?_
  refine lv_iload_n hx hb dd_F_closedAfter_1 rfl (lv_at hl 1 rfl) ?_
  obtain ⟨h1, qh1, hm⟩ := ss_bind hm
  refine ss_cVv 0 0 (As := [.int a1]) hC hK hR hS hl.1 (cc_F_go l G N _ _ _ _ qh1) km_F_58 (ck_F_go qh1) ⟨Nat.le_of_ble_eq_true rfl, Nat.le_of_ble_eq_true rfl⟩ ⟨Nat.le_of_ble_eq_true rfl, Nat.le_of_ble_eq_true rfl, Nat.le_of_ble_eq_true rfl, Nat.le_of_ble_eq_true rfl⟩ rfl rfl (Nat.le_of_ble_eq_true rfl) dd_F_closedAfter_2 (fun H locs hR hS => ?_)
  refine ss_aload_n hx hb dd_F_closedAfter_5 rfl (lv_at hl 0 rfl) ?_
  obtain ⟨r2, qr2, hm⟩ := ss_bind hm
  refine ss_getr hC hK hR kf_F_27 rfl qr2 dd_F_closedAfter_6 ?_
  obtain ⟨v3, qv3, hm⟩ := ss_bind hm
  refine ss_cV 0 0 (As := []) hC hK hR hS hl.1 (cc_Wi_closedBits l G N _ _ _ qv3) km_F_68 (ck_Wi_closedBits qv3) ⟨Nat.le_of_ble_eq_true rfl, Nat.le_of_ble_eq_true rfl⟩ ⟨Nat.le_of_ble_eq_true rfl, Nat.le_of_ble_eq_true rfl, Nat.le_of_ble_eq_true rfl, Nat.le_of_ble_eq_true rfl⟩ rfl rfl (Nat.le_of_ble_eq_true rfl) dd_F_closedAfter_9 (fun H locs hR hS => ?_)
  obtain ⟨v4, qv4, hm⟩ := ss_bind hm
  refine ss_cS 0 0 (As := [.int v3]) hC hK hR hS hl.1 (cc_JI_bitCount l G N _ _ _ qv4) km_F_71 ⟨Nat.le_of_ble_eq_true rfl, Nat.le_of_ble_eq_true rfl⟩ ⟨Nat.le_of_ble_eq_true rfl, Nat.le_of_ble_eq_true rfl, Nat.le_of_ble_eq_true rfl, Nat.le_of_ble_eq_true rfl⟩ rfl rfl (Nat.le_of_ble_eq_true rfl) dd_F_closedAfter_12 (fun H locs hR hS => ?_)
  exact ss_iret hC hr hlocks hR hS hm dd_F_closedAfter_15
theorem dd_F_snowAfter_0 : decode bb_F_snowAfter 0 = .ok (.aload_n 0, 1) := by decide +kernel
theorem dd_F_snowAfter_1 : decode bb_F_snowAfter 1 = .ok (.iload_n 2, 1) := by decide +kernel
theorem dd_F_snowAfter_2 : decode bb_F_snowAfter 2 = .ok (.invokevirtual 58, 3) := by decide +kernel
theorem dd_F_snowAfter_5 : decode bb_F_snowAfter 5 = .ok (.aload_n 0, 1) := by decide +kernel
theorem dd_F_snowAfter_6 : decode bb_F_snowAfter 6 = .ok (.getfield 27, 3) := by decide +kernel
theorem dd_F_snowAfter_9 : decode bb_F_snowAfter 9 = .ok (.getfield 62, 3) := by decide +kernel
theorem dd_F_snowAfter_12 : decode bb_F_snowAfter 12 = .ok (.getfield 63, 3) := by decide +kernel
theorem dd_F_snowAfter_15 : decode bb_F_snowAfter 15 = .ok (.iload_n 1, 1) := by decide +kernel
theorem dd_F_snowAfter_16 : decode bb_F_snowAfter 16 = .ok (.iaload, 1) := by decide +kernel
theorem dd_F_snowAfter_17 : decode bb_F_snowAfter 17 = .ok (.ireturn, 1) := by decide +kernel
def mm_F_snowAfter (N : Nat) (this : Option Nat) (a1 : Int32) (a2 : Int32) (h : ss_Hp) : Option (Int32 × ss_Hp) :=
  if ss_is h this 9 = true then
    (mm_F_go N this a2 h).bind fun h1 =>
    (ss_gr h1 this 9 2).bind fun r2 =>
    (ss_gr h1 r2 7 0).bind fun r3 =>
    (ss_gr h1 r3 0 0).bind fun r4 =>
    (ss_ai h1 r4 20 a1).bind fun v5 =>
    some (v5, h1)
  else none
abbrev ww_F_snowAfter (p : Program) (l : Launch) (e : Env) (s : State) (m : MethodId) (below : List Frame) (meth : Method) (c : Code) (G : ss_G) (this : Option Nat) (a1 : Int32) (a2 : Int32) (h : ss_Hp) (rr : Int32) (hh : ss_Hp) (H : Heap) (locs : List Loc) (k n : Nat) (g : JFrame) : Prop := W p l e (headSpec (ss_w yy_F_snowAfter bb_F_snowAfter 3 (some (.int))) ({ frames := 6, cells := 0, slots := 0, locals := 170 })).room s m ([ss_v (ss_b G) this, .int a1, .int a2] : List Value).toArray below meth c H locs k n (MQ below (ss_Qc G (some (.int rr)) hh) ([ss_v (ss_b G) this, .int a1, .int a2] : List Value).toArray s 0 0 (ss_A G)) g
theorem ck_F_snowAfter {N : Nat} {this : Option Nat} {a1 : Int32} {a2 : Int32} {h : ss_Hp} {res : Int32 × ss_Hp} (hm : mm_F_snowAfter N this a1 a2 h = some res) : ss_is h this 9 = true := (ss_chk hm).1
set_option maxHeartbeats 4000000 in
set_option maxRecDepth 100000 in
theorem cc_F_snowAfter (l : Launch) (G : ss_G) (N : Nat) (this : Option Nat) (a1 : Int32) (a2 : Int32) (h : ss_Hp) (rr : Int32) (hh : ss_Hp) (hm : mm_F_snowAfter N this a1 a2 h = some (rr, hh)) : ss_Ct l G yy_F_snowAfter bb_F_snowAfter 3 (some (.int)) ({ frames := 6, cells := 0, slots := 0, locals := 170 }) [ss_v (ss_b G) this, .int a1, .int a2] h (some (.int rr)) hh := by
  obtain ⟨hck, hm⟩ := ss_chk hm
  refine Met.ofW (cc := bb_F_snowAfter) (maxL := 3) (ret := (some (.int))) (by decide) rfl ?_
  intro p e s m args below meth c s₁ B hml hv
  obtain ⟨rfl, hR, hK⟩ := hv
  have hC : CallFix p m c bb_F_snowAfter 3 s _ lw_g sR_9 := ⟨B.exec, B.bytes, hml, findClass_of_methodNamed B.named, fun w hw => atoms_spec (ws := ss_w yy_F_snowAfter bb_F_snowAfter 3 (some (.int))) B.pre w (List.mem_cons_of_mem _ hw)⟩
  have hx := hC.1
  have hb := hC.2.1
  have hr := B.returns
  have hlocks := B.notSynchronized
  have hS : va_S (ss_A G) s.heap s.heap [] := va_S.rf
  have hl := lv_entry ([ss_v (ss_b G) this, .int a1, .int a2]) (n := 3) (by simp [lg_sl, ss_v_cat, ss_cat_i, ss_cat_l, ss_cat_r])
  rw [lg_entry_eq]
  generalize (lg_sl ([ss_v (ss_b G) this, .int a1, .int a2]) ++ List.replicate (3 - (lg_sl ([ss_v (ss_b G) this, .int a1, .int a2])).length) Slot.unset).toArray = ls at hl ⊢
  have hl : lv_has ls 3 [(0, ss_v (ss_b G) this), (1, .int a1), (2, .int a2)] := by simpa [lv_args, ss_v_cat, ss_cat_i, ss_cat_l, ss_cat_r] using hl
  refine ss_aload_n hx hb dd_F_snowAfter_0 rfl (lv_at hl 0 rfl) ?_
  refine lv_iload_n hx hb dd_F_snowAfter_1 rfl (lv_at hl 2 rfl) ?_
  obtain ⟨h1, qh1, hm⟩ := ss_bind hm
  refine ss_cVv 0 0 (As := [.int a2]) hC hK hR hS hl.1 (cc_F_go l G N _ _ _ _ qh1) km_F_58 (ck_F_go qh1) ⟨Nat.le_of_ble_eq_true rfl, Nat.le_of_ble_eq_true rfl⟩ ⟨Nat.le_of_ble_eq_true rfl, Nat.le_of_ble_eq_true rfl, Nat.le_of_ble_eq_true rfl, Nat.le_of_ble_eq_true rfl⟩ rfl rfl (Nat.le_of_ble_eq_true rfl) dd_F_snowAfter_2 (fun H locs hR hS => ?_)
  refine ss_aload_n hx hb dd_F_snowAfter_5 rfl (lv_at hl 0 rfl) ?_
  obtain ⟨r2, qr2, hm⟩ := ss_bind hm
  refine ss_getr hC hK hR kf_F_27 rfl qr2 dd_F_snowAfter_6 ?_
  obtain ⟨r3, qr3, hm⟩ := ss_bind hm
  refine ss_getr hC hK hR kf_F_62 rfl qr3 dd_F_snowAfter_9 ?_
  obtain ⟨r4, qr4, hm⟩ := ss_bind hm
  refine ss_getr hC hK hR kf_F_63 rfl qr4 dd_F_snowAfter_12 ?_
  refine lv_iload_n hx hb dd_F_snowAfter_15 rfl (lv_at hl 1 rfl) ?_
  obtain ⟨v5, qv5, hm⟩ := ss_bind hm
  refine ss_iald hC hK hR qv5 dd_F_snowAfter_16 ?_
  exact ss_iret hC hr hlocks hR hS hm dd_F_snowAfter_17
theorem dd_S_ahead_0 : decode bb_S_ahead 0 = .ok (.aload_n 0, 1) := by decide +kernel
theorem dd_S_ahead_1 : decode bb_S_ahead 1 = .ok (.getfield 41, 3) := by decide +kernel
theorem dd_S_ahead_4 : decode bb_S_ahead 4 = .ok (.getfield 58, 3) := by decide +kernel
theorem dd_S_ahead_7 : decode bb_S_ahead 7 = .ok (.getfield 169, 3) := by decide +kernel
theorem dd_S_ahead_10 : decode bb_S_ahead 10 = .ok (.ifCond .eq 13, 3) := by decide +kernel
theorem dd_S_ahead_13 : decode bb_S_ahead 13 = .ok (.iload_n 2, 1) := by decide +kernel
theorem dd_S_ahead_14 : decode bb_S_ahead 14 = .ok (.iconst 0, 1) := by decide +kernel
theorem dd_S_ahead_15 : decode bb_S_ahead 15 = .ok (.bipush 100, 2) := by decide +kernel
theorem dd_S_ahead_17 : decode bb_S_ahead 17 = .ok (.invokestatic 194, 3) := by decide +kernel
theorem dd_S_ahead_20 : decode bb_S_ahead 20 = .ok (.ifCond .ne 5, 3) := by decide +kernel
theorem dd_S_ahead_23 : decode bb_S_ahead 23 = .ok (.iconst (-1), 1) := by decide +kernel
theorem dd_S_ahead_24 : decode bb_S_ahead 24 = .ok (.ireturn, 1) := by decide +kernel
theorem dd_S_ahead_25 : decode bb_S_ahead 25 = .ok (.iload_n 3, 1) := by decide +kernel
theorem dd_S_ahead_26 : decode bb_S_ahead 26 = .ok (.iconst 1, 1) := by decide +kernel
theorem dd_S_ahead_27 : decode bb_S_ahead 27 = .ok (.if_icmp .ne 12, 3) := by decide +kernel
theorem dd_S_ahead_30 : decode bb_S_ahead 30 = .ok (.aload_n 0, 1) := by decide +kernel
theorem dd_S_ahead_31 : decode bb_S_ahead 31 = .ok (.getfield 74, 3) := by decide +kernel
theorem dd_S_ahead_34 : decode bb_S_ahead 34 = .ok (.iload_n 2, 1) := by decide +kernel
theorem dd_S_ahead_35 : decode bb_S_ahead 35 = .ok (.invokevirtual 212, 3) := by decide +kernel
theorem dd_S_ahead_38 : decode bb_S_ahead 38 = .ok (.ireturn, 1) := by decide +kernel
theorem dd_S_ahead_39 : decode bb_S_ahead 39 = .ok (.iload_n 3, 1) := by decide +kernel
theorem dd_S_ahead_40 : decode bb_S_ahead 40 = .ok (.ifCond .ne 23, 3) := by decide +kernel
theorem dd_S_ahead_43 : decode bb_S_ahead 43 = .ok (.aload_n 0, 1) := by decide +kernel
theorem dd_S_ahead_44 : decode bb_S_ahead 44 = .ok (.iload_n 1, 1) := by decide +kernel
theorem dd_S_ahead_45 : decode bb_S_ahead 45 = .ok (.invokevirtual 123, 3) := by decide +kernel
theorem dd_S_ahead_48 : decode bb_S_ahead 48 = .ok (.ifCond .eq 15, 3) := by decide +kernel
theorem dd_S_ahead_51 : decode bb_S_ahead 51 = .ok (.aload_n 0, 1) := by decide +kernel
theorem dd_S_ahead_52 : decode bb_S_ahead 52 = .ok (.getfield 74, 3) := by decide +kernel
theorem dd_S_ahead_55 : decode bb_S_ahead 55 = .ok (.iload_n 1, 1) := by decide +kernel
theorem dd_S_ahead_56 : decode bb_S_ahead 56 = .ok (.iload_n 2, 1) := by decide +kernel
theorem dd_S_ahead_57 : decode bb_S_ahead 57 = .ok (.invokevirtual 215, 3) := by decide +kernel
theorem dd_S_ahead_60 : decode bb_S_ahead 60 = .ok (.goto 4, 3) := by decide +kernel
theorem dd_S_ahead_63 : decode bb_S_ahead 63 = .ok (.iconst (-1), 1) := by decide +kernel
theorem dd_S_ahead_64 : decode bb_S_ahead 64 = .ok (.ireturn, 1) := by decide +kernel
def mm_S_ahead_j23 (N : Nat) (this : Option Nat) (a1 : Int32) (a2 : Int32) (a3 : Int32) (h_23 : ss_Hp) : Option (Int32 × ss_Hp) :=
  some ((-1 : Int32), h_23)
def mm_S_ahead_j64 (N : Nat) (this : Option Nat) (a1 : Int32) (a2 : Int32) (a3 : Int32) (s0_64 : Int32) (h_64 : ss_Hp) : Option (Int32 × ss_Hp) :=
  some (s0_64, h_64)
def mm_S_ahead_j63 (N : Nat) (this : Option Nat) (a1 : Int32) (a2 : Int32) (a3 : Int32) (h_63 : ss_Hp) : Option (Int32 × ss_Hp) :=
  mm_S_ahead_j64 N this a1 a2 a3 (-1 : Int32) h_63
def mm_S_ahead (N : Nat) (this : Option Nat) (a1 : Int32) (a2 : Int32) (a3 : Int32) (h : ss_Hp) : Option (Int32 × ss_Hp) :=
  if ss_is h this 11 = true then
    (ss_gr h this 11 4).bind fun r1 =>
    (ss_gr h r1 8 0).bind fun r2 =>
    (ss_gi h r2 5 0).bind fun v3 =>
    if v3 = 0 then
      mm_S_ahead_j23 N this a1 a2 a3 h
    else
      (mm_S_isWithin N a2 (0 : Int32) (100 : Int32)).bind fun v5 =>
      if v5 = 0 then
        mm_S_ahead_j23 N this a1 a2 a3 h
      else
        if a3 = (1 : Int32) then
          (ss_gr h this 11 8).bind fun r14 =>
          ss_b2 (mm_F_closedAfter N r14 a2 h) fun v15 h16 =>
          some (v15, h16)
        else
          if a3 = 0 then
            (mm_S_isStep N this a1 h).bind fun v9 =>
            if v9 = 0 then
              mm_S_ahead_j63 N this a1 a2 a3 h
            else
              (ss_gr h this 11 8).bind fun r11 =>
              ss_b2 (mm_F_snowAfter N r11 a1 a2 h) fun v12 h13 =>
              mm_S_ahead_j64 N this a1 a2 a3 v12 h13
          else
            mm_S_ahead_j63 N this a1 a2 a3 h
  else none
abbrev ww_S_ahead (p : Program) (l : Launch) (e : Env) (s : State) (m : MethodId) (below : List Frame) (meth : Method) (c : Code) (G : ss_G) (this : Option Nat) (a1 : Int32) (a2 : Int32) (a3 : Int32) (h : ss_Hp) (rr : Int32) (hh : ss_Hp) (H : Heap) (locs : List Loc) (k n : Nat) (g : JFrame) : Prop := W p l e (headSpec (ss_w yy_S_ahead bb_S_ahead 4 (some (.int))) ({ frames := 7, cells := 0, slots := 0, locals := 192 })).room s m ([ss_v (ss_b G) this, .int a1, .int a2, .int a3] : List Value).toArray below meth c H locs k n (MQ below (ss_Qc G (some (.int rr)) hh) ([ss_v (ss_b G) this, .int a1, .int a2, .int a3] : List Value).toArray s 0 0 (ss_A G)) g
theorem ck_S_ahead {N : Nat} {this : Option Nat} {a1 : Int32} {a2 : Int32} {a3 : Int32} {h : ss_Hp} {res : Int32 × ss_Hp} (hm : mm_S_ahead N this a1 a2 a3 h = some res) : ss_is h this 11 = true := (ss_chk hm).1
set_option maxHeartbeats 4000000 in
set_option maxRecDepth 100000 in
theorem cc_S_ahead (l : Launch) (G : ss_G) (N : Nat) (this : Option Nat) (a1 : Int32) (a2 : Int32) (a3 : Int32) (h : ss_Hp) (rr : Int32) (hh : ss_Hp) (hm : mm_S_ahead N this a1 a2 a3 h = some (rr, hh)) : ss_Ct l G yy_S_ahead bb_S_ahead 4 (some (.int)) ({ frames := 7, cells := 0, slots := 0, locals := 192 }) [ss_v (ss_b G) this, .int a1, .int a2, .int a3] h (some (.int rr)) hh := by
  obtain ⟨hck, hm⟩ := ss_chk hm
  refine Met.ofW (cc := bb_S_ahead) (maxL := 4) (ret := (some (.int))) (by decide) rfl ?_
  intro p e s m args below meth c s₁ B hml hv
  obtain ⟨rfl, hR, hK⟩ := hv
  have hC : CallFix p m c bb_S_ahead 4 s _ lw_g sR_11 := ⟨B.exec, B.bytes, hml, findClass_of_methodNamed B.named, fun w hw => atoms_spec (ws := ss_w yy_S_ahead bb_S_ahead 4 (some (.int))) B.pre w (List.mem_cons_of_mem _ hw)⟩
  have hx := hC.1
  have hb := hC.2.1
  have hr := B.returns
  have hlocks := B.notSynchronized
  have hS : va_S (ss_A G) s.heap s.heap [] := va_S.rf
  have hl := lv_entry ([ss_v (ss_b G) this, .int a1, .int a2, .int a3]) (n := 4) (by simp [lg_sl, ss_v_cat, ss_cat_i, ss_cat_l, ss_cat_r])
  rw [lg_entry_eq]
  generalize (lg_sl ([ss_v (ss_b G) this, .int a1, .int a2, .int a3]) ++ List.replicate (4 - (lg_sl ([ss_v (ss_b G) this, .int a1, .int a2, .int a3])).length) Slot.unset).toArray = ls at hl ⊢
  have hl : lv_has ls 4 [(0, ss_v (ss_b G) this), (1, .int a1), (2, .int a2), (3, .int a3)] := by simpa [lv_args, ss_v_cat, ss_cat_i, ss_cat_l, ss_cat_r] using hl
  have J_23 : ∀ (h_23 : ss_Hp) (H : Heap) (locs : List Loc) (ls : Array Slot), mm_S_ahead_j23 N this a1 a2 a3 h_23 = some (rr, hh) → ss_R G h_23 H → va_S (ss_A G) s.heap H locs → lv_has ls 4 [] → ww_S_ahead p l e s m below meth c G this a1 a2 a3 h rr hh  H locs 0 0 (F0 m 23 ls []) := by
    intro h_23 H locs ls hm hR hS hl
    refine lv_iconst (v := -1) hx hb dd_S_ahead_23 (by decide) ?_
    exact ss_iret hC hr hlocks hR hS hm dd_S_ahead_24
  have J_64 : ∀ (s0_64 : Int32) (h_64 : ss_Hp) (H : Heap) (locs : List Loc) (ls : Array Slot), mm_S_ahead_j64 N this a1 a2 a3 s0_64 h_64 = some (rr, hh) → ss_R G h_64 H → va_S (ss_A G) s.heap H locs → lv_has ls 4 [] → ww_S_ahead p l e s m below meth c G this a1 a2 a3 h rr hh  H locs 0 0 (F0 m 64 ls [.int s0_64]) := by
    intro s0_64 h_64 H locs ls hm hR hS hl
    exact ss_iret hC hr hlocks hR hS hm dd_S_ahead_64
  have J_63 : ∀ (h_63 : ss_Hp) (H : Heap) (locs : List Loc) (ls : Array Slot), mm_S_ahead_j63 N this a1 a2 a3 h_63 = some (rr, hh) → ss_R G h_63 H → va_S (ss_A G) s.heap H locs → lv_has ls 4 [] → ww_S_ahead p l e s m below meth c G this a1 a2 a3 h rr hh  H locs 0 0 (F0 m 63 ls []) := by
    intro h_63 H locs ls hm hR hS hl
    refine lv_iconst (v := -1) hx hb dd_S_ahead_63 (by decide) ?_
    exact J_64 (-1 : Int32) h_63 _ _ _ hm hR hS hl
  refine ss_aload_n hx hb dd_S_ahead_0 rfl (lv_at hl 0 rfl) ?_
  obtain ⟨r1, qr1, hm⟩ := ss_bind hm
  refine ss_getr hC hK hR kf_S_41 rfl qr1 dd_S_ahead_1 ?_
  obtain ⟨r2, qr2, hm⟩ := ss_bind hm
  refine ss_getr hC hK hR kf_S_58 rfl qr2 dd_S_ahead_4 ?_
  obtain ⟨v3, qv3, hm⟩ := ss_bind hm
  refine ss_geti hC hK hR kf_S_169 qv3 dd_S_ahead_7 ?_
  refine lv_if_eq (tgt := 23) hx hb dd_S_ahead_10 (by decide) (fun c4 => ?_) (fun c4 => ?_)
  · have hm := ss_ift hm c4
    exact J_23 h _ _ _ hm hR hS (lv_sub hl [] rfl)
  · have hm := ss_iff hm c4
    refine lv_iload_n hx hb dd_S_ahead_13 rfl (lv_at hl 2 rfl) ?_
    refine lv_iconst (v := 0) hx hb dd_S_ahead_14 (by decide) ?_
    refine lv_bipush (v := 100) hx hb dd_S_ahead_15 (by decide) ?_
    obtain ⟨v5, qv5, hm⟩ := ss_bind hm
    refine ss_cS 0 0 (As := [.int a2, .int (0 : Int32), .int (100 : Int32)]) hC hK hR hS hl.1 (cc_S_isWithin l G N _ _ _ _ _ qv5) km_S_194 ⟨Nat.le_of_ble_eq_true rfl, Nat.le_of_ble_eq_true rfl⟩ ⟨Nat.le_of_ble_eq_true rfl, Nat.le_of_ble_eq_true rfl, Nat.le_of_ble_eq_true rfl, Nat.le_of_ble_eq_true rfl⟩ rfl rfl (Nat.le_of_ble_eq_true rfl) dd_S_ahead_17 (fun H locs hR hS => ?_)
    refine lv_if_ne (tgt := 25) hx hb dd_S_ahead_20 (by decide) (fun c6 => ?_) (fun c6 => ?_)
    · have hm := ss_iff hm c6
      refine lv_iload_n hx hb dd_S_ahead_25 rfl (lv_at hl 3 rfl) ?_
      refine lv_iconst (v := 1) hx hb dd_S_ahead_26 (by decide) ?_
      refine lv_icmp_ne (tgt := 39) hx hb dd_S_ahead_27 (by decide) (fun c7 => ?_) (fun c7 => ?_)
      · have hm := ss_iff hm c7
        refine lv_iload_n hx hb dd_S_ahead_39 rfl (lv_at hl 3 rfl) ?_
        refine lv_if_ne (tgt := 63) hx hb dd_S_ahead_40 (by decide) (fun c8 => ?_) (fun c8 => ?_)
        · have hm := ss_iff hm c8
          exact J_63 h _ _ _ hm hR hS (lv_sub hl [] rfl)
        · have hm := ss_ift hm c8
          refine ss_aload_n hx hb dd_S_ahead_43 rfl (lv_at hl 0 rfl) ?_
          refine lv_iload_n hx hb dd_S_ahead_44 rfl (lv_at hl 1 rfl) ?_
          obtain ⟨v9, qv9, hm⟩ := ss_bind hm
          refine ss_cV 0 0 (As := [.int a1]) hC hK hR hS hl.1 (cc_S_isStep l G N _ _ _ _ qv9) km_S_123 (ck_S_isStep qv9) ⟨Nat.le_of_ble_eq_true rfl, Nat.le_of_ble_eq_true rfl⟩ ⟨Nat.le_of_ble_eq_true rfl, Nat.le_of_ble_eq_true rfl, Nat.le_of_ble_eq_true rfl, Nat.le_of_ble_eq_true rfl⟩ rfl rfl (Nat.le_of_ble_eq_true rfl) dd_S_ahead_45 (fun H locs hR hS => ?_)
          refine lv_if_eq (tgt := 63) hx hb dd_S_ahead_48 (by decide) (fun c10 => ?_) (fun c10 => ?_)
          · have hm := ss_ift hm c10
            exact J_63 h _ _ _ hm hR hS (lv_sub hl [] rfl)
          · have hm := ss_iff hm c10
            refine ss_aload_n hx hb dd_S_ahead_51 rfl (lv_at hl 0 rfl) ?_
            obtain ⟨r11, qr11, hm⟩ := ss_bind hm
            refine ss_getr hC hK hR kf_S_74 rfl qr11 dd_S_ahead_52 ?_
            refine lv_iload_n hx hb dd_S_ahead_55 rfl (lv_at hl 1 rfl) ?_
            refine lv_iload_n hx hb dd_S_ahead_56 rfl (lv_at hl 2 rfl) ?_
            obtain ⟨v12, h13, qh13, hm⟩ := ss_bind2 hm
            refine ss_cV 0 0 (As := [.int a1, .int a2]) hC hK hR hS hl.1 (cc_F_snowAfter l G N _ _ _ _ _ _ qh13) km_S_215 (ck_F_snowAfter qh13) ⟨Nat.le_of_ble_eq_true rfl, Nat.le_of_ble_eq_true rfl⟩ ⟨Nat.le_of_ble_eq_true rfl, Nat.le_of_ble_eq_true rfl, Nat.le_of_ble_eq_true rfl, Nat.le_of_ble_eq_true rfl⟩ rfl rfl (Nat.le_of_ble_eq_true rfl) dd_S_ahead_57 (fun H locs hR hS => ?_)
            refine lv_goto (tgt := 64) hx hb dd_S_ahead_60 (by decide) ?_
            exact J_64 v12 h13 _ _ _ hm hR hS (lv_sub hl [] rfl)
      · have hm := ss_ift hm c7
        refine ss_aload_n hx hb dd_S_ahead_30 rfl (lv_at hl 0 rfl) ?_
        obtain ⟨r14, qr14, hm⟩ := ss_bind hm
        refine ss_getr hC hK hR kf_S_74 rfl qr14 dd_S_ahead_31 ?_
        refine lv_iload_n hx hb dd_S_ahead_34 rfl (lv_at hl 2 rfl) ?_
        obtain ⟨v15, h16, qh16, hm⟩ := ss_bind2 hm
        refine ss_cV 0 0 (As := [.int a2]) hC hK hR hS hl.1 (cc_F_closedAfter l G N _ _ _ _ _ qh16) km_S_212 (ck_F_closedAfter qh16) ⟨Nat.le_of_ble_eq_true rfl, Nat.le_of_ble_eq_true rfl⟩ ⟨Nat.le_of_ble_eq_true rfl, Nat.le_of_ble_eq_true rfl, Nat.le_of_ble_eq_true rfl, Nat.le_of_ble_eq_true rfl⟩ rfl rfl (Nat.le_of_ble_eq_true rfl) dd_S_ahead_35 (fun H locs hR hS => ?_)
        exact ss_iret hC hr hlocks hR hS hm dd_S_ahead_38
    · have hm := ss_ift hm c6
      exact J_23 h _ _ _ hm hR hS (lv_sub hl [] rfl)
theorem dd_F_openThrough_0 : decode bb_F_openThrough 0 = .ok (.aload_n 0, 1) := by decide +kernel
theorem dd_F_openThrough_1 : decode bb_F_openThrough 1 = .ok (.invokevirtual 51, 3) := by decide +kernel
theorem dd_F_openThrough_4 : decode bb_F_openThrough 4 = .ok (.aload_n 0, 1) := by decide +kernel
theorem dd_F_openThrough_5 : decode bb_F_openThrough 5 = .ok (.getfield 27, 3) := by decide +kernel
theorem dd_F_openThrough_8 : decode bb_F_openThrough 8 = .ok (.invokevirtual 68, 3) := by decide +kernel
theorem dd_F_openThrough_11 : decode bb_F_openThrough 11 = .ok (.istore_n 2, 1) := by decide +kernel
theorem dd_F_openThrough_12 : decode bb_F_openThrough 12 = .ok (.iconst 0, 1) := by decide +kernel
theorem dd_F_openThrough_13 : decode bb_F_openThrough 13 = .ok (.istore_n 3, 1) := by decide +kernel
theorem dd_F_openThrough_14 : decode bb_F_openThrough 14 = .ok (.iload_n 3, 1) := by decide +kernel
theorem dd_F_openThrough_15 : decode bb_F_openThrough 15 = .ok (.iload_n 1, 1) := by decide +kernel
theorem dd_F_openThrough_16 : decode bb_F_openThrough 16 = .ok (.if_icmp .ge 27, 3) := by decide +kernel
theorem dd_F_openThrough_19 : decode bb_F_openThrough 19 = .ok (.aload_n 0, 1) := by decide +kernel
theorem dd_F_openThrough_20 : decode bb_F_openThrough 20 = .ok (.getfield 27, 3) := by decide +kernel
theorem dd_F_openThrough_23 : decode bb_F_openThrough 23 = .ok (.invokevirtual 54, 3) := by decide +kernel
theorem dd_F_openThrough_26 : decode bb_F_openThrough 26 = .ok (.pop, 1) := by decide +kernel
theorem dd_F_openThrough_27 : decode bb_F_openThrough 27 = .ok (.iload_n 2, 1) := by decide +kernel
theorem dd_F_openThrough_28 : decode bb_F_openThrough 28 = .ok (.aload_n 0, 1) := by decide +kernel
theorem dd_F_openThrough_29 : decode bb_F_openThrough 29 = .ok (.getfield 27, 3) := by decide +kernel
theorem dd_F_openThrough_32 : decode bb_F_openThrough 32 = .ok (.invokevirtual 68, 3) := by decide +kernel
theorem dd_F_openThrough_35 : decode bb_F_openThrough 35 = .ok (.ior, 1) := by decide +kernel
theorem dd_F_openThrough_36 : decode bb_F_openThrough 36 = .ok (.istore_n 2, 1) := by decide +kernel
theorem dd_F_openThrough_37 : decode bb_F_openThrough 37 = .ok (.iinc 3 1, 3) := by decide +kernel
theorem dd_F_openThrough_40 : decode bb_F_openThrough 40 = .ok (.goto (-26), 3) := by decide +kernel
theorem dd_F_openThrough_43 : decode bb_F_openThrough 43 = .ok (.iconst 1, 1) := by decide +kernel
theorem dd_F_openThrough_44 : decode bb_F_openThrough 44 = .ok (.aload_n 0, 1) := by decide +kernel
theorem dd_F_openThrough_45 : decode bb_F_openThrough 45 = .ok (.getfield 19, 3) := by decide +kernel
theorem dd_F_openThrough_48 : decode bb_F_openThrough 48 = .ok (.getfield 77, 3) := by decide +kernel
theorem dd_F_openThrough_51 : decode bb_F_openThrough 51 = .ok (.getfield 81, 3) := by decide +kernel
theorem dd_F_openThrough_54 : decode bb_F_openThrough 54 = .ok (.ishl, 1) := by decide +kernel
theorem dd_F_openThrough_55 : decode bb_F_openThrough 55 = .ok (.iconst 1, 1) := by decide +kernel
theorem dd_F_openThrough_56 : decode bb_F_openThrough 56 = .ok (.isub, 1) := by decide +kernel
theorem dd_F_openThrough_57 : decode bb_F_openThrough 57 = .ok (.iload_n 2, 1) := by decide +kernel
theorem dd_F_openThrough_58 : decode bb_F_openThrough 58 = .ok (.iconst (-1), 1) := by decide +kernel
theorem dd_F_openThrough_59 : decode bb_F_openThrough 59 = .ok (.ixor, 1) := by decide +kernel
theorem dd_F_openThrough_60 : decode bb_F_openThrough 60 = .ok (.iand, 1) := by decide +kernel
theorem dd_F_openThrough_61 : decode bb_F_openThrough 61 = .ok (.ireturn, 1) := by decide +kernel
def mm_F_openThrough_b14 (N : Nat) (this : Option Nat) (a1 : Int32) (st : Int32 × Int32 × ss_Hp) : Option ((Int32 × Int32 × ss_Hp) ⊕ (Int32 × ss_Hp)) :=
  match st with
  | (x2_14, x3_14, h_14) =>
    if a1 ≤ x3_14 then
      some (.inr (x2_14, h_14))
    else
      (ss_gr h_14 this 9 2).bind fun r8 =>
      ss_b2 (mm_Wi_passDay N r8 h_14) fun v9 h10 =>
      (ss_gr h10 this 9 2).bind fun r11 =>
      (mm_Wi_closedBits N r11 h10).bind fun v12 =>
      (some (x2_14 ||| v12)).bind fun v13 =>
      (some (x3_14 + (1 : Int32))).bind fun v14 =>
      some (.inl (v13, v14, h10))
def mm_F_openThrough (N : Nat) (this : Option Nat) (a1 : Int32) (h : ss_Hp) : Option (Int32 × ss_Hp) :=
  if ss_is h this 9 = true then
    (mm_F_start N this h).bind fun h1 =>
    (ss_gr h1 this 9 2).bind fun r2 =>
    (mm_Wi_closedBits N r2 h1).bind fun v3 =>
    (ss_lp (mm_F_openThrough_b14 N this a1) N (v3, (0 : Int32), h1)).bind fun e_14 =>
    match e_14 with
    | (y2_14_43, h_14_43) =>
      (ss_gr h_14_43 this 9 0).bind fun r4 =>
      (ss_gr h_14_43 r4 8 0).bind fun r5 =>
      (ss_gi h_14_43 r5 5 3).bind fun v6 =>
      some (((((1 : Int32) <<< (v6 &&& 31)) - (1 : Int32)) &&& (y2_14_43 ^^^ (-1 : Int32))), h_14_43)
  else none
abbrev ww_F_openThrough (p : Program) (l : Launch) (e : Env) (s : State) (m : MethodId) (below : List Frame) (meth : Method) (c : Code) (G : ss_G) (this : Option Nat) (a1 : Int32) (h : ss_Hp) (rr : Int32) (hh : ss_Hp) (H : Heap) (locs : List Loc) (k n : Nat) (g : JFrame) : Prop := W p l e (headSpec (ss_w yy_F_openThrough bb_F_openThrough 4 (some (.int))) ({ frames := 5, cells := 0, slots := 0, locals := 148 })).room s m ([ss_v (ss_b G) this, .int a1] : List Value).toArray below meth c H locs k n (MQ below (ss_Qc G (some (.int rr)) hh) ([ss_v (ss_b G) this, .int a1] : List Value).toArray s 0 0 (ss_A G)) g
theorem ck_F_openThrough {N : Nat} {this : Option Nat} {a1 : Int32} {h : ss_Hp} {res : Int32 × ss_Hp} (hm : mm_F_openThrough N this a1 h = some res) : ss_is h this 9 = true := (ss_chk hm).1
set_option maxHeartbeats 4000000 in
set_option maxRecDepth 100000 in
theorem cc_F_openThrough (l : Launch) (G : ss_G) (N : Nat) (this : Option Nat) (a1 : Int32) (h : ss_Hp) (rr : Int32) (hh : ss_Hp) (hm : mm_F_openThrough N this a1 h = some (rr, hh)) : ss_Ct l G yy_F_openThrough bb_F_openThrough 4 (some (.int)) ({ frames := 5, cells := 0, slots := 0, locals := 148 }) [ss_v (ss_b G) this, .int a1] h (some (.int rr)) hh := by
  obtain ⟨hck, hm⟩ := ss_chk hm
  refine Met.ofW (cc := bb_F_openThrough) (maxL := 4) (ret := (some (.int))) (by decide) rfl ?_
  intro p e s m args below meth c s₁ B hml hv
  obtain ⟨rfl, hR, hK⟩ := hv
  have hC : CallFix p m c bb_F_openThrough 4 s _ lw_g sR_9 := ⟨B.exec, B.bytes, hml, findClass_of_methodNamed B.named, fun w hw => atoms_spec (ws := ss_w yy_F_openThrough bb_F_openThrough 4 (some (.int))) B.pre w (List.mem_cons_of_mem _ hw)⟩
  have hx := hC.1
  have hb := hC.2.1
  have hr := B.returns
  have hlocks := B.notSynchronized
  have hS : va_S (ss_A G) s.heap s.heap [] := va_S.rf
  have hl := lv_entry ([ss_v (ss_b G) this, .int a1]) (n := 4) (by simp [lg_sl, ss_v_cat, ss_cat_i, ss_cat_l, ss_cat_r])
  rw [lg_entry_eq]
  generalize (lg_sl ([ss_v (ss_b G) this, .int a1]) ++ List.replicate (4 - (lg_sl ([ss_v (ss_b G) this, .int a1])).length) Slot.unset).toArray = ls at hl ⊢
  have hl : lv_has ls 4 [(0, ss_v (ss_b G) this), (1, .int a1)] := by simpa [lv_args, ss_v_cat, ss_cat_i, ss_cat_l, ss_cat_r] using hl
  refine ss_aload_n hx hb dd_F_openThrough_0 rfl (lv_at hl 0 rfl) ?_
  obtain ⟨h1, qh1, hm⟩ := ss_bind hm
  refine ss_cVv 0 0 (As := []) hC hK hR hS hl.1 (cc_F_start l G N _ _ _ qh1) km_F_51 (ck_F_start qh1) ⟨Nat.le_of_ble_eq_true rfl, Nat.le_of_ble_eq_true rfl⟩ ⟨Nat.le_of_ble_eq_true rfl, Nat.le_of_ble_eq_true rfl, Nat.le_of_ble_eq_true rfl, Nat.le_of_ble_eq_true rfl⟩ rfl rfl (Nat.le_of_ble_eq_true rfl) dd_F_openThrough_1 (fun H locs hR hS => ?_)
  refine ss_aload_n hx hb dd_F_openThrough_4 rfl (lv_at hl 0 rfl) ?_
  obtain ⟨r2, qr2, hm⟩ := ss_bind hm
  refine ss_getr hC hK hR kf_F_27 rfl qr2 dd_F_openThrough_5 ?_
  obtain ⟨v3, qv3, hm⟩ := ss_bind hm
  refine ss_cV 0 0 (As := []) hC hK hR hS hl.1 (cc_Wi_closedBits l G N _ _ _ qv3) km_F_68 (ck_Wi_closedBits qv3) ⟨Nat.le_of_ble_eq_true rfl, Nat.le_of_ble_eq_true rfl⟩ ⟨Nat.le_of_ble_eq_true rfl, Nat.le_of_ble_eq_true rfl, Nat.le_of_ble_eq_true rfl, Nat.le_of_ble_eq_true rfl⟩ rfl rfl (Nat.le_of_ble_eq_true rfl) dd_F_openThrough_8 (fun H locs hR hS => ?_)
  refine lv_istore_n (lv' := [(2, .int v3), (0, ss_v (ss_b G) this), (1, .int a1)]) hx hb dd_F_openThrough_11 rfl hl (by decide) rfl (fun ls hl => ?_)
  refine lv_iconst (v := 0) hx hb dd_F_openThrough_12 (by decide) ?_
  refine lv_istore_n (lv' := [(3, .int (0 : Int32)), (2, .int v3), (0, ss_v (ss_b G) this), (1, .int a1)]) hx hb dd_F_openThrough_13 rfl hl (by decide) rfl (fun ls hl => ?_)
  obtain ⟨e_14, he_14, hm⟩ := ss_bind hm
  have X_14_43 : ∀ (y2_14_43 : Int32) (h_14_43 : ss_Hp) (H : Heap) (locs : List Loc) (ls : Array Slot), e_14 = (y2_14_43, h_14_43) → ss_R G h_14_43 H → va_S (ss_A G) s.heap H locs → lv_has ls 4 [(0, ss_v (ss_b G) this), (2, .int y2_14_43)] → ww_F_openThrough p l e s m below meth c G this a1 h rr hh  H locs 0 0 (F0 m 43 ls []) := by
    intro y2_14_43 h_14_43 H locs ls hq hR hS hl
    rw [hq] at hm
    refine lv_iconst (v := 1) hx hb dd_F_openThrough_43 (by decide) ?_
    refine ss_aload_n hx hb dd_F_openThrough_44 rfl (lv_at hl 0 rfl) ?_
    obtain ⟨r4, qr4, hm⟩ := ss_bind hm
    refine ss_getr hC hK hR kf_F_19 rfl qr4 dd_F_openThrough_45 ?_
    obtain ⟨r5, qr5, hm⟩ := ss_bind hm
    refine ss_getr hC hK hR kf_F_77 rfl qr5 dd_F_openThrough_48 ?_
    obtain ⟨v6, qv6, hm⟩ := ss_bind hm
    refine ss_geti hC hK hR kf_F_81 qv6 dd_F_openThrough_51 ?_
    refine lv_ishl hx hb dd_F_openThrough_54 ?_
    refine lv_iconst (v := 1) hx hb dd_F_openThrough_55 (by decide) ?_
    refine lv_isub hx hb dd_F_openThrough_56 ?_
    refine lv_iload_n hx hb dd_F_openThrough_57 rfl (lv_at hl 1 rfl) ?_
    refine lv_iconst (v := -1) hx hb dd_F_openThrough_58 (by decide) ?_
    refine lv_ixor hx hb dd_F_openThrough_59 ?_
    refine lv_iand hx hb dd_F_openThrough_60 ?_
    exact ss_iret hC hr hlocks hR hS hm dd_F_openThrough_61
  have L_14 : ∀ (n : Nat) (x2_14 : Int32) (x3_14 : Int32) (h_14 : ss_Hp) (H : Heap) (locs : List Loc) (ls : Array Slot), ss_lp (mm_F_openThrough_b14 N this a1) n (x2_14, x3_14, h_14) = some e_14 → ss_R G h_14 H → va_S (ss_A G) s.heap H locs → lv_has ls 4 [(0, ss_v (ss_b G) this), (1, .int a1), (2, .int x2_14), (3, .int x3_14)] → ww_F_openThrough p l e s m below meth c G this a1 h rr hh  H locs 0 0 (F0 m 14 ls []) := by
    intro n
    induction n with
    | zero => intro x2_14 x3_14 h_14 H locs ls hm; cases hm
    | succ n ih_14 =>
      intro x2_14 x3_14 h_14 H locs ls hm hR hS hl
      obtain ⟨z_14, hm, hz1_14, hz2_14⟩ := ss_lps hm
      refine lv_iload_n hx hb dd_F_openThrough_14 rfl (lv_at hl 3 rfl) ?_
      refine lv_iload_n hx hb dd_F_openThrough_15 rfl (lv_at hl 1 rfl) ?_
      refine lv_icmp_ge (tgt := 43) hx hb dd_F_openThrough_16 (by decide) (fun c7 => ?_) (fun c7 => ?_)
      · have hm := ss_ift hm c7
        exact X_14_43 x2_14 h_14 _ _ _ (hz2_14 _ (ss_some hm)) hR hS (lv_sub hl [0, 2] rfl)
      · have hm := ss_iff hm c7
        refine ss_aload_n hx hb dd_F_openThrough_19 rfl (lv_at hl 0 rfl) ?_
        obtain ⟨r8, qr8, hm⟩ := ss_bind hm
        refine ss_getr hC hK hR kf_F_27 rfl qr8 dd_F_openThrough_20 ?_
        obtain ⟨v9, h10, qh10, hm⟩ := ss_bind2 hm
        refine ss_cV 0 0 (As := []) hC hK hR hS hl.1 (cc_Wi_passDay l G N _ _ _ _ qh10) km_F_54 (ck_Wi_passDay qh10) ⟨Nat.le_of_ble_eq_true rfl, Nat.le_of_ble_eq_true rfl⟩ ⟨Nat.le_of_ble_eq_true rfl, Nat.le_of_ble_eq_true rfl, Nat.le_of_ble_eq_true rfl, Nat.le_of_ble_eq_true rfl⟩ rfl rfl (Nat.le_of_ble_eq_true rfl) dd_F_openThrough_23 (fun H locs hR hS => ?_)
        refine lv_pop hx hb dd_F_openThrough_26 rfl ?_
        refine lv_iload_n hx hb dd_F_openThrough_27 rfl (lv_at hl 2 rfl) ?_
        refine ss_aload_n hx hb dd_F_openThrough_28 rfl (lv_at hl 0 rfl) ?_
        obtain ⟨r11, qr11, hm⟩ := ss_bind hm
        refine ss_getr hC hK hR kf_F_27 rfl qr11 dd_F_openThrough_29 ?_
        obtain ⟨v12, qv12, hm⟩ := ss_bind hm
        refine ss_cV 0 0 (As := []) hC hK hR hS hl.1 (cc_Wi_closedBits l G N _ _ _ qv12) km_F_68 (ck_Wi_closedBits qv12) ⟨Nat.le_of_ble_eq_true rfl, Nat.le_of_ble_eq_true rfl⟩ ⟨Nat.le_of_ble_eq_true rfl, Nat.le_of_ble_eq_true rfl, Nat.le_of_ble_eq_true rfl, Nat.le_of_ble_eq_true rfl⟩ rfl rfl (Nat.le_of_ble_eq_true rfl) dd_F_openThrough_32 (fun H locs hR hS => ?_)
        refine lv_ior hx hb dd_F_openThrough_35 ?_
        obtain ⟨v13, qv13, hm⟩ := ss_bind hm
        refine ss_topi qv13 ?_
        refine lv_istore_n (lv' := [(2, .int v13), (0, ss_v (ss_b G) this), (1, .int a1), (3, .int x3_14)]) hx hb dd_F_openThrough_36 rfl hl (by decide) rfl (fun ls hl => ?_)
        obtain ⟨v14, qv14, hm⟩ := ss_bind hm
        refine lv_iinc (v := v14) (lv' := [(3, .int v14), (2, .int v13), (0, ss_v (ss_b G) this), (1, .int a1)]) hx hb dd_F_openThrough_37 hl (k := 3) rfl (ss_inc (by decide) qv14) (by decide) rfl (fun ls hl => ?_)
        refine lv_goto (tgt := 14) hx hb dd_F_openThrough_40 (by decide) ?_
        exact ih_14 v13 v14 h10 _ _ _ (hz1_14 _ (ss_some hm)) hR hS (lv_sub hl [2, 3, 1, 0] rfl)
  exact L_14 N v3 (0 : Int32) h1 _ _ _ he_14 hR hS (lv_sub hl [2, 3, 1, 0] rfl)
theorem dd_S_stays_0 : decode bb_S_stays 0 = .ok (.aload_n 0, 1) := by decide +kernel
theorem dd_S_stays_1 : decode bb_S_stays 1 = .ok (.getfield 41, 3) := by decide +kernel
theorem dd_S_stays_4 : decode bb_S_stays 4 = .ok (.getfield 58, 3) := by decide +kernel
theorem dd_S_stays_7 : decode bb_S_stays 7 = .ok (.getfield 169, 3) := by decide +kernel
theorem dd_S_stays_10 : decode bb_S_stays 10 = .ok (.ifCond .eq 24, 3) := by decide +kernel
theorem dd_S_stays_13 : decode bb_S_stays 13 = .ok (.iload_n 1, 1) := by decide +kernel
theorem dd_S_stays_14 : decode bb_S_stays 14 = .ok (.iconst 1, 1) := by decide +kernel
theorem dd_S_stays_15 : decode bb_S_stays 15 = .ok (.bipush 60, 2) := by decide +kernel
theorem dd_S_stays_17 : decode bb_S_stays 17 = .ok (.invokestatic 194, 3) := by decide +kernel
theorem dd_S_stays_20 : decode bb_S_stays 20 = .ok (.ifCond .eq 14, 3) := by decide +kernel
theorem dd_S_stays_23 : decode bb_S_stays 23 = .ok (.aload_n 0, 1) := by decide +kernel
theorem dd_S_stays_24 : decode bb_S_stays 24 = .ok (.getfield 74, 3) := by decide +kernel
theorem dd_S_stays_27 : decode bb_S_stays 27 = .ok (.iload_n 1, 1) := by decide +kernel
theorem dd_S_stays_28 : decode bb_S_stays 28 = .ok (.invokevirtual 218, 3) := by decide +kernel
theorem dd_S_stays_31 : decode bb_S_stays 31 = .ok (.goto 4, 3) := by decide +kernel
theorem dd_S_stays_34 : decode bb_S_stays 34 = .ok (.iconst (-1), 1) := by decide +kernel
theorem dd_S_stays_35 : decode bb_S_stays 35 = .ok (.ireturn, 1) := by decide +kernel
def mm_S_stays_j35 (N : Nat) (this : Option Nat) (a1 : Int32) (s0_35 : Int32) (h_35 : ss_Hp) : Option (Int32 × ss_Hp) :=
  some (s0_35, h_35)
def mm_S_stays_j34 (N : Nat) (this : Option Nat) (a1 : Int32) (h_34 : ss_Hp) : Option (Int32 × ss_Hp) :=
  mm_S_stays_j35 N this a1 (-1 : Int32) h_34
def mm_S_stays (N : Nat) (this : Option Nat) (a1 : Int32) (h : ss_Hp) : Option (Int32 × ss_Hp) :=
  if ss_is h this 11 = true then
    (ss_gr h this 11 4).bind fun r1 =>
    (ss_gr h r1 8 0).bind fun r2 =>
    (ss_gi h r2 5 0).bind fun v3 =>
    if v3 = 0 then
      mm_S_stays_j34 N this a1 h
    else
      (mm_S_isWithin N a1 (1 : Int32) (60 : Int32)).bind fun v5 =>
      if v5 = 0 then
        mm_S_stays_j34 N this a1 h
      else
        (ss_gr h this 11 8).bind fun r7 =>
        ss_b2 (mm_F_openThrough N r7 a1 h) fun v8 h9 =>
        mm_S_stays_j35 N this a1 v8 h9
  else none
abbrev ww_S_stays (p : Program) (l : Launch) (e : Env) (s : State) (m : MethodId) (below : List Frame) (meth : Method) (c : Code) (G : ss_G) (this : Option Nat) (a1 : Int32) (h : ss_Hp) (rr : Int32) (hh : ss_Hp) (H : Heap) (locs : List Loc) (k n : Nat) (g : JFrame) : Prop := W p l e (headSpec (ss_w yy_S_stays bb_S_stays 2 (some (.int))) ({ frames := 6, cells := 0, slots := 0, locals := 171 })).room s m ([ss_v (ss_b G) this, .int a1] : List Value).toArray below meth c H locs k n (MQ below (ss_Qc G (some (.int rr)) hh) ([ss_v (ss_b G) this, .int a1] : List Value).toArray s 0 0 (ss_A G)) g
theorem ck_S_stays {N : Nat} {this : Option Nat} {a1 : Int32} {h : ss_Hp} {res : Int32 × ss_Hp} (hm : mm_S_stays N this a1 h = some res) : ss_is h this 11 = true := (ss_chk hm).1
set_option maxHeartbeats 4000000 in
set_option maxRecDepth 100000 in
theorem cc_S_stays (l : Launch) (G : ss_G) (N : Nat) (this : Option Nat) (a1 : Int32) (h : ss_Hp) (rr : Int32) (hh : ss_Hp) (hm : mm_S_stays N this a1 h = some (rr, hh)) : ss_Ct l G yy_S_stays bb_S_stays 2 (some (.int)) ({ frames := 6, cells := 0, slots := 0, locals := 171 }) [ss_v (ss_b G) this, .int a1] h (some (.int rr)) hh := by
  obtain ⟨hck, hm⟩ := ss_chk hm
  refine Met.ofW (cc := bb_S_stays) (maxL := 2) (ret := (some (.int))) (by decide) rfl ?_
  intro p e s m args below meth c s₁ B hml hv
  obtain ⟨rfl, hR, hK⟩ := hv
  have hC : CallFix p m c bb_S_stays 2 s _ lw_g sR_11 := ⟨B.exec, B.bytes, hml, findClass_of_methodNamed B.named, fun w hw => atoms_spec (ws := ss_w yy_S_stays bb_S_stays 2 (some (.int))) B.pre w (List.mem_cons_of_mem _ hw)⟩
  have hx := hC.1
  have hb := hC.2.1
  have hr := B.returns
  have hlocks := B.notSynchronized
  have hS : va_S (ss_A G) s.heap s.heap [] := va_S.rf
  have hl := lv_entry ([ss_v (ss_b G) this, .int a1]) (n := 2) (by simp [lg_sl, ss_v_cat, ss_cat_i, ss_cat_l, ss_cat_r])
  rw [lg_entry_eq]
  generalize (lg_sl ([ss_v (ss_b G) this, .int a1]) ++ List.replicate (2 - (lg_sl ([ss_v (ss_b G) this, .int a1])).length) Slot.unset).toArray = ls at hl ⊢
  have hl : lv_has ls 2 [(0, ss_v (ss_b G) this), (1, .int a1)] := by simpa [lv_args, ss_v_cat, ss_cat_i, ss_cat_l, ss_cat_r] using hl
  have J_35 : ∀ (s0_35 : Int32) (h_35 : ss_Hp) (H : Heap) (locs : List Loc) (ls : Array Slot), mm_S_stays_j35 N this a1 s0_35 h_35 = some (rr, hh) → ss_R G h_35 H → va_S (ss_A G) s.heap H locs → lv_has ls 2 [] → ww_S_stays p l e s m below meth c G this a1 h rr hh  H locs 0 0 (F0 m 35 ls [.int s0_35]) := by
    intro s0_35 h_35 H locs ls hm hR hS hl
    exact ss_iret hC hr hlocks hR hS hm dd_S_stays_35
  have J_34 : ∀ (h_34 : ss_Hp) (H : Heap) (locs : List Loc) (ls : Array Slot), mm_S_stays_j34 N this a1 h_34 = some (rr, hh) → ss_R G h_34 H → va_S (ss_A G) s.heap H locs → lv_has ls 2 [] → ww_S_stays p l e s m below meth c G this a1 h rr hh  H locs 0 0 (F0 m 34 ls []) := by
    intro h_34 H locs ls hm hR hS hl
    refine lv_iconst (v := -1) hx hb dd_S_stays_34 (by decide) ?_
    exact J_35 (-1 : Int32) h_34 _ _ _ hm hR hS hl
  refine ss_aload_n hx hb dd_S_stays_0 rfl (lv_at hl 0 rfl) ?_
  obtain ⟨r1, qr1, hm⟩ := ss_bind hm
  refine ss_getr hC hK hR kf_S_41 rfl qr1 dd_S_stays_1 ?_
  obtain ⟨r2, qr2, hm⟩ := ss_bind hm
  refine ss_getr hC hK hR kf_S_58 rfl qr2 dd_S_stays_4 ?_
  obtain ⟨v3, qv3, hm⟩ := ss_bind hm
  refine ss_geti hC hK hR kf_S_169 qv3 dd_S_stays_7 ?_
  refine lv_if_eq (tgt := 34) hx hb dd_S_stays_10 (by decide) (fun c4 => ?_) (fun c4 => ?_)
  · have hm := ss_ift hm c4
    exact J_34 h _ _ _ hm hR hS (lv_sub hl [] rfl)
  · have hm := ss_iff hm c4
    refine lv_iload_n hx hb dd_S_stays_13 rfl (lv_at hl 1 rfl) ?_
    refine lv_iconst (v := 1) hx hb dd_S_stays_14 (by decide) ?_
    refine lv_bipush (v := 60) hx hb dd_S_stays_15 (by decide) ?_
    obtain ⟨v5, qv5, hm⟩ := ss_bind hm
    refine ss_cS 0 0 (As := [.int a1, .int (1 : Int32), .int (60 : Int32)]) hC hK hR hS hl.1 (cc_S_isWithin l G N _ _ _ _ _ qv5) km_S_194 ⟨Nat.le_of_ble_eq_true rfl, Nat.le_of_ble_eq_true rfl⟩ ⟨Nat.le_of_ble_eq_true rfl, Nat.le_of_ble_eq_true rfl, Nat.le_of_ble_eq_true rfl, Nat.le_of_ble_eq_true rfl⟩ rfl rfl (Nat.le_of_ble_eq_true rfl) dd_S_stays_17 (fun H locs hR hS => ?_)
    refine lv_if_eq (tgt := 34) hx hb dd_S_stays_20 (by decide) (fun c6 => ?_) (fun c6 => ?_)
    · have hm := ss_ift hm c6
      exact J_34 h _ _ _ hm hR hS (lv_sub hl [] rfl)
    · have hm := ss_iff hm c6
      refine ss_aload_n hx hb dd_S_stays_23 rfl (lv_at hl 0 rfl) ?_
      obtain ⟨r7, qr7, hm⟩ := ss_bind hm
      refine ss_getr hC hK hR kf_S_74 rfl qr7 dd_S_stays_24 ?_
      refine lv_iload_n hx hb dd_S_stays_27 rfl (lv_at hl 1 rfl) ?_
      obtain ⟨v8, h9, qh9, hm⟩ := ss_bind2 hm
      refine ss_cV 0 0 (As := [.int a1]) hC hK hR hS hl.1 (cc_F_openThrough l G N _ _ _ _ _ qh9) km_S_218 (ck_F_openThrough qh9) ⟨Nat.le_of_ble_eq_true rfl, Nat.le_of_ble_eq_true rfl⟩ ⟨Nat.le_of_ble_eq_true rfl, Nat.le_of_ble_eq_true rfl, Nat.le_of_ble_eq_true rfl, Nat.le_of_ble_eq_true rfl⟩ rfl rfl (Nat.le_of_ble_eq_true rfl) dd_S_stays_28 (fun H locs hR hS => ?_)
      refine lv_goto (tgt := 35) hx hb dd_S_stays_31 (by decide) ?_
      exact J_35 v8 h9 _ _ _ hm hR hS (lv_sub hl [] rfl)
theorem dd_F_firstClosed_0 : decode bb_F_firstClosed 0 = .ok (.aload_n 0, 1) := by decide +kernel
theorem dd_F_firstClosed_1 : decode bb_F_firstClosed 1 = .ok (.invokevirtual 51, 3) := by decide +kernel
theorem dd_F_firstClosed_4 : decode bb_F_firstClosed 4 = .ok (.iconst 0, 1) := by decide +kernel
theorem dd_F_firstClosed_5 : decode bb_F_firstClosed 5 = .ok (.istore_n 2, 1) := by decide +kernel
theorem dd_F_firstClosed_6 : decode bb_F_firstClosed 6 = .ok (.iload_n 2, 1) := by decide +kernel
theorem dd_F_firstClosed_7 : decode bb_F_firstClosed 7 = .ok (.bipush 100, 2) := by decide +kernel
theorem dd_F_firstClosed_9 : decode bb_F_firstClosed 9 = .ok (.if_icmp .ge 43, 3) := by decide +kernel
theorem dd_F_firstClosed_12 : decode bb_F_firstClosed 12 = .ok (.aload_n 0, 1) := by decide +kernel
theorem dd_F_firstClosed_13 : decode bb_F_firstClosed 13 = .ok (.getfield 27, 3) := by decide +kernel
theorem dd_F_firstClosed_16 : decode bb_F_firstClosed 16 = .ok (.invokevirtual 68, 3) := by decide +kernel
theorem dd_F_firstClosed_19 : decode bb_F_firstClosed 19 = .ok (.iload_n 1, 1) := by decide +kernel
theorem dd_F_firstClosed_20 : decode bb_F_firstClosed 20 = .ok (.ishr, 1) := by decide +kernel
theorem dd_F_firstClosed_21 : decode bb_F_firstClosed 21 = .ok (.iconst 1, 1) := by decide +kernel
theorem dd_F_firstClosed_22 : decode bb_F_firstClosed 22 = .ok (.iand, 1) := by decide +kernel
theorem dd_F_firstClosed_23 : decode bb_F_firstClosed 23 = .ok (.iconst 1, 1) := by decide +kernel
theorem dd_F_firstClosed_24 : decode bb_F_firstClosed 24 = .ok (.if_icmp .ne 14, 3) := by decide +kernel
theorem dd_F_firstClosed_27 : decode bb_F_firstClosed 27 = .ok (.aload_n 0, 1) := by decide +kernel
theorem dd_F_firstClosed_28 : decode bb_F_firstClosed 28 = .ok (.getfield 27, 3) := by decide +kernel
theorem dd_F_firstClosed_31 : decode bb_F_firstClosed 31 = .ok (.getfield 62, 3) := by decide +kernel
theorem dd_F_firstClosed_34 : decode bb_F_firstClosed 34 = .ok (.getfield 86, 3) := by decide +kernel
theorem dd_F_firstClosed_37 : decode bb_F_firstClosed 37 = .ok (.ireturn, 1) := by decide +kernel
theorem dd_F_firstClosed_38 : decode bb_F_firstClosed 38 = .ok (.aload_n 0, 1) := by decide +kernel
theorem dd_F_firstClosed_39 : decode bb_F_firstClosed 39 = .ok (.getfield 27, 3) := by decide +kernel
theorem dd_F_firstClosed_42 : decode bb_F_firstClosed 42 = .ok (.invokevirtual 54, 3) := by decide +kernel
theorem dd_F_firstClosed_45 : decode bb_F_firstClosed 45 = .ok (.pop, 1) := by decide +kernel
theorem dd_F_firstClosed_46 : decode bb_F_firstClosed 46 = .ok (.iinc 2 1, 3) := by decide +kernel
theorem dd_F_firstClosed_49 : decode bb_F_firstClosed 49 = .ok (.goto (-43), 3) := by decide +kernel
theorem dd_F_firstClosed_52 : decode bb_F_firstClosed 52 = .ok (.bipush (-2), 2) := by decide +kernel
theorem dd_F_firstClosed_54 : decode bb_F_firstClosed 54 = .ok (.ireturn, 1) := by decide +kernel
def mm_F_firstClosed_b6 (N : Nat) (this : Option Nat) (a1 : Int32) (st : Int32 × ss_Hp) : Option ((Int32 × ss_Hp) ⊕ (ss_Hp ⊕ ss_Hp)) :=
  match st with
  | (x2_6, h_6) =>
    if (100 : Int32) ≤ x2_6 then
      some (.inr (.inl h_6))
    else
      (ss_gr h_6 this 9 2).bind fun r6 =>
      (mm_Wi_closedBits N r6 h_6).bind fun v7 =>
      if ((v7 >>> (a1 &&& 31)) &&& (1 : Int32)) = (1 : Int32) then
        some (.inr (.inr h_6))
      else
        (ss_gr h_6 this 9 2).bind fun r9 =>
        ss_b2 (mm_Wi_passDay N r9 h_6) fun v10 h11 =>
        (some (x2_6 + (1 : Int32))).bind fun v12 =>
        some (.inl (v12, h11))
def mm_F_firstClosed (N : Nat) (this : Option Nat) (a1 : Int32) (h : ss_Hp) : Option (Int32 × ss_Hp) :=
  if ss_is h this 9 = true then
    (mm_F_start N this h).bind fun h1 =>
    (ss_lp (mm_F_firstClosed_b6 N this a1) N ((0 : Int32), h1)).bind fun e_6 =>
    match e_6 with
    | (.inl h_6_52) =>
      some ((-2 : Int32), h_6_52)
    | (.inr h_6_27) =>
      (ss_gr h_6_27 this 9 2).bind fun r2 =>
      (ss_gr h_6_27 r2 7 0).bind fun r3 =>
      (ss_gi h_6_27 r3 0 3).bind fun v4 =>
      some (v4, h_6_27)
  else none
abbrev ww_F_firstClosed (p : Program) (l : Launch) (e : Env) (s : State) (m : MethodId) (below : List Frame) (meth : Method) (c : Code) (G : ss_G) (this : Option Nat) (a1 : Int32) (h : ss_Hp) (rr : Int32) (hh : ss_Hp) (H : Heap) (locs : List Loc) (k n : Nat) (g : JFrame) : Prop := W p l e (headSpec (ss_w yy_F_firstClosed bb_F_firstClosed 3 (some (.int))) ({ frames := 5, cells := 0, slots := 0, locals := 148 })).room s m ([ss_v (ss_b G) this, .int a1] : List Value).toArray below meth c H locs k n (MQ below (ss_Qc G (some (.int rr)) hh) ([ss_v (ss_b G) this, .int a1] : List Value).toArray s 0 0 (ss_A G)) g
theorem ck_F_firstClosed {N : Nat} {this : Option Nat} {a1 : Int32} {h : ss_Hp} {res : Int32 × ss_Hp} (hm : mm_F_firstClosed N this a1 h = some res) : ss_is h this 9 = true := (ss_chk hm).1
set_option maxHeartbeats 4000000 in
set_option maxRecDepth 100000 in
theorem cc_F_firstClosed (l : Launch) (G : ss_G) (N : Nat) (this : Option Nat) (a1 : Int32) (h : ss_Hp) (rr : Int32) (hh : ss_Hp) (hm : mm_F_firstClosed N this a1 h = some (rr, hh)) : ss_Ct l G yy_F_firstClosed bb_F_firstClosed 3 (some (.int)) ({ frames := 5, cells := 0, slots := 0, locals := 148 }) [ss_v (ss_b G) this, .int a1] h (some (.int rr)) hh := by
  obtain ⟨hck, hm⟩ := ss_chk hm
  refine Met.ofW (cc := bb_F_firstClosed) (maxL := 3) (ret := (some (.int))) (by decide) rfl ?_
  intro p e s m args below meth c s₁ B hml hv
  obtain ⟨rfl, hR, hK⟩ := hv
  have hC : CallFix p m c bb_F_firstClosed 3 s _ lw_g sR_9 := ⟨B.exec, B.bytes, hml, findClass_of_methodNamed B.named, fun w hw => atoms_spec (ws := ss_w yy_F_firstClosed bb_F_firstClosed 3 (some (.int))) B.pre w (List.mem_cons_of_mem _ hw)⟩
  have hx := hC.1
  have hb := hC.2.1
  have hr := B.returns
  have hlocks := B.notSynchronized
  have hS : va_S (ss_A G) s.heap s.heap [] := va_S.rf
  have hl := lv_entry ([ss_v (ss_b G) this, .int a1]) (n := 3) (by simp [lg_sl, ss_v_cat, ss_cat_i, ss_cat_l, ss_cat_r])
  rw [lg_entry_eq]
  generalize (lg_sl ([ss_v (ss_b G) this, .int a1]) ++ List.replicate (3 - (lg_sl ([ss_v (ss_b G) this, .int a1])).length) Slot.unset).toArray = ls at hl ⊢
  have hl : lv_has ls 3 [(0, ss_v (ss_b G) this), (1, .int a1)] := by simpa [lv_args, ss_v_cat, ss_cat_i, ss_cat_l, ss_cat_r] using hl
  refine ss_aload_n hx hb dd_F_firstClosed_0 rfl (lv_at hl 0 rfl) ?_
  obtain ⟨h1, qh1, hm⟩ := ss_bind hm
  refine ss_cVv 0 0 (As := []) hC hK hR hS hl.1 (cc_F_start l G N _ _ _ qh1) km_F_51 (ck_F_start qh1) ⟨Nat.le_of_ble_eq_true rfl, Nat.le_of_ble_eq_true rfl⟩ ⟨Nat.le_of_ble_eq_true rfl, Nat.le_of_ble_eq_true rfl, Nat.le_of_ble_eq_true rfl, Nat.le_of_ble_eq_true rfl⟩ rfl rfl (Nat.le_of_ble_eq_true rfl) dd_F_firstClosed_1 (fun H locs hR hS => ?_)
  refine lv_iconst (v := 0) hx hb dd_F_firstClosed_4 (by decide) ?_
  refine lv_istore_n (lv' := [(2, .int (0 : Int32)), (0, ss_v (ss_b G) this), (1, .int a1)]) hx hb dd_F_firstClosed_5 rfl hl (by decide) rfl (fun ls hl => ?_)
  obtain ⟨e_6, he_6, hm⟩ := ss_bind hm
  have X_6_52 : ∀  (h_6_52 : ss_Hp) (H : Heap) (locs : List Loc) (ls : Array Slot), e_6 = (.inl h_6_52) → ss_R G h_6_52 H → va_S (ss_A G) s.heap H locs → lv_has ls 3 [] → ww_F_firstClosed p l e s m below meth c G this a1 h rr hh  H locs 0 0 (F0 m 52 ls []) := by
    intro h_6_52 H locs ls hq hR hS hl
    rw [hq] at hm
    refine lv_bipush (v := -2) hx hb dd_F_firstClosed_52 (by decide) ?_
    exact ss_iret hC hr hlocks hR hS hm dd_F_firstClosed_54
  have X_6_27 : ∀  (h_6_27 : ss_Hp) (H : Heap) (locs : List Loc) (ls : Array Slot), e_6 = (.inr h_6_27) → ss_R G h_6_27 H → va_S (ss_A G) s.heap H locs → lv_has ls 3 [(0, ss_v (ss_b G) this)] → ww_F_firstClosed p l e s m below meth c G this a1 h rr hh  H locs 0 0 (F0 m 27 ls []) := by
    intro h_6_27 H locs ls hq hR hS hl
    rw [hq] at hm
    refine ss_aload_n hx hb dd_F_firstClosed_27 rfl (lv_at hl 0 rfl) ?_
    obtain ⟨r2, qr2, hm⟩ := ss_bind hm
    refine ss_getr hC hK hR kf_F_27 rfl qr2 dd_F_firstClosed_28 ?_
    obtain ⟨r3, qr3, hm⟩ := ss_bind hm
    refine ss_getr hC hK hR kf_F_62 rfl qr3 dd_F_firstClosed_31 ?_
    obtain ⟨v4, qv4, hm⟩ := ss_bind hm
    refine ss_geti hC hK hR kf_F_86 qv4 dd_F_firstClosed_34 ?_
    exact ss_iret hC hr hlocks hR hS hm dd_F_firstClosed_37
  have L_6 : ∀ (n : Nat) (x2_6 : Int32) (h_6 : ss_Hp) (H : Heap) (locs : List Loc) (ls : Array Slot), ss_lp (mm_F_firstClosed_b6 N this a1) n (x2_6, h_6) = some e_6 → ss_R G h_6 H → va_S (ss_A G) s.heap H locs → lv_has ls 3 [(0, ss_v (ss_b G) this), (1, .int a1), (2, .int x2_6)] → ww_F_firstClosed p l e s m below meth c G this a1 h rr hh  H locs 0 0 (F0 m 6 ls []) := by
    intro n
    induction n with
    | zero => intro x2_6 h_6 H locs ls hm; cases hm
    | succ n ih_6 =>
      intro x2_6 h_6 H locs ls hm hR hS hl
      obtain ⟨z_6, hm, hz1_6, hz2_6⟩ := ss_lps hm
      refine lv_iload_n hx hb dd_F_firstClosed_6 rfl (lv_at hl 2 rfl) ?_
      refine lv_bipush (v := 100) hx hb dd_F_firstClosed_7 (by decide) ?_
      refine lv_icmp_ge (tgt := 52) hx hb dd_F_firstClosed_9 (by decide) (fun c5 => ?_) (fun c5 => ?_)
      · have hm := ss_ift hm c5
        exact X_6_52 h_6 _ _ _ (hz2_6 _ (ss_some hm)) hR hS (lv_sub hl [] rfl)
      · have hm := ss_iff hm c5
        refine ss_aload_n hx hb dd_F_firstClosed_12 rfl (lv_at hl 0 rfl) ?_
        obtain ⟨r6, qr6, hm⟩ := ss_bind hm
        refine ss_getr hC hK hR kf_F_27 rfl qr6 dd_F_firstClosed_13 ?_
        obtain ⟨v7, qv7, hm⟩ := ss_bind hm
        refine ss_cV 0 0 (As := []) hC hK hR hS hl.1 (cc_Wi_closedBits l G N _ _ _ qv7) km_F_68 (ck_Wi_closedBits qv7) ⟨Nat.le_of_ble_eq_true rfl, Nat.le_of_ble_eq_true rfl⟩ ⟨Nat.le_of_ble_eq_true rfl, Nat.le_of_ble_eq_true rfl, Nat.le_of_ble_eq_true rfl, Nat.le_of_ble_eq_true rfl⟩ rfl rfl (Nat.le_of_ble_eq_true rfl) dd_F_firstClosed_16 (fun H locs hR hS => ?_)
        refine lv_iload_n hx hb dd_F_firstClosed_19 rfl (lv_at hl 1 rfl) ?_
        refine lv_ishr hx hb dd_F_firstClosed_20 ?_
        refine lv_iconst (v := 1) hx hb dd_F_firstClosed_21 (by decide) ?_
        refine lv_iand hx hb dd_F_firstClosed_22 ?_
        refine lv_iconst (v := 1) hx hb dd_F_firstClosed_23 (by decide) ?_
        refine lv_icmp_ne (tgt := 38) hx hb dd_F_firstClosed_24 (by decide) (fun c8 => ?_) (fun c8 => ?_)
        · have hm := ss_iff hm c8
          refine ss_aload_n hx hb dd_F_firstClosed_38 rfl (lv_at hl 0 rfl) ?_
          obtain ⟨r9, qr9, hm⟩ := ss_bind hm
          refine ss_getr hC hK hR kf_F_27 rfl qr9 dd_F_firstClosed_39 ?_
          obtain ⟨v10, h11, qh11, hm⟩ := ss_bind2 hm
          refine ss_cV 0 0 (As := []) hC hK hR hS hl.1 (cc_Wi_passDay l G N _ _ _ _ qh11) km_F_54 (ck_Wi_passDay qh11) ⟨Nat.le_of_ble_eq_true rfl, Nat.le_of_ble_eq_true rfl⟩ ⟨Nat.le_of_ble_eq_true rfl, Nat.le_of_ble_eq_true rfl, Nat.le_of_ble_eq_true rfl, Nat.le_of_ble_eq_true rfl⟩ rfl rfl (Nat.le_of_ble_eq_true rfl) dd_F_firstClosed_42 (fun H locs hR hS => ?_)
          refine lv_pop hx hb dd_F_firstClosed_45 rfl ?_
          obtain ⟨v12, qv12, hm⟩ := ss_bind hm
          refine lv_iinc (v := v12) (lv' := [(2, .int v12), (0, ss_v (ss_b G) this), (1, .int a1)]) hx hb dd_F_firstClosed_46 hl (k := 2) rfl (ss_inc (by decide) qv12) (by decide) rfl (fun ls hl => ?_)
          refine lv_goto (tgt := 6) hx hb dd_F_firstClosed_49 (by decide) ?_
          exact ih_6 v12 h11 _ _ _ (hz1_6 _ (ss_some hm)) hR hS (lv_sub hl [1, 2, 0] rfl)
        · have hm := ss_ift hm c8
          exact X_6_27 h_6 _ _ _ (hz2_6 _ (ss_some hm)) hR hS (lv_sub hl [0] rfl)
  exact L_6 N (0 : Int32) h1 _ _ _ he_6 hR hS (lv_sub hl [1, 2, 0] rfl)
theorem dd_S_closes_0 : decode bb_S_closes 0 = .ok (.aload_n 0, 1) := by decide +kernel
theorem dd_S_closes_1 : decode bb_S_closes 1 = .ok (.iload_n 1, 1) := by decide +kernel
theorem dd_S_closes_2 : decode bb_S_closes 2 = .ok (.invokevirtual 123, 3) := by decide +kernel
theorem dd_S_closes_5 : decode bb_S_closes 5 = .ok (.ifCond .eq 14, 3) := by decide +kernel
theorem dd_S_closes_8 : decode bb_S_closes 8 = .ok (.aload_n 0, 1) := by decide +kernel
theorem dd_S_closes_9 : decode bb_S_closes 9 = .ok (.getfield 74, 3) := by decide +kernel
theorem dd_S_closes_12 : decode bb_S_closes 12 = .ok (.iload_n 1, 1) := by decide +kernel
theorem dd_S_closes_13 : decode bb_S_closes 13 = .ok (.invokevirtual 221, 3) := by decide +kernel
theorem dd_S_closes_16 : decode bb_S_closes 16 = .ok (.goto 4, 3) := by decide +kernel
theorem dd_S_closes_19 : decode bb_S_closes 19 = .ok (.iconst (-1), 1) := by decide +kernel
theorem dd_S_closes_20 : decode bb_S_closes 20 = .ok (.ireturn, 1) := by decide +kernel
def mm_S_closes_j20 (N : Nat) (this : Option Nat) (a1 : Int32) (s0_20 : Int32) (h_20 : ss_Hp) : Option (Int32 × ss_Hp) :=
  some (s0_20, h_20)
def mm_S_closes (N : Nat) (this : Option Nat) (a1 : Int32) (h : ss_Hp) : Option (Int32 × ss_Hp) :=
  if ss_is h this 11 = true then
    (mm_S_isStep N this a1 h).bind fun v1 =>
    if v1 = 0 then
      mm_S_closes_j20 N this a1 (-1 : Int32) h
    else
      (ss_gr h this 11 8).bind fun r3 =>
      ss_b2 (mm_F_firstClosed N r3 a1 h) fun v4 h5 =>
      mm_S_closes_j20 N this a1 v4 h5
  else none
abbrev ww_S_closes (p : Program) (l : Launch) (e : Env) (s : State) (m : MethodId) (below : List Frame) (meth : Method) (c : Code) (G : ss_G) (this : Option Nat) (a1 : Int32) (h : ss_Hp) (rr : Int32) (hh : ss_Hp) (H : Heap) (locs : List Loc) (k n : Nat) (g : JFrame) : Prop := W p l e (headSpec (ss_w yy_S_closes bb_S_closes 2 (some (.int))) ({ frames := 6, cells := 0, slots := 0, locals := 170 })).room s m ([ss_v (ss_b G) this, .int a1] : List Value).toArray below meth c H locs k n (MQ below (ss_Qc G (some (.int rr)) hh) ([ss_v (ss_b G) this, .int a1] : List Value).toArray s 0 0 (ss_A G)) g
theorem ck_S_closes {N : Nat} {this : Option Nat} {a1 : Int32} {h : ss_Hp} {res : Int32 × ss_Hp} (hm : mm_S_closes N this a1 h = some res) : ss_is h this 11 = true := (ss_chk hm).1
set_option maxHeartbeats 4000000 in
set_option maxRecDepth 100000 in
theorem cc_S_closes (l : Launch) (G : ss_G) (N : Nat) (this : Option Nat) (a1 : Int32) (h : ss_Hp) (rr : Int32) (hh : ss_Hp) (hm : mm_S_closes N this a1 h = some (rr, hh)) : ss_Ct l G yy_S_closes bb_S_closes 2 (some (.int)) ({ frames := 6, cells := 0, slots := 0, locals := 170 }) [ss_v (ss_b G) this, .int a1] h (some (.int rr)) hh := by
  obtain ⟨hck, hm⟩ := ss_chk hm
  refine Met.ofW (cc := bb_S_closes) (maxL := 2) (ret := (some (.int))) (by decide) rfl ?_
  intro p e s m args below meth c s₁ B hml hv
  obtain ⟨rfl, hR, hK⟩ := hv
  have hC : CallFix p m c bb_S_closes 2 s _ lw_g sR_11 := ⟨B.exec, B.bytes, hml, findClass_of_methodNamed B.named, fun w hw => atoms_spec (ws := ss_w yy_S_closes bb_S_closes 2 (some (.int))) B.pre w (List.mem_cons_of_mem _ hw)⟩
  have hx := hC.1
  have hb := hC.2.1
  have hr := B.returns
  have hlocks := B.notSynchronized
  have hS : va_S (ss_A G) s.heap s.heap [] := va_S.rf
  have hl := lv_entry ([ss_v (ss_b G) this, .int a1]) (n := 2) (by simp [lg_sl, ss_v_cat, ss_cat_i, ss_cat_l, ss_cat_r])
  rw [lg_entry_eq]
  generalize (lg_sl ([ss_v (ss_b G) this, .int a1]) ++ List.replicate (2 - (lg_sl ([ss_v (ss_b G) this, .int a1])).length) Slot.unset).toArray = ls at hl ⊢
  have hl : lv_has ls 2 [(0, ss_v (ss_b G) this), (1, .int a1)] := by simpa [lv_args, ss_v_cat, ss_cat_i, ss_cat_l, ss_cat_r] using hl
  have J_20 : ∀ (s0_20 : Int32) (h_20 : ss_Hp) (H : Heap) (locs : List Loc) (ls : Array Slot), mm_S_closes_j20 N this a1 s0_20 h_20 = some (rr, hh) → ss_R G h_20 H → va_S (ss_A G) s.heap H locs → lv_has ls 2 [] → ww_S_closes p l e s m below meth c G this a1 h rr hh  H locs 0 0 (F0 m 20 ls [.int s0_20]) := by
    intro s0_20 h_20 H locs ls hm hR hS hl
    exact ss_iret hC hr hlocks hR hS hm dd_S_closes_20
  refine ss_aload_n hx hb dd_S_closes_0 rfl (lv_at hl 0 rfl) ?_
  refine lv_iload_n hx hb dd_S_closes_1 rfl (lv_at hl 1 rfl) ?_
  obtain ⟨v1, qv1, hm⟩ := ss_bind hm
  refine ss_cV 0 0 (As := [.int a1]) hC hK hR hS hl.1 (cc_S_isStep l G N _ _ _ _ qv1) km_S_123 (ck_S_isStep qv1) ⟨Nat.le_of_ble_eq_true rfl, Nat.le_of_ble_eq_true rfl⟩ ⟨Nat.le_of_ble_eq_true rfl, Nat.le_of_ble_eq_true rfl, Nat.le_of_ble_eq_true rfl, Nat.le_of_ble_eq_true rfl⟩ rfl rfl (Nat.le_of_ble_eq_true rfl) dd_S_closes_2 (fun H locs hR hS => ?_)
  refine lv_if_eq (tgt := 19) hx hb dd_S_closes_5 (by decide) (fun c2 => ?_) (fun c2 => ?_)
  · have hm := ss_ift hm c2
    refine lv_iconst (v := -1) hx hb dd_S_closes_19 (by decide) ?_
    exact J_20 (-1 : Int32) h _ _ _ hm hR hS (lv_sub hl [] rfl)
  · have hm := ss_iff hm c2
    refine ss_aload_n hx hb dd_S_closes_8 rfl (lv_at hl 0 rfl) ?_
    obtain ⟨r3, qr3, hm⟩ := ss_bind hm
    refine ss_getr hC hK hR kf_S_74 rfl qr3 dd_S_closes_9 ?_
    refine lv_iload_n hx hb dd_S_closes_12 rfl (lv_at hl 1 rfl) ?_
    obtain ⟨v4, h5, qh5, hm⟩ := ss_bind2 hm
    refine ss_cV 0 0 (As := [.int a1]) hC hK hR hS hl.1 (cc_F_firstClosed l G N _ _ _ _ _ qh5) km_S_221 (ck_F_firstClosed qh5) ⟨Nat.le_of_ble_eq_true rfl, Nat.le_of_ble_eq_true rfl⟩ ⟨Nat.le_of_ble_eq_true rfl, Nat.le_of_ble_eq_true rfl, Nat.le_of_ble_eq_true rfl, Nat.le_of_ble_eq_true rfl⟩ rfl rfl (Nat.le_of_ble_eq_true rfl) dd_S_closes_13 (fun H locs hR hS => ?_)
    refine lv_goto (tgt := 20) hx hb dd_S_closes_16 (by decide) ?_
    exact J_20 v4 h5 _ _ _ hm hR hS (lv_sub hl [] rfl)
theorem dd_F_isSameRow_0 : decode bb_F_isSameRow 0 = .ok (.iconst 0, 1) := by decide +kernel
theorem dd_F_isSameRow_1 : decode bb_F_isSameRow 1 = .ok (.istore_n 3, 1) := by decide +kernel
theorem dd_F_isSameRow_2 : decode bb_F_isSameRow 2 = .ok (.iload_n 3, 1) := by decide +kernel
theorem dd_F_isSameRow_3 : decode bb_F_isSameRow 3 = .ok (.aload_n 0, 1) := by decide +kernel
theorem dd_F_isSameRow_4 : decode bb_F_isSameRow 4 = .ok (.getfield 19, 3) := by decide +kernel
theorem dd_F_isSameRow_7 : decode bb_F_isSameRow 7 = .ok (.getfield 77, 3) := by decide +kernel
theorem dd_F_isSameRow_10 : decode bb_F_isSameRow 10 = .ok (.getfield 81, 3) := by decide +kernel
theorem dd_F_isSameRow_13 : decode bb_F_isSameRow 13 = .ok (.if_icmp .ge 36, 3) := by decide +kernel
theorem dd_F_isSameRow_16 : decode bb_F_isSameRow 16 = .ok (.aload_n 0, 1) := by decide +kernel
theorem dd_F_isSameRow_17 : decode bb_F_isSameRow 17 = .ok (.getfield 11, 3) := by decide +kernel
theorem dd_F_isSameRow_20 : decode bb_F_isSameRow 20 = .ok (.iload_n 1, 1) := by decide +kernel
theorem dd_F_isSameRow_21 : decode bb_F_isSameRow 21 = .ok (.bipush 8, 2) := by decide +kernel
theorem dd_F_isSameRow_23 : decode bb_F_isSameRow 23 = .ok (.imul, 1) := by decide +kernel
theorem dd_F_isSameRow_24 : decode bb_F_isSameRow 24 = .ok (.iload_n 3, 1) := by decide +kernel
theorem dd_F_isSameRow_25 : decode bb_F_isSameRow 25 = .ok (.iadd, 1) := by decide +kernel
theorem dd_F_isSameRow_26 : decode bb_F_isSameRow 26 = .ok (.iaload, 1) := by decide +kernel
theorem dd_F_isSameRow_27 : decode bb_F_isSameRow 27 = .ok (.aload_n 0, 1) := by decide +kernel
theorem dd_F_isSameRow_28 : decode bb_F_isSameRow 28 = .ok (.getfield 11, 3) := by decide +kernel
theorem dd_F_isSameRow_31 : decode bb_F_isSameRow 31 = .ok (.iload_n 2, 1) := by decide +kernel
theorem dd_F_isSameRow_32 : decode bb_F_isSameRow 32 = .ok (.bipush 8, 2) := by decide +kernel
theorem dd_F_isSameRow_34 : decode bb_F_isSameRow 34 = .ok (.imul, 1) := by decide +kernel
theorem dd_F_isSameRow_35 : decode bb_F_isSameRow 35 = .ok (.iload_n 3, 1) := by decide +kernel
theorem dd_F_isSameRow_36 : decode bb_F_isSameRow 36 = .ok (.iadd, 1) := by decide +kernel
theorem dd_F_isSameRow_37 : decode bb_F_isSameRow 37 = .ok (.iaload, 1) := by decide +kernel
theorem dd_F_isSameRow_38 : decode bb_F_isSameRow 38 = .ok (.if_icmp .eq 5, 3) := by decide +kernel
theorem dd_F_isSameRow_41 : decode bb_F_isSameRow 41 = .ok (.iconst 0, 1) := by decide +kernel
theorem dd_F_isSameRow_42 : decode bb_F_isSameRow 42 = .ok (.ireturn, 1) := by decide +kernel
theorem dd_F_isSameRow_43 : decode bb_F_isSameRow 43 = .ok (.iinc 3 1, 3) := by decide +kernel
theorem dd_F_isSameRow_46 : decode bb_F_isSameRow 46 = .ok (.goto (-44), 3) := by decide +kernel
theorem dd_F_isSameRow_49 : decode bb_F_isSameRow 49 = .ok (.iconst 1, 1) := by decide +kernel
theorem dd_F_isSameRow_50 : decode bb_F_isSameRow 50 = .ok (.ireturn, 1) := by decide +kernel
def mm_F_isSameRow_b2 (N : Nat) (this : Option Nat) (a1 : Int32) (a2 : Int32) (h : ss_Hp) (st : Int32) : Option (Int32 ⊕ (Unit ⊕ Unit)) :=
  match st with
  | x3_2 =>
    (ss_gr h this 9 0).bind fun r1 =>
    (ss_gr h r1 8 0).bind fun r2 =>
    (ss_gi h r2 5 3).bind fun v3 =>
    if v3 ≤ x3_2 then
      some (.inr (.inl ()))
    else
      (ss_gr h this 9 3).bind fun r5 =>
      (ss_ai h r5 20 ((a1 * (8 : Int32)) + x3_2)).bind fun v6 =>
      (ss_gr h this 9 3).bind fun r7 =>
      (ss_ai h r7 20 ((a2 * (8 : Int32)) + x3_2)).bind fun v8 =>
      if v6 = v8 then
        (some (x3_2 + (1 : Int32))).bind fun v10 =>
        some (.inl v10)
      else
        some (.inr (.inr ()))
def mm_F_isSameRow (N : Nat) (this : Option Nat) (a1 : Int32) (a2 : Int32) (h : ss_Hp) : Option Int32 :=
  if ss_is h this 9 = true then
    (ss_lp (mm_F_isSameRow_b2 N this a1 a2 h) N (0 : Int32)).bind fun e_2 =>
    match e_2 with
    | (.inl ()) =>
      some (1 : Int32)
    | (.inr ()) =>
      some (0 : Int32)
  else none
abbrev ww_F_isSameRow (p : Program) (l : Launch) (e : Env) (s : State) (m : MethodId) (below : List Frame) (meth : Method) (c : Code) (G : ss_G) (this : Option Nat) (a1 : Int32) (a2 : Int32) (h : ss_Hp) (rr : Int32) (H : Heap) (locs : List Loc) (k n : Nat) (g : JFrame) : Prop := W p l e (headSpec (ss_w yy_F_isSameRow bb_F_isSameRow 4 (some .boolean)) ({ frames := 0, cells := 0, slots := 0, locals := 0 })).room s m ([ss_v (ss_b G) this, .int a1, .int a2] : List Value).toArray below meth c H locs k n (MQ below (ss_Qc G (some (.int rr)) h) ([ss_v (ss_b G) this, .int a1, .int a2] : List Value).toArray s 0 0 (ss_A G)) g
theorem ck_F_isSameRow {N : Nat} {this : Option Nat} {a1 : Int32} {a2 : Int32} {h : ss_Hp} {res : Int32} (hm : mm_F_isSameRow N this a1 a2 h = some res) : ss_is h this 9 = true := (ss_chk hm).1
set_option maxHeartbeats 4000000 in
set_option maxRecDepth 100000 in
theorem cc_F_isSameRow (l : Launch) (G : ss_G) (N : Nat) (this : Option Nat) (a1 : Int32) (a2 : Int32) (h : ss_Hp) (rr : Int32) (hm : mm_F_isSameRow N this a1 a2 h = some rr) : ss_Ct l G yy_F_isSameRow bb_F_isSameRow 4 (some .boolean) ({ frames := 0, cells := 0, slots := 0, locals := 0 }) [ss_v (ss_b G) this, .int a1, .int a2] h (some (.int rr)) h := by
  obtain ⟨hck, hm⟩ := ss_chk hm
  refine Met.ofW (cc := bb_F_isSameRow) (maxL := 4) (ret := (some .boolean)) (by decide) rfl ?_
  intro p e s m args below meth c s₁ B hml hv
  obtain ⟨rfl, hR, hK⟩ := hv
  have hC : CallFix p m c bb_F_isSameRow 4 s _ lw_g sR_9 := ⟨B.exec, B.bytes, hml, findClass_of_methodNamed B.named, fun w hw => atoms_spec (ws := ss_w yy_F_isSameRow bb_F_isSameRow 4 (some .boolean)) B.pre w (List.mem_cons_of_mem _ hw)⟩
  have hx := hC.1
  have hb := hC.2.1
  have hr := B.returns
  have hlocks := B.notSynchronized
  have hS : va_S (ss_A G) s.heap s.heap [] := va_S.rf
  have hl := lv_entry ([ss_v (ss_b G) this, .int a1, .int a2]) (n := 4) (by simp [lg_sl, ss_v_cat, ss_cat_i, ss_cat_l, ss_cat_r])
  rw [lg_entry_eq]
  generalize (lg_sl ([ss_v (ss_b G) this, .int a1, .int a2]) ++ List.replicate (4 - (lg_sl ([ss_v (ss_b G) this, .int a1, .int a2])).length) Slot.unset).toArray = ls at hl ⊢
  have hl : lv_has ls 4 [(0, ss_v (ss_b G) this), (1, .int a1), (2, .int a2)] := by simpa [lv_args, ss_v_cat, ss_cat_i, ss_cat_l, ss_cat_r] using hl
  refine lv_iconst (v := 0) hx hb dd_F_isSameRow_0 (by decide) ?_
  refine lv_istore_n (lv' := [(3, .int (0 : Int32)), (0, ss_v (ss_b G) this), (1, .int a1), (2, .int a2)]) hx hb dd_F_isSameRow_1 rfl hl (by decide) rfl (fun ls hl => ?_)
  obtain ⟨e_2, he_2, hm⟩ := ss_bind hm
  have X_2_49 : ∀  (H : Heap) (locs : List Loc) (ls : Array Slot), e_2 = (.inl ()) → ss_R G h H → va_S (ss_A G) s.heap H locs → lv_has ls 4 [] → ww_F_isSameRow p l e s m below meth c G this a1 a2 h rr  H locs 0 0 (F0 m 49 ls []) := by
    intro  H locs ls hq hR hS hl
    rw [hq] at hm
    refine lv_iconst (v := 1) hx hb dd_F_isSameRow_49 (by decide) ?_
    exact ss_zret hC hr (by decide) hlocks hR hS (ss_with _ hm) dd_F_isSameRow_50
  have X_2_41 : ∀  (H : Heap) (locs : List Loc) (ls : Array Slot), e_2 = (.inr ()) → ss_R G h H → va_S (ss_A G) s.heap H locs → lv_has ls 4 [] → ww_F_isSameRow p l e s m below meth c G this a1 a2 h rr  H locs 0 0 (F0 m 41 ls []) := by
    intro  H locs ls hq hR hS hl
    rw [hq] at hm
    refine lv_iconst (v := 0) hx hb dd_F_isSameRow_41 (by decide) ?_
    exact ss_zret hC hr (by decide) hlocks hR hS (ss_with _ hm) dd_F_isSameRow_42
  have L_2 : ∀ (n : Nat) (x3_2 : Int32) (H : Heap) (locs : List Loc) (ls : Array Slot), ss_lp (mm_F_isSameRow_b2 N this a1 a2 h) n x3_2 = some e_2 → ss_R G h H → va_S (ss_A G) s.heap H locs → lv_has ls 4 [(0, ss_v (ss_b G) this), (1, .int a1), (2, .int a2), (3, .int x3_2)] → ww_F_isSameRow p l e s m below meth c G this a1 a2 h rr  H locs 0 0 (F0 m 2 ls []) := by
    intro n
    induction n with
    | zero => intro x3_2 H locs ls hm; cases hm
    | succ n ih_2 =>
      intro x3_2 H locs ls hm hR hS hl
      obtain ⟨z_2, hm, hz1_2, hz2_2⟩ := ss_lps hm
      refine lv_iload_n hx hb dd_F_isSameRow_2 rfl (lv_at hl 3 rfl) ?_
      refine ss_aload_n hx hb dd_F_isSameRow_3 rfl (lv_at hl 0 rfl) ?_
      obtain ⟨r1, qr1, hm⟩ := ss_bind hm
      refine ss_getr hC hK hR kf_F_19 rfl qr1 dd_F_isSameRow_4 ?_
      obtain ⟨r2, qr2, hm⟩ := ss_bind hm
      refine ss_getr hC hK hR kf_F_77 rfl qr2 dd_F_isSameRow_7 ?_
      obtain ⟨v3, qv3, hm⟩ := ss_bind hm
      refine ss_geti hC hK hR kf_F_81 qv3 dd_F_isSameRow_10 ?_
      refine lv_icmp_ge (tgt := 49) hx hb dd_F_isSameRow_13 (by decide) (fun c4 => ?_) (fun c4 => ?_)
      · have hm := ss_ift hm c4
        exact X_2_49  _ _ _ (hz2_2 _ (ss_some hm)) hR hS (lv_sub hl [] rfl)
      · have hm := ss_iff hm c4
        refine ss_aload_n hx hb dd_F_isSameRow_16 rfl (lv_at hl 0 rfl) ?_
        obtain ⟨r5, qr5, hm⟩ := ss_bind hm
        refine ss_getr hC hK hR kf_F_11 rfl qr5 dd_F_isSameRow_17 ?_
        refine lv_iload_n hx hb dd_F_isSameRow_20 rfl (lv_at hl 1 rfl) ?_
        refine lv_bipush (v := 8) hx hb dd_F_isSameRow_21 (by decide) ?_
        refine lv_imul hx hb dd_F_isSameRow_23 ?_
        refine lv_iload_n hx hb dd_F_isSameRow_24 rfl (lv_at hl 3 rfl) ?_
        refine lv_iadd hx hb dd_F_isSameRow_25 ?_
        obtain ⟨v6, qv6, hm⟩ := ss_bind hm
        refine ss_iald hC hK hR qv6 dd_F_isSameRow_26 ?_
        refine ss_aload_n hx hb dd_F_isSameRow_27 rfl (lv_at hl 0 rfl) ?_
        obtain ⟨r7, qr7, hm⟩ := ss_bind hm
        refine ss_getr hC hK hR kf_F_11 rfl qr7 dd_F_isSameRow_28 ?_
        refine lv_iload_n hx hb dd_F_isSameRow_31 rfl (lv_at hl 2 rfl) ?_
        refine lv_bipush (v := 8) hx hb dd_F_isSameRow_32 (by decide) ?_
        refine lv_imul hx hb dd_F_isSameRow_34 ?_
        refine lv_iload_n hx hb dd_F_isSameRow_35 rfl (lv_at hl 3 rfl) ?_
        refine lv_iadd hx hb dd_F_isSameRow_36 ?_
        obtain ⟨v8, qv8, hm⟩ := ss_bind hm
        refine ss_iald hC hK hR qv8 dd_F_isSameRow_37 ?_
        refine lv_icmp_eq (tgt := 43) hx hb dd_F_isSameRow_38 (by decide) (fun c9 => ?_) (fun c9 => ?_)
        · have hm := ss_ift hm c9
          obtain ⟨v10, qv10, hm⟩ := ss_bind hm
          refine lv_iinc (v := v10) (lv' := [(3, .int v10), (0, ss_v (ss_b G) this), (1, .int a1), (2, .int a2)]) hx hb dd_F_isSameRow_43 hl (k := 3) rfl (ss_inc (by decide) qv10) (by decide) rfl (fun ls hl => ?_)
          refine lv_goto (tgt := 2) hx hb dd_F_isSameRow_46 (by decide) ?_
          exact ih_2 v10  _ _ _ (hz1_2 _ (ss_some hm)) hR hS (lv_sub hl [1, 2, 3, 0] rfl)
        · have hm := ss_iff hm c9
          exact X_2_41  _ _ _ (hz2_2 _ (ss_some hm)) hR hS (lv_sub hl [] rfl)
  exact L_2 N (0 : Int32) _ _ _ he_2 hR hS (lv_sub hl [1, 2, 3, 0] rfl)
theorem dd_F_ringOf_0 : decode bb_F_ringOf 0 = .ok (.aload_n 0, 1) := by decide +kernel
theorem dd_F_ringOf_1 : decode bb_F_ringOf 1 = .ok (.invokevirtual 51, 3) := by decide +kernel
theorem dd_F_ringOf_4 : decode bb_F_ringOf 4 = .ok (.iconst 0, 1) := by decide +kernel
theorem dd_F_ringOf_5 : decode bb_F_ringOf 5 = .ok (.istore_n 2, 1) := by decide +kernel
theorem dd_F_ringOf_6 : decode bb_F_ringOf 6 = .ok (.iload_n 2, 1) := by decide +kernel
theorem dd_F_ringOf_7 : decode bb_F_ringOf 7 = .ok (.bipush 60, 2) := by decide +kernel
theorem dd_F_ringOf_9 : decode bb_F_ringOf 9 = .ok (.if_icmp .gt 41, 3) := by decide +kernel
theorem dd_F_ringOf_12 : decode bb_F_ringOf 12 = .ok (.aload_n 0, 1) := by decide +kernel
theorem dd_F_ringOf_13 : decode bb_F_ringOf 13 = .ok (.getfield 27, 3) := by decide +kernel
theorem dd_F_ringOf_16 : decode bb_F_ringOf 16 = .ok (.getfield 62, 3) := by decide +kernel
theorem dd_F_ringOf_19 : decode bb_F_ringOf 19 = .ok (.getfield 63, 3) := by decide +kernel
theorem dd_F_ringOf_22 : decode bb_F_ringOf 22 = .ok (.iconst 0, 1) := by decide +kernel
theorem dd_F_ringOf_23 : decode bb_F_ringOf 23 = .ok (.aload_n 0, 1) := by decide +kernel
theorem dd_F_ringOf_24 : decode bb_F_ringOf 24 = .ok (.getfield 11, 3) := by decide +kernel
theorem dd_F_ringOf_27 : decode bb_F_ringOf 27 = .ok (.iload_n 2, 1) := by decide +kernel
theorem dd_F_ringOf_28 : decode bb_F_ringOf 28 = .ok (.bipush 8, 2) := by decide +kernel
theorem dd_F_ringOf_30 : decode bb_F_ringOf 30 = .ok (.imul, 1) := by decide +kernel
theorem dd_F_ringOf_31 : decode bb_F_ringOf 31 = .ok (.bipush 8, 2) := by decide +kernel
theorem dd_F_ringOf_33 : decode bb_F_ringOf 33 = .ok (.invokestatic 89, 3) := by decide +kernel
theorem dd_F_ringOf_36 : decode bb_F_ringOf 36 = .ok (.aload_n 0, 1) := by decide +kernel
theorem dd_F_ringOf_37 : decode bb_F_ringOf 37 = .ok (.getfield 27, 3) := by decide +kernel
theorem dd_F_ringOf_40 : decode bb_F_ringOf 40 = .ok (.invokevirtual 54, 3) := by decide +kernel
theorem dd_F_ringOf_43 : decode bb_F_ringOf 43 = .ok (.pop, 1) := by decide +kernel
theorem dd_F_ringOf_44 : decode bb_F_ringOf 44 = .ok (.iinc 2 1, 3) := by decide +kernel
theorem dd_F_ringOf_47 : decode bb_F_ringOf 47 = .ok (.goto (-41), 3) := by decide +kernel
theorem dd_F_ringOf_50 : decode bb_F_ringOf 50 = .ok (.iconst 0, 1) := by decide +kernel
theorem dd_F_ringOf_51 : decode bb_F_ringOf 51 = .ok (.istore_n 2, 1) := by decide +kernel
theorem dd_F_ringOf_52 : decode bb_F_ringOf 52 = .ok (.iload_n 2, 1) := by decide +kernel
theorem dd_F_ringOf_53 : decode bb_F_ringOf 53 = .ok (.bipush 60, 2) := by decide +kernel
theorem dd_F_ringOf_55 : decode bb_F_ringOf 55 = .ok (.if_icmp .ge 57, 3) := by decide +kernel
theorem dd_F_ringOf_58 : decode bb_F_ringOf 58 = .ok (.iload_n 2, 1) := by decide +kernel
theorem dd_F_ringOf_59 : decode bb_F_ringOf 59 = .ok (.iconst 1, 1) := by decide +kernel
theorem dd_F_ringOf_60 : decode bb_F_ringOf 60 = .ok (.iadd, 1) := by decide +kernel
theorem dd_F_ringOf_61 : decode bb_F_ringOf 61 = .ok (.istore_n 3, 1) := by decide +kernel
theorem dd_F_ringOf_62 : decode bb_F_ringOf 62 = .ok (.iload_n 3, 1) := by decide +kernel
theorem dd_F_ringOf_63 : decode bb_F_ringOf 63 = .ok (.bipush 60, 2) := by decide +kernel
theorem dd_F_ringOf_65 : decode bb_F_ringOf 65 = .ok (.if_icmp .gt 41, 3) := by decide +kernel
theorem dd_F_ringOf_68 : decode bb_F_ringOf 68 = .ok (.aload_n 0, 1) := by decide +kernel
theorem dd_F_ringOf_69 : decode bb_F_ringOf 69 = .ok (.iload_n 2, 1) := by decide +kernel
theorem dd_F_ringOf_70 : decode bb_F_ringOf 70 = .ok (.iload_n 3, 1) := by decide +kernel
theorem dd_F_ringOf_71 : decode bb_F_ringOf 71 = .ok (.invokevirtual 95, 3) := by decide +kernel
theorem dd_F_ringOf_74 : decode bb_F_ringOf 74 = .ok (.ifCond .eq 26, 3) := by decide +kernel
theorem dd_F_ringOf_77 : decode bb_F_ringOf 77 = .ok (.iload_n 1, 1) := by decide +kernel
theorem dd_F_ringOf_78 : decode bb_F_ringOf 78 = .ok (.ifCond .eq 9, 3) := by decide +kernel
theorem dd_F_ringOf_81 : decode bb_F_ringOf 81 = .ok (.iload_n 3, 1) := by decide +kernel
theorem dd_F_ringOf_82 : decode bb_F_ringOf 82 = .ok (.iload_n 2, 1) := by decide +kernel
theorem dd_F_ringOf_83 : decode bb_F_ringOf 83 = .ok (.isub, 1) := by decide +kernel
theorem dd_F_ringOf_84 : decode bb_F_ringOf 84 = .ok (.goto 15, 3) := by decide +kernel
theorem dd_F_ringOf_87 : decode bb_F_ringOf 87 = .ok (.aload_n 0, 1) := by decide +kernel
theorem dd_F_ringOf_88 : decode bb_F_ringOf 88 = .ok (.getfield 19, 3) := by decide +kernel
theorem dd_F_ringOf_91 : decode bb_F_ringOf 91 = .ok (.getfield 41, 3) := by decide +kernel
theorem dd_F_ringOf_94 : decode bb_F_ringOf 94 = .ok (.getfield 86, 3) := by decide +kernel
theorem dd_F_ringOf_97 : decode bb_F_ringOf 97 = .ok (.iload_n 2, 1) := by decide +kernel
theorem dd_F_ringOf_98 : decode bb_F_ringOf 98 = .ok (.iadd, 1) := by decide +kernel
theorem dd_F_ringOf_99 : decode bb_F_ringOf 99 = .ok (.ireturn, 1) := by decide +kernel
theorem dd_F_ringOf_100 : decode bb_F_ringOf 100 = .ok (.iinc 3 1, 3) := by decide +kernel
theorem dd_F_ringOf_103 : decode bb_F_ringOf 103 = .ok (.goto (-41), 3) := by decide +kernel
theorem dd_F_ringOf_106 : decode bb_F_ringOf 106 = .ok (.iinc 2 1, 3) := by decide +kernel
theorem dd_F_ringOf_109 : decode bb_F_ringOf 109 = .ok (.goto (-57), 3) := by decide +kernel
theorem dd_F_ringOf_112 : decode bb_F_ringOf 112 = .ok (.bipush (-2), 2) := by decide +kernel
theorem dd_F_ringOf_114 : decode bb_F_ringOf 114 = .ok (.ireturn, 1) := by decide +kernel
def mm_F_ringOf_j99 (N : Nat) (this : Option Nat) (a1 : Int32) (s0_99 : Int32) (h_99 : ss_Hp) : Option (Int32 × ss_Hp) :=
  some (s0_99, h_99)
def mm_F_ringOf_b62 (N : Nat) (this : Option Nat) (a1 : Int32) (x2_52 : Int32) (h_6_50 : ss_Hp) (st : Int32) : Option (Int32 ⊕ (Unit ⊕ Int32)) :=
  match st with
  | x3_62 =>
    if (60 : Int32) < x3_62 then
      some (.inr (.inl ()))
    else
      (mm_F_isSameRow N this x2_52 x3_62 h_6_50).bind fun v10 =>
      if v10 = 0 then
        (some (x3_62 + (1 : Int32))).bind fun v12 =>
        some (.inl v12)
      else
        some (.inr (.inr x3_62))
def mm_F_ringOf_b52 (N : Nat) (this : Option Nat) (a1 : Int32) (h_6_50 : ss_Hp) (st : Int32) : Option (Int32 ⊕ (Unit ⊕ (Int32 × Int32))) :=
  match st with
  | x2_52 =>
    if (60 : Int32) ≤ x2_52 then
      some (.inr (.inl ()))
    else
      (some (x2_52 + (1 : Int32))).bind fun v7 =>
      (ss_lp (mm_F_ringOf_b62 N this a1 x2_52 h_6_50) N v7).bind fun e_62 =>
      match e_62 with
      | (.inl ()) =>
        (some (x2_52 + (1 : Int32))).bind fun v8 =>
        some (.inl v8)
      | (.inr y3_62_77) =>
        some (.inr (.inr (x2_52, y3_62_77)))
def mm_F_ringOf_b6 (N : Nat) (this : Option Nat) (a1 : Int32) (st : Int32 × ss_Hp) : Option ((Int32 × ss_Hp) ⊕ ss_Hp) :=
  match st with
  | (x2_6, h_6) =>
    if (60 : Int32) < x2_6 then
      some (.inr h_6)
    else
      (ss_gr h_6 this 9 2).bind fun r14 =>
      (ss_gr h_6 r14 7 0).bind fun r15 =>
      (ss_gr h_6 r15 0 0).bind fun r16 =>
      (ss_gr h_6 this 9 3).bind fun r17 =>
      (ss_cp h_6 r16 (0 : Int32) r17 (x2_6 * (8 : Int32)) (8 : Int32)).bind fun h18 =>
      (ss_gr h18 this 9 2).bind fun r19 =>
      ss_b2 (mm_Wi_passDay N r19 h18) fun v20 h21 =>
      (some (x2_6 + (1 : Int32))).bind fun v22 =>
      some (.inl (v22, h21))
def mm_F_ringOf (N : Nat) (this : Option Nat) (a1 : Int32) (h : ss_Hp) : Option (Int32 × ss_Hp) :=
  if ss_is h this 9 = true then
    (mm_F_start N this h).bind fun h1 =>
    (ss_lp (mm_F_ringOf_b6 N this a1) N ((0 : Int32), h1)).bind fun h_6_50 =>
    (ss_lp (mm_F_ringOf_b52 N this a1 h_6_50) N (0 : Int32)).bind fun e_52 =>
    match e_52 with
    | (.inl ()) =>
      some ((-2 : Int32), h_6_50)
    | (.inr (y2_52_77, y3_52_77)) =>
      if a1 = 0 then
        (ss_gr h_6_50 this 9 0).bind fun r3 =>
        (ss_gr h_6_50 r3 8 1).bind fun r4 =>
        (ss_gi h_6_50 r4 0 3).bind fun v5 =>
        mm_F_ringOf_j99 N this a1 (v5 + y2_52_77) h_6_50
      else
        mm_F_ringOf_j99 N this a1 (y3_52_77 - y2_52_77) h_6_50
  else none
abbrev ww_F_ringOf (p : Program) (l : Launch) (e : Env) (s : State) (m : MethodId) (below : List Frame) (meth : Method) (c : Code) (G : ss_G) (this : Option Nat) (a1 : Int32) (h : ss_Hp) (rr : Int32) (hh : ss_Hp) (H : Heap) (locs : List Loc) (k n : Nat) (g : JFrame) : Prop := W p l e (headSpec (ss_w yy_F_ringOf bb_F_ringOf 4 (some (.int))) ({ frames := 5, cells := 0, slots := 0, locals := 148 })).room s m ([ss_v (ss_b G) this, .int a1] : List Value).toArray below meth c H locs k n (MQ below (ss_Qc G (some (.int rr)) hh) ([ss_v (ss_b G) this, .int a1] : List Value).toArray s 0 0 (ss_A G)) g
theorem ck_F_ringOf {N : Nat} {this : Option Nat} {a1 : Int32} {h : ss_Hp} {res : Int32 × ss_Hp} (hm : mm_F_ringOf N this a1 h = some res) : ss_is h this 9 = true := (ss_chk hm).1
set_option maxHeartbeats 4000000 in
set_option maxRecDepth 100000 in
theorem cc_F_ringOf (l : Launch) (G : ss_G) (N : Nat) (this : Option Nat) (a1 : Int32) (h : ss_Hp) (rr : Int32) (hh : ss_Hp) (hm : mm_F_ringOf N this a1 h = some (rr, hh)) : ss_Ct l G yy_F_ringOf bb_F_ringOf 4 (some (.int)) ({ frames := 5, cells := 0, slots := 0, locals := 148 }) [ss_v (ss_b G) this, .int a1] h (some (.int rr)) hh := by
  obtain ⟨hck, hm⟩ := ss_chk hm
  refine Met.ofW (cc := bb_F_ringOf) (maxL := 4) (ret := (some (.int))) (by decide) rfl ?_
  intro p e s m args below meth c s₁ B hml hv
  obtain ⟨rfl, hR, hK⟩ := hv
  have hC : CallFix p m c bb_F_ringOf 4 s _ lw_g sR_9 := ⟨B.exec, B.bytes, hml, findClass_of_methodNamed B.named, fun w hw => atoms_spec (ws := ss_w yy_F_ringOf bb_F_ringOf 4 (some (.int))) B.pre w (List.mem_cons_of_mem _ hw)⟩
  have hx := hC.1
  have hb := hC.2.1
  have hr := B.returns
  have hlocks := B.notSynchronized
  have hS : va_S (ss_A G) s.heap s.heap [] := va_S.rf
  have hl := lv_entry ([ss_v (ss_b G) this, .int a1]) (n := 4) (by simp [lg_sl, ss_v_cat, ss_cat_i, ss_cat_l, ss_cat_r])
  rw [lg_entry_eq]
  generalize (lg_sl ([ss_v (ss_b G) this, .int a1]) ++ List.replicate (4 - (lg_sl ([ss_v (ss_b G) this, .int a1])).length) Slot.unset).toArray = ls at hl ⊢
  have hl : lv_has ls 4 [(0, ss_v (ss_b G) this), (1, .int a1)] := by simpa [lv_args, ss_v_cat, ss_cat_i, ss_cat_l, ss_cat_r] using hl
  have J_99 : ∀ (s0_99 : Int32) (h_99 : ss_Hp) (H : Heap) (locs : List Loc) (ls : Array Slot), mm_F_ringOf_j99 N this a1 s0_99 h_99 = some (rr, hh) → ss_R G h_99 H → va_S (ss_A G) s.heap H locs → lv_has ls 4 [] → ww_F_ringOf p l e s m below meth c G this a1 h rr hh  H locs 0 0 (F0 m 99 ls [.int s0_99]) := by
    intro s0_99 h_99 H locs ls hm hR hS hl
    exact ss_iret hC hr hlocks hR hS hm dd_F_ringOf_99
  refine ss_aload_n hx hb dd_F_ringOf_0 rfl (lv_at hl 0 rfl) ?_
  obtain ⟨h1, qh1, hm⟩ := ss_bind hm
  refine ss_cVv 0 0 (As := []) hC hK hR hS hl.1 (cc_F_start l G N _ _ _ qh1) km_F_51 (ck_F_start qh1) ⟨Nat.le_of_ble_eq_true rfl, Nat.le_of_ble_eq_true rfl⟩ ⟨Nat.le_of_ble_eq_true rfl, Nat.le_of_ble_eq_true rfl, Nat.le_of_ble_eq_true rfl, Nat.le_of_ble_eq_true rfl⟩ rfl rfl (Nat.le_of_ble_eq_true rfl) dd_F_ringOf_1 (fun H locs hR hS => ?_)
  refine lv_iconst (v := 0) hx hb dd_F_ringOf_4 (by decide) ?_
  refine lv_istore_n (lv' := [(2, .int (0 : Int32)), (0, ss_v (ss_b G) this), (1, .int a1)]) hx hb dd_F_ringOf_5 rfl hl (by decide) rfl (fun ls hl => ?_)
  obtain ⟨e_6, he_6, hm⟩ := ss_bind hm
  have X_6_50 : ∀  (h_6_50 : ss_Hp) (H : Heap) (locs : List Loc) (ls : Array Slot), e_6 = h_6_50 → ss_R G h_6_50 H → va_S (ss_A G) s.heap H locs → lv_has ls 4 [(0, ss_v (ss_b G) this), (1, .int a1)] → ww_F_ringOf p l e s m below meth c G this a1 h rr hh  H locs 0 0 (F0 m 50 ls []) := by
    intro h_6_50 H locs ls hq hR hS hl
    rw [hq] at hm
    refine lv_iconst (v := 0) hx hb dd_F_ringOf_50 (by decide) ?_
    refine lv_istore_n (lv' := [(2, .int (0 : Int32)), (0, ss_v (ss_b G) this), (1, .int a1)]) hx hb dd_F_ringOf_51 rfl hl (by decide) rfl (fun ls hl => ?_)
    obtain ⟨e_52, he_52, hm⟩ := ss_bind hm
    have X_52_112 : ∀  (H : Heap) (locs : List Loc) (ls : Array Slot), e_52 = (.inl ()) → ss_R G h_6_50 H → va_S (ss_A G) s.heap H locs → lv_has ls 4 [] → ww_F_ringOf p l e s m below meth c G this a1 h rr hh  H locs 0 0 (F0 m 112 ls []) := by
      intro  H locs ls hq hR hS hl
      rw [hq] at hm
      refine lv_bipush (v := -2) hx hb dd_F_ringOf_112 (by decide) ?_
      exact ss_iret hC hr hlocks hR hS hm dd_F_ringOf_114
    have X_52_77 : ∀ (y2_52_77 : Int32) (y3_52_77 : Int32) (H : Heap) (locs : List Loc) (ls : Array Slot), e_52 = (.inr (y2_52_77, y3_52_77)) → ss_R G h_6_50 H → va_S (ss_A G) s.heap H locs → lv_has ls 4 [(0, ss_v (ss_b G) this), (1, .int a1), (2, .int y2_52_77), (3, .int y3_52_77)] → ww_F_ringOf p l e s m below meth c G this a1 h rr hh  H locs 0 0 (F0 m 77 ls []) := by
      intro y2_52_77 y3_52_77 H locs ls hq hR hS hl
      rw [hq] at hm
      refine lv_iload_n hx hb dd_F_ringOf_77 rfl (lv_at hl 1 rfl) ?_
      refine lv_if_eq (tgt := 87) hx hb dd_F_ringOf_78 (by decide) (fun c2 => ?_) (fun c2 => ?_)
      · have hm := ss_ift hm c2
        refine ss_aload_n hx hb dd_F_ringOf_87 rfl (lv_at hl 0 rfl) ?_
        obtain ⟨r3, qr3, hm⟩ := ss_bind hm
        refine ss_getr hC hK hR kf_F_19 rfl qr3 dd_F_ringOf_88 ?_
        obtain ⟨r4, qr4, hm⟩ := ss_bind hm
        refine ss_getr hC hK hR kf_F_41 rfl qr4 dd_F_ringOf_91 ?_
        obtain ⟨v5, qv5, hm⟩ := ss_bind hm
        refine ss_geti hC hK hR kf_F_86 qv5 dd_F_ringOf_94 ?_
        refine lv_iload_n hx hb dd_F_ringOf_97 rfl (lv_at hl 2 rfl) ?_
        refine lv_iadd hx hb dd_F_ringOf_98 ?_
        exact J_99 (v5 + y2_52_77) h_6_50 _ _ _ hm hR hS (lv_sub hl [] rfl)
      · have hm := ss_iff hm c2
        refine lv_iload_n hx hb dd_F_ringOf_81 rfl (lv_at hl 3 rfl) ?_
        refine lv_iload_n hx hb dd_F_ringOf_82 rfl (lv_at hl 2 rfl) ?_
        refine lv_isub hx hb dd_F_ringOf_83 ?_
        refine lv_goto (tgt := 99) hx hb dd_F_ringOf_84 (by decide) ?_
        exact J_99 (y3_52_77 - y2_52_77) h_6_50 _ _ _ hm hR hS (lv_sub hl [] rfl)
    have L_52 : ∀ (n : Nat) (x2_52 : Int32) (H : Heap) (locs : List Loc) (ls : Array Slot), ss_lp (mm_F_ringOf_b52 N this a1 h_6_50) n x2_52 = some e_52 → ss_R G h_6_50 H → va_S (ss_A G) s.heap H locs → lv_has ls 4 [(0, ss_v (ss_b G) this), (1, .int a1), (2, .int x2_52)] → ww_F_ringOf p l e s m below meth c G this a1 h rr hh  H locs 0 0 (F0 m 52 ls []) := by
      intro n
      induction n with
      | zero => intro x2_52 H locs ls hm; cases hm
      | succ n ih_52 =>
        intro x2_52 H locs ls hm hR hS hl
        obtain ⟨z_52, hm, hz1_52, hz2_52⟩ := ss_lps hm
        refine lv_iload_n hx hb dd_F_ringOf_52 rfl (lv_at hl 2 rfl) ?_
        refine lv_bipush (v := 60) hx hb dd_F_ringOf_53 (by decide) ?_
        refine lv_icmp_ge (tgt := 112) hx hb dd_F_ringOf_55 (by decide) (fun c6 => ?_) (fun c6 => ?_)
        · have hm := ss_ift hm c6
          exact X_52_112  _ _ _ (hz2_52 _ (ss_some hm)) hR hS (lv_sub hl [] rfl)
        · have hm := ss_iff hm c6
          refine lv_iload_n hx hb dd_F_ringOf_58 rfl (lv_at hl 2 rfl) ?_
          refine lv_iconst (v := 1) hx hb dd_F_ringOf_59 (by decide) ?_
          refine lv_iadd hx hb dd_F_ringOf_60 ?_
          obtain ⟨v7, qv7, hm⟩ := ss_bind hm
          refine ss_topi qv7 ?_
          refine lv_istore_n (lv' := [(3, .int v7), (0, ss_v (ss_b G) this), (1, .int a1), (2, .int x2_52)]) hx hb dd_F_ringOf_61 rfl hl (by decide) rfl (fun ls hl => ?_)
          obtain ⟨e_62, he_62, hm⟩ := ss_bind hm
          have X_62_106 : ∀  (H : Heap) (locs : List Loc) (ls : Array Slot), e_62 = (.inl ()) → ss_R G h_6_50 H → va_S (ss_A G) s.heap H locs → lv_has ls 4 [(0, ss_v (ss_b G) this), (1, .int a1), (2, .int x2_52)] → ww_F_ringOf p l e s m below meth c G this a1 h rr hh  H locs 0 0 (F0 m 106 ls []) := by
            intro  H locs ls hq hR hS hl
            rw [hq] at hm
            obtain ⟨v8, qv8, hm⟩ := ss_bind hm
            refine lv_iinc (v := v8) (lv' := [(2, .int v8), (0, ss_v (ss_b G) this), (1, .int a1)]) hx hb dd_F_ringOf_106 hl (k := 2) rfl (ss_inc (by decide) qv8) (by decide) rfl (fun ls hl => ?_)
            refine lv_goto (tgt := 52) hx hb dd_F_ringOf_109 (by decide) ?_
            exact ih_52 v8  _ _ _ (hz1_52 _ (ss_some hm)) hR hS (lv_sub hl [1, 2, 0] rfl)
          have X_62_77 : ∀ (y3_62_77 : Int32) (H : Heap) (locs : List Loc) (ls : Array Slot), e_62 = (.inr y3_62_77) → ss_R G h_6_50 H → va_S (ss_A G) s.heap H locs → lv_has ls 4 [(0, ss_v (ss_b G) this), (1, .int a1), (2, .int x2_52), (3, .int y3_62_77)] → ww_F_ringOf p l e s m below meth c G this a1 h rr hh  H locs 0 0 (F0 m 77 ls []) := by
            intro y3_62_77 H locs ls hq hR hS hl
            rw [hq] at hm
            exact X_52_77 x2_52 y3_62_77  _ _ _ (hz2_52 _ (ss_some hm)) hR hS hl
          have L_62 : ∀ (n : Nat) (x3_62 : Int32) (H : Heap) (locs : List Loc) (ls : Array Slot), ss_lp (mm_F_ringOf_b62 N this a1 x2_52 h_6_50) n x3_62 = some e_62 → ss_R G h_6_50 H → va_S (ss_A G) s.heap H locs → lv_has ls 4 [(0, ss_v (ss_b G) this), (1, .int a1), (2, .int x2_52), (3, .int x3_62)] → ww_F_ringOf p l e s m below meth c G this a1 h rr hh  H locs 0 0 (F0 m 62 ls []) := by
            intro n
            induction n with
            | zero => intro x3_62 H locs ls hm; cases hm
            | succ n ih_62 =>
              intro x3_62 H locs ls hm hR hS hl
              obtain ⟨z_62, hm, hz1_62, hz2_62⟩ := ss_lps hm
              refine lv_iload_n hx hb dd_F_ringOf_62 rfl (lv_at hl 3 rfl) ?_
              refine lv_bipush (v := 60) hx hb dd_F_ringOf_63 (by decide) ?_
              refine lv_icmp_gt (tgt := 106) hx hb dd_F_ringOf_65 (by decide) (fun c9 => ?_) (fun c9 => ?_)
              · have hm := ss_ift hm c9
                exact X_62_106  _ _ _ (hz2_62 _ (ss_some hm)) hR hS (lv_sub hl [0, 1, 2] rfl)
              · have hm := ss_iff hm c9
                refine ss_aload_n hx hb dd_F_ringOf_68 rfl (lv_at hl 0 rfl) ?_
                refine lv_iload_n hx hb dd_F_ringOf_69 rfl (lv_at hl 2 rfl) ?_
                refine lv_iload_n hx hb dd_F_ringOf_70 rfl (lv_at hl 3 rfl) ?_
                obtain ⟨v10, qv10, hm⟩ := ss_bind hm
                refine ss_cV 0 0 (As := [.int x2_52, .int x3_62]) hC hK hR hS hl.1 (cc_F_isSameRow l G N _ _ _ _ _ qv10) km_F_95 (ck_F_isSameRow qv10) ⟨Nat.le_of_ble_eq_true rfl, Nat.le_of_ble_eq_true rfl⟩ ⟨Nat.le_of_ble_eq_true rfl, Nat.le_of_ble_eq_true rfl, Nat.le_of_ble_eq_true rfl, Nat.le_of_ble_eq_true rfl⟩ rfl rfl (Nat.le_of_ble_eq_true rfl) dd_F_ringOf_71 (fun H locs hR hS => ?_)
                refine lv_if_eq (tgt := 100) hx hb dd_F_ringOf_74 (by decide) (fun c11 => ?_) (fun c11 => ?_)
                · have hm := ss_ift hm c11
                  obtain ⟨v12, qv12, hm⟩ := ss_bind hm
                  refine lv_iinc (v := v12) (lv' := [(3, .int v12), (0, ss_v (ss_b G) this), (1, .int a1), (2, .int x2_52)]) hx hb dd_F_ringOf_100 hl (k := 3) rfl (ss_inc (by decide) qv12) (by decide) rfl (fun ls hl => ?_)
                  refine lv_goto (tgt := 62) hx hb dd_F_ringOf_103 (by decide) ?_
                  exact ih_62 v12  _ _ _ (hz1_62 _ (ss_some hm)) hR hS (lv_sub hl [1, 2, 3, 0] rfl)
                · have hm := ss_iff hm c11
                  exact X_62_77 x3_62  _ _ _ (hz2_62 _ (ss_some hm)) hR hS hl
          exact L_62 N v7 _ _ _ he_62 hR hS (lv_sub hl [1, 2, 3, 0] rfl)
    exact L_52 N (0 : Int32) _ _ _ he_52 hR hS (lv_sub hl [1, 2, 0] rfl)
  have L_6 : ∀ (n : Nat) (x2_6 : Int32) (h_6 : ss_Hp) (H : Heap) (locs : List Loc) (ls : Array Slot), ss_lp (mm_F_ringOf_b6 N this a1) n (x2_6, h_6) = some e_6 → ss_R G h_6 H → va_S (ss_A G) s.heap H locs → lv_has ls 4 [(0, ss_v (ss_b G) this), (1, .int a1), (2, .int x2_6)] → ww_F_ringOf p l e s m below meth c G this a1 h rr hh  H locs 0 0 (F0 m 6 ls []) := by
    intro n
    induction n with
    | zero => intro x2_6 h_6 H locs ls hm; cases hm
    | succ n ih_6 =>
      intro x2_6 h_6 H locs ls hm hR hS hl
      obtain ⟨z_6, hm, hz1_6, hz2_6⟩ := ss_lps hm
      refine lv_iload_n hx hb dd_F_ringOf_6 rfl (lv_at hl 2 rfl) ?_
      refine lv_bipush (v := 60) hx hb dd_F_ringOf_7 (by decide) ?_
      refine lv_icmp_gt (tgt := 50) hx hb dd_F_ringOf_9 (by decide) (fun c13 => ?_) (fun c13 => ?_)
      · have hm := ss_ift hm c13
        exact X_6_50 h_6 _ _ _ (hz2_6 _ (ss_some hm)) hR hS (lv_sub hl [0, 1] rfl)
      · have hm := ss_iff hm c13
        refine ss_aload_n hx hb dd_F_ringOf_12 rfl (lv_at hl 0 rfl) ?_
        obtain ⟨r14, qr14, hm⟩ := ss_bind hm
        refine ss_getr hC hK hR kf_F_27 rfl qr14 dd_F_ringOf_13 ?_
        obtain ⟨r15, qr15, hm⟩ := ss_bind hm
        refine ss_getr hC hK hR kf_F_62 rfl qr15 dd_F_ringOf_16 ?_
        obtain ⟨r16, qr16, hm⟩ := ss_bind hm
        refine ss_getr hC hK hR kf_F_63 rfl qr16 dd_F_ringOf_19 ?_
        refine lv_iconst (v := 0) hx hb dd_F_ringOf_22 (by decide) ?_
        refine ss_aload_n hx hb dd_F_ringOf_23 rfl (lv_at hl 0 rfl) ?_
        obtain ⟨r17, qr17, hm⟩ := ss_bind hm
        refine ss_getr hC hK hR kf_F_11 rfl qr17 dd_F_ringOf_24 ?_
        refine lv_iload_n hx hb dd_F_ringOf_27 rfl (lv_at hl 2 rfl) ?_
        refine lv_bipush (v := 8) hx hb dd_F_ringOf_28 (by decide) ?_
        refine lv_imul hx hb dd_F_ringOf_30 ?_
        refine lv_bipush (v := 8) hx hb dd_F_ringOf_31 (by decide) ?_
        obtain ⟨h18, qh18, hm⟩ := ss_bind hm
        refine ss_copy hC hK hR hS hl.1 kj_F_89 kj_ac_n kj_ac_s kj_sys qh18 (Nat.le_of_ble_eq_true rfl) (Nat.le_of_ble_eq_true rfl) (by decide) dd_F_ringOf_33 (fun H locs hR hS => ?_)
        refine ss_aload_n hx hb dd_F_ringOf_36 rfl (lv_at hl 0 rfl) ?_
        obtain ⟨r19, qr19, hm⟩ := ss_bind hm
        refine ss_getr hC hK hR kf_F_27 rfl qr19 dd_F_ringOf_37 ?_
        obtain ⟨v20, h21, qh21, hm⟩ := ss_bind2 hm
        refine ss_cV 0 0 (As := []) hC hK hR hS hl.1 (cc_Wi_passDay l G N _ _ _ _ qh21) km_F_54 (ck_Wi_passDay qh21) ⟨Nat.le_of_ble_eq_true rfl, Nat.le_of_ble_eq_true rfl⟩ ⟨Nat.le_of_ble_eq_true rfl, Nat.le_of_ble_eq_true rfl, Nat.le_of_ble_eq_true rfl, Nat.le_of_ble_eq_true rfl⟩ rfl rfl (Nat.le_of_ble_eq_true rfl) dd_F_ringOf_40 (fun H locs hR hS => ?_)
        refine lv_pop hx hb dd_F_ringOf_43 rfl ?_
        obtain ⟨v22, qv22, hm⟩ := ss_bind hm
        refine lv_iinc (v := v22) (lv' := [(2, .int v22), (0, ss_v (ss_b G) this), (1, .int a1)]) hx hb dd_F_ringOf_44 hl (k := 2) rfl (ss_inc (by decide) qv22) (by decide) rfl (fun ls hl => ?_)
        refine lv_goto (tgt := 6) hx hb dd_F_ringOf_47 (by decide) ?_
        exact ih_6 v22 h21 _ _ _ (hz1_6 _ (ss_some hm)) hR hS (lv_sub hl [1, 2, 0] rfl)
  exact L_6 N (0 : Int32) h1 _ _ _ he_6 hR hS (lv_sub hl [1, 2, 0] rfl)
theorem dd_S_ring_0 : decode bb_S_ring 0 = .ok (.aload_n 0, 1) := by decide +kernel
theorem dd_S_ring_1 : decode bb_S_ring 1 = .ok (.getfield 41, 3) := by decide +kernel
theorem dd_S_ring_4 : decode bb_S_ring 4 = .ok (.getfield 58, 3) := by decide +kernel
theorem dd_S_ring_7 : decode bb_S_ring 7 = .ok (.getfield 169, 3) := by decide +kernel
theorem dd_S_ring_10 : decode bb_S_ring 10 = .ok (.ifCond .eq 32, 3) := by decide +kernel
theorem dd_S_ring_13 : decode bb_S_ring 13 = .ok (.iload_n 1, 1) := by decide +kernel
theorem dd_S_ring_14 : decode bb_S_ring 14 = .ok (.iconst 0, 1) := by decide +kernel
theorem dd_S_ring_15 : decode bb_S_ring 15 = .ok (.iconst 1, 1) := by decide +kernel
theorem dd_S_ring_16 : decode bb_S_ring 16 = .ok (.invokestatic 194, 3) := by decide +kernel
theorem dd_S_ring_19 : decode bb_S_ring 19 = .ok (.ifCond .eq 23, 3) := by decide +kernel
theorem dd_S_ring_22 : decode bb_S_ring 22 = .ok (.aload_n 0, 1) := by decide +kernel
theorem dd_S_ring_23 : decode bb_S_ring 23 = .ok (.getfield 74, 3) := by decide +kernel
theorem dd_S_ring_26 : decode bb_S_ring 26 = .ok (.iload_n 1, 1) := by decide +kernel
theorem dd_S_ring_27 : decode bb_S_ring 27 = .ok (.iconst 1, 1) := by decide +kernel
theorem dd_S_ring_28 : decode bb_S_ring 28 = .ok (.if_icmp .ne 7, 3) := by decide +kernel
theorem dd_S_ring_31 : decode bb_S_ring 31 = .ok (.iconst 1, 1) := by decide +kernel
theorem dd_S_ring_32 : decode bb_S_ring 32 = .ok (.goto 4, 3) := by decide +kernel
theorem dd_S_ring_35 : decode bb_S_ring 35 = .ok (.iconst 0, 1) := by decide +kernel
theorem dd_S_ring_36 : decode bb_S_ring 36 = .ok (.invokevirtual 224, 3) := by decide +kernel
theorem dd_S_ring_39 : decode bb_S_ring 39 = .ok (.goto 4, 3) := by decide +kernel
theorem dd_S_ring_42 : decode bb_S_ring 42 = .ok (.iconst (-1), 1) := by decide +kernel
theorem dd_S_ring_43 : decode bb_S_ring 43 = .ok (.ireturn, 1) := by decide +kernel
def mm_S_ring_j43 (N : Nat) (this : Option Nat) (a1 : Int32) (s0_43 : Int32) (h_43 : ss_Hp) : Option (Int32 × ss_Hp) :=
  some (s0_43, h_43)
def mm_S_ring_j36 (N : Nat) (this : Option Nat) (a1 : Int32) (s0_36 : Option Nat) (s1_36 : Int32) (h_36 : ss_Hp) : Option (Int32 × ss_Hp) :=
  ss_b2 (mm_F_ringOf N s0_36 s1_36 h_36) fun v1 h2 =>
  mm_S_ring_j43 N this a1 v1 h2
def mm_S_ring_j42 (N : Nat) (this : Option Nat) (a1 : Int32) (h_42 : ss_Hp) : Option (Int32 × ss_Hp) :=
  mm_S_ring_j43 N this a1 (-1 : Int32) h_42
def mm_S_ring (N : Nat) (this : Option Nat) (a1 : Int32) (h : ss_Hp) : Option (Int32 × ss_Hp) :=
  if ss_is h this 11 = true then
    (ss_gr h this 11 4).bind fun r3 =>
    (ss_gr h r3 8 0).bind fun r4 =>
    (ss_gi h r4 5 0).bind fun v5 =>
    if v5 = 0 then
      mm_S_ring_j42 N this a1 h
    else
      (mm_S_isWithin N a1 (0 : Int32) (1 : Int32)).bind fun v7 =>
      if v7 = 0 then
        mm_S_ring_j42 N this a1 h
      else
        (ss_gr h this 11 8).bind fun r9 =>
        if a1 = (1 : Int32) then
          mm_S_ring_j36 N this a1 r9 (1 : Int32) h
        else
          mm_S_ring_j36 N this a1 r9 (0 : Int32) h
  else none
abbrev ww_S_ring (p : Program) (l : Launch) (e : Env) (s : State) (m : MethodId) (below : List Frame) (meth : Method) (c : Code) (G : ss_G) (this : Option Nat) (a1 : Int32) (h : ss_Hp) (rr : Int32) (hh : ss_Hp) (H : Heap) (locs : List Loc) (k n : Nat) (g : JFrame) : Prop := W p l e (headSpec (ss_w yy_S_ring bb_S_ring 2 (some (.int))) ({ frames := 6, cells := 0, slots := 0, locals := 171 })).room s m ([ss_v (ss_b G) this, .int a1] : List Value).toArray below meth c H locs k n (MQ below (ss_Qc G (some (.int rr)) hh) ([ss_v (ss_b G) this, .int a1] : List Value).toArray s 0 0 (ss_A G)) g
theorem ck_S_ring {N : Nat} {this : Option Nat} {a1 : Int32} {h : ss_Hp} {res : Int32 × ss_Hp} (hm : mm_S_ring N this a1 h = some res) : ss_is h this 11 = true := (ss_chk hm).1
set_option maxHeartbeats 4000000 in
set_option maxRecDepth 100000 in
theorem cc_S_ring (l : Launch) (G : ss_G) (N : Nat) (this : Option Nat) (a1 : Int32) (h : ss_Hp) (rr : Int32) (hh : ss_Hp) (hm : mm_S_ring N this a1 h = some (rr, hh)) : ss_Ct l G yy_S_ring bb_S_ring 2 (some (.int)) ({ frames := 6, cells := 0, slots := 0, locals := 171 }) [ss_v (ss_b G) this, .int a1] h (some (.int rr)) hh := by
  obtain ⟨hck, hm⟩ := ss_chk hm
  refine Met.ofW (cc := bb_S_ring) (maxL := 2) (ret := (some (.int))) (by decide) rfl ?_
  intro p e s m args below meth c s₁ B hml hv
  obtain ⟨rfl, hR, hK⟩ := hv
  have hC : CallFix p m c bb_S_ring 2 s _ lw_g sR_11 := ⟨B.exec, B.bytes, hml, findClass_of_methodNamed B.named, fun w hw => atoms_spec (ws := ss_w yy_S_ring bb_S_ring 2 (some (.int))) B.pre w (List.mem_cons_of_mem _ hw)⟩
  have hx := hC.1
  have hb := hC.2.1
  have hr := B.returns
  have hlocks := B.notSynchronized
  have hS : va_S (ss_A G) s.heap s.heap [] := va_S.rf
  have hl := lv_entry ([ss_v (ss_b G) this, .int a1]) (n := 2) (by simp [lg_sl, ss_v_cat, ss_cat_i, ss_cat_l, ss_cat_r])
  rw [lg_entry_eq]
  generalize (lg_sl ([ss_v (ss_b G) this, .int a1]) ++ List.replicate (2 - (lg_sl ([ss_v (ss_b G) this, .int a1])).length) Slot.unset).toArray = ls at hl ⊢
  have hl : lv_has ls 2 [(0, ss_v (ss_b G) this), (1, .int a1)] := by simpa [lv_args, ss_v_cat, ss_cat_i, ss_cat_l, ss_cat_r] using hl
  have J_43 : ∀ (s0_43 : Int32) (h_43 : ss_Hp) (H : Heap) (locs : List Loc) (ls : Array Slot), mm_S_ring_j43 N this a1 s0_43 h_43 = some (rr, hh) → ss_R G h_43 H → va_S (ss_A G) s.heap H locs → lv_has ls 2 [] → ww_S_ring p l e s m below meth c G this a1 h rr hh  H locs 0 0 (F0 m 43 ls [.int s0_43]) := by
    intro s0_43 h_43 H locs ls hm hR hS hl
    exact ss_iret hC hr hlocks hR hS hm dd_S_ring_43
  have J_36 : ∀ (s0_36 : Option Nat) (s1_36 : Int32) (h_36 : ss_Hp) (H : Heap) (locs : List Loc) (ls : Array Slot), mm_S_ring_j36 N this a1 s0_36 s1_36 h_36 = some (rr, hh) → ss_R G h_36 H → va_S (ss_A G) s.heap H locs → lv_has ls 2 [] → ww_S_ring p l e s m below meth c G this a1 h rr hh  H locs 0 0 (F0 m 36 ls [.int s1_36, ss_v (ss_b G) s0_36]) := by
    intro s0_36 s1_36 h_36 H locs ls hm hR hS hl
    obtain ⟨v1, h2, qh2, hm⟩ := ss_bind2 hm
    refine ss_cV 0 0 (As := [.int s1_36]) hC hK hR hS hl.1 (cc_F_ringOf l G N _ _ _ _ _ qh2) km_S_224 (ck_F_ringOf qh2) ⟨Nat.le_of_ble_eq_true rfl, Nat.le_of_ble_eq_true rfl⟩ ⟨Nat.le_of_ble_eq_true rfl, Nat.le_of_ble_eq_true rfl, Nat.le_of_ble_eq_true rfl, Nat.le_of_ble_eq_true rfl⟩ rfl rfl (Nat.le_of_ble_eq_true rfl) dd_S_ring_36 (fun H locs hR hS => ?_)
    refine lv_goto (tgt := 43) hx hb dd_S_ring_39 (by decide) ?_
    exact J_43 v1 h2 _ _ _ hm hR hS hl
  have J_42 : ∀ (h_42 : ss_Hp) (H : Heap) (locs : List Loc) (ls : Array Slot), mm_S_ring_j42 N this a1 h_42 = some (rr, hh) → ss_R G h_42 H → va_S (ss_A G) s.heap H locs → lv_has ls 2 [] → ww_S_ring p l e s m below meth c G this a1 h rr hh  H locs 0 0 (F0 m 42 ls []) := by
    intro h_42 H locs ls hm hR hS hl
    refine lv_iconst (v := -1) hx hb dd_S_ring_42 (by decide) ?_
    exact J_43 (-1 : Int32) h_42 _ _ _ hm hR hS hl
  refine ss_aload_n hx hb dd_S_ring_0 rfl (lv_at hl 0 rfl) ?_
  obtain ⟨r3, qr3, hm⟩ := ss_bind hm
  refine ss_getr hC hK hR kf_S_41 rfl qr3 dd_S_ring_1 ?_
  obtain ⟨r4, qr4, hm⟩ := ss_bind hm
  refine ss_getr hC hK hR kf_S_58 rfl qr4 dd_S_ring_4 ?_
  obtain ⟨v5, qv5, hm⟩ := ss_bind hm
  refine ss_geti hC hK hR kf_S_169 qv5 dd_S_ring_7 ?_
  refine lv_if_eq (tgt := 42) hx hb dd_S_ring_10 (by decide) (fun c6 => ?_) (fun c6 => ?_)
  · have hm := ss_ift hm c6
    exact J_42 h _ _ _ hm hR hS (lv_sub hl [] rfl)
  · have hm := ss_iff hm c6
    refine lv_iload_n hx hb dd_S_ring_13 rfl (lv_at hl 1 rfl) ?_
    refine lv_iconst (v := 0) hx hb dd_S_ring_14 (by decide) ?_
    refine lv_iconst (v := 1) hx hb dd_S_ring_15 (by decide) ?_
    obtain ⟨v7, qv7, hm⟩ := ss_bind hm
    refine ss_cS 0 0 (As := [.int a1, .int (0 : Int32), .int (1 : Int32)]) hC hK hR hS hl.1 (cc_S_isWithin l G N _ _ _ _ _ qv7) km_S_194 ⟨Nat.le_of_ble_eq_true rfl, Nat.le_of_ble_eq_true rfl⟩ ⟨Nat.le_of_ble_eq_true rfl, Nat.le_of_ble_eq_true rfl, Nat.le_of_ble_eq_true rfl, Nat.le_of_ble_eq_true rfl⟩ rfl rfl (Nat.le_of_ble_eq_true rfl) dd_S_ring_16 (fun H locs hR hS => ?_)
    refine lv_if_eq (tgt := 42) hx hb dd_S_ring_19 (by decide) (fun c8 => ?_) (fun c8 => ?_)
    · have hm := ss_ift hm c8
      exact J_42 h _ _ _ hm hR hS (lv_sub hl [] rfl)
    · have hm := ss_iff hm c8
      refine ss_aload_n hx hb dd_S_ring_22 rfl (lv_at hl 0 rfl) ?_
      obtain ⟨r9, qr9, hm⟩ := ss_bind hm
      refine ss_getr hC hK hR kf_S_74 rfl qr9 dd_S_ring_23 ?_
      refine lv_iload_n hx hb dd_S_ring_26 rfl (lv_at hl 1 rfl) ?_
      refine lv_iconst (v := 1) hx hb dd_S_ring_27 (by decide) ?_
      refine lv_icmp_ne (tgt := 35) hx hb dd_S_ring_28 (by decide) (fun c10 => ?_) (fun c10 => ?_)
      · have hm := ss_iff hm c10
        refine lv_iconst (v := 0) hx hb dd_S_ring_35 (by decide) ?_
        exact J_36 r9 (0 : Int32) h _ _ _ hm hR hS (lv_sub hl [] rfl)
      · have hm := ss_ift hm c10
        refine lv_iconst (v := 1) hx hb dd_S_ring_31 (by decide) ?_
        refine lv_goto (tgt := 36) hx hb dd_S_ring_32 (by decide) ?_
        exact J_36 r9 (1 : Int32) h _ _ _ hm hR hS (lv_sub hl [] rfl)
theorem dd_P_isOpenByNeed_0 : decode bb_P_isOpenByNeed 0 = .ok (.aload_n 0, 1) := by decide +kernel
theorem dd_P_isOpenByNeed_1 : decode bb_P_isOpenByNeed 1 = .ok (.getfield 21, 3) := by decide +kernel
theorem dd_P_isOpenByNeed_4 : decode bb_P_isOpenByNeed 4 = .ok (.getfield 39, 3) := by decide +kernel
theorem dd_P_isOpenByNeed_7 : decode bb_P_isOpenByNeed 7 = .ok (.getfield 45, 3) := by decide +kernel
theorem dd_P_isOpenByNeed_10 : decode bb_P_isOpenByNeed 10 = .ok (.iload_n 1, 1) := by decide +kernel
theorem dd_P_isOpenByNeed_11 : decode bb_P_isOpenByNeed 11 = .ok (.iaload, 1) := by decide +kernel
theorem dd_P_isOpenByNeed_12 : decode bb_P_isOpenByNeed 12 = .ok (.istore 4, 2) := by decide +kernel
theorem dd_P_isOpenByNeed_14 : decode bb_P_isOpenByNeed 14 = .ok (.iconst 0, 1) := by decide +kernel
theorem dd_P_isOpenByNeed_15 : decode bb_P_isOpenByNeed 15 = .ok (.istore 5, 2) := by decide +kernel
theorem dd_P_isOpenByNeed_17 : decode bb_P_isOpenByNeed 17 = .ok (.iload 5, 2) := by decide +kernel
theorem dd_P_isOpenByNeed_19 : decode bb_P_isOpenByNeed 19 = .ok (.iload_n 2, 1) := by decide +kernel
theorem dd_P_isOpenByNeed_20 : decode bb_P_isOpenByNeed 20 = .ok (.if_icmp .ge 95, 3) := by decide +kernel
theorem dd_P_isOpenByNeed_23 : decode bb_P_isOpenByNeed 23 = .ok (.iload_n 3, 1) := by decide +kernel
theorem dd_P_isOpenByNeed_24 : decode bb_P_isOpenByNeed 24 = .ok (.iload 5, 2) := by decide +kernel
theorem dd_P_isOpenByNeed_26 : decode bb_P_isOpenByNeed 26 = .ok (.ishr, 1) := by decide +kernel
theorem dd_P_isOpenByNeed_27 : decode bb_P_isOpenByNeed 27 = .ok (.iconst 1, 1) := by decide +kernel
theorem dd_P_isOpenByNeed_28 : decode bb_P_isOpenByNeed 28 = .ok (.iand, 1) := by decide +kernel
theorem dd_P_isOpenByNeed_29 : decode bb_P_isOpenByNeed 29 = .ok (.iconst 1, 1) := by decide +kernel
theorem dd_P_isOpenByNeed_30 : decode bb_P_isOpenByNeed 30 = .ok (.if_icmp .ne 7, 3) := by decide +kernel
theorem dd_P_isOpenByNeed_33 : decode bb_P_isOpenByNeed 33 = .ok (.iconst 1, 1) := by decide +kernel
theorem dd_P_isOpenByNeed_34 : decode bb_P_isOpenByNeed 34 = .ok (.goto 4, 3) := by decide +kernel
theorem dd_P_isOpenByNeed_37 : decode bb_P_isOpenByNeed 37 = .ok (.iconst 0, 1) := by decide +kernel
theorem dd_P_isOpenByNeed_38 : decode bb_P_isOpenByNeed 38 = .ok (.istore 6, 2) := by decide +kernel
theorem dd_P_isOpenByNeed_40 : decode bb_P_isOpenByNeed 40 = .ok (.iload 6, 2) := by decide +kernel
theorem dd_P_isOpenByNeed_42 : decode bb_P_isOpenByNeed 42 = .ok (.ifCond .eq 6, 3) := by decide +kernel
theorem dd_P_isOpenByNeed_45 : decode bb_P_isOpenByNeed 45 = .ok (.iconst 0, 1) := by decide +kernel
theorem dd_P_isOpenByNeed_46 : decode bb_P_isOpenByNeed 46 = .ok (.istore 4, 2) := by decide +kernel
theorem dd_P_isOpenByNeed_48 : decode bb_P_isOpenByNeed 48 = .ok (.iload 4, 2) := by decide +kernel
theorem dd_P_isOpenByNeed_50 : decode bb_P_isOpenByNeed 50 = .ok (.aload_n 0, 1) := by decide +kernel
theorem dd_P_isOpenByNeed_51 : decode bb_P_isOpenByNeed 51 = .ok (.getfield 21, 3) := by decide +kernel
theorem dd_P_isOpenByNeed_54 : decode bb_P_isOpenByNeed 54 = .ok (.getfield 50, 3) := by decide +kernel
theorem dd_P_isOpenByNeed_57 : decode bb_P_isOpenByNeed 57 = .ok (.getfield 54, 3) := by decide +kernel
theorem dd_P_isOpenByNeed_60 : decode bb_P_isOpenByNeed 60 = .ok (.if_icmp .lt 32, 3) := by decide +kernel
theorem dd_P_isOpenByNeed_63 : decode bb_P_isOpenByNeed 63 = .ok (.aload_n 0, 1) := by decide +kernel
theorem dd_P_isOpenByNeed_64 : decode bb_P_isOpenByNeed 64 = .ok (.getfield 21, 3) := by decide +kernel
theorem dd_P_isOpenByNeed_67 : decode bb_P_isOpenByNeed 67 = .ok (.getfield 50, 3) := by decide +kernel
theorem dd_P_isOpenByNeed_70 : decode bb_P_isOpenByNeed 70 = .ok (.iload_n 1, 1) := by decide +kernel
theorem dd_P_isOpenByNeed_71 : decode bb_P_isOpenByNeed 71 = .ok (.aload_n 0, 1) := by decide +kernel
theorem dd_P_isOpenByNeed_72 : decode bb_P_isOpenByNeed 72 = .ok (.getfield 21, 3) := by decide +kernel
theorem dd_P_isOpenByNeed_75 : decode bb_P_isOpenByNeed 75 = .ok (.getfield 39, 3) := by decide +kernel
theorem dd_P_isOpenByNeed_78 : decode bb_P_isOpenByNeed 78 = .ok (.getfield 60, 3) := by decide +kernel
theorem dd_P_isOpenByNeed_81 : decode bb_P_isOpenByNeed 81 = .ok (.iload 5, 2) := by decide +kernel
theorem dd_P_isOpenByNeed_83 : decode bb_P_isOpenByNeed 83 = .ok (.iadd, 1) := by decide +kernel
theorem dd_P_isOpenByNeed_84 : decode bb_P_isOpenByNeed 84 = .ok (.invokevirtual 63, 3) := by decide +kernel
theorem dd_P_isOpenByNeed_87 : decode bb_P_isOpenByNeed 87 = .ok (.ifCond .eq 5, 3) := by decide +kernel
theorem dd_P_isOpenByNeed_90 : decode bb_P_isOpenByNeed 90 = .ok (.iconst 0, 1) := by decide +kernel
theorem dd_P_isOpenByNeed_91 : decode bb_P_isOpenByNeed 91 = .ok (.ireturn, 1) := by decide +kernel
theorem dd_P_isOpenByNeed_92 : decode bb_P_isOpenByNeed 92 = .ok (.iload 6, 2) := by decide +kernel
theorem dd_P_isOpenByNeed_94 : decode bb_P_isOpenByNeed 94 = .ok (.ifCond .eq 15, 3) := by decide +kernel
theorem dd_P_isOpenByNeed_97 : decode bb_P_isOpenByNeed 97 = .ok (.aload_n 0, 1) := by decide +kernel
theorem dd_P_isOpenByNeed_98 : decode bb_P_isOpenByNeed 98 = .ok (.getfield 21, 3) := by decide +kernel
theorem dd_P_isOpenByNeed_101 : decode bb_P_isOpenByNeed 101 = .ok (.getfield 50, 3) := by decide +kernel
theorem dd_P_isOpenByNeed_104 : decode bb_P_isOpenByNeed 104 = .ok (.getfield 67, 3) := by decide +kernel
theorem dd_P_isOpenByNeed_107 : decode bb_P_isOpenByNeed 107 = .ok (.istore 4, 2) := by decide +kernel
theorem dd_P_isOpenByNeed_109 : decode bb_P_isOpenByNeed 109 = .ok (.iinc 5 1, 3) := by decide +kernel
theorem dd_P_isOpenByNeed_112 : decode bb_P_isOpenByNeed 112 = .ok (.goto (-95), 3) := by decide +kernel
theorem dd_P_isOpenByNeed_115 : decode bb_P_isOpenByNeed 115 = .ok (.iconst 1, 1) := by decide +kernel
theorem dd_P_isOpenByNeed_116 : decode bb_P_isOpenByNeed 116 = .ok (.ireturn, 1) := by decide +kernel
def mm_P_isOpenByNeed_j109 (N : Nat) (this : Option Nat) (a1 : Int32) (a2 : Int32) (a3 : Int32) (h : ss_Hp) (x4_109 : Int32) (x5_109 : Int32) : Option ((Int32 × Int32) ⊕ (Unit ⊕ Unit)) :=
  (some (x5_109 + (1 : Int32))).bind fun v5 =>
  some (.inl (x4_109, v5))
def mm_P_isOpenByNeed_j92 (N : Nat) (this : Option Nat) (a1 : Int32) (a2 : Int32) (a3 : Int32) (h : ss_Hp) (x4_92 : Int32) (x5_92 : Int32) (x6_92 : Int32) : Option ((Int32 × Int32) ⊕ (Unit ⊕ Unit)) :=
  if x6_92 = 0 then
    mm_P_isOpenByNeed_j109 N this a1 a2 a3 h x4_92 x5_92
  else
    (ss_gr h this 10 0).bind fun r7 =>
    (ss_gr h r7 8 0).bind fun r8 =>
    (ss_gi h r8 5 1).bind fun v9 =>
    mm_P_isOpenByNeed_j109 N this a1 a2 a3 h v9 x5_92
def mm_P_isOpenByNeed_j48 (N : Nat) (this : Option Nat) (a1 : Int32) (a2 : Int32) (a3 : Int32) (h : ss_Hp) (x4_48 : Int32) (x5_48 : Int32) (x6_48 : Int32) : Option ((Int32 × Int32) ⊕ (Unit ⊕ Unit)) :=
  (ss_gr h this 10 0).bind fun r10 =>
  (ss_gr h r10 8 0).bind fun r11 =>
  (ss_gi h r11 5 2).bind fun v12 =>
  if x4_48 < v12 then
    mm_P_isOpenByNeed_j92 N this a1 a2 a3 h x4_48 x5_48 x6_48
  else
    (ss_gr h this 10 0).bind fun r14 =>
    (ss_gr h r14 8 0).bind fun r15 =>
    (ss_gr h this 10 0).bind fun r16 =>
    (ss_gr h r16 8 1).bind fun r17 =>
    (ss_gi h r17 0 3).bind fun v18 =>
    (mm_V_isNeeded N r15 a1 (v18 + x5_48) h).bind fun v19 =>
    if v19 = 0 then
      mm_P_isOpenByNeed_j92 N this a1 a2 a3 h x4_48 x5_48 x6_48
    else
      some (.inr (.inr ()))
def mm_P_isOpenByNeed_j38 (N : Nat) (this : Option Nat) (a1 : Int32) (a2 : Int32) (a3 : Int32) (h : ss_Hp) (x4_38 : Int32) (x5_38 : Int32) (s0_38 : Int32) : Option ((Int32 × Int32) ⊕ (Unit ⊕ Unit)) :=
  if s0_38 = 0 then
    mm_P_isOpenByNeed_j48 N this a1 a2 a3 h x4_38 x5_38 s0_38
  else
    mm_P_isOpenByNeed_j48 N this a1 a2 a3 h (0 : Int32) x5_38 s0_38
def mm_P_isOpenByNeed_b17 (N : Nat) (this : Option Nat) (a1 : Int32) (a2 : Int32) (a3 : Int32) (h : ss_Hp) (st : Int32 × Int32) : Option ((Int32 × Int32) ⊕ (Unit ⊕ Unit)) :=
  match st with
  | (x4_17, x5_17) =>
    if a2 ≤ x5_17 then
      some (.inr (.inl ()))
    else
      if ((a3 >>> (x5_17 &&& 31)) &&& (1 : Int32)) = (1 : Int32) then
        mm_P_isOpenByNeed_j38 N this a1 a2 a3 h x4_17 x5_17 (1 : Int32)
      else
        mm_P_isOpenByNeed_j38 N this a1 a2 a3 h x4_17 x5_17 (0 : Int32)
def mm_P_isOpenByNeed (N : Nat) (this : Option Nat) (a1 : Int32) (a2 : Int32) (a3 : Int32) (h : ss_Hp) : Option Int32 :=
  if ss_is h this 10 = true then
    (ss_gr h this 10 0).bind fun r1 =>
    (ss_gr h r1 8 1).bind fun r2 =>
    (ss_gr h r2 0 0).bind fun r3 =>
    (ss_ai h r3 20 a1).bind fun v4 =>
    (ss_lp (mm_P_isOpenByNeed_b17 N this a1 a2 a3 h) N (v4, (0 : Int32))).bind fun e_17 =>
    match e_17 with
    | (.inl ()) =>
      some (1 : Int32)
    | (.inr ()) =>
      some (0 : Int32)
  else none
abbrev ww_P_isOpenByNeed (p : Program) (l : Launch) (e : Env) (s : State) (m : MethodId) (below : List Frame) (meth : Method) (c : Code) (G : ss_G) (this : Option Nat) (a1 : Int32) (a2 : Int32) (a3 : Int32) (h : ss_Hp) (rr : Int32) (H : Heap) (locs : List Loc) (k n : Nat) (g : JFrame) : Prop := W p l e (headSpec (ss_w yy_P_isOpenByNeed bb_P_isOpenByNeed 7 (some .boolean)) ({ frames := 1, cells := 0, slots := 0, locals := 22 })).room s m ([ss_v (ss_b G) this, .int a1, .int a2, .int a3] : List Value).toArray below meth c H locs k n (MQ below (ss_Qc G (some (.int rr)) h) ([ss_v (ss_b G) this, .int a1, .int a2, .int a3] : List Value).toArray s 0 0 (ss_A G)) g
theorem ck_P_isOpenByNeed {N : Nat} {this : Option Nat} {a1 : Int32} {a2 : Int32} {a3 : Int32} {h : ss_Hp} {res : Int32} (hm : mm_P_isOpenByNeed N this a1 a2 a3 h = some res) : ss_is h this 10 = true := (ss_chk hm).1
set_option maxHeartbeats 4000000 in
set_option maxRecDepth 100000 in
theorem cc_P_isOpenByNeed (l : Launch) (G : ss_G) (N : Nat) (this : Option Nat) (a1 : Int32) (a2 : Int32) (a3 : Int32) (h : ss_Hp) (rr : Int32) (hm : mm_P_isOpenByNeed N this a1 a2 a3 h = some rr) : ss_Ct l G yy_P_isOpenByNeed bb_P_isOpenByNeed 7 (some .boolean) ({ frames := 1, cells := 0, slots := 0, locals := 22 }) [ss_v (ss_b G) this, .int a1, .int a2, .int a3] h (some (.int rr)) h := by
  obtain ⟨hck, hm⟩ := ss_chk hm
  refine Met.ofW (cc := bb_P_isOpenByNeed) (maxL := 7) (ret := (some .boolean)) (by decide) rfl ?_
  intro p e s m args below meth c s₁ B hml hv
  obtain ⟨rfl, hR, hK⟩ := hv
  have hC : CallFix p m c bb_P_isOpenByNeed 7 s _ lw_g sR_10 := ⟨B.exec, B.bytes, hml, findClass_of_methodNamed B.named, fun w hw => atoms_spec (ws := ss_w yy_P_isOpenByNeed bb_P_isOpenByNeed 7 (some .boolean)) B.pre w (List.mem_cons_of_mem _ hw)⟩
  have hx := hC.1
  have hb := hC.2.1
  have hr := B.returns
  have hlocks := B.notSynchronized
  have hS : va_S (ss_A G) s.heap s.heap [] := va_S.rf
  have hl := lv_entry ([ss_v (ss_b G) this, .int a1, .int a2, .int a3]) (n := 7) (by simp [lg_sl, ss_v_cat, ss_cat_i, ss_cat_l, ss_cat_r])
  rw [lg_entry_eq]
  generalize (lg_sl ([ss_v (ss_b G) this, .int a1, .int a2, .int a3]) ++ List.replicate (7 - (lg_sl ([ss_v (ss_b G) this, .int a1, .int a2, .int a3])).length) Slot.unset).toArray = ls at hl ⊢
  have hl : lv_has ls 7 [(0, ss_v (ss_b G) this), (1, .int a1), (2, .int a2), (3, .int a3)] := by simpa [lv_args, ss_v_cat, ss_cat_i, ss_cat_l, ss_cat_r] using hl
  refine ss_aload_n hx hb dd_P_isOpenByNeed_0 rfl (lv_at hl 0 rfl) ?_
  obtain ⟨r1, qr1, hm⟩ := ss_bind hm
  refine ss_getr hC hK hR kf_P_21 rfl qr1 dd_P_isOpenByNeed_1 ?_
  obtain ⟨r2, qr2, hm⟩ := ss_bind hm
  refine ss_getr hC hK hR kf_P_39 rfl qr2 dd_P_isOpenByNeed_4 ?_
  obtain ⟨r3, qr3, hm⟩ := ss_bind hm
  refine ss_getr hC hK hR kf_P_45 rfl qr3 dd_P_isOpenByNeed_7 ?_
  refine lv_iload_n hx hb dd_P_isOpenByNeed_10 rfl (lv_at hl 1 rfl) ?_
  obtain ⟨v4, qv4, hm⟩ := ss_bind hm
  refine ss_iald hC hK hR qv4 dd_P_isOpenByNeed_11 ?_
  refine lv_istore (lv' := [(4, .int v4), (0, ss_v (ss_b G) this), (1, .int a1), (2, .int a2), (3, .int a3)]) hx hb dd_P_isOpenByNeed_12 hl (by decide) rfl (fun ls hl => ?_)
  refine lv_iconst (v := 0) hx hb dd_P_isOpenByNeed_14 (by decide) ?_
  refine lv_istore (lv' := [(5, .int (0 : Int32)), (4, .int v4), (0, ss_v (ss_b G) this), (1, .int a1), (2, .int a2), (3, .int a3)]) hx hb dd_P_isOpenByNeed_15 hl (by decide) rfl (fun ls hl => ?_)
  obtain ⟨e_17, he_17, hm⟩ := ss_bind hm
  have X_17_115 : ∀  (H : Heap) (locs : List Loc) (ls : Array Slot), e_17 = (.inl ()) → ss_R G h H → va_S (ss_A G) s.heap H locs → lv_has ls 7 [] → ww_P_isOpenByNeed p l e s m below meth c G this a1 a2 a3 h rr  H locs 0 0 (F0 m 115 ls []) := by
    intro  H locs ls hq hR hS hl
    rw [hq] at hm
    refine lv_iconst (v := 1) hx hb dd_P_isOpenByNeed_115 (by decide) ?_
    exact ss_zret hC hr (by decide) hlocks hR hS (ss_with _ hm) dd_P_isOpenByNeed_116
  have X_17_90 : ∀  (H : Heap) (locs : List Loc) (ls : Array Slot), e_17 = (.inr ()) → ss_R G h H → va_S (ss_A G) s.heap H locs → lv_has ls 7 [] → ww_P_isOpenByNeed p l e s m below meth c G this a1 a2 a3 h rr  H locs 0 0 (F0 m 90 ls []) := by
    intro  H locs ls hq hR hS hl
    rw [hq] at hm
    refine lv_iconst (v := 0) hx hb dd_P_isOpenByNeed_90 (by decide) ?_
    exact ss_zret hC hr (by decide) hlocks hR hS (ss_with _ hm) dd_P_isOpenByNeed_91
  have L_17 : ∀ (n : Nat) (x4_17 : Int32) (x5_17 : Int32) (H : Heap) (locs : List Loc) (ls : Array Slot), ss_lp (mm_P_isOpenByNeed_b17 N this a1 a2 a3 h) n (x4_17, x5_17) = some e_17 → ss_R G h H → va_S (ss_A G) s.heap H locs → lv_has ls 7 [(0, ss_v (ss_b G) this), (1, .int a1), (2, .int a2), (3, .int a3), (4, .int x4_17), (5, .int x5_17)] → ww_P_isOpenByNeed p l e s m below meth c G this a1 a2 a3 h rr  H locs 0 0 (F0 m 17 ls []) := by
    intro n
    induction n with
    | zero => intro x4_17 x5_17 H locs ls hm; cases hm
    | succ n ih_17 =>
      intro x4_17 x5_17 H locs ls hm hR hS hl
      obtain ⟨z_17, hm, hz1_17, hz2_17⟩ := ss_lps hm
      have J_109 : ∀ (x4_109 : Int32) (x5_109 : Int32) (H : Heap) (locs : List Loc) (ls : Array Slot), mm_P_isOpenByNeed_j109 N this a1 a2 a3 h x4_109 x5_109 = some z_17 → ss_R G h H → va_S (ss_A G) s.heap H locs → lv_has ls 7 [(0, ss_v (ss_b G) this), (1, .int a1), (2, .int a2), (3, .int a3), (4, .int x4_109), (5, .int x5_109)] → ww_P_isOpenByNeed p l e s m below meth c G this a1 a2 a3 h rr  H locs 0 0 (F0 m 109 ls []) := by
        intro x4_109 x5_109 H locs ls hm hR hS hl
        obtain ⟨v5, qv5, hm⟩ := ss_bind hm
        refine lv_iinc (v := v5) (lv' := [(5, .int v5), (0, ss_v (ss_b G) this), (1, .int a1), (2, .int a2), (3, .int a3), (4, .int x4_109)]) hx hb dd_P_isOpenByNeed_109 hl (k := 5) rfl (ss_inc (by decide) qv5) (by decide) rfl (fun ls hl => ?_)
        refine lv_goto (tgt := 17) hx hb dd_P_isOpenByNeed_112 (by decide) ?_
        exact ih_17 x4_109 v5  _ _ _ (hz1_17 _ (ss_some hm)) hR hS (lv_sub hl [1, 2, 3, 4, 5, 0] rfl)
      have J_92 : ∀ (x4_92 : Int32) (x5_92 : Int32) (x6_92 : Int32) (H : Heap) (locs : List Loc) (ls : Array Slot), mm_P_isOpenByNeed_j92 N this a1 a2 a3 h x4_92 x5_92 x6_92 = some z_17 → ss_R G h H → va_S (ss_A G) s.heap H locs → lv_has ls 7 [(0, ss_v (ss_b G) this), (1, .int a1), (2, .int a2), (3, .int a3), (4, .int x4_92), (5, .int x5_92), (6, .int x6_92)] → ww_P_isOpenByNeed p l e s m below meth c G this a1 a2 a3 h rr  H locs 0 0 (F0 m 92 ls []) := by
        intro x4_92 x5_92 x6_92 H locs ls hm hR hS hl
        refine lv_iload hx hb dd_P_isOpenByNeed_92 (lv_at hl 6 rfl) ?_
        refine lv_if_eq (tgt := 109) hx hb dd_P_isOpenByNeed_94 (by decide) (fun c6 => ?_) (fun c6 => ?_)
        · have hm := ss_ift hm c6
          exact J_109 x4_92 x5_92  _ _ _ hm hR hS (lv_sub hl [0, 1, 2, 3, 4, 5] rfl)
        · have hm := ss_iff hm c6
          refine ss_aload_n hx hb dd_P_isOpenByNeed_97 rfl (lv_at hl 0 rfl) ?_
          obtain ⟨r7, qr7, hm⟩ := ss_bind hm
          refine ss_getr hC hK hR kf_P_21 rfl qr7 dd_P_isOpenByNeed_98 ?_
          obtain ⟨r8, qr8, hm⟩ := ss_bind hm
          refine ss_getr hC hK hR kf_P_50 rfl qr8 dd_P_isOpenByNeed_101 ?_
          obtain ⟨v9, qv9, hm⟩ := ss_bind hm
          refine ss_geti hC hK hR kf_P_67 qv9 dd_P_isOpenByNeed_104 ?_
          refine lv_istore (lv' := [(4, .int v9), (0, ss_v (ss_b G) this), (1, .int a1), (2, .int a2), (3, .int a3), (5, .int x5_92), (6, .int x6_92)]) hx hb dd_P_isOpenByNeed_107 hl (by decide) rfl (fun ls hl => ?_)
          exact J_109 v9 x5_92  _ _ _ hm hR hS (lv_sub hl [1, 2, 3, 4, 0, 5] rfl)
      have J_48 : ∀ (x4_48 : Int32) (x5_48 : Int32) (x6_48 : Int32) (H : Heap) (locs : List Loc) (ls : Array Slot), mm_P_isOpenByNeed_j48 N this a1 a2 a3 h x4_48 x5_48 x6_48 = some z_17 → ss_R G h H → va_S (ss_A G) s.heap H locs → lv_has ls 7 [(0, ss_v (ss_b G) this), (1, .int a1), (2, .int a2), (3, .int a3), (4, .int x4_48), (5, .int x5_48), (6, .int x6_48)] → ww_P_isOpenByNeed p l e s m below meth c G this a1 a2 a3 h rr  H locs 0 0 (F0 m 48 ls []) := by
        intro x4_48 x5_48 x6_48 H locs ls hm hR hS hl
        refine lv_iload hx hb dd_P_isOpenByNeed_48 (lv_at hl 4 rfl) ?_
        refine ss_aload_n hx hb dd_P_isOpenByNeed_50 rfl (lv_at hl 0 rfl) ?_
        obtain ⟨r10, qr10, hm⟩ := ss_bind hm
        refine ss_getr hC hK hR kf_P_21 rfl qr10 dd_P_isOpenByNeed_51 ?_
        obtain ⟨r11, qr11, hm⟩ := ss_bind hm
        refine ss_getr hC hK hR kf_P_50 rfl qr11 dd_P_isOpenByNeed_54 ?_
        obtain ⟨v12, qv12, hm⟩ := ss_bind hm
        refine ss_geti hC hK hR kf_P_54 qv12 dd_P_isOpenByNeed_57 ?_
        refine lv_icmp_lt (tgt := 92) hx hb dd_P_isOpenByNeed_60 (by decide) (fun c13 => ?_) (fun c13 => ?_)
        · have hm := ss_ift hm c13
          exact J_92 x4_48 x5_48 x6_48  _ _ _ hm hR hS hl
        · have hm := ss_iff hm c13
          refine ss_aload_n hx hb dd_P_isOpenByNeed_63 rfl (lv_at hl 0 rfl) ?_
          obtain ⟨r14, qr14, hm⟩ := ss_bind hm
          refine ss_getr hC hK hR kf_P_21 rfl qr14 dd_P_isOpenByNeed_64 ?_
          obtain ⟨r15, qr15, hm⟩ := ss_bind hm
          refine ss_getr hC hK hR kf_P_50 rfl qr15 dd_P_isOpenByNeed_67 ?_
          refine lv_iload_n hx hb dd_P_isOpenByNeed_70 rfl (lv_at hl 1 rfl) ?_
          refine ss_aload_n hx hb dd_P_isOpenByNeed_71 rfl (lv_at hl 0 rfl) ?_
          obtain ⟨r16, qr16, hm⟩ := ss_bind hm
          refine ss_getr hC hK hR kf_P_21 rfl qr16 dd_P_isOpenByNeed_72 ?_
          obtain ⟨r17, qr17, hm⟩ := ss_bind hm
          refine ss_getr hC hK hR kf_P_39 rfl qr17 dd_P_isOpenByNeed_75 ?_
          obtain ⟨v18, qv18, hm⟩ := ss_bind hm
          refine ss_geti hC hK hR kf_P_60 qv18 dd_P_isOpenByNeed_78 ?_
          refine lv_iload hx hb dd_P_isOpenByNeed_81 (lv_at hl 5 rfl) ?_
          refine lv_iadd hx hb dd_P_isOpenByNeed_83 ?_
          obtain ⟨v19, qv19, hm⟩ := ss_bind hm
          refine ss_cV 0 0 (As := [.int a1, .int (v18 + x5_48)]) hC hK hR hS hl.1 (cc_V_isNeeded l G N _ _ _ _ _ qv19) km_P_63 (ck_V_isNeeded qv19) ⟨Nat.le_of_ble_eq_true rfl, Nat.le_of_ble_eq_true rfl⟩ ⟨Nat.le_of_ble_eq_true rfl, Nat.le_of_ble_eq_true rfl, Nat.le_of_ble_eq_true rfl, Nat.le_of_ble_eq_true rfl⟩ rfl rfl (Nat.le_of_ble_eq_true rfl) dd_P_isOpenByNeed_84 (fun H locs hR hS => ?_)
          refine lv_if_eq (tgt := 92) hx hb dd_P_isOpenByNeed_87 (by decide) (fun c20 => ?_) (fun c20 => ?_)
          · have hm := ss_ift hm c20
            exact J_92 x4_48 x5_48 x6_48  _ _ _ hm hR hS hl
          · have hm := ss_iff hm c20
            exact X_17_90  _ _ _ (hz2_17 _ (ss_some hm)) hR hS (lv_sub hl [] rfl)
      have J_38 : ∀ (x4_38 : Int32) (x5_38 : Int32) (s0_38 : Int32) (H : Heap) (locs : List Loc) (ls : Array Slot), mm_P_isOpenByNeed_j38 N this a1 a2 a3 h x4_38 x5_38 s0_38 = some z_17 → ss_R G h H → va_S (ss_A G) s.heap H locs → lv_has ls 7 [(0, ss_v (ss_b G) this), (1, .int a1), (2, .int a2), (3, .int a3), (4, .int x4_38), (5, .int x5_38)] → ww_P_isOpenByNeed p l e s m below meth c G this a1 a2 a3 h rr  H locs 0 0 (F0 m 38 ls [.int s0_38]) := by
        intro x4_38 x5_38 s0_38 H locs ls hm hR hS hl
        refine lv_istore (lv' := [(6, .int s0_38), (0, ss_v (ss_b G) this), (1, .int a1), (2, .int a2), (3, .int a3), (4, .int x4_38), (5, .int x5_38)]) hx hb dd_P_isOpenByNeed_38 hl (by decide) rfl (fun ls hl => ?_)
        refine lv_iload hx hb dd_P_isOpenByNeed_40 (lv_at hl 0 rfl) ?_
        refine lv_if_eq (tgt := 48) hx hb dd_P_isOpenByNeed_42 (by decide) (fun c21 => ?_) (fun c21 => ?_)
        · have hm := ss_ift hm c21
          exact J_48 x4_38 x5_38 s0_38  _ _ _ hm hR hS (lv_sub hl [1, 2, 3, 4, 5, 6, 0] rfl)
        · have hm := ss_iff hm c21
          refine lv_iconst (v := 0) hx hb dd_P_isOpenByNeed_45 (by decide) ?_
          refine lv_istore (lv' := [(4, .int (0 : Int32)), (6, .int s0_38), (0, ss_v (ss_b G) this), (1, .int a1), (2, .int a2), (3, .int a3), (5, .int x5_38)]) hx hb dd_P_isOpenByNeed_46 hl (by decide) rfl (fun ls hl => ?_)
          exact J_48 (0 : Int32) x5_38 s0_38  _ _ _ hm hR hS (lv_sub hl [2, 3, 4, 5, 0, 6, 1] rfl)
      refine lv_iload hx hb dd_P_isOpenByNeed_17 (lv_at hl 5 rfl) ?_
      refine lv_iload_n hx hb dd_P_isOpenByNeed_19 rfl (lv_at hl 2 rfl) ?_
      refine lv_icmp_ge (tgt := 115) hx hb dd_P_isOpenByNeed_20 (by decide) (fun c22 => ?_) (fun c22 => ?_)
      · have hm := ss_ift hm c22
        exact X_17_115  _ _ _ (hz2_17 _ (ss_some hm)) hR hS (lv_sub hl [] rfl)
      · have hm := ss_iff hm c22
        refine lv_iload_n hx hb dd_P_isOpenByNeed_23 rfl (lv_at hl 3 rfl) ?_
        refine lv_iload hx hb dd_P_isOpenByNeed_24 (lv_at hl 5 rfl) ?_
        refine lv_ishr hx hb dd_P_isOpenByNeed_26 ?_
        refine lv_iconst (v := 1) hx hb dd_P_isOpenByNeed_27 (by decide) ?_
        refine lv_iand hx hb dd_P_isOpenByNeed_28 ?_
        refine lv_iconst (v := 1) hx hb dd_P_isOpenByNeed_29 (by decide) ?_
        refine lv_icmp_ne (tgt := 37) hx hb dd_P_isOpenByNeed_30 (by decide) (fun c23 => ?_) (fun c23 => ?_)
        · have hm := ss_iff hm c23
          refine lv_iconst (v := 0) hx hb dd_P_isOpenByNeed_37 (by decide) ?_
          exact J_38 x4_17 x5_17 (0 : Int32)  _ _ _ hm hR hS hl
        · have hm := ss_ift hm c23
          refine lv_iconst (v := 1) hx hb dd_P_isOpenByNeed_33 (by decide) ?_
          refine lv_goto (tgt := 38) hx hb dd_P_isOpenByNeed_34 (by decide) ?_
          exact J_38 x4_17 x5_17 (1 : Int32)  _ _ _ hm hR hS hl
  exact L_17 N v4 (0 : Int32) _ _ _ he_17 hR hS (lv_sub hl [2, 3, 4, 5, 1, 0] rfl)
theorem dd_P_fewestSweepings_0 : decode bb_P_fewestSweepings 0 = .ok (.iconst 1, 1) := by decide +kernel
theorem dd_P_fewestSweepings_1 : decode bb_P_fewestSweepings 1 = .ok (.iload_n 2, 1) := by decide +kernel
theorem dd_P_fewestSweepings_2 : decode bb_P_fewestSweepings 2 = .ok (.ishl, 1) := by decide +kernel
theorem dd_P_fewestSweepings_3 : decode bb_P_fewestSweepings 3 = .ok (.iconst 1, 1) := by decide +kernel
theorem dd_P_fewestSweepings_4 : decode bb_P_fewestSweepings 4 = .ok (.isub, 1) := by decide +kernel
theorem dd_P_fewestSweepings_5 : decode bb_P_fewestSweepings 5 = .ok (.istore_n 3, 1) := by decide +kernel
theorem dd_P_fewestSweepings_6 : decode bb_P_fewestSweepings 6 = .ok (.iconst 0, 1) := by decide +kernel
theorem dd_P_fewestSweepings_7 : decode bb_P_fewestSweepings 7 = .ok (.istore 4, 2) := by decide +kernel
theorem dd_P_fewestSweepings_9 : decode bb_P_fewestSweepings 9 = .ok (.iload 4, 2) := by decide +kernel
theorem dd_P_fewestSweepings_11 : decode bb_P_fewestSweepings 11 = .ok (.iconst 1, 1) := by decide +kernel
theorem dd_P_fewestSweepings_12 : decode bb_P_fewestSweepings 12 = .ok (.iload_n 2, 1) := by decide +kernel
theorem dd_P_fewestSweepings_13 : decode bb_P_fewestSweepings 13 = .ok (.ishl, 1) := by decide +kernel
theorem dd_P_fewestSweepings_14 : decode bb_P_fewestSweepings 14 = .ok (.if_icmp .ge 35, 3) := by decide +kernel
theorem dd_P_fewestSweepings_17 : decode bb_P_fewestSweepings 17 = .ok (.iload 4, 2) := by decide +kernel
theorem dd_P_fewestSweepings_19 : decode bb_P_fewestSweepings 19 = .ok (.invokestatic 29, 3) := by decide +kernel
theorem dd_P_fewestSweepings_22 : decode bb_P_fewestSweepings 22 = .ok (.iload_n 3, 1) := by decide +kernel
theorem dd_P_fewestSweepings_23 : decode bb_P_fewestSweepings 23 = .ok (.invokestatic 29, 3) := by decide +kernel
theorem dd_P_fewestSweepings_26 : decode bb_P_fewestSweepings 26 = .ok (.if_icmp .ge 17, 3) := by decide +kernel
theorem dd_P_fewestSweepings_29 : decode bb_P_fewestSweepings 29 = .ok (.aload_n 0, 1) := by decide +kernel
theorem dd_P_fewestSweepings_30 : decode bb_P_fewestSweepings 30 = .ok (.iload_n 1, 1) := by decide +kernel
theorem dd_P_fewestSweepings_31 : decode bb_P_fewestSweepings 31 = .ok (.iload_n 2, 1) := by decide +kernel
theorem dd_P_fewestSweepings_32 : decode bb_P_fewestSweepings 32 = .ok (.iload 4, 2) := by decide +kernel
theorem dd_P_fewestSweepings_34 : decode bb_P_fewestSweepings 34 = .ok (.invokevirtual 35, 3) := by decide +kernel
theorem dd_P_fewestSweepings_37 : decode bb_P_fewestSweepings 37 = .ok (.ifCond .eq 6, 3) := by decide +kernel
theorem dd_P_fewestSweepings_40 : decode bb_P_fewestSweepings 40 = .ok (.iload 4, 2) := by decide +kernel
theorem dd_P_fewestSweepings_42 : decode bb_P_fewestSweepings 42 = .ok (.istore_n 3, 1) := by decide +kernel
theorem dd_P_fewestSweepings_43 : decode bb_P_fewestSweepings 43 = .ok (.iinc 4 1, 3) := by decide +kernel
theorem dd_P_fewestSweepings_46 : decode bb_P_fewestSweepings 46 = .ok (.goto (-37), 3) := by decide +kernel
theorem dd_P_fewestSweepings_49 : decode bb_P_fewestSweepings 49 = .ok (.iload_n 3, 1) := by decide +kernel
theorem dd_P_fewestSweepings_50 : decode bb_P_fewestSweepings 50 = .ok (.ireturn, 1) := by decide +kernel
def mm_P_fewestSweepings_j43 (N : Nat) (this : Option Nat) (a1 : Int32) (a2 : Int32) (h : ss_Hp) (x3_43 : Int32) (x4_43 : Int32) : Option ((Int32 × Int32) ⊕ Int32) :=
  (some (x4_43 + (1 : Int32))).bind fun v2 =>
  some (.inl (x3_43, v2))
def mm_P_fewestSweepings_b9 (N : Nat) (this : Option Nat) (a1 : Int32) (a2 : Int32) (h : ss_Hp) (st : Int32 × Int32) : Option ((Int32 × Int32) ⊕ Int32) :=
  match st with
  | (x3_9, x4_9) =>
    if ((1 : Int32) <<< (a2 &&& 31)) ≤ x4_9 then
      some (.inr x3_9)
    else
      (mm_JI_bitCount N x4_9).bind fun v4 =>
      (mm_JI_bitCount N x3_9).bind fun v5 =>
      if v5 ≤ v4 then
        mm_P_fewestSweepings_j43 N this a1 a2 h x3_9 x4_9
      else
        (mm_P_isOpenByNeed N this a1 a2 x4_9 h).bind fun v7 =>
        if v7 = 0 then
          mm_P_fewestSweepings_j43 N this a1 a2 h x3_9 x4_9
        else
          mm_P_fewestSweepings_j43 N this a1 a2 h x4_9 x4_9
def mm_P_fewestSweepings (N : Nat) (this : Option Nat) (a1 : Int32) (a2 : Int32) (h : ss_Hp) : Option Int32 :=
  if ss_is h this 10 = true then
    (some (((1 : Int32) <<< (a2 &&& 31)) - (1 : Int32))).bind fun v1 =>
    (ss_lp (mm_P_fewestSweepings_b9 N this a1 a2 h) N (v1, (0 : Int32))).bind fun y3_9_49 =>
    some y3_9_49
  else none
abbrev ww_P_fewestSweepings (p : Program) (l : Launch) (e : Env) (s : State) (m : MethodId) (below : List Frame) (meth : Method) (c : Code) (G : ss_G) (this : Option Nat) (a1 : Int32) (a2 : Int32) (h : ss_Hp) (rr : Int32) (H : Heap) (locs : List Loc) (k n : Nat) (g : JFrame) : Prop := W p l e (headSpec (ss_w yy_P_fewestSweepings bb_P_fewestSweepings 5 (some (.int))) ({ frames := 2, cells := 0, slots := 0, locals := 48 })).room s m ([ss_v (ss_b G) this, .int a1, .int a2] : List Value).toArray below meth c H locs k n (MQ below (ss_Qc G (some (.int rr)) h) ([ss_v (ss_b G) this, .int a1, .int a2] : List Value).toArray s 0 0 (ss_A G)) g
theorem ck_P_fewestSweepings {N : Nat} {this : Option Nat} {a1 : Int32} {a2 : Int32} {h : ss_Hp} {res : Int32} (hm : mm_P_fewestSweepings N this a1 a2 h = some res) : ss_is h this 10 = true := (ss_chk hm).1
set_option maxHeartbeats 4000000 in
set_option maxRecDepth 100000 in
theorem cc_P_fewestSweepings (l : Launch) (G : ss_G) (N : Nat) (this : Option Nat) (a1 : Int32) (a2 : Int32) (h : ss_Hp) (rr : Int32) (hm : mm_P_fewestSweepings N this a1 a2 h = some rr) : ss_Ct l G yy_P_fewestSweepings bb_P_fewestSweepings 5 (some (.int)) ({ frames := 2, cells := 0, slots := 0, locals := 48 }) [ss_v (ss_b G) this, .int a1, .int a2] h (some (.int rr)) h := by
  obtain ⟨hck, hm⟩ := ss_chk hm
  refine Met.ofW (cc := bb_P_fewestSweepings) (maxL := 5) (ret := (some (.int))) (by decide) rfl ?_
  intro p e s m args below meth c s₁ B hml hv
  obtain ⟨rfl, hR, hK⟩ := hv
  have hC : CallFix p m c bb_P_fewestSweepings 5 s _ lw_g sR_10 := ⟨B.exec, B.bytes, hml, findClass_of_methodNamed B.named, fun w hw => atoms_spec (ws := ss_w yy_P_fewestSweepings bb_P_fewestSweepings 5 (some (.int))) B.pre w (List.mem_cons_of_mem _ hw)⟩
  have hx := hC.1
  have hb := hC.2.1
  have hr := B.returns
  have hlocks := B.notSynchronized
  have hS : va_S (ss_A G) s.heap s.heap [] := va_S.rf
  have hl := lv_entry ([ss_v (ss_b G) this, .int a1, .int a2]) (n := 5) (by simp [lg_sl, ss_v_cat, ss_cat_i, ss_cat_l, ss_cat_r])
  rw [lg_entry_eq]
  generalize (lg_sl ([ss_v (ss_b G) this, .int a1, .int a2]) ++ List.replicate (5 - (lg_sl ([ss_v (ss_b G) this, .int a1, .int a2])).length) Slot.unset).toArray = ls at hl ⊢
  have hl : lv_has ls 5 [(0, ss_v (ss_b G) this), (1, .int a1), (2, .int a2)] := by simpa [lv_args, ss_v_cat, ss_cat_i, ss_cat_l, ss_cat_r] using hl
  refine lv_iconst (v := 1) hx hb dd_P_fewestSweepings_0 (by decide) ?_
  refine lv_iload_n hx hb dd_P_fewestSweepings_1 rfl (lv_at hl 2 rfl) ?_
  refine lv_ishl hx hb dd_P_fewestSweepings_2 ?_
  refine lv_iconst (v := 1) hx hb dd_P_fewestSweepings_3 (by decide) ?_
  refine lv_isub hx hb dd_P_fewestSweepings_4 ?_
  obtain ⟨v1, qv1, hm⟩ := ss_bind hm
  refine ss_topi qv1 ?_
  refine lv_istore_n (lv' := [(3, .int v1), (0, ss_v (ss_b G) this), (1, .int a1), (2, .int a2)]) hx hb dd_P_fewestSweepings_5 rfl hl (by decide) rfl (fun ls hl => ?_)
  refine lv_iconst (v := 0) hx hb dd_P_fewestSweepings_6 (by decide) ?_
  refine lv_istore (lv' := [(4, .int (0 : Int32)), (3, .int v1), (0, ss_v (ss_b G) this), (1, .int a1), (2, .int a2)]) hx hb dd_P_fewestSweepings_7 hl (by decide) rfl (fun ls hl => ?_)
  obtain ⟨e_9, he_9, hm⟩ := ss_bind hm
  have X_9_49 : ∀ (y3_9_49 : Int32) (H : Heap) (locs : List Loc) (ls : Array Slot), e_9 = y3_9_49 → ss_R G h H → va_S (ss_A G) s.heap H locs → lv_has ls 5 [(3, .int y3_9_49)] → ww_P_fewestSweepings p l e s m below meth c G this a1 a2 h rr  H locs 0 0 (F0 m 49 ls []) := by
    intro y3_9_49 H locs ls hq hR hS hl
    rw [hq] at hm
    refine lv_iload_n hx hb dd_P_fewestSweepings_49 rfl (lv_at hl 0 rfl) ?_
    exact ss_iret hC hr hlocks hR hS (ss_with _ hm) dd_P_fewestSweepings_50
  have L_9 : ∀ (n : Nat) (x3_9 : Int32) (x4_9 : Int32) (H : Heap) (locs : List Loc) (ls : Array Slot), ss_lp (mm_P_fewestSweepings_b9 N this a1 a2 h) n (x3_9, x4_9) = some e_9 → ss_R G h H → va_S (ss_A G) s.heap H locs → lv_has ls 5 [(0, ss_v (ss_b G) this), (1, .int a1), (2, .int a2), (3, .int x3_9), (4, .int x4_9)] → ww_P_fewestSweepings p l e s m below meth c G this a1 a2 h rr  H locs 0 0 (F0 m 9 ls []) := by
    intro n
    induction n with
    | zero => intro x3_9 x4_9 H locs ls hm; cases hm
    | succ n ih_9 =>
      intro x3_9 x4_9 H locs ls hm hR hS hl
      obtain ⟨z_9, hm, hz1_9, hz2_9⟩ := ss_lps hm
      have J_43 : ∀ (x3_43 : Int32) (x4_43 : Int32) (H : Heap) (locs : List Loc) (ls : Array Slot), mm_P_fewestSweepings_j43 N this a1 a2 h x3_43 x4_43 = some z_9 → ss_R G h H → va_S (ss_A G) s.heap H locs → lv_has ls 5 [(0, ss_v (ss_b G) this), (1, .int a1), (2, .int a2), (3, .int x3_43), (4, .int x4_43)] → ww_P_fewestSweepings p l e s m below meth c G this a1 a2 h rr  H locs 0 0 (F0 m 43 ls []) := by
        intro x3_43 x4_43 H locs ls hm hR hS hl
        obtain ⟨v2, qv2, hm⟩ := ss_bind hm
        refine lv_iinc (v := v2) (lv' := [(4, .int v2), (0, ss_v (ss_b G) this), (1, .int a1), (2, .int a2), (3, .int x3_43)]) hx hb dd_P_fewestSweepings_43 hl (k := 4) rfl (ss_inc (by decide) qv2) (by decide) rfl (fun ls hl => ?_)
        refine lv_goto (tgt := 9) hx hb dd_P_fewestSweepings_46 (by decide) ?_
        exact ih_9 x3_43 v2  _ _ _ (hz1_9 _ (ss_some hm)) hR hS (lv_sub hl [1, 2, 3, 4, 0] rfl)
      refine lv_iload hx hb dd_P_fewestSweepings_9 (lv_at hl 4 rfl) ?_
      refine lv_iconst (v := 1) hx hb dd_P_fewestSweepings_11 (by decide) ?_
      refine lv_iload_n hx hb dd_P_fewestSweepings_12 rfl (lv_at hl 2 rfl) ?_
      refine lv_ishl hx hb dd_P_fewestSweepings_13 ?_
      refine lv_icmp_ge (tgt := 49) hx hb dd_P_fewestSweepings_14 (by decide) (fun c3 => ?_) (fun c3 => ?_)
      · have hm := ss_ift hm c3
        exact X_9_49 x3_9  _ _ _ (hz2_9 _ (ss_some hm)) hR hS (lv_sub hl [3] rfl)
      · have hm := ss_iff hm c3
        refine lv_iload hx hb dd_P_fewestSweepings_17 (lv_at hl 4 rfl) ?_
        obtain ⟨v4, qv4, hm⟩ := ss_bind hm
        refine ss_cS 0 0 (As := [.int x4_9]) hC hK hR hS hl.1 (cc_JI_bitCount l G N _ _ _ qv4) km_P_29 ⟨Nat.le_of_ble_eq_true rfl, Nat.le_of_ble_eq_true rfl⟩ ⟨Nat.le_of_ble_eq_true rfl, Nat.le_of_ble_eq_true rfl, Nat.le_of_ble_eq_true rfl, Nat.le_of_ble_eq_true rfl⟩ rfl rfl (Nat.le_of_ble_eq_true rfl) dd_P_fewestSweepings_19 (fun H locs hR hS => ?_)
        refine lv_iload_n hx hb dd_P_fewestSweepings_22 rfl (lv_at hl 3 rfl) ?_
        obtain ⟨v5, qv5, hm⟩ := ss_bind hm
        refine ss_cS 0 0 (As := [.int x3_9]) hC hK hR hS hl.1 (cc_JI_bitCount l G N _ _ _ qv5) km_P_29 ⟨Nat.le_of_ble_eq_true rfl, Nat.le_of_ble_eq_true rfl⟩ ⟨Nat.le_of_ble_eq_true rfl, Nat.le_of_ble_eq_true rfl, Nat.le_of_ble_eq_true rfl, Nat.le_of_ble_eq_true rfl⟩ rfl rfl (Nat.le_of_ble_eq_true rfl) dd_P_fewestSweepings_23 (fun H locs hR hS => ?_)
        refine lv_icmp_ge (tgt := 43) hx hb dd_P_fewestSweepings_26 (by decide) (fun c6 => ?_) (fun c6 => ?_)
        · have hm := ss_ift hm c6
          exact J_43 x3_9 x4_9  _ _ _ hm hR hS hl
        · have hm := ss_iff hm c6
          refine ss_aload_n hx hb dd_P_fewestSweepings_29 rfl (lv_at hl 0 rfl) ?_
          refine lv_iload_n hx hb dd_P_fewestSweepings_30 rfl (lv_at hl 1 rfl) ?_
          refine lv_iload_n hx hb dd_P_fewestSweepings_31 rfl (lv_at hl 2 rfl) ?_
          refine lv_iload hx hb dd_P_fewestSweepings_32 (lv_at hl 4 rfl) ?_
          obtain ⟨v7, qv7, hm⟩ := ss_bind hm
          refine ss_cV 0 0 (As := [.int a1, .int a2, .int x4_9]) hC hK hR hS hl.1 (cc_P_isOpenByNeed l G N _ _ _ _ _ _ qv7) km_P_35 (ck_P_isOpenByNeed qv7) ⟨Nat.le_of_ble_eq_true rfl, Nat.le_of_ble_eq_true rfl⟩ ⟨Nat.le_of_ble_eq_true rfl, Nat.le_of_ble_eq_true rfl, Nat.le_of_ble_eq_true rfl, Nat.le_of_ble_eq_true rfl⟩ rfl rfl (Nat.le_of_ble_eq_true rfl) dd_P_fewestSweepings_34 (fun H locs hR hS => ?_)
          refine lv_if_eq (tgt := 43) hx hb dd_P_fewestSweepings_37 (by decide) (fun c8 => ?_) (fun c8 => ?_)
          · have hm := ss_ift hm c8
            exact J_43 x3_9 x4_9  _ _ _ hm hR hS hl
          · have hm := ss_iff hm c8
            refine lv_iload hx hb dd_P_fewestSweepings_40 (lv_at hl 4 rfl) ?_
            refine lv_istore_n (lv' := [(3, .int x4_9), (0, ss_v (ss_b G) this), (1, .int a1), (2, .int a2), (4, .int x4_9)]) hx hb dd_P_fewestSweepings_42 rfl hl (by decide) rfl (fun ls hl => ?_)
            exact J_43 x4_9 x4_9  _ _ _ hm hR hS (lv_sub hl [1, 2, 3, 0, 4] rfl)
  exact L_9 N v1 (0 : Int32) _ _ _ he_9 hR hS (lv_sub hl [2, 3, 4, 1, 0] rfl)
theorem dd_S_spare_0 : decode bb_S_spare 0 = .ok (.aload_n 0, 1) := by decide +kernel
theorem dd_S_spare_1 : decode bb_S_spare 1 = .ok (.iload_n 1, 1) := by decide +kernel
theorem dd_S_spare_2 : decode bb_S_spare 2 = .ok (.invokevirtual 123, 3) := by decide +kernel
theorem dd_S_spare_5 : decode bb_S_spare 5 = .ok (.ifCond .eq 22, 3) := by decide +kernel
theorem dd_S_spare_8 : decode bb_S_spare 8 = .ok (.iload_n 2, 1) := by decide +kernel
theorem dd_S_spare_9 : decode bb_S_spare 9 = .ok (.iconst 1, 1) := by decide +kernel
theorem dd_S_spare_10 : decode bb_S_spare 10 = .ok (.bipush 10, 2) := by decide +kernel
theorem dd_S_spare_12 : decode bb_S_spare 12 = .ok (.invokestatic 194, 3) := by decide +kernel
theorem dd_S_spare_15 : decode bb_S_spare 15 = .ok (.ifCond .eq 12, 3) := by decide +kernel
theorem dd_S_spare_18 : decode bb_S_spare 18 = .ok (.iload_n 3, 1) := by decide +kernel
theorem dd_S_spare_19 : decode bb_S_spare 19 = .ok (.iconst 0, 1) := by decide +kernel
theorem dd_S_spare_20 : decode bb_S_spare 20 = .ok (.iconst 1, 1) := by decide +kernel
theorem dd_S_spare_21 : decode bb_S_spare 21 = .ok (.invokestatic 194, 3) := by decide +kernel
theorem dd_S_spare_24 : decode bb_S_spare 24 = .ok (.ifCond .ne 5, 3) := by decide +kernel
theorem dd_S_spare_27 : decode bb_S_spare 27 = .ok (.iconst (-1), 1) := by decide +kernel
theorem dd_S_spare_28 : decode bb_S_spare 28 = .ok (.ireturn, 1) := by decide +kernel
theorem dd_S_spare_29 : decode bb_S_spare 29 = .ok (.aload_n 0, 1) := by decide +kernel
theorem dd_S_spare_30 : decode bb_S_spare 30 = .ok (.getfield 83, 3) := by decide +kernel
theorem dd_S_spare_33 : decode bb_S_spare 33 = .ok (.iload_n 1, 1) := by decide +kernel
theorem dd_S_spare_34 : decode bb_S_spare 34 = .ok (.iload_n 2, 1) := by decide +kernel
theorem dd_S_spare_35 : decode bb_S_spare 35 = .ok (.invokevirtual 228, 3) := by decide +kernel
theorem dd_S_spare_38 : decode bb_S_spare 38 = .ok (.istore 4, 2) := by decide +kernel
theorem dd_S_spare_40 : decode bb_S_spare 40 = .ok (.iload_n 3, 1) := by decide +kernel
theorem dd_S_spare_41 : decode bb_S_spare 41 = .ok (.ifCond .ne 11, 3) := by decide +kernel
theorem dd_S_spare_44 : decode bb_S_spare 44 = .ok (.iload 4, 2) := by decide +kernel
theorem dd_S_spare_46 : decode bb_S_spare 46 = .ok (.invokestatic 231, 3) := by decide +kernel
theorem dd_S_spare_49 : decode bb_S_spare 49 = .ok (.goto 5, 3) := by decide +kernel
theorem dd_S_spare_52 : decode bb_S_spare 52 = .ok (.iload 4, 2) := by decide +kernel
theorem dd_S_spare_54 : decode bb_S_spare 54 = .ok (.ireturn, 1) := by decide +kernel
def mm_S_spare_j27 (N : Nat) (this : Option Nat) (a1 : Int32) (a2 : Int32) (a3 : Int32) (h : ss_Hp) : Option Int32 :=
  some (-1 : Int32)
def mm_S_spare_j54 (N : Nat) (this : Option Nat) (a1 : Int32) (a2 : Int32) (a3 : Int32) (h : ss_Hp) (s0_54 : Int32) : Option Int32 :=
  some s0_54
def mm_S_spare (N : Nat) (this : Option Nat) (a1 : Int32) (a2 : Int32) (a3 : Int32) (h : ss_Hp) : Option Int32 :=
  if ss_is h this 11 = true then
    (mm_S_isStep N this a1 h).bind fun v1 =>
    if v1 = 0 then
      mm_S_spare_j27 N this a1 a2 a3 h
    else
      (mm_S_isWithin N a2 (1 : Int32) (10 : Int32)).bind fun v3 =>
      if v3 = 0 then
        mm_S_spare_j27 N this a1 a2 a3 h
      else
        (mm_S_isWithin N a3 (0 : Int32) (1 : Int32)).bind fun v5 =>
        if v5 = 0 then
          mm_S_spare_j27 N this a1 a2 a3 h
        else
          (ss_gr h this 11 9).bind fun r7 =>
          (mm_P_fewestSweepings N r7 a1 a2 h).bind fun v8 =>
          if a3 = 0 then
            (mm_JI_bitCount N v8).bind fun v10 =>
            mm_S_spare_j54 N this a1 a2 a3 h v10
          else
            mm_S_spare_j54 N this a1 a2 a3 h v8
  else none
abbrev ww_S_spare (p : Program) (l : Launch) (e : Env) (s : State) (m : MethodId) (below : List Frame) (meth : Method) (c : Code) (G : ss_G) (this : Option Nat) (a1 : Int32) (a2 : Int32) (a3 : Int32) (h : ss_Hp) (rr : Int32) (H : Heap) (locs : List Loc) (k n : Nat) (g : JFrame) : Prop := W p l e (headSpec (ss_w yy_S_spare bb_S_spare 5 (some (.int))) ({ frames := 3, cells := 0, slots := 0, locals := 72 })).room s m ([ss_v (ss_b G) this, .int a1, .int a2, .int a3] : List Value).toArray below meth c H locs k n (MQ below (ss_Qc G (some (.int rr)) h) ([ss_v (ss_b G) this, .int a1, .int a2, .int a3] : List Value).toArray s 0 0 (ss_A G)) g
theorem ck_S_spare {N : Nat} {this : Option Nat} {a1 : Int32} {a2 : Int32} {a3 : Int32} {h : ss_Hp} {res : Int32} (hm : mm_S_spare N this a1 a2 a3 h = some res) : ss_is h this 11 = true := (ss_chk hm).1
set_option maxHeartbeats 4000000 in
set_option maxRecDepth 100000 in
theorem cc_S_spare (l : Launch) (G : ss_G) (N : Nat) (this : Option Nat) (a1 : Int32) (a2 : Int32) (a3 : Int32) (h : ss_Hp) (rr : Int32) (hm : mm_S_spare N this a1 a2 a3 h = some rr) : ss_Ct l G yy_S_spare bb_S_spare 5 (some (.int)) ({ frames := 3, cells := 0, slots := 0, locals := 72 }) [ss_v (ss_b G) this, .int a1, .int a2, .int a3] h (some (.int rr)) h := by
  obtain ⟨hck, hm⟩ := ss_chk hm
  refine Met.ofW (cc := bb_S_spare) (maxL := 5) (ret := (some (.int))) (by decide) rfl ?_
  intro p e s m args below meth c s₁ B hml hv
  obtain ⟨rfl, hR, hK⟩ := hv
  have hC : CallFix p m c bb_S_spare 5 s _ lw_g sR_11 := ⟨B.exec, B.bytes, hml, findClass_of_methodNamed B.named, fun w hw => atoms_spec (ws := ss_w yy_S_spare bb_S_spare 5 (some (.int))) B.pre w (List.mem_cons_of_mem _ hw)⟩
  have hx := hC.1
  have hb := hC.2.1
  have hr := B.returns
  have hlocks := B.notSynchronized
  have hS : va_S (ss_A G) s.heap s.heap [] := va_S.rf
  have hl := lv_entry ([ss_v (ss_b G) this, .int a1, .int a2, .int a3]) (n := 5) (by simp [lg_sl, ss_v_cat, ss_cat_i, ss_cat_l, ss_cat_r])
  rw [lg_entry_eq]
  generalize (lg_sl ([ss_v (ss_b G) this, .int a1, .int a2, .int a3]) ++ List.replicate (5 - (lg_sl ([ss_v (ss_b G) this, .int a1, .int a2, .int a3])).length) Slot.unset).toArray = ls at hl ⊢
  have hl : lv_has ls 5 [(0, ss_v (ss_b G) this), (1, .int a1), (2, .int a2), (3, .int a3)] := by simpa [lv_args, ss_v_cat, ss_cat_i, ss_cat_l, ss_cat_r] using hl
  have J_27 : ∀  (H : Heap) (locs : List Loc) (ls : Array Slot), mm_S_spare_j27 N this a1 a2 a3 h = some rr → ss_R G h H → va_S (ss_A G) s.heap H locs → lv_has ls 5 [] → ww_S_spare p l e s m below meth c G this a1 a2 a3 h rr  H locs 0 0 (F0 m 27 ls []) := by
    intro  H locs ls hm hR hS hl
    refine lv_iconst (v := -1) hx hb dd_S_spare_27 (by decide) ?_
    exact ss_iret hC hr hlocks hR hS (ss_with _ hm) dd_S_spare_28
  have J_54 : ∀ (s0_54 : Int32) (H : Heap) (locs : List Loc) (ls : Array Slot), mm_S_spare_j54 N this a1 a2 a3 h s0_54 = some rr → ss_R G h H → va_S (ss_A G) s.heap H locs → lv_has ls 5 [] → ww_S_spare p l e s m below meth c G this a1 a2 a3 h rr  H locs 0 0 (F0 m 54 ls [.int s0_54]) := by
    intro s0_54 H locs ls hm hR hS hl
    exact ss_iret hC hr hlocks hR hS (ss_with _ hm) dd_S_spare_54
  refine ss_aload_n hx hb dd_S_spare_0 rfl (lv_at hl 0 rfl) ?_
  refine lv_iload_n hx hb dd_S_spare_1 rfl (lv_at hl 1 rfl) ?_
  obtain ⟨v1, qv1, hm⟩ := ss_bind hm
  refine ss_cV 0 0 (As := [.int a1]) hC hK hR hS hl.1 (cc_S_isStep l G N _ _ _ _ qv1) km_S_123 (ck_S_isStep qv1) ⟨Nat.le_of_ble_eq_true rfl, Nat.le_of_ble_eq_true rfl⟩ ⟨Nat.le_of_ble_eq_true rfl, Nat.le_of_ble_eq_true rfl, Nat.le_of_ble_eq_true rfl, Nat.le_of_ble_eq_true rfl⟩ rfl rfl (Nat.le_of_ble_eq_true rfl) dd_S_spare_2 (fun H locs hR hS => ?_)
  refine lv_if_eq (tgt := 27) hx hb dd_S_spare_5 (by decide) (fun c2 => ?_) (fun c2 => ?_)
  · have hm := ss_ift hm c2
    exact J_27  _ _ _ hm hR hS (lv_sub hl [] rfl)
  · have hm := ss_iff hm c2
    refine lv_iload_n hx hb dd_S_spare_8 rfl (lv_at hl 2 rfl) ?_
    refine lv_iconst (v := 1) hx hb dd_S_spare_9 (by decide) ?_
    refine lv_bipush (v := 10) hx hb dd_S_spare_10 (by decide) ?_
    obtain ⟨v3, qv3, hm⟩ := ss_bind hm
    refine ss_cS 0 0 (As := [.int a2, .int (1 : Int32), .int (10 : Int32)]) hC hK hR hS hl.1 (cc_S_isWithin l G N _ _ _ _ _ qv3) km_S_194 ⟨Nat.le_of_ble_eq_true rfl, Nat.le_of_ble_eq_true rfl⟩ ⟨Nat.le_of_ble_eq_true rfl, Nat.le_of_ble_eq_true rfl, Nat.le_of_ble_eq_true rfl, Nat.le_of_ble_eq_true rfl⟩ rfl rfl (Nat.le_of_ble_eq_true rfl) dd_S_spare_12 (fun H locs hR hS => ?_)
    refine lv_if_eq (tgt := 27) hx hb dd_S_spare_15 (by decide) (fun c4 => ?_) (fun c4 => ?_)
    · have hm := ss_ift hm c4
      exact J_27  _ _ _ hm hR hS (lv_sub hl [] rfl)
    · have hm := ss_iff hm c4
      refine lv_iload_n hx hb dd_S_spare_18 rfl (lv_at hl 3 rfl) ?_
      refine lv_iconst (v := 0) hx hb dd_S_spare_19 (by decide) ?_
      refine lv_iconst (v := 1) hx hb dd_S_spare_20 (by decide) ?_
      obtain ⟨v5, qv5, hm⟩ := ss_bind hm
      refine ss_cS 0 0 (As := [.int a3, .int (0 : Int32), .int (1 : Int32)]) hC hK hR hS hl.1 (cc_S_isWithin l G N _ _ _ _ _ qv5) km_S_194 ⟨Nat.le_of_ble_eq_true rfl, Nat.le_of_ble_eq_true rfl⟩ ⟨Nat.le_of_ble_eq_true rfl, Nat.le_of_ble_eq_true rfl, Nat.le_of_ble_eq_true rfl, Nat.le_of_ble_eq_true rfl⟩ rfl rfl (Nat.le_of_ble_eq_true rfl) dd_S_spare_21 (fun H locs hR hS => ?_)
      refine lv_if_ne (tgt := 29) hx hb dd_S_spare_24 (by decide) (fun c6 => ?_) (fun c6 => ?_)
      · have hm := ss_iff hm c6
        refine ss_aload_n hx hb dd_S_spare_29 rfl (lv_at hl 0 rfl) ?_
        obtain ⟨r7, qr7, hm⟩ := ss_bind hm
        refine ss_getr hC hK hR kf_S_83 rfl qr7 dd_S_spare_30 ?_
        refine lv_iload_n hx hb dd_S_spare_33 rfl (lv_at hl 1 rfl) ?_
        refine lv_iload_n hx hb dd_S_spare_34 rfl (lv_at hl 2 rfl) ?_
        obtain ⟨v8, qv8, hm⟩ := ss_bind hm
        refine ss_cV 0 0 (As := [.int a1, .int a2]) hC hK hR hS hl.1 (cc_P_fewestSweepings l G N _ _ _ _ _ qv8) km_S_228 (ck_P_fewestSweepings qv8) ⟨Nat.le_of_ble_eq_true rfl, Nat.le_of_ble_eq_true rfl⟩ ⟨Nat.le_of_ble_eq_true rfl, Nat.le_of_ble_eq_true rfl, Nat.le_of_ble_eq_true rfl, Nat.le_of_ble_eq_true rfl⟩ rfl rfl (Nat.le_of_ble_eq_true rfl) dd_S_spare_35 (fun H locs hR hS => ?_)
        refine lv_istore (lv' := [(4, .int v8), (0, ss_v (ss_b G) this), (1, .int a1), (2, .int a2), (3, .int a3)]) hx hb dd_S_spare_38 hl (by decide) rfl (fun ls hl => ?_)
        refine lv_iload_n hx hb dd_S_spare_40 rfl (lv_at hl 4 rfl) ?_
        refine lv_if_ne (tgt := 52) hx hb dd_S_spare_41 (by decide) (fun c9 => ?_) (fun c9 => ?_)
        · have hm := ss_iff hm c9
          refine lv_iload hx hb dd_S_spare_52 (lv_at hl 0 rfl) ?_
          exact J_54 v8  _ _ _ hm hR hS (lv_sub hl [] rfl)
        · have hm := ss_ift hm c9
          refine lv_iload hx hb dd_S_spare_44 (lv_at hl 0 rfl) ?_
          obtain ⟨v10, qv10, hm⟩ := ss_bind hm
          refine ss_cS 0 0 (As := [.int v8]) hC hK hR hS hl.1 (cc_JI_bitCount l G N _ _ _ qv10) km_S_231 ⟨Nat.le_of_ble_eq_true rfl, Nat.le_of_ble_eq_true rfl⟩ ⟨Nat.le_of_ble_eq_true rfl, Nat.le_of_ble_eq_true rfl, Nat.le_of_ble_eq_true rfl, Nat.le_of_ble_eq_true rfl⟩ rfl rfl (Nat.le_of_ble_eq_true rfl) dd_S_spare_46 (fun H locs hR hS => ?_)
          refine lv_goto (tgt := 54) hx hb dd_S_spare_49 (by decide) ?_
          exact J_54 v10  _ _ _ hm hR hS (lv_sub hl [] rfl)
      · have hm := ss_ift hm c6
        exact J_27  _ _ _ hm hR hS (lv_sub hl [] rfl)
theorem dd_P_closedBySweeping_0 : decode bb_P_closedBySweeping 0 = .ok (.aload_n 0, 1) := by decide +kernel
theorem dd_P_closedBySweeping_1 : decode bb_P_closedBySweeping 1 = .ok (.getfield 21, 3) := by decide +kernel
theorem dd_P_closedBySweeping_4 : decode bb_P_closedBySweeping 4 = .ok (.getfield 50, 3) := by decide +kernel
theorem dd_P_closedBySweeping_7 : decode bb_P_closedBySweeping 7 = .ok (.getfield 70, 3) := by decide +kernel
theorem dd_P_closedBySweeping_10 : decode bb_P_closedBySweeping 10 = .ok (.istore_n 2, 1) := by decide +kernel
theorem dd_P_closedBySweeping_11 : decode bb_P_closedBySweeping 11 = .ok (.iconst 0, 1) := by decide +kernel
theorem dd_P_closedBySweeping_12 : decode bb_P_closedBySweeping 12 = .ok (.istore_n 3, 1) := by decide +kernel
theorem dd_P_closedBySweeping_13 : decode bb_P_closedBySweeping 13 = .ok (.iload_n 3, 1) := by decide +kernel
theorem dd_P_closedBySweeping_14 : decode bb_P_closedBySweeping 14 = .ok (.iload_n 2, 1) := by decide +kernel
theorem dd_P_closedBySweeping_15 : decode bb_P_closedBySweeping 15 = .ok (.if_icmp .ge 75, 3) := by decide +kernel
theorem dd_P_closedBySweeping_18 : decode bb_P_closedBySweeping 18 = .ok (.iload_n 1, 1) := by decide +kernel
theorem dd_P_closedBySweeping_19 : decode bb_P_closedBySweeping 19 = .ok (.iload_n 3, 1) := by decide +kernel
theorem dd_P_closedBySweeping_20 : decode bb_P_closedBySweeping 20 = .ok (.ishr, 1) := by decide +kernel
theorem dd_P_closedBySweeping_21 : decode bb_P_closedBySweeping 21 = .ok (.iconst 1, 1) := by decide +kernel
theorem dd_P_closedBySweeping_22 : decode bb_P_closedBySweeping 22 = .ok (.iand, 1) := by decide +kernel
theorem dd_P_closedBySweeping_23 : decode bb_P_closedBySweeping 23 = .ok (.iconst 1, 1) := by decide +kernel
theorem dd_P_closedBySweeping_24 : decode bb_P_closedBySweeping 24 = .ok (.if_icmp .ne 7, 3) := by decide +kernel
theorem dd_P_closedBySweeping_27 : decode bb_P_closedBySweeping 27 = .ok (.iconst 1, 1) := by decide +kernel
theorem dd_P_closedBySweeping_28 : decode bb_P_closedBySweeping 28 = .ok (.goto 4, 3) := by decide +kernel
theorem dd_P_closedBySweeping_31 : decode bb_P_closedBySweeping 31 = .ok (.iconst 0, 1) := by decide +kernel
theorem dd_P_closedBySweeping_32 : decode bb_P_closedBySweeping 32 = .ok (.istore 4, 2) := by decide +kernel
theorem dd_P_closedBySweeping_34 : decode bb_P_closedBySweeping 34 = .ok (.iload 4, 2) := by decide +kernel
theorem dd_P_closedBySweeping_36 : decode bb_P_closedBySweeping 36 = .ok (.ifCond .eq 21, 3) := by decide +kernel
theorem dd_P_closedBySweeping_39 : decode bb_P_closedBySweeping 39 = .ok (.aload_n 0, 1) := by decide +kernel
theorem dd_P_closedBySweeping_40 : decode bb_P_closedBySweeping 40 = .ok (.getfield 21, 3) := by decide +kernel
theorem dd_P_closedBySweeping_43 : decode bb_P_closedBySweeping 43 = .ok (.getfield 39, 3) := by decide +kernel
theorem dd_P_closedBySweeping_46 : decode bb_P_closedBySweeping 46 = .ok (.getfield 45, 3) := by decide +kernel
theorem dd_P_closedBySweeping_49 : decode bb_P_closedBySweeping 49 = .ok (.iload_n 3, 1) := by decide +kernel
theorem dd_P_closedBySweeping_50 : decode bb_P_closedBySweeping 50 = .ok (.iaload, 1) := by decide +kernel
theorem dd_P_closedBySweeping_51 : decode bb_P_closedBySweeping 51 = .ok (.ifCond .ne 6, 3) := by decide +kernel
theorem dd_P_closedBySweeping_54 : decode bb_P_closedBySweeping 54 = .ok (.bipush (-2), 2) := by decide +kernel
theorem dd_P_closedBySweeping_56 : decode bb_P_closedBySweeping 56 = .ok (.ireturn, 1) := by decide +kernel
theorem dd_P_closedBySweeping_57 : decode bb_P_closedBySweeping 57 = .ok (.aload_n 0, 1) := by decide +kernel
theorem dd_P_closedBySweeping_58 : decode bb_P_closedBySweeping 58 = .ok (.getfield 9, 3) := by decide +kernel
theorem dd_P_closedBySweeping_61 : decode bb_P_closedBySweeping 61 = .ok (.iload_n 3, 1) := by decide +kernel
theorem dd_P_closedBySweeping_62 : decode bb_P_closedBySweeping 62 = .ok (.iload 4, 2) := by decide +kernel
theorem dd_P_closedBySweeping_64 : decode bb_P_closedBySweeping 64 = .ok (.ifCond .eq 7, 3) := by decide +kernel
theorem dd_P_closedBySweeping_67 : decode bb_P_closedBySweeping 67 = .ok (.iconst 0, 1) := by decide +kernel
theorem dd_P_closedBySweeping_68 : decode bb_P_closedBySweeping 68 = .ok (.goto 15, 3) := by decide +kernel
theorem dd_P_closedBySweeping_71 : decode bb_P_closedBySweeping 71 = .ok (.aload_n 0, 1) := by decide +kernel
theorem dd_P_closedBySweeping_72 : decode bb_P_closedBySweeping 72 = .ok (.getfield 21, 3) := by decide +kernel
theorem dd_P_closedBySweeping_75 : decode bb_P_closedBySweeping 75 = .ok (.getfield 39, 3) := by decide +kernel
theorem dd_P_closedBySweeping_78 : decode bb_P_closedBySweeping 78 = .ok (.getfield 45, 3) := by decide +kernel
theorem dd_P_closedBySweeping_81 : decode bb_P_closedBySweeping 81 = .ok (.iload_n 3, 1) := by decide +kernel
theorem dd_P_closedBySweeping_82 : decode bb_P_closedBySweeping 82 = .ok (.iaload, 1) := by decide +kernel
theorem dd_P_closedBySweeping_83 : decode bb_P_closedBySweeping 83 = .ok (.iastore, 1) := by decide +kernel
theorem dd_P_closedBySweeping_84 : decode bb_P_closedBySweeping 84 = .ok (.iinc 3 1, 3) := by decide +kernel
theorem dd_P_closedBySweeping_87 : decode bb_P_closedBySweeping 87 = .ok (.goto (-74), 3) := by decide +kernel
theorem dd_P_closedBySweeping_90 : decode bb_P_closedBySweeping 90 = .ok (.iconst 0, 1) := by decide +kernel
theorem dd_P_closedBySweeping_91 : decode bb_P_closedBySweeping 91 = .ok (.istore_n 3, 1) := by decide +kernel
theorem dd_P_closedBySweeping_92 : decode bb_P_closedBySweeping 92 = .ok (.iload_n 3, 1) := by decide +kernel
theorem dd_P_closedBySweeping_93 : decode bb_P_closedBySweeping 93 = .ok (.iload_n 2, 1) := by decide +kernel
theorem dd_P_closedBySweeping_94 : decode bb_P_closedBySweeping 94 = .ok (.if_icmp .ge 60, 3) := by decide +kernel
theorem dd_P_closedBySweeping_97 : decode bb_P_closedBySweeping 97 = .ok (.aload_n 0, 1) := by decide +kernel
theorem dd_P_closedBySweeping_98 : decode bb_P_closedBySweeping 98 = .ok (.getfield 21, 3) := by decide +kernel
theorem dd_P_closedBySweeping_101 : decode bb_P_closedBySweeping 101 = .ok (.getfield 39, 3) := by decide +kernel
theorem dd_P_closedBySweeping_104 : decode bb_P_closedBySweeping 104 = .ok (.getfield 76, 3) := by decide +kernel
theorem dd_P_closedBySweeping_107 : decode bb_P_closedBySweeping 107 = .ok (.iload_n 3, 1) := by decide +kernel
theorem dd_P_closedBySweeping_108 : decode bb_P_closedBySweeping 108 = .ok (.iaload, 1) := by decide +kernel
theorem dd_P_closedBySweeping_109 : decode bb_P_closedBySweeping 109 = .ok (.istore 4, 2) := by decide +kernel
theorem dd_P_closedBySweeping_111 : decode bb_P_closedBySweeping 111 = .ok (.iload_n 1, 1) := by decide +kernel
theorem dd_P_closedBySweeping_112 : decode bb_P_closedBySweeping 112 = .ok (.iload_n 3, 1) := by decide +kernel
theorem dd_P_closedBySweeping_113 : decode bb_P_closedBySweeping 113 = .ok (.ishr, 1) := by decide +kernel
theorem dd_P_closedBySweeping_114 : decode bb_P_closedBySweeping 114 = .ok (.iconst 1, 1) := by decide +kernel
theorem dd_P_closedBySweeping_115 : decode bb_P_closedBySweeping 115 = .ok (.iand, 1) := by decide +kernel
theorem dd_P_closedBySweeping_116 : decode bb_P_closedBySweeping 116 = .ok (.iconst 1, 1) := by decide +kernel
theorem dd_P_closedBySweeping_117 : decode bb_P_closedBySweeping 117 = .ok (.if_icmp .ne 31, 3) := by decide +kernel
theorem dd_P_closedBySweeping_120 : decode bb_P_closedBySweeping 120 = .ok (.iload 4, 2) := by decide +kernel
theorem dd_P_closedBySweeping_122 : decode bb_P_closedBySweeping 122 = .ok (.iconst (-1), 1) := by decide +kernel
theorem dd_P_closedBySweeping_123 : decode bb_P_closedBySweeping 123 = .ok (.if_icmp .eq 25, 3) := by decide +kernel
theorem dd_P_closedBySweeping_126 : decode bb_P_closedBySweeping 126 = .ok (.aload_n 0, 1) := by decide +kernel
theorem dd_P_closedBySweeping_127 : decode bb_P_closedBySweeping 127 = .ok (.getfield 9, 3) := by decide +kernel
theorem dd_P_closedBySweeping_130 : decode bb_P_closedBySweeping 130 = .ok (.iload 4, 2) := by decide +kernel
theorem dd_P_closedBySweeping_132 : decode bb_P_closedBySweeping 132 = .ok (.dup2, 1) := by decide +kernel
theorem dd_P_closedBySweeping_133 : decode bb_P_closedBySweeping 133 = .ok (.iaload, 1) := by decide +kernel
theorem dd_P_closedBySweeping_134 : decode bb_P_closedBySweeping 134 = .ok (.aload_n 0, 1) := by decide +kernel
theorem dd_P_closedBySweeping_135 : decode bb_P_closedBySweeping 135 = .ok (.getfield 21, 3) := by decide +kernel
theorem dd_P_closedBySweeping_138 : decode bb_P_closedBySweeping 138 = .ok (.getfield 39, 3) := by decide +kernel
theorem dd_P_closedBySweeping_141 : decode bb_P_closedBySweeping 141 = .ok (.getfield 45, 3) := by decide +kernel
theorem dd_P_closedBySweeping_144 : decode bb_P_closedBySweeping 144 = .ok (.iload_n 3, 1) := by decide +kernel
theorem dd_P_closedBySweeping_145 : decode bb_P_closedBySweeping 145 = .ok (.iaload, 1) := by decide +kernel
theorem dd_P_closedBySweeping_146 : decode bb_P_closedBySweeping 146 = .ok (.iadd, 1) := by decide +kernel
theorem dd_P_closedBySweeping_147 : decode bb_P_closedBySweeping 147 = .ok (.iastore, 1) := by decide +kernel
theorem dd_P_closedBySweeping_148 : decode bb_P_closedBySweeping 148 = .ok (.iinc 3 1, 3) := by decide +kernel
theorem dd_P_closedBySweeping_151 : decode bb_P_closedBySweeping 151 = .ok (.goto (-59), 3) := by decide +kernel
theorem dd_P_closedBySweeping_154 : decode bb_P_closedBySweeping 154 = .ok (.iload_n 1, 1) := by decide +kernel
theorem dd_P_closedBySweeping_155 : decode bb_P_closedBySweeping 155 = .ok (.aload_n 0, 1) := by decide +kernel
theorem dd_P_closedBySweeping_156 : decode bb_P_closedBySweeping 156 = .ok (.getfield 21, 3) := by decide +kernel
theorem dd_P_closedBySweeping_159 : decode bb_P_closedBySweeping 159 = .ok (.getfield 39, 3) := by decide +kernel
theorem dd_P_closedBySweeping_162 : decode bb_P_closedBySweeping 162 = .ok (.getfield 79, 3) := by decide +kernel
theorem dd_P_closedBySweeping_165 : decode bb_P_closedBySweeping 165 = .ok (.ior, 1) := by decide +kernel
theorem dd_P_closedBySweeping_166 : decode bb_P_closedBySweeping 166 = .ok (.istore_n 3, 1) := by decide +kernel
theorem dd_P_closedBySweeping_167 : decode bb_P_closedBySweeping 167 = .ok (.iconst 0, 1) := by decide +kernel
theorem dd_P_closedBySweeping_168 : decode bb_P_closedBySweeping 168 = .ok (.istore 4, 2) := by decide +kernel
theorem dd_P_closedBySweeping_170 : decode bb_P_closedBySweeping 170 = .ok (.iconst 0, 1) := by decide +kernel
theorem dd_P_closedBySweeping_171 : decode bb_P_closedBySweeping 171 = .ok (.istore 5, 2) := by decide +kernel
theorem dd_P_closedBySweeping_173 : decode bb_P_closedBySweeping 173 = .ok (.iload 5, 2) := by decide +kernel
theorem dd_P_closedBySweeping_175 : decode bb_P_closedBySweeping 175 = .ok (.iload_n 2, 1) := by decide +kernel
theorem dd_P_closedBySweeping_176 : decode bb_P_closedBySweeping 176 = .ok (.if_icmp .ge 64, 3) := by decide +kernel
theorem dd_P_closedBySweeping_179 : decode bb_P_closedBySweeping 179 = .ok (.aload_n 0, 1) := by decide +kernel
theorem dd_P_closedBySweeping_180 : decode bb_P_closedBySweeping 180 = .ok (.getfield 9, 3) := by decide +kernel
theorem dd_P_closedBySweeping_183 : decode bb_P_closedBySweeping 183 = .ok (.iload 5, 2) := by decide +kernel
theorem dd_P_closedBySweeping_185 : decode bb_P_closedBySweeping 185 = .ok (.iaload, 1) := by decide +kernel
theorem dd_P_closedBySweeping_186 : decode bb_P_closedBySweeping 186 = .ok (.iload_n 3, 1) := by decide +kernel
theorem dd_P_closedBySweeping_187 : decode bb_P_closedBySweeping 187 = .ok (.iload 5, 2) := by decide +kernel
theorem dd_P_closedBySweeping_189 : decode bb_P_closedBySweeping 189 = .ok (.ishr, 1) := by decide +kernel
theorem dd_P_closedBySweeping_190 : decode bb_P_closedBySweeping 190 = .ok (.iconst 1, 1) := by decide +kernel
theorem dd_P_closedBySweeping_191 : decode bb_P_closedBySweeping 191 = .ok (.iand, 1) := by decide +kernel
theorem dd_P_closedBySweeping_192 : decode bb_P_closedBySweeping 192 = .ok (.aload_n 0, 1) := by decide +kernel
theorem dd_P_closedBySweeping_193 : decode bb_P_closedBySweeping 193 = .ok (.getfield 21, 3) := by decide +kernel
theorem dd_P_closedBySweeping_196 : decode bb_P_closedBySweeping 196 = .ok (.getfield 50, 3) := by decide +kernel
theorem dd_P_closedBySweeping_199 : decode bb_P_closedBySweeping 199 = .ok (.getfield 67, 3) := by decide +kernel
theorem dd_P_closedBySweeping_202 : decode bb_P_closedBySweeping 202 = .ok (.imul, 1) := by decide +kernel
theorem dd_P_closedBySweeping_203 : decode bb_P_closedBySweeping 203 = .ok (.iadd, 1) := by decide +kernel
theorem dd_P_closedBySweeping_204 : decode bb_P_closedBySweeping 204 = .ok (.istore 6, 2) := by decide +kernel
theorem dd_P_closedBySweeping_206 : decode bb_P_closedBySweeping 206 = .ok (.iload 4, 2) := by decide +kernel
theorem dd_P_closedBySweeping_208 : decode bb_P_closedBySweeping 208 = .ok (.iload 6, 2) := by decide +kernel
theorem dd_P_closedBySweeping_210 : decode bb_P_closedBySweeping 210 = .ok (.aload_n 0, 1) := by decide +kernel
theorem dd_P_closedBySweeping_211 : decode bb_P_closedBySweeping 211 = .ok (.getfield 21, 3) := by decide +kernel
theorem dd_P_closedBySweeping_214 : decode bb_P_closedBySweeping 214 = .ok (.getfield 50, 3) := by decide +kernel
theorem dd_P_closedBySweeping_217 : decode bb_P_closedBySweeping 217 = .ok (.getfield 54, 3) := by decide +kernel
theorem dd_P_closedBySweeping_220 : decode bb_P_closedBySweeping 220 = .ok (.if_icmp .lt 10, 3) := by decide +kernel
theorem dd_P_closedBySweeping_223 : decode bb_P_closedBySweeping 223 = .ok (.iconst 1, 1) := by decide +kernel
theorem dd_P_closedBySweeping_224 : decode bb_P_closedBySweeping 224 = .ok (.iload 5, 2) := by decide +kernel
theorem dd_P_closedBySweeping_226 : decode bb_P_closedBySweeping 226 = .ok (.ishl, 1) := by decide +kernel
theorem dd_P_closedBySweeping_227 : decode bb_P_closedBySweeping 227 = .ok (.goto 4, 3) := by decide +kernel
theorem dd_P_closedBySweeping_230 : decode bb_P_closedBySweeping 230 = .ok (.iconst 0, 1) := by decide +kernel
theorem dd_P_closedBySweeping_231 : decode bb_P_closedBySweeping 231 = .ok (.ior, 1) := by decide +kernel
theorem dd_P_closedBySweeping_232 : decode bb_P_closedBySweeping 232 = .ok (.istore 4, 2) := by decide +kernel
theorem dd_P_closedBySweeping_234 : decode bb_P_closedBySweeping 234 = .ok (.iinc 5 1, 3) := by decide +kernel
theorem dd_P_closedBySweeping_237 : decode bb_P_closedBySweeping 237 = .ok (.goto (-64), 3) := by decide +kernel
theorem dd_P_closedBySweeping_240 : decode bb_P_closedBySweeping 240 = .ok (.iload 4, 2) := by decide +kernel
theorem dd_P_closedBySweeping_242 : decode bb_P_closedBySweeping 242 = .ok (.ireturn, 1) := by decide +kernel
def mm_P_closedBySweeping_j231 (N : Nat) (this : Option Nat) (v3 : Int32) (v7 : Int32) (h_92_154 : ss_Hp) (x5_231 : Int32) (s0_231 : Int32) (s1_231 : Int32) : Option ((Int32 × Int32) ⊕ Int32) :=
  (some (s0_231 ||| s1_231)).bind fun v8 =>
  (some (x5_231 + (1 : Int32))).bind fun v9 =>
  some (.inl (v8, v9))
def mm_P_closedBySweeping_b173 (N : Nat) (this : Option Nat) (v3 : Int32) (v7 : Int32) (h_92_154 : ss_Hp) (st : Int32 × Int32) : Option ((Int32 × Int32) ⊕ Int32) :=
  match st with
  | (x4_173, x5_173) =>
    if v3 ≤ x5_173 then
      some (.inr x4_173)
    else
      (ss_gr h_92_154 this 10 2).bind fun r11 =>
      (ss_ai h_92_154 r11 20 x5_173).bind fun v12 =>
      (ss_gr h_92_154 this 10 0).bind fun r13 =>
      (ss_gr h_92_154 r13 8 0).bind fun r14 =>
      (ss_gi h_92_154 r14 5 1).bind fun v15 =>
      (some (v12 + (((v7 >>> (x5_173 &&& 31)) &&& (1 : Int32)) * v15))).bind fun v16 =>
      (ss_gr h_92_154 this 10 0).bind fun r17 =>
      (ss_gr h_92_154 r17 8 0).bind fun r18 =>
      (ss_gi h_92_154 r18 5 2).bind fun v19 =>
      if v16 < v19 then
        mm_P_closedBySweeping_j231 N this v3 v7 h_92_154 x5_173 x4_173 (0 : Int32)
      else
        mm_P_closedBySweeping_j231 N this v3 v7 h_92_154 x5_173 x4_173 ((1 : Int32) <<< (x5_173 &&& 31))
def mm_P_closedBySweeping_j148 (N : Nat) (this : Option Nat) (a1 : Int32) (v3 : Int32) (x3_148 : Int32) (h_148 : ss_Hp) : Option ((Int32 × ss_Hp) ⊕ ss_Hp) :=
  (some (x3_148 + (1 : Int32))).bind fun v21 =>
  some (.inl (v21, h_148))
def mm_P_closedBySweeping_b92 (N : Nat) (this : Option Nat) (a1 : Int32) (v3 : Int32) (st : Int32 × ss_Hp) : Option ((Int32 × ss_Hp) ⊕ ss_Hp) :=
  match st with
  | (x3_92, h_92) =>
    if v3 ≤ x3_92 then
      some (.inr h_92)
    else
      (ss_gr h_92 this 10 0).bind fun r23 =>
      (ss_gr h_92 r23 8 1).bind fun r24 =>
      (ss_gr h_92 r24 0 1).bind fun r25 =>
      (ss_ai h_92 r25 20 x3_92).bind fun v26 =>
      if ((a1 >>> (x3_92 &&& 31)) &&& (1 : Int32)) = (1 : Int32) then
        if v26 = (-1 : Int32) then
          mm_P_closedBySweeping_j148 N this a1 v3 x3_92 h_92
        else
          (ss_gr h_92 this 10 2).bind fun r29 =>
          (ss_ai h_92 r29 20 v26).bind fun v30 =>
          (ss_gr h_92 this 10 0).bind fun r31 =>
          (ss_gr h_92 r31 8 1).bind fun r32 =>
          (ss_gr h_92 r32 0 0).bind fun r33 =>
          (ss_ai h_92 r33 20 x3_92).bind fun v34 =>
          (ss_ui h_92 r29 20 v26 (v30 + v34)).bind fun h35 =>
          mm_P_closedBySweeping_j148 N this a1 v3 x3_92 h35
      else
        mm_P_closedBySweeping_j148 N this a1 v3 x3_92 h_92
def mm_P_closedBySweeping_j83 (N : Nat) (this : Option Nat) (a1 : Int32) (v3 : Int32) (x3_83 : Int32) (s0_83 : Option Nat) (s1_83 : Int32) (s2_83 : Int32) (h_83 : ss_Hp) : Option ((Int32 × ss_Hp) ⊕ (ss_Hp ⊕ ss_Hp)) :=
  (ss_ui h_83 s0_83 20 s1_83 s2_83).bind fun h36 =>
  (some (x3_83 + (1 : Int32))).bind fun v37 =>
  some (.inl (v37, h36))
def mm_P_closedBySweeping_j57 (N : Nat) (this : Option Nat) (a1 : Int32) (v3 : Int32) (x3_57 : Int32) (x4_57 : Int32) (h_57 : ss_Hp) : Option ((Int32 × ss_Hp) ⊕ (ss_Hp ⊕ ss_Hp)) :=
  (ss_gr h_57 this 10 2).bind fun r38 =>
  if x4_57 = 0 then
    (ss_gr h_57 this 10 0).bind fun r40 =>
    (ss_gr h_57 r40 8 1).bind fun r41 =>
    (ss_gr h_57 r41 0 0).bind fun r42 =>
    (ss_ai h_57 r42 20 x3_57).bind fun v43 =>
    mm_P_closedBySweeping_j83 N this a1 v3 x3_57 r38 x3_57 v43 h_57
  else
    mm_P_closedBySweeping_j83 N this a1 v3 x3_57 r38 x3_57 (0 : Int32) h_57
def mm_P_closedBySweeping_j32 (N : Nat) (this : Option Nat) (a1 : Int32) (v3 : Int32) (x3_32 : Int32) (s0_32 : Int32) (h_32 : ss_Hp) : Option ((Int32 × ss_Hp) ⊕ (ss_Hp ⊕ ss_Hp)) :=
  if s0_32 = 0 then
    mm_P_closedBySweeping_j57 N this a1 v3 x3_32 s0_32 h_32
  else
    (ss_gr h_32 this 10 0).bind fun r45 =>
    (ss_gr h_32 r45 8 1).bind fun r46 =>
    (ss_gr h_32 r46 0 0).bind fun r47 =>
    (ss_ai h_32 r47 20 x3_32).bind fun v48 =>
    if v48 = 0 then
      some (.inr (.inr h_32))
    else
      mm_P_closedBySweeping_j57 N this a1 v3 x3_32 s0_32 h_32
def mm_P_closedBySweeping_b13 (N : Nat) (this : Option Nat) (a1 : Int32) (v3 : Int32) (st : Int32 × ss_Hp) : Option ((Int32 × ss_Hp) ⊕ (ss_Hp ⊕ ss_Hp)) :=
  match st with
  | (x3_13, h_13) =>
    if v3 ≤ x3_13 then
      some (.inr (.inl h_13))
    else
      if ((a1 >>> (x3_13 &&& 31)) &&& (1 : Int32)) = (1 : Int32) then
        mm_P_closedBySweeping_j32 N this a1 v3 x3_13 (1 : Int32) h_13
      else
        mm_P_closedBySweeping_j32 N this a1 v3 x3_13 (0 : Int32) h_13
def mm_P_closedBySweeping (N : Nat) (this : Option Nat) (a1 : Int32) (h : ss_Hp) : Option (Int32 × ss_Hp) :=
  if ss_is h this 10 = true then
    (ss_gr h this 10 0).bind fun r1 =>
    (ss_gr h r1 8 0).bind fun r2 =>
    (ss_gi h r2 5 3).bind fun v3 =>
    (ss_lp (mm_P_closedBySweeping_b13 N this a1 v3) N ((0 : Int32), h)).bind fun e_13 =>
    match e_13 with
    | (.inl h_13_90) =>
      (ss_lp (mm_P_closedBySweeping_b92 N this a1 v3) N ((0 : Int32), h_13_90)).bind fun h_92_154 =>
      (ss_gr h_92_154 this 10 0).bind fun r4 =>
      (ss_gr h_92_154 r4 8 1).bind fun r5 =>
      (ss_gi h_92_154 r5 0 0).bind fun v6 =>
      (some (a1 ||| v6)).bind fun v7 =>
      (ss_lp (mm_P_closedBySweeping_b173 N this v3 v7 h_92_154) N ((0 : Int32), (0 : Int32))).bind fun y4_173_240 =>
      some (y4_173_240, h_92_154)
    | (.inr h_13_54) =>
      some ((-2 : Int32), h_13_54)
  else none
abbrev ww_P_closedBySweeping (p : Program) (l : Launch) (e : Env) (s : State) (m : MethodId) (below : List Frame) (meth : Method) (c : Code) (G : ss_G) (this : Option Nat) (a1 : Int32) (h : ss_Hp) (rr : Int32) (hh : ss_Hp) (H : Heap) (locs : List Loc) (k n : Nat) (g : JFrame) : Prop := W p l e (headSpec (ss_w yy_P_closedBySweeping bb_P_closedBySweeping 7 (some (.int))) ({ frames := 0, cells := 0, slots := 0, locals := 0 })).room s m ([ss_v (ss_b G) this, .int a1] : List Value).toArray below meth c H locs k n (MQ below (ss_Qc G (some (.int rr)) hh) ([ss_v (ss_b G) this, .int a1] : List Value).toArray s 0 0 (ss_A G)) g
theorem ck_P_closedBySweeping {N : Nat} {this : Option Nat} {a1 : Int32} {h : ss_Hp} {res : Int32 × ss_Hp} (hm : mm_P_closedBySweeping N this a1 h = some res) : ss_is h this 10 = true := (ss_chk hm).1
set_option maxHeartbeats 4000000 in
set_option maxRecDepth 100000 in
theorem cc_P_closedBySweeping (l : Launch) (G : ss_G) (N : Nat) (this : Option Nat) (a1 : Int32) (h : ss_Hp) (rr : Int32) (hh : ss_Hp) (hm : mm_P_closedBySweeping N this a1 h = some (rr, hh)) : ss_Ct l G yy_P_closedBySweeping bb_P_closedBySweeping 7 (some (.int)) ({ frames := 0, cells := 0, slots := 0, locals := 0 }) [ss_v (ss_b G) this, .int a1] h (some (.int rr)) hh := by
  obtain ⟨hck, hm⟩ := ss_chk hm
  refine Met.ofW (cc := bb_P_closedBySweeping) (maxL := 7) (ret := (some (.int))) (by decide) rfl ?_
  intro p e s m args below meth c s₁ B hml hv
  obtain ⟨rfl, hR, hK⟩ := hv
  have hC : CallFix p m c bb_P_closedBySweeping 7 s _ lw_g sR_10 := ⟨B.exec, B.bytes, hml, findClass_of_methodNamed B.named, fun w hw => atoms_spec (ws := ss_w yy_P_closedBySweeping bb_P_closedBySweeping 7 (some (.int))) B.pre w (List.mem_cons_of_mem _ hw)⟩
  have hx := hC.1
  have hb := hC.2.1
  have hr := B.returns
  have hlocks := B.notSynchronized
  have hS : va_S (ss_A G) s.heap s.heap [] := va_S.rf
  have hl := lv_entry ([ss_v (ss_b G) this, .int a1]) (n := 7) (by simp [lg_sl, ss_v_cat, ss_cat_i, ss_cat_l, ss_cat_r])
  rw [lg_entry_eq]
  generalize (lg_sl ([ss_v (ss_b G) this, .int a1]) ++ List.replicate (7 - (lg_sl ([ss_v (ss_b G) this, .int a1])).length) Slot.unset).toArray = ls at hl ⊢
  have hl : lv_has ls 7 [(0, ss_v (ss_b G) this), (1, .int a1)] := by simpa [lv_args, ss_v_cat, ss_cat_i, ss_cat_l, ss_cat_r] using hl
  refine ss_aload_n hx hb dd_P_closedBySweeping_0 rfl (lv_at hl 0 rfl) ?_
  obtain ⟨r1, qr1, hm⟩ := ss_bind hm
  refine ss_getr hC hK hR kf_P_21 rfl qr1 dd_P_closedBySweeping_1 ?_
  obtain ⟨r2, qr2, hm⟩ := ss_bind hm
  refine ss_getr hC hK hR kf_P_50 rfl qr2 dd_P_closedBySweeping_4 ?_
  obtain ⟨v3, qv3, hm⟩ := ss_bind hm
  refine ss_geti hC hK hR kf_P_70 qv3 dd_P_closedBySweeping_7 ?_
  refine lv_istore_n (lv' := [(2, .int v3), (0, ss_v (ss_b G) this), (1, .int a1)]) hx hb dd_P_closedBySweeping_10 rfl hl (by decide) rfl (fun ls hl => ?_)
  refine lv_iconst (v := 0) hx hb dd_P_closedBySweeping_11 (by decide) ?_
  refine lv_istore_n (lv' := [(3, .int (0 : Int32)), (2, .int v3), (0, ss_v (ss_b G) this), (1, .int a1)]) hx hb dd_P_closedBySweeping_12 rfl hl (by decide) rfl (fun ls hl => ?_)
  obtain ⟨e_13, he_13, hm⟩ := ss_bind hm
  have X_13_90 : ∀  (h_13_90 : ss_Hp) (H : Heap) (locs : List Loc) (ls : Array Slot), e_13 = (.inl h_13_90) → ss_R G h_13_90 H → va_S (ss_A G) s.heap H locs → lv_has ls 7 [(0, ss_v (ss_b G) this), (1, .int a1), (2, .int v3)] → ww_P_closedBySweeping p l e s m below meth c G this a1 h rr hh  H locs 0 0 (F0 m 90 ls []) := by
    intro h_13_90 H locs ls hq hR hS hl
    rw [hq] at hm
    refine lv_iconst (v := 0) hx hb dd_P_closedBySweeping_90 (by decide) ?_
    refine lv_istore_n (lv' := [(3, .int (0 : Int32)), (0, ss_v (ss_b G) this), (1, .int a1), (2, .int v3)]) hx hb dd_P_closedBySweeping_91 rfl hl (by decide) rfl (fun ls hl => ?_)
    obtain ⟨e_92, he_92, hm⟩ := ss_bind hm
    have X_92_154 : ∀  (h_92_154 : ss_Hp) (H : Heap) (locs : List Loc) (ls : Array Slot), e_92 = h_92_154 → ss_R G h_92_154 H → va_S (ss_A G) s.heap H locs → lv_has ls 7 [(0, ss_v (ss_b G) this), (1, .int a1), (2, .int v3)] → ww_P_closedBySweeping p l e s m below meth c G this a1 h rr hh  H locs 0 0 (F0 m 154 ls []) := by
      intro h_92_154 H locs ls hq hR hS hl
      rw [hq] at hm
      refine lv_iload_n hx hb dd_P_closedBySweeping_154 rfl (lv_at hl 1 rfl) ?_
      refine ss_aload_n hx hb dd_P_closedBySweeping_155 rfl (lv_at hl 0 rfl) ?_
      obtain ⟨r4, qr4, hm⟩ := ss_bind hm
      refine ss_getr hC hK hR kf_P_21 rfl qr4 dd_P_closedBySweeping_156 ?_
      obtain ⟨r5, qr5, hm⟩ := ss_bind hm
      refine ss_getr hC hK hR kf_P_39 rfl qr5 dd_P_closedBySweeping_159 ?_
      obtain ⟨v6, qv6, hm⟩ := ss_bind hm
      refine ss_geti hC hK hR kf_P_79 qv6 dd_P_closedBySweeping_162 ?_
      refine lv_ior hx hb dd_P_closedBySweeping_165 ?_
      obtain ⟨v7, qv7, hm⟩ := ss_bind hm
      refine ss_topi qv7 ?_
      refine lv_istore_n (lv' := [(3, .int v7), (0, ss_v (ss_b G) this), (1, .int a1), (2, .int v3)]) hx hb dd_P_closedBySweeping_166 rfl hl (by decide) rfl (fun ls hl => ?_)
      refine lv_iconst (v := 0) hx hb dd_P_closedBySweeping_167 (by decide) ?_
      refine lv_istore (lv' := [(4, .int (0 : Int32)), (3, .int v7), (0, ss_v (ss_b G) this), (1, .int a1), (2, .int v3)]) hx hb dd_P_closedBySweeping_168 hl (by decide) rfl (fun ls hl => ?_)
      refine lv_iconst (v := 0) hx hb dd_P_closedBySweeping_170 (by decide) ?_
      refine lv_istore (lv' := [(5, .int (0 : Int32)), (4, .int (0 : Int32)), (3, .int v7), (0, ss_v (ss_b G) this), (1, .int a1), (2, .int v3)]) hx hb dd_P_closedBySweeping_171 hl (by decide) rfl (fun ls hl => ?_)
      obtain ⟨e_173, he_173, hm⟩ := ss_bind hm
      have X_173_240 : ∀ (y4_173_240 : Int32) (H : Heap) (locs : List Loc) (ls : Array Slot), e_173 = y4_173_240 → ss_R G h_92_154 H → va_S (ss_A G) s.heap H locs → lv_has ls 7 [(4, .int y4_173_240)] → ww_P_closedBySweeping p l e s m below meth c G this a1 h rr hh  H locs 0 0 (F0 m 240 ls []) := by
        intro y4_173_240 H locs ls hq hR hS hl
        rw [hq] at hm
        refine lv_iload hx hb dd_P_closedBySweeping_240 (lv_at hl 0 rfl) ?_
        exact ss_iret hC hr hlocks hR hS hm dd_P_closedBySweeping_242
      have L_173 : ∀ (n : Nat) (x4_173 : Int32) (x5_173 : Int32) (H : Heap) (locs : List Loc) (ls : Array Slot), ss_lp (mm_P_closedBySweeping_b173 N this v3 v7 h_92_154) n (x4_173, x5_173) = some e_173 → ss_R G h_92_154 H → va_S (ss_A G) s.heap H locs → lv_has ls 7 [(0, ss_v (ss_b G) this), (2, .int v3), (3, .int v7), (4, .int x4_173), (5, .int x5_173)] → ww_P_closedBySweeping p l e s m below meth c G this a1 h rr hh  H locs 0 0 (F0 m 173 ls []) := by
        intro n
        induction n with
        | zero => intro x4_173 x5_173 H locs ls hm; cases hm
        | succ n ih_173 =>
          intro x4_173 x5_173 H locs ls hm hR hS hl
          obtain ⟨z_173, hm, hz1_173, hz2_173⟩ := ss_lps hm
          have J_231 : ∀ (x5_231 : Int32) (s0_231 : Int32) (s1_231 : Int32) (H : Heap) (locs : List Loc) (ls : Array Slot), mm_P_closedBySweeping_j231 N this v3 v7 h_92_154 x5_231 s0_231 s1_231 = some z_173 → ss_R G h_92_154 H → va_S (ss_A G) s.heap H locs → lv_has ls 7 [(0, ss_v (ss_b G) this), (2, .int v3), (3, .int v7), (5, .int x5_231)] → ww_P_closedBySweeping p l e s m below meth c G this a1 h rr hh  H locs 0 0 (F0 m 231 ls [.int s1_231, .int s0_231]) := by
            intro x5_231 s0_231 s1_231 H locs ls hm hR hS hl
            refine lv_ior hx hb dd_P_closedBySweeping_231 ?_
            obtain ⟨v8, qv8, hm⟩ := ss_bind hm
            refine ss_topi qv8 ?_
            refine lv_istore (lv' := [(4, .int v8), (0, ss_v (ss_b G) this), (2, .int v3), (3, .int v7), (5, .int x5_231)]) hx hb dd_P_closedBySweeping_232 hl (by decide) rfl (fun ls hl => ?_)
            obtain ⟨v9, qv9, hm⟩ := ss_bind hm
            refine lv_iinc (v := v9) (lv' := [(5, .int v9), (4, .int v8), (0, ss_v (ss_b G) this), (2, .int v3), (3, .int v7)]) hx hb dd_P_closedBySweeping_234 hl (k := 4) rfl (ss_inc (by decide) qv9) (by decide) rfl (fun ls hl => ?_)
            refine lv_goto (tgt := 173) hx hb dd_P_closedBySweeping_237 (by decide) ?_
            exact ih_173 v8 v9  _ _ _ (hz1_173 _ (ss_some hm)) hR hS (lv_sub hl [2, 3, 4, 1, 0] rfl)
          refine lv_iload hx hb dd_P_closedBySweeping_173 (lv_at hl 4 rfl) ?_
          refine lv_iload_n hx hb dd_P_closedBySweeping_175 rfl (lv_at hl 1 rfl) ?_
          refine lv_icmp_ge (tgt := 240) hx hb dd_P_closedBySweeping_176 (by decide) (fun c10 => ?_) (fun c10 => ?_)
          · have hm := ss_ift hm c10
            exact X_173_240 x4_173  _ _ _ (hz2_173 _ (ss_some hm)) hR hS (lv_sub hl [3] rfl)
          · have hm := ss_iff hm c10
            refine ss_aload_n hx hb dd_P_closedBySweeping_179 rfl (lv_at hl 0 rfl) ?_
            obtain ⟨r11, qr11, hm⟩ := ss_bind hm
            refine ss_getr hC hK hR kf_P_9 rfl qr11 dd_P_closedBySweeping_180 ?_
            refine lv_iload hx hb dd_P_closedBySweeping_183 (lv_at hl 4 rfl) ?_
            obtain ⟨v12, qv12, hm⟩ := ss_bind hm
            refine ss_iald hC hK hR qv12 dd_P_closedBySweeping_185 ?_
            refine lv_iload_n hx hb dd_P_closedBySweeping_186 rfl (lv_at hl 2 rfl) ?_
            refine lv_iload hx hb dd_P_closedBySweeping_187 (lv_at hl 4 rfl) ?_
            refine lv_ishr hx hb dd_P_closedBySweeping_189 ?_
            refine lv_iconst (v := 1) hx hb dd_P_closedBySweeping_190 (by decide) ?_
            refine lv_iand hx hb dd_P_closedBySweeping_191 ?_
            refine ss_aload_n hx hb dd_P_closedBySweeping_192 rfl (lv_at hl 0 rfl) ?_
            obtain ⟨r13, qr13, hm⟩ := ss_bind hm
            refine ss_getr hC hK hR kf_P_21 rfl qr13 dd_P_closedBySweeping_193 ?_
            obtain ⟨r14, qr14, hm⟩ := ss_bind hm
            refine ss_getr hC hK hR kf_P_50 rfl qr14 dd_P_closedBySweeping_196 ?_
            obtain ⟨v15, qv15, hm⟩ := ss_bind hm
            refine ss_geti hC hK hR kf_P_67 qv15 dd_P_closedBySweeping_199 ?_
            refine lv_imul hx hb dd_P_closedBySweeping_202 ?_
            refine lv_iadd hx hb dd_P_closedBySweeping_203 ?_
            obtain ⟨v16, qv16, hm⟩ := ss_bind hm
            refine ss_topi qv16 ?_
            refine lv_istore (lv' := [(6, .int v16), (0, ss_v (ss_b G) this), (2, .int v3), (3, .int v7), (4, .int x4_173), (5, .int x5_173)]) hx hb dd_P_closedBySweeping_204 hl (by decide) rfl (fun ls hl => ?_)
            refine lv_iload hx hb dd_P_closedBySweeping_206 (lv_at hl 4 rfl) ?_
            refine lv_iload hx hb dd_P_closedBySweeping_208 (lv_at hl 0 rfl) ?_
            refine ss_aload_n hx hb dd_P_closedBySweeping_210 rfl (lv_at hl 1 rfl) ?_
            obtain ⟨r17, qr17, hm⟩ := ss_bind hm
            refine ss_getr hC hK hR kf_P_21 rfl qr17 dd_P_closedBySweeping_211 ?_
            obtain ⟨r18, qr18, hm⟩ := ss_bind hm
            refine ss_getr hC hK hR kf_P_50 rfl qr18 dd_P_closedBySweeping_214 ?_
            obtain ⟨v19, qv19, hm⟩ := ss_bind hm
            refine ss_geti hC hK hR kf_P_54 qv19 dd_P_closedBySweeping_217 ?_
            refine lv_icmp_lt (tgt := 230) hx hb dd_P_closedBySweeping_220 (by decide) (fun c20 => ?_) (fun c20 => ?_)
            · have hm := ss_ift hm c20
              refine lv_iconst (v := 0) hx hb dd_P_closedBySweeping_230 (by decide) ?_
              exact J_231 x5_173 x4_173 (0 : Int32)  _ _ _ hm hR hS (lv_sub hl [1, 2, 3, 5] rfl)
            · have hm := ss_iff hm c20
              refine lv_iconst (v := 1) hx hb dd_P_closedBySweeping_223 (by decide) ?_
              refine lv_iload hx hb dd_P_closedBySweeping_224 (lv_at hl 5 rfl) ?_
              refine lv_ishl hx hb dd_P_closedBySweeping_226 ?_
              refine lv_goto (tgt := 231) hx hb dd_P_closedBySweeping_227 (by decide) ?_
              exact J_231 x5_173 x4_173 ((1 : Int32) <<< (x5_173 &&& 31))  _ _ _ hm hR hS (lv_sub hl [1, 2, 3, 5] rfl)
      exact L_173 N (0 : Int32) (0 : Int32) _ _ _ he_173 hR hS (lv_sub hl [3, 5, 2, 1, 0] rfl)
    have L_92 : ∀ (n : Nat) (x3_92 : Int32) (h_92 : ss_Hp) (H : Heap) (locs : List Loc) (ls : Array Slot), ss_lp (mm_P_closedBySweeping_b92 N this a1 v3) n (x3_92, h_92) = some e_92 → ss_R G h_92 H → va_S (ss_A G) s.heap H locs → lv_has ls 7 [(0, ss_v (ss_b G) this), (1, .int a1), (2, .int v3), (3, .int x3_92)] → ww_P_closedBySweeping p l e s m below meth c G this a1 h rr hh  H locs 0 0 (F0 m 92 ls []) := by
      intro n
      induction n with
      | zero => intro x3_92 h_92 H locs ls hm; cases hm
      | succ n ih_92 =>
        intro x3_92 h_92 H locs ls hm hR hS hl
        obtain ⟨z_92, hm, hz1_92, hz2_92⟩ := ss_lps hm
        have J_148 : ∀ (x3_148 : Int32) (h_148 : ss_Hp) (H : Heap) (locs : List Loc) (ls : Array Slot), mm_P_closedBySweeping_j148 N this a1 v3 x3_148 h_148 = some z_92 → ss_R G h_148 H → va_S (ss_A G) s.heap H locs → lv_has ls 7 [(0, ss_v (ss_b G) this), (1, .int a1), (2, .int v3), (3, .int x3_148)] → ww_P_closedBySweeping p l e s m below meth c G this a1 h rr hh  H locs 0 0 (F0 m 148 ls []) := by
          intro x3_148 h_148 H locs ls hm hR hS hl
          obtain ⟨v21, qv21, hm⟩ := ss_bind hm
          refine lv_iinc (v := v21) (lv' := [(3, .int v21), (0, ss_v (ss_b G) this), (1, .int a1), (2, .int v3)]) hx hb dd_P_closedBySweeping_148 hl (k := 3) rfl (ss_inc (by decide) qv21) (by decide) rfl (fun ls hl => ?_)
          refine lv_goto (tgt := 92) hx hb dd_P_closedBySweeping_151 (by decide) ?_
          exact ih_92 v21 h_148 _ _ _ (hz1_92 _ (ss_some hm)) hR hS (lv_sub hl [1, 2, 3, 0] rfl)
        refine lv_iload_n hx hb dd_P_closedBySweeping_92 rfl (lv_at hl 3 rfl) ?_
        refine lv_iload_n hx hb dd_P_closedBySweeping_93 rfl (lv_at hl 2 rfl) ?_
        refine lv_icmp_ge (tgt := 154) hx hb dd_P_closedBySweeping_94 (by decide) (fun c22 => ?_) (fun c22 => ?_)
        · have hm := ss_ift hm c22
          exact X_92_154 h_92 _ _ _ (hz2_92 _ (ss_some hm)) hR hS (lv_sub hl [0, 1, 2] rfl)
        · have hm := ss_iff hm c22
          refine ss_aload_n hx hb dd_P_closedBySweeping_97 rfl (lv_at hl 0 rfl) ?_
          obtain ⟨r23, qr23, hm⟩ := ss_bind hm
          refine ss_getr hC hK hR kf_P_21 rfl qr23 dd_P_closedBySweeping_98 ?_
          obtain ⟨r24, qr24, hm⟩ := ss_bind hm
          refine ss_getr hC hK hR kf_P_39 rfl qr24 dd_P_closedBySweeping_101 ?_
          obtain ⟨r25, qr25, hm⟩ := ss_bind hm
          refine ss_getr hC hK hR kf_P_76 rfl qr25 dd_P_closedBySweeping_104 ?_
          refine lv_iload_n hx hb dd_P_closedBySweeping_107 rfl (lv_at hl 3 rfl) ?_
          obtain ⟨v26, qv26, hm⟩ := ss_bind hm
          refine ss_iald hC hK hR qv26 dd_P_closedBySweeping_108 ?_
          refine lv_istore (lv' := [(4, .int v26), (0, ss_v (ss_b G) this), (1, .int a1), (2, .int v3), (3, .int x3_92)]) hx hb dd_P_closedBySweeping_109 hl (by decide) rfl (fun ls hl => ?_)
          refine lv_iload_n hx hb dd_P_closedBySweeping_111 rfl (lv_at hl 2 rfl) ?_
          refine lv_iload_n hx hb dd_P_closedBySweeping_112 rfl (lv_at hl 4 rfl) ?_
          refine lv_ishr hx hb dd_P_closedBySweeping_113 ?_
          refine lv_iconst (v := 1) hx hb dd_P_closedBySweeping_114 (by decide) ?_
          refine lv_iand hx hb dd_P_closedBySweeping_115 ?_
          refine lv_iconst (v := 1) hx hb dd_P_closedBySweeping_116 (by decide) ?_
          refine lv_icmp_ne (tgt := 148) hx hb dd_P_closedBySweeping_117 (by decide) (fun c27 => ?_) (fun c27 => ?_)
          · have hm := ss_iff hm c27
            exact J_148 x3_92 h_92 _ _ _ hm hR hS (lv_sub hl [1, 2, 3, 4] rfl)
          · have hm := ss_ift hm c27
            refine lv_iload hx hb dd_P_closedBySweeping_120 (lv_at hl 0 rfl) ?_
            refine lv_iconst (v := -1) hx hb dd_P_closedBySweeping_122 (by decide) ?_
            refine lv_icmp_eq (tgt := 148) hx hb dd_P_closedBySweeping_123 (by decide) (fun c28 => ?_) (fun c28 => ?_)
            · have hm := ss_ift hm c28
              exact J_148 x3_92 h_92 _ _ _ hm hR hS (lv_sub hl [1, 2, 3, 4] rfl)
            · have hm := ss_iff hm c28
              refine ss_aload_n hx hb dd_P_closedBySweeping_126 rfl (lv_at hl 1 rfl) ?_
              obtain ⟨r29, qr29, hm⟩ := ss_bind hm
              refine ss_getr hC hK hR kf_P_9 rfl qr29 dd_P_closedBySweeping_127 ?_
              refine lv_iload hx hb dd_P_closedBySweeping_130 (lv_at hl 0 rfl) ?_
              refine ss_dup2ir hx hb dd_P_closedBySweeping_132 ?_
              obtain ⟨v30, qv30, hm⟩ := ss_bind hm
              refine ss_iald hC hK hR qv30 dd_P_closedBySweeping_133 ?_
              refine ss_aload_n hx hb dd_P_closedBySweeping_134 rfl (lv_at hl 1 rfl) ?_
              obtain ⟨r31, qr31, hm⟩ := ss_bind hm
              refine ss_getr hC hK hR kf_P_21 rfl qr31 dd_P_closedBySweeping_135 ?_
              obtain ⟨r32, qr32, hm⟩ := ss_bind hm
              refine ss_getr hC hK hR kf_P_39 rfl qr32 dd_P_closedBySweeping_138 ?_
              obtain ⟨r33, qr33, hm⟩ := ss_bind hm
              refine ss_getr hC hK hR kf_P_45 rfl qr33 dd_P_closedBySweeping_141 ?_
              refine lv_iload_n hx hb dd_P_closedBySweeping_144 rfl (lv_at hl 4 rfl) ?_
              obtain ⟨v34, qv34, hm⟩ := ss_bind hm
              refine ss_iald hC hK hR qv34 dd_P_closedBySweeping_145 ?_
              refine lv_iadd hx hb dd_P_closedBySweeping_146 ?_
              obtain ⟨h35, qh35, hm⟩ := ss_bind hm
              refine ss_iast hC hK hR hS qh35 dd_P_closedBySweeping_147 (fun H locs hR hS => ?_)
              exact J_148 x3_92 h35 _ _ _ hm hR hS (lv_sub hl [1, 2, 3, 4] rfl)
    exact L_92 N (0 : Int32) h_13_90 _ _ _ he_92 hR hS (lv_sub hl [1, 2, 3, 0] rfl)
  have X_13_54 : ∀  (h_13_54 : ss_Hp) (H : Heap) (locs : List Loc) (ls : Array Slot), e_13 = (.inr h_13_54) → ss_R G h_13_54 H → va_S (ss_A G) s.heap H locs → lv_has ls 7 [] → ww_P_closedBySweeping p l e s m below meth c G this a1 h rr hh  H locs 0 0 (F0 m 54 ls []) := by
    intro h_13_54 H locs ls hq hR hS hl
    rw [hq] at hm
    refine lv_bipush (v := -2) hx hb dd_P_closedBySweeping_54 (by decide) ?_
    exact ss_iret hC hr hlocks hR hS hm dd_P_closedBySweeping_56
  have L_13 : ∀ (n : Nat) (x3_13 : Int32) (h_13 : ss_Hp) (H : Heap) (locs : List Loc) (ls : Array Slot), ss_lp (mm_P_closedBySweeping_b13 N this a1 v3) n (x3_13, h_13) = some e_13 → ss_R G h_13 H → va_S (ss_A G) s.heap H locs → lv_has ls 7 [(0, ss_v (ss_b G) this), (1, .int a1), (2, .int v3), (3, .int x3_13)] → ww_P_closedBySweeping p l e s m below meth c G this a1 h rr hh  H locs 0 0 (F0 m 13 ls []) := by
    intro n
    induction n with
    | zero => intro x3_13 h_13 H locs ls hm; cases hm
    | succ n ih_13 =>
      intro x3_13 h_13 H locs ls hm hR hS hl
      obtain ⟨z_13, hm, hz1_13, hz2_13⟩ := ss_lps hm
      have J_83 : ∀ (x3_83 : Int32) (s0_83 : Option Nat) (s1_83 : Int32) (s2_83 : Int32) (h_83 : ss_Hp) (H : Heap) (locs : List Loc) (ls : Array Slot), mm_P_closedBySweeping_j83 N this a1 v3 x3_83 s0_83 s1_83 s2_83 h_83 = some z_13 → ss_R G h_83 H → va_S (ss_A G) s.heap H locs → lv_has ls 7 [(0, ss_v (ss_b G) this), (1, .int a1), (2, .int v3), (3, .int x3_83)] → ww_P_closedBySweeping p l e s m below meth c G this a1 h rr hh  H locs 0 0 (F0 m 83 ls [.int s2_83, .int s1_83, ss_v (ss_b G) s0_83]) := by
        intro x3_83 s0_83 s1_83 s2_83 h_83 H locs ls hm hR hS hl
        obtain ⟨h36, qh36, hm⟩ := ss_bind hm
        refine ss_iast hC hK hR hS qh36 dd_P_closedBySweeping_83 (fun H locs hR hS => ?_)
        obtain ⟨v37, qv37, hm⟩ := ss_bind hm
        refine lv_iinc (v := v37) (lv' := [(3, .int v37), (0, ss_v (ss_b G) this), (1, .int a1), (2, .int v3)]) hx hb dd_P_closedBySweeping_84 hl (k := 3) rfl (ss_inc (by decide) qv37) (by decide) rfl (fun ls hl => ?_)
        refine lv_goto (tgt := 13) hx hb dd_P_closedBySweeping_87 (by decide) ?_
        exact ih_13 v37 h36 _ _ _ (hz1_13 _ (ss_some hm)) hR hS (lv_sub hl [1, 2, 3, 0] rfl)
      have J_57 : ∀ (x3_57 : Int32) (x4_57 : Int32) (h_57 : ss_Hp) (H : Heap) (locs : List Loc) (ls : Array Slot), mm_P_closedBySweeping_j57 N this a1 v3 x3_57 x4_57 h_57 = some z_13 → ss_R G h_57 H → va_S (ss_A G) s.heap H locs → lv_has ls 7 [(0, ss_v (ss_b G) this), (1, .int a1), (2, .int v3), (3, .int x3_57), (4, .int x4_57)] → ww_P_closedBySweeping p l e s m below meth c G this a1 h rr hh  H locs 0 0 (F0 m 57 ls []) := by
        intro x3_57 x4_57 h_57 H locs ls hm hR hS hl
        refine ss_aload_n hx hb dd_P_closedBySweeping_57 rfl (lv_at hl 0 rfl) ?_
        obtain ⟨r38, qr38, hm⟩ := ss_bind hm
        refine ss_getr hC hK hR kf_P_9 rfl qr38 dd_P_closedBySweeping_58 ?_
        refine lv_iload_n hx hb dd_P_closedBySweeping_61 rfl (lv_at hl 3 rfl) ?_
        refine lv_iload hx hb dd_P_closedBySweeping_62 (lv_at hl 4 rfl) ?_
        refine lv_if_eq (tgt := 71) hx hb dd_P_closedBySweeping_64 (by decide) (fun c39 => ?_) (fun c39 => ?_)
        · have hm := ss_ift hm c39
          refine ss_aload_n hx hb dd_P_closedBySweeping_71 rfl (lv_at hl 0 rfl) ?_
          obtain ⟨r40, qr40, hm⟩ := ss_bind hm
          refine ss_getr hC hK hR kf_P_21 rfl qr40 dd_P_closedBySweeping_72 ?_
          obtain ⟨r41, qr41, hm⟩ := ss_bind hm
          refine ss_getr hC hK hR kf_P_39 rfl qr41 dd_P_closedBySweeping_75 ?_
          obtain ⟨r42, qr42, hm⟩ := ss_bind hm
          refine ss_getr hC hK hR kf_P_45 rfl qr42 dd_P_closedBySweeping_78 ?_
          refine lv_iload_n hx hb dd_P_closedBySweeping_81 rfl (lv_at hl 3 rfl) ?_
          obtain ⟨v43, qv43, hm⟩ := ss_bind hm
          refine ss_iald hC hK hR qv43 dd_P_closedBySweeping_82 ?_
          exact J_83 x3_57 r38 x3_57 v43 h_57 _ _ _ hm hR hS (lv_sub hl [0, 1, 2, 3] rfl)
        · have hm := ss_iff hm c39
          refine lv_iconst (v := 0) hx hb dd_P_closedBySweeping_67 (by decide) ?_
          refine lv_goto (tgt := 83) hx hb dd_P_closedBySweeping_68 (by decide) ?_
          exact J_83 x3_57 r38 x3_57 (0 : Int32) h_57 _ _ _ hm hR hS (lv_sub hl [0, 1, 2, 3] rfl)
      have J_32 : ∀ (x3_32 : Int32) (s0_32 : Int32) (h_32 : ss_Hp) (H : Heap) (locs : List Loc) (ls : Array Slot), mm_P_closedBySweeping_j32 N this a1 v3 x3_32 s0_32 h_32 = some z_13 → ss_R G h_32 H → va_S (ss_A G) s.heap H locs → lv_has ls 7 [(0, ss_v (ss_b G) this), (1, .int a1), (2, .int v3), (3, .int x3_32)] → ww_P_closedBySweeping p l e s m below meth c G this a1 h rr hh  H locs 0 0 (F0 m 32 ls [.int s0_32]) := by
        intro x3_32 s0_32 h_32 H locs ls hm hR hS hl
        refine lv_istore (lv' := [(4, .int s0_32), (0, ss_v (ss_b G) this), (1, .int a1), (2, .int v3), (3, .int x3_32)]) hx hb dd_P_closedBySweeping_32 hl (by decide) rfl (fun ls hl => ?_)
        refine lv_iload hx hb dd_P_closedBySweeping_34 (lv_at hl 0 rfl) ?_
        refine lv_if_eq (tgt := 57) hx hb dd_P_closedBySweeping_36 (by decide) (fun c44 => ?_) (fun c44 => ?_)
        · have hm := ss_ift hm c44
          exact J_57 x3_32 s0_32 h_32 _ _ _ hm hR hS (lv_sub hl [1, 2, 3, 4, 0] rfl)
        · have hm := ss_iff hm c44
          refine ss_aload_n hx hb dd_P_closedBySweeping_39 rfl (lv_at hl 1 rfl) ?_
          obtain ⟨r45, qr45, hm⟩ := ss_bind hm
          refine ss_getr hC hK hR kf_P_21 rfl qr45 dd_P_closedBySweeping_40 ?_
          obtain ⟨r46, qr46, hm⟩ := ss_bind hm
          refine ss_getr hC hK hR kf_P_39 rfl qr46 dd_P_closedBySweeping_43 ?_
          obtain ⟨r47, qr47, hm⟩ := ss_bind hm
          refine ss_getr hC hK hR kf_P_45 rfl qr47 dd_P_closedBySweeping_46 ?_
          refine lv_iload_n hx hb dd_P_closedBySweeping_49 rfl (lv_at hl 4 rfl) ?_
          obtain ⟨v48, qv48, hm⟩ := ss_bind hm
          refine ss_iald hC hK hR qv48 dd_P_closedBySweeping_50 ?_
          refine lv_if_ne (tgt := 57) hx hb dd_P_closedBySweeping_51 (by decide) (fun c49 => ?_) (fun c49 => ?_)
          · have hm := ss_iff hm c49
            exact J_57 x3_32 s0_32 h_32 _ _ _ hm hR hS (lv_sub hl [1, 2, 3, 4, 0] rfl)
          · have hm := ss_ift hm c49
            exact X_13_54 h_32 _ _ _ (hz2_13 _ (ss_some hm)) hR hS (lv_sub hl [] rfl)
      refine lv_iload_n hx hb dd_P_closedBySweeping_13 rfl (lv_at hl 3 rfl) ?_
      refine lv_iload_n hx hb dd_P_closedBySweeping_14 rfl (lv_at hl 2 rfl) ?_
      refine lv_icmp_ge (tgt := 90) hx hb dd_P_closedBySweeping_15 (by decide) (fun c50 => ?_) (fun c50 => ?_)
      · have hm := ss_ift hm c50
        exact X_13_90 h_13 _ _ _ (hz2_13 _ (ss_some hm)) hR hS (lv_sub hl [0, 1, 2] rfl)
      · have hm := ss_iff hm c50
        refine lv_iload_n hx hb dd_P_closedBySweeping_18 rfl (lv_at hl 1 rfl) ?_
        refine lv_iload_n hx hb dd_P_closedBySweeping_19 rfl (lv_at hl 3 rfl) ?_
        refine lv_ishr hx hb dd_P_closedBySweeping_20 ?_
        refine lv_iconst (v := 1) hx hb dd_P_closedBySweeping_21 (by decide) ?_
        refine lv_iand hx hb dd_P_closedBySweeping_22 ?_
        refine lv_iconst (v := 1) hx hb dd_P_closedBySweeping_23 (by decide) ?_
        refine lv_icmp_ne (tgt := 31) hx hb dd_P_closedBySweeping_24 (by decide) (fun c51 => ?_) (fun c51 => ?_)
        · have hm := ss_iff hm c51
          refine lv_iconst (v := 0) hx hb dd_P_closedBySweeping_31 (by decide) ?_
          exact J_32 x3_13 (0 : Int32) h_13 _ _ _ hm hR hS hl
        · have hm := ss_ift hm c51
          refine lv_iconst (v := 1) hx hb dd_P_closedBySweeping_27 (by decide) ?_
          refine lv_goto (tgt := 32) hx hb dd_P_closedBySweeping_28 (by decide) ?_
          exact J_32 x3_13 (1 : Int32) h_13 _ _ _ hm hR hS hl
  exact L_13 N (0 : Int32) h _ _ _ he_13 hR hS (lv_sub hl [2, 3, 1, 0] rfl)
