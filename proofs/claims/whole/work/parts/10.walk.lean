theorem dd_T_init_0 : decode bb_T_init 0 = .ok (.aload_n 0, 1) := by decide +kernel
theorem dd_T_init_1 : decode bb_T_init 1 = .ok (.invokespecial 3, 3) := by decide +kernel
theorem dd_T_init_4 : decode bb_T_init 4 = .ok (.aload_n 0, 1) := by decide +kernel
theorem dd_T_init_5 : decode bb_T_init 5 = .ok (.sipush 400, 3) := by decide +kernel
theorem dd_T_init_8 : decode bb_T_init 8 = .ok (.newarray .int, 2) := by decide +kernel
theorem dd_T_init_10 : decode bb_T_init 10 = .ok (.putfield 11, 3) := by decide +kernel
theorem dd_T_init_13 : decode bb_T_init 13 = .ok (.return_, 1) := by decide +kernel
def mm_T_init (N : Nat) (this : Option Nat) (h : ss_Hp) : Option ss_Hp :=
  if ss_is h this 2 = true then
    ss_b2 (ss_na h 20 400 (400 : Int32)) fun r1 h2 =>
    (ss_pr h2 this 2 0 r1).bind fun h3 =>
    some h3
  else none
abbrev ww_T_init (p : Program) (l : Launch) (e : Env) (s : State) (m : MethodId) (below : List Frame) (meth : Method) (c : Code) (G : ss_G) (this : Option Nat) (h : ss_Hp) (hh : ss_Hp) (H : Heap) (locs : List Loc) (k n : Nat) (g : JFrame) : Prop := W p l e (headSpec (ss_w yy_T_init bb_T_init 1 none) ({ frames := 1, cells := 1, slots := 400, locals := 80 })).room s m ([ss_v (ss_b G) this] : List Value).toArray below meth c H locs k n (MQ below (ss_Qc G none hh) ([ss_v (ss_b G) this] : List Value).toArray s 1 400 (ss_A G)) g
theorem ck_T_init {N : Nat} {this : Option Nat} {h : ss_Hp} {res : ss_Hp} (hm : mm_T_init N this h = some res) : ss_is h this 2 = true := (ss_chk hm).1
set_option maxHeartbeats 4000000 in
set_option maxRecDepth 100000 in
theorem cc_T_init (l : Launch) (G : ss_G) (N : Nat) (this : Option Nat) (h : ss_Hp) (hh : ss_Hp) (hm : mm_T_init N this h = some hh) : ss_Ct l G yy_T_init bb_T_init 1 none ({ frames := 1, cells := 1, slots := 400, locals := 80 }) [ss_v (ss_b G) this] h none hh := by
  obtain ⟨hck, hm⟩ := ss_chk hm
  refine Met.ofW (cc := bb_T_init) (maxL := 1) (ret := none) (by decide) rfl ?_
  intro p e s m args below meth c s₁ B hml hv
  obtain ⟨rfl, hR, hK⟩ := hv
  have hC : CallFix p m c bb_T_init 1 s _ lw_g sR_2 := ⟨B.exec, B.bytes, hml, findClass_of_methodNamed B.named, fun w hw => atoms_spec (ws := ss_w yy_T_init bb_T_init 1 none) B.pre w (List.mem_cons_of_mem _ hw)⟩
  have hx := hC.1
  have hb := hC.2.1
  have hr := B.returns
  have hlocks := B.notSynchronized
  have hin : meth.name = "<init>" := (name_of_methodNamed B.named B.method).1
  have hS : va_S (ss_A G) s.heap s.heap [] := va_S.rf
  have hl := lv_entry ([ss_v (ss_b G) this]) (n := 1) (by simp [lg_sl, ss_v_cat, ss_cat_i, ss_cat_l, ss_cat_r])
  rw [lg_entry_eq]
  generalize (lg_sl ([ss_v (ss_b G) this]) ++ List.replicate (1 - (lg_sl ([ss_v (ss_b G) this])).length) Slot.unset).toArray = ls at hl ⊢
  have hl : lv_has ls 1 [(0, ss_v (ss_b G) this)] := by simpa [lv_args, ss_v_cat, ss_cat_i, ss_cat_l, ss_cat_r] using hl
  refine ss_aload_n hx hb dd_T_init_0 rfl (lv_at hl 0 rfl) ?_
  obtain ⟨_, hck1⟩ := ss_isSome hck
  refine ss_init hC hl.1 kj_T_3 kj_oi kj_oc hck1 (Nat.le_of_ble_eq_true rfl) (Nat.le_of_ble_eq_true rfl) (Nat.le_of_ble_eq_true rfl) dd_T_init_1 ?_
  refine ss_aload_n hx hb dd_T_init_4 rfl (lv_at hl 0 rfl) ?_
  refine lv_sipush (v := 400) hx hb dd_T_init_5 (by decide) ?_
  obtain ⟨r1, h2, qh2, hm⟩ := ss_bind2 hm
  refine ss_newai hC hK hR hS kt_int rfl rfl (by decide) (t0 := 0) rfl (by decide) qh2 (by decide) (Nat.le_of_ble_eq_true rfl) (Nat.le_of_ble_eq_true rfl) dd_T_init_8 (fun H hR hS => ?_)
  refine W.widen (k := 1) (n := 400) (Nat.le_of_ble_eq_true rfl) (Nat.le_of_ble_eq_true rfl) ?_
  obtain ⟨h3, qh3, hm⟩ := ss_bind hm
  refine ss_putrF hC hK hR hS hin kq_T_11 rfl (Or.inr ⟨_, rfl⟩) qh3 dd_T_init_10 (fun H locs hR hS => ?_)
  exact ss_vret hC hr hlocks hR hS hm dd_T_init_13
theorem dd_G_init_0 : decode bb_G_init 0 = .ok (.aload_n 0, 1) := by decide +kernel
theorem dd_G_init_1 : decode bb_G_init 1 = .ok (.invokespecial 3, 3) := by decide +kernel
theorem dd_G_init_4 : decode bb_G_init 4 = .ok (.aload_n 0, 1) := by decide +kernel
theorem dd_G_init_5 : decode bb_G_init 5 = .ok (.bipush 8, 2) := by decide +kernel
theorem dd_G_init_7 : decode bb_G_init 7 = .ok (.newarray .int, 2) := by decide +kernel
theorem dd_G_init_9 : decode bb_G_init 9 = .ok (.putfield 9, 3) := by decide +kernel
theorem dd_G_init_12 : decode bb_G_init 12 = .ok (.aload_n 0, 1) := by decide +kernel
theorem dd_G_init_13 : decode bb_G_init 13 = .ok (.bipush 8, 2) := by decide +kernel
theorem dd_G_init_15 : decode bb_G_init 15 = .ok (.newarray .int, 2) := by decide +kernel
theorem dd_G_init_17 : decode bb_G_init 17 = .ok (.putfield 15, 3) := by decide +kernel
theorem dd_G_init_20 : decode bb_G_init 20 = .ok (.iconst 0, 1) := by decide +kernel
theorem dd_G_init_21 : decode bb_G_init 21 = .ok (.istore_n 1, 1) := by decide +kernel
theorem dd_G_init_22 : decode bb_G_init 22 = .ok (.iload_n 1, 1) := by decide +kernel
theorem dd_G_init_23 : decode bb_G_init 23 = .ok (.bipush 8, 2) := by decide +kernel
theorem dd_G_init_25 : decode bb_G_init 25 = .ok (.if_icmp .ge 16, 3) := by decide +kernel
theorem dd_G_init_28 : decode bb_G_init 28 = .ok (.aload_n 0, 1) := by decide +kernel
theorem dd_G_init_29 : decode bb_G_init 29 = .ok (.getfield 15, 3) := by decide +kernel
theorem dd_G_init_32 : decode bb_G_init 32 = .ok (.iload_n 1, 1) := by decide +kernel
theorem dd_G_init_33 : decode bb_G_init 33 = .ok (.iconst (-1), 1) := by decide +kernel
theorem dd_G_init_34 : decode bb_G_init 34 = .ok (.iastore, 1) := by decide +kernel
theorem dd_G_init_35 : decode bb_G_init 35 = .ok (.iinc 1 1, 3) := by decide +kernel
theorem dd_G_init_38 : decode bb_G_init 38 = .ok (.goto (-16), 3) := by decide +kernel
theorem dd_G_init_41 : decode bb_G_init 41 = .ok (.return_, 1) := by decide +kernel
def mm_G_init_b22 (N : Nat) (this : Option Nat) (st : Int32 × ss_Hp) : Option ((Int32 × ss_Hp) ⊕ ss_Hp) :=
  match st with
  | (x1_22, h_22) =>
    if (8 : Int32) ≤ x1_22 then
      some (.inr h_22)
    else
      (ss_gr h_22 this 0 1).bind fun r8 =>
      (ss_ui h_22 r8 20 x1_22 (-1 : Int32)).bind fun h9 =>
      (some (x1_22 + (1 : Int32))).bind fun v10 =>
      some (.inl (v10, h9))
def mm_G_init (N : Nat) (this : Option Nat) (h : ss_Hp) : Option ss_Hp :=
  if ss_is h this 0 = true then
    ss_b2 (ss_na h 20 8 (8 : Int32)) fun r1 h2 =>
    (ss_pr h2 this 0 0 r1).bind fun h3 =>
    ss_b2 (ss_na h3 20 8 (8 : Int32)) fun r4 h5 =>
    (ss_pr h5 this 0 1 r4).bind fun h6 =>
    (ss_lp (mm_G_init_b22 N this) N ((0 : Int32), h6)).bind fun h_22_41 =>
    some h_22_41
  else none
abbrev ww_G_init (p : Program) (l : Launch) (e : Env) (s : State) (m : MethodId) (below : List Frame) (meth : Method) (c : Code) (G : ss_G) (this : Option Nat) (h : ss_Hp) (hh : ss_Hp) (H : Heap) (locs : List Loc) (k n : Nat) (g : JFrame) : Prop := W p l e (headSpec (ss_w yy_G_init bb_G_init 2 none) ({ frames := 1, cells := 2, slots := 16, locals := 80 })).room s m ([ss_v (ss_b G) this] : List Value).toArray below meth c H locs k n (MQ below (ss_Qc G none hh) ([ss_v (ss_b G) this] : List Value).toArray s 2 16 (ss_A G)) g
theorem ck_G_init {N : Nat} {this : Option Nat} {h : ss_Hp} {res : ss_Hp} (hm : mm_G_init N this h = some res) : ss_is h this 0 = true := (ss_chk hm).1
set_option maxHeartbeats 4000000 in
set_option maxRecDepth 100000 in
theorem cc_G_init (l : Launch) (G : ss_G) (N : Nat) (this : Option Nat) (h : ss_Hp) (hh : ss_Hp) (hm : mm_G_init N this h = some hh) : ss_Ct l G yy_G_init bb_G_init 2 none ({ frames := 1, cells := 2, slots := 16, locals := 80 }) [ss_v (ss_b G) this] h none hh := by
  obtain ⟨hck, hm⟩ := ss_chk hm
  refine Met.ofW (cc := bb_G_init) (maxL := 2) (ret := none) (by decide) rfl ?_
  intro p e s m args below meth c s₁ B hml hv
  obtain ⟨rfl, hR, hK⟩ := hv
  have hC : CallFix p m c bb_G_init 2 s _ lw_g sR_0 := ⟨B.exec, B.bytes, hml, findClass_of_methodNamed B.named, fun w hw => atoms_spec (ws := ss_w yy_G_init bb_G_init 2 none) B.pre w (List.mem_cons_of_mem _ hw)⟩
  have hx := hC.1
  have hb := hC.2.1
  have hr := B.returns
  have hlocks := B.notSynchronized
  have hin : meth.name = "<init>" := (name_of_methodNamed B.named B.method).1
  have hS : va_S (ss_A G) s.heap s.heap [] := va_S.rf
  have hl := lv_entry ([ss_v (ss_b G) this]) (n := 2) (by simp [lg_sl, ss_v_cat, ss_cat_i, ss_cat_l, ss_cat_r])
  rw [lg_entry_eq]
  generalize (lg_sl ([ss_v (ss_b G) this]) ++ List.replicate (2 - (lg_sl ([ss_v (ss_b G) this])).length) Slot.unset).toArray = ls at hl ⊢
  have hl : lv_has ls 2 [(0, ss_v (ss_b G) this)] := by simpa [lv_args, ss_v_cat, ss_cat_i, ss_cat_l, ss_cat_r] using hl
  refine ss_aload_n hx hb dd_G_init_0 rfl (lv_at hl 0 rfl) ?_
  obtain ⟨_, hck1⟩ := ss_isSome hck
  refine ss_init hC hl.1 kj_G_3 kj_oi kj_oc hck1 (Nat.le_of_ble_eq_true rfl) (Nat.le_of_ble_eq_true rfl) (Nat.le_of_ble_eq_true rfl) dd_G_init_1 ?_
  refine ss_aload_n hx hb dd_G_init_4 rfl (lv_at hl 0 rfl) ?_
  refine lv_bipush (v := 8) hx hb dd_G_init_5 (by decide) ?_
  obtain ⟨r1, h2, qh2, hm⟩ := ss_bind2 hm
  refine ss_newai hC hK hR hS kt_int rfl rfl (by decide) (t0 := 0) rfl (by decide) qh2 (by decide) (Nat.le_of_ble_eq_true rfl) (Nat.le_of_ble_eq_true rfl) dd_G_init_7 (fun H hR hS => ?_)
  refine W.widen (k := 1) (n := 8) (Nat.le_of_ble_eq_true rfl) (Nat.le_of_ble_eq_true rfl) ?_
  obtain ⟨h3, qh3, hm⟩ := ss_bind hm
  refine ss_putrF hC hK hR hS hin kq_G_9 rfl (Or.inr ⟨_, rfl⟩) qh3 dd_G_init_9 (fun H locs hR hS => ?_)
  refine ss_aload_n hx hb dd_G_init_12 rfl (lv_at hl 0 rfl) ?_
  refine lv_bipush (v := 8) hx hb dd_G_init_13 (by decide) ?_
  obtain ⟨r4, h5, qh5, hm⟩ := ss_bind2 hm
  refine ss_newai hC hK hR hS kt_int rfl rfl (by decide) (t0 := 0) rfl (by decide) qh5 (by decide) (Nat.le_of_ble_eq_true rfl) (Nat.le_of_ble_eq_true rfl) dd_G_init_15 (fun H hR hS => ?_)
  refine W.widen (k := 2) (n := 16) (Nat.le_of_ble_eq_true rfl) (Nat.le_of_ble_eq_true rfl) ?_
  obtain ⟨h6, qh6, hm⟩ := ss_bind hm
  refine ss_putrF hC hK hR hS hin kq_G_15 rfl (Or.inr ⟨_, rfl⟩) qh6 dd_G_init_17 (fun H locs hR hS => ?_)
  refine lv_iconst (v := 0) hx hb dd_G_init_20 (by decide) ?_
  refine lv_istore_n (lv' := [(1, .int (0 : Int32)), (0, ss_v (ss_b G) this)]) hx hb dd_G_init_21 rfl hl (by decide) (by simp only [List.filter_cons, ss_v_cat]; rfl) (fun ls hl => ?_)
  obtain ⟨e_22, he_22, hm⟩ := ss_bind hm
  have X_22_41 : ∀  (h_22_41 : ss_Hp) (H : Heap) (locs : List Loc) (ls : Array Slot), e_22 = h_22_41 → ss_R G h_22_41 H → va_S (ss_A G) s.heap H locs → lv_has ls 2 [] → ww_G_init p l e s m below meth c G this h hh  H locs 2 16 (F0 m 41 ls []) := by
    intro h_22_41 H locs ls hq hR hS hl
    rw [hq] at hm
    exact ss_vret hC hr hlocks hR hS hm dd_G_init_41
  have L_22 : ∀ (n : Nat) (x1_22 : Int32) (h_22 : ss_Hp) (H : Heap) (locs : List Loc) (ls : Array Slot), ss_lp (mm_G_init_b22 N this) n (x1_22, h_22) = some e_22 → ss_R G h_22 H → va_S (ss_A G) s.heap H locs → lv_has ls 2 [(0, ss_v (ss_b G) this), (1, .int x1_22)] → ww_G_init p l e s m below meth c G this h hh  H locs 2 16 (F0 m 22 ls []) := by
    intro n
    induction n with
    | zero => intro x1_22 h_22 H locs ls hm; cases hm
    | succ n ih_22 =>
      intro x1_22 h_22 H locs ls hm hR hS hl
      obtain ⟨z_22, hm, hz1_22, hz2_22⟩ := ss_lps hm
      refine lv_iload_n hx hb dd_G_init_22 rfl (lv_at hl 1 rfl) ?_
      refine lv_bipush (v := 8) hx hb dd_G_init_23 (by decide) ?_
      refine lv_icmp_ge (tgt := 41) hx hb dd_G_init_25 (by decide) (fun c7 => ?_) (fun c7 => ?_)
      · have hm := ss_ift hm c7
        exact X_22_41 h_22 _ _ _ (hz2_22 _ (ss_some hm)) hR hS (lv_sub hl [] rfl)
      · have hm := ss_iff hm c7
        refine ss_aload_n hx hb dd_G_init_28 rfl (lv_at hl 0 rfl) ?_
        obtain ⟨r8, qr8, hm⟩ := ss_bind hm
        refine ss_getr hC hK hR kf_G_15 rfl qr8 dd_G_init_29 ?_
        refine lv_iload_n hx hb dd_G_init_32 rfl (lv_at hl 1 rfl) ?_
        refine lv_iconst (v := -1) hx hb dd_G_init_33 (by decide) ?_
        obtain ⟨h9, qh9, hm⟩ := ss_bind hm
        refine ss_iast hC hK hR hS qh9 dd_G_init_34 (fun H locs hR hS => ?_)
        obtain ⟨v10, qv10, hm⟩ := ss_bind hm
        refine lv_iinc (v := v10) (lv' := [(1, .int v10), (0, ss_v (ss_b G) this)]) hx hb dd_G_init_35 hl (k := 1) rfl (ss_inc (by decide) qv10) (by decide) (by simp only [List.filter_cons, ss_v_cat]; rfl) (fun ls hl => ?_)
        refine lv_goto (tgt := 22) hx hb dd_G_init_38 (by decide) ?_
        exact ih_22 v10 h9 _ _ _ (hz1_22 _ (ss_some hm)) hR hS (lv_sub hl [1, 0] rfl)
  exact L_22 N (0 : Int32) h6 _ _ _ he_22 hR hS (lv_sub hl [1, 0] rfl)
theorem dd_V_init_0 : decode bb_V_init 0 = .ok (.aload_n 0, 1) := by decide +kernel
theorem dd_V_init_1 : decode bb_V_init 1 = .ok (.invokespecial 3, 3) := by decide +kernel
theorem dd_V_init_4 : decode bb_V_init 4 = .ok (.aload_n 0, 1) := by decide +kernel
theorem dd_V_init_5 : decode bb_V_init 5 = .ok (.iconst 4, 1) := by decide +kernel
theorem dd_V_init_6 : decode bb_V_init 6 = .ok (.newarray .int, 2) := by decide +kernel
theorem dd_V_init_8 : decode bb_V_init 8 = .ok (.putfield 9, 3) := by decide +kernel
theorem dd_V_init_11 : decode bb_V_init 11 = .ok (.aload_n 0, 1) := by decide +kernel
theorem dd_V_init_12 : decode bb_V_init 12 = .ok (.iconst 4, 1) := by decide +kernel
theorem dd_V_init_13 : decode bb_V_init 13 = .ok (.newarray .int, 2) := by decide +kernel
theorem dd_V_init_15 : decode bb_V_init 15 = .ok (.putfield 15, 3) := by decide +kernel
theorem dd_V_init_18 : decode bb_V_init 18 = .ok (.aload_n 0, 1) := by decide +kernel
theorem dd_V_init_19 : decode bb_V_init 19 = .ok (.bipush 8, 2) := by decide +kernel
theorem dd_V_init_21 : decode bb_V_init 21 = .ok (.newarray .int, 2) := by decide +kernel
theorem dd_V_init_23 : decode bb_V_init 23 = .ok (.putfield 18, 3) := by decide +kernel
theorem dd_V_init_26 : decode bb_V_init 26 = .ok (.aload_n 0, 1) := by decide +kernel
theorem dd_V_init_27 : decode bb_V_init 27 = .ok (.bipush 8, 2) := by decide +kernel
theorem dd_V_init_29 : decode bb_V_init 29 = .ok (.newarray .int, 2) := by decide +kernel
theorem dd_V_init_31 : decode bb_V_init 31 = .ok (.putfield 21, 3) := by decide +kernel
theorem dd_V_init_34 : decode bb_V_init 34 = .ok (.aload_n 0, 1) := by decide +kernel
theorem dd_V_init_35 : decode bb_V_init 35 = .ok (.new 24, 3) := by decide +kernel
theorem dd_V_init_38 : decode bb_V_init 38 = .ok (.dup, 1) := by decide +kernel
theorem dd_V_init_39 : decode bb_V_init 39 = .ok (.invokespecial 26, 3) := by decide +kernel
theorem dd_V_init_42 : decode bb_V_init 42 = .ok (.putfield 27, 3) := by decide +kernel
theorem dd_V_init_45 : decode bb_V_init 45 = .ok (.return_, 1) := by decide +kernel
def mm_V_init (N : Nat) (this : Option Nat) (h : ss_Hp) : Option ss_Hp :=
  if ss_is h this 5 = true then
    ss_b2 (ss_na h 20 4 (4 : Int32)) fun r1 h2 =>
    (ss_pr h2 this 5 0 r1).bind fun h3 =>
    ss_b2 (ss_na h3 20 4 (4 : Int32)) fun r4 h5 =>
    (ss_pr h5 this 5 1 r4).bind fun h6 =>
    ss_b2 (ss_na h6 20 8 (8 : Int32)) fun r7 h8 =>
    (ss_pr h8 this 5 2 r7).bind fun h9 =>
    ss_b2 (ss_na h9 20 8 (8 : Int32)) fun r10 h11 =>
    (ss_pr h11 this 5 3 r10).bind fun h12 =>
    ss_b2 (ss_no h12 0 4 0 2) fun r13 h14 =>
    (mm_G_init N r13 h14).bind fun h15 =>
    (ss_pr h15 this 5 4 r13).bind fun h16 =>
    some h16
  else none
abbrev ww_V_init (p : Program) (l : Launch) (e : Env) (s : State) (m : MethodId) (below : List Frame) (meth : Method) (c : Code) (G : ss_G) (this : Option Nat) (h : ss_Hp) (hh : ss_Hp) (H : Heap) (locs : List Loc) (k n : Nat) (g : JFrame) : Prop := W p l e (headSpec (ss_w yy_V_init bb_V_init 1 none) ({ frames := 2, cells := 7, slots := 46, locals := 101 })).room s m ([ss_v (ss_b G) this] : List Value).toArray below meth c H locs k n (MQ below (ss_Qc G none hh) ([ss_v (ss_b G) this] : List Value).toArray s 7 46 (ss_A G)) g
theorem ck_V_init {N : Nat} {this : Option Nat} {h : ss_Hp} {res : ss_Hp} (hm : mm_V_init N this h = some res) : ss_is h this 5 = true := (ss_chk hm).1
set_option maxHeartbeats 4000000 in
set_option maxRecDepth 100000 in
theorem cc_V_init (l : Launch) (G : ss_G) (N : Nat) (this : Option Nat) (h : ss_Hp) (hh : ss_Hp) (hm : mm_V_init N this h = some hh) : ss_Ct l G yy_V_init bb_V_init 1 none ({ frames := 2, cells := 7, slots := 46, locals := 101 }) [ss_v (ss_b G) this] h none hh := by
  obtain ⟨hck, hm⟩ := ss_chk hm
  refine Met.ofW (cc := bb_V_init) (maxL := 1) (ret := none) (by decide) rfl ?_
  intro p e s m args below meth c s₁ B hml hv
  obtain ⟨rfl, hR, hK⟩ := hv
  have hC : CallFix p m c bb_V_init 1 s _ lw_g sR_5 := ⟨B.exec, B.bytes, hml, findClass_of_methodNamed B.named, fun w hw => atoms_spec (ws := ss_w yy_V_init bb_V_init 1 none) B.pre w (List.mem_cons_of_mem _ hw)⟩
  have hx := hC.1
  have hb := hC.2.1
  have hr := B.returns
  have hlocks := B.notSynchronized
  have hin : meth.name = "<init>" := (name_of_methodNamed B.named B.method).1
  have hS : va_S (ss_A G) s.heap s.heap [] := va_S.rf
  have hl := lv_entry ([ss_v (ss_b G) this]) (n := 1) (by simp [lg_sl, ss_v_cat, ss_cat_i, ss_cat_l, ss_cat_r])
  rw [lg_entry_eq]
  generalize (lg_sl ([ss_v (ss_b G) this]) ++ List.replicate (1 - (lg_sl ([ss_v (ss_b G) this])).length) Slot.unset).toArray = ls at hl ⊢
  have hl : lv_has ls 1 [(0, ss_v (ss_b G) this)] := by simpa [lv_args, ss_v_cat, ss_cat_i, ss_cat_l, ss_cat_r] using hl
  refine ss_aload_n hx hb dd_V_init_0 rfl (lv_at hl 0 rfl) ?_
  obtain ⟨_, hck1⟩ := ss_isSome hck
  refine ss_init hC hl.1 kj_V_3 kj_oi kj_oc hck1 (Nat.le_of_ble_eq_true rfl) (Nat.le_of_ble_eq_true rfl) (Nat.le_of_ble_eq_true rfl) dd_V_init_1 ?_
  refine ss_aload_n hx hb dd_V_init_4 rfl (lv_at hl 0 rfl) ?_
  refine lv_iconst (v := 4) hx hb dd_V_init_5 (by decide) ?_
  obtain ⟨r1, h2, qh2, hm⟩ := ss_bind2 hm
  refine ss_newai hC hK hR hS kt_int rfl rfl (by decide) (t0 := 0) rfl (by decide) qh2 (by decide) (Nat.le_of_ble_eq_true rfl) (Nat.le_of_ble_eq_true rfl) dd_V_init_6 (fun H hR hS => ?_)
  refine W.widen (k := 1) (n := 4) (Nat.le_of_ble_eq_true rfl) (Nat.le_of_ble_eq_true rfl) ?_
  obtain ⟨h3, qh3, hm⟩ := ss_bind hm
  refine ss_putrF hC hK hR hS hin kq_V_9 rfl (Or.inr ⟨_, rfl⟩) qh3 dd_V_init_8 (fun H locs hR hS => ?_)
  refine ss_aload_n hx hb dd_V_init_11 rfl (lv_at hl 0 rfl) ?_
  refine lv_iconst (v := 4) hx hb dd_V_init_12 (by decide) ?_
  obtain ⟨r4, h5, qh5, hm⟩ := ss_bind2 hm
  refine ss_newai hC hK hR hS kt_int rfl rfl (by decide) (t0 := 0) rfl (by decide) qh5 (by decide) (Nat.le_of_ble_eq_true rfl) (Nat.le_of_ble_eq_true rfl) dd_V_init_13 (fun H hR hS => ?_)
  refine W.widen (k := 2) (n := 8) (Nat.le_of_ble_eq_true rfl) (Nat.le_of_ble_eq_true rfl) ?_
  obtain ⟨h6, qh6, hm⟩ := ss_bind hm
  refine ss_putrF hC hK hR hS hin kq_V_15 rfl (Or.inr ⟨_, rfl⟩) qh6 dd_V_init_15 (fun H locs hR hS => ?_)
  refine ss_aload_n hx hb dd_V_init_18 rfl (lv_at hl 0 rfl) ?_
  refine lv_bipush (v := 8) hx hb dd_V_init_19 (by decide) ?_
  obtain ⟨r7, h8, qh8, hm⟩ := ss_bind2 hm
  refine ss_newai hC hK hR hS kt_int rfl rfl (by decide) (t0 := 0) rfl (by decide) qh8 (by decide) (Nat.le_of_ble_eq_true rfl) (Nat.le_of_ble_eq_true rfl) dd_V_init_21 (fun H hR hS => ?_)
  refine W.widen (k := 3) (n := 16) (Nat.le_of_ble_eq_true rfl) (Nat.le_of_ble_eq_true rfl) ?_
  obtain ⟨h9, qh9, hm⟩ := ss_bind hm
  refine ss_putrF hC hK hR hS hin kq_V_18 rfl (Or.inr ⟨_, rfl⟩) qh9 dd_V_init_23 (fun H locs hR hS => ?_)
  refine ss_aload_n hx hb dd_V_init_26 rfl (lv_at hl 0 rfl) ?_
  refine lv_bipush (v := 8) hx hb dd_V_init_27 (by decide) ?_
  obtain ⟨r10, h11, qh11, hm⟩ := ss_bind2 hm
  refine ss_newai hC hK hR hS kt_int rfl rfl (by decide) (t0 := 0) rfl (by decide) qh11 (by decide) (Nat.le_of_ble_eq_true rfl) (Nat.le_of_ble_eq_true rfl) dd_V_init_29 (fun H hR hS => ?_)
  refine W.widen (k := 4) (n := 24) (Nat.le_of_ble_eq_true rfl) (Nat.le_of_ble_eq_true rfl) ?_
  obtain ⟨h12, qh12, hm⟩ := ss_bind hm
  refine ss_putrF hC hK hR hS hin kq_V_21 rfl (Or.inr ⟨_, rfl⟩) qh12 dd_V_init_31 (fun H locs hR hS => ?_)
  refine ss_aload_n hx hb dd_V_init_34 rfl (lv_at hl 0 rfl) ?_
  obtain ⟨r13, h14, qh14, hm⟩ := ss_bind2 hm
  refine ss_newo (N := 6) hC hK hR hS rfl kn_V_24 rfl qh14 (Nat.le_of_ble_eq_true rfl) (Nat.le_of_ble_eq_true rfl) dd_V_init_35 (fun H hR hS => ?_)
  refine W.widen (k := 5) (n := 30) (Nat.le_of_ble_eq_true rfl) (Nat.le_of_ble_eq_true rfl) ?_
  refine ss_dupr hx hb dd_V_init_38 ?_
  obtain ⟨h15, qh15, hm⟩ := ss_bind hm
  refine ss_cI 7 46 (As := []) hC hK hR hS hl.1 (cc_G_init l G N _ _ _ qh15) km_V_26 (ck_G_init qh15) ⟨Nat.le_of_ble_eq_true rfl, Nat.le_of_ble_eq_true rfl⟩ ⟨Nat.le_of_ble_eq_true rfl, Nat.le_of_ble_eq_true rfl, Nat.le_of_ble_eq_true rfl, Nat.le_of_ble_eq_true rfl⟩ rfl rfl (by simp [ss_v_cat, ss_cat_i, ss_cat_l, ss_cat_r]) dd_V_init_39 (fun H locs hR hS => ?_)
  obtain ⟨h16, qh16, hm⟩ := ss_bind hm
  refine ss_putrF hC hK hR hS hin kq_V_27 rfl (Or.inl ⟨_, rfl⟩) qh16 dd_V_init_42 (fun H locs hR hS => ?_)
  exact ss_vret hC hr hlocks hR hS hm dd_V_init_45
theorem dd_VR_init_0 : decode bb_VR_init 0 = .ok (.aload_n 0, 1) := by decide +kernel
theorem dd_VR_init_1 : decode bb_VR_init 1 = .ok (.invokespecial 3, 3) := by decide +kernel
theorem dd_VR_init_4 : decode bb_VR_init 4 = .ok (.aload_n 0, 1) := by decide +kernel
theorem dd_VR_init_5 : decode bb_VR_init 5 = .ok (.new 9, 3) := by decide +kernel
theorem dd_VR_init_8 : decode bb_VR_init 8 = .ok (.dup, 1) := by decide +kernel
theorem dd_VR_init_9 : decode bb_VR_init 9 = .ok (.invokespecial 11, 3) := by decide +kernel
theorem dd_VR_init_12 : decode bb_VR_init 12 = .ok (.putfield 12, 3) := by decide +kernel
theorem dd_VR_init_15 : decode bb_VR_init 15 = .ok (.aload_n 0, 1) := by decide +kernel
theorem dd_VR_init_16 : decode bb_VR_init 16 = .ok (.new 9, 3) := by decide +kernel
theorem dd_VR_init_19 : decode bb_VR_init 19 = .ok (.dup, 1) := by decide +kernel
theorem dd_VR_init_20 : decode bb_VR_init 20 = .ok (.invokespecial 11, 3) := by decide +kernel
theorem dd_VR_init_23 : decode bb_VR_init 23 = .ok (.putfield 18, 3) := by decide +kernel
theorem dd_VR_init_26 : decode bb_VR_init 26 = .ok (.aload_n 0, 1) := by decide +kernel
theorem dd_VR_init_27 : decode bb_VR_init 27 = .ok (.aload_n 1, 1) := by decide +kernel
theorem dd_VR_init_28 : decode bb_VR_init 28 = .ok (.putfield 21, 3) := by decide +kernel
theorem dd_VR_init_31 : decode bb_VR_init 31 = .ok (.return_, 1) := by decide +kernel
def mm_VR_init (N : Nat) (this : Option Nat) (a1 : Option Nat) (h : ss_Hp) : Option ss_Hp :=
  if ss_is h this 6 = true then
    ss_b2 (ss_no h 5 5 0 5) fun r1 h2 =>
    (mm_V_init N r1 h2).bind fun h3 =>
    (ss_pr h3 this 6 1 r1).bind fun h4 =>
    ss_b2 (ss_no h4 5 5 0 5) fun r5 h6 =>
    (mm_V_init N r5 h6).bind fun h7 =>
    (ss_pr h7 this 6 2 r5).bind fun h8 =>
    (ss_pr h8 this 6 0 a1).bind fun h9 =>
    some h9
  else none
abbrev ww_VR_init (p : Program) (l : Launch) (e : Env) (s : State) (m : MethodId) (below : List Frame) (meth : Method) (c : Code) (G : ss_G) (this : Option Nat) (a1 : Option Nat) (h : ss_Hp) (hh : ss_Hp) (H : Heap) (locs : List Loc) (k n : Nat) (g : JFrame) : Prop := W p l e (headSpec (ss_w yy_VR_init bb_VR_init 2 none) ({ frames := 3, cells := 16, slots := 112, locals := 121 })).room s m ([ss_v (ss_b G) this, ss_v (ss_b G) a1] : List Value).toArray below meth c H locs k n (MQ below (ss_Qc G none hh) ([ss_v (ss_b G) this, ss_v (ss_b G) a1] : List Value).toArray s 16 112 (ss_A G)) g
theorem ck_VR_init {N : Nat} {this : Option Nat} {a1 : Option Nat} {h : ss_Hp} {res : ss_Hp} (hm : mm_VR_init N this a1 h = some res) : ss_is h this 6 = true := (ss_chk hm).1
set_option maxHeartbeats 4000000 in
set_option maxRecDepth 100000 in
theorem cc_VR_init (l : Launch) (G : ss_G) (N : Nat) (this : Option Nat) (a1 : Option Nat) (h : ss_Hp) (hh : ss_Hp) (hm : mm_VR_init N this a1 h = some hh) : ss_Ct l G yy_VR_init bb_VR_init 2 none ({ frames := 3, cells := 16, slots := 112, locals := 121 }) [ss_v (ss_b G) this, ss_v (ss_b G) a1] h none hh := by
  obtain ⟨hck, hm⟩ := ss_chk hm
  refine Met.ofW (cc := bb_VR_init) (maxL := 2) (ret := none) (by decide) rfl ?_
  intro p e s m args below meth c s₁ B hml hv
  obtain ⟨rfl, hR, hK⟩ := hv
  have hC : CallFix p m c bb_VR_init 2 s _ lw_g sR_6 := ⟨B.exec, B.bytes, hml, findClass_of_methodNamed B.named, fun w hw => atoms_spec (ws := ss_w yy_VR_init bb_VR_init 2 none) B.pre w (List.mem_cons_of_mem _ hw)⟩
  have hx := hC.1
  have hb := hC.2.1
  have hr := B.returns
  have hlocks := B.notSynchronized
  have hin : meth.name = "<init>" := (name_of_methodNamed B.named B.method).1
  have hS : va_S (ss_A G) s.heap s.heap [] := va_S.rf
  have hl := lv_entry ([ss_v (ss_b G) this, ss_v (ss_b G) a1]) (n := 2) (by simp [lg_sl, ss_v_cat, ss_cat_i, ss_cat_l, ss_cat_r])
  rw [lg_entry_eq]
  generalize (lg_sl ([ss_v (ss_b G) this, ss_v (ss_b G) a1]) ++ List.replicate (2 - (lg_sl ([ss_v (ss_b G) this, ss_v (ss_b G) a1])).length) Slot.unset).toArray = ls at hl ⊢
  have hl : lv_has ls 2 [(0, ss_v (ss_b G) this), (1, ss_v (ss_b G) a1)] := by simpa [lv_args, ss_v_cat, ss_cat_i, ss_cat_l, ss_cat_r] using hl
  refine ss_aload_n hx hb dd_VR_init_0 rfl (lv_at hl 0 rfl) ?_
  obtain ⟨_, hck1⟩ := ss_isSome hck
  refine ss_init hC hl.1 kj_VR_3 kj_oi kj_oc hck1 (Nat.le_of_ble_eq_true rfl) (Nat.le_of_ble_eq_true rfl) (Nat.le_of_ble_eq_true rfl) dd_VR_init_1 ?_
  refine ss_aload_n hx hb dd_VR_init_4 rfl (lv_at hl 0 rfl) ?_
  obtain ⟨r1, h2, qh2, hm⟩ := ss_bind2 hm
  refine ss_newo (N := 10) hC hK hR hS rfl kn_VR_9 rfl qh2 (Nat.le_of_ble_eq_true rfl) (Nat.le_of_ble_eq_true rfl) dd_VR_init_5 (fun H hR hS => ?_)
  refine W.widen (k := 1) (n := 10) (Nat.le_of_ble_eq_true rfl) (Nat.le_of_ble_eq_true rfl) ?_
  refine ss_dupr hx hb dd_VR_init_8 ?_
  obtain ⟨h3, qh3, hm⟩ := ss_bind hm
  refine ss_cN 8 56 (As := []) hC hK hR hS hl.1 (cc_V_init l G N _ _ _ qh3) km_VR_11 (ck_V_init qh3) ⟨Nat.le_of_ble_eq_true rfl, Nat.le_of_ble_eq_true rfl⟩ ⟨Nat.le_of_ble_eq_true rfl, Nat.le_of_ble_eq_true rfl, Nat.le_of_ble_eq_true rfl, Nat.le_of_ble_eq_true rfl⟩ rfl rfl (by simp [ss_v_cat, ss_cat_i, ss_cat_l, ss_cat_r]) dd_VR_init_9 (fun H locs hR hS => ?_)
  obtain ⟨h4, qh4, hm⟩ := ss_bind hm
  refine ss_putrF hC hK hR hS hin kq_VR_12 rfl (Or.inl ⟨_, rfl⟩) qh4 dd_VR_init_12 (fun H locs hR hS => ?_)
  refine ss_aload_n hx hb dd_VR_init_15 rfl (lv_at hl 0 rfl) ?_
  obtain ⟨r5, h6, qh6, hm⟩ := ss_bind2 hm
  refine ss_newo (N := 10) hC hK hR hS rfl kn_VR_9 rfl qh6 (Nat.le_of_ble_eq_true rfl) (Nat.le_of_ble_eq_true rfl) dd_VR_init_16 (fun H hR hS => ?_)
  refine W.widen (k := 9) (n := 66) (Nat.le_of_ble_eq_true rfl) (Nat.le_of_ble_eq_true rfl) ?_
  refine ss_dupr hx hb dd_VR_init_19 ?_
  obtain ⟨h7, qh7, hm⟩ := ss_bind hm
  refine ss_cN 16 112 (As := []) hC hK hR hS hl.1 (cc_V_init l G N _ _ _ qh7) km_VR_11 (ck_V_init qh7) ⟨Nat.le_of_ble_eq_true rfl, Nat.le_of_ble_eq_true rfl⟩ ⟨Nat.le_of_ble_eq_true rfl, Nat.le_of_ble_eq_true rfl, Nat.le_of_ble_eq_true rfl, Nat.le_of_ble_eq_true rfl⟩ rfl rfl (by simp [ss_v_cat, ss_cat_i, ss_cat_l, ss_cat_r]) dd_VR_init_20 (fun H locs hR hS => ?_)
  obtain ⟨h8, qh8, hm⟩ := ss_bind hm
  refine ss_putrF hC hK hR hS hin kq_VR_18 rfl (Or.inl ⟨_, rfl⟩) qh8 dd_VR_init_23 (fun H locs hR hS => ?_)
  refine ss_aload_n hx hb dd_VR_init_26 rfl (lv_at hl 0 rfl) ?_
  refine ss_aload_n hx hb dd_VR_init_27 rfl (lv_at hl 1 rfl) ?_
  obtain ⟨h9, qh9, hm⟩ := ss_bind hm
  refine ss_putrF hC hK hR hS hin kq_VR_21 rfl (Or.inl ⟨_, rfl⟩) qh9 dd_VR_init_28 (fun H locs hR hS => ?_)
  exact ss_vret hC hr hlocks hR hS hm dd_VR_init_31
theorem dd_RR_init_0 : decode bb_RR_init 0 = .ok (.aload_n 0, 1) := by decide +kernel
theorem dd_RR_init_1 : decode bb_RR_init 1 = .ok (.invokespecial 3, 3) := by decide +kernel
theorem dd_RR_init_4 : decode bb_RR_init 4 = .ok (.aload_n 0, 1) := by decide +kernel
theorem dd_RR_init_5 : decode bb_RR_init 5 = .ok (.sipush 400, 3) := by decide +kernel
theorem dd_RR_init_8 : decode bb_RR_init 8 = .ok (.newarray .int, 2) := by decide +kernel
theorem dd_RR_init_10 : decode bb_RR_init 10 = .ok (.putfield 11, 3) := by decide +kernel
theorem dd_RR_init_13 : decode bb_RR_init 13 = .ok (.aload_n 0, 1) := by decide +kernel
theorem dd_RR_init_14 : decode bb_RR_init 14 = .ok (.bipush 25, 2) := by decide +kernel
theorem dd_RR_init_16 : decode bb_RR_init 16 = .ok (.newarray .int, 2) := by decide +kernel
theorem dd_RR_init_18 : decode bb_RR_init 18 = .ok (.putfield 17, 3) := by decide +kernel
theorem dd_RR_init_21 : decode bb_RR_init 21 = .ok (.aload_n 0, 1) := by decide +kernel
theorem dd_RR_init_22 : decode bb_RR_init 22 = .ok (.aload_n 1, 1) := by decide +kernel
theorem dd_RR_init_23 : decode bb_RR_init 23 = .ok (.putfield 20, 3) := by decide +kernel
theorem dd_RR_init_26 : decode bb_RR_init 26 = .ok (.return_, 1) := by decide +kernel
def mm_RR_init (N : Nat) (this : Option Nat) (a1 : Option Nat) (h : ss_Hp) : Option ss_Hp :=
  if ss_is h this 4 = true then
    ss_b2 (ss_na h 20 400 (400 : Int32)) fun r1 h2 =>
    (ss_pr h2 this 4 1 r1).bind fun h3 =>
    ss_b2 (ss_na h3 20 25 (25 : Int32)) fun r4 h5 =>
    (ss_pr h5 this 4 2 r4).bind fun h6 =>
    (ss_pr h6 this 4 0 a1).bind fun h7 =>
    some h7
  else none
abbrev ww_RR_init (p : Program) (l : Launch) (e : Env) (s : State) (m : MethodId) (below : List Frame) (meth : Method) (c : Code) (G : ss_G) (this : Option Nat) (a1 : Option Nat) (h : ss_Hp) (hh : ss_Hp) (H : Heap) (locs : List Loc) (k n : Nat) (g : JFrame) : Prop := W p l e (headSpec (ss_w yy_RR_init bb_RR_init 2 none) ({ frames := 1, cells := 2, slots := 425, locals := 80 })).room s m ([ss_v (ss_b G) this, ss_v (ss_b G) a1] : List Value).toArray below meth c H locs k n (MQ below (ss_Qc G none hh) ([ss_v (ss_b G) this, ss_v (ss_b G) a1] : List Value).toArray s 2 425 (ss_A G)) g
theorem ck_RR_init {N : Nat} {this : Option Nat} {a1 : Option Nat} {h : ss_Hp} {res : ss_Hp} (hm : mm_RR_init N this a1 h = some res) : ss_is h this 4 = true := (ss_chk hm).1
set_option maxHeartbeats 4000000 in
set_option maxRecDepth 100000 in
theorem cc_RR_init (l : Launch) (G : ss_G) (N : Nat) (this : Option Nat) (a1 : Option Nat) (h : ss_Hp) (hh : ss_Hp) (hm : mm_RR_init N this a1 h = some hh) : ss_Ct l G yy_RR_init bb_RR_init 2 none ({ frames := 1, cells := 2, slots := 425, locals := 80 }) [ss_v (ss_b G) this, ss_v (ss_b G) a1] h none hh := by
  obtain ⟨hck, hm⟩ := ss_chk hm
  refine Met.ofW (cc := bb_RR_init) (maxL := 2) (ret := none) (by decide) rfl ?_
  intro p e s m args below meth c s₁ B hml hv
  obtain ⟨rfl, hR, hK⟩ := hv
  have hC : CallFix p m c bb_RR_init 2 s _ lw_g sR_4 := ⟨B.exec, B.bytes, hml, findClass_of_methodNamed B.named, fun w hw => atoms_spec (ws := ss_w yy_RR_init bb_RR_init 2 none) B.pre w (List.mem_cons_of_mem _ hw)⟩
  have hx := hC.1
  have hb := hC.2.1
  have hr := B.returns
  have hlocks := B.notSynchronized
  have hin : meth.name = "<init>" := (name_of_methodNamed B.named B.method).1
  have hS : va_S (ss_A G) s.heap s.heap [] := va_S.rf
  have hl := lv_entry ([ss_v (ss_b G) this, ss_v (ss_b G) a1]) (n := 2) (by simp [lg_sl, ss_v_cat, ss_cat_i, ss_cat_l, ss_cat_r])
  rw [lg_entry_eq]
  generalize (lg_sl ([ss_v (ss_b G) this, ss_v (ss_b G) a1]) ++ List.replicate (2 - (lg_sl ([ss_v (ss_b G) this, ss_v (ss_b G) a1])).length) Slot.unset).toArray = ls at hl ⊢
  have hl : lv_has ls 2 [(0, ss_v (ss_b G) this), (1, ss_v (ss_b G) a1)] := by simpa [lv_args, ss_v_cat, ss_cat_i, ss_cat_l, ss_cat_r] using hl
  refine ss_aload_n hx hb dd_RR_init_0 rfl (lv_at hl 0 rfl) ?_
  obtain ⟨_, hck1⟩ := ss_isSome hck
  refine ss_init hC hl.1 kj_RR_3 kj_oi kj_oc hck1 (Nat.le_of_ble_eq_true rfl) (Nat.le_of_ble_eq_true rfl) (Nat.le_of_ble_eq_true rfl) dd_RR_init_1 ?_
  refine ss_aload_n hx hb dd_RR_init_4 rfl (lv_at hl 0 rfl) ?_
  refine lv_sipush (v := 400) hx hb dd_RR_init_5 (by decide) ?_
  obtain ⟨r1, h2, qh2, hm⟩ := ss_bind2 hm
  refine ss_newai hC hK hR hS kt_int rfl rfl (by decide) (t0 := 0) rfl (by decide) qh2 (by decide) (Nat.le_of_ble_eq_true rfl) (Nat.le_of_ble_eq_true rfl) dd_RR_init_8 (fun H hR hS => ?_)
  refine W.widen (k := 1) (n := 400) (Nat.le_of_ble_eq_true rfl) (Nat.le_of_ble_eq_true rfl) ?_
  obtain ⟨h3, qh3, hm⟩ := ss_bind hm
  refine ss_putrF hC hK hR hS hin kq_RR_11 rfl (Or.inr ⟨_, rfl⟩) qh3 dd_RR_init_10 (fun H locs hR hS => ?_)
  refine ss_aload_n hx hb dd_RR_init_13 rfl (lv_at hl 0 rfl) ?_
  refine lv_bipush (v := 25) hx hb dd_RR_init_14 (by decide) ?_
  obtain ⟨r4, h5, qh5, hm⟩ := ss_bind2 hm
  refine ss_newai hC hK hR hS kt_int rfl rfl (by decide) (t0 := 0) rfl (by decide) qh5 (by decide) (Nat.le_of_ble_eq_true rfl) (Nat.le_of_ble_eq_true rfl) dd_RR_init_16 (fun H hR hS => ?_)
  refine W.widen (k := 2) (n := 425) (Nat.le_of_ble_eq_true rfl) (Nat.le_of_ble_eq_true rfl) ?_
  obtain ⟨h6, qh6, hm⟩ := ss_bind hm
  refine ss_putrF hC hK hR hS hin kq_RR_17 rfl (Or.inr ⟨_, rfl⟩) qh6 dd_RR_init_18 (fun H locs hR hS => ?_)
  refine ss_aload_n hx hb dd_RR_init_21 rfl (lv_at hl 0 rfl) ?_
  refine ss_aload_n hx hb dd_RR_init_22 rfl (lv_at hl 1 rfl) ?_
  obtain ⟨h7, qh7, hm⟩ := ss_bind hm
  refine ss_putrF hC hK hR hS hin kq_RR_20 rfl (Or.inl ⟨_, rfl⟩) qh7 dd_RR_init_23 (fun H locs hR hS => ?_)
  exact ss_vret hC hr hlocks hR hS hm dd_RR_init_26
theorem dd_Wo_init_0 : decode bb_Wo_init 0 = .ok (.aload_n 0, 1) := by decide +kernel
theorem dd_Wo_init_1 : decode bb_Wo_init 1 = .ok (.invokespecial 3, 3) := by decide +kernel
theorem dd_Wo_init_4 : decode bb_Wo_init 4 = .ok (.aload_n 0, 1) := by decide +kernel
theorem dd_Wo_init_5 : decode bb_Wo_init 5 = .ok (.new 9, 3) := by decide +kernel
theorem dd_Wo_init_8 : decode bb_Wo_init 8 = .ok (.dup, 1) := by decide +kernel
theorem dd_Wo_init_9 : decode bb_Wo_init 9 = .ok (.invokespecial 11, 3) := by decide +kernel
theorem dd_Wo_init_12 : decode bb_Wo_init 12 = .ok (.putfield 12, 3) := by decide +kernel
theorem dd_Wo_init_15 : decode bb_Wo_init 15 = .ok (.aload_n 0, 1) := by decide +kernel
theorem dd_Wo_init_16 : decode bb_Wo_init 16 = .ok (.new 18, 3) := by decide +kernel
theorem dd_Wo_init_19 : decode bb_Wo_init 19 = .ok (.dup, 1) := by decide +kernel
theorem dd_Wo_init_20 : decode bb_Wo_init 20 = .ok (.invokespecial 20, 3) := by decide +kernel
theorem dd_Wo_init_23 : decode bb_Wo_init 23 = .ok (.putfield 21, 3) := by decide +kernel
theorem dd_Wo_init_26 : decode bb_Wo_init 26 = .ok (.aload_n 0, 1) := by decide +kernel
theorem dd_Wo_init_27 : decode bb_Wo_init 27 = .ok (.iconst (-1), 1) := by decide +kernel
theorem dd_Wo_init_28 : decode bb_Wo_init 28 = .ok (.putfield 25, 3) := by decide +kernel
theorem dd_Wo_init_31 : decode bb_Wo_init 31 = .ok (.aload_n 0, 1) := by decide +kernel
theorem dd_Wo_init_32 : decode bb_Wo_init 32 = .ok (.bipush 10, 2) := by decide +kernel
theorem dd_Wo_init_34 : decode bb_Wo_init 34 = .ok (.newarray .int, 2) := by decide +kernel
theorem dd_Wo_init_36 : decode bb_Wo_init 36 = .ok (.putfield 29, 3) := by decide +kernel
theorem dd_Wo_init_39 : decode bb_Wo_init 39 = .ok (.aload_n 0, 1) := by decide +kernel
theorem dd_Wo_init_40 : decode bb_Wo_init 40 = .ok (.bipush 10, 2) := by decide +kernel
theorem dd_Wo_init_42 : decode bb_Wo_init 42 = .ok (.newarray .int, 2) := by decide +kernel
theorem dd_Wo_init_44 : decode bb_Wo_init 44 = .ok (.putfield 33, 3) := by decide +kernel
theorem dd_Wo_init_47 : decode bb_Wo_init 47 = .ok (.aload_n 0, 1) := by decide +kernel
theorem dd_Wo_init_48 : decode bb_Wo_init 48 = .ok (.bipush 10, 2) := by decide +kernel
theorem dd_Wo_init_50 : decode bb_Wo_init 50 = .ok (.newarray .int, 2) := by decide +kernel
theorem dd_Wo_init_52 : decode bb_Wo_init 52 = .ok (.putfield 36, 3) := by decide +kernel
theorem dd_Wo_init_55 : decode bb_Wo_init 55 = .ok (.return_, 1) := by decide +kernel
def mm_Wo_init (N : Nat) (this : Option Nat) (h : ss_Hp) : Option ss_Hp :=
  if ss_is h this 8 = true then
    ss_b2 (ss_no h 5 5 0 5) fun r1 h2 =>
    (mm_V_init N r1 h2).bind fun h3 =>
    (ss_pr h3 this 8 0 r1).bind fun h4 =>
    ss_b2 (ss_no h4 0 4 0 2) fun r5 h6 =>
    (mm_G_init N r5 h6).bind fun h7 =>
    (ss_pr h7 this 8 1 r5).bind fun h8 =>
    (ss_pi h8 this 8 0 (-1 : Int32)).bind fun h9 =>
    ss_b2 (ss_na h9 20 10 (10 : Int32)) fun r10 h11 =>
    (ss_pr h11 this 8 2 r10).bind fun h12 =>
    ss_b2 (ss_na h12 20 10 (10 : Int32)) fun r13 h14 =>
    (ss_pr h14 this 8 3 r13).bind fun h15 =>
    ss_b2 (ss_na h15 20 10 (10 : Int32)) fun r16 h17 =>
    (ss_pr h17 this 8 4 r16).bind fun h18 =>
    some h18
  else none
abbrev ww_Wo_init (p : Program) (l : Launch) (e : Env) (s : State) (m : MethodId) (below : List Frame) (meth : Method) (c : Code) (G : ss_G) (this : Option Nat) (h : ss_Hp) (hh : ss_Hp) (H : Heap) (locs : List Loc) (k n : Nat) (g : JFrame) : Prop := W p l e (headSpec (ss_w yy_Wo_init bb_Wo_init 1 none) ({ frames := 3, cells := 14, slots := 108, locals := 121 })).room s m ([ss_v (ss_b G) this] : List Value).toArray below meth c H locs k n (MQ below (ss_Qc G none hh) ([ss_v (ss_b G) this] : List Value).toArray s 14 108 (ss_A G)) g
theorem ck_Wo_init {N : Nat} {this : Option Nat} {h : ss_Hp} {res : ss_Hp} (hm : mm_Wo_init N this h = some res) : ss_is h this 8 = true := (ss_chk hm).1
set_option maxHeartbeats 4000000 in
set_option maxRecDepth 100000 in
theorem cc_Wo_init (l : Launch) (G : ss_G) (N : Nat) (this : Option Nat) (h : ss_Hp) (hh : ss_Hp) (hm : mm_Wo_init N this h = some hh) : ss_Ct l G yy_Wo_init bb_Wo_init 1 none ({ frames := 3, cells := 14, slots := 108, locals := 121 }) [ss_v (ss_b G) this] h none hh := by
  obtain ⟨hck, hm⟩ := ss_chk hm
  refine Met.ofW (cc := bb_Wo_init) (maxL := 1) (ret := none) (by decide) rfl ?_
  intro p e s m args below meth c s₁ B hml hv
  obtain ⟨rfl, hR, hK⟩ := hv
  have hC : CallFix p m c bb_Wo_init 1 s _ lw_g sR_8 := ⟨B.exec, B.bytes, hml, findClass_of_methodNamed B.named, fun w hw => atoms_spec (ws := ss_w yy_Wo_init bb_Wo_init 1 none) B.pre w (List.mem_cons_of_mem _ hw)⟩
  have hx := hC.1
  have hb := hC.2.1
  have hr := B.returns
  have hlocks := B.notSynchronized
  have hin : meth.name = "<init>" := (name_of_methodNamed B.named B.method).1
  have hS : va_S (ss_A G) s.heap s.heap [] := va_S.rf
  have hl := lv_entry ([ss_v (ss_b G) this]) (n := 1) (by simp [lg_sl, ss_v_cat, ss_cat_i, ss_cat_l, ss_cat_r])
  rw [lg_entry_eq]
  generalize (lg_sl ([ss_v (ss_b G) this]) ++ List.replicate (1 - (lg_sl ([ss_v (ss_b G) this])).length) Slot.unset).toArray = ls at hl ⊢
  have hl : lv_has ls 1 [(0, ss_v (ss_b G) this)] := by simpa [lv_args, ss_v_cat, ss_cat_i, ss_cat_l, ss_cat_r] using hl
  refine ss_aload_n hx hb dd_Wo_init_0 rfl (lv_at hl 0 rfl) ?_
  obtain ⟨_, hck1⟩ := ss_isSome hck
  refine ss_init hC hl.1 kj_Wo_3 kj_oi kj_oc hck1 (Nat.le_of_ble_eq_true rfl) (Nat.le_of_ble_eq_true rfl) (Nat.le_of_ble_eq_true rfl) dd_Wo_init_1 ?_
  refine ss_aload_n hx hb dd_Wo_init_4 rfl (lv_at hl 0 rfl) ?_
  obtain ⟨r1, h2, qh2, hm⟩ := ss_bind2 hm
  refine ss_newo (N := 10) hC hK hR hS rfl kn_Wo_9 rfl qh2 (Nat.le_of_ble_eq_true rfl) (Nat.le_of_ble_eq_true rfl) dd_Wo_init_5 (fun H hR hS => ?_)
  refine W.widen (k := 1) (n := 10) (Nat.le_of_ble_eq_true rfl) (Nat.le_of_ble_eq_true rfl) ?_
  refine ss_dupr hx hb dd_Wo_init_8 ?_
  obtain ⟨h3, qh3, hm⟩ := ss_bind hm
  refine ss_cN 8 56 (As := []) hC hK hR hS hl.1 (cc_V_init l G N _ _ _ qh3) km_Wo_11 (ck_V_init qh3) ⟨Nat.le_of_ble_eq_true rfl, Nat.le_of_ble_eq_true rfl⟩ ⟨Nat.le_of_ble_eq_true rfl, Nat.le_of_ble_eq_true rfl, Nat.le_of_ble_eq_true rfl, Nat.le_of_ble_eq_true rfl⟩ rfl rfl (by simp [ss_v_cat, ss_cat_i, ss_cat_l, ss_cat_r]) dd_Wo_init_9 (fun H locs hR hS => ?_)
  obtain ⟨h4, qh4, hm⟩ := ss_bind hm
  refine ss_putrF hC hK hR hS hin kq_Wo_12 rfl (Or.inl ⟨_, rfl⟩) qh4 dd_Wo_init_12 (fun H locs hR hS => ?_)
  refine ss_aload_n hx hb dd_Wo_init_15 rfl (lv_at hl 0 rfl) ?_
  obtain ⟨r5, h6, qh6, hm⟩ := ss_bind2 hm
  refine ss_newo (N := 6) hC hK hR hS rfl kn_Wo_18 rfl qh6 (Nat.le_of_ble_eq_true rfl) (Nat.le_of_ble_eq_true rfl) dd_Wo_init_16 (fun H hR hS => ?_)
  refine W.widen (k := 9) (n := 62) (Nat.le_of_ble_eq_true rfl) (Nat.le_of_ble_eq_true rfl) ?_
  refine ss_dupr hx hb dd_Wo_init_19 ?_
  obtain ⟨h7, qh7, hm⟩ := ss_bind hm
  refine ss_cI 11 78 (As := []) hC hK hR hS hl.1 (cc_G_init l G N _ _ _ qh7) km_Wo_20 (ck_G_init qh7) ⟨Nat.le_of_ble_eq_true rfl, Nat.le_of_ble_eq_true rfl⟩ ⟨Nat.le_of_ble_eq_true rfl, Nat.le_of_ble_eq_true rfl, Nat.le_of_ble_eq_true rfl, Nat.le_of_ble_eq_true rfl⟩ rfl rfl (by simp [ss_v_cat, ss_cat_i, ss_cat_l, ss_cat_r]) dd_Wo_init_20 (fun H locs hR hS => ?_)
  obtain ⟨h8, qh8, hm⟩ := ss_bind hm
  refine ss_putrF hC hK hR hS hin kq_Wo_21 rfl (Or.inl ⟨_, rfl⟩) qh8 dd_Wo_init_23 (fun H locs hR hS => ?_)
  refine ss_aload_n hx hb dd_Wo_init_26 rfl (lv_at hl 0 rfl) ?_
  refine lv_iconst (v := -1) hx hb dd_Wo_init_27 (by decide) ?_
  obtain ⟨h9, qh9, hm⟩ := ss_bind hm
  refine ss_puti hC hK hR hS kp_Wo_25 qh9 dd_Wo_init_28 (fun H locs hR hS => ?_)
  refine ss_aload_n hx hb dd_Wo_init_31 rfl (lv_at hl 0 rfl) ?_
  refine lv_bipush (v := 10) hx hb dd_Wo_init_32 (by decide) ?_
  obtain ⟨r10, h11, qh11, hm⟩ := ss_bind2 hm
  refine ss_newai hC hK hR hS kt_int rfl rfl (by decide) (t0 := 0) rfl (by decide) qh11 (by decide) (Nat.le_of_ble_eq_true rfl) (Nat.le_of_ble_eq_true rfl) dd_Wo_init_34 (fun H hR hS => ?_)
  refine W.widen (k := 12) (n := 88) (Nat.le_of_ble_eq_true rfl) (Nat.le_of_ble_eq_true rfl) ?_
  obtain ⟨h12, qh12, hm⟩ := ss_bind hm
  refine ss_putrF hC hK hR hS hin kq_Wo_29 rfl (Or.inr ⟨_, rfl⟩) qh12 dd_Wo_init_36 (fun H locs hR hS => ?_)
  refine ss_aload_n hx hb dd_Wo_init_39 rfl (lv_at hl 0 rfl) ?_
  refine lv_bipush (v := 10) hx hb dd_Wo_init_40 (by decide) ?_
  obtain ⟨r13, h14, qh14, hm⟩ := ss_bind2 hm
  refine ss_newai hC hK hR hS kt_int rfl rfl (by decide) (t0 := 0) rfl (by decide) qh14 (by decide) (Nat.le_of_ble_eq_true rfl) (Nat.le_of_ble_eq_true rfl) dd_Wo_init_42 (fun H hR hS => ?_)
  refine W.widen (k := 13) (n := 98) (Nat.le_of_ble_eq_true rfl) (Nat.le_of_ble_eq_true rfl) ?_
  obtain ⟨h15, qh15, hm⟩ := ss_bind hm
  refine ss_putrF hC hK hR hS hin kq_Wo_33 rfl (Or.inr ⟨_, rfl⟩) qh15 dd_Wo_init_44 (fun H locs hR hS => ?_)
  refine ss_aload_n hx hb dd_Wo_init_47 rfl (lv_at hl 0 rfl) ?_
  refine lv_bipush (v := 10) hx hb dd_Wo_init_48 (by decide) ?_
  obtain ⟨r16, h17, qh17, hm⟩ := ss_bind2 hm
  refine ss_newai hC hK hR hS kt_int rfl rfl (by decide) (t0 := 0) rfl (by decide) qh17 (by decide) (Nat.le_of_ble_eq_true rfl) (Nat.le_of_ble_eq_true rfl) dd_Wo_init_50 (fun H hR hS => ?_)
  refine W.widen (k := 14) (n := 108) (Nat.le_of_ble_eq_true rfl) (Nat.le_of_ble_eq_true rfl) ?_
  obtain ⟨h18, qh18, hm⟩ := ss_bind hm
  refine ss_putrF hC hK hR hS hin kq_Wo_36 rfl (Or.inr ⟨_, rfl⟩) qh18 dd_Wo_init_52 (fun H locs hR hS => ?_)
  exact ss_vret hC hr hlocks hR hS hm dd_Wo_init_55
theorem dd_A_init_0 : decode bb_A_init 0 = .ok (.aload_n 0, 1) := by decide +kernel
theorem dd_A_init_1 : decode bb_A_init 1 = .ok (.invokespecial 3, 3) := by decide +kernel
theorem dd_A_init_4 : decode bb_A_init 4 = .ok (.aload_n 0, 1) := by decide +kernel
theorem dd_A_init_5 : decode bb_A_init 5 = .ok (.bipush 20, 2) := by decide +kernel
theorem dd_A_init_7 : decode bb_A_init 7 = .ok (.anewarray 11, 3) := by decide +kernel
theorem dd_A_init_10 : decode bb_A_init 10 = .ok (.putfield 13, 3) := by decide +kernel
theorem dd_A_init_13 : decode bb_A_init 13 = .ok (.iconst 0, 1) := by decide +kernel
theorem dd_A_init_14 : decode bb_A_init 14 = .ok (.istore_n 1, 1) := by decide +kernel
theorem dd_A_init_15 : decode bb_A_init 15 = .ok (.iload_n 1, 1) := by decide +kernel
theorem dd_A_init_16 : decode bb_A_init 16 = .ok (.bipush 20, 2) := by decide +kernel
theorem dd_A_init_18 : decode bb_A_init 18 = .ok (.if_icmp .ge 22, 3) := by decide +kernel
theorem dd_A_init_21 : decode bb_A_init 21 = .ok (.aload_n 0, 1) := by decide +kernel
theorem dd_A_init_22 : decode bb_A_init 22 = .ok (.getfield 13, 3) := by decide +kernel
theorem dd_A_init_25 : decode bb_A_init 25 = .ok (.iload_n 1, 1) := by decide +kernel
theorem dd_A_init_26 : decode bb_A_init 26 = .ok (.new 11, 3) := by decide +kernel
theorem dd_A_init_29 : decode bb_A_init 29 = .ok (.dup, 1) := by decide +kernel
theorem dd_A_init_30 : decode bb_A_init 30 = .ok (.invokespecial 17, 3) := by decide +kernel
theorem dd_A_init_33 : decode bb_A_init 33 = .ok (.aastore, 1) := by decide +kernel
theorem dd_A_init_34 : decode bb_A_init 34 = .ok (.iinc 1 1, 3) := by decide +kernel
theorem dd_A_init_37 : decode bb_A_init 37 = .ok (.goto (-22), 3) := by decide +kernel
theorem dd_A_init_40 : decode bb_A_init 40 = .ok (.return_, 1) := by decide +kernel
def mm_A_init_b15 (N : Nat) (this : Option Nat) (st : Int32 × ss_Hp) : Option ((Int32 × ss_Hp) ⊕ ss_Hp) :=
  match st with
  | (x1_15, h_15) =>
    if (20 : Int32) ≤ x1_15 then
      some (.inr h_15)
    else
      (ss_gr h_15 this 3 0).bind fun r5 =>
      ss_b2 (ss_no h_15 0 4 0 2) fun r6 h7 =>
      (mm_G_init N r6 h7).bind fun h8 =>
      (ss_ur h8 r5 24 0 x1_15 r6).bind fun h9 =>
      (some (x1_15 + (1 : Int32))).bind fun v10 =>
      some (.inl (v10, h9))
def mm_A_init (N : Nat) (this : Option Nat) (h : ss_Hp) : Option ss_Hp :=
  if ss_is h this 3 = true then
    ss_b2 (ss_na h 24 20 (20 : Int32)) fun r1 h2 =>
    (ss_pr h2 this 3 0 r1).bind fun h3 =>
    (ss_lp (mm_A_init_b15 N this) N ((0 : Int32), h3)).bind fun h_15_40 =>
    some h_15_40
  else none
abbrev ww_A_init (p : Program) (l : Launch) (e : Env) (s : State) (m : MethodId) (below : List Frame) (meth : Method) (c : Code) (G : ss_G) (this : Option Nat) (h : ss_Hp) (hh : ss_Hp) (H : Heap) (locs : List Loc) (k n : Nat) (g : JFrame) : Prop := W p l e (headSpec (ss_w yy_A_init bb_A_init 2 none) ({ frames := 2, cells := 61, slots := 460, locals := 101 })).room s m ([ss_v (ss_b G) this] : List Value).toArray below meth c H locs k n (MQ below (ss_Qc G none hh) ([ss_v (ss_b G) this] : List Value).toArray s 61 460 (ss_A G)) g
theorem ck_A_init {N : Nat} {this : Option Nat} {h : ss_Hp} {res : ss_Hp} (hm : mm_A_init N this h = some res) : ss_is h this 3 = true := (ss_chk hm).1
set_option maxHeartbeats 4000000 in
set_option maxRecDepth 100000 in
theorem cc_A_init (l : Launch) (G : ss_G) (N : Nat) (this : Option Nat) (h : ss_Hp) (hh : ss_Hp) (hm : mm_A_init N this h = some hh) : ss_Ct l G yy_A_init bb_A_init 2 none ({ frames := 2, cells := 61, slots := 460, locals := 101 }) [ss_v (ss_b G) this] h none hh := by
  obtain ⟨hck, hm⟩ := ss_chk hm
  refine Met.ofW (cc := bb_A_init) (maxL := 2) (ret := none) (by decide) rfl ?_
  intro p e s m args below meth c s₁ B hml hv
  obtain ⟨rfl, hR, hK⟩ := hv
  have hC : CallFix p m c bb_A_init 2 s _ lw_g sR_3 := ⟨B.exec, B.bytes, hml, findClass_of_methodNamed B.named, fun w hw => atoms_spec (ws := ss_w yy_A_init bb_A_init 2 none) B.pre w (List.mem_cons_of_mem _ hw)⟩
  have hx := hC.1
  have hb := hC.2.1
  have hr := B.returns
  have hlocks := B.notSynchronized
  have hin : meth.name = "<init>" := (name_of_methodNamed B.named B.method).1
  have hS : va_S (ss_A G) s.heap s.heap [] := va_S.rf
  have hl := lv_entry ([ss_v (ss_b G) this]) (n := 2) (by simp [lg_sl, ss_v_cat, ss_cat_i, ss_cat_l, ss_cat_r])
  rw [lg_entry_eq]
  generalize (lg_sl ([ss_v (ss_b G) this]) ++ List.replicate (2 - (lg_sl ([ss_v (ss_b G) this])).length) Slot.unset).toArray = ls at hl ⊢
  have hl : lv_has ls 2 [(0, ss_v (ss_b G) this)] := by simpa [lv_args, ss_v_cat, ss_cat_i, ss_cat_l, ss_cat_r] using hl
  refine ss_aload_n hx hb dd_A_init_0 rfl (lv_at hl 0 rfl) ?_
  obtain ⟨_, hck1⟩ := ss_isSome hck
  refine ss_init hC hl.1 kj_A_3 kj_oi kj_oc hck1 (Nat.le_of_ble_eq_true rfl) (Nat.le_of_ble_eq_true rfl) (Nat.le_of_ble_eq_true rfl) dd_A_init_1 ?_
  refine ss_aload_n hx hb dd_A_init_4 rfl (lv_at hl 0 rfl) ?_
  refine lv_bipush (v := 20) hx hb dd_A_init_5 (by decide) ?_
  obtain ⟨r1, h2, qh2, hm⟩ := ss_bind2 hm
  refine ss_newaq hC hK hR hS ka_A_11 hK.2.1.1 (t0 := 4) rfl (by decide) qh2 (by decide) (Nat.le_of_ble_eq_true rfl) (Nat.le_of_ble_eq_true rfl) dd_A_init_7 (fun H hR hS => ?_)
  refine W.widen (k := 1) (n := 20) (Nat.le_of_ble_eq_true rfl) (Nat.le_of_ble_eq_true rfl) ?_
  obtain ⟨h3, qh3, hm⟩ := ss_bind hm
  refine ss_putrF hC hK hR hS hin kq_A_13 rfl (Or.inr ⟨_, rfl⟩) qh3 dd_A_init_10 (fun H locs hR hS => ?_)
  refine lv_iconst (v := 0) hx hb dd_A_init_13 (by decide) ?_
  refine lv_istore_n (lv' := [(1, .int (0 : Int32)), (0, ss_v (ss_b G) this)]) hx hb dd_A_init_14 rfl hl (by decide) (by simp only [List.filter_cons, ss_v_cat]; rfl) (fun ls hl => ?_)
  obtain ⟨e_15, he_15, hm⟩ := ss_bind hm
  have X_15_40 : ∀  (h_15_40 : ss_Hp) (H : Heap) (locs : List Loc) (ls : Array Slot), e_15 = h_15_40 → ss_R G h_15_40 H → va_S (ss_A G) s.heap H locs → lv_has ls 2 [] → ww_A_init p l e s m below meth c G this h hh  H locs 61 460 (F0 m 40 ls []) := by
    intro h_15_40 H locs ls hq hR hS hl
    rw [hq] at hm
    exact ss_vret hC hr hlocks hR hS hm dd_A_init_40
  have L_15 : ∀ (n i_15 : Nat) (x1_15 : Int32) (h_15 : ss_Hp) (H : Heap) (locs : List Loc) (ls : Array Slot), x1_15 = nI i_15 → i_15 ≤ 20 → ss_lp (mm_A_init_b15 N this) n (x1_15, h_15) = some e_15 → ss_R G h_15 H → va_S (ss_A G) s.heap H locs → lv_has ls 2 [(0, ss_v (ss_b G) this), (1, .int x1_15)] → ww_A_init p l e s m below meth c G this h hh  H locs (1 + 3 * i_15) (20 + 22 * i_15) (F0 m 15 ls []) := by
    intro n
    induction n with
    | zero => intro i_15 x1_15 h_15 H locs ls hx1 hle hm; cases hm
    | succ n ih_15 =>
      intro i_15 x1_15 h_15 H locs ls hx1 hle hm hR hS hl
      obtain ⟨z_15, hm, hz1_15, hz2_15⟩ := ss_lps hm
      refine lv_iload_n hx hb dd_A_init_15 rfl (lv_at hl 1 rfl) ?_
      refine lv_bipush (v := 20) hx hb dd_A_init_16 (by decide) ?_
      refine lv_icmp_ge (tgt := 40) hx hb dd_A_init_18 (by decide) (fun c4 => ?_) (fun c4 => ?_)
      · have hm := ss_ift hm c4
        refine W.widen (k := 61) (n := 460) (by omega) (by omega) ?_
        exact X_15_40 h_15 _ _ _ (hz2_15 _ (ss_some hm)) hR hS (lv_sub hl [] rfl)
      · have hm := ss_iff hm c4
        have hlt : i_15 < 20 := by
          rcases Nat.lt_or_ge i_15 20 with q | q
          · exact q
          · exact absurd (by rw [hx1]; exact nI_le (a := 20) (b := i_15) q (by omega)) c4
        refine ss_aload_n hx hb dd_A_init_21 rfl (lv_at hl 0 rfl) ?_
        obtain ⟨r5, qr5, hm⟩ := ss_bind hm
        refine ss_getr hC hK hR kf_A_13 rfl qr5 dd_A_init_22 ?_
        refine lv_iload_n hx hb dd_A_init_25 rfl (lv_at hl 1 rfl) ?_
        obtain ⟨r6, h7, qh7, hm⟩ := ss_bind2 hm
        refine ss_newo (N := 6) hC hK hR hS rfl kn_A_11 rfl qh7 (by show _ ≤ 61; omega) (by show _ ≤ 460; omega) dd_A_init_26 (fun H hR hS => ?_)
        refine W.widen (k := 1 + 3 * i_15 + 1) (n := 20 + 22 * i_15 + 6) (by omega) (by omega) ?_
        refine ss_dupr hx hb dd_A_init_29 ?_
        obtain ⟨h8, qh8, hm⟩ := ss_bind hm
        refine ss_cI (1 + 3 * i_15 + 3) (20 + 22 * i_15 + 22) (As := []) hC hK hR hS hl.1 (cc_G_init l G N _ _ _ qh8) km_A_17 (ck_G_init qh8) ⟨Nat.le_of_ble_eq_true rfl, Nat.le_of_ble_eq_true rfl⟩ ⟨by show _ + 2 ≤ _; omega, by show _ + 16 ≤ _; omega, by show _ ≤ 61; omega, by show _ ≤ 460; omega⟩ rfl rfl (by simp [ss_v_cat, ss_cat_i, ss_cat_l, ss_cat_r]) dd_A_init_30 (fun H locs hR hS => ?_)
        obtain ⟨h9, qh9, hm⟩ := ss_bind hm
        refine ss_aast hC hK hR hS (t0 := 4) (q0 := (sR_0, sT_0, 6)) rfl (by decide) rfl qh9 dd_A_init_33 (fun H locs hR hS => ?_)
        obtain ⟨v10, qv10, hm⟩ := ss_bind hm
        refine lv_iinc (v := v10) (lv' := [(1, .int v10), (0, ss_v (ss_b G) this)]) hx hb dd_A_init_34 hl (k := 1) rfl (ss_inc (by decide) qv10) (by decide) (by simp only [List.filter_cons, ss_v_cat]; rfl) (fun ls hl => ?_)
        refine lv_goto (tgt := 15) hx hb dd_A_init_37 (by decide) ?_
        refine W.widen (k := 1 + 3 * (i_15 + 1)) (n := 20 + 22 * (i_15 + 1)) (by omega) (by omega) ?_
        exact ih_15 (i_15 + 1) v10 h9 _ _ _ (by rw [ss_some qv10, hx1]; exact nI_1 i_15) hlt (hz1_15 _ (ss_some hm)) hR hS (lv_sub hl [1, 0] rfl)
  exact L_15 N 0 (0 : Int32) h3 _ _ _ nI_0.symm (by omega) he_15 hR hS (lv_sub hl [1, 0] rfl)
theorem dd_Wi_init_0 : decode bb_Wi_init 0 = .ok (.aload_n 0, 1) := by decide +kernel
theorem dd_Wi_init_1 : decode bb_Wi_init 1 = .ok (.invokespecial 3, 3) := by decide +kernel
theorem dd_Wi_init_4 : decode bb_Wi_init 4 = .ok (.aload_n 0, 1) := by decide +kernel
theorem dd_Wi_init_5 : decode bb_Wi_init 5 = .ok (.new 9, 3) := by decide +kernel
theorem dd_Wi_init_8 : decode bb_Wi_init 8 = .ok (.dup, 1) := by decide +kernel
theorem dd_Wi_init_9 : decode bb_Wi_init 9 = .ok (.invokespecial 11, 3) := by decide +kernel
theorem dd_Wi_init_12 : decode bb_Wi_init 12 = .ok (.putfield 12, 3) := by decide +kernel
theorem dd_Wi_init_15 : decode bb_Wi_init 15 = .ok (.aload_n 0, 1) := by decide +kernel
theorem dd_Wi_init_16 : decode bb_Wi_init 16 = .ok (.iconst 4, 1) := by decide +kernel
theorem dd_Wi_init_17 : decode bb_Wi_init 17 = .ok (.newarray .int, 2) := by decide +kernel
theorem dd_Wi_init_19 : decode bb_Wi_init 19 = .ok (.putfield 18, 3) := by decide +kernel
theorem dd_Wi_init_22 : decode bb_Wi_init 22 = .ok (.aload_n 0, 1) := by decide +kernel
theorem dd_Wi_init_23 : decode bb_Wi_init 23 = .ok (.bipush 8, 2) := by decide +kernel
theorem dd_Wi_init_25 : decode bb_Wi_init 25 = .ok (.newarray .int, 2) := by decide +kernel
theorem dd_Wi_init_27 : decode bb_Wi_init 27 = .ok (.putfield 22, 3) := by decide +kernel
theorem dd_Wi_init_30 : decode bb_Wi_init 30 = .ok (.aload_n 0, 1) := by decide +kernel
theorem dd_Wi_init_31 : decode bb_Wi_init 31 = .ok (.bipush 8, 2) := by decide +kernel
theorem dd_Wi_init_33 : decode bb_Wi_init 33 = .ok (.newarray .int, 2) := by decide +kernel
theorem dd_Wi_init_35 : decode bb_Wi_init 35 = .ok (.putfield 25, 3) := by decide +kernel
theorem dd_Wi_init_38 : decode bb_Wi_init 38 = .ok (.aload_n 0, 1) := by decide +kernel
theorem dd_Wi_init_39 : decode bb_Wi_init 39 = .ok (.bipush 12, 2) := by decide +kernel
theorem dd_Wi_init_41 : decode bb_Wi_init 41 = .ok (.newarray .long, 2) := by decide +kernel
theorem dd_Wi_init_43 : decode bb_Wi_init 43 = .ok (.putfield 30, 3) := by decide +kernel
theorem dd_Wi_init_46 : decode bb_Wi_init 46 = .ok (.aload_n 0, 1) := by decide +kernel
theorem dd_Wi_init_47 : decode bb_Wi_init 47 = .ok (.bipush 32, 2) := by decide +kernel
theorem dd_Wi_init_49 : decode bb_Wi_init 49 = .ok (.newarray .long, 2) := by decide +kernel
theorem dd_Wi_init_51 : decode bb_Wi_init 51 = .ok (.putfield 34, 3) := by decide +kernel
theorem dd_Wi_init_54 : decode bb_Wi_init 54 = .ok (.aload_n 0, 1) := by decide +kernel
theorem dd_Wi_init_55 : decode bb_Wi_init 55 = .ok (.aload_n 1, 1) := by decide +kernel
theorem dd_Wi_init_56 : decode bb_Wi_init 56 = .ok (.putfield 37, 3) := by decide +kernel
theorem dd_Wi_init_59 : decode bb_Wi_init 59 = .ok (.return_, 1) := by decide +kernel
def mm_Wi_init (N : Nat) (this : Option Nat) (a1 : Option Nat) (h : ss_Hp) : Option ss_Hp :=
  if ss_is h this 7 = true then
    ss_b2 (ss_no h 0 4 0 2) fun r1 h2 =>
    (mm_G_init N r1 h2).bind fun h3 =>
    (ss_pr h3 this 7 0 r1).bind fun h4 =>
    ss_b2 (ss_na h4 20 4 (4 : Int32)) fun r5 h6 =>
    (ss_pr h6 this 7 1 r5).bind fun h7 =>
    ss_b2 (ss_na h7 20 8 (8 : Int32)) fun r8 h9 =>
    (ss_pr h9 this 7 2 r8).bind fun h10 =>
    ss_b2 (ss_na h10 20 8 (8 : Int32)) fun r11 h12 =>
    (ss_pr h12 this 7 3 r11).bind fun h13 =>
    ss_b2 (ss_na h13 23 12 (12 : Int32)) fun r14 h15 =>
    (ss_pr h15 this 7 4 r14).bind fun h16 =>
    ss_b2 (ss_na h16 23 32 (32 : Int32)) fun r17 h18 =>
    (ss_pr h18 this 7 5 r17).bind fun h19 =>
    (ss_pr h19 this 7 6 a1).bind fun h20 =>
    some h20
  else none
abbrev ww_Wi_init (p : Program) (l : Launch) (e : Env) (s : State) (m : MethodId) (below : List Frame) (meth : Method) (c : Code) (G : ss_G) (this : Option Nat) (a1 : Option Nat) (h : ss_Hp) (hh : ss_Hp) (H : Heap) (locs : List Loc) (k n : Nat) (g : JFrame) : Prop := W p l e (headSpec (ss_w yy_Wi_init bb_Wi_init 2 none) ({ frames := 2, cells := 8, slots := 86, locals := 101 })).room s m ([ss_v (ss_b G) this, ss_v (ss_b G) a1] : List Value).toArray below meth c H locs k n (MQ below (ss_Qc G none hh) ([ss_v (ss_b G) this, ss_v (ss_b G) a1] : List Value).toArray s 8 86 (ss_A G)) g
theorem ck_Wi_init {N : Nat} {this : Option Nat} {a1 : Option Nat} {h : ss_Hp} {res : ss_Hp} (hm : mm_Wi_init N this a1 h = some res) : ss_is h this 7 = true := (ss_chk hm).1
set_option maxHeartbeats 4000000 in
set_option maxRecDepth 100000 in
theorem cc_Wi_init (l : Launch) (G : ss_G) (N : Nat) (this : Option Nat) (a1 : Option Nat) (h : ss_Hp) (hh : ss_Hp) (hm : mm_Wi_init N this a1 h = some hh) : ss_Ct l G yy_Wi_init bb_Wi_init 2 none ({ frames := 2, cells := 8, slots := 86, locals := 101 }) [ss_v (ss_b G) this, ss_v (ss_b G) a1] h none hh := by
  obtain ⟨hck, hm⟩ := ss_chk hm
  refine Met.ofW (cc := bb_Wi_init) (maxL := 2) (ret := none) (by decide) rfl ?_
  intro p e s m args below meth c s₁ B hml hv
  obtain ⟨rfl, hR, hK⟩ := hv
  have hC : CallFix p m c bb_Wi_init 2 s _ lw_g sR_7 := ⟨B.exec, B.bytes, hml, findClass_of_methodNamed B.named, fun w hw => atoms_spec (ws := ss_w yy_Wi_init bb_Wi_init 2 none) B.pre w (List.mem_cons_of_mem _ hw)⟩
  have hx := hC.1
  have hb := hC.2.1
  have hr := B.returns
  have hlocks := B.notSynchronized
  have hin : meth.name = "<init>" := (name_of_methodNamed B.named B.method).1
  have hS : va_S (ss_A G) s.heap s.heap [] := va_S.rf
  have hl := lv_entry ([ss_v (ss_b G) this, ss_v (ss_b G) a1]) (n := 2) (by simp [lg_sl, ss_v_cat, ss_cat_i, ss_cat_l, ss_cat_r])
  rw [lg_entry_eq]
  generalize (lg_sl ([ss_v (ss_b G) this, ss_v (ss_b G) a1]) ++ List.replicate (2 - (lg_sl ([ss_v (ss_b G) this, ss_v (ss_b G) a1])).length) Slot.unset).toArray = ls at hl ⊢
  have hl : lv_has ls 2 [(0, ss_v (ss_b G) this), (1, ss_v (ss_b G) a1)] := by simpa [lv_args, ss_v_cat, ss_cat_i, ss_cat_l, ss_cat_r] using hl
  refine ss_aload_n hx hb dd_Wi_init_0 rfl (lv_at hl 0 rfl) ?_
  obtain ⟨_, hck1⟩ := ss_isSome hck
  refine ss_init hC hl.1 kj_Wi_3 kj_oi kj_oc hck1 (Nat.le_of_ble_eq_true rfl) (Nat.le_of_ble_eq_true rfl) (Nat.le_of_ble_eq_true rfl) dd_Wi_init_1 ?_
  refine ss_aload_n hx hb dd_Wi_init_4 rfl (lv_at hl 0 rfl) ?_
  obtain ⟨r1, h2, qh2, hm⟩ := ss_bind2 hm
  refine ss_newo (N := 6) hC hK hR hS rfl kn_Wi_9 rfl qh2 (Nat.le_of_ble_eq_true rfl) (Nat.le_of_ble_eq_true rfl) dd_Wi_init_5 (fun H hR hS => ?_)
  refine W.widen (k := 1) (n := 6) (Nat.le_of_ble_eq_true rfl) (Nat.le_of_ble_eq_true rfl) ?_
  refine ss_dupr hx hb dd_Wi_init_8 ?_
  obtain ⟨h3, qh3, hm⟩ := ss_bind hm
  refine ss_cI 3 22 (As := []) hC hK hR hS hl.1 (cc_G_init l G N _ _ _ qh3) km_Wi_11 (ck_G_init qh3) ⟨Nat.le_of_ble_eq_true rfl, Nat.le_of_ble_eq_true rfl⟩ ⟨Nat.le_of_ble_eq_true rfl, Nat.le_of_ble_eq_true rfl, Nat.le_of_ble_eq_true rfl, Nat.le_of_ble_eq_true rfl⟩ rfl rfl (by simp [ss_v_cat, ss_cat_i, ss_cat_l, ss_cat_r]) dd_Wi_init_9 (fun H locs hR hS => ?_)
  obtain ⟨h4, qh4, hm⟩ := ss_bind hm
  refine ss_putrF hC hK hR hS hin kq_Wi_12 rfl (Or.inl ⟨_, rfl⟩) qh4 dd_Wi_init_12 (fun H locs hR hS => ?_)
  refine ss_aload_n hx hb dd_Wi_init_15 rfl (lv_at hl 0 rfl) ?_
  refine lv_iconst (v := 4) hx hb dd_Wi_init_16 (by decide) ?_
  obtain ⟨r5, h6, qh6, hm⟩ := ss_bind2 hm
  refine ss_newai hC hK hR hS kt_int rfl rfl (by decide) (t0 := 0) rfl (by decide) qh6 (by decide) (Nat.le_of_ble_eq_true rfl) (Nat.le_of_ble_eq_true rfl) dd_Wi_init_17 (fun H hR hS => ?_)
  refine W.widen (k := 4) (n := 26) (Nat.le_of_ble_eq_true rfl) (Nat.le_of_ble_eq_true rfl) ?_
  obtain ⟨h7, qh7, hm⟩ := ss_bind hm
  refine ss_putrF hC hK hR hS hin kq_Wi_18 rfl (Or.inr ⟨_, rfl⟩) qh7 dd_Wi_init_19 (fun H locs hR hS => ?_)
  refine ss_aload_n hx hb dd_Wi_init_22 rfl (lv_at hl 0 rfl) ?_
  refine lv_bipush (v := 8) hx hb dd_Wi_init_23 (by decide) ?_
  obtain ⟨r8, h9, qh9, hm⟩ := ss_bind2 hm
  refine ss_newai hC hK hR hS kt_int rfl rfl (by decide) (t0 := 0) rfl (by decide) qh9 (by decide) (Nat.le_of_ble_eq_true rfl) (Nat.le_of_ble_eq_true rfl) dd_Wi_init_25 (fun H hR hS => ?_)
  refine W.widen (k := 5) (n := 34) (Nat.le_of_ble_eq_true rfl) (Nat.le_of_ble_eq_true rfl) ?_
  obtain ⟨h10, qh10, hm⟩ := ss_bind hm
  refine ss_putrF hC hK hR hS hin kq_Wi_22 rfl (Or.inr ⟨_, rfl⟩) qh10 dd_Wi_init_27 (fun H locs hR hS => ?_)
  refine ss_aload_n hx hb dd_Wi_init_30 rfl (lv_at hl 0 rfl) ?_
  refine lv_bipush (v := 8) hx hb dd_Wi_init_31 (by decide) ?_
  obtain ⟨r11, h12, qh12, hm⟩ := ss_bind2 hm
  refine ss_newai hC hK hR hS kt_int rfl rfl (by decide) (t0 := 0) rfl (by decide) qh12 (by decide) (Nat.le_of_ble_eq_true rfl) (Nat.le_of_ble_eq_true rfl) dd_Wi_init_33 (fun H hR hS => ?_)
  refine W.widen (k := 6) (n := 42) (Nat.le_of_ble_eq_true rfl) (Nat.le_of_ble_eq_true rfl) ?_
  obtain ⟨h13, qh13, hm⟩ := ss_bind hm
  refine ss_putrF hC hK hR hS hin kq_Wi_25 rfl (Or.inr ⟨_, rfl⟩) qh13 dd_Wi_init_35 (fun H locs hR hS => ?_)
  refine ss_aload_n hx hb dd_Wi_init_38 rfl (lv_at hl 0 rfl) ?_
  refine lv_bipush (v := 12) hx hb dd_Wi_init_39 (by decide) ?_
  obtain ⟨r14, h15, qh15, hm⟩ := ss_bind2 hm
  refine ss_newal hC hK hR hS kt_long qh15 (by decide) (Nat.le_of_ble_eq_true rfl) (Nat.le_of_ble_eq_true rfl) dd_Wi_init_41 (fun H hR hS => ?_)
  refine W.widen (k := 7) (n := 54) (Nat.le_of_ble_eq_true rfl) (Nat.le_of_ble_eq_true rfl) ?_
  obtain ⟨h16, qh16, hm⟩ := ss_bind hm
  refine ss_putrF hC hK hR hS hin kq_Wi_30 rfl (Or.inr ⟨_, rfl⟩) qh16 dd_Wi_init_43 (fun H locs hR hS => ?_)
  refine ss_aload_n hx hb dd_Wi_init_46 rfl (lv_at hl 0 rfl) ?_
  refine lv_bipush (v := 32) hx hb dd_Wi_init_47 (by decide) ?_
  obtain ⟨r17, h18, qh18, hm⟩ := ss_bind2 hm
  refine ss_newal hC hK hR hS kt_long qh18 (by decide) (Nat.le_of_ble_eq_true rfl) (Nat.le_of_ble_eq_true rfl) dd_Wi_init_49 (fun H hR hS => ?_)
  refine W.widen (k := 8) (n := 86) (Nat.le_of_ble_eq_true rfl) (Nat.le_of_ble_eq_true rfl) ?_
  obtain ⟨h19, qh19, hm⟩ := ss_bind hm
  refine ss_putrF hC hK hR hS hin kq_Wi_34 rfl (Or.inr ⟨_, rfl⟩) qh19 dd_Wi_init_51 (fun H locs hR hS => ?_)
  refine ss_aload_n hx hb dd_Wi_init_54 rfl (lv_at hl 0 rfl) ?_
  refine ss_aload_n hx hb dd_Wi_init_55 rfl (lv_at hl 1 rfl) ?_
  obtain ⟨h20, qh20, hm⟩ := ss_bind hm
  refine ss_putrF hC hK hR hS hin kq_Wi_37 rfl (Or.inl ⟨_, rfl⟩) qh20 dd_Wi_init_56 (fun H locs hR hS => ?_)
  exact ss_vret hC hr hlocks hR hS hm dd_Wi_init_59
theorem dd_F_init_0 : decode bb_F_init 0 = .ok (.aload_n 0, 1) := by decide +kernel
theorem dd_F_init_1 : decode bb_F_init 1 = .ok (.invokespecial 3, 3) := by decide +kernel
theorem dd_F_init_4 : decode bb_F_init 4 = .ok (.aload_n 0, 1) := by decide +kernel
theorem dd_F_init_5 : decode bb_F_init 5 = .ok (.sipush 488, 3) := by decide +kernel
theorem dd_F_init_8 : decode bb_F_init 8 = .ok (.newarray .int, 2) := by decide +kernel
theorem dd_F_init_10 : decode bb_F_init 10 = .ok (.putfield 11, 3) := by decide +kernel
theorem dd_F_init_13 : decode bb_F_init 13 = .ok (.aload_n 0, 1) := by decide +kernel
theorem dd_F_init_14 : decode bb_F_init 14 = .ok (.bipush 7, 2) := by decide +kernel
theorem dd_F_init_16 : decode bb_F_init 16 = .ok (.newarray .boolean, 2) := by decide +kernel
theorem dd_F_init_18 : decode bb_F_init 18 = .ok (.putfield 15, 3) := by decide +kernel
theorem dd_F_init_21 : decode bb_F_init 21 = .ok (.aload_n 0, 1) := by decide +kernel
theorem dd_F_init_22 : decode bb_F_init 22 = .ok (.aload_n 1, 1) := by decide +kernel
theorem dd_F_init_23 : decode bb_F_init 23 = .ok (.putfield 19, 3) := by decide +kernel
theorem dd_F_init_26 : decode bb_F_init 26 = .ok (.aload_n 0, 1) := by decide +kernel
theorem dd_F_init_27 : decode bb_F_init 27 = .ok (.aload_n 2, 1) := by decide +kernel
theorem dd_F_init_28 : decode bb_F_init 28 = .ok (.putfield 23, 3) := by decide +kernel
theorem dd_F_init_31 : decode bb_F_init 31 = .ok (.aload_n 0, 1) := by decide +kernel
theorem dd_F_init_32 : decode bb_F_init 32 = .ok (.aload_n 3, 1) := by decide +kernel
theorem dd_F_init_33 : decode bb_F_init 33 = .ok (.putfield 27, 3) := by decide +kernel
theorem dd_F_init_36 : decode bb_F_init 36 = .ok (.return_, 1) := by decide +kernel
def mm_F_init (N : Nat) (this : Option Nat) (a1 : Option Nat) (a2 : Option Nat) (a3 : Option Nat) (h : ss_Hp) : Option ss_Hp :=
  if ss_is h this 9 = true then
    ss_b2 (ss_na h 20 488 (488 : Int32)) fun r1 h2 =>
    (ss_pr h2 this 9 3 r1).bind fun h3 =>
    ss_b2 (ss_na h3 22 7 (7 : Int32)) fun r4 h5 =>
    (ss_pr h5 this 9 4 r4).bind fun h6 =>
    (ss_pr h6 this 9 0 a1).bind fun h7 =>
    (ss_pr h7 this 9 1 a2).bind fun h8 =>
    (ss_pr h8 this 9 2 a3).bind fun h9 =>
    some h9
  else none
abbrev ww_F_init (p : Program) (l : Launch) (e : Env) (s : State) (m : MethodId) (below : List Frame) (meth : Method) (c : Code) (G : ss_G) (this : Option Nat) (a1 : Option Nat) (a2 : Option Nat) (a3 : Option Nat) (h : ss_Hp) (hh : ss_Hp) (H : Heap) (locs : List Loc) (k n : Nat) (g : JFrame) : Prop := W p l e (headSpec (ss_w yy_F_init bb_F_init 4 none) ({ frames := 1, cells := 2, slots := 495, locals := 80 })).room s m ([ss_v (ss_b G) this, ss_v (ss_b G) a1, ss_v (ss_b G) a2, ss_v (ss_b G) a3] : List Value).toArray below meth c H locs k n (MQ below (ss_Qc G none hh) ([ss_v (ss_b G) this, ss_v (ss_b G) a1, ss_v (ss_b G) a2, ss_v (ss_b G) a3] : List Value).toArray s 2 495 (ss_A G)) g
theorem ck_F_init {N : Nat} {this : Option Nat} {a1 : Option Nat} {a2 : Option Nat} {a3 : Option Nat} {h : ss_Hp} {res : ss_Hp} (hm : mm_F_init N this a1 a2 a3 h = some res) : ss_is h this 9 = true := (ss_chk hm).1
set_option maxHeartbeats 4000000 in
set_option maxRecDepth 100000 in
theorem cc_F_init (l : Launch) (G : ss_G) (N : Nat) (this : Option Nat) (a1 : Option Nat) (a2 : Option Nat) (a3 : Option Nat) (h : ss_Hp) (hh : ss_Hp) (hm : mm_F_init N this a1 a2 a3 h = some hh) : ss_Ct l G yy_F_init bb_F_init 4 none ({ frames := 1, cells := 2, slots := 495, locals := 80 }) [ss_v (ss_b G) this, ss_v (ss_b G) a1, ss_v (ss_b G) a2, ss_v (ss_b G) a3] h none hh := by
  obtain ⟨hck, hm⟩ := ss_chk hm
  refine Met.ofW (cc := bb_F_init) (maxL := 4) (ret := none) (by decide) rfl ?_
  intro p e s m args below meth c s₁ B hml hv
  obtain ⟨rfl, hR, hK⟩ := hv
  have hC : CallFix p m c bb_F_init 4 s _ lw_g sR_9 := ⟨B.exec, B.bytes, hml, findClass_of_methodNamed B.named, fun w hw => atoms_spec (ws := ss_w yy_F_init bb_F_init 4 none) B.pre w (List.mem_cons_of_mem _ hw)⟩
  have hx := hC.1
  have hb := hC.2.1
  have hr := B.returns
  have hlocks := B.notSynchronized
  have hin : meth.name = "<init>" := (name_of_methodNamed B.named B.method).1
  have hS : va_S (ss_A G) s.heap s.heap [] := va_S.rf
  have hl := lv_entry ([ss_v (ss_b G) this, ss_v (ss_b G) a1, ss_v (ss_b G) a2, ss_v (ss_b G) a3]) (n := 4) (by simp [lg_sl, ss_v_cat, ss_cat_i, ss_cat_l, ss_cat_r])
  rw [lg_entry_eq]
  generalize (lg_sl ([ss_v (ss_b G) this, ss_v (ss_b G) a1, ss_v (ss_b G) a2, ss_v (ss_b G) a3]) ++ List.replicate (4 - (lg_sl ([ss_v (ss_b G) this, ss_v (ss_b G) a1, ss_v (ss_b G) a2, ss_v (ss_b G) a3])).length) Slot.unset).toArray = ls at hl ⊢
  have hl : lv_has ls 4 [(0, ss_v (ss_b G) this), (1, ss_v (ss_b G) a1), (2, ss_v (ss_b G) a2), (3, ss_v (ss_b G) a3)] := by simpa [lv_args, ss_v_cat, ss_cat_i, ss_cat_l, ss_cat_r] using hl
  refine ss_aload_n hx hb dd_F_init_0 rfl (lv_at hl 0 rfl) ?_
  obtain ⟨_, hck1⟩ := ss_isSome hck
  refine ss_init hC hl.1 kj_F_3 kj_oi kj_oc hck1 (Nat.le_of_ble_eq_true rfl) (Nat.le_of_ble_eq_true rfl) (Nat.le_of_ble_eq_true rfl) dd_F_init_1 ?_
  refine ss_aload_n hx hb dd_F_init_4 rfl (lv_at hl 0 rfl) ?_
  refine lv_sipush (v := 488) hx hb dd_F_init_5 (by decide) ?_
  obtain ⟨r1, h2, qh2, hm⟩ := ss_bind2 hm
  refine ss_newai hC hK hR hS kt_int rfl rfl (by decide) (t0 := 0) rfl (by decide) qh2 (by decide) (Nat.le_of_ble_eq_true rfl) (Nat.le_of_ble_eq_true rfl) dd_F_init_8 (fun H hR hS => ?_)
  refine W.widen (k := 1) (n := 488) (Nat.le_of_ble_eq_true rfl) (Nat.le_of_ble_eq_true rfl) ?_
  obtain ⟨h3, qh3, hm⟩ := ss_bind hm
  refine ss_putrF hC hK hR hS hin kq_F_11 rfl (Or.inr ⟨_, rfl⟩) qh3 dd_F_init_10 (fun H locs hR hS => ?_)
  refine ss_aload_n hx hb dd_F_init_13 rfl (lv_at hl 0 rfl) ?_
  refine lv_bipush (v := 7) hx hb dd_F_init_14 (by decide) ?_
  obtain ⟨r4, h5, qh5, hm⟩ := ss_bind2 hm
  refine ss_newai hC hK hR hS kt_boolean rfl rfl (by decide) (t0 := 2) rfl (by decide) qh5 (by decide) (Nat.le_of_ble_eq_true rfl) (Nat.le_of_ble_eq_true rfl) dd_F_init_16 (fun H hR hS => ?_)
  refine W.widen (k := 2) (n := 495) (Nat.le_of_ble_eq_true rfl) (Nat.le_of_ble_eq_true rfl) ?_
  obtain ⟨h6, qh6, hm⟩ := ss_bind hm
  refine ss_putrF hC hK hR hS hin kq_F_15 rfl (Or.inr ⟨_, rfl⟩) qh6 dd_F_init_18 (fun H locs hR hS => ?_)
  refine ss_aload_n hx hb dd_F_init_21 rfl (lv_at hl 0 rfl) ?_
  refine ss_aload_n hx hb dd_F_init_22 rfl (lv_at hl 1 rfl) ?_
  obtain ⟨h7, qh7, hm⟩ := ss_bind hm
  refine ss_putrF hC hK hR hS hin kq_F_19 rfl (Or.inl ⟨_, rfl⟩) qh7 dd_F_init_23 (fun H locs hR hS => ?_)
  refine ss_aload_n hx hb dd_F_init_26 rfl (lv_at hl 0 rfl) ?_
  refine ss_aload_n hx hb dd_F_init_27 rfl (lv_at hl 2 rfl) ?_
  obtain ⟨h8, qh8, hm⟩ := ss_bind hm
  refine ss_putrF hC hK hR hS hin kq_F_23 rfl (Or.inr ⟨_, rfl⟩) qh8 dd_F_init_28 (fun H locs hR hS => ?_)
  refine ss_aload_n hx hb dd_F_init_31 rfl (lv_at hl 0 rfl) ?_
  refine ss_aload_n hx hb dd_F_init_32 rfl (lv_at hl 3 rfl) ?_
  obtain ⟨h9, qh9, hm⟩ := ss_bind hm
  refine ss_putrF hC hK hR hS hin kq_F_27 rfl (Or.inl ⟨_, rfl⟩) qh9 dd_F_init_33 (fun H locs hR hS => ?_)
  exact ss_vret hC hr hlocks hR hS hm dd_F_init_36
theorem dd_P_init_0 : decode bb_P_init 0 = .ok (.aload_n 0, 1) := by decide +kernel
theorem dd_P_init_1 : decode bb_P_init 1 = .ok (.invokespecial 3, 3) := by decide +kernel
theorem dd_P_init_4 : decode bb_P_init 4 = .ok (.aload_n 0, 1) := by decide +kernel
theorem dd_P_init_5 : decode bb_P_init 5 = .ok (.bipush 8, 2) := by decide +kernel
theorem dd_P_init_7 : decode bb_P_init 7 = .ok (.newarray .int, 2) := by decide +kernel
theorem dd_P_init_9 : decode bb_P_init 9 = .ok (.putfield 9, 3) := by decide +kernel
theorem dd_P_init_12 : decode bb_P_init 12 = .ok (.aload_n 0, 1) := by decide +kernel
theorem dd_P_init_13 : decode bb_P_init 13 = .ok (.bipush 8, 2) := by decide +kernel
theorem dd_P_init_15 : decode bb_P_init 15 = .ok (.newarray .int, 2) := by decide +kernel
theorem dd_P_init_17 : decode bb_P_init 17 = .ok (.putfield 15, 3) := by decide +kernel
theorem dd_P_init_20 : decode bb_P_init 20 = .ok (.aload_n 0, 1) := by decide +kernel
theorem dd_P_init_21 : decode bb_P_init 21 = .ok (.bipush 64, 2) := by decide +kernel
theorem dd_P_init_23 : decode bb_P_init 23 = .ok (.newarray .int, 2) := by decide +kernel
theorem dd_P_init_25 : decode bb_P_init 25 = .ok (.putfield 18, 3) := by decide +kernel
theorem dd_P_init_28 : decode bb_P_init 28 = .ok (.aload_n 0, 1) := by decide +kernel
theorem dd_P_init_29 : decode bb_P_init 29 = .ok (.aload_n 1, 1) := by decide +kernel
theorem dd_P_init_30 : decode bb_P_init 30 = .ok (.putfield 21, 3) := by decide +kernel
theorem dd_P_init_33 : decode bb_P_init 33 = .ok (.aload_n 0, 1) := by decide +kernel
theorem dd_P_init_34 : decode bb_P_init 34 = .ok (.aload_n 2, 1) := by decide +kernel
theorem dd_P_init_35 : decode bb_P_init 35 = .ok (.putfield 25, 3) := by decide +kernel
theorem dd_P_init_38 : decode bb_P_init 38 = .ok (.return_, 1) := by decide +kernel
def mm_P_init (N : Nat) (this : Option Nat) (a1 : Option Nat) (a2 : Option Nat) (h : ss_Hp) : Option ss_Hp :=
  if ss_is h this 10 = true then
    ss_b2 (ss_na h 20 8 (8 : Int32)) fun r1 h2 =>
    (ss_pr h2 this 10 2 r1).bind fun h3 =>
    ss_b2 (ss_na h3 20 8 (8 : Int32)) fun r4 h5 =>
    (ss_pr h5 this 10 3 r4).bind fun h6 =>
    ss_b2 (ss_na h6 20 64 (64 : Int32)) fun r7 h8 =>
    (ss_pr h8 this 10 4 r7).bind fun h9 =>
    (ss_pr h9 this 10 0 a1).bind fun h10 =>
    (ss_pr h10 this 10 1 a2).bind fun h11 =>
    some h11
  else none
abbrev ww_P_init (p : Program) (l : Launch) (e : Env) (s : State) (m : MethodId) (below : List Frame) (meth : Method) (c : Code) (G : ss_G) (this : Option Nat) (a1 : Option Nat) (a2 : Option Nat) (h : ss_Hp) (hh : ss_Hp) (H : Heap) (locs : List Loc) (k n : Nat) (g : JFrame) : Prop := W p l e (headSpec (ss_w yy_P_init bb_P_init 3 none) ({ frames := 1, cells := 3, slots := 80, locals := 80 })).room s m ([ss_v (ss_b G) this, ss_v (ss_b G) a1, ss_v (ss_b G) a2] : List Value).toArray below meth c H locs k n (MQ below (ss_Qc G none hh) ([ss_v (ss_b G) this, ss_v (ss_b G) a1, ss_v (ss_b G) a2] : List Value).toArray s 3 80 (ss_A G)) g
theorem ck_P_init {N : Nat} {this : Option Nat} {a1 : Option Nat} {a2 : Option Nat} {h : ss_Hp} {res : ss_Hp} (hm : mm_P_init N this a1 a2 h = some res) : ss_is h this 10 = true := (ss_chk hm).1
set_option maxHeartbeats 4000000 in
set_option maxRecDepth 100000 in
theorem cc_P_init (l : Launch) (G : ss_G) (N : Nat) (this : Option Nat) (a1 : Option Nat) (a2 : Option Nat) (h : ss_Hp) (hh : ss_Hp) (hm : mm_P_init N this a1 a2 h = some hh) : ss_Ct l G yy_P_init bb_P_init 3 none ({ frames := 1, cells := 3, slots := 80, locals := 80 }) [ss_v (ss_b G) this, ss_v (ss_b G) a1, ss_v (ss_b G) a2] h none hh := by
  obtain ⟨hck, hm⟩ := ss_chk hm
  refine Met.ofW (cc := bb_P_init) (maxL := 3) (ret := none) (by decide) rfl ?_
  intro p e s m args below meth c s₁ B hml hv
  obtain ⟨rfl, hR, hK⟩ := hv
  have hC : CallFix p m c bb_P_init 3 s _ lw_g sR_10 := ⟨B.exec, B.bytes, hml, findClass_of_methodNamed B.named, fun w hw => atoms_spec (ws := ss_w yy_P_init bb_P_init 3 none) B.pre w (List.mem_cons_of_mem _ hw)⟩
  have hx := hC.1
  have hb := hC.2.1
  have hr := B.returns
  have hlocks := B.notSynchronized
  have hin : meth.name = "<init>" := (name_of_methodNamed B.named B.method).1
  have hS : va_S (ss_A G) s.heap s.heap [] := va_S.rf
  have hl := lv_entry ([ss_v (ss_b G) this, ss_v (ss_b G) a1, ss_v (ss_b G) a2]) (n := 3) (by simp [lg_sl, ss_v_cat, ss_cat_i, ss_cat_l, ss_cat_r])
  rw [lg_entry_eq]
  generalize (lg_sl ([ss_v (ss_b G) this, ss_v (ss_b G) a1, ss_v (ss_b G) a2]) ++ List.replicate (3 - (lg_sl ([ss_v (ss_b G) this, ss_v (ss_b G) a1, ss_v (ss_b G) a2])).length) Slot.unset).toArray = ls at hl ⊢
  have hl : lv_has ls 3 [(0, ss_v (ss_b G) this), (1, ss_v (ss_b G) a1), (2, ss_v (ss_b G) a2)] := by simpa [lv_args, ss_v_cat, ss_cat_i, ss_cat_l, ss_cat_r] using hl
  refine ss_aload_n hx hb dd_P_init_0 rfl (lv_at hl 0 rfl) ?_
  obtain ⟨_, hck1⟩ := ss_isSome hck
  refine ss_init hC hl.1 kj_P_3 kj_oi kj_oc hck1 (Nat.le_of_ble_eq_true rfl) (Nat.le_of_ble_eq_true rfl) (Nat.le_of_ble_eq_true rfl) dd_P_init_1 ?_
  refine ss_aload_n hx hb dd_P_init_4 rfl (lv_at hl 0 rfl) ?_
  refine lv_bipush (v := 8) hx hb dd_P_init_5 (by decide) ?_
  obtain ⟨r1, h2, qh2, hm⟩ := ss_bind2 hm
  refine ss_newai hC hK hR hS kt_int rfl rfl (by decide) (t0 := 0) rfl (by decide) qh2 (by decide) (Nat.le_of_ble_eq_true rfl) (Nat.le_of_ble_eq_true rfl) dd_P_init_7 (fun H hR hS => ?_)
  refine W.widen (k := 1) (n := 8) (Nat.le_of_ble_eq_true rfl) (Nat.le_of_ble_eq_true rfl) ?_
  obtain ⟨h3, qh3, hm⟩ := ss_bind hm
  refine ss_putrF hC hK hR hS hin kq_P_9 rfl (Or.inr ⟨_, rfl⟩) qh3 dd_P_init_9 (fun H locs hR hS => ?_)
  refine ss_aload_n hx hb dd_P_init_12 rfl (lv_at hl 0 rfl) ?_
  refine lv_bipush (v := 8) hx hb dd_P_init_13 (by decide) ?_
  obtain ⟨r4, h5, qh5, hm⟩ := ss_bind2 hm
  refine ss_newai hC hK hR hS kt_int rfl rfl (by decide) (t0 := 0) rfl (by decide) qh5 (by decide) (Nat.le_of_ble_eq_true rfl) (Nat.le_of_ble_eq_true rfl) dd_P_init_15 (fun H hR hS => ?_)
  refine W.widen (k := 2) (n := 16) (Nat.le_of_ble_eq_true rfl) (Nat.le_of_ble_eq_true rfl) ?_
  obtain ⟨h6, qh6, hm⟩ := ss_bind hm
  refine ss_putrF hC hK hR hS hin kq_P_15 rfl (Or.inr ⟨_, rfl⟩) qh6 dd_P_init_17 (fun H locs hR hS => ?_)
  refine ss_aload_n hx hb dd_P_init_20 rfl (lv_at hl 0 rfl) ?_
  refine lv_bipush (v := 64) hx hb dd_P_init_21 (by decide) ?_
  obtain ⟨r7, h8, qh8, hm⟩ := ss_bind2 hm
  refine ss_newai hC hK hR hS kt_int rfl rfl (by decide) (t0 := 0) rfl (by decide) qh8 (by decide) (Nat.le_of_ble_eq_true rfl) (Nat.le_of_ble_eq_true rfl) dd_P_init_23 (fun H hR hS => ?_)
  refine W.widen (k := 3) (n := 80) (Nat.le_of_ble_eq_true rfl) (Nat.le_of_ble_eq_true rfl) ?_
  obtain ⟨h9, qh9, hm⟩ := ss_bind hm
  refine ss_putrF hC hK hR hS hin kq_P_18 rfl (Or.inr ⟨_, rfl⟩) qh9 dd_P_init_25 (fun H locs hR hS => ?_)
  refine ss_aload_n hx hb dd_P_init_28 rfl (lv_at hl 0 rfl) ?_
  refine ss_aload_n hx hb dd_P_init_29 rfl (lv_at hl 1 rfl) ?_
  obtain ⟨h10, qh10, hm⟩ := ss_bind hm
  refine ss_putrF hC hK hR hS hin kq_P_21 rfl (Or.inl ⟨_, rfl⟩) qh10 dd_P_init_30 (fun H locs hR hS => ?_)
  refine ss_aload_n hx hb dd_P_init_33 rfl (lv_at hl 0 rfl) ?_
  refine ss_aload_n hx hb dd_P_init_34 rfl (lv_at hl 2 rfl) ?_
  obtain ⟨h11, qh11, hm⟩ := ss_bind hm
  refine ss_putrF hC hK hR hS hin kq_P_25 rfl (Or.inl ⟨_, rfl⟩) qh11 dd_P_init_35 (fun H locs hR hS => ?_)
  exact ss_vret hC hr hlocks hR hS hm dd_P_init_38
theorem dd_S_init_0 : decode bb_S_init 0 = .ok (.aload_n 0, 1) := by decide +kernel
theorem dd_S_init_1 : decode bb_S_init 1 = .ok (.invokespecial 1, 3) := by decide +kernel
theorem dd_S_init_4 : decode bb_S_init 4 = .ok (.aload_n 0, 1) := by decide +kernel
theorem dd_S_init_5 : decode bb_S_init 5 = .ok (.new 7, 3) := by decide +kernel
theorem dd_S_init_8 : decode bb_S_init 8 = .ok (.dup, 1) := by decide +kernel
theorem dd_S_init_9 : decode bb_S_init 9 = .ok (.invokespecial 9, 3) := by decide +kernel
theorem dd_S_init_12 : decode bb_S_init 12 = .ok (.putfield 10, 3) := by decide +kernel
theorem dd_S_init_15 : decode bb_S_init 15 = .ok (.aload_n 0, 1) := by decide +kernel
theorem dd_S_init_16 : decode bb_S_init 16 = .ok (.new 16, 3) := by decide +kernel
theorem dd_S_init_19 : decode bb_S_init 19 = .ok (.dup, 1) := by decide +kernel
theorem dd_S_init_20 : decode bb_S_init 20 = .ok (.aload_n 0, 1) := by decide +kernel
theorem dd_S_init_21 : decode bb_S_init 21 = .ok (.getfield 10, 3) := by decide +kernel
theorem dd_S_init_24 : decode bb_S_init 24 = .ok (.invokespecial 18, 3) := by decide +kernel
theorem dd_S_init_27 : decode bb_S_init 27 = .ok (.putfield 21, 3) := by decide +kernel
theorem dd_S_init_30 : decode bb_S_init 30 = .ok (.aload_n 0, 1) := by decide +kernel
theorem dd_S_init_31 : decode bb_S_init 31 = .ok (.new 25, 3) := by decide +kernel
theorem dd_S_init_34 : decode bb_S_init 34 = .ok (.dup, 1) := by decide +kernel
theorem dd_S_init_35 : decode bb_S_init 35 = .ok (.aload_n 0, 1) := by decide +kernel
theorem dd_S_init_36 : decode bb_S_init 36 = .ok (.getfield 10, 3) := by decide +kernel
theorem dd_S_init_39 : decode bb_S_init 39 = .ok (.invokespecial 27, 3) := by decide +kernel
theorem dd_S_init_42 : decode bb_S_init 42 = .ok (.putfield 28, 3) := by decide +kernel
theorem dd_S_init_45 : decode bb_S_init 45 = .ok (.aload_n 0, 1) := by decide +kernel
theorem dd_S_init_46 : decode bb_S_init 46 = .ok (.bipush 6, 2) := by decide +kernel
theorem dd_S_init_48 : decode bb_S_init 48 = .ok (.anewarray 32, 3) := by decide +kernel
theorem dd_S_init_51 : decode bb_S_init 51 = .ok (.putfield 34, 3) := by decide +kernel
theorem dd_S_init_54 : decode bb_S_init 54 = .ok (.aload_n 0, 1) := by decide +kernel
theorem dd_S_init_55 : decode bb_S_init 55 = .ok (.new 38, 3) := by decide +kernel
theorem dd_S_init_58 : decode bb_S_init 58 = .ok (.dup, 1) := by decide +kernel
theorem dd_S_init_59 : decode bb_S_init 59 = .ok (.invokespecial 40, 3) := by decide +kernel
theorem dd_S_init_62 : decode bb_S_init 62 = .ok (.putfield 41, 3) := by decide +kernel
theorem dd_S_init_65 : decode bb_S_init 65 = .ok (.aload_n 0, 1) := by decide +kernel
theorem dd_S_init_66 : decode bb_S_init 66 = .ok (.iconst 4, 1) := by decide +kernel
theorem dd_S_init_67 : decode bb_S_init 67 = .ok (.anewarray 38, 3) := by decide +kernel
theorem dd_S_init_70 : decode bb_S_init 70 = .ok (.putfield 45, 3) := by decide +kernel
theorem dd_S_init_73 : decode bb_S_init 73 = .ok (.aload_n 0, 1) := by decide +kernel
theorem dd_S_init_74 : decode bb_S_init 74 = .ok (.new 49, 3) := by decide +kernel
theorem dd_S_init_77 : decode bb_S_init 77 = .ok (.dup, 1) := by decide +kernel
theorem dd_S_init_78 : decode bb_S_init 78 = .ok (.invokespecial 51, 3) := by decide +kernel
theorem dd_S_init_81 : decode bb_S_init 81 = .ok (.putfield 52, 3) := by decide +kernel
theorem dd_S_init_84 : decode bb_S_init 84 = .ok (.aload_n 0, 1) := by decide +kernel
theorem dd_S_init_85 : decode bb_S_init 85 = .ok (.new 56, 3) := by decide +kernel
theorem dd_S_init_88 : decode bb_S_init 88 = .ok (.dup, 1) := by decide +kernel
theorem dd_S_init_89 : decode bb_S_init 89 = .ok (.aload_n 0, 1) := by decide +kernel
theorem dd_S_init_90 : decode bb_S_init 90 = .ok (.getfield 41, 3) := by decide +kernel
theorem dd_S_init_93 : decode bb_S_init 93 = .ok (.getfield 58, 3) := by decide +kernel
theorem dd_S_init_96 : decode bb_S_init 96 = .ok (.invokespecial 62, 3) := by decide +kernel
theorem dd_S_init_99 : decode bb_S_init 99 = .ok (.putfield 65, 3) := by decide +kernel
theorem dd_S_init_102 : decode bb_S_init 102 = .ok (.aload_n 0, 1) := by decide +kernel
theorem dd_S_init_103 : decode bb_S_init 103 = .ok (.new 69, 3) := by decide +kernel
theorem dd_S_init_106 : decode bb_S_init 106 = .ok (.dup, 1) := by decide +kernel
theorem dd_S_init_107 : decode bb_S_init 107 = .ok (.aload_n 0, 1) := by decide +kernel
theorem dd_S_init_108 : decode bb_S_init 108 = .ok (.getfield 41, 3) := by decide +kernel
theorem dd_S_init_111 : decode bb_S_init 111 = .ok (.aload_n 0, 1) := by decide +kernel
theorem dd_S_init_112 : decode bb_S_init 112 = .ok (.getfield 34, 3) := by decide +kernel
theorem dd_S_init_115 : decode bb_S_init 115 = .ok (.aload_n 0, 1) := by decide +kernel
theorem dd_S_init_116 : decode bb_S_init 116 = .ok (.getfield 65, 3) := by decide +kernel
theorem dd_S_init_119 : decode bb_S_init 119 = .ok (.invokespecial 71, 3) := by decide +kernel
theorem dd_S_init_122 : decode bb_S_init 122 = .ok (.putfield 74, 3) := by decide +kernel
theorem dd_S_init_125 : decode bb_S_init 125 = .ok (.aload_n 0, 1) := by decide +kernel
theorem dd_S_init_126 : decode bb_S_init 126 = .ok (.new 78, 3) := by decide +kernel
theorem dd_S_init_129 : decode bb_S_init 129 = .ok (.dup, 1) := by decide +kernel
theorem dd_S_init_130 : decode bb_S_init 130 = .ok (.aload_n 0, 1) := by decide +kernel
theorem dd_S_init_131 : decode bb_S_init 131 = .ok (.getfield 41, 3) := by decide +kernel
theorem dd_S_init_134 : decode bb_S_init 134 = .ok (.aload_n 0, 1) := by decide +kernel
theorem dd_S_init_135 : decode bb_S_init 135 = .ok (.getfield 65, 3) := by decide +kernel
theorem dd_S_init_138 : decode bb_S_init 138 = .ok (.invokespecial 80, 3) := by decide +kernel
theorem dd_S_init_141 : decode bb_S_init 141 = .ok (.putfield 83, 3) := by decide +kernel
theorem dd_S_init_144 : decode bb_S_init 144 = .ok (.return_, 1) := by decide +kernel
def mm_S_init (N : Nat) (this : Option Nat) (h : ss_Hp) : Option ss_Hp :=
  if ss_is h this 11 = true then
    ss_b2 (ss_no h 2 5 0 1) fun r1 h2 =>
    (mm_T_init N r1 h2).bind fun h3 =>
    (ss_pr h3 this 11 0 r1).bind fun h4 =>
    ss_b2 (ss_no h4 6 0 0 3) fun r5 h6 =>
    (ss_gr h6 this 11 0).bind fun r7 =>
    (mm_VR_init N r5 r7 h6).bind fun h8 =>
    (ss_pr h8 this 11 1 r5).bind fun h9 =>
    ss_b2 (ss_no h9 4 3 0 3) fun r10 h11 =>
    (ss_gr h11 this 11 0).bind fun r12 =>
    (mm_RR_init N r10 r12 h11).bind fun h13 =>
    (ss_pr h13 this 11 2 r10).bind fun h14 =>
    ss_b2 (ss_na h14 25 6 (6 : Int32)) fun r15 h16 =>
    (ss_pr h16 this 11 3 r15).bind fun h17 =>
    ss_b2 (ss_no h17 8 3 0 5) fun r18 h19 =>
    (mm_Wo_init N r18 h19).bind fun h20 =>
    (ss_pr h20 this 11 4 r18).bind fun h21 =>
    ss_b2 (ss_na h21 26 4 (4 : Int32)) fun r22 h23 =>
    (ss_pr h23 this 11 5 r22).bind fun h24 =>
    ss_b2 (ss_no h24 3 2 0 1) fun r25 h26 =>
    (mm_A_init N r25 h26).bind fun h27 =>
    (ss_pr h27 this 11 6 r25).bind fun h28 =>
    ss_b2 (ss_no h28 7 0 0 8) fun r29 h30 =>
    (ss_gr h30 this 11 4).bind fun r31 =>
    (ss_gr h30 r31 8 0).bind fun r32 =>
    (mm_Wi_init N r29 r32 h30).bind fun h33 =>
    (ss_pr h33 this 11 7 r29).bind fun h34 =>
    ss_b2 (ss_no h34 9 0 0 5) fun r35 h36 =>
    (ss_gr h36 this 11 4).bind fun r37 =>
    (ss_gr h36 this 11 3).bind fun r38 =>
    (ss_gr h36 this 11 7).bind fun r39 =>
    (mm_F_init N r35 r37 r38 r39 h36).bind fun h40 =>
    (ss_pr h40 this 11 8 r35).bind fun h41 =>
    ss_b2 (ss_no h41 10 0 0 5) fun r42 h43 =>
    (ss_gr h43 this 11 4).bind fun r44 =>
    (ss_gr h43 this 11 7).bind fun r45 =>
    (mm_P_init N r42 r44 r45 h43).bind fun h46 =>
    (ss_pr h46 this 11 9 r42).bind fun h47 =>
    some h47
  else none
abbrev ww_S_init (p : Program) (l : Launch) (e : Env) (s : State) (m : MethodId) (below : List Frame) (meth : Method) (c : Code) (G : ss_G) (this : Option Nat) (h : ss_Hp) (hh : ss_Hp) (H : Heap) (locs : List Loc) (k n : Nat) (g : JFrame) : Prop := W p l e (headSpec (ss_w yy_S_init bb_S_init 1 none) ({ frames := 4, cells := 117, slots := 2220, locals := 142 })).room s m ([ss_v (ss_b G) this] : List Value).toArray below meth c H locs k n (MQ below (ss_Qc G none hh) ([ss_v (ss_b G) this] : List Value).toArray s 117 2220 (ss_A G)) g
theorem ck_S_init {N : Nat} {this : Option Nat} {h : ss_Hp} {res : ss_Hp} (hm : mm_S_init N this h = some res) : ss_is h this 11 = true := (ss_chk hm).1
set_option maxHeartbeats 4000000 in
set_option maxRecDepth 100000 in
theorem cc_S_init (l : Launch) (G : ss_G) (N : Nat) (this : Option Nat) (h : ss_Hp) (hh : ss_Hp) (hm : mm_S_init N this h = some hh) : ss_Ct l G yy_S_init bb_S_init 1 none ({ frames := 4, cells := 117, slots := 2220, locals := 142 }) [ss_v (ss_b G) this] h none hh := by
  obtain ⟨hck, hm⟩ := ss_chk hm
  refine Met.ofW (cc := bb_S_init) (maxL := 1) (ret := none) (by decide) rfl ?_
  intro p e s m args below meth c s₁ B hml hv
  obtain ⟨rfl, hR, hK⟩ := hv
  have hC : CallFix p m c bb_S_init 1 s _ lw_g sR_11 := ⟨B.exec, B.bytes, hml, findClass_of_methodNamed B.named, fun w hw => atoms_spec (ws := ss_w yy_S_init bb_S_init 1 none) B.pre w (List.mem_cons_of_mem _ hw)⟩
  have hx := hC.1
  have hb := hC.2.1
  have hr := B.returns
  have hlocks := B.notSynchronized
  have hin : meth.name = "<init>" := (name_of_methodNamed B.named B.method).1
  have hS : va_S (ss_A G) s.heap s.heap [] := va_S.rf
  have hl := lv_entry ([ss_v (ss_b G) this]) (n := 1) (by simp [lg_sl, ss_v_cat, ss_cat_i, ss_cat_l, ss_cat_r])
  rw [lg_entry_eq]
  generalize (lg_sl ([ss_v (ss_b G) this]) ++ List.replicate (1 - (lg_sl ([ss_v (ss_b G) this])).length) Slot.unset).toArray = ls at hl ⊢
  have hl : lv_has ls 1 [(0, ss_v (ss_b G) this)] := by simpa [lv_args, ss_v_cat, ss_cat_i, ss_cat_l, ss_cat_r] using hl
  refine ss_aload_n hx hb dd_S_init_0 rfl (lv_at hl 0 rfl) ?_
  obtain ⟨_, hck1⟩ := ss_isSome hck
  refine ss_init hC hl.1 kj_S_1 kj_oi kj_oc hck1 (Nat.le_of_ble_eq_true rfl) (Nat.le_of_ble_eq_true rfl) (Nat.le_of_ble_eq_true rfl) dd_S_init_1 ?_
  refine ss_aload_n hx hb dd_S_init_4 rfl (lv_at hl 0 rfl) ?_
  obtain ⟨r1, h2, qh2, hm⟩ := ss_bind2 hm
  refine ss_newo (N := 6) hC hK hR hS rfl kn_S_7 rfl qh2 (Nat.le_of_ble_eq_true rfl) (Nat.le_of_ble_eq_true rfl) dd_S_init_5 (fun H hR hS => ?_)
  refine W.widen (k := 1) (n := 6) (Nat.le_of_ble_eq_true rfl) (Nat.le_of_ble_eq_true rfl) ?_
  refine ss_dupr hx hb dd_S_init_8 ?_
  obtain ⟨h3, qh3, hm⟩ := ss_bind hm
  refine ss_cN 2 406 (As := []) hC hK hR hS hl.1 (cc_T_init l G N _ _ _ qh3) km_S_9 (ck_T_init qh3) ⟨Nat.le_of_ble_eq_true rfl, Nat.le_of_ble_eq_true rfl⟩ ⟨Nat.le_of_ble_eq_true rfl, Nat.le_of_ble_eq_true rfl, Nat.le_of_ble_eq_true rfl, Nat.le_of_ble_eq_true rfl⟩ rfl rfl (by simp [ss_v_cat, ss_cat_i, ss_cat_l, ss_cat_r]) dd_S_init_9 (fun H locs hR hS => ?_)
  obtain ⟨h4, qh4, hm⟩ := ss_bind hm
  refine ss_putrF hC hK hR hS hin kq_S_10 rfl (Or.inl ⟨_, rfl⟩) qh4 dd_S_init_12 (fun H locs hR hS => ?_)
  refine ss_aload_n hx hb dd_S_init_15 rfl (lv_at hl 0 rfl) ?_
  obtain ⟨r5, h6, qh6, hm⟩ := ss_bind2 hm
  refine ss_newo (N := 3) hC hK hR hS rfl kn_S_16 rfl qh6 (Nat.le_of_ble_eq_true rfl) (Nat.le_of_ble_eq_true rfl) dd_S_init_16 (fun H hR hS => ?_)
  refine W.widen (k := 3) (n := 409) (Nat.le_of_ble_eq_true rfl) (Nat.le_of_ble_eq_true rfl) ?_
  refine ss_dupr hx hb dd_S_init_19 ?_
  refine ss_aload_n hx hb dd_S_init_20 rfl (lv_at hl 0 rfl) ?_
  obtain ⟨r7, qr7, hm⟩ := ss_bind hm
  refine ss_getr hC hK hR kf_S_10 rfl qr7 dd_S_init_21 ?_
  obtain ⟨h8, qh8, hm⟩ := ss_bind hm
  refine ss_cI 19 521 (As := [ss_v (ss_b G) r7]) hC hK hR hS hl.1 (cc_VR_init l G N _ _ _ _ qh8) km_S_18 (ck_VR_init qh8) ⟨Nat.le_of_ble_eq_true rfl, Nat.le_of_ble_eq_true rfl⟩ ⟨Nat.le_of_ble_eq_true rfl, Nat.le_of_ble_eq_true rfl, Nat.le_of_ble_eq_true rfl, Nat.le_of_ble_eq_true rfl⟩ rfl rfl (by simp [ss_v_cat, ss_cat_i, ss_cat_l, ss_cat_r]) dd_S_init_24 (fun H locs hR hS => ?_)
  obtain ⟨h9, qh9, hm⟩ := ss_bind hm
  refine ss_putrF hC hK hR hS hin kq_S_21 rfl (Or.inl ⟨_, rfl⟩) qh9 dd_S_init_27 (fun H locs hR hS => ?_)
  refine ss_aload_n hx hb dd_S_init_30 rfl (lv_at hl 0 rfl) ?_
  obtain ⟨r10, h11, qh11, hm⟩ := ss_bind2 hm
  refine ss_newo (N := 6) hC hK hR hS rfl kn_S_25 rfl qh11 (Nat.le_of_ble_eq_true rfl) (Nat.le_of_ble_eq_true rfl) dd_S_init_31 (fun H hR hS => ?_)
  refine W.widen (k := 20) (n := 527) (Nat.le_of_ble_eq_true rfl) (Nat.le_of_ble_eq_true rfl) ?_
  refine ss_dupr hx hb dd_S_init_34 ?_
  refine ss_aload_n hx hb dd_S_init_35 rfl (lv_at hl 0 rfl) ?_
  obtain ⟨r12, qr12, hm⟩ := ss_bind hm
  refine ss_getr hC hK hR kf_S_10 rfl qr12 dd_S_init_36 ?_
  obtain ⟨h13, qh13, hm⟩ := ss_bind hm
  refine ss_cI 22 952 (As := [ss_v (ss_b G) r12]) hC hK hR hS hl.1 (cc_RR_init l G N _ _ _ _ qh13) km_S_27 (ck_RR_init qh13) ⟨Nat.le_of_ble_eq_true rfl, Nat.le_of_ble_eq_true rfl⟩ ⟨Nat.le_of_ble_eq_true rfl, Nat.le_of_ble_eq_true rfl, Nat.le_of_ble_eq_true rfl, Nat.le_of_ble_eq_true rfl⟩ rfl rfl (by simp [ss_v_cat, ss_cat_i, ss_cat_l, ss_cat_r]) dd_S_init_39 (fun H locs hR hS => ?_)
  obtain ⟨h14, qh14, hm⟩ := ss_bind hm
  refine ss_putrF hC hK hR hS hin kq_S_28 rfl (Or.inl ⟨_, rfl⟩) qh14 dd_S_init_42 (fun H locs hR hS => ?_)
  refine ss_aload_n hx hb dd_S_init_45 rfl (lv_at hl 0 rfl) ?_
  refine lv_bipush (v := 6) hx hb dd_S_init_46 (by decide) ?_
  obtain ⟨r15, h16, qh16, hm⟩ := ss_bind2 hm
  refine ss_newaq hC hK hR hS ka_S_32 hK.2.1.2.1 (t0 := 5) rfl (by decide) qh16 (by decide) (Nat.le_of_ble_eq_true rfl) (Nat.le_of_ble_eq_true rfl) dd_S_init_48 (fun H hR hS => ?_)
  refine W.widen (k := 23) (n := 958) (Nat.le_of_ble_eq_true rfl) (Nat.le_of_ble_eq_true rfl) ?_
  obtain ⟨h17, qh17, hm⟩ := ss_bind hm
  refine ss_putrF hC hK hR hS hin kq_S_34 rfl (Or.inr ⟨_, rfl⟩) qh17 dd_S_init_51 (fun H locs hR hS => ?_)
  refine ss_aload_n hx hb dd_S_init_54 rfl (lv_at hl 0 rfl) ?_
  obtain ⟨r18, h19, qh19, hm⟩ := ss_bind2 hm
  refine ss_newo (N := 8) hC hK hR hS rfl kn_S_38 rfl qh19 (Nat.le_of_ble_eq_true rfl) (Nat.le_of_ble_eq_true rfl) dd_S_init_55 (fun H hR hS => ?_)
  refine W.widen (k := 24) (n := 966) (Nat.le_of_ble_eq_true rfl) (Nat.le_of_ble_eq_true rfl) ?_
  refine ss_dupr hx hb dd_S_init_58 ?_
  obtain ⟨h20, qh20, hm⟩ := ss_bind hm
  refine ss_cN 38 1074 (As := []) hC hK hR hS hl.1 (cc_Wo_init l G N _ _ _ qh20) km_S_40 (ck_Wo_init qh20) ⟨Nat.le_of_ble_eq_true rfl, Nat.le_of_ble_eq_true rfl⟩ ⟨Nat.le_of_ble_eq_true rfl, Nat.le_of_ble_eq_true rfl, Nat.le_of_ble_eq_true rfl, Nat.le_of_ble_eq_true rfl⟩ rfl rfl (by simp [ss_v_cat, ss_cat_i, ss_cat_l, ss_cat_r]) dd_S_init_59 (fun H locs hR hS => ?_)
  obtain ⟨h21, qh21, hm⟩ := ss_bind hm
  refine ss_putrF hC hK hR hS hin kq_S_41 rfl (Or.inl ⟨_, rfl⟩) qh21 dd_S_init_62 (fun H locs hR hS => ?_)
  refine ss_aload_n hx hb dd_S_init_65 rfl (lv_at hl 0 rfl) ?_
  refine lv_iconst (v := 4) hx hb dd_S_init_66 (by decide) ?_
  obtain ⟨r22, h23, qh23, hm⟩ := ss_bind2 hm
  refine ss_newaq hC hK hR hS ka_S_38 hK.2.1.2.2 (t0 := 6) rfl (by decide) qh23 (by decide) (Nat.le_of_ble_eq_true rfl) (Nat.le_of_ble_eq_true rfl) dd_S_init_67 (fun H hR hS => ?_)
  refine W.widen (k := 39) (n := 1078) (Nat.le_of_ble_eq_true rfl) (Nat.le_of_ble_eq_true rfl) ?_
  obtain ⟨h24, qh24, hm⟩ := ss_bind hm
  refine ss_putrF hC hK hR hS hin kq_S_45 rfl (Or.inr ⟨_, rfl⟩) qh24 dd_S_init_70 (fun H locs hR hS => ?_)
  refine ss_aload_n hx hb dd_S_init_73 rfl (lv_at hl 0 rfl) ?_
  obtain ⟨r25, h26, qh26, hm⟩ := ss_bind2 hm
  refine ss_newo (N := 3) hC hK hR hS rfl kn_S_49 rfl qh26 (Nat.le_of_ble_eq_true rfl) (Nat.le_of_ble_eq_true rfl) dd_S_init_74 (fun H hR hS => ?_)
  refine W.widen (k := 40) (n := 1081) (Nat.le_of_ble_eq_true rfl) (Nat.le_of_ble_eq_true rfl) ?_
  refine ss_dupr hx hb dd_S_init_77 ?_
  obtain ⟨h27, qh27, hm⟩ := ss_bind hm
  refine ss_cI 101 1541 (As := []) hC hK hR hS hl.1 (cc_A_init l G N _ _ _ qh27) km_S_51 (ck_A_init qh27) ⟨Nat.le_of_ble_eq_true rfl, Nat.le_of_ble_eq_true rfl⟩ ⟨Nat.le_of_ble_eq_true rfl, Nat.le_of_ble_eq_true rfl, Nat.le_of_ble_eq_true rfl, Nat.le_of_ble_eq_true rfl⟩ rfl rfl (by simp [ss_v_cat, ss_cat_i, ss_cat_l, ss_cat_r]) dd_S_init_78 (fun H locs hR hS => ?_)
  obtain ⟨h28, qh28, hm⟩ := ss_bind hm
  refine ss_putrF hC hK hR hS hin kq_S_52 rfl (Or.inl ⟨_, rfl⟩) qh28 dd_S_init_81 (fun H locs hR hS => ?_)
  refine ss_aload_n hx hb dd_S_init_84 rfl (lv_at hl 0 rfl) ?_
  obtain ⟨r29, h30, qh30, hm⟩ := ss_bind2 hm
  refine ss_newo (N := 8) hC hK hR hS rfl kn_S_56 rfl qh30 (Nat.le_of_ble_eq_true rfl) (Nat.le_of_ble_eq_true rfl) dd_S_init_85 (fun H hR hS => ?_)
  refine W.widen (k := 102) (n := 1549) (Nat.le_of_ble_eq_true rfl) (Nat.le_of_ble_eq_true rfl) ?_
  refine ss_dupr hx hb dd_S_init_88 ?_
  refine ss_aload_n hx hb dd_S_init_89 rfl (lv_at hl 0 rfl) ?_
  obtain ⟨r31, qr31, hm⟩ := ss_bind hm
  refine ss_getr hC hK hR kf_S_41 rfl qr31 dd_S_init_90 ?_
  obtain ⟨r32, qr32, hm⟩ := ss_bind hm
  refine ss_getr hC hK hR kf_S_58 rfl qr32 dd_S_init_93 ?_
  obtain ⟨h33, qh33, hm⟩ := ss_bind hm
  refine ss_cI 110 1635 (As := [ss_v (ss_b G) r32]) hC hK hR hS hl.1 (cc_Wi_init l G N _ _ _ _ qh33) km_S_62 (ck_Wi_init qh33) ⟨Nat.le_of_ble_eq_true rfl, Nat.le_of_ble_eq_true rfl⟩ ⟨Nat.le_of_ble_eq_true rfl, Nat.le_of_ble_eq_true rfl, Nat.le_of_ble_eq_true rfl, Nat.le_of_ble_eq_true rfl⟩ rfl rfl (by simp [ss_v_cat, ss_cat_i, ss_cat_l, ss_cat_r]) dd_S_init_96 (fun H locs hR hS => ?_)
  obtain ⟨h34, qh34, hm⟩ := ss_bind hm
  refine ss_putrF hC hK hR hS hin kq_S_65 rfl (Or.inl ⟨_, rfl⟩) qh34 dd_S_init_99 (fun H locs hR hS => ?_)
  refine ss_aload_n hx hb dd_S_init_102 rfl (lv_at hl 0 rfl) ?_
  obtain ⟨r35, h36, qh36, hm⟩ := ss_bind2 hm
  refine ss_newo (N := 5) hC hK hR hS rfl kn_S_69 rfl qh36 (Nat.le_of_ble_eq_true rfl) (Nat.le_of_ble_eq_true rfl) dd_S_init_103 (fun H hR hS => ?_)
  refine W.widen (k := 111) (n := 1640) (Nat.le_of_ble_eq_true rfl) (Nat.le_of_ble_eq_true rfl) ?_
  refine ss_dupr hx hb dd_S_init_106 ?_
  refine ss_aload_n hx hb dd_S_init_107 rfl (lv_at hl 0 rfl) ?_
  obtain ⟨r37, qr37, hm⟩ := ss_bind hm
  refine ss_getr hC hK hR kf_S_41 rfl qr37 dd_S_init_108 ?_
  refine ss_aload_n hx hb dd_S_init_111 rfl (lv_at hl 0 rfl) ?_
  obtain ⟨r38, qr38, hm⟩ := ss_bind hm
  refine ss_getr hC hK hR kf_S_34 rfl qr38 dd_S_init_112 ?_
  refine ss_aload_n hx hb dd_S_init_115 rfl (lv_at hl 0 rfl) ?_
  obtain ⟨r39, qr39, hm⟩ := ss_bind hm
  refine ss_getr hC hK hR kf_S_65 rfl qr39 dd_S_init_116 ?_
  obtain ⟨h40, qh40, hm⟩ := ss_bind hm
  refine ss_cI 113 2135 (As := [ss_v (ss_b G) r37, ss_v (ss_b G) r38, ss_v (ss_b G) r39]) hC hK hR hS hl.1 (cc_F_init l G N _ _ _ _ _ _ qh40) km_S_71 (ck_F_init qh40) ⟨Nat.le_of_ble_eq_true rfl, Nat.le_of_ble_eq_true rfl⟩ ⟨Nat.le_of_ble_eq_true rfl, Nat.le_of_ble_eq_true rfl, Nat.le_of_ble_eq_true rfl, Nat.le_of_ble_eq_true rfl⟩ rfl rfl (by simp [ss_v_cat, ss_cat_i, ss_cat_l, ss_cat_r]) dd_S_init_119 (fun H locs hR hS => ?_)
  obtain ⟨h41, qh41, hm⟩ := ss_bind hm
  refine ss_putrF hC hK hR hS hin kq_S_74 rfl (Or.inl ⟨_, rfl⟩) qh41 dd_S_init_122 (fun H locs hR hS => ?_)
  refine ss_aload_n hx hb dd_S_init_125 rfl (lv_at hl 0 rfl) ?_
  obtain ⟨r42, h43, qh43, hm⟩ := ss_bind2 hm
  refine ss_newo (N := 5) hC hK hR hS rfl kn_S_78 rfl qh43 (Nat.le_of_ble_eq_true rfl) (Nat.le_of_ble_eq_true rfl) dd_S_init_126 (fun H hR hS => ?_)
  refine W.widen (k := 114) (n := 2140) (Nat.le_of_ble_eq_true rfl) (Nat.le_of_ble_eq_true rfl) ?_
  refine ss_dupr hx hb dd_S_init_129 ?_
  refine ss_aload_n hx hb dd_S_init_130 rfl (lv_at hl 0 rfl) ?_
  obtain ⟨r44, qr44, hm⟩ := ss_bind hm
  refine ss_getr hC hK hR kf_S_41 rfl qr44 dd_S_init_131 ?_
  refine ss_aload_n hx hb dd_S_init_134 rfl (lv_at hl 0 rfl) ?_
  obtain ⟨r45, qr45, hm⟩ := ss_bind hm
  refine ss_getr hC hK hR kf_S_65 rfl qr45 dd_S_init_135 ?_
  obtain ⟨h46, qh46, hm⟩ := ss_bind hm
  refine ss_cI 117 2220 (As := [ss_v (ss_b G) r44, ss_v (ss_b G) r45]) hC hK hR hS hl.1 (cc_P_init l G N _ _ _ _ _ qh46) km_S_80 (ck_P_init qh46) ⟨Nat.le_of_ble_eq_true rfl, Nat.le_of_ble_eq_true rfl⟩ ⟨Nat.le_of_ble_eq_true rfl, Nat.le_of_ble_eq_true rfl, Nat.le_of_ble_eq_true rfl, Nat.le_of_ble_eq_true rfl⟩ rfl rfl (by simp [ss_v_cat, ss_cat_i, ss_cat_l, ss_cat_r]) dd_S_init_138 (fun H locs hR hS => ?_)
  obtain ⟨h47, qh47, hm⟩ := ss_bind hm
  refine ss_putrF hC hK hR hS hin kq_S_83 rfl (Or.inl ⟨_, rfl⟩) qh47 dd_S_init_141 (fun H locs hR hS => ?_)
  exact ss_vret hC hr hlocks hR hS hm dd_S_init_144
theorem dd_T_put_0 : decode bb_T_put 0 = .ok (.bipush 24, 2) := by decide +kernel
theorem dd_T_put_2 : decode bb_T_put 2 = .ok (.istore_n 2, 1) := by decide +kernel
theorem dd_T_put_3 : decode bb_T_put 3 = .ok (.iload_n 2, 1) := by decide +kernel
theorem dd_T_put_4 : decode bb_T_put 4 = .ok (.ifCond .lt 45, 3) := by decide +kernel
theorem dd_T_put_7 : decode bb_T_put 7 = .ok (.aload_n 0, 1) := by decide +kernel
theorem dd_T_put_8 : decode bb_T_put 8 = .ok (.getfield 15, 3) := by decide +kernel
theorem dd_T_put_11 : decode bb_T_put 11 = .ok (.sipush 400, 3) := by decide +kernel
theorem dd_T_put_14 : decode bb_T_put 14 = .ok (.if_icmp .ge 35, 3) := by decide +kernel
theorem dd_T_put_17 : decode bb_T_put 17 = .ok (.aload_n 0, 1) := by decide +kernel
theorem dd_T_put_18 : decode bb_T_put 18 = .ok (.getfield 11, 3) := by decide +kernel
theorem dd_T_put_21 : decode bb_T_put 21 = .ok (.aload_n 0, 1) := by decide +kernel
theorem dd_T_put_22 : decode bb_T_put 22 = .ok (.getfield 15, 3) := by decide +kernel
theorem dd_T_put_25 : decode bb_T_put 25 = .ok (.iload_n 1, 1) := by decide +kernel
theorem dd_T_put_26 : decode bb_T_put 26 = .ok (.iload_n 2, 1) := by decide +kernel
theorem dd_T_put_27 : decode bb_T_put 27 = .ok (.ishr, 1) := by decide +kernel
theorem dd_T_put_28 : decode bb_T_put 28 = .ok (.sipush 255, 3) := by decide +kernel
theorem dd_T_put_31 : decode bb_T_put 31 = .ok (.iand, 1) := by decide +kernel
theorem dd_T_put_32 : decode bb_T_put 32 = .ok (.iastore, 1) := by decide +kernel
theorem dd_T_put_33 : decode bb_T_put 33 = .ok (.aload_n 0, 1) := by decide +kernel
theorem dd_T_put_34 : decode bb_T_put 34 = .ok (.dup, 1) := by decide +kernel
theorem dd_T_put_35 : decode bb_T_put 35 = .ok (.getfield 15, 3) := by decide +kernel
theorem dd_T_put_38 : decode bb_T_put 38 = .ok (.iconst 1, 1) := by decide +kernel
theorem dd_T_put_39 : decode bb_T_put 39 = .ok (.iadd, 1) := by decide +kernel
theorem dd_T_put_40 : decode bb_T_put 40 = .ok (.putfield 15, 3) := by decide +kernel
theorem dd_T_put_43 : decode bb_T_put 43 = .ok (.iinc 2 (-8), 3) := by decide +kernel
theorem dd_T_put_46 : decode bb_T_put 46 = .ok (.goto (-43), 3) := by decide +kernel
theorem dd_T_put_49 : decode bb_T_put 49 = .ok (.return_, 1) := by decide +kernel
def mm_T_put_b3 (N : Nat) (this : Option Nat) (a1 : Int32) (st : Int32 × ss_Hp) : Option ((Int32 × ss_Hp) ⊕ ss_Hp) :=
  match st with
  | (x2_3, h_3) =>
    if x2_3 < 0 then
      some (.inr h_3)
    else
      (ss_gi h_3 this 2 0).bind fun v2 =>
      if (400 : Int32) ≤ v2 then
        some (.inr h_3)
      else
        (ss_gr h_3 this 2 0).bind fun r4 =>
        (ss_gi h_3 this 2 0).bind fun v5 =>
        (ss_ui h_3 r4 20 v5 ((a1 >>> (x2_3 &&& 31)) &&& (255 : Int32))).bind fun h6 =>
        (ss_gi h6 this 2 0).bind fun v7 =>
        (ss_pi h6 this 2 0 (v7 + (1 : Int32))).bind fun h8 =>
        (some (x2_3 + (-8 : Int32))).bind fun v9 =>
        some (.inl (v9, h8))
def mm_T_put (N : Nat) (this : Option Nat) (a1 : Int32) (h : ss_Hp) : Option ss_Hp :=
  if ss_is h this 2 = true then
    (ss_lp (mm_T_put_b3 N this a1) N ((24 : Int32), h)).bind fun h_3_49 =>
    some h_3_49
  else none
abbrev ww_T_put (p : Program) (l : Launch) (e : Env) (s : State) (m : MethodId) (below : List Frame) (meth : Method) (c : Code) (G : ss_G) (this : Option Nat) (a1 : Int32) (h : ss_Hp) (hh : ss_Hp) (H : Heap) (locs : List Loc) (k n : Nat) (g : JFrame) : Prop := W p l e (headSpec (ss_w yy_T_put bb_T_put 3 none) ({ frames := 0, cells := 0, slots := 0, locals := 0 })).room s m ([ss_v (ss_b G) this, .int a1] : List Value).toArray below meth c H locs k n (MQ below (ss_Qc G none hh) ([ss_v (ss_b G) this, .int a1] : List Value).toArray s 0 0 (ss_A G)) g
theorem ck_T_put {N : Nat} {this : Option Nat} {a1 : Int32} {h : ss_Hp} {res : ss_Hp} (hm : mm_T_put N this a1 h = some res) : ss_is h this 2 = true := (ss_chk hm).1
set_option maxHeartbeats 4000000 in
set_option maxRecDepth 100000 in
theorem cc_T_put (l : Launch) (G : ss_G) (N : Nat) (this : Option Nat) (a1 : Int32) (h : ss_Hp) (hh : ss_Hp) (hm : mm_T_put N this a1 h = some hh) : ss_Ct l G yy_T_put bb_T_put 3 none ({ frames := 0, cells := 0, slots := 0, locals := 0 }) [ss_v (ss_b G) this, .int a1] h none hh := by
  obtain ⟨hck, hm⟩ := ss_chk hm
  refine Met.ofW (cc := bb_T_put) (maxL := 3) (ret := none) (by decide) rfl ?_
  intro p e s m args below meth c s₁ B hml hv
  obtain ⟨rfl, hR, hK⟩ := hv
  have hC : CallFix p m c bb_T_put 3 s _ lw_g sR_2 := ⟨B.exec, B.bytes, hml, findClass_of_methodNamed B.named, fun w hw => atoms_spec (ws := ss_w yy_T_put bb_T_put 3 none) B.pre w (List.mem_cons_of_mem _ hw)⟩
  have hx := hC.1
  have hb := hC.2.1
  have hr := B.returns
  have hlocks := B.notSynchronized
  have hS : va_S (ss_A G) s.heap s.heap [] := va_S.rf
  have hl := lv_entry ([ss_v (ss_b G) this, .int a1]) (n := 3) (by simp [lg_sl, ss_v_cat, ss_cat_i, ss_cat_l, ss_cat_r])
  rw [lg_entry_eq]
  generalize (lg_sl ([ss_v (ss_b G) this, .int a1]) ++ List.replicate (3 - (lg_sl ([ss_v (ss_b G) this, .int a1])).length) Slot.unset).toArray = ls at hl ⊢
  have hl : lv_has ls 3 [(0, ss_v (ss_b G) this), (1, .int a1)] := by simpa [lv_args, ss_v_cat, ss_cat_i, ss_cat_l, ss_cat_r] using hl
  refine lv_bipush (v := 24) hx hb dd_T_put_0 (by decide) ?_
  refine lv_istore_n (lv' := [(2, .int (24 : Int32)), (0, ss_v (ss_b G) this), (1, .int a1)]) hx hb dd_T_put_2 rfl hl (by decide) rfl (fun ls hl => ?_)
  obtain ⟨e_3, he_3, hm⟩ := ss_bind hm
  have X_3_49 : ∀  (h_3_49 : ss_Hp) (H : Heap) (locs : List Loc) (ls : Array Slot), e_3 = h_3_49 → ss_R G h_3_49 H → va_S (ss_A G) s.heap H locs → lv_has ls 3 [] → ww_T_put p l e s m below meth c G this a1 h hh  H locs 0 0 (F0 m 49 ls []) := by
    intro h_3_49 H locs ls hq hR hS hl
    rw [hq] at hm
    exact ss_vret hC hr hlocks hR hS hm dd_T_put_49
  have L_3 : ∀ (n : Nat) (x2_3 : Int32) (h_3 : ss_Hp) (H : Heap) (locs : List Loc) (ls : Array Slot), ss_lp (mm_T_put_b3 N this a1) n (x2_3, h_3) = some e_3 → ss_R G h_3 H → va_S (ss_A G) s.heap H locs → lv_has ls 3 [(0, ss_v (ss_b G) this), (1, .int a1), (2, .int x2_3)] → ww_T_put p l e s m below meth c G this a1 h hh  H locs 0 0 (F0 m 3 ls []) := by
    intro n
    induction n with
    | zero => intro x2_3 h_3 H locs ls hm; cases hm
    | succ n ih_3 =>
      intro x2_3 h_3 H locs ls hm hR hS hl
      obtain ⟨z_3, hm, hz1_3, hz2_3⟩ := ss_lps hm
      refine lv_iload_n hx hb dd_T_put_3 rfl (lv_at hl 2 rfl) ?_
      refine lv_if_lt (tgt := 49) hx hb dd_T_put_4 (by decide) (fun c1 => ?_) (fun c1 => ?_)
      · have hm := ss_ift hm c1
        exact X_3_49 h_3 _ _ _ (hz2_3 _ (ss_some hm)) hR hS (lv_sub hl [] rfl)
      · have hm := ss_iff hm c1
        refine ss_aload_n hx hb dd_T_put_7 rfl (lv_at hl 0 rfl) ?_
        obtain ⟨v2, qv2, hm⟩ := ss_bind hm
        refine ss_geti hC hK hR kf_T_15 qv2 dd_T_put_8 ?_
        refine lv_sipush (v := 400) hx hb dd_T_put_11 (by decide) ?_
        refine lv_icmp_ge (tgt := 49) hx hb dd_T_put_14 (by decide) (fun c3 => ?_) (fun c3 => ?_)
        · have hm := ss_ift hm c3
          exact X_3_49 h_3 _ _ _ (hz2_3 _ (ss_some hm)) hR hS (lv_sub hl [] rfl)
        · have hm := ss_iff hm c3
          refine ss_aload_n hx hb dd_T_put_17 rfl (lv_at hl 0 rfl) ?_
          obtain ⟨r4, qr4, hm⟩ := ss_bind hm
          refine ss_getr hC hK hR kf_T_11 rfl qr4 dd_T_put_18 ?_
          refine ss_aload_n hx hb dd_T_put_21 rfl (lv_at hl 0 rfl) ?_
          obtain ⟨v5, qv5, hm⟩ := ss_bind hm
          refine ss_geti hC hK hR kf_T_15 qv5 dd_T_put_22 ?_
          refine lv_iload_n hx hb dd_T_put_25 rfl (lv_at hl 1 rfl) ?_
          refine lv_iload_n hx hb dd_T_put_26 rfl (lv_at hl 2 rfl) ?_
          refine lv_ishr hx hb dd_T_put_27 ?_
          refine lv_sipush (v := 255) hx hb dd_T_put_28 (by decide) ?_
          refine lv_iand hx hb dd_T_put_31 ?_
          obtain ⟨h6, qh6, hm⟩ := ss_bind hm
          refine ss_iast hC hK hR hS qh6 dd_T_put_32 (fun H locs hR hS => ?_)
          refine ss_aload_n hx hb dd_T_put_33 rfl (lv_at hl 0 rfl) ?_
          refine ss_dupr hx hb dd_T_put_34 ?_
          obtain ⟨v7, qv7, hm⟩ := ss_bind hm
          refine ss_geti hC hK hR kf_T_15 qv7 dd_T_put_35 ?_
          refine lv_iconst (v := 1) hx hb dd_T_put_38 (by decide) ?_
          refine lv_iadd hx hb dd_T_put_39 ?_
          obtain ⟨h8, qh8, hm⟩ := ss_bind hm
          refine ss_puti hC hK hR hS kp_T_15 qh8 dd_T_put_40 (fun H locs hR hS => ?_)
          obtain ⟨v9, qv9, hm⟩ := ss_bind hm
          refine lv_iinc (v := v9) (lv' := [(2, .int v9), (0, ss_v (ss_b G) this), (1, .int a1)]) hx hb dd_T_put_43 hl (k := 2) rfl (ss_inc (by decide) qv9) (by decide) rfl (fun ls hl => ?_)
          refine lv_goto (tgt := 3) hx hb dd_T_put_46 (by decide) ?_
          exact ih_3 v9 h8 _ _ _ (hz1_3 _ (ss_some hm)) hR hS (lv_sub hl [1, 2, 0] rfl)
  exact L_3 N (24 : Int32) h _ _ _ he_3 hR hS (lv_sub hl [1, 2, 0] rfl)
theorem dd_S_feed_0 : decode bb_S_feed 0 = .ok (.aload_n 0, 1) := by decide +kernel
theorem dd_S_feed_1 : decode bb_S_feed 1 = .ok (.getfield 10, 3) := by decide +kernel
theorem dd_S_feed_4 : decode bb_S_feed 4 = .ok (.getfield 87, 3) := by decide +kernel
theorem dd_S_feed_7 : decode bb_S_feed 7 = .ok (.sipush 380, 3) := by decide +kernel
theorem dd_S_feed_10 : decode bb_S_feed 10 = .ok (.if_icmp .le 5, 3) := by decide +kernel
theorem dd_S_feed_13 : decode bb_S_feed 13 = .ok (.iconst (-1), 1) := by decide +kernel
theorem dd_S_feed_14 : decode bb_S_feed 14 = .ok (.ireturn, 1) := by decide +kernel
theorem dd_S_feed_15 : decode bb_S_feed 15 = .ok (.aload_n 0, 1) := by decide +kernel
theorem dd_S_feed_16 : decode bb_S_feed 16 = .ok (.getfield 10, 3) := by decide +kernel
theorem dd_S_feed_19 : decode bb_S_feed 19 = .ok (.iload_n 1, 1) := by decide +kernel
theorem dd_S_feed_20 : decode bb_S_feed 20 = .ok (.invokevirtual 91, 3) := by decide +kernel
theorem dd_S_feed_23 : decode bb_S_feed 23 = .ok (.aload_n 0, 1) := by decide +kernel
theorem dd_S_feed_24 : decode bb_S_feed 24 = .ok (.getfield 10, 3) := by decide +kernel
theorem dd_S_feed_27 : decode bb_S_feed 27 = .ok (.iload_n 2, 1) := by decide +kernel
theorem dd_S_feed_28 : decode bb_S_feed 28 = .ok (.invokevirtual 91, 3) := by decide +kernel
theorem dd_S_feed_31 : decode bb_S_feed 31 = .ok (.aload_n 0, 1) := by decide +kernel
theorem dd_S_feed_32 : decode bb_S_feed 32 = .ok (.getfield 10, 3) := by decide +kernel
theorem dd_S_feed_35 : decode bb_S_feed 35 = .ok (.iload_n 3, 1) := by decide +kernel
theorem dd_S_feed_36 : decode bb_S_feed 36 = .ok (.invokevirtual 91, 3) := by decide +kernel
theorem dd_S_feed_39 : decode bb_S_feed 39 = .ok (.aload_n 0, 1) := by decide +kernel
theorem dd_S_feed_40 : decode bb_S_feed 40 = .ok (.getfield 10, 3) := by decide +kernel
theorem dd_S_feed_43 : decode bb_S_feed 43 = .ok (.iload 4, 2) := by decide +kernel
theorem dd_S_feed_45 : decode bb_S_feed 45 = .ok (.invokevirtual 91, 3) := by decide +kernel
theorem dd_S_feed_48 : decode bb_S_feed 48 = .ok (.aload_n 0, 1) := by decide +kernel
theorem dd_S_feed_49 : decode bb_S_feed 49 = .ok (.getfield 10, 3) := by decide +kernel
theorem dd_S_feed_52 : decode bb_S_feed 52 = .ok (.iload 5, 2) := by decide +kernel
theorem dd_S_feed_54 : decode bb_S_feed 54 = .ok (.invokevirtual 91, 3) := by decide +kernel
theorem dd_S_feed_57 : decode bb_S_feed 57 = .ok (.aload_n 0, 1) := by decide +kernel
theorem dd_S_feed_58 : decode bb_S_feed 58 = .ok (.getfield 10, 3) := by decide +kernel
theorem dd_S_feed_61 : decode bb_S_feed 61 = .ok (.getfield 87, 3) := by decide +kernel
theorem dd_S_feed_64 : decode bb_S_feed 64 = .ok (.ireturn, 1) := by decide +kernel
def mm_S_feed (N : Nat) (this : Option Nat) (a1 : Int32) (a2 : Int32) (a3 : Int32) (a4 : Int32) (a5 : Int32) (h : ss_Hp) : Option (Int32 × ss_Hp) :=
  if ss_is h this 11 = true then
    (ss_gr h this 11 0).bind fun r1 =>
    (ss_gi h r1 2 0).bind fun v2 =>
    if v2 ≤ (380 : Int32) then
      (ss_gr h this 11 0).bind fun r4 =>
      (mm_T_put N r4 a1 h).bind fun h5 =>
      (ss_gr h5 this 11 0).bind fun r6 =>
      (mm_T_put N r6 a2 h5).bind fun h7 =>
      (ss_gr h7 this 11 0).bind fun r8 =>
      (mm_T_put N r8 a3 h7).bind fun h9 =>
      (ss_gr h9 this 11 0).bind fun r10 =>
      (mm_T_put N r10 a4 h9).bind fun h11 =>
      (ss_gr h11 this 11 0).bind fun r12 =>
      (mm_T_put N r12 a5 h11).bind fun h13 =>
      (ss_gr h13 this 11 0).bind fun r14 =>
      (ss_gi h13 r14 2 0).bind fun v15 =>
      some (v15, h13)
    else
      some ((-1 : Int32), h)
  else none
abbrev ww_S_feed (p : Program) (l : Launch) (e : Env) (s : State) (m : MethodId) (below : List Frame) (meth : Method) (c : Code) (G : ss_G) (this : Option Nat) (a1 : Int32) (a2 : Int32) (a3 : Int32) (a4 : Int32) (a5 : Int32) (h : ss_Hp) (rr : Int32) (hh : ss_Hp) (H : Heap) (locs : List Loc) (k n : Nat) (g : JFrame) : Prop := W p l e (headSpec (ss_w yy_S_feed bb_S_feed 6 (some (.int))) ({ frames := 1, cells := 0, slots := 0, locals := 22 })).room s m ([ss_v (ss_b G) this, .int a1, .int a2, .int a3, .int a4, .int a5] : List Value).toArray below meth c H locs k n (MQ below (ss_Qc G (some (.int rr)) hh) ([ss_v (ss_b G) this, .int a1, .int a2, .int a3, .int a4, .int a5] : List Value).toArray s 0 0 (ss_A G)) g
theorem ck_S_feed {N : Nat} {this : Option Nat} {a1 : Int32} {a2 : Int32} {a3 : Int32} {a4 : Int32} {a5 : Int32} {h : ss_Hp} {res : Int32 × ss_Hp} (hm : mm_S_feed N this a1 a2 a3 a4 a5 h = some res) : ss_is h this 11 = true := (ss_chk hm).1
set_option maxHeartbeats 4000000 in
set_option maxRecDepth 100000 in
theorem cc_S_feed (l : Launch) (G : ss_G) (N : Nat) (this : Option Nat) (a1 : Int32) (a2 : Int32) (a3 : Int32) (a4 : Int32) (a5 : Int32) (h : ss_Hp) (rr : Int32) (hh : ss_Hp) (hm : mm_S_feed N this a1 a2 a3 a4 a5 h = some (rr, hh)) : ss_Ct l G yy_S_feed bb_S_feed 6 (some (.int)) ({ frames := 1, cells := 0, slots := 0, locals := 22 }) [ss_v (ss_b G) this, .int a1, .int a2, .int a3, .int a4, .int a5] h (some (.int rr)) hh := by
  obtain ⟨hck, hm⟩ := ss_chk hm
  refine Met.ofW (cc := bb_S_feed) (maxL := 6) (ret := (some (.int))) (by decide) rfl ?_
  intro p e s m args below meth c s₁ B hml hv
  obtain ⟨rfl, hR, hK⟩ := hv
  have hC : CallFix p m c bb_S_feed 6 s _ lw_g sR_11 := ⟨B.exec, B.bytes, hml, findClass_of_methodNamed B.named, fun w hw => atoms_spec (ws := ss_w yy_S_feed bb_S_feed 6 (some (.int))) B.pre w (List.mem_cons_of_mem _ hw)⟩
  have hx := hC.1
  have hb := hC.2.1
  have hr := B.returns
  have hlocks := B.notSynchronized
  have hS : va_S (ss_A G) s.heap s.heap [] := va_S.rf
  have hl := lv_entry ([ss_v (ss_b G) this, .int a1, .int a2, .int a3, .int a4, .int a5]) (n := 6) (by simp [lg_sl, ss_v_cat, ss_cat_i, ss_cat_l, ss_cat_r])
  rw [lg_entry_eq]
  generalize (lg_sl ([ss_v (ss_b G) this, .int a1, .int a2, .int a3, .int a4, .int a5]) ++ List.replicate (6 - (lg_sl ([ss_v (ss_b G) this, .int a1, .int a2, .int a3, .int a4, .int a5])).length) Slot.unset).toArray = ls at hl ⊢
  have hl : lv_has ls 6 [(0, ss_v (ss_b G) this), (1, .int a1), (2, .int a2), (3, .int a3), (4, .int a4), (5, .int a5)] := by simpa [lv_args, ss_v_cat, ss_cat_i, ss_cat_l, ss_cat_r] using hl
  refine ss_aload_n hx hb dd_S_feed_0 rfl (lv_at hl 0 rfl) ?_
  obtain ⟨r1, qr1, hm⟩ := ss_bind hm
  refine ss_getr hC hK hR kf_S_10 rfl qr1 dd_S_feed_1 ?_
  obtain ⟨v2, qv2, hm⟩ := ss_bind hm
  refine ss_geti hC hK hR kf_S_87 qv2 dd_S_feed_4 ?_
  refine lv_sipush (v := 380) hx hb dd_S_feed_7 (by decide) ?_
  refine lv_icmp_le (tgt := 15) hx hb dd_S_feed_10 (by decide) (fun c3 => ?_) (fun c3 => ?_)
  · have hm := ss_ift hm c3
    refine ss_aload_n hx hb dd_S_feed_15 rfl (lv_at hl 0 rfl) ?_
    obtain ⟨r4, qr4, hm⟩ := ss_bind hm
    refine ss_getr hC hK hR kf_S_10 rfl qr4 dd_S_feed_16 ?_
    refine lv_iload_n hx hb dd_S_feed_19 rfl (lv_at hl 1 rfl) ?_
    obtain ⟨h5, qh5, hm⟩ := ss_bind hm
    refine ss_cVv 0 0 (As := [.int a1]) hC hK hR hS hl.1 (cc_T_put l G N _ _ _ _ qh5) km_S_91 (ck_T_put qh5) ⟨Nat.le_of_ble_eq_true rfl, Nat.le_of_ble_eq_true rfl⟩ ⟨Nat.le_of_ble_eq_true rfl, Nat.le_of_ble_eq_true rfl, Nat.le_of_ble_eq_true rfl, Nat.le_of_ble_eq_true rfl⟩ rfl rfl (Nat.le_of_ble_eq_true rfl) dd_S_feed_20 (fun H locs hR hS => ?_)
    refine ss_aload_n hx hb dd_S_feed_23 rfl (lv_at hl 0 rfl) ?_
    obtain ⟨r6, qr6, hm⟩ := ss_bind hm
    refine ss_getr hC hK hR kf_S_10 rfl qr6 dd_S_feed_24 ?_
    refine lv_iload_n hx hb dd_S_feed_27 rfl (lv_at hl 2 rfl) ?_
    obtain ⟨h7, qh7, hm⟩ := ss_bind hm
    refine ss_cVv 0 0 (As := [.int a2]) hC hK hR hS hl.1 (cc_T_put l G N _ _ _ _ qh7) km_S_91 (ck_T_put qh7) ⟨Nat.le_of_ble_eq_true rfl, Nat.le_of_ble_eq_true rfl⟩ ⟨Nat.le_of_ble_eq_true rfl, Nat.le_of_ble_eq_true rfl, Nat.le_of_ble_eq_true rfl, Nat.le_of_ble_eq_true rfl⟩ rfl rfl (Nat.le_of_ble_eq_true rfl) dd_S_feed_28 (fun H locs hR hS => ?_)
    refine ss_aload_n hx hb dd_S_feed_31 rfl (lv_at hl 0 rfl) ?_
    obtain ⟨r8, qr8, hm⟩ := ss_bind hm
    refine ss_getr hC hK hR kf_S_10 rfl qr8 dd_S_feed_32 ?_
    refine lv_iload_n hx hb dd_S_feed_35 rfl (lv_at hl 3 rfl) ?_
    obtain ⟨h9, qh9, hm⟩ := ss_bind hm
    refine ss_cVv 0 0 (As := [.int a3]) hC hK hR hS hl.1 (cc_T_put l G N _ _ _ _ qh9) km_S_91 (ck_T_put qh9) ⟨Nat.le_of_ble_eq_true rfl, Nat.le_of_ble_eq_true rfl⟩ ⟨Nat.le_of_ble_eq_true rfl, Nat.le_of_ble_eq_true rfl, Nat.le_of_ble_eq_true rfl, Nat.le_of_ble_eq_true rfl⟩ rfl rfl (Nat.le_of_ble_eq_true rfl) dd_S_feed_36 (fun H locs hR hS => ?_)
    refine ss_aload_n hx hb dd_S_feed_39 rfl (lv_at hl 0 rfl) ?_
    obtain ⟨r10, qr10, hm⟩ := ss_bind hm
    refine ss_getr hC hK hR kf_S_10 rfl qr10 dd_S_feed_40 ?_
    refine lv_iload hx hb dd_S_feed_43 (lv_at hl 4 rfl) ?_
    obtain ⟨h11, qh11, hm⟩ := ss_bind hm
    refine ss_cVv 0 0 (As := [.int a4]) hC hK hR hS hl.1 (cc_T_put l G N _ _ _ _ qh11) km_S_91 (ck_T_put qh11) ⟨Nat.le_of_ble_eq_true rfl, Nat.le_of_ble_eq_true rfl⟩ ⟨Nat.le_of_ble_eq_true rfl, Nat.le_of_ble_eq_true rfl, Nat.le_of_ble_eq_true rfl, Nat.le_of_ble_eq_true rfl⟩ rfl rfl (Nat.le_of_ble_eq_true rfl) dd_S_feed_45 (fun H locs hR hS => ?_)
    refine ss_aload_n hx hb dd_S_feed_48 rfl (lv_at hl 0 rfl) ?_
    obtain ⟨r12, qr12, hm⟩ := ss_bind hm
    refine ss_getr hC hK hR kf_S_10 rfl qr12 dd_S_feed_49 ?_
    refine lv_iload hx hb dd_S_feed_52 (lv_at hl 5 rfl) ?_
    obtain ⟨h13, qh13, hm⟩ := ss_bind hm
    refine ss_cVv 0 0 (As := [.int a5]) hC hK hR hS hl.1 (cc_T_put l G N _ _ _ _ qh13) km_S_91 (ck_T_put qh13) ⟨Nat.le_of_ble_eq_true rfl, Nat.le_of_ble_eq_true rfl⟩ ⟨Nat.le_of_ble_eq_true rfl, Nat.le_of_ble_eq_true rfl, Nat.le_of_ble_eq_true rfl, Nat.le_of_ble_eq_true rfl⟩ rfl rfl (Nat.le_of_ble_eq_true rfl) dd_S_feed_54 (fun H locs hR hS => ?_)
    refine ss_aload_n hx hb dd_S_feed_57 rfl (lv_at hl 0 rfl) ?_
    obtain ⟨r14, qr14, hm⟩ := ss_bind hm
    refine ss_getr hC hK hR kf_S_10 rfl qr14 dd_S_feed_58 ?_
    obtain ⟨v15, qv15, hm⟩ := ss_bind hm
    refine ss_geti hC hK hR kf_S_87 qv15 dd_S_feed_61 ?_
    exact ss_iret hC hr hlocks hR hS hm dd_S_feed_64
  · have hm := ss_iff hm c3
    refine lv_iconst (v := -1) hx hb dd_S_feed_13 (by decide) ?_
    exact ss_iret hC hr hlocks hR hS hm dd_S_feed_14
theorem dd_S_end_0 : decode bb_S_end 0 = .ok (.iload_n 1, 1) := by decide +kernel
theorem dd_S_end_1 : decode bb_S_end 1 = .ok (.ifCond .lt 14, 3) := by decide +kernel
theorem dd_S_end_4 : decode bb_S_end 4 = .ok (.iload_n 1, 1) := by decide +kernel
theorem dd_S_end_5 : decode bb_S_end 5 = .ok (.aload_n 0, 1) := by decide +kernel
theorem dd_S_end_6 : decode bb_S_end 6 = .ok (.getfield 10, 3) := by decide +kernel
theorem dd_S_end_9 : decode bb_S_end 9 = .ok (.getfield 87, 3) := by decide +kernel
theorem dd_S_end_12 : decode bb_S_end 12 = .ok (.if_icmp .le 5, 3) := by decide +kernel
theorem dd_S_end_15 : decode bb_S_end 15 = .ok (.iconst (-1), 1) := by decide +kernel
theorem dd_S_end_16 : decode bb_S_end 16 = .ok (.ireturn, 1) := by decide +kernel
theorem dd_S_end_17 : decode bb_S_end 17 = .ok (.aload_n 0, 1) := by decide +kernel
theorem dd_S_end_18 : decode bb_S_end 18 = .ok (.getfield 10, 3) := by decide +kernel
theorem dd_S_end_21 : decode bb_S_end 21 = .ok (.iload_n 1, 1) := by decide +kernel
theorem dd_S_end_22 : decode bb_S_end 22 = .ok (.putfield 87, 3) := by decide +kernel
theorem dd_S_end_25 : decode bb_S_end 25 = .ok (.iload_n 1, 1) := by decide +kernel
theorem dd_S_end_26 : decode bb_S_end 26 = .ok (.ireturn, 1) := by decide +kernel
def mm_S_end_j15 (N : Nat) (this : Option Nat) (a1 : Int32) (h_15 : ss_Hp) : Option (Int32 × ss_Hp) :=
  some ((-1 : Int32), h_15)
def mm_S_end (N : Nat) (this : Option Nat) (a1 : Int32) (h : ss_Hp) : Option (Int32 × ss_Hp) :=
  if ss_is h this 11 = true then
    if a1 < 0 then
      mm_S_end_j15 N this a1 h
    else
      (ss_gr h this 11 0).bind fun r2 =>
      (ss_gi h r2 2 0).bind fun v3 =>
      if a1 ≤ v3 then
        (ss_gr h this 11 0).bind fun r5 =>
        (ss_pi h r5 2 0 a1).bind fun h6 =>
        some (a1, h6)
      else
        mm_S_end_j15 N this a1 h
  else none
abbrev ww_S_end (p : Program) (l : Launch) (e : Env) (s : State) (m : MethodId) (below : List Frame) (meth : Method) (c : Code) (G : ss_G) (this : Option Nat) (a1 : Int32) (h : ss_Hp) (rr : Int32) (hh : ss_Hp) (H : Heap) (locs : List Loc) (k n : Nat) (g : JFrame) : Prop := W p l e (headSpec (ss_w yy_S_end bb_S_end 2 (some (.int))) ({ frames := 0, cells := 0, slots := 0, locals := 0 })).room s m ([ss_v (ss_b G) this, .int a1] : List Value).toArray below meth c H locs k n (MQ below (ss_Qc G (some (.int rr)) hh) ([ss_v (ss_b G) this, .int a1] : List Value).toArray s 0 0 (ss_A G)) g
theorem ck_S_end {N : Nat} {this : Option Nat} {a1 : Int32} {h : ss_Hp} {res : Int32 × ss_Hp} (hm : mm_S_end N this a1 h = some res) : ss_is h this 11 = true := (ss_chk hm).1
set_option maxHeartbeats 4000000 in
set_option maxRecDepth 100000 in
theorem cc_S_end (l : Launch) (G : ss_G) (N : Nat) (this : Option Nat) (a1 : Int32) (h : ss_Hp) (rr : Int32) (hh : ss_Hp) (hm : mm_S_end N this a1 h = some (rr, hh)) : ss_Ct l G yy_S_end bb_S_end 2 (some (.int)) ({ frames := 0, cells := 0, slots := 0, locals := 0 }) [ss_v (ss_b G) this, .int a1] h (some (.int rr)) hh := by
  obtain ⟨hck, hm⟩ := ss_chk hm
  refine Met.ofW (cc := bb_S_end) (maxL := 2) (ret := (some (.int))) (by decide) rfl ?_
  intro p e s m args below meth c s₁ B hml hv
  obtain ⟨rfl, hR, hK⟩ := hv
  have hC : CallFix p m c bb_S_end 2 s _ lw_g sR_11 := ⟨B.exec, B.bytes, hml, findClass_of_methodNamed B.named, fun w hw => atoms_spec (ws := ss_w yy_S_end bb_S_end 2 (some (.int))) B.pre w (List.mem_cons_of_mem _ hw)⟩
  have hx := hC.1
  have hb := hC.2.1
  have hr := B.returns
  have hlocks := B.notSynchronized
  have hS : va_S (ss_A G) s.heap s.heap [] := va_S.rf
  have hl := lv_entry ([ss_v (ss_b G) this, .int a1]) (n := 2) (by simp [lg_sl, ss_v_cat, ss_cat_i, ss_cat_l, ss_cat_r])
  rw [lg_entry_eq]
  generalize (lg_sl ([ss_v (ss_b G) this, .int a1]) ++ List.replicate (2 - (lg_sl ([ss_v (ss_b G) this, .int a1])).length) Slot.unset).toArray = ls at hl ⊢
  have hl : lv_has ls 2 [(0, ss_v (ss_b G) this), (1, .int a1)] := by simpa [lv_args, ss_v_cat, ss_cat_i, ss_cat_l, ss_cat_r] using hl
  have J_15 : ∀ (h_15 : ss_Hp) (H : Heap) (locs : List Loc) (ls : Array Slot), mm_S_end_j15 N this a1 h_15 = some (rr, hh) → ss_R G h_15 H → va_S (ss_A G) s.heap H locs → lv_has ls 2 [] → ww_S_end p l e s m below meth c G this a1 h rr hh  H locs 0 0 (F0 m 15 ls []) := by
    intro h_15 H locs ls hm hR hS hl
    refine lv_iconst (v := -1) hx hb dd_S_end_15 (by decide) ?_
    exact ss_iret hC hr hlocks hR hS hm dd_S_end_16
  refine lv_iload_n hx hb dd_S_end_0 rfl (lv_at hl 1 rfl) ?_
  refine lv_if_lt (tgt := 15) hx hb dd_S_end_1 (by decide) (fun c1 => ?_) (fun c1 => ?_)
  · have hm := ss_ift hm c1
    exact J_15 h _ _ _ hm hR hS (lv_sub hl [] rfl)
  · have hm := ss_iff hm c1
    refine lv_iload_n hx hb dd_S_end_4 rfl (lv_at hl 1 rfl) ?_
    refine ss_aload_n hx hb dd_S_end_5 rfl (lv_at hl 0 rfl) ?_
    obtain ⟨r2, qr2, hm⟩ := ss_bind hm
    refine ss_getr hC hK hR kf_S_10 rfl qr2 dd_S_end_6 ?_
    obtain ⟨v3, qv3, hm⟩ := ss_bind hm
    refine ss_geti hC hK hR kf_S_87 qv3 dd_S_end_9 ?_
    refine lv_icmp_le (tgt := 17) hx hb dd_S_end_12 (by decide) (fun c4 => ?_) (fun c4 => ?_)
    · have hm := ss_ift hm c4
      refine ss_aload_n hx hb dd_S_end_17 rfl (lv_at hl 0 rfl) ?_
      obtain ⟨r5, qr5, hm⟩ := ss_bind hm
      refine ss_getr hC hK hR kf_S_10 rfl qr5 dd_S_end_18 ?_
      refine lv_iload_n hx hb dd_S_end_21 rfl (lv_at hl 1 rfl) ?_
      obtain ⟨h6, qh6, hm⟩ := ss_bind hm
      refine ss_puti hC hK hR hS kp_S_87 qh6 dd_S_end_22 (fun H locs hR hS => ?_)
      refine lv_iload_n hx hb dd_S_end_25 rfl (lv_at hl 1 rfl) ?_
      exact ss_iret hC hr hlocks hR hS hm dd_S_end_26
    · have hm := ss_iff hm c4
      exact J_15 h _ _ _ hm hR hS (lv_sub hl [] rfl)
theorem dd_G_copyFrom_0 : decode bb_G_copyFrom 0 = .ok (.aload_n 1, 1) := by decide +kernel
theorem dd_G_copyFrom_1 : decode bb_G_copyFrom 1 = .ok (.getfield 9, 3) := by decide +kernel
theorem dd_G_copyFrom_4 : decode bb_G_copyFrom 4 = .ok (.iconst 0, 1) := by decide +kernel
theorem dd_G_copyFrom_5 : decode bb_G_copyFrom 5 = .ok (.aload_n 0, 1) := by decide +kernel
theorem dd_G_copyFrom_6 : decode bb_G_copyFrom 6 = .ok (.getfield 9, 3) := by decide +kernel
theorem dd_G_copyFrom_9 : decode bb_G_copyFrom 9 = .ok (.iconst 0, 1) := by decide +kernel
theorem dd_G_copyFrom_10 : decode bb_G_copyFrom 10 = .ok (.bipush 8, 2) := by decide +kernel
theorem dd_G_copyFrom_12 : decode bb_G_copyFrom 12 = .ok (.invokestatic 18, 3) := by decide +kernel
theorem dd_G_copyFrom_15 : decode bb_G_copyFrom 15 = .ok (.aload_n 1, 1) := by decide +kernel
theorem dd_G_copyFrom_16 : decode bb_G_copyFrom 16 = .ok (.getfield 15, 3) := by decide +kernel
theorem dd_G_copyFrom_19 : decode bb_G_copyFrom 19 = .ok (.iconst 0, 1) := by decide +kernel
theorem dd_G_copyFrom_20 : decode bb_G_copyFrom 20 = .ok (.aload_n 0, 1) := by decide +kernel
theorem dd_G_copyFrom_21 : decode bb_G_copyFrom 21 = .ok (.getfield 15, 3) := by decide +kernel
theorem dd_G_copyFrom_24 : decode bb_G_copyFrom 24 = .ok (.iconst 0, 1) := by decide +kernel
theorem dd_G_copyFrom_25 : decode bb_G_copyFrom 25 = .ok (.bipush 8, 2) := by decide +kernel
theorem dd_G_copyFrom_27 : decode bb_G_copyFrom 27 = .ok (.invokestatic 18, 3) := by decide +kernel
theorem dd_G_copyFrom_30 : decode bb_G_copyFrom 30 = .ok (.aload_n 0, 1) := by decide +kernel
theorem dd_G_copyFrom_31 : decode bb_G_copyFrom 31 = .ok (.aload_n 1, 1) := by decide +kernel
theorem dd_G_copyFrom_32 : decode bb_G_copyFrom 32 = .ok (.getfield 24, 3) := by decide +kernel
theorem dd_G_copyFrom_35 : decode bb_G_copyFrom 35 = .ok (.putfield 24, 3) := by decide +kernel
theorem dd_G_copyFrom_38 : decode bb_G_copyFrom 38 = .ok (.aload_n 0, 1) := by decide +kernel
theorem dd_G_copyFrom_39 : decode bb_G_copyFrom 39 = .ok (.aload_n 1, 1) := by decide +kernel
theorem dd_G_copyFrom_40 : decode bb_G_copyFrom 40 = .ok (.getfield 28, 3) := by decide +kernel
theorem dd_G_copyFrom_43 : decode bb_G_copyFrom 43 = .ok (.putfield 28, 3) := by decide +kernel
theorem dd_G_copyFrom_46 : decode bb_G_copyFrom 46 = .ok (.aload_n 0, 1) := by decide +kernel
theorem dd_G_copyFrom_47 : decode bb_G_copyFrom 47 = .ok (.aload_n 1, 1) := by decide +kernel
theorem dd_G_copyFrom_48 : decode bb_G_copyFrom 48 = .ok (.getfield 31, 3) := by decide +kernel
theorem dd_G_copyFrom_51 : decode bb_G_copyFrom 51 = .ok (.putfield 31, 3) := by decide +kernel
theorem dd_G_copyFrom_54 : decode bb_G_copyFrom 54 = .ok (.aload_n 0, 1) := by decide +kernel
theorem dd_G_copyFrom_55 : decode bb_G_copyFrom 55 = .ok (.aload_n 1, 1) := by decide +kernel
theorem dd_G_copyFrom_56 : decode bb_G_copyFrom 56 = .ok (.getfield 34, 3) := by decide +kernel
theorem dd_G_copyFrom_59 : decode bb_G_copyFrom 59 = .ok (.putfield 34, 3) := by decide +kernel
theorem dd_G_copyFrom_62 : decode bb_G_copyFrom 62 = .ok (.return_, 1) := by decide +kernel
def mm_G_copyFrom (N : Nat) (this : Option Nat) (a1 : Option Nat) (h : ss_Hp) : Option ss_Hp :=
  if ss_is h this 0 = true then
    (ss_gr h a1 0 0).bind fun r1 =>
    (ss_gr h this 0 0).bind fun r2 =>
    (ss_cp h r1 (0 : Int32) r2 (0 : Int32) (8 : Int32)).bind fun h3 =>
    (ss_gr h3 a1 0 1).bind fun r4 =>
    (ss_gr h3 this 0 1).bind fun r5 =>
    (ss_cp h3 r4 (0 : Int32) r5 (0 : Int32) (8 : Int32)).bind fun h6 =>
    (ss_gi h6 a1 0 0).bind fun v7 =>
    (ss_pi h6 this 0 0 v7).bind fun h8 =>
    (ss_gi h8 a1 0 1).bind fun v9 =>
    (ss_pi h8 this 0 1 v9).bind fun h10 =>
    (ss_gi h10 a1 0 2).bind fun v11 =>
    (ss_pi h10 this 0 2 v11).bind fun h12 =>
    (ss_gi h12 a1 0 3).bind fun v13 =>
    (ss_pi h12 this 0 3 v13).bind fun h14 =>
    some h14
  else none
abbrev ww_G_copyFrom (p : Program) (l : Launch) (e : Env) (s : State) (m : MethodId) (below : List Frame) (meth : Method) (c : Code) (G : ss_G) (this : Option Nat) (a1 : Option Nat) (h : ss_Hp) (hh : ss_Hp) (H : Heap) (locs : List Loc) (k n : Nat) (g : JFrame) : Prop := W p l e (headSpec (ss_w yy_G_copyFrom bb_G_copyFrom 2 none) ({ frames := 1, cells := 0, slots := 0, locals := 80 })).room s m ([ss_v (ss_b G) this, ss_v (ss_b G) a1] : List Value).toArray below meth c H locs k n (MQ below (ss_Qc G none hh) ([ss_v (ss_b G) this, ss_v (ss_b G) a1] : List Value).toArray s 0 0 (ss_A G)) g
theorem ck_G_copyFrom {N : Nat} {this : Option Nat} {a1 : Option Nat} {h : ss_Hp} {res : ss_Hp} (hm : mm_G_copyFrom N this a1 h = some res) : ss_is h this 0 = true := (ss_chk hm).1
set_option maxHeartbeats 4000000 in
set_option maxRecDepth 100000 in
theorem cc_G_copyFrom (l : Launch) (G : ss_G) (N : Nat) (this : Option Nat) (a1 : Option Nat) (h : ss_Hp) (hh : ss_Hp) (hm : mm_G_copyFrom N this a1 h = some hh) : ss_Ct l G yy_G_copyFrom bb_G_copyFrom 2 none ({ frames := 1, cells := 0, slots := 0, locals := 80 }) [ss_v (ss_b G) this, ss_v (ss_b G) a1] h none hh := by
  obtain ⟨hck, hm⟩ := ss_chk hm
  refine Met.ofW (cc := bb_G_copyFrom) (maxL := 2) (ret := none) (by decide) rfl ?_
  intro p e s m args below meth c s₁ B hml hv
  obtain ⟨rfl, hR, hK⟩ := hv
  have hC : CallFix p m c bb_G_copyFrom 2 s _ lw_g sR_0 := ⟨B.exec, B.bytes, hml, findClass_of_methodNamed B.named, fun w hw => atoms_spec (ws := ss_w yy_G_copyFrom bb_G_copyFrom 2 none) B.pre w (List.mem_cons_of_mem _ hw)⟩
  have hx := hC.1
  have hb := hC.2.1
  have hr := B.returns
  have hlocks := B.notSynchronized
  have hS : va_S (ss_A G) s.heap s.heap [] := va_S.rf
  have hl := lv_entry ([ss_v (ss_b G) this, ss_v (ss_b G) a1]) (n := 2) (by simp [lg_sl, ss_v_cat, ss_cat_i, ss_cat_l, ss_cat_r])
  rw [lg_entry_eq]
  generalize (lg_sl ([ss_v (ss_b G) this, ss_v (ss_b G) a1]) ++ List.replicate (2 - (lg_sl ([ss_v (ss_b G) this, ss_v (ss_b G) a1])).length) Slot.unset).toArray = ls at hl ⊢
  have hl : lv_has ls 2 [(0, ss_v (ss_b G) this), (1, ss_v (ss_b G) a1)] := by simpa [lv_args, ss_v_cat, ss_cat_i, ss_cat_l, ss_cat_r] using hl
  refine ss_aload_n hx hb dd_G_copyFrom_0 rfl (lv_at hl 1 rfl) ?_
  obtain ⟨r1, qr1, hm⟩ := ss_bind hm
  refine ss_getr hC hK hR kf_G_9 rfl qr1 dd_G_copyFrom_1 ?_
  refine lv_iconst (v := 0) hx hb dd_G_copyFrom_4 (by decide) ?_
  refine ss_aload_n hx hb dd_G_copyFrom_5 rfl (lv_at hl 0 rfl) ?_
  obtain ⟨r2, qr2, hm⟩ := ss_bind hm
  refine ss_getr hC hK hR kf_G_9 rfl qr2 dd_G_copyFrom_6 ?_
  refine lv_iconst (v := 0) hx hb dd_G_copyFrom_9 (by decide) ?_
  refine lv_bipush (v := 8) hx hb dd_G_copyFrom_10 (by decide) ?_
  obtain ⟨h3, qh3, hm⟩ := ss_bind hm
  refine ss_copy hC hK hR hS hl.1 kj_G_18 kj_ac_n kj_ac_s kj_sys qh3 (Nat.le_of_ble_eq_true rfl) (Nat.le_of_ble_eq_true rfl) (by decide) dd_G_copyFrom_12 (fun H locs hR hS => ?_)
  refine ss_aload_n hx hb dd_G_copyFrom_15 rfl (lv_at hl 1 rfl) ?_
  obtain ⟨r4, qr4, hm⟩ := ss_bind hm
  refine ss_getr hC hK hR kf_G_15 rfl qr4 dd_G_copyFrom_16 ?_
  refine lv_iconst (v := 0) hx hb dd_G_copyFrom_19 (by decide) ?_
  refine ss_aload_n hx hb dd_G_copyFrom_20 rfl (lv_at hl 0 rfl) ?_
  obtain ⟨r5, qr5, hm⟩ := ss_bind hm
  refine ss_getr hC hK hR kf_G_15 rfl qr5 dd_G_copyFrom_21 ?_
  refine lv_iconst (v := 0) hx hb dd_G_copyFrom_24 (by decide) ?_
  refine lv_bipush (v := 8) hx hb dd_G_copyFrom_25 (by decide) ?_
  obtain ⟨h6, qh6, hm⟩ := ss_bind hm
  refine ss_copy hC hK hR hS hl.1 kj_G_18 kj_ac_n kj_ac_s kj_sys qh6 (Nat.le_of_ble_eq_true rfl) (Nat.le_of_ble_eq_true rfl) (by decide) dd_G_copyFrom_27 (fun H locs hR hS => ?_)
  refine ss_aload_n hx hb dd_G_copyFrom_30 rfl (lv_at hl 0 rfl) ?_
  refine ss_aload_n hx hb dd_G_copyFrom_31 rfl (lv_at hl 1 rfl) ?_
  obtain ⟨v7, qv7, hm⟩ := ss_bind hm
  refine ss_geti hC hK hR kf_G_24 qv7 dd_G_copyFrom_32 ?_
  obtain ⟨h8, qh8, hm⟩ := ss_bind hm
  refine ss_puti hC hK hR hS kp_G_24 qh8 dd_G_copyFrom_35 (fun H locs hR hS => ?_)
  refine ss_aload_n hx hb dd_G_copyFrom_38 rfl (lv_at hl 0 rfl) ?_
  refine ss_aload_n hx hb dd_G_copyFrom_39 rfl (lv_at hl 1 rfl) ?_
  obtain ⟨v9, qv9, hm⟩ := ss_bind hm
  refine ss_geti hC hK hR kf_G_28 qv9 dd_G_copyFrom_40 ?_
  obtain ⟨h10, qh10, hm⟩ := ss_bind hm
  refine ss_puti hC hK hR hS kp_G_28 qh10 dd_G_copyFrom_43 (fun H locs hR hS => ?_)
  refine ss_aload_n hx hb dd_G_copyFrom_46 rfl (lv_at hl 0 rfl) ?_
  refine ss_aload_n hx hb dd_G_copyFrom_47 rfl (lv_at hl 1 rfl) ?_
  obtain ⟨v11, qv11, hm⟩ := ss_bind hm
  refine ss_geti hC hK hR kf_G_31 qv11 dd_G_copyFrom_48 ?_
  obtain ⟨h12, qh12, hm⟩ := ss_bind hm
  refine ss_puti hC hK hR hS kp_G_31 qh12 dd_G_copyFrom_51 (fun H locs hR hS => ?_)
  refine ss_aload_n hx hb dd_G_copyFrom_54 rfl (lv_at hl 0 rfl) ?_
  refine ss_aload_n hx hb dd_G_copyFrom_55 rfl (lv_at hl 1 rfl) ?_
  obtain ⟨v13, qv13, hm⟩ := ss_bind hm
  refine ss_geti hC hK hR kf_G_34 qv13 dd_G_copyFrom_56 ?_
  obtain ⟨h14, qh14, hm⟩ := ss_bind hm
  refine ss_puti hC hK hR hS kp_G_34 qh14 dd_G_copyFrom_59 (fun H locs hR hS => ?_)
  exact ss_vret hC hr hlocks hR hS hm dd_G_copyFrom_62
theorem dd_V_copyFrom_0 : decode bb_V_copyFrom 0 = .ok (.aload_n 0, 1) := by decide +kernel
theorem dd_V_copyFrom_1 : decode bb_V_copyFrom 1 = .ok (.aload_n 1, 1) := by decide +kernel
theorem dd_V_copyFrom_2 : decode bb_V_copyFrom 2 = .ok (.getfield 31, 3) := by decide +kernel
theorem dd_V_copyFrom_5 : decode bb_V_copyFrom 5 = .ok (.putfield 31, 3) := by decide +kernel
theorem dd_V_copyFrom_8 : decode bb_V_copyFrom 8 = .ok (.aload_n 0, 1) := by decide +kernel
theorem dd_V_copyFrom_9 : decode bb_V_copyFrom 9 = .ok (.aload_n 1, 1) := by decide +kernel
theorem dd_V_copyFrom_10 : decode bb_V_copyFrom 10 = .ok (.getfield 35, 3) := by decide +kernel
theorem dd_V_copyFrom_13 : decode bb_V_copyFrom 13 = .ok (.putfield 35, 3) := by decide +kernel
theorem dd_V_copyFrom_16 : decode bb_V_copyFrom 16 = .ok (.aload_n 0, 1) := by decide +kernel
theorem dd_V_copyFrom_17 : decode bb_V_copyFrom 17 = .ok (.aload_n 1, 1) := by decide +kernel
theorem dd_V_copyFrom_18 : decode bb_V_copyFrom 18 = .ok (.getfield 39, 3) := by decide +kernel
theorem dd_V_copyFrom_21 : decode bb_V_copyFrom 21 = .ok (.putfield 39, 3) := by decide +kernel
theorem dd_V_copyFrom_24 : decode bb_V_copyFrom 24 = .ok (.aload_n 0, 1) := by decide +kernel
theorem dd_V_copyFrom_25 : decode bb_V_copyFrom 25 = .ok (.aload_n 1, 1) := by decide +kernel
theorem dd_V_copyFrom_26 : decode bb_V_copyFrom 26 = .ok (.getfield 42, 3) := by decide +kernel
theorem dd_V_copyFrom_29 : decode bb_V_copyFrom 29 = .ok (.putfield 42, 3) := by decide +kernel
theorem dd_V_copyFrom_32 : decode bb_V_copyFrom 32 = .ok (.aload_n 0, 1) := by decide +kernel
theorem dd_V_copyFrom_33 : decode bb_V_copyFrom 33 = .ok (.aload_n 1, 1) := by decide +kernel
theorem dd_V_copyFrom_34 : decode bb_V_copyFrom 34 = .ok (.getfield 45, 3) := by decide +kernel
theorem dd_V_copyFrom_37 : decode bb_V_copyFrom 37 = .ok (.putfield 45, 3) := by decide +kernel
theorem dd_V_copyFrom_40 : decode bb_V_copyFrom 40 = .ok (.aload_n 1, 1) := by decide +kernel
theorem dd_V_copyFrom_41 : decode bb_V_copyFrom 41 = .ok (.getfield 9, 3) := by decide +kernel
theorem dd_V_copyFrom_44 : decode bb_V_copyFrom 44 = .ok (.iconst 0, 1) := by decide +kernel
theorem dd_V_copyFrom_45 : decode bb_V_copyFrom 45 = .ok (.aload_n 0, 1) := by decide +kernel
theorem dd_V_copyFrom_46 : decode bb_V_copyFrom 46 = .ok (.getfield 9, 3) := by decide +kernel
theorem dd_V_copyFrom_49 : decode bb_V_copyFrom 49 = .ok (.iconst 0, 1) := by decide +kernel
theorem dd_V_copyFrom_50 : decode bb_V_copyFrom 50 = .ok (.iconst 4, 1) := by decide +kernel
theorem dd_V_copyFrom_51 : decode bb_V_copyFrom 51 = .ok (.invokestatic 48, 3) := by decide +kernel
theorem dd_V_copyFrom_54 : decode bb_V_copyFrom 54 = .ok (.aload_n 1, 1) := by decide +kernel
theorem dd_V_copyFrom_55 : decode bb_V_copyFrom 55 = .ok (.getfield 15, 3) := by decide +kernel
theorem dd_V_copyFrom_58 : decode bb_V_copyFrom 58 = .ok (.iconst 0, 1) := by decide +kernel
theorem dd_V_copyFrom_59 : decode bb_V_copyFrom 59 = .ok (.aload_n 0, 1) := by decide +kernel
theorem dd_V_copyFrom_60 : decode bb_V_copyFrom 60 = .ok (.getfield 15, 3) := by decide +kernel
theorem dd_V_copyFrom_63 : decode bb_V_copyFrom 63 = .ok (.iconst 0, 1) := by decide +kernel
theorem dd_V_copyFrom_64 : decode bb_V_copyFrom 64 = .ok (.iconst 4, 1) := by decide +kernel
theorem dd_V_copyFrom_65 : decode bb_V_copyFrom 65 = .ok (.invokestatic 48, 3) := by decide +kernel
theorem dd_V_copyFrom_68 : decode bb_V_copyFrom 68 = .ok (.aload_n 1, 1) := by decide +kernel
theorem dd_V_copyFrom_69 : decode bb_V_copyFrom 69 = .ok (.getfield 18, 3) := by decide +kernel
theorem dd_V_copyFrom_72 : decode bb_V_copyFrom 72 = .ok (.iconst 0, 1) := by decide +kernel
theorem dd_V_copyFrom_73 : decode bb_V_copyFrom 73 = .ok (.aload_n 0, 1) := by decide +kernel
theorem dd_V_copyFrom_74 : decode bb_V_copyFrom 74 = .ok (.getfield 18, 3) := by decide +kernel
theorem dd_V_copyFrom_77 : decode bb_V_copyFrom 77 = .ok (.iconst 0, 1) := by decide +kernel
theorem dd_V_copyFrom_78 : decode bb_V_copyFrom 78 = .ok (.bipush 8, 2) := by decide +kernel
theorem dd_V_copyFrom_80 : decode bb_V_copyFrom 80 = .ok (.invokestatic 48, 3) := by decide +kernel
theorem dd_V_copyFrom_83 : decode bb_V_copyFrom 83 = .ok (.aload_n 1, 1) := by decide +kernel
theorem dd_V_copyFrom_84 : decode bb_V_copyFrom 84 = .ok (.getfield 21, 3) := by decide +kernel
theorem dd_V_copyFrom_87 : decode bb_V_copyFrom 87 = .ok (.iconst 0, 1) := by decide +kernel
theorem dd_V_copyFrom_88 : decode bb_V_copyFrom 88 = .ok (.aload_n 0, 1) := by decide +kernel
theorem dd_V_copyFrom_89 : decode bb_V_copyFrom 89 = .ok (.getfield 21, 3) := by decide +kernel
theorem dd_V_copyFrom_92 : decode bb_V_copyFrom 92 = .ok (.iconst 0, 1) := by decide +kernel
theorem dd_V_copyFrom_93 : decode bb_V_copyFrom 93 = .ok (.bipush 8, 2) := by decide +kernel
theorem dd_V_copyFrom_95 : decode bb_V_copyFrom 95 = .ok (.invokestatic 48, 3) := by decide +kernel
theorem dd_V_copyFrom_98 : decode bb_V_copyFrom 98 = .ok (.aload_n 0, 1) := by decide +kernel
theorem dd_V_copyFrom_99 : decode bb_V_copyFrom 99 = .ok (.getfield 27, 3) := by decide +kernel
theorem dd_V_copyFrom_102 : decode bb_V_copyFrom 102 = .ok (.aload_n 1, 1) := by decide +kernel
theorem dd_V_copyFrom_103 : decode bb_V_copyFrom 103 = .ok (.getfield 27, 3) := by decide +kernel
theorem dd_V_copyFrom_106 : decode bb_V_copyFrom 106 = .ok (.invokevirtual 54, 3) := by decide +kernel
theorem dd_V_copyFrom_109 : decode bb_V_copyFrom 109 = .ok (.return_, 1) := by decide +kernel
def mm_V_copyFrom (N : Nat) (this : Option Nat) (a1 : Option Nat) (h : ss_Hp) : Option ss_Hp :=
  if ss_is h this 5 = true then
    (ss_gi h a1 5 0).bind fun v1 =>
    (ss_pz h this 5 0 v1).bind fun h2 =>
    (ss_gi h2 a1 5 1).bind fun v3 =>
    (ss_pi h2 this 5 1 v3).bind fun h4 =>
    (ss_gi h4 a1 5 2).bind fun v5 =>
    (ss_pi h4 this 5 2 v5).bind fun h6 =>
    (ss_gi h6 a1 5 3).bind fun v7 =>
    (ss_pi h6 this 5 3 v7).bind fun h8 =>
    (ss_gi h8 a1 5 4).bind fun v9 =>
    (ss_pi h8 this 5 4 v9).bind fun h10 =>
    (ss_gr h10 a1 5 0).bind fun r11 =>
    (ss_gr h10 this 5 0).bind fun r12 =>
    (ss_cp h10 r11 (0 : Int32) r12 (0 : Int32) (4 : Int32)).bind fun h13 =>
    (ss_gr h13 a1 5 1).bind fun r14 =>
    (ss_gr h13 this 5 1).bind fun r15 =>
    (ss_cp h13 r14 (0 : Int32) r15 (0 : Int32) (4 : Int32)).bind fun h16 =>
    (ss_gr h16 a1 5 2).bind fun r17 =>
    (ss_gr h16 this 5 2).bind fun r18 =>
    (ss_cp h16 r17 (0 : Int32) r18 (0 : Int32) (8 : Int32)).bind fun h19 =>
    (ss_gr h19 a1 5 3).bind fun r20 =>
    (ss_gr h19 this 5 3).bind fun r21 =>
    (ss_cp h19 r20 (0 : Int32) r21 (0 : Int32) (8 : Int32)).bind fun h22 =>
    (ss_gr h22 this 5 4).bind fun r23 =>
    (ss_gr h22 a1 5 4).bind fun r24 =>
    (mm_G_copyFrom N r23 r24 h22).bind fun h25 =>
    some h25
  else none
abbrev ww_V_copyFrom (p : Program) (l : Launch) (e : Env) (s : State) (m : MethodId) (below : List Frame) (meth : Method) (c : Code) (G : ss_G) (this : Option Nat) (a1 : Option Nat) (h : ss_Hp) (hh : ss_Hp) (H : Heap) (locs : List Loc) (k n : Nat) (g : JFrame) : Prop := W p l e (headSpec (ss_w yy_V_copyFrom bb_V_copyFrom 2 none) ({ frames := 2, cells := 0, slots := 0, locals := 101 })).room s m ([ss_v (ss_b G) this, ss_v (ss_b G) a1] : List Value).toArray below meth c H locs k n (MQ below (ss_Qc G none hh) ([ss_v (ss_b G) this, ss_v (ss_b G) a1] : List Value).toArray s 0 0 (ss_A G)) g
theorem ck_V_copyFrom {N : Nat} {this : Option Nat} {a1 : Option Nat} {h : ss_Hp} {res : ss_Hp} (hm : mm_V_copyFrom N this a1 h = some res) : ss_is h this 5 = true := (ss_chk hm).1
set_option maxHeartbeats 4000000 in
set_option maxRecDepth 100000 in
theorem cc_V_copyFrom (l : Launch) (G : ss_G) (N : Nat) (this : Option Nat) (a1 : Option Nat) (h : ss_Hp) (hh : ss_Hp) (hm : mm_V_copyFrom N this a1 h = some hh) : ss_Ct l G yy_V_copyFrom bb_V_copyFrom 2 none ({ frames := 2, cells := 0, slots := 0, locals := 101 }) [ss_v (ss_b G) this, ss_v (ss_b G) a1] h none hh := by
  obtain ⟨hck, hm⟩ := ss_chk hm
  refine Met.ofW (cc := bb_V_copyFrom) (maxL := 2) (ret := none) (by decide) rfl ?_
  intro p e s m args below meth c s₁ B hml hv
  obtain ⟨rfl, hR, hK⟩ := hv
  have hC : CallFix p m c bb_V_copyFrom 2 s _ lw_g sR_5 := ⟨B.exec, B.bytes, hml, findClass_of_methodNamed B.named, fun w hw => atoms_spec (ws := ss_w yy_V_copyFrom bb_V_copyFrom 2 none) B.pre w (List.mem_cons_of_mem _ hw)⟩
  have hx := hC.1
  have hb := hC.2.1
  have hr := B.returns
  have hlocks := B.notSynchronized
  have hS : va_S (ss_A G) s.heap s.heap [] := va_S.rf
  have hl := lv_entry ([ss_v (ss_b G) this, ss_v (ss_b G) a1]) (n := 2) (by simp [lg_sl, ss_v_cat, ss_cat_i, ss_cat_l, ss_cat_r])
  rw [lg_entry_eq]
  generalize (lg_sl ([ss_v (ss_b G) this, ss_v (ss_b G) a1]) ++ List.replicate (2 - (lg_sl ([ss_v (ss_b G) this, ss_v (ss_b G) a1])).length) Slot.unset).toArray = ls at hl ⊢
  have hl : lv_has ls 2 [(0, ss_v (ss_b G) this), (1, ss_v (ss_b G) a1)] := by simpa [lv_args, ss_v_cat, ss_cat_i, ss_cat_l, ss_cat_r] using hl
  refine ss_aload_n hx hb dd_V_copyFrom_0 rfl (lv_at hl 0 rfl) ?_
  refine ss_aload_n hx hb dd_V_copyFrom_1 rfl (lv_at hl 1 rfl) ?_
  obtain ⟨v1, qv1, hm⟩ := ss_bind hm
  refine ss_geti hC hK hR kf_V_31 qv1 dd_V_copyFrom_2 ?_
  obtain ⟨h2, qh2, hm⟩ := ss_bind hm
  refine ss_putz hC hK hR hS kp_V_31 qh2 dd_V_copyFrom_5 (fun H locs hR hS => ?_)
  refine ss_aload_n hx hb dd_V_copyFrom_8 rfl (lv_at hl 0 rfl) ?_
  refine ss_aload_n hx hb dd_V_copyFrom_9 rfl (lv_at hl 1 rfl) ?_
  obtain ⟨v3, qv3, hm⟩ := ss_bind hm
  refine ss_geti hC hK hR kf_V_35 qv3 dd_V_copyFrom_10 ?_
  obtain ⟨h4, qh4, hm⟩ := ss_bind hm
  refine ss_puti hC hK hR hS kp_V_35 qh4 dd_V_copyFrom_13 (fun H locs hR hS => ?_)
  refine ss_aload_n hx hb dd_V_copyFrom_16 rfl (lv_at hl 0 rfl) ?_
  refine ss_aload_n hx hb dd_V_copyFrom_17 rfl (lv_at hl 1 rfl) ?_
  obtain ⟨v5, qv5, hm⟩ := ss_bind hm
  refine ss_geti hC hK hR kf_V_39 qv5 dd_V_copyFrom_18 ?_
  obtain ⟨h6, qh6, hm⟩ := ss_bind hm
  refine ss_puti hC hK hR hS kp_V_39 qh6 dd_V_copyFrom_21 (fun H locs hR hS => ?_)
  refine ss_aload_n hx hb dd_V_copyFrom_24 rfl (lv_at hl 0 rfl) ?_
  refine ss_aload_n hx hb dd_V_copyFrom_25 rfl (lv_at hl 1 rfl) ?_
  obtain ⟨v7, qv7, hm⟩ := ss_bind hm
  refine ss_geti hC hK hR kf_V_42 qv7 dd_V_copyFrom_26 ?_
  obtain ⟨h8, qh8, hm⟩ := ss_bind hm
  refine ss_puti hC hK hR hS kp_V_42 qh8 dd_V_copyFrom_29 (fun H locs hR hS => ?_)
  refine ss_aload_n hx hb dd_V_copyFrom_32 rfl (lv_at hl 0 rfl) ?_
  refine ss_aload_n hx hb dd_V_copyFrom_33 rfl (lv_at hl 1 rfl) ?_
  obtain ⟨v9, qv9, hm⟩ := ss_bind hm
  refine ss_geti hC hK hR kf_V_45 qv9 dd_V_copyFrom_34 ?_
  obtain ⟨h10, qh10, hm⟩ := ss_bind hm
  refine ss_puti hC hK hR hS kp_V_45 qh10 dd_V_copyFrom_37 (fun H locs hR hS => ?_)
  refine ss_aload_n hx hb dd_V_copyFrom_40 rfl (lv_at hl 1 rfl) ?_
  obtain ⟨r11, qr11, hm⟩ := ss_bind hm
  refine ss_getr hC hK hR kf_V_9 rfl qr11 dd_V_copyFrom_41 ?_
  refine lv_iconst (v := 0) hx hb dd_V_copyFrom_44 (by decide) ?_
  refine ss_aload_n hx hb dd_V_copyFrom_45 rfl (lv_at hl 0 rfl) ?_
  obtain ⟨r12, qr12, hm⟩ := ss_bind hm
  refine ss_getr hC hK hR kf_V_9 rfl qr12 dd_V_copyFrom_46 ?_
  refine lv_iconst (v := 0) hx hb dd_V_copyFrom_49 (by decide) ?_
  refine lv_iconst (v := 4) hx hb dd_V_copyFrom_50 (by decide) ?_
  obtain ⟨h13, qh13, hm⟩ := ss_bind hm
  refine ss_copy hC hK hR hS hl.1 kj_V_48 kj_ac_n kj_ac_s kj_sys qh13 (Nat.le_of_ble_eq_true rfl) (Nat.le_of_ble_eq_true rfl) (by decide) dd_V_copyFrom_51 (fun H locs hR hS => ?_)
  refine ss_aload_n hx hb dd_V_copyFrom_54 rfl (lv_at hl 1 rfl) ?_
  obtain ⟨r14, qr14, hm⟩ := ss_bind hm
  refine ss_getr hC hK hR kf_V_15 rfl qr14 dd_V_copyFrom_55 ?_
  refine lv_iconst (v := 0) hx hb dd_V_copyFrom_58 (by decide) ?_
  refine ss_aload_n hx hb dd_V_copyFrom_59 rfl (lv_at hl 0 rfl) ?_
  obtain ⟨r15, qr15, hm⟩ := ss_bind hm
  refine ss_getr hC hK hR kf_V_15 rfl qr15 dd_V_copyFrom_60 ?_
  refine lv_iconst (v := 0) hx hb dd_V_copyFrom_63 (by decide) ?_
  refine lv_iconst (v := 4) hx hb dd_V_copyFrom_64 (by decide) ?_
  obtain ⟨h16, qh16, hm⟩ := ss_bind hm
  refine ss_copy hC hK hR hS hl.1 kj_V_48 kj_ac_n kj_ac_s kj_sys qh16 (Nat.le_of_ble_eq_true rfl) (Nat.le_of_ble_eq_true rfl) (by decide) dd_V_copyFrom_65 (fun H locs hR hS => ?_)
  refine ss_aload_n hx hb dd_V_copyFrom_68 rfl (lv_at hl 1 rfl) ?_
  obtain ⟨r17, qr17, hm⟩ := ss_bind hm
  refine ss_getr hC hK hR kf_V_18 rfl qr17 dd_V_copyFrom_69 ?_
  refine lv_iconst (v := 0) hx hb dd_V_copyFrom_72 (by decide) ?_
  refine ss_aload_n hx hb dd_V_copyFrom_73 rfl (lv_at hl 0 rfl) ?_
  obtain ⟨r18, qr18, hm⟩ := ss_bind hm
  refine ss_getr hC hK hR kf_V_18 rfl qr18 dd_V_copyFrom_74 ?_
  refine lv_iconst (v := 0) hx hb dd_V_copyFrom_77 (by decide) ?_
  refine lv_bipush (v := 8) hx hb dd_V_copyFrom_78 (by decide) ?_
  obtain ⟨h19, qh19, hm⟩ := ss_bind hm
  refine ss_copy hC hK hR hS hl.1 kj_V_48 kj_ac_n kj_ac_s kj_sys qh19 (Nat.le_of_ble_eq_true rfl) (Nat.le_of_ble_eq_true rfl) (by decide) dd_V_copyFrom_80 (fun H locs hR hS => ?_)
  refine ss_aload_n hx hb dd_V_copyFrom_83 rfl (lv_at hl 1 rfl) ?_
  obtain ⟨r20, qr20, hm⟩ := ss_bind hm
  refine ss_getr hC hK hR kf_V_21 rfl qr20 dd_V_copyFrom_84 ?_
  refine lv_iconst (v := 0) hx hb dd_V_copyFrom_87 (by decide) ?_
  refine ss_aload_n hx hb dd_V_copyFrom_88 rfl (lv_at hl 0 rfl) ?_
  obtain ⟨r21, qr21, hm⟩ := ss_bind hm
  refine ss_getr hC hK hR kf_V_21 rfl qr21 dd_V_copyFrom_89 ?_
  refine lv_iconst (v := 0) hx hb dd_V_copyFrom_92 (by decide) ?_
  refine lv_bipush (v := 8) hx hb dd_V_copyFrom_93 (by decide) ?_
  obtain ⟨h22, qh22, hm⟩ := ss_bind hm
  refine ss_copy hC hK hR hS hl.1 kj_V_48 kj_ac_n kj_ac_s kj_sys qh22 (Nat.le_of_ble_eq_true rfl) (Nat.le_of_ble_eq_true rfl) (by decide) dd_V_copyFrom_95 (fun H locs hR hS => ?_)
  refine ss_aload_n hx hb dd_V_copyFrom_98 rfl (lv_at hl 0 rfl) ?_
  obtain ⟨r23, qr23, hm⟩ := ss_bind hm
  refine ss_getr hC hK hR kf_V_27 rfl qr23 dd_V_copyFrom_99 ?_
  refine ss_aload_n hx hb dd_V_copyFrom_102 rfl (lv_at hl 1 rfl) ?_
  obtain ⟨r24, qr24, hm⟩ := ss_bind hm
  refine ss_getr hC hK hR kf_V_27 rfl qr24 dd_V_copyFrom_103 ?_
  obtain ⟨h25, qh25, hm⟩ := ss_bind hm
  refine ss_cVv 0 0 (As := [ss_v (ss_b G) r24]) hC hK hR hS hl.1 (cc_G_copyFrom l G N _ _ _ _ qh25) km_V_54 (ck_G_copyFrom qh25) ⟨Nat.le_of_ble_eq_true rfl, Nat.le_of_ble_eq_true rfl⟩ ⟨Nat.le_of_ble_eq_true rfl, Nat.le_of_ble_eq_true rfl, Nat.le_of_ble_eq_true rfl, Nat.le_of_ble_eq_true rfl⟩ rfl rfl (Nat.le_of_ble_eq_true rfl) dd_V_copyFrom_106 (fun H locs hR hS => ?_)
  exact ss_vret hC hr hlocks hR hS hm dd_V_copyFrom_109
