theorem dd_T_init_0 : decode bb_T_init 0 = .ok (.aload_n 0, 1) := by decide +kernel
theorem dd_T_init_1 : decode bb_T_init 1 = .ok (.invokespecial 3, 3) := by decide +kernel
theorem dd_T_init_4 : decode bb_T_init 4 = .ok (.aload_n 0, 1) := by decide +kernel
theorem dd_T_init_5 : decode bb_T_init 5 = .ok (.sipush 400, 3) := by decide +kernel
theorem dd_T_init_8 : decode bb_T_init 8 = .ok (.newarray .int, 2) := by decide +kernel
theorem dd_T_init_10 : decode bb_T_init 10 = .ok (.putfield 11, 3) := by decide +kernel
theorem dd_T_init_13 : decode bb_T_init 13 = .ok (.return_, 1) := by decide +kernel
def mm_T_init (N : Nat) (this : Option Nat) (h : ss_Hp) : Option ss_Hp :=
  if ss_is h this 2 = true then
    ss_b2 (ss_na h 20 400 (400 : Int32)) fun r1 h2 =>
    (ss_pr h2 this 2 0 r1).bind fun h3 =>
    some h3
  else none
abbrev ww_T_init (p : Program) (l : Launch) (e : Env) (s : State) (m : MethodId) (below : List Frame) (meth : Method) (c : Code) (G : ss_G) (this : Option Nat) (h : ss_Hp) (hh : ss_Hp) (H : Heap) (locs : List Loc) (k n : Nat) (g : JFrame) : Prop := W p l e (headSpec (ss_w yy_T_init bb_T_init 1 none) ({ frames := 1, cells := 1, slots := 400, locals := 80 })).room s m ([ss_v (ss_b G) this] : List Value).toArray below meth c H locs k n (MQ below (ss_Qc G none hh) ([ss_v (ss_b G) this] : List Value).toArray s 1 400 (ss_A G)) g
theorem ck_T_init {N : Nat} {this : Option Nat} {h : ss_Hp} {res : ss_Hp} (hm : mm_T_init N this h = some res) : ss_is h this 2 = true := (ss_chk hm).1
set_option maxHeartbeats 4000000 in
set_option maxRecDepth 100000 in
theorem cc_T_init (l : Launch) (G : ss_G) (N : Nat) (this : Option Nat) (h : ss_Hp) (hh : ss_Hp) (hm : mm_T_init N this h = some hh) : ss_Ct l G yy_T_init bb_T_init 1 none ({ frames := 1, cells := 1, slots := 400, locals := 80 }) [ss_v (ss_b G) this] h none hh := by
  obtain ⟨hck, hm⟩ := ss_chk hm
  refine Met.ofW (cc := bb_T_init) (maxL := 1) (ret := none) (by decide) rfl ?_
  intro p e s m args below meth c s₁ B hml hv
  obtain ⟨rfl, hR, hK⟩ := hv
  have hC : CallFix p m c bb_T_init 1 s _ lw_g sR_2 := ⟨B.exec, B.bytes, hml, findClass_of_methodNamed B.named, fun w hw => atoms_spec (ws := ss_w yy_T_init bb_T_init 1 none) B.pre w (List.mem_cons_of_mem _ hw)⟩
  have hx := hC.1
  have hb := hC.2.1
  have hr := B.returns
  have hlocks := B.notSynchronized
  have hin : meth.name = "<init>" := (name_of_methodNamed B.named B.method).1
  have hS : va_S (ss_A G) s.heap s.heap [] := va_S.rf
  have hl := lv_entry ([ss_v (ss_b G) this]) (n := 1) (by simp [lg_sl, ss_v_cat, ss_cat_i, ss_cat_l, ss_cat_r])
  rw [lg_entry_eq]
  generalize (lg_sl ([ss_v (ss_b G) this]) ++ List.replicate (1 - (lg_sl ([ss_v (ss_b G) this])).length) Slot.unset).toArray = ls at hl ⊢
  have hl : lv_has ls 1 [(0, ss_v (ss_b G) this)] := by simpa [lv_args, ss_v_cat, ss_cat_i, ss_cat_l, ss_cat_r] using hl
  refine ss_aload_n hx hb dd_T_init_0 rfl (lv_at hl 0 rfl) ?_
  obtain ⟨_, hck1⟩ := ss_isSome hck
  refine ss_init hC hl.1 kj_T_3 kj_oi kj_oc hck1 (Nat.le_of_ble_eq_true rfl) (Nat.le_of_ble_eq_true rfl) (Nat.le_of_ble_eq_true rfl) dd_T_init_1 ?_
  refine ss_aload_n hx hb dd_T_init_4 rfl (lv_at hl 0 rfl) ?_
  refine lv_sipush (v := 400) hx hb dd_T_init_5 (by decide) ?_
  obtain ⟨r1, h2, qh2, hm⟩ := ss_bind2 hm
  refine ss_newai hC hK hR hS kt_int rfl rfl (by decide) (t0 := 0) rfl (by decide) qh2 (by decide) (Nat.le_of_ble_eq_true rfl) (Nat.le_of_ble_eq_true rfl) dd_T_init_8 (fun H hR hS => ?_)
  refine W.widen (k := 1) (n := 400) (Nat.le_of_ble_eq_true rfl) (Nat.le_of_ble_eq_true rfl) ?_
  obtain ⟨h3, qh3, hm⟩ := ss_bind hm
  refine ss_putrF hC hK hR hS hin kq_T_11 rfl (Or.inr ⟨_, rfl⟩) qh3 dd_T_init_10 (fun H locs hR hS => ?_)
  exact ss_vret hC hr hlocks hR hS hm dd_T_init_13
theorem dd_G_init_0 : decode bb_G_init 0 = .ok (.aload_n 0, 1) := by decide +kernel
theorem dd_G_init_1 : decode bb_G_init 1 = .ok (.invokespecial 3, 3) := by decide +kernel
theorem dd_G_init_4 : decode bb_G_init 4 = .ok (.aload_n 0, 1) := by decide +kernel
theorem dd_G_init_5 : decode bb_G_init 5 = .ok (.bipush 8, 2) := by decide +kernel
theorem dd_G_init_7 : decode bb_G_init 7 = .ok (.newarray .int, 2) := by decide +kernel
theorem dd_G_init_9 : decode bb_G_init 9 = .ok (.putfield 9, 3) := by decide +kernel
theorem dd_G_init_12 : decode bb_G_init 12 = .ok (.aload_n 0, 1) := by decide +kernel
theorem dd_G_init_13 : decode bb_G_init 13 = .ok (.bipush 8, 2) := by decide +kernel
theorem dd_G_init_15 : decode bb_G_init 15 = .ok (.newarray .int, 2) := by decide +kernel
theorem dd_G_init_17 : decode bb_G_init 17 = .ok (.putfield 15, 3) := by decide +kernel
theorem dd_G_init_20 : decode bb_G_init 20 = .ok (.iconst 0, 1) := by decide +kernel
theorem dd_G_init_21 : decode bb_G_init 21 = .ok (.istore_n 1, 1) := by decide +kernel
theorem dd_G_init_22 : decode bb_G_init 22 = .ok (.iload_n 1, 1) := by decide +kernel
theorem dd_G_init_23 : decode bb_G_init 23 = .ok (.bipush 8, 2) := by decide +kernel
theorem dd_G_init_25 : decode bb_G_init 25 = .ok (.if_icmp .ge 16, 3) := by decide +kernel
theorem dd_G_init_28 : decode bb_G_init 28 = .ok (.aload_n 0, 1) := by decide +kernel
theorem dd_G_init_29 : decode bb_G_init 29 = .ok (.getfield 15, 3) := by decide +kernel
theorem dd_G_init_32 : decode bb_G_init 32 = .ok (.iload_n 1, 1) := by decide +kernel
theorem dd_G_init_33 : decode bb_G_init 33 = .ok (.iconst (-1), 1) := by decide +kernel
theorem dd_G_init_34 : decode bb_G_init 34 = .ok (.iastore, 1) := by decide +kernel
theorem dd_G_init_35 : decode bb_G_init 35 = .ok (.iinc 1 1, 3) := by decide +kernel
theorem dd_G_init_38 : decode bb_G_init 38 = .ok (.goto (-16), 3) := by decide +kernel
theorem dd_G_init_41 : decode bb_G_init 41 = .ok (.return_, 1) := by decide +kernel
def mm_G_init_b22 (N : Nat) (this : Option Nat) (st : Int32 × ss_Hp) : Option ((Int32 × ss_Hp) ⊕ ss_Hp) :=
  match st with
  | (x1_22, h_22) =>
    if (8 : Int32) ≤ x1_22 then
      some (.inr h_22)
    else
      (ss_gr h_22 this 0 1).bind fun r8 =>
      (ss_ui h_22 r8 20 x1_22 (-1 : Int32)).bind fun h9 =>
      (some (x1_22 + (1 : Int32))).bind fun v10 =>
      some (.inl (v10, h9))
def mm_G_init (N : Nat) (this : Option Nat) (h : ss_Hp) : Option ss_Hp :=
  if ss_is h this 0 = true then
    ss_b2 (ss_na h 20 8 (8 : Int32)) fun r1 h2 =>
    (ss_pr h2 this 0 0 r1).bind fun h3 =>
    ss_b2 (ss_na h3 20 8 (8 : Int32)) fun r4 h5 =>
    (ss_pr h5 this 0 1 r4).bind fun h6 =>
    (ss_lp (mm_G_init_b22 N this) N ((0 : Int32), h6)).bind fun h_22_41 =>
    some h_22_41
  else none
abbrev ww_G_init (p : Program) (l : Launch) (e : Env) (s : State) (m : MethodId) (below : List Frame) (meth : Method) (c : Code) (G : ss_G) (this : Option Nat) (h : ss_Hp) (hh : ss_Hp) (H : Heap) (locs : List Loc) (k n : Nat) (g : JFrame) : Prop := W p l e (headSpec (ss_w yy_G_init bb_G_init 2 none) ({ frames := 1, cells := 2, slots := 16, locals := 80 })).room s m ([ss_v (ss_b G) this] : List Value).toArray below meth c H locs k n (MQ below (ss_Qc G none hh) ([ss_v (ss_b G) this] : List Value).toArray s 2 16 (ss_A G)) g
theorem ck_G_init {N : Nat} {this : Option Nat} {h : ss_Hp} {res : ss_Hp} (hm : mm_G_init N this h = some res) : ss_is h this 0 = true := (ss_chk hm).1
set_option maxHeartbeats 4000000 in
set_option maxRecDepth 100000 in
theorem cc_G_init (l : Launch) (G : ss_G) (N : Nat) (this : Option Nat) (h : ss_Hp) (hh : ss_Hp) (hm : mm_G_init N this h = some hh) : ss_Ct l G yy_G_init bb_G_init 2 none ({ frames := 1, cells := 2, slots := 16, locals := 80 }) [ss_v (ss_b G) this] h none hh := by
  obtain ⟨hck, hm⟩ := ss_chk hm
  refine Met.ofW (cc := bb_G_init) (maxL := 2) (ret := none) (by decide) rfl ?_
  intro p e s m args below meth c s₁ B hml hv
  obtain ⟨rfl, hR, hK⟩ := hv
  have hC : CallFix p m c bb_G_init 2 s _ lw_g sR_0 := ⟨B.exec, B.bytes, hml, findClass_of_methodNamed B.named, fun w hw => atoms_spec (ws := ss_w yy_G_init bb_G_init 2 none) B.pre w (List.mem_cons_of_mem _ hw)⟩
  have hx := hC.1
  have hb := hC.2.1
  have hr := B.returns
  have hlocks := B.notSynchronized
  have hin : meth.name = "<init>" := (name_of_methodNamed B.named B.method).1
  have hS : va_S (ss_A G) s.heap s.heap [] := va_S.rf
  have hl := lv_entry ([ss_v (ss_b G) this]) (n := 2) (by simp [lg_sl, ss_v_cat, ss_cat_i, ss_cat_l, ss_cat_r])
  rw [lg_entry_eq]
  generalize (lg_sl ([ss_v (ss_b G) this]) ++ List.replicate (2 - (lg_sl ([ss_v (ss_b G) this])).length) Slot.unset).toArray = ls at hl ⊢
  have hl : lv_has ls 2 [(0, ss_v (ss_b G) this)] := by simpa [lv_args, ss_v_cat, ss_cat_i, ss_cat_l, ss_cat_r] using hl
  refine ss_aload_n hx hb dd_G_init_0 rfl (lv_at hl 0 rfl) ?_
  obtain ⟨_, hck1⟩ := ss_isSome hck
  refine ss_init hC hl.1 kj_G_3 kj_oi kj_oc hck1 (Nat.le_of_ble_eq_true rfl) (Nat.le_of_ble_eq_true rfl) (Nat.le_of_ble_eq_true rfl) dd_G_init_1 ?_
  refine ss_aload_n hx hb dd_G_init_4 rfl (lv_at hl 0 rfl) ?_
  refine lv_bipush (v := 8) hx hb dd_G_init_5 (by decide) ?_
  obtain ⟨r1, h2, qh2, hm⟩ := ss_bind2 hm
  refine ss_newai hC hK hR hS kt_int rfl rfl (by decide) (t0 := 0) rfl (by decide) qh2 (by decide) (Nat.le_of_ble_eq_true rfl) (Nat.le_of_ble_eq_true rfl) dd_G_init_7 (fun H hR hS => ?_)
  refine W.widen (k := 1) (n := 8) (Nat.le_of_ble_eq_true rfl) (Nat.le_of_ble_eq_true rfl) ?_
  obtain ⟨h3, qh3, hm⟩ := ss_bind hm
  refine ss_putrF hC hK hR hS hin kq_G_9 rfl (Or.inr ⟨_, rfl⟩) qh3 dd_G_init_9 (fun H locs hR hS => ?_)
  refine ss_aload_n hx hb dd_G_init_12 rfl (lv_at hl 0 rfl) ?_
  refine lv_bipush (v := 8) hx hb dd_G_init_13 (by decide) ?_
  obtain ⟨r4, h5, qh5, hm⟩ := ss_bind2 hm
  refine ss_newai hC hK hR hS kt_int rfl rfl (by decide) (t0 := 0) rfl (by decide) qh5 (by decide) (Nat.le_of_ble_eq_true rfl) (Nat.le_of_ble_eq_true rfl) dd_G_init_15 (fun H hR hS => ?_)
  refine W.widen (k := 2) (n := 16) (Nat.le_of_ble_eq_true rfl) (Nat.le_of_ble_eq_true rfl) ?_
  obtain ⟨h6, qh6, hm⟩ := ss_bind hm
  refine ss_putrF hC hK hR hS hin kq_G_15 rfl (Or.inr ⟨_, rfl⟩) qh6 dd_G_init_17 (fun H locs hR hS => ?_)
  refine lv_iconst (v := 0) hx hb dd_G_init_20 (by decide) ?_
  refine lv_istore_n (lv' := [(1, .int (0 : Int32)), (0, ss_v (ss_b G) this)]) hx hb dd_G_init_21 rfl hl (by decide) (by simp only [List.filter_cons, ss_v_cat]; rfl) (fun ls hl => ?_)
  obtain ⟨e_22, he_22, hm⟩ := ss_bind hm
  have X_22_41 : ∀  (h_22_41 : ss_Hp) (H : Heap) (locs : List Loc) (ls : Array Slot), e_22 = h_22_41 → ss_R G h_22_41 H → va_S (ss_A G) s.heap H locs → lv_has ls 2 [] → ww_G_init p l e s m below meth c G this h hh  H locs 2 16 (F0 m 41 ls []) := by
    intro h_22_41 H locs ls hq hR hS hl
    rw [hq] at hm
    exact ss_vret hC hr hlocks hR hS hm dd_G_init_41
  have L_22 : ∀ (n : Nat) (x1_22 : Int32) (h_22 : ss_Hp) (H : Heap) (locs : List Loc) (ls : Array Slot), ss_lp (mm_G_init_b22 N this) n (x1_22, h_22) = some e_22 → ss_R G h_22 H → va_S (ss_A G) s.heap H locs → lv_has ls 2 [(0, ss_v (ss_b G) this), (1, .int x1_22)] → ww_G_init p l e s m below meth c G this h hh  H locs 2 16 (F0 m 22 ls []) := by
    intro n
    induction n with
    | zero => intro x1_22 h_22 H locs ls hm; cases hm
    | succ n ih_22 =>
      intro x1_22 h_22 H locs ls hm hR hS hl
      obtain ⟨z_22, hm, hz1_22, hz2_22⟩ := ss_lps hm
      refine lv_iload_n hx hb dd_G_init_22 rfl (lv_at hl 1 rfl) ?_
      refine lv_bipush (v := 8) hx hb dd_G_init_23 (by decide) ?_
      refine lv_icmp_ge (tgt := 41) hx hb dd_G_init_25 (by decide) (fun c7 => ?_) (fun c7 => ?_)
      · have hm := ss_ift hm c7
        exact X_22_41 h_22 _ _ _ (hz2_22 _ (ss_some hm)) hR hS (lv_sub hl [] rfl)
      · have hm := ss_iff hm c7
        refine ss_aload_n hx hb dd_G_init_28 rfl (lv_at hl 0 rfl) ?_
        obtain ⟨r8, qr8, hm⟩ := ss_bind hm
        refine ss_getr hC hK hR kf_G_15 rfl qr8 dd_G_init_29 ?_
        refine lv_iload_n hx hb dd_G_init_32 rfl (lv_at hl 1 rfl) ?_
        refine lv_iconst (v := -1) hx hb dd_G_init_33 (by decide) ?_
        obtain ⟨h9, qh9, hm⟩ := ss_bind hm
        refine ss_iast hC hK hR hS qh9 dd_G_init_34 (fun H locs hR hS => ?_)
        obtain ⟨v10, qv10, hm⟩ := ss_bind hm
        refine lv_iinc (v := v10) (lv' := [(1, .int v10), (0, ss_v (ss_b G) this)]) hx hb dd_G_init_35 hl (k := 1) rfl (ss_inc (by decide) qv10) (by decide) (by simp only [List.filter_cons, ss_v_cat]; rfl) (fun ls hl => ?_)
        refine lv_goto (tgt := 22) hx hb dd_G_init_38 (by decide) ?_
        exact ih_22 v10 h9 _ _ _ (hz1_22 _ (ss_some hm)) hR hS (lv_sub hl [1, 0] rfl)
  exact L_22 N (0 : Int32) h6 _ _ _ he_22 hR hS (lv_sub hl [1, 0] rfl)
theorem dd_V_init_0 : decode bb_V_init 0 = .ok (.aload_n 0, 1) := by decide +kernel
theorem dd_V_init_1 : decode bb_V_init 1 = .ok (.invokespecial 3, 3) := by decide +kernel
theorem dd_V_init_4 : decode bb_V_init 4 = .ok (.aload_n 0, 1) := by decide +kernel
theorem dd_V_init_5 : decode bb_V_init 5 = .ok (.iconst 4, 1) := by decide +kernel
theorem dd_V_init_6 : decode bb_V_init 6 = .ok (.newarray .int, 2) := by decide +kernel
theorem dd_V_init_8 : decode bb_V_init 8 = .ok (.putfield 9, 3) := by decide +kernel
theorem dd_V_init_11 : decode bb_V_init 11 = .ok (.aload_n 0, 1) := by decide +kernel
theorem dd_V_init_12 : decode bb_V_init 12 = .ok (.iconst 4, 1) := by decide +kernel
theorem dd_V_init_13 : decode bb_V_init 13 = .ok (.newarray .int, 2) := by decide +kernel
theorem dd_V_init_15 : decode bb_V_init 15 = .ok (.putfield 15, 3) := by decide +kernel
theorem dd_V_init_18 : decode bb_V_init 18 = .ok (.aload_n 0, 1) := by decide +kernel
theorem dd_V_init_19 : decode bb_V_init 19 = .ok (.bipush 8, 2) := by decide +kernel
theorem dd_V_init_21 : decode bb_V_init 21 = .ok (.newarray .int, 2) := by decide +kernel
theorem dd_V_init_23 : decode bb_V_init 23 = .ok (.putfield 18, 3) := by decide +kernel
theorem dd_V_init_26 : decode bb_V_init 26 = .ok (.aload_n 0, 1) := by decide +kernel
theorem dd_V_init_27 : decode bb_V_init 27 = .ok (.bipush 8, 2) := by decide +kernel
theorem dd_V_init_29 : decode bb_V_init 29 = .ok (.newarray .int, 2) := by decide +kernel
theorem dd_V_init_31 : decode bb_V_init 31 = .ok (.putfield 21, 3) := by decide +kernel
theorem dd_V_init_34 : decode bb_V_init 34 = .ok (.aload_n 0, 1) := by decide +kernel
theorem dd_V_init_35 : decode bb_V_init 35 = .ok (.new 24, 3) := by decide +kernel
theorem dd_V_init_38 : decode bb_V_init 38 = .ok (.dup, 1) := by decide +kernel
theorem dd_V_init_39 : decode bb_V_init 39 = .ok (.invokespecial 26, 3) := by decide +kernel
theorem dd_V_init_42 : decode bb_V_init 42 = .ok (.putfield 27, 3) := by decide +kernel
theorem dd_V_init_45 : decode bb_V_init 45 = .ok (.return_, 1) := by decide +kernel
def mm_V_init (N : Nat) (this : Option Nat) (h : ss_Hp) : Option ss_Hp :=
  if ss_is h this 5 = true then
    ss_b2 (ss_na h 20 4 (4 : Int32)) fun r1 h2 =>
    (ss_pr h2 this 5 0 r1).bind fun h3 =>
    ss_b2 (ss_na h3 20 4 (4 : Int32)) fun r4 h5 =>
    (ss_pr h5 this 5 1 r4).bind fun h6 =>
    ss_b2 (ss_na h6 20 8 (8 : Int32)) fun r7 h8 =>
    (ss_pr h8 this 5 2 r7).bind fun h9 =>
    ss_b2 (ss_na h9 20 8 (8 : Int32)) fun r10 h11 =>
    (ss_pr h11 this 5 3 r10).bind fun h12 =>
    ss_b2 (ss_no h12 0 4 0 2) fun r13 h14 =>
    (mm_G_init N r13 h14).bind fun h15 =>
    (ss_pr h15 this 5 4 r13).bind fun h16 =>
    some h16
  else none
abbrev ww_V_init (p : Program) (l : Launch) (e : Env) (s : State) (m : MethodId) (below : List Frame) (meth : Method) (c : Code) (G : ss_G) (this : Option Nat) (h : ss_Hp) (hh : ss_Hp) (H : Heap) (locs : List Loc) (k n : Nat) (g : JFrame) : Prop := W p l e (headSpec (ss_w yy_V_init bb_V_init 1 none) ({ frames := 2, cells := 7, slots := 46, locals := 101 })).room s m ([ss_v (ss_b G) this] : List Value).toArray below meth c H locs k n (MQ below (ss_Qc G none hh) ([ss_v (ss_b G) this] : List Value).toArray s 7 46 (ss_A G)) g
theorem ck_V_init {N : Nat} {this : Option Nat} {h : ss_Hp} {res : ss_Hp} (hm : mm_V_init N this h = some res) : ss_is h this 5 = true := (ss_chk hm).1
set_option maxHeartbeats 4000000 in
set_option maxRecDepth 100000 in
theorem cc_V_init (l : Launch) (G : ss_G) (N : Nat) (this : Option Nat) (h : ss_Hp) (hh : ss_Hp) (hm : mm_V_init N this h = some hh) : ss_Ct l G yy_V_init bb_V_init 1 none ({ frames := 2, cells := 7, slots := 46, locals := 101 }) [ss_v (ss_b G) this] h none hh := by
  obtain ⟨hck, hm⟩ := ss_chk hm
  refine Met.ofW (cc := bb_V_init) (maxL := 1) (ret := none) (by decide) rfl ?_
  intro p e s m args below meth c s₁ B hml hv
  obtain ⟨rfl, hR, hK⟩ := hv
  have hC : CallFix p m c bb_V_init 1 s _ lw_g sR_5 := ⟨B.exec, B.bytes, hml, findClass_of_methodNamed B.named, fun w hw => atoms_spec (ws := ss_w yy_V_init bb_V_init 1 none) B.pre w (List.mem_cons_of_mem _ hw)⟩
  have hx := hC.1
  have hb := hC.2.1
  have hr := B.returns
  have hlocks := B.notSynchronized
  have hin : meth.name = "<init>" := (name_of_methodNamed B.named B.method).1
  have hS : va_S (ss_A G) s.heap s.heap [] := va_S.rf
  have hl := lv_entry ([ss_v (ss_b G) this]) (n := 1) (by simp [lg_sl, ss_v_cat, ss_cat_i, ss_cat_l, ss_cat_r])
  rw [lg_entry_eq]
  generalize (lg_sl ([ss_v (ss_b G) this]) ++ List.replicate (1 - (lg_sl ([ss_v (ss_b G) this])).length) Slot.unset).toArray = ls at hl ⊢
  have hl : lv_has ls 1 [(0, ss_v (ss_b G) this)] := by simpa [lv_args, ss_v_cat, ss_cat_i, ss_cat_l, ss_cat_r] using hl
  refine ss_aload_n hx hb dd_V_init_0 rfl (lv_at hl 0 rfl) ?_
  obtain ⟨_, hck1⟩ := ss_isSome hck
  refine ss_init hC hl.1 kj_V_3 kj_oi kj_oc hck1 (Nat.le_of_ble_eq_true rfl) (Nat.le_of_ble_eq_true rfl) (Nat.le_of_ble_eq_true rfl) dd_V_init_1 ?_
  refine ss_aload_n hx hb dd_V_init_4 rfl (lv_at hl 0 rfl) ?_
  refine lv_iconst (v := 4) hx hb dd_V_init_5 (by decide) ?_
  obtain ⟨r1, h2, qh2, hm⟩ := ss_bind2 hm
  refine ss_newai hC hK hR hS kt_int rfl rfl (by decide) (t0 := 0) rfl (by decide) qh2 (by decide) (Nat.le_of_ble_eq_true rfl) (Nat.le_of_ble_eq_true rfl) dd_V_init_6 (fun H hR hS => ?_)
  refine W.widen (k := 1) (n := 4) (Nat.le_of_ble_eq_true rfl) (Nat.le_of_ble_eq_true rfl) ?_
  obtain ⟨h3, qh3, hm⟩ := ss_bind hm
  refine ss_putrF hC hK hR hS hin kq_V_9 rfl (Or.inr ⟨_, rfl⟩) qh3 dd_V_init_8 (fun H locs hR hS => ?_)
  refine ss_aload_n hx hb dd_V_init_11 rfl (lv_at hl 0 rfl) ?_
  refine lv_iconst (v := 4) hx hb dd_V_init_12 (by decide) ?_
  obtain ⟨r4, h5, qh5, hm⟩ := ss_bind2 hm
  refine ss_newai hC hK hR hS kt_int rfl rfl (by decide) (t0 := 0) rfl (by decide) qh5 (by decide) (Nat.le_of_ble_eq_true rfl) (Nat.le_of_ble_eq_true rfl) dd_V_init_13 (fun H hR hS => ?_)
  refine W.widen (k := 2) (n := 8) (Nat.le_of_ble_eq_true rfl) (Nat.le_of_ble_eq_true rfl) ?_
  obtain ⟨h6, qh6, hm⟩ := ss_bind hm
  refine ss_putrF hC hK hR hS hin kq_V_15 rfl (Or.inr ⟨_, rfl⟩) qh6 dd_V_init_15 (fun H locs hR hS => ?_)
  refine ss_aload_n hx hb dd_V_init_18 rfl (lv_at hl 0 rfl) ?_
  refine lv_bipush (v := 8) hx hb dd_V_init_19 (by decide) ?_
  obtain ⟨r7, h8, qh8, hm⟩ := ss_bind2 hm
  refine ss_newai hC hK hR hS kt_int rfl rfl (by decide) (t0 := 0) rfl (by decide) qh8 (by decide) (Nat.le_of_ble_eq_true rfl) (Nat.le_of_ble_eq_true rfl) dd_V_init_21 (fun H hR hS => ?_)
  refine W.widen (k := 3) (n := 16) (Nat.le_of_ble_eq_true rfl) (Nat.le_of_ble_eq_true rfl) ?_
  obtain ⟨h9, qh9, hm⟩ := ss_bind hm
  refine ss_putrF hC hK hR hS hin kq_V_18 rfl (Or.inr ⟨_, rfl⟩) qh9 dd_V_init_23 (fun H locs hR hS => ?_)
  refine ss_aload_n hx hb dd_V_init_26 rfl (lv_at hl 0 rfl) ?_
  refine lv_bipush (v := 8) hx hb dd_V_init_27 (by decide) ?_
  obtain ⟨r10, h11, qh11, hm⟩ := ss_bind2 hm
  refine ss_newai hC hK hR hS kt_int rfl rfl (by decide) (t0 := 0) rfl (by decide) qh11 (by decide) (Nat.le_of_ble_eq_true rfl) (Nat.le_of_ble_eq_true rfl) dd_V_init_29 (fun H hR hS => ?_)
  refine W.widen (k := 4) (n := 24) (Nat.le_of_ble_eq_true rfl) (Nat.le_of_ble_eq_true rfl) ?_
  obtain ⟨h12, qh12, hm⟩ := ss_bind hm
  refine ss_putrF hC hK hR hS hin kq_V_21 rfl (Or.inr ⟨_, rfl⟩) qh12 dd_V_init_31 (fun H locs hR hS => ?_)
  refine ss_aload_n hx hb dd_V_init_34 rfl (lv_at hl 0 rfl) ?_
  obtain ⟨r13, h14, qh14, hm⟩ := ss_bind2 hm
  refine ss_newo (N := 6) hC hK hR hS rfl kn_V_24 rfl qh14 (Nat.le_of_ble_eq_true rfl) (Nat.le_of_ble_eq_true rfl) dd_V_init_35 (fun H hR hS => ?_)
  refine W.widen (k := 5) (n := 30) (Nat.le_of_ble_eq_true rfl) (Nat.le_of_ble_eq_true rfl) ?_
  refine ss_dupr hx hb dd_V_init_38 ?_
  obtain ⟨h15, qh15, hm⟩ := ss_bind hm
  refine ss_cI 7 46 (As := []) hC hK hR hS hl.1 (cc_G_init l G N _ _ _ qh15) km_V_26 (ck_G_init qh15) ⟨Nat.le_of_ble_eq_true rfl, Nat.le_of_ble_eq_true rfl⟩ ⟨Nat.le_of_ble_eq_true rfl, Nat.le_of_ble_eq_true rfl, Nat.le_of_ble_eq_true rfl, Nat.le_of_ble_eq_true rfl⟩ rfl rfl (by simp [ss_v_cat, ss_cat_i, ss_cat_l, ss_cat_r]) dd_V_init_39 (fun H locs hR hS => ?_)
  obtain ⟨h16, qh16, hm⟩ := ss_bind hm
  refine ss_putrF hC hK hR hS hin kq_V_27 rfl (Or.inl ⟨_, rfl⟩) qh16 dd_V_init_42 (fun H locs hR hS => ?_)
  exact ss_vret hC hr hlocks hR hS hm dd_V_init_45
theorem dd_VR_init_0 : decode bb_VR_init 0 = .ok (.aload_n 0, 1) := by decide +kernel
theorem dd_VR_init_1 : decode bb_VR_init 1 = .ok (.invokespecial 3, 3) := by decide +kernel
theorem dd_VR_init_4 : decode bb_VR_init 4 = .ok (.aload_n 0, 1) := by decide +kernel
theorem dd_VR_init_5 : decode bb_VR_init 5 = .ok (.aload_n 1, 1) := by decide +kernel
theorem dd_VR_init_6 : decode bb_VR_init 6 = .ok (.putfield 9, 3) := by decide +kernel
theorem dd_VR_init_9 : decode bb_VR_init 9 = .ok (.aload_n 0, 1) := by decide +kernel
theorem dd_VR_init_10 : decode bb_VR_init 10 = .ok (.new 15, 3) := by decide +kernel
theorem dd_VR_init_13 : decode bb_VR_init 13 = .ok (.dup, 1) := by decide +kernel
theorem dd_VR_init_14 : decode bb_VR_init 14 = .ok (.invokespecial 17, 3) := by decide +kernel
theorem dd_VR_init_17 : decode bb_VR_init 17 = .ok (.putfield 18, 3) := by decide +kernel
theorem dd_VR_init_20 : decode bb_VR_init 20 = .ok (.return_, 1) := by decide +kernel
def mm_VR_init (N : Nat) (this : Option Nat) (a1 : Option Nat) (h : ss_Hp) : Option ss_Hp :=
  if ss_is h this 6 = true then
    (ss_pr h this 6 0 a1).bind fun h1 =>
    ss_b2 (ss_no h1 5 5 0 5) fun r2 h3 =>
    (mm_V_init N r2 h3).bind fun h4 =>
    (ss_pr h4 this 6 1 r2).bind fun h5 =>
    some h5
  else none
abbrev ww_VR_init (p : Program) (l : Launch) (e : Env) (s : State) (m : MethodId) (below : List Frame) (meth : Method) (c : Code) (G : ss_G) (this : Option Nat) (a1 : Option Nat) (h : ss_Hp) (hh : ss_Hp) (H : Heap) (locs : List Loc) (k n : Nat) (g : JFrame) : Prop := W p l e (headSpec (ss_w yy_VR_init bb_VR_init 2 none) ({ frames := 3, cells := 8, slots := 56, locals := 121 })).room s m ([ss_v (ss_b G) this, ss_v (ss_b G) a1] : List Value).toArray below meth c H locs k n (MQ below (ss_Qc G none hh) ([ss_v (ss_b G) this, ss_v (ss_b G) a1] : List Value).toArray s 8 56 (ss_A G)) g
theorem ck_VR_init {N : Nat} {this : Option Nat} {a1 : Option Nat} {h : ss_Hp} {res : ss_Hp} (hm : mm_VR_init N this a1 h = some res) : ss_is h this 6 = true := (ss_chk hm).1
set_option maxHeartbeats 4000000 in
set_option maxRecDepth 100000 in
theorem cc_VR_init (l : Launch) (G : ss_G) (N : Nat) (this : Option Nat) (a1 : Option Nat) (h : ss_Hp) (hh : ss_Hp) (hm : mm_VR_init N this a1 h = some hh) : ss_Ct l G yy_VR_init bb_VR_init 2 none ({ frames := 3, cells := 8, slots := 56, locals := 121 }) [ss_v (ss_b G) this, ss_v (ss_b G) a1] h none hh := by
  obtain ⟨hck, hm⟩ := ss_chk hm
  refine Met.ofW (cc := bb_VR_init) (maxL := 2) (ret := none) (by decide) rfl ?_
  intro p e s m args below meth c s₁ B hml hv
  obtain ⟨rfl, hR, hK⟩ := hv
  have hC : CallFix p m c bb_VR_init 2 s _ lw_g sR_6 := ⟨B.exec, B.bytes, hml, findClass_of_methodNamed B.named, fun w hw => atoms_spec (ws := ss_w yy_VR_init bb_VR_init 2 none) B.pre w (List.mem_cons_of_mem _ hw)⟩
  have hx := hC.1
  have hb := hC.2.1
  have hr := B.returns
  have hlocks := B.notSynchronized
  have hin : meth.name = "<init>" := (name_of_methodNamed B.named B.method).1
  have hS : va_S (ss_A G) s.heap s.heap [] := va_S.rf
  have hl := lv_entry ([ss_v (ss_b G) this, ss_v (ss_b G) a1]) (n := 2) (by simp [lg_sl, ss_v_cat, ss_cat_i, ss_cat_l, ss_cat_r])
  rw [lg_entry_eq]
  generalize (lg_sl ([ss_v (ss_b G) this, ss_v (ss_b G) a1]) ++ List.replicate (2 - (lg_sl ([ss_v (ss_b G) this, ss_v (ss_b G) a1])).length) Slot.unset).toArray = ls at hl ⊢
  have hl : lv_has ls 2 [(0, ss_v (ss_b G) this), (1, ss_v (ss_b G) a1)] := by simpa [lv_args, ss_v_cat, ss_cat_i, ss_cat_l, ss_cat_r] using hl
  refine ss_aload_n hx hb dd_VR_init_0 rfl (lv_at hl 0 rfl) ?_
  obtain ⟨_, hck1⟩ := ss_isSome hck
  refine ss_init hC hl.1 kj_VR_3 kj_oi kj_oc hck1 (Nat.le_of_ble_eq_true rfl) (Nat.le_of_ble_eq_true rfl) (Nat.le_of_ble_eq_true rfl) dd_VR_init_1 ?_
  refine ss_aload_n hx hb dd_VR_init_4 rfl (lv_at hl 0 rfl) ?_
  refine ss_aload_n hx hb dd_VR_init_5 rfl (lv_at hl 1 rfl) ?_
  obtain ⟨h1, qh1, hm⟩ := ss_bind hm
  refine ss_putrF hC hK hR hS hin kq_VR_9 rfl (Or.inl ⟨_, rfl⟩) qh1 dd_VR_init_6 (fun H locs hR hS => ?_)
  refine ss_aload_n hx hb dd_VR_init_9 rfl (lv_at hl 0 rfl) ?_
  obtain ⟨r2, h3, qh3, hm⟩ := ss_bind2 hm
  refine ss_newo (N := 10) hC hK hR hS rfl kn_VR_15 rfl qh3 (Nat.le_of_ble_eq_true rfl) (Nat.le_of_ble_eq_true rfl) dd_VR_init_10 (fun H hR hS => ?_)
  refine W.widen (k := 1) (n := 10) (Nat.le_of_ble_eq_true rfl) (Nat.le_of_ble_eq_true rfl) ?_
  refine ss_dupr hx hb dd_VR_init_13 ?_
  obtain ⟨h4, qh4, hm⟩ := ss_bind hm
  refine ss_cN 8 56 (As := []) hC hK hR hS hl.1 (cc_V_init l G N _ _ _ qh4) km_VR_17 (ck_V_init qh4) ⟨Nat.le_of_ble_eq_true rfl, Nat.le_of_ble_eq_true rfl⟩ ⟨Nat.le_of_ble_eq_true rfl, Nat.le_of_ble_eq_true rfl, Nat.le_of_ble_eq_true rfl, Nat.le_of_ble_eq_true rfl⟩ rfl rfl (by simp [ss_v_cat, ss_cat_i, ss_cat_l, ss_cat_r]) dd_VR_init_14 (fun H locs hR hS => ?_)
  obtain ⟨h5, qh5, hm⟩ := ss_bind hm
  refine ss_putr hC hK hR hS kp_VR_18 rfl (Or.inl ⟨_, rfl⟩) qh5 dd_VR_init_17 (fun H locs hR hS => ?_)
  exact ss_vret hC hr hlocks hR hS hm dd_VR_init_20
theorem dd_RR_init_0 : decode bb_RR_init 0 = .ok (.aload_n 0, 1) := by decide +kernel
theorem dd_RR_init_1 : decode bb_RR_init 1 = .ok (.invokespecial 3, 3) := by decide +kernel
theorem dd_RR_init_4 : decode bb_RR_init 4 = .ok (.aload_n 0, 1) := by decide +kernel
theorem dd_RR_init_5 : decode bb_RR_init 5 = .ok (.sipush 400, 3) := by decide +kernel
theorem dd_RR_init_8 : decode bb_RR_init 8 = .ok (.newarray .int, 2) := by decide +kernel
theorem dd_RR_init_10 : decode bb_RR_init 10 = .ok (.putfield 11, 3) := by decide +kernel
theorem dd_RR_init_13 : decode bb_RR_init 13 = .ok (.aload_n 0, 1) := by decide +kernel
theorem dd_RR_init_14 : decode bb_RR_init 14 = .ok (.bipush 25, 2) := by decide +kernel
theorem dd_RR_init_16 : decode bb_RR_init 16 = .ok (.newarray .int, 2) := by decide +kernel
theorem dd_RR_init_18 : decode bb_RR_init 18 = .ok (.putfield 17, 3) := by decide +kernel
theorem dd_RR_init_21 : decode bb_RR_init 21 = .ok (.aload_n 0, 1) := by decide +kernel
theorem dd_RR_init_22 : decode bb_RR_init 22 = .ok (.aload_n 1, 1) := by decide +kernel
theorem dd_RR_init_23 : decode bb_RR_init 23 = .ok (.putfield 20, 3) := by decide +kernel
theorem dd_RR_init_26 : decode bb_RR_init 26 = .ok (.return_, 1) := by decide +kernel
def mm_RR_init (N : Nat) (this : Option Nat) (a1 : Option Nat) (h : ss_Hp) : Option ss_Hp :=
  if ss_is h this 4 = true then
    ss_b2 (ss_na h 20 400 (400 : Int32)) fun r1 h2 =>
    (ss_pr h2 this 4 1 r1).bind fun h3 =>
    ss_b2 (ss_na h3 20 25 (25 : Int32)) fun r4 h5 =>
    (ss_pr h5 this 4 2 r4).bind fun h6 =>
    (ss_pr h6 this 4 0 a1).bind fun h7 =>
    some h7
  else none
abbrev ww_RR_init (p : Program) (l : Launch) (e : Env) (s : State) (m : MethodId) (below : List Frame) (meth : Method) (c : Code) (G : ss_G) (this : Option Nat) (a1 : Option Nat) (h : ss_Hp) (hh : ss_Hp) (H : Heap) (locs : List Loc) (k n : Nat) (g : JFrame) : Prop := W p l e (headSpec (ss_w yy_RR_init bb_RR_init 2 none) ({ frames := 1, cells := 2, slots := 425, locals := 80 })).room s m ([ss_v (ss_b G) this, ss_v (ss_b G) a1] : List Value).toArray below meth c H locs k n (MQ below (ss_Qc G none hh) ([ss_v (ss_b G) this, ss_v (ss_b G) a1] : List Value).toArray s 2 425 (ss_A G)) g
theorem ck_RR_init {N : Nat} {this : Option Nat} {a1 : Option Nat} {h : ss_Hp} {res : ss_Hp} (hm : mm_RR_init N this a1 h = some res) : ss_is h this 4 = true := (ss_chk hm).1
set_option maxHeartbeats 4000000 in
set_option maxRecDepth 100000 in
theorem cc_RR_init (l : Launch) (G : ss_G) (N : Nat) (this : Option Nat) (a1 : Option Nat) (h : ss_Hp) (hh : ss_Hp) (hm : mm_RR_init N this a1 h = some hh) : ss_Ct l G yy_RR_init bb_RR_init 2 none ({ frames := 1, cells := 2, slots := 425, locals := 80 }) [ss_v (ss_b G) this, ss_v (ss_b G) a1] h none hh := by
  obtain ⟨hck, hm⟩ := ss_chk hm
  refine Met.ofW (cc := bb_RR_init) (maxL := 2) (ret := none) (by decide) rfl ?_
  intro p e s m args below meth c s₁ B hml hv
  obtain ⟨rfl, hR, hK⟩ := hv
  have hC : CallFix p m c bb_RR_init 2 s _ lw_g sR_4 := ⟨B.exec, B.bytes, hml, findClass_of_methodNamed B.named, fun w hw => atoms_spec (ws := ss_w yy_RR_init bb_RR_init 2 none) B.pre w (List.mem_cons_of_mem _ hw)⟩
  have hx := hC.1
  have hb := hC.2.1
  have hr := B.returns
  have hlocks := B.notSynchronized
  have hin : meth.name = "<init>" := (name_of_methodNamed B.named B.method).1
  have hS : va_S (ss_A G) s.heap s.heap [] := va_S.rf
  have hl := lv_entry ([ss_v (ss_b G) this, ss_v (ss_b G) a1]) (n := 2) (by simp [lg_sl, ss_v_cat, ss_cat_i, ss_cat_l, ss_cat_r])
  rw [lg_entry_eq]
  generalize (lg_sl ([ss_v (ss_b G) this, ss_v (ss_b G) a1]) ++ List.replicate (2 - (lg_sl ([ss_v (ss_b G) this, ss_v (ss_b G) a1])).length) Slot.unset).toArray = ls at hl ⊢
  have hl : lv_has ls 2 [(0, ss_v (ss_b G) this), (1, ss_v (ss_b G) a1)] := by simpa [lv_args, ss_v_cat, ss_cat_i, ss_cat_l, ss_cat_r] using hl
  refine ss_aload_n hx hb dd_RR_init_0 rfl (lv_at hl 0 rfl) ?_
  obtain ⟨_, hck1⟩ := ss_isSome hck
  refine ss_init hC hl.1 kj_RR_3 kj_oi kj_oc hck1 (Nat.le_of_ble_eq_true rfl) (Nat.le_of_ble_eq_true rfl) (Nat.le_of_ble_eq_true rfl) dd_RR_init_1 ?_
  refine ss_aload_n hx hb dd_RR_init_4 rfl (lv_at hl 0 rfl) ?_
  refine lv_sipush (v := 400) hx hb dd_RR_init_5 (by decide) ?_
  obtain ⟨r1, h2, qh2, hm⟩ := ss_bind2 hm
  refine ss_newai hC hK hR hS kt_int rfl rfl (by decide) (t0 := 0) rfl (by decide) qh2 (by decide) (Nat.le_of_ble_eq_true rfl) (Nat.le_of_ble_eq_true rfl) dd_RR_init_8 (fun H hR hS => ?_)
  refine W.widen (k := 1) (n := 400) (Nat.le_of_ble_eq_true rfl) (Nat.le_of_ble_eq_true rfl) ?_
  obtain ⟨h3, qh3, hm⟩ := ss_bind hm
  refine ss_putrF hC hK hR hS hin kq_RR_11 rfl (Or.inr ⟨_, rfl⟩) qh3 dd_RR_init_10 (fun H locs hR hS => ?_)
  refine ss_aload_n hx hb dd_RR_init_13 rfl (lv_at hl 0 rfl) ?_
  refine lv_bipush (v := 25) hx hb dd_RR_init_14 (by decide) ?_
  obtain ⟨r4, h5, qh5, hm⟩ := ss_bind2 hm
  refine ss_newai hC hK hR hS kt_int rfl rfl (by decide) (t0 := 0) rfl (by decide) qh5 (by decide) (Nat.le_of_ble_eq_true rfl) (Nat.le_of_ble_eq_true rfl) dd_RR_init_16 (fun H hR hS => ?_)
  refine W.widen (k := 2) (n := 425) (Nat.le_of_ble_eq_true rfl) (Nat.le_of_ble_eq_true rfl) ?_
  obtain ⟨h6, qh6, hm⟩ := ss_bind hm
  refine ss_putrF hC hK hR hS hin kq_RR_17 rfl (Or.inr ⟨_, rfl⟩) qh6 dd_RR_init_18 (fun H locs hR hS => ?_)
  refine ss_aload_n hx hb dd_RR_init_21 rfl (lv_at hl 0 rfl) ?_
  refine ss_aload_n hx hb dd_RR_init_22 rfl (lv_at hl 1 rfl) ?_
  obtain ⟨h7, qh7, hm⟩ := ss_bind hm
  refine ss_putrF hC hK hR hS hin kq_RR_20 rfl (Or.inl ⟨_, rfl⟩) qh7 dd_RR_init_23 (fun H locs hR hS => ?_)
  exact ss_vret hC hr hlocks hR hS hm dd_RR_init_26
theorem dd_Wo_init_0 : decode bb_Wo_init 0 = .ok (.aload_n 0, 1) := by decide +kernel
theorem dd_Wo_init_1 : decode bb_Wo_init 1 = .ok (.invokespecial 3, 3) := by decide +kernel
theorem dd_Wo_init_4 : decode bb_Wo_init 4 = .ok (.aload_n 0, 1) := by decide +kernel
theorem dd_Wo_init_5 : decode bb_Wo_init 5 = .ok (.new 9, 3) := by decide +kernel
theorem dd_Wo_init_8 : decode bb_Wo_init 8 = .ok (.dup, 1) := by decide +kernel
theorem dd_Wo_init_9 : decode bb_Wo_init 9 = .ok (.invokespecial 11, 3) := by decide +kernel
theorem dd_Wo_init_12 : decode bb_Wo_init 12 = .ok (.putfield 12, 3) := by decide +kernel
theorem dd_Wo_init_15 : decode bb_Wo_init 15 = .ok (.aload_n 0, 1) := by decide +kernel
theorem dd_Wo_init_16 : decode bb_Wo_init 16 = .ok (.iconst (-1), 1) := by decide +kernel
theorem dd_Wo_init_17 : decode bb_Wo_init 17 = .ok (.putfield 18, 3) := by decide +kernel
theorem dd_Wo_init_20 : decode bb_Wo_init 20 = .ok (.aload_n 0, 1) := by decide +kernel
theorem dd_Wo_init_21 : decode bb_Wo_init 21 = .ok (.bipush 10, 2) := by decide +kernel
theorem dd_Wo_init_23 : decode bb_Wo_init 23 = .ok (.newarray .int, 2) := by decide +kernel
theorem dd_Wo_init_25 : decode bb_Wo_init 25 = .ok (.putfield 22, 3) := by decide +kernel
theorem dd_Wo_init_28 : decode bb_Wo_init 28 = .ok (.aload_n 0, 1) := by decide +kernel
theorem dd_Wo_init_29 : decode bb_Wo_init 29 = .ok (.bipush 10, 2) := by decide +kernel
theorem dd_Wo_init_31 : decode bb_Wo_init 31 = .ok (.newarray .int, 2) := by decide +kernel
theorem dd_Wo_init_33 : decode bb_Wo_init 33 = .ok (.putfield 26, 3) := by decide +kernel
theorem dd_Wo_init_36 : decode bb_Wo_init 36 = .ok (.aload_n 0, 1) := by decide +kernel
theorem dd_Wo_init_37 : decode bb_Wo_init 37 = .ok (.bipush 10, 2) := by decide +kernel
theorem dd_Wo_init_39 : decode bb_Wo_init 39 = .ok (.newarray .int, 2) := by decide +kernel
theorem dd_Wo_init_41 : decode bb_Wo_init 41 = .ok (.putfield 29, 3) := by decide +kernel
theorem dd_Wo_init_44 : decode bb_Wo_init 44 = .ok (.aload_n 0, 1) := by decide +kernel
theorem dd_Wo_init_45 : decode bb_Wo_init 45 = .ok (.aload_n 1, 1) := by decide +kernel
theorem dd_Wo_init_46 : decode bb_Wo_init 46 = .ok (.putfield 32, 3) := by decide +kernel
theorem dd_Wo_init_49 : decode bb_Wo_init 49 = .ok (.return_, 1) := by decide +kernel
def mm_Wo_init (N : Nat) (this : Option Nat) (a1 : Option Nat) (h : ss_Hp) : Option ss_Hp :=
  if ss_is h this 8 = true then
    ss_b2 (ss_no h 0 4 0 2) fun r1 h2 =>
    (mm_G_init N r1 h2).bind fun h3 =>
    (ss_pr h3 this 8 1 r1).bind fun h4 =>
    (ss_pi h4 this 8 0 (-1 : Int32)).bind fun h5 =>
    ss_b2 (ss_na h5 20 10 (10 : Int32)) fun r6 h7 =>
    (ss_pr h7 this 8 2 r6).bind fun h8 =>
    ss_b2 (ss_na h8 20 10 (10 : Int32)) fun r9 h10 =>
    (ss_pr h10 this 8 3 r9).bind fun h11 =>
    ss_b2 (ss_na h11 20 10 (10 : Int32)) fun r12 h13 =>
    (ss_pr h13 this 8 4 r12).bind fun h14 =>
    (ss_pr h14 this 8 0 a1).bind fun h15 =>
    some h15
  else none
abbrev ww_Wo_init (p : Program) (l : Launch) (e : Env) (s : State) (m : MethodId) (below : List Frame) (meth : Method) (c : Code) (G : ss_G) (this : Option Nat) (a1 : Option Nat) (h : ss_Hp) (hh : ss_Hp) (H : Heap) (locs : List Loc) (k n : Nat) (g : JFrame) : Prop := W p l e (headSpec (ss_w yy_Wo_init bb_Wo_init 2 none) ({ frames := 2, cells := 6, slots := 52, locals := 101 })).room s m ([ss_v (ss_b G) this, ss_v (ss_b G) a1] : List Value).toArray below meth c H locs k n (MQ below (ss_Qc G none hh) ([ss_v (ss_b G) this, ss_v (ss_b G) a1] : List Value).toArray s 6 52 (ss_A G)) g
theorem ck_Wo_init {N : Nat} {this : Option Nat} {a1 : Option Nat} {h : ss_Hp} {res : ss_Hp} (hm : mm_Wo_init N this a1 h = some res) : ss_is h this 8 = true := (ss_chk hm).1
set_option maxHeartbeats 4000000 in
set_option maxRecDepth 100000 in
theorem cc_Wo_init (l : Launch) (G : ss_G) (N : Nat) (this : Option Nat) (a1 : Option Nat) (h : ss_Hp) (hh : ss_Hp) (hm : mm_Wo_init N this a1 h = some hh) : ss_Ct l G yy_Wo_init bb_Wo_init 2 none ({ frames := 2, cells := 6, slots := 52, locals := 101 }) [ss_v (ss_b G) this, ss_v (ss_b G) a1] h none hh := by
  obtain ⟨hck, hm⟩ := ss_chk hm
  refine Met.ofW (cc := bb_Wo_init) (maxL := 2) (ret := none) (by decide) rfl ?_
  intro p e s m args below meth c s₁ B hml hv
  obtain ⟨rfl, hR, hK⟩ := hv
  have hC : CallFix p m c bb_Wo_init 2 s _ lw_g sR_8 := ⟨B.exec, B.bytes, hml, findClass_of_methodNamed B.named, fun w hw => atoms_spec (ws := ss_w yy_Wo_init bb_Wo_init 2 none) B.pre w (List.mem_cons_of_mem _ hw)⟩
  have hx := hC.1
  have hb := hC.2.1
  have hr := B.returns
  have hlocks := B.notSynchronized
  have hin : meth.name = "<init>" := (name_of_methodNamed B.named B.method).1
  have hS : va_S (ss_A G) s.heap s.heap [] := va_S.rf
  have hl := lv_entry ([ss_v (ss_b G) this, ss_v (ss_b G) a1]) (n := 2) (by simp [lg_sl, ss_v_cat, ss_cat_i, ss_cat_l, ss_cat_r])
  rw [lg_entry_eq]
  generalize (lg_sl ([ss_v (ss_b G) this, ss_v (ss_b G) a1]) ++ List.replicate (2 - (lg_sl ([ss_v (ss_b G) this, ss_v (ss_b G) a1])).length) Slot.unset).toArray = ls at hl ⊢
  have hl : lv_has ls 2 [(0, ss_v (ss_b G) this), (1, ss_v (ss_b G) a1)] := by simpa [lv_args, ss_v_cat, ss_cat_i, ss_cat_l, ss_cat_r] using hl
  refine ss_aload_n hx hb dd_Wo_init_0 rfl (lv_at hl 0 rfl) ?_
  obtain ⟨_, hck1⟩ := ss_isSome hck
  refine ss_init hC hl.1 kj_Wo_3 kj_oi kj_oc hck1 (Nat.le_of_ble_eq_true rfl) (Nat.le_of_ble_eq_true rfl) (Nat.le_of_ble_eq_true rfl) dd_Wo_init_1 ?_
  refine ss_aload_n hx hb dd_Wo_init_4 rfl (lv_at hl 0 rfl) ?_
  obtain ⟨r1, h2, qh2, hm⟩ := ss_bind2 hm
  refine ss_newo (N := 6) hC hK hR hS rfl kn_Wo_9 rfl qh2 (Nat.le_of_ble_eq_true rfl) (Nat.le_of_ble_eq_true rfl) dd_Wo_init_5 (fun H hR hS => ?_)
  refine W.widen (k := 1) (n := 6) (Nat.le_of_ble_eq_true rfl) (Nat.le_of_ble_eq_true rfl) ?_
  refine ss_dupr hx hb dd_Wo_init_8 ?_
  obtain ⟨h3, qh3, hm⟩ := ss_bind hm
  refine ss_cI 3 22 (As := []) hC hK hR hS hl.1 (cc_G_init l G N _ _ _ qh3) km_Wo_11 (ck_G_init qh3) ⟨Nat.le_of_ble_eq_true rfl, Nat.le_of_ble_eq_true rfl⟩ ⟨Nat.le_of_ble_eq_true rfl, Nat.le_of_ble_eq_true rfl, Nat.le_of_ble_eq_true rfl, Nat.le_of_ble_eq_true rfl⟩ rfl rfl (by simp [ss_v_cat, ss_cat_i, ss_cat_l, ss_cat_r]) dd_Wo_init_9 (fun H locs hR hS => ?_)
  obtain ⟨h4, qh4, hm⟩ := ss_bind hm
  refine ss_putrF hC hK hR hS hin kq_Wo_12 rfl (Or.inl ⟨_, rfl⟩) qh4 dd_Wo_init_12 (fun H locs hR hS => ?_)
  refine ss_aload_n hx hb dd_Wo_init_15 rfl (lv_at hl 0 rfl) ?_
  refine lv_iconst (v := -1) hx hb dd_Wo_init_16 (by decide) ?_
  obtain ⟨h5, qh5, hm⟩ := ss_bind hm
  refine ss_puti hC hK hR hS kp_Wo_18 qh5 dd_Wo_init_17 (fun H locs hR hS => ?_)
  refine ss_aload_n hx hb dd_Wo_init_20 rfl (lv_at hl 0 rfl) ?_
  refine lv_bipush (v := 10) hx hb dd_Wo_init_21 (by decide) ?_
  obtain ⟨r6, h7, qh7, hm⟩ := ss_bind2 hm
  refine ss_newai hC hK hR hS kt_int rfl rfl (by decide) (t0 := 0) rfl (by decide) qh7 (by decide) (Nat.le_of_ble_eq_true rfl) (Nat.le_of_ble_eq_true rfl) dd_Wo_init_23 (fun H hR hS => ?_)
  refine W.widen (k := 4) (n := 32) (Nat.le_of_ble_eq_true rfl) (Nat.le_of_ble_eq_true rfl) ?_
  obtain ⟨h8, qh8, hm⟩ := ss_bind hm
  refine ss_putrF hC hK hR hS hin kq_Wo_22 rfl (Or.inr ⟨_, rfl⟩) qh8 dd_Wo_init_25 (fun H locs hR hS => ?_)
  refine ss_aload_n hx hb dd_Wo_init_28 rfl (lv_at hl 0 rfl) ?_
  refine lv_bipush (v := 10) hx hb dd_Wo_init_29 (by decide) ?_
  obtain ⟨r9, h10, qh10, hm⟩ := ss_bind2 hm
  refine ss_newai hC hK hR hS kt_int rfl rfl (by decide) (t0 := 0) rfl (by decide) qh10 (by decide) (Nat.le_of_ble_eq_true rfl) (Nat.le_of_ble_eq_true rfl) dd_Wo_init_31 (fun H hR hS => ?_)
  refine W.widen (k := 5) (n := 42) (Nat.le_of_ble_eq_true rfl) (Nat.le_of_ble_eq_true rfl) ?_
  obtain ⟨h11, qh11, hm⟩ := ss_bind hm
  refine ss_putrF hC hK hR hS hin kq_Wo_26 rfl (Or.inr ⟨_, rfl⟩) qh11 dd_Wo_init_33 (fun H locs hR hS => ?_)
  refine ss_aload_n hx hb dd_Wo_init_36 rfl (lv_at hl 0 rfl) ?_
  refine lv_bipush (v := 10) hx hb dd_Wo_init_37 (by decide) ?_
  obtain ⟨r12, h13, qh13, hm⟩ := ss_bind2 hm
  refine ss_newai hC hK hR hS kt_int rfl rfl (by decide) (t0 := 0) rfl (by decide) qh13 (by decide) (Nat.le_of_ble_eq_true rfl) (Nat.le_of_ble_eq_true rfl) dd_Wo_init_39 (fun H hR hS => ?_)
  refine W.widen (k := 6) (n := 52) (Nat.le_of_ble_eq_true rfl) (Nat.le_of_ble_eq_true rfl) ?_
  obtain ⟨h14, qh14, hm⟩ := ss_bind hm
  refine ss_putrF hC hK hR hS hin kq_Wo_29 rfl (Or.inr ⟨_, rfl⟩) qh14 dd_Wo_init_41 (fun H locs hR hS => ?_)
  refine ss_aload_n hx hb dd_Wo_init_44 rfl (lv_at hl 0 rfl) ?_
  refine ss_aload_n hx hb dd_Wo_init_45 rfl (lv_at hl 1 rfl) ?_
  obtain ⟨h15, qh15, hm⟩ := ss_bind hm
  refine ss_putr hC hK hR hS kp_Wo_32 rfl (Or.inl ⟨_, rfl⟩) qh15 dd_Wo_init_46 (fun H locs hR hS => ?_)
  exact ss_vret hC hr hlocks hR hS hm dd_Wo_init_49
theorem dd_A_init_0 : decode bb_A_init 0 = .ok (.aload_n 0, 1) := by decide +kernel
theorem dd_A_init_1 : decode bb_A_init 1 = .ok (.invokespecial 3, 3) := by decide +kernel
theorem dd_A_init_4 : decode bb_A_init 4 = .ok (.aload_n 0, 1) := by decide +kernel
theorem dd_A_init_5 : decode bb_A_init 5 = .ok (.bipush 20, 2) := by decide +kernel
theorem dd_A_init_7 : decode bb_A_init 7 = .ok (.anewarray 11, 3) := by decide +kernel
theorem dd_A_init_10 : decode bb_A_init 10 = .ok (.putfield 13, 3) := by decide +kernel
theorem dd_A_init_13 : decode bb_A_init 13 = .ok (.iconst 0, 1) := by decide +kernel
theorem dd_A_init_14 : decode bb_A_init 14 = .ok (.istore_n 1, 1) := by decide +kernel
theorem dd_A_init_15 : decode bb_A_init 15 = .ok (.iload_n 1, 1) := by decide +kernel
theorem dd_A_init_16 : decode bb_A_init 16 = .ok (.bipush 20, 2) := by decide +kernel
theorem dd_A_init_18 : decode bb_A_init 18 = .ok (.if_icmp .ge 22, 3) := by decide +kernel
theorem dd_A_init_21 : decode bb_A_init 21 = .ok (.aload_n 0, 1) := by decide +kernel
theorem dd_A_init_22 : decode bb_A_init 22 = .ok (.getfield 13, 3) := by decide +kernel
theorem dd_A_init_25 : decode bb_A_init 25 = .ok (.iload_n 1, 1) := by decide +kernel
theorem dd_A_init_26 : decode bb_A_init 26 = .ok (.new 11, 3) := by decide +kernel
theorem dd_A_init_29 : decode bb_A_init 29 = .ok (.dup, 1) := by decide +kernel
theorem dd_A_init_30 : decode bb_A_init 30 = .ok (.invokespecial 17, 3) := by decide +kernel
theorem dd_A_init_33 : decode bb_A_init 33 = .ok (.aastore, 1) := by decide +kernel
theorem dd_A_init_34 : decode bb_A_init 34 = .ok (.iinc 1 1, 3) := by decide +kernel
theorem dd_A_init_37 : decode bb_A_init 37 = .ok (.goto (-22), 3) := by decide +kernel
theorem dd_A_init_40 : decode bb_A_init 40 = .ok (.return_, 1) := by decide +kernel
def mm_A_init_b15 (N : Nat) (this : Option Nat) (st : Int32 × ss_Hp) : Option ((Int32 × ss_Hp) ⊕ ss_Hp) :=
  match st with
  | (x1_15, h_15) =>
    if (20 : Int32) ≤ x1_15 then
      some (.inr h_15)
    else
      (ss_gr h_15 this 3 0).bind fun r5 =>
      ss_b2 (ss_no h_15 0 4 0 2) fun r6 h7 =>
      (mm_G_init N r6 h7).bind fun h8 =>
      (ss_ur h8 r5 24 0 x1_15 r6).bind fun h9 =>
      (some (x1_15 + (1 : Int32))).bind fun v10 =>
      some (.inl (v10, h9))
def mm_A_init (N : Nat) (this : Option Nat) (h : ss_Hp) : Option ss_Hp :=
  if ss_is h this 3 = true then
    ss_b2 (ss_na h 24 20 (20 : Int32)) fun r1 h2 =>
    (ss_pr h2 this 3 0 r1).bind fun h3 =>
    (ss_lp (mm_A_init_b15 N this) N ((0 : Int32), h3)).bind fun h_15_40 =>
    some h_15_40
  else none
abbrev ww_A_init (p : Program) (l : Launch) (e : Env) (s : State) (m : MethodId) (below : List Frame) (meth : Method) (c : Code) (G : ss_G) (this : Option Nat) (h : ss_Hp) (hh : ss_Hp) (H : Heap) (locs : List Loc) (k n : Nat) (g : JFrame) : Prop := W p l e (headSpec (ss_w yy_A_init bb_A_init 2 none) ({ frames := 2, cells := 61, slots := 460, locals := 101 })).room s m ([ss_v (ss_b G) this] : List Value).toArray below meth c H locs k n (MQ below (ss_Qc G none hh) ([ss_v (ss_b G) this] : List Value).toArray s 61 460 (ss_A G)) g
theorem ck_A_init {N : Nat} {this : Option Nat} {h : ss_Hp} {res : ss_Hp} (hm : mm_A_init N this h = some res) : ss_is h this 3 = true := (ss_chk hm).1
set_option maxHeartbeats 4000000 in
set_option maxRecDepth 100000 in
theorem cc_A_init (l : Launch) (G : ss_G) (N : Nat) (this : Option Nat) (h : ss_Hp) (hh : ss_Hp) (hm : mm_A_init N this h = some hh) : ss_Ct l G yy_A_init bb_A_init 2 none ({ frames := 2, cells := 61, slots := 460, locals := 101 }) [ss_v (ss_b G) this] h none hh := by
  obtain ⟨hck, hm⟩ := ss_chk hm
  refine Met.ofW (cc := bb_A_init) (maxL := 2) (ret := none) (by decide) rfl ?_
  intro p e s m args below meth c s₁ B hml hv
  obtain ⟨rfl, hR, hK⟩ := hv
  have hC : CallFix p m c bb_A_init 2 s _ lw_g sR_3 := ⟨B.exec, B.bytes, hml, findClass_of_methodNamed B.named, fun w hw => atoms_spec (ws := ss_w yy_A_init bb_A_init 2 none) B.pre w (List.mem_cons_of_mem _ hw)⟩
  have hx := hC.1
  have hb := hC.2.1
  have hr := B.returns
  have hlocks := B.notSynchronized
  have hin : meth.name = "<init>" := (name_of_methodNamed B.named B.method).1
  have hS : va_S (ss_A G) s.heap s.heap [] := va_S.rf
  have hl := lv_entry ([ss_v (ss_b G) this]) (n := 2) (by simp [lg_sl, ss_v_cat, ss_cat_i, ss_cat_l, ss_cat_r])
  rw [lg_entry_eq]
  generalize (lg_sl ([ss_v (ss_b G) this]) ++ List.replicate (2 - (lg_sl ([ss_v (ss_b G) this])).length) Slot.unset).toArray = ls at hl ⊢
  have hl : lv_has ls 2 [(0, ss_v (ss_b G) this)] := by simpa [lv_args, ss_v_cat, ss_cat_i, ss_cat_l, ss_cat_r] using hl
  refine ss_aload_n hx hb dd_A_init_0 rfl (lv_at hl 0 rfl) ?_
  obtain ⟨_, hck1⟩ := ss_isSome hck
  refine ss_init hC hl.1 kj_A_3 kj_oi kj_oc hck1 (Nat.le_of_ble_eq_true rfl) (Nat.le_of_ble_eq_true rfl) (Nat.le_of_ble_eq_true rfl) dd_A_init_1 ?_
  refine ss_aload_n hx hb dd_A_init_4 rfl (lv_at hl 0 rfl) ?_
  refine lv_bipush (v := 20) hx hb dd_A_init_5 (by decide) ?_
  obtain ⟨r1, h2, qh2, hm⟩ := ss_bind2 hm
  refine ss_newaq hC hK hR hS ka_A_11 hK.2.1.1 (t0 := 4) rfl (by decide) qh2 (by decide) (Nat.le_of_ble_eq_true rfl) (Nat.le_of_ble_eq_true rfl) dd_A_init_7 (fun H hR hS => ?_)
  refine W.widen (k := 1) (n := 20) (Nat.le_of_ble_eq_true rfl) (Nat.le_of_ble_eq_true rfl) ?_
  obtain ⟨h3, qh3, hm⟩ := ss_bind hm
  refine ss_putrF hC hK hR hS hin kq_A_13 rfl (Or.inr ⟨_, rfl⟩) qh3 dd_A_init_10 (fun H locs hR hS => ?_)
  refine lv_iconst (v := 0) hx hb dd_A_init_13 (by decide) ?_
  refine lv_istore_n (lv' := [(1, .int (0 : Int32)), (0, ss_v (ss_b G) this)]) hx hb dd_A_init_14 rfl hl (by decide) (by simp only [List.filter_cons, ss_v_cat]; rfl) (fun ls hl => ?_)
  obtain ⟨e_15, he_15, hm⟩ := ss_bind hm
  have X_15_40 : ∀  (h_15_40 : ss_Hp) (H : Heap) (locs : List Loc) (ls : Array Slot), e_15 = h_15_40 → ss_R G h_15_40 H → va_S (ss_A G) s.heap H locs → lv_has ls 2 [] → ww_A_init p l e s m below meth c G this h hh  H locs 61 460 (F0 m 40 ls []) := by
    intro h_15_40 H locs ls hq hR hS hl
    rw [hq] at hm
    exact ss_vret hC hr hlocks hR hS hm dd_A_init_40
  have L_15 : ∀ (n i_15 : Nat) (x1_15 : Int32) (h_15 : ss_Hp) (H : Heap) (locs : List Loc) (ls : Array Slot), x1_15 = nI i_15 → i_15 ≤ 20 → ss_lp (mm_A_init_b15 N this) n (x1_15, h_15) = some e_15 → ss_R G h_15 H → va_S (ss_A G) s.heap H locs → lv_has ls 2 [(0, ss_v (ss_b G) this), (1, .int x1_15)] → ww_A_init p l e s m below meth c G this h hh  H locs (1 + 3 * i_15) (20 + 22 * i_15) (F0 m 15 ls []) := by
    intro n
    induction n with
    | zero => intro i_15 x1_15 h_15 H locs ls hx1 hle hm; cases hm
    | succ n ih_15 =>
      intro i_15 x1_15 h_15 H locs ls hx1 hle hm hR hS hl
      obtain ⟨z_15, hm, hz1_15, hz2_15⟩ := ss_lps hm
      refine lv_iload_n hx hb dd_A_init_15 rfl (lv_at hl 1 rfl) ?_
      refine lv_bipush (v := 20) hx hb dd_A_init_16 (by decide) ?_
      refine lv_icmp_ge (tgt := 40) hx hb dd_A_init_18 (by decide) (fun c4 => ?_) (fun c4 => ?_)
      · have hm := ss_ift hm c4
        refine W.widen (k := 61) (n := 460) (by omega) (by omega) ?_
        exact X_15_40 h_15 _ _ _ (hz2_15 _ (ss_some hm)) hR hS (lv_sub hl [] rfl)
      · have hm := ss_iff hm c4
        have hlt : i_15 < 20 := by
          rcases Nat.lt_or_ge i_15 20 with q | q
          · exact q
          · exact absurd (by rw [hx1]; exact nI_le (a := 20) (b := i_15) q (by omega)) c4
        refine ss_aload_n hx hb dd_A_init_21 rfl (lv_at hl 0 rfl) ?_
        obtain ⟨r5, qr5, hm⟩ := ss_bind hm
        refine ss_getr hC hK hR kf_A_13 rfl qr5 dd_A_init_22 ?_
        refine lv_iload_n hx hb dd_A_init_25 rfl (lv_at hl 1 rfl) ?_
        obtain ⟨r6, h7, qh7, hm⟩ := ss_bind2 hm
        refine ss_newo (N := 6) hC hK hR hS rfl kn_A_11 rfl qh7 (by show _ ≤ 61; omega) (by show _ ≤ 460; omega) dd_A_init_26 (fun H hR hS => ?_)
        refine W.widen (k := 1 + 3 * i_15 + 1) (n := 20 + 22 * i_15 + 6) (by omega) (by omega) ?_
        refine ss_dupr hx hb dd_A_init_29 ?_
        obtain ⟨h8, qh8, hm⟩ := ss_bind hm
        refine ss_cI (1 + 3 * i_15 + 3) (20 + 22 * i_15 + 22) (As := []) hC hK hR hS hl.1 (cc_G_init l G N _ _ _ qh8) km_A_17 (ck_G_init qh8) ⟨Nat.le_of_ble_eq_true rfl, Nat.le_of_ble_eq_true rfl⟩ ⟨by show _ + 2 ≤ _; omega, by show _ + 16 ≤ _; omega, by show _ ≤ 61; omega, by show _ ≤ 460; omega⟩ rfl rfl (by simp [ss_v_cat, ss_cat_i, ss_cat_l, ss_cat_r]) dd_A_init_30 (fun H locs hR hS => ?_)
        obtain ⟨h9, qh9, hm⟩ := ss_bind hm
        refine ss_aast hC hK hR hS (t0 := 4) (q0 := (sR_0, sT_0, 6)) rfl (by decide) rfl qh9 dd_A_init_33 (fun H locs hR hS => ?_)
        obtain ⟨v10, qv10, hm⟩ := ss_bind hm
        refine lv_iinc (v := v10) (lv' := [(1, .int v10), (0, ss_v (ss_b G) this)]) hx hb dd_A_init_34 hl (k := 1) rfl (ss_inc (by decide) qv10) (by decide) (by simp only [List.filter_cons, ss_v_cat]; rfl) (fun ls hl => ?_)
        refine lv_goto (tgt := 15) hx hb dd_A_init_37 (by decide) ?_
        refine W.widen (k := 1 + 3 * (i_15 + 1)) (n := 20 + 22 * (i_15 + 1)) (by omega) (by omega) ?_
        exact ih_15 (i_15 + 1) v10 h9 _ _ _ (by rw [ss_some qv10, hx1]; exact nI_1 i_15) hlt (hz1_15 _ (ss_some hm)) hR hS (lv_sub hl [1, 0] rfl)
  exact L_15 N 0 (0 : Int32) h3 _ _ _ nI_0.symm (by omega) he_15 hR hS (lv_sub hl [1, 0] rfl)
theorem dd_Wi_init_0 : decode bb_Wi_init 0 = .ok (.aload_n 0, 1) := by decide +kernel
theorem dd_Wi_init_1 : decode bb_Wi_init 1 = .ok (.invokespecial 3, 3) := by decide +kernel
theorem dd_Wi_init_4 : decode bb_Wi_init 4 = .ok (.aload_n 0, 1) := by decide +kernel
theorem dd_Wi_init_5 : decode bb_Wi_init 5 = .ok (.new 9, 3) := by decide +kernel
theorem dd_Wi_init_8 : decode bb_Wi_init 8 = .ok (.dup, 1) := by decide +kernel
theorem dd_Wi_init_9 : decode bb_Wi_init 9 = .ok (.invokespecial 11, 3) := by decide +kernel
theorem dd_Wi_init_12 : decode bb_Wi_init 12 = .ok (.putfield 12, 3) := by decide +kernel
theorem dd_Wi_init_15 : decode bb_Wi_init 15 = .ok (.aload_n 0, 1) := by decide +kernel
theorem dd_Wi_init_16 : decode bb_Wi_init 16 = .ok (.iconst 4, 1) := by decide +kernel
theorem dd_Wi_init_17 : decode bb_Wi_init 17 = .ok (.newarray .int, 2) := by decide +kernel
theorem dd_Wi_init_19 : decode bb_Wi_init 19 = .ok (.putfield 18, 3) := by decide +kernel
theorem dd_Wi_init_22 : decode bb_Wi_init 22 = .ok (.aload_n 0, 1) := by decide +kernel
theorem dd_Wi_init_23 : decode bb_Wi_init 23 = .ok (.bipush 8, 2) := by decide +kernel
theorem dd_Wi_init_25 : decode bb_Wi_init 25 = .ok (.newarray .int, 2) := by decide +kernel
theorem dd_Wi_init_27 : decode bb_Wi_init 27 = .ok (.putfield 22, 3) := by decide +kernel
theorem dd_Wi_init_30 : decode bb_Wi_init 30 = .ok (.aload_n 0, 1) := by decide +kernel
theorem dd_Wi_init_31 : decode bb_Wi_init 31 = .ok (.bipush 8, 2) := by decide +kernel
theorem dd_Wi_init_33 : decode bb_Wi_init 33 = .ok (.newarray .int, 2) := by decide +kernel
theorem dd_Wi_init_35 : decode bb_Wi_init 35 = .ok (.putfield 25, 3) := by decide +kernel
theorem dd_Wi_init_38 : decode bb_Wi_init 38 = .ok (.aload_n 0, 1) := by decide +kernel
theorem dd_Wi_init_39 : decode bb_Wi_init 39 = .ok (.bipush 12, 2) := by decide +kernel
theorem dd_Wi_init_41 : decode bb_Wi_init 41 = .ok (.newarray .long, 2) := by decide +kernel
theorem dd_Wi_init_43 : decode bb_Wi_init 43 = .ok (.putfield 30, 3) := by decide +kernel
theorem dd_Wi_init_46 : decode bb_Wi_init 46 = .ok (.aload_n 0, 1) := by decide +kernel
theorem dd_Wi_init_47 : decode bb_Wi_init 47 = .ok (.bipush 32, 2) := by decide +kernel
theorem dd_Wi_init_49 : decode bb_Wi_init 49 = .ok (.newarray .long, 2) := by decide +kernel
theorem dd_Wi_init_51 : decode bb_Wi_init 51 = .ok (.putfield 34, 3) := by decide +kernel
theorem dd_Wi_init_54 : decode bb_Wi_init 54 = .ok (.aload_n 0, 1) := by decide +kernel
theorem dd_Wi_init_55 : decode bb_Wi_init 55 = .ok (.aload_n 1, 1) := by decide +kernel
theorem dd_Wi_init_56 : decode bb_Wi_init 56 = .ok (.putfield 37, 3) := by decide +kernel
theorem dd_Wi_init_59 : decode bb_Wi_init 59 = .ok (.return_, 1) := by decide +kernel
def mm_Wi_init (N : Nat) (this : Option Nat) (a1 : Option Nat) (h : ss_Hp) : Option ss_Hp :=
  if ss_is h this 7 = true then
    ss_b2 (ss_no h 0 4 0 2) fun r1 h2 =>
    (mm_G_init N r1 h2).bind fun h3 =>
    (ss_pr h3 this 7 0 r1).bind fun h4 =>
    ss_b2 (ss_na h4 20 4 (4 : Int32)) fun r5 h6 =>
    (ss_pr h6 this 7 1 r5).bind fun h7 =>
    ss_b2 (ss_na h7 20 8 (8 : Int32)) fun r8 h9 =>
    (ss_pr h9 this 7 2 r8).bind fun h10 =>
    ss_b2 (ss_na h10 20 8 (8 : Int32)) fun r11 h12 =>
    (ss_pr h12 this 7 3 r11).bind fun h13 =>
    ss_b2 (ss_na h13 23 12 (12 : Int32)) fun r14 h15 =>
    (ss_pr h15 this 7 4 r14).bind fun h16 =>
    ss_b2 (ss_na h16 23 32 (32 : Int32)) fun r17 h18 =>
    (ss_pr h18 this 7 5 r17).bind fun h19 =>
    (ss_pr h19 this 7 6 a1).bind fun h20 =>
    some h20
  else none
abbrev ww_Wi_init (p : Program) (l : Launch) (e : Env) (s : State) (m : MethodId) (below : List Frame) (meth : Method) (c : Code) (G : ss_G) (this : Option Nat) (a1 : Option Nat) (h : ss_Hp) (hh : ss_Hp) (H : Heap) (locs : List Loc) (k n : Nat) (g : JFrame) : Prop := W p l e (headSpec (ss_w yy_Wi_init bb_Wi_init 2 none) ({ frames := 2, cells := 8, slots := 86, locals := 101 })).room s m ([ss_v (ss_b G) this, ss_v (ss_b G) a1] : List Value).toArray below meth c H locs k n (MQ below (ss_Qc G none hh) ([ss_v (ss_b G) this, ss_v (ss_b G) a1] : List Value).toArray s 8 86 (ss_A G)) g
theorem ck_Wi_init {N : Nat} {this : Option Nat} {a1 : Option Nat} {h : ss_Hp} {res : ss_Hp} (hm : mm_Wi_init N this a1 h = some res) : ss_is h this 7 = true := (ss_chk hm).1
set_option maxHeartbeats 4000000 in
set_option maxRecDepth 100000 in
theorem cc_Wi_init (l : Launch) (G : ss_G) (N : Nat) (this : Option Nat) (a1 : Option Nat) (h : ss_Hp) (hh : ss_Hp) (hm : mm_Wi_init N this a1 h = some hh) : ss_Ct l G yy_Wi_init bb_Wi_init 2 none ({ frames := 2, cells := 8, slots := 86, locals := 101 }) [ss_v (ss_b G) this, ss_v (ss_b G) a1] h none hh := by
  obtain ⟨hck, hm⟩ := ss_chk hm
  refine Met.ofW (cc := bb_Wi_init) (maxL := 2) (ret := none) (by decide) rfl ?_
  intro p e s m args below meth c s₁ B hml hv
  obtain ⟨rfl, hR, hK⟩ := hv
  have hC : CallFix p m c bb_Wi_init 2 s _ lw_g sR_7 := ⟨B.exec, B.bytes, hml, findClass_of_methodNamed B.named, fun w hw => atoms_spec (ws := ss_w yy_Wi_init bb_Wi_init 2 none) B.pre w (List.mem_cons_of_mem _ hw)⟩
  have hx := hC.1
  have hb := hC.2.1
  have hr := B.returns
  have hlocks := B.notSynchronized
  have hin : meth.name = "<init>" := (name_of_methodNamed B.named B.method).1
  have hS : va_S (ss_A G) s.heap s.heap [] := va_S.rf
  have hl := lv_entry ([ss_v (ss_b G) this, ss_v (ss_b G) a1]) (n := 2) (by simp [lg_sl, ss_v_cat, ss_cat_i, ss_cat_l, ss_cat_r])
  rw [lg_entry_eq]
  generalize (lg_sl ([ss_v (ss_b G) this, ss_v (ss_b G) a1]) ++ List.replicate (2 - (lg_sl ([ss_v (ss_b G) this, ss_v (ss_b G) a1])).length) Slot.unset).toArray = ls at hl ⊢
  have hl : lv_has ls 2 [(0, ss_v (ss_b G) this), (1, ss_v (ss_b G) a1)] := by simpa [lv_args, ss_v_cat, ss_cat_i, ss_cat_l, ss_cat_r] using hl
  refine ss_aload_n hx hb dd_Wi_init_0 rfl (lv_at hl 0 rfl) ?_
  obtain ⟨_, hck1⟩ := ss_isSome hck
  refine ss_init hC hl.1 kj_Wi_3 kj_oi kj_oc hck1 (Nat.le_of_ble_eq_true rfl) (Nat.le_of_ble_eq_true rfl) (Nat.le_of_ble_eq_true rfl) dd_Wi_init_1 ?_
  refine ss_aload_n hx hb dd_Wi_init_4 rfl (lv_at hl 0 rfl) ?_
  obtain ⟨r1, h2, qh2, hm⟩ := ss_bind2 hm
  refine ss_newo (N := 6) hC hK hR hS rfl kn_Wi_9 rfl qh2 (Nat.le_of_ble_eq_true rfl) (Nat.le_of_ble_eq_true rfl) dd_Wi_init_5 (fun H hR hS => ?_)
  refine W.widen (k := 1) (n := 6) (Nat.le_of_ble_eq_true rfl) (Nat.le_of_ble_eq_true rfl) ?_
  refine ss_dupr hx hb dd_Wi_init_8 ?_
  obtain ⟨h3, qh3, hm⟩ := ss_bind hm
  refine ss_cI 3 22 (As := []) hC hK hR hS hl.1 (cc_G_init l G N _ _ _ qh3) km_Wi_11 (ck_G_init qh3) ⟨Nat.le_of_ble_eq_true rfl, Nat.le_of_ble_eq_true rfl⟩ ⟨Nat.le_of_ble_eq_true rfl, Nat.le_of_ble_eq_true rfl, Nat.le_of_ble_eq_true rfl, Nat.le_of_ble_eq_true rfl⟩ rfl rfl (by simp [ss_v_cat, ss_cat_i, ss_cat_l, ss_cat_r]) dd_Wi_init_9 (fun H locs hR hS => ?_)
  obtain ⟨h4, qh4, hm⟩ := ss_bind hm
  refine ss_putrF hC hK hR hS hin kq_Wi_12 rfl (Or.inl ⟨_, rfl⟩) qh4 dd_Wi_init_12 (fun H locs hR hS => ?_)
  refine ss_aload_n hx hb dd_Wi_init_15 rfl (lv_at hl 0 rfl) ?_
  refine lv_iconst (v := 4) hx hb dd_Wi_init_16 (by decide) ?_
  obtain ⟨r5, h6, qh6, hm⟩ := ss_bind2 hm
  refine ss_newai hC hK hR hS kt_int rfl rfl (by decide) (t0 := 0) rfl (by decide) qh6 (by decide) (Nat.le_of_ble_eq_true rfl) (Nat.le_of_ble_eq_true rfl) dd_Wi_init_17 (fun H hR hS => ?_)
  refine W.widen (k := 4) (n := 26) (Nat.le_of_ble_eq_true rfl) (Nat.le_of_ble_eq_true rfl) ?_
  obtain ⟨h7, qh7, hm⟩ := ss_bind hm
  refine ss_putrF hC hK hR hS hin kq_Wi_18 rfl (Or.inr ⟨_, rfl⟩) qh7 dd_Wi_init_19 (fun H locs hR hS => ?_)
  refine ss_aload_n hx hb dd_Wi_init_22 rfl (lv_at hl 0 rfl) ?_
  refine lv_bipush (v := 8) hx hb dd_Wi_init_23 (by decide) ?_
  obtain ⟨r8, h9, qh9, hm⟩ := ss_bind2 hm
  refine ss_newai hC hK hR hS kt_int rfl rfl (by decide) (t0 := 0) rfl (by decide) qh9 (by decide) (Nat.le_of_ble_eq_true rfl) (Nat.le_of_ble_eq_true rfl) dd_Wi_init_25 (fun H hR hS => ?_)
  refine W.widen (k := 5) (n := 34) (Nat.le_of_ble_eq_true rfl) (Nat.le_of_ble_eq_true rfl) ?_
  obtain ⟨h10, qh10, hm⟩ := ss_bind hm
  refine ss_putrF hC hK hR hS hin kq_Wi_22 rfl (Or.inr ⟨_, rfl⟩) qh10 dd_Wi_init_27 (fun H locs hR hS => ?_)
  refine ss_aload_n hx hb dd_Wi_init_30 rfl (lv_at hl 0 rfl) ?_
  refine lv_bipush (v := 8) hx hb dd_Wi_init_31 (by decide) ?_
  obtain ⟨r11, h12, qh12, hm⟩ := ss_bind2 hm
  refine ss_newai hC hK hR hS kt_int rfl rfl (by decide) (t0 := 0) rfl (by decide) qh12 (by decide) (Nat.le_of_ble_eq_true rfl) (Nat.le_of_ble_eq_true rfl) dd_Wi_init_33 (fun H hR hS => ?_)
  refine W.widen (k := 6) (n := 42) (Nat.le_of_ble_eq_true rfl) (Nat.le_of_ble_eq_true rfl) ?_
  obtain ⟨h13, qh13, hm⟩ := ss_bind hm
  refine ss_putrF hC hK hR hS hin kq_Wi_25 rfl (Or.inr ⟨_, rfl⟩) qh13 dd_Wi_init_35 (fun H locs hR hS => ?_)
  refine ss_aload_n hx hb dd_Wi_init_38 rfl (lv_at hl 0 rfl) ?_
  refine lv_bipush (v := 12) hx hb dd_Wi_init_39 (by decide) ?_
  obtain ⟨r14, h15, qh15, hm⟩ := ss_bind2 hm
  refine ss_newal hC hK hR hS kt_long qh15 (by decide) (Nat.le_of_ble_eq_true rfl) (Nat.le_of_ble_eq_true rfl) dd_Wi_init_41 (fun H hR hS => ?_)
  refine W.widen (k := 7) (n := 54) (Nat.le_of_ble_eq_true rfl) (Nat.le_of_ble_eq_true rfl) ?_
  obtain ⟨h16, qh16, hm⟩ := ss_bind hm
  refine ss_putrF hC hK hR hS hin kq_Wi_30 rfl (Or.inr ⟨_, rfl⟩) qh16 dd_Wi_init_43 (fun H locs hR hS => ?_)
  refine ss_aload_n hx hb dd_Wi_init_46 rfl (lv_at hl 0 rfl) ?_
  refine lv_bipush (v := 32) hx hb dd_Wi_init_47 (by decide) ?_
  obtain ⟨r17, h18, qh18, hm⟩ := ss_bind2 hm
  refine ss_newal hC hK hR hS kt_long qh18 (by decide) (Nat.le_of_ble_eq_true rfl) (Nat.le_of_ble_eq_true rfl) dd_Wi_init_49 (fun H hR hS => ?_)
  refine W.widen (k := 8) (n := 86) (Nat.le_of_ble_eq_true rfl) (Nat.le_of_ble_eq_true rfl) ?_
  obtain ⟨h19, qh19, hm⟩ := ss_bind hm
  refine ss_putrF hC hK hR hS hin kq_Wi_34 rfl (Or.inr ⟨_, rfl⟩) qh19 dd_Wi_init_51 (fun H locs hR hS => ?_)
  refine ss_aload_n hx hb dd_Wi_init_54 rfl (lv_at hl 0 rfl) ?_
  refine ss_aload_n hx hb dd_Wi_init_55 rfl (lv_at hl 1 rfl) ?_
  obtain ⟨h20, qh20, hm⟩ := ss_bind hm
  refine ss_putr hC hK hR hS kp_Wi_37 rfl (Or.inl ⟨_, rfl⟩) qh20 dd_Wi_init_56 (fun H locs hR hS => ?_)
  exact ss_vret hC hr hlocks hR hS hm dd_Wi_init_59
theorem dd_F_init_0 : decode bb_F_init 0 = .ok (.aload_n 0, 1) := by decide +kernel
theorem dd_F_init_1 : decode bb_F_init 1 = .ok (.invokespecial 3, 3) := by decide +kernel
theorem dd_F_init_4 : decode bb_F_init 4 = .ok (.aload_n 0, 1) := by decide +kernel
theorem dd_F_init_5 : decode bb_F_init 5 = .ok (.sipush 488, 3) := by decide +kernel
theorem dd_F_init_8 : decode bb_F_init 8 = .ok (.newarray .int, 2) := by decide +kernel
theorem dd_F_init_10 : decode bb_F_init 10 = .ok (.putfield 11, 3) := by decide +kernel
theorem dd_F_init_13 : decode bb_F_init 13 = .ok (.aload_n 0, 1) := by decide +kernel
theorem dd_F_init_14 : decode bb_F_init 14 = .ok (.bipush 7, 2) := by decide +kernel
theorem dd_F_init_16 : decode bb_F_init 16 = .ok (.newarray .boolean, 2) := by decide +kernel
theorem dd_F_init_18 : decode bb_F_init 18 = .ok (.putfield 15, 3) := by decide +kernel
theorem dd_F_init_21 : decode bb_F_init 21 = .ok (.aload_n 0, 1) := by decide +kernel
theorem dd_F_init_22 : decode bb_F_init 22 = .ok (.aload_n 1, 1) := by decide +kernel
theorem dd_F_init_23 : decode bb_F_init 23 = .ok (.putfield 19, 3) := by decide +kernel
theorem dd_F_init_26 : decode bb_F_init 26 = .ok (.aload_n 0, 1) := by decide +kernel
theorem dd_F_init_27 : decode bb_F_init 27 = .ok (.aload_n 2, 1) := by decide +kernel
theorem dd_F_init_28 : decode bb_F_init 28 = .ok (.putfield 23, 3) := by decide +kernel
theorem dd_F_init_31 : decode bb_F_init 31 = .ok (.aload_n 0, 1) := by decide +kernel
theorem dd_F_init_32 : decode bb_F_init 32 = .ok (.aload_n 3, 1) := by decide +kernel
theorem dd_F_init_33 : decode bb_F_init 33 = .ok (.putfield 27, 3) := by decide +kernel
theorem dd_F_init_36 : decode bb_F_init 36 = .ok (.return_, 1) := by decide +kernel
def mm_F_init (N : Nat) (this : Option Nat) (a1 : Option Nat) (a2 : Option Nat) (a3 : Option Nat) (h : ss_Hp) : Option ss_Hp :=
  if ss_is h this 9 = true then
    ss_b2 (ss_na h 20 488 (488 : Int32)) fun r1 h2 =>
    (ss_pr h2 this 9 3 r1).bind fun h3 =>
    ss_b2 (ss_na h3 22 7 (7 : Int32)) fun r4 h5 =>
    (ss_pr h5 this 9 4 r4).bind fun h6 =>
    (ss_pr h6 this 9 0 a1).bind fun h7 =>
    (ss_pr h7 this 9 1 a2).bind fun h8 =>
    (ss_pr h8 this 9 2 a3).bind fun h9 =>
    some h9
  else none
abbrev ww_F_init (p : Program) (l : Launch) (e : Env) (s : State) (m : MethodId) (below : List Frame) (meth : Method) (c : Code) (G : ss_G) (this : Option Nat) (a1 : Option Nat) (a2 : Option Nat) (a3 : Option Nat) (h : ss_Hp) (hh : ss_Hp) (H : Heap) (locs : List Loc) (k n : Nat) (g : JFrame) : Prop := W p l e (headSpec (ss_w yy_F_init bb_F_init 4 none) ({ frames := 1, cells := 2, slots := 495, locals := 80 })).room s m ([ss_v (ss_b G) this, ss_v (ss_b G) a1, ss_v (ss_b G) a2, ss_v (ss_b G) a3] : List Value).toArray below meth c H locs k n (MQ below (ss_Qc G none hh) ([ss_v (ss_b G) this, ss_v (ss_b G) a1, ss_v (ss_b G) a2, ss_v (ss_b G) a3] : List Value).toArray s 2 495 (ss_A G)) g
theorem ck_F_init {N : Nat} {this : Option Nat} {a1 : Option Nat} {a2 : Option Nat} {a3 : Option Nat} {h : ss_Hp} {res : ss_Hp} (hm : mm_F_init N this a1 a2 a3 h = some res) : ss_is h this 9 = true := (ss_chk hm).1
set_option maxHeartbeats 4000000 in
set_option maxRecDepth 100000 in
theorem cc_F_init (l : Launch) (G : ss_G) (N : Nat) (this : Option Nat) (a1 : Option Nat) (a2 : Option Nat) (a3 : Option Nat) (h : ss_Hp) (hh : ss_Hp) (hm : mm_F_init N this a1 a2 a3 h = some hh) : ss_Ct l G yy_F_init bb_F_init 4 none ({ frames := 1, cells := 2, slots := 495, locals := 80 }) [ss_v (ss_b G) this, ss_v (ss_b G) a1, ss_v (ss_b G) a2, ss_v (ss_b G) a3] h none hh := by
  obtain ⟨hck, hm⟩ := ss_chk hm
  refine Met.ofW (cc := bb_F_init) (maxL := 4) (ret := none) (by decide) rfl ?_
  intro p e s m args below meth c s₁ B hml hv
  obtain ⟨rfl, hR, hK⟩ := hv
  have hC : CallFix p m c bb_F_init 4 s _ lw_g sR_9 := ⟨B.exec, B.bytes, hml, findClass_of_methodNamed B.named, fun w hw => atoms_spec (ws := ss_w yy_F_init bb_F_init 4 none) B.pre w (List.mem_cons_of_mem _ hw)⟩
  have hx := hC.1
  have hb := hC.2.1
  have hr := B.returns
  have hlocks := B.notSynchronized
  have hin : meth.name = "<init>" := (name_of_methodNamed B.named B.method).1
  have hS : va_S (ss_A G) s.heap s.heap [] := va_S.rf
  have hl := lv_entry ([ss_v (ss_b G) this, ss_v (ss_b G) a1, ss_v (ss_b G) a2, ss_v (ss_b G) a3]) (n := 4) (by simp [lg_sl, ss_v_cat, ss_cat_i, ss_cat_l, ss_cat_r])
  rw [lg_entry_eq]
  generalize (lg_sl ([ss_v (ss_b G) this, ss_v (ss_b G) a1, ss_v (ss_b G) a2, ss_v (ss_b G) a3]) ++ List.replicate (4 - (lg_sl ([ss_v (ss_b G) this, ss_v (ss_b G) a1, ss_v (ss_b G) a2, ss_v (ss_b G) a3])).length) Slot.unset).toArray = ls at hl ⊢
  have hl : lv_has ls 4 [(0, ss_v (ss_b G) this), (1, ss_v (ss_b G) a1), (2, ss_v (ss_b G) a2), (3, ss_v (ss_b G) a3)] := by simpa [lv_args, ss_v_cat, ss_cat_i, ss_cat_l, ss_cat_r] using hl
  refine ss_aload_n hx hb dd_F_init_0 rfl (lv_at hl 0 rfl) ?_
  obtain ⟨_, hck1⟩ := ss_isSome hck
  refine ss_init hC hl.1 kj_F_3 kj_oi kj_oc hck1 (Nat.le_of_ble_eq_true rfl) (Nat.le_of_ble_eq_true rfl) (Nat.le_of_ble_eq_true rfl) dd_F_init_1 ?_
  refine ss_aload_n hx hb dd_F_init_4 rfl (lv_at hl 0 rfl) ?_
  refine lv_sipush (v := 488) hx hb dd_F_init_5 (by decide) ?_
  obtain ⟨r1, h2, qh2, hm⟩ := ss_bind2 hm
  refine ss_newai hC hK hR hS kt_int rfl rfl (by decide) (t0 := 0) rfl (by decide) qh2 (by decide) (Nat.le_of_ble_eq_true rfl) (Nat.le_of_ble_eq_true rfl) dd_F_init_8 (fun H hR hS => ?_)
  refine W.widen (k := 1) (n := 488) (Nat.le_of_ble_eq_true rfl) (Nat.le_of_ble_eq_true rfl) ?_
  obtain ⟨h3, qh3, hm⟩ := ss_bind hm
  refine ss_putrF hC hK hR hS hin kq_F_11 rfl (Or.inr ⟨_, rfl⟩) qh3 dd_F_init_10 (fun H locs hR hS => ?_)
  refine ss_aload_n hx hb dd_F_init_13 rfl (lv_at hl 0 rfl) ?_
  refine lv_bipush (v := 7) hx hb dd_F_init_14 (by decide) ?_
  obtain ⟨r4, h5, qh5, hm⟩ := ss_bind2 hm
  refine ss_newai hC hK hR hS kt_boolean rfl rfl (by decide) (t0 := 2) rfl (by decide) qh5 (by decide) (Nat.le_of_ble_eq_true rfl) (Nat.le_of_ble_eq_true rfl) dd_F_init_16 (fun H hR hS => ?_)
  refine W.widen (k := 2) (n := 495) (Nat.le_of_ble_eq_true rfl) (Nat.le_of_ble_eq_true rfl) ?_
  obtain ⟨h6, qh6, hm⟩ := ss_bind hm
  refine ss_putrF hC hK hR hS hin kq_F_15 rfl (Or.inr ⟨_, rfl⟩) qh6 dd_F_init_18 (fun H locs hR hS => ?_)
  refine ss_aload_n hx hb dd_F_init_21 rfl (lv_at hl 0 rfl) ?_
  refine ss_aload_n hx hb dd_F_init_22 rfl (lv_at hl 1 rfl) ?_
  obtain ⟨h7, qh7, hm⟩ := ss_bind hm
  refine ss_putrF hC hK hR hS hin kq_F_19 rfl (Or.inl ⟨_, rfl⟩) qh7 dd_F_init_23 (fun H locs hR hS => ?_)
  refine ss_aload_n hx hb dd_F_init_26 rfl (lv_at hl 0 rfl) ?_
  refine ss_aload_n hx hb dd_F_init_27 rfl (lv_at hl 2 rfl) ?_
  obtain ⟨h8, qh8, hm⟩ := ss_bind hm
  refine ss_putrF hC hK hR hS hin kq_F_23 rfl (Or.inr ⟨_, rfl⟩) qh8 dd_F_init_28 (fun H locs hR hS => ?_)
  refine ss_aload_n hx hb dd_F_init_31 rfl (lv_at hl 0 rfl) ?_
  refine ss_aload_n hx hb dd_F_init_32 rfl (lv_at hl 3 rfl) ?_
  obtain ⟨h9, qh9, hm⟩ := ss_bind hm
  refine ss_putrF hC hK hR hS hin kq_F_27 rfl (Or.inl ⟨_, rfl⟩) qh9 dd_F_init_33 (fun H locs hR hS => ?_)
  exact ss_vret hC hr hlocks hR hS hm dd_F_init_36
theorem dd_P_init_0 : decode bb_P_init 0 = .ok (.aload_n 0, 1) := by decide +kernel
theorem dd_P_init_1 : decode bb_P_init 1 = .ok (.invokespecial 3, 3) := by decide +kernel
theorem dd_P_init_4 : decode bb_P_init 4 = .ok (.aload_n 0, 1) := by decide +kernel
theorem dd_P_init_5 : decode bb_P_init 5 = .ok (.bipush 8, 2) := by decide +kernel
theorem dd_P_init_7 : decode bb_P_init 7 = .ok (.newarray .int, 2) := by decide +kernel
theorem dd_P_init_9 : decode bb_P_init 9 = .ok (.putfield 9, 3) := by decide +kernel
theorem dd_P_init_12 : decode bb_P_init 12 = .ok (.aload_n 0, 1) := by decide +kernel
theorem dd_P_init_13 : decode bb_P_init 13 = .ok (.bipush 8, 2) := by decide +kernel
theorem dd_P_init_15 : decode bb_P_init 15 = .ok (.newarray .int, 2) := by decide +kernel
theorem dd_P_init_17 : decode bb_P_init 17 = .ok (.putfield 15, 3) := by decide +kernel
theorem dd_P_init_20 : decode bb_P_init 20 = .ok (.aload_n 0, 1) := by decide +kernel
theorem dd_P_init_21 : decode bb_P_init 21 = .ok (.bipush 64, 2) := by decide +kernel
theorem dd_P_init_23 : decode bb_P_init 23 = .ok (.newarray .int, 2) := by decide +kernel
theorem dd_P_init_25 : decode bb_P_init 25 = .ok (.putfield 18, 3) := by decide +kernel
theorem dd_P_init_28 : decode bb_P_init 28 = .ok (.aload_n 0, 1) := by decide +kernel
theorem dd_P_init_29 : decode bb_P_init 29 = .ok (.aload_n 1, 1) := by decide +kernel
theorem dd_P_init_30 : decode bb_P_init 30 = .ok (.putfield 21, 3) := by decide +kernel
theorem dd_P_init_33 : decode bb_P_init 33 = .ok (.aload_n 0, 1) := by decide +kernel
theorem dd_P_init_34 : decode bb_P_init 34 = .ok (.aload_n 2, 1) := by decide +kernel
theorem dd_P_init_35 : decode bb_P_init 35 = .ok (.putfield 25, 3) := by decide +kernel
theorem dd_P_init_38 : decode bb_P_init 38 = .ok (.return_, 1) := by decide +kernel
def mm_P_init (N : Nat) (this : Option Nat) (a1 : Option Nat) (a2 : Option Nat) (h : ss_Hp) : Option ss_Hp :=
  if ss_is h this 10 = true then
    ss_b2 (ss_na h 20 8 (8 : Int32)) fun r1 h2 =>
    (ss_pr h2 this 10 2 r1).bind fun h3 =>
    ss_b2 (ss_na h3 20 8 (8 : Int32)) fun r4 h5 =>
    (ss_pr h5 this 10 3 r4).bind fun h6 =>
    ss_b2 (ss_na h6 20 64 (64 : Int32)) fun r7 h8 =>
    (ss_pr h8 this 10 4 r7).bind fun h9 =>
    (ss_pr h9 this 10 0 a1).bind fun h10 =>
    (ss_pr h10 this 10 1 a2).bind fun h11 =>
    some h11
  else none
abbrev ww_P_init (p : Program) (l : Launch) (e : Env) (s : State) (m : MethodId) (below : List Frame) (meth : Method) (c : Code) (G : ss_G) (this : Option Nat) (a1 : Option Nat) (a2 : Option Nat) (h : ss_Hp) (hh : ss_Hp) (H : Heap) (locs : List Loc) (k n : Nat) (g : JFrame) : Prop := W p l e (headSpec (ss_w yy_P_init bb_P_init 3 none) ({ frames := 1, cells := 3, slots := 80, locals := 80 })).room s m ([ss_v (ss_b G) this, ss_v (ss_b G) a1, ss_v (ss_b G) a2] : List Value).toArray below meth c H locs k n (MQ below (ss_Qc G none hh) ([ss_v (ss_b G) this, ss_v (ss_b G) a1, ss_v (ss_b G) a2] : List Value).toArray s 3 80 (ss_A G)) g
theorem ck_P_init {N : Nat} {this : Option Nat} {a1 : Option Nat} {a2 : Option Nat} {h : ss_Hp} {res : ss_Hp} (hm : mm_P_init N this a1 a2 h = some res) : ss_is h this 10 = true := (ss_chk hm).1
set_option maxHeartbeats 4000000 in
set_option maxRecDepth 100000 in
theorem cc_P_init (l : Launch) (G : ss_G) (N : Nat) (this : Option Nat) (a1 : Option Nat) (a2 : Option Nat) (h : ss_Hp) (hh : ss_Hp) (hm : mm_P_init N this a1 a2 h = some hh) : ss_Ct l G yy_P_init bb_P_init 3 none ({ frames := 1, cells := 3, slots := 80, locals := 80 }) [ss_v (ss_b G) this, ss_v (ss_b G) a1, ss_v (ss_b G) a2] h none hh := by
  obtain ⟨hck, hm⟩ := ss_chk hm
  refine Met.ofW (cc := bb_P_init) (maxL := 3) (ret := none) (by decide) rfl ?_
  intro p e s m args below meth c s₁ B hml hv
  obtain ⟨rfl, hR, hK⟩ := hv
  have hC : CallFix p m c bb_P_init 3 s _ lw_g sR_10 := ⟨B.exec, B.bytes, hml, findClass_of_methodNamed B.named, fun w hw => atoms_spec (ws := ss_w yy_P_init bb_P_init 3 none) B.pre w (List.mem_cons_of_mem _ hw)⟩
  have hx := hC.1
  have hb := hC.2.1
  have hr := B.returns
  have hlocks := B.notSynchronized
  have hin : meth.name = "<init>" := (name_of_methodNamed B.named B.method).1
  have hS : va_S (ss_A G) s.heap s.heap [] := va_S.rf
  have hl := lv_entry ([ss_v (ss_b G) this, ss_v (ss_b G) a1, ss_v (ss_b G) a2]) (n := 3) (by simp [lg_sl, ss_v_cat, ss_cat_i, ss_cat_l, ss_cat_r])
  rw [lg_entry_eq]
  generalize (lg_sl ([ss_v (ss_b G) this, ss_v (ss_b G) a1, ss_v (ss_b G) a2]) ++ List.replicate (3 - (lg_sl ([ss_v (ss_b G) this, ss_v (ss_b G) a1, ss_v (ss_b G) a2])).length) Slot.unset).toArray = ls at hl ⊢
  have hl : lv_has ls 3 [(0, ss_v (ss_b G) this), (1, ss_v (ss_b G) a1), (2, ss_v (ss_b G) a2)] := by simpa [lv_args, ss_v_cat, ss_cat_i, ss_cat_l, ss_cat_r] using hl
  refine ss_aload_n hx hb dd_P_init_0 rfl (lv_at hl 0 rfl) ?_
  obtain ⟨_, hck1⟩ := ss_isSome hck
  refine ss_init hC hl.1 kj_P_3 kj_oi kj_oc hck1 (Nat.le_of_ble_eq_true rfl) (Nat.le_of_ble_eq_true rfl) (Nat.le_of_ble_eq_true rfl) dd_P_init_1 ?_
  refine ss_aload_n hx hb dd_P_init_4 rfl (lv_at hl 0 rfl) ?_
  refine lv_bipush (v := 8) hx hb dd_P_init_5 (by decide) ?_
  obtain ⟨r1, h2, qh2, hm⟩ := ss_bind2 hm
  refine ss_newai hC hK hR hS kt_int rfl rfl (by decide) (t0 := 0) rfl (by decide) qh2 (by decide) (Nat.le_of_ble_eq_true rfl) (Nat.le_of_ble_eq_true rfl) dd_P_init_7 (fun H hR hS => ?_)
  refine W.widen (k := 1) (n := 8) (Nat.le_of_ble_eq_true rfl) (Nat.le_of_ble_eq_true rfl) ?_
  obtain ⟨h3, qh3, hm⟩ := ss_bind hm
  refine ss_putrF hC hK hR hS hin kq_P_9 rfl (Or.inr ⟨_, rfl⟩) qh3 dd_P_init_9 (fun H locs hR hS => ?_)
  refine ss_aload_n hx hb dd_P_init_12 rfl (lv_at hl 0 rfl) ?_
  refine lv_bipush (v := 8) hx hb dd_P_init_13 (by decide) ?_
  obtain ⟨r4, h5, qh5, hm⟩ := ss_bind2 hm
  refine ss_newai hC hK hR hS kt_int rfl rfl (by decide) (t0 := 0) rfl (by decide) qh5 (by decide) (Nat.le_of_ble_eq_true rfl) (Nat.le_of_ble_eq_true rfl) dd_P_init_15 (fun H hR hS => ?_)
  refine W.widen (k := 2) (n := 16) (Nat.le_of_ble_eq_true rfl) (Nat.le_of_ble_eq_true rfl) ?_
  obtain ⟨h6, qh6, hm⟩ := ss_bind hm
  refine ss_putrF hC hK hR hS hin kq_P_15 rfl (Or.inr ⟨_, rfl⟩) qh6 dd_P_init_17 (fun H locs hR hS => ?_)
  refine ss_aload_n hx hb dd_P_init_20 rfl (lv_at hl 0 rfl) ?_
  refine lv_bipush (v := 64) hx hb dd_P_init_21 (by decide) ?_
  obtain ⟨r7, h8, qh8, hm⟩ := ss_bind2 hm
  refine ss_newai hC hK hR hS kt_int rfl rfl (by decide) (t0 := 0) rfl (by decide) qh8 (by decide) (Nat.le_of_ble_eq_true rfl) (Nat.le_of_ble_eq_true rfl) dd_P_init_23 (fun H hR hS => ?_)
  refine W.widen (k := 3) (n := 80) (Nat.le_of_ble_eq_true rfl) (Nat.le_of_ble_eq_true rfl) ?_
  obtain ⟨h9, qh9, hm⟩ := ss_bind hm
  refine ss_putrF hC hK hR hS hin kq_P_18 rfl (Or.inr ⟨_, rfl⟩) qh9 dd_P_init_25 (fun H locs hR hS => ?_)
  refine ss_aload_n hx hb dd_P_init_28 rfl (lv_at hl 0 rfl) ?_
  refine ss_aload_n hx hb dd_P_init_29 rfl (lv_at hl 1 rfl) ?_
  obtain ⟨h10, qh10, hm⟩ := ss_bind hm
  refine ss_putrF hC hK hR hS hin kq_P_21 rfl (Or.inl ⟨_, rfl⟩) qh10 dd_P_init_30 (fun H locs hR hS => ?_)
  refine ss_aload_n hx hb dd_P_init_33 rfl (lv_at hl 0 rfl) ?_
  refine ss_aload_n hx hb dd_P_init_34 rfl (lv_at hl 2 rfl) ?_
  obtain ⟨h11, qh11, hm⟩ := ss_bind hm
  refine ss_putrF hC hK hR hS hin kq_P_25 rfl (Or.inl ⟨_, rfl⟩) qh11 dd_P_init_35 (fun H locs hR hS => ?_)
  exact ss_vret hC hr hlocks hR hS hm dd_P_init_38
theorem dd_S_init_0 : decode bb_S_init 0 = .ok (.aload_n 0, 1) := by decide +kernel
theorem dd_S_init_1 : decode bb_S_init 1 = .ok (.invokespecial 1, 3) := by decide +kernel
theorem dd_S_init_4 : decode bb_S_init 4 = .ok (.aload_n 0, 1) := by decide +kernel
theorem dd_S_init_5 : decode bb_S_init 5 = .ok (.new 7, 3) := by decide +kernel
theorem dd_S_init_8 : decode bb_S_init 8 = .ok (.dup, 1) := by decide +kernel
theorem dd_S_init_9 : decode bb_S_init 9 = .ok (.invokespecial 9, 3) := by decide +kernel
theorem dd_S_init_12 : decode bb_S_init 12 = .ok (.putfield 10, 3) := by decide +kernel
theorem dd_S_init_15 : decode bb_S_init 15 = .ok (.aload_n 0, 1) := by decide +kernel
theorem dd_S_init_16 : decode bb_S_init 16 = .ok (.new 16, 3) := by decide +kernel
theorem dd_S_init_19 : decode bb_S_init 19 = .ok (.dup, 1) := by decide +kernel
theorem dd_S_init_20 : decode bb_S_init 20 = .ok (.aload_n 0, 1) := by decide +kernel
theorem dd_S_init_21 : decode bb_S_init 21 = .ok (.getfield 10, 3) := by decide +kernel
theorem dd_S_init_24 : decode bb_S_init 24 = .ok (.invokespecial 18, 3) := by decide +kernel
theorem dd_S_init_27 : decode bb_S_init 27 = .ok (.putfield 21, 3) := by decide +kernel
theorem dd_S_init_30 : decode bb_S_init 30 = .ok (.aload_n 0, 1) := by decide +kernel
theorem dd_S_init_31 : decode bb_S_init 31 = .ok (.new 25, 3) := by decide +kernel
theorem dd_S_init_34 : decode bb_S_init 34 = .ok (.dup, 1) := by decide +kernel
theorem dd_S_init_35 : decode bb_S_init 35 = .ok (.aload_n 0, 1) := by decide +kernel
theorem dd_S_init_36 : decode bb_S_init 36 = .ok (.getfield 10, 3) := by decide +kernel
theorem dd_S_init_39 : decode bb_S_init 39 = .ok (.invokespecial 27, 3) := by decide +kernel
theorem dd_S_init_42 : decode bb_S_init 42 = .ok (.putfield 28, 3) := by decide +kernel
theorem dd_S_init_45 : decode bb_S_init 45 = .ok (.aload_n 0, 1) := by decide +kernel
theorem dd_S_init_46 : decode bb_S_init 46 = .ok (.bipush 6, 2) := by decide +kernel
theorem dd_S_init_48 : decode bb_S_init 48 = .ok (.anewarray 32, 3) := by decide +kernel
theorem dd_S_init_51 : decode bb_S_init 51 = .ok (.putfield 34, 3) := by decide +kernel
theorem dd_S_init_54 : decode bb_S_init 54 = .ok (.aload_n 0, 1) := by decide +kernel
theorem dd_S_init_55 : decode bb_S_init 55 = .ok (.new 38, 3) := by decide +kernel
theorem dd_S_init_58 : decode bb_S_init 58 = .ok (.dup, 1) := by decide +kernel
theorem dd_S_init_59 : decode bb_S_init 59 = .ok (.new 40, 3) := by decide +kernel
theorem dd_S_init_62 : decode bb_S_init 62 = .ok (.dup, 1) := by decide +kernel
theorem dd_S_init_63 : decode bb_S_init 63 = .ok (.invokespecial 42, 3) := by decide +kernel
theorem dd_S_init_66 : decode bb_S_init 66 = .ok (.invokespecial 43, 3) := by decide +kernel
theorem dd_S_init_69 : decode bb_S_init 69 = .ok (.putfield 46, 3) := by decide +kernel
theorem dd_S_init_72 : decode bb_S_init 72 = .ok (.aload_n 0, 1) := by decide +kernel
theorem dd_S_init_73 : decode bb_S_init 73 = .ok (.iconst 4, 1) := by decide +kernel
theorem dd_S_init_74 : decode bb_S_init 74 = .ok (.anewarray 38, 3) := by decide +kernel
theorem dd_S_init_77 : decode bb_S_init 77 = .ok (.putfield 50, 3) := by decide +kernel
theorem dd_S_init_80 : decode bb_S_init 80 = .ok (.aload_n 0, 1) := by decide +kernel
theorem dd_S_init_81 : decode bb_S_init 81 = .ok (.new 54, 3) := by decide +kernel
theorem dd_S_init_84 : decode bb_S_init 84 = .ok (.dup, 1) := by decide +kernel
theorem dd_S_init_85 : decode bb_S_init 85 = .ok (.invokespecial 56, 3) := by decide +kernel
theorem dd_S_init_88 : decode bb_S_init 88 = .ok (.putfield 57, 3) := by decide +kernel
theorem dd_S_init_91 : decode bb_S_init 91 = .ok (.aload_n 0, 1) := by decide +kernel
theorem dd_S_init_92 : decode bb_S_init 92 = .ok (.new 61, 3) := by decide +kernel
theorem dd_S_init_95 : decode bb_S_init 95 = .ok (.dup, 1) := by decide +kernel
theorem dd_S_init_96 : decode bb_S_init 96 = .ok (.aload_n 0, 1) := by decide +kernel
theorem dd_S_init_97 : decode bb_S_init 97 = .ok (.getfield 46, 3) := by decide +kernel
theorem dd_S_init_100 : decode bb_S_init 100 = .ok (.getfield 63, 3) := by decide +kernel
theorem dd_S_init_103 : decode bb_S_init 103 = .ok (.invokespecial 67, 3) := by decide +kernel
theorem dd_S_init_106 : decode bb_S_init 106 = .ok (.putfield 68, 3) := by decide +kernel
theorem dd_S_init_109 : decode bb_S_init 109 = .ok (.aload_n 0, 1) := by decide +kernel
theorem dd_S_init_110 : decode bb_S_init 110 = .ok (.new 72, 3) := by decide +kernel
theorem dd_S_init_113 : decode bb_S_init 113 = .ok (.dup, 1) := by decide +kernel
theorem dd_S_init_114 : decode bb_S_init 114 = .ok (.aload_n 0, 1) := by decide +kernel
theorem dd_S_init_115 : decode bb_S_init 115 = .ok (.getfield 46, 3) := by decide +kernel
theorem dd_S_init_118 : decode bb_S_init 118 = .ok (.aload_n 0, 1) := by decide +kernel
theorem dd_S_init_119 : decode bb_S_init 119 = .ok (.getfield 34, 3) := by decide +kernel
theorem dd_S_init_122 : decode bb_S_init 122 = .ok (.aload_n 0, 1) := by decide +kernel
theorem dd_S_init_123 : decode bb_S_init 123 = .ok (.getfield 68, 3) := by decide +kernel
theorem dd_S_init_126 : decode bb_S_init 126 = .ok (.invokespecial 74, 3) := by decide +kernel
theorem dd_S_init_129 : decode bb_S_init 129 = .ok (.putfield 77, 3) := by decide +kernel
theorem dd_S_init_132 : decode bb_S_init 132 = .ok (.aload_n 0, 1) := by decide +kernel
theorem dd_S_init_133 : decode bb_S_init 133 = .ok (.new 81, 3) := by decide +kernel
theorem dd_S_init_136 : decode bb_S_init 136 = .ok (.dup, 1) := by decide +kernel
theorem dd_S_init_137 : decode bb_S_init 137 = .ok (.aload_n 0, 1) := by decide +kernel
theorem dd_S_init_138 : decode bb_S_init 138 = .ok (.getfield 46, 3) := by decide +kernel
theorem dd_S_init_141 : decode bb_S_init 141 = .ok (.aload_n 0, 1) := by decide +kernel
theorem dd_S_init_142 : decode bb_S_init 142 = .ok (.getfield 68, 3) := by decide +kernel
theorem dd_S_init_145 : decode bb_S_init 145 = .ok (.invokespecial 83, 3) := by decide +kernel
theorem dd_S_init_148 : decode bb_S_init 148 = .ok (.putfield 86, 3) := by decide +kernel
theorem dd_S_init_151 : decode bb_S_init 151 = .ok (.return_, 1) := by decide +kernel
def mm_S_init (N : Nat) (this : Option Nat) (h : ss_Hp) : Option ss_Hp :=
  if ss_is h this 11 = true then
    ss_b2 (ss_no h 2 5 0 1) fun r1 h2 =>
    (mm_T_init N r1 h2).bind fun h3 =>
    (ss_pr h3 this 11 0 r1).bind fun h4 =>
    ss_b2 (ss_no h4 6 0 0 2) fun r5 h6 =>
    (ss_gr h6 this 11 0).bind fun r7 =>
    (mm_VR_init N r5 r7 h6).bind fun h8 =>
    (ss_pr h8 this 11 1 r5).bind fun h9 =>
    ss_b2 (ss_no h9 4 3 0 3) fun r10 h11 =>
    (ss_gr h11 this 11 0).bind fun r12 =>
    (mm_RR_init N r10 r12 h11).bind fun h13 =>
    (ss_pr h13 this 11 2 r10).bind fun h14 =>
    ss_b2 (ss_na h14 25 6 (6 : Int32)) fun r15 h16 =>
    (ss_pr h16 this 11 3 r15).bind fun h17 =>
    ss_b2 (ss_no h17 8 3 0 5) fun r18 h19 =>
    ss_b2 (ss_no h19 5 5 0 5) fun r20 h21 =>
    (mm_V_init N r20 h21).bind fun h22 =>
    (mm_Wo_init N r18 r20 h22).bind fun h23 =>
    (ss_pr h23 this 11 4 r18).bind fun h24 =>
    ss_b2 (ss_na h24 26 4 (4 : Int32)) fun r25 h26 =>
    (ss_pr h26 this 11 5 r25).bind fun h27 =>
    ss_b2 (ss_no h27 3 2 0 1) fun r28 h29 =>
    (mm_A_init N r28 h29).bind fun h30 =>
    (ss_pr h30 this 11 6 r28).bind fun h31 =>
    ss_b2 (ss_no h31 7 0 0 8) fun r32 h33 =>
    (ss_gr h33 this 11 4).bind fun r34 =>
    (ss_gr h33 r34 8 0).bind fun r35 =>
    (mm_Wi_init N r32 r35 h33).bind fun h36 =>
    (ss_pr h36 this 11 7 r32).bind fun h37 =>
    ss_b2 (ss_no h37 9 0 0 5) fun r38 h39 =>
    (ss_gr h39 this 11 4).bind fun r40 =>
    (ss_gr h39 this 11 3).bind fun r41 =>
    (ss_gr h39 this 11 7).bind fun r42 =>
    (mm_F_init N r38 r40 r41 r42 h39).bind fun h43 =>
    (ss_pr h43 this 11 8 r38).bind fun h44 =>
    ss_b2 (ss_no h44 10 0 0 5) fun r45 h46 =>
    (ss_gr h46 this 11 4).bind fun r47 =>
    (ss_gr h46 this 11 7).bind fun r48 =>
    (mm_P_init N r45 r47 r48 h46).bind fun h49 =>
    (ss_pr h49 this 11 9 r45).bind fun h50 =>
    some h50
  else none
abbrev ww_S_init (p : Program) (l : Launch) (e : Env) (s : State) (m : MethodId) (below : List Frame) (meth : Method) (c : Code) (G : ss_G) (this : Option Nat) (h : ss_Hp) (hh : ss_Hp) (H : Heap) (locs : List Loc) (k n : Nat) (g : JFrame) : Prop := W p l e (headSpec (ss_w yy_S_init bb_S_init 1 none) ({ frames := 4, cells := 109, slots := 2163, locals := 142 })).room s m ([ss_v (ss_b G) this] : List Value).toArray below meth c H locs k n (MQ below (ss_Qc G none hh) ([ss_v (ss_b G) this] : List Value).toArray s 109 2163 (ss_A G)) g
theorem ck_S_init {N : Nat} {this : Option Nat} {h : ss_Hp} {res : ss_Hp} (hm : mm_S_init N this h = some res) : ss_is h this 11 = true := (ss_chk hm).1
set_option maxHeartbeats 4000000 in
set_option maxRecDepth 100000 in
theorem cc_S_init (l : Launch) (G : ss_G) (N : Nat) (this : Option Nat) (h : ss_Hp) (hh : ss_Hp) (hm : mm_S_init N this h = some hh) : ss_Ct l G yy_S_init bb_S_init 1 none ({ frames := 4, cells := 109, slots := 2163, locals := 142 }) [ss_v (ss_b G) this] h none hh := by
  obtain ⟨hck, hm⟩ := ss_chk hm
  refine Met.ofW (cc := bb_S_init) (maxL := 1) (ret := none) (by decide) rfl ?_
  intro p e s m args below meth c s₁ B hml hv
  obtain ⟨rfl, hR, hK⟩ := hv
  have hC : CallFix p m c bb_S_init 1 s _ lw_g sR_11 := ⟨B.exec, B.bytes, hml, findClass_of_methodNamed B.named, fun w hw => atoms_spec (ws := ss_w yy_S_init bb_S_init 1 none) B.pre w (List.mem_cons_of_mem _ hw)⟩
  have hx := hC.1
  have hb := hC.2.1
  have hr := B.returns
  have hlocks := B.notSynchronized
  have hin : meth.name = "<init>" := (name_of_methodNamed B.named B.method).1
  have hS : va_S (ss_A G) s.heap s.heap [] := va_S.rf
  have hl := lv_entry ([ss_v (ss_b G) this]) (n := 1) (by simp [lg_sl, ss_v_cat, ss_cat_i, ss_cat_l, ss_cat_r])
  rw [lg_entry_eq]
  generalize (lg_sl ([ss_v (ss_b G) this]) ++ List.replicate (1 - (lg_sl ([ss_v (ss_b G) this])).length) Slot.unset).toArray = ls at hl ⊢
  have hl : lv_has ls 1 [(0, ss_v (ss_b G) this)] := by simpa [lv_args, ss_v_cat, ss_cat_i, ss_cat_l, ss_cat_r] using hl
  refine ss_aload_n hx hb dd_S_init_0 rfl (lv_at hl 0 rfl) ?_
  obtain ⟨_, hck1⟩ := ss_isSome hck
  refine ss_init hC hl.1 kj_S_1 kj_oi kj_oc hck1 (Nat.le_of_ble_eq_true rfl) (Nat.le_of_ble_eq_true rfl) (Nat.le_of_ble_eq_true rfl) dd_S_init_1 ?_
  refine ss_aload_n hx hb dd_S_init_4 rfl (lv_at hl 0 rfl) ?_
  obtain ⟨r1, h2, qh2, hm⟩ := ss_bind2 hm
  refine ss_newo (N := 6) hC hK hR hS rfl kn_S_7 rfl qh2 (Nat.le_of_ble_eq_true rfl) (Nat.le_of_ble_eq_true rfl) dd_S_init_5 (fun H hR hS => ?_)
  refine W.widen (k := 1) (n := 6) (Nat.le_of_ble_eq_true rfl) (Nat.le_of_ble_eq_true rfl) ?_
  refine ss_dupr hx hb dd_S_init_8 ?_
  obtain ⟨h3, qh3, hm⟩ := ss_bind hm
  refine ss_cN 2 406 (As := []) hC hK hR hS hl.1 (cc_T_init l G N _ _ _ qh3) km_S_9 (ck_T_init qh3) ⟨Nat.le_of_ble_eq_true rfl, Nat.le_of_ble_eq_true rfl⟩ ⟨Nat.le_of_ble_eq_true rfl, Nat.le_of_ble_eq_true rfl, Nat.le_of_ble_eq_true rfl, Nat.le_of_ble_eq_true rfl⟩ rfl rfl (by simp [ss_v_cat, ss_cat_i, ss_cat_l, ss_cat_r]) dd_S_init_9 (fun H locs hR hS => ?_)
  obtain ⟨h4, qh4, hm⟩ := ss_bind hm
  refine ss_putrF hC hK hR hS hin kq_S_10 rfl (Or.inl ⟨_, rfl⟩) qh4 dd_S_init_12 (fun H locs hR hS => ?_)
  refine ss_aload_n hx hb dd_S_init_15 rfl (lv_at hl 0 rfl) ?_
  obtain ⟨r5, h6, qh6, hm⟩ := ss_bind2 hm
  refine ss_newo (N := 2) hC hK hR hS rfl kn_S_16 rfl qh6 (Nat.le_of_ble_eq_true rfl) (Nat.le_of_ble_eq_true rfl) dd_S_init_16 (fun H hR hS => ?_)
  refine W.widen (k := 3) (n := 408) (Nat.le_of_ble_eq_true rfl) (Nat.le_of_ble_eq_true rfl) ?_
  refine ss_dupr hx hb dd_S_init_19 ?_
  refine ss_aload_n hx hb dd_S_init_20 rfl (lv_at hl 0 rfl) ?_
  obtain ⟨r7, qr7, hm⟩ := ss_bind hm
  refine ss_getr hC hK hR kf_S_10 rfl qr7 dd_S_init_21 ?_
  obtain ⟨h8, qh8, hm⟩ := ss_bind hm
  refine ss_cI 11 464 (As := [ss_v (ss_b G) r7]) hC hK hR hS hl.1 (cc_VR_init l G N _ _ _ _ qh8) km_S_18 (ck_VR_init qh8) ⟨Nat.le_of_ble_eq_true rfl, Nat.le_of_ble_eq_true rfl⟩ ⟨Nat.le_of_ble_eq_true rfl, Nat.le_of_ble_eq_true rfl, Nat.le_of_ble_eq_true rfl, Nat.le_of_ble_eq_true rfl⟩ rfl rfl (by simp [ss_v_cat, ss_cat_i, ss_cat_l, ss_cat_r]) dd_S_init_24 (fun H locs hR hS => ?_)
  obtain ⟨h9, qh9, hm⟩ := ss_bind hm
  refine ss_putrF hC hK hR hS hin kq_S_21 rfl (Or.inl ⟨_, rfl⟩) qh9 dd_S_init_27 (fun H locs hR hS => ?_)
  refine ss_aload_n hx hb dd_S_init_30 rfl (lv_at hl 0 rfl) ?_
  obtain ⟨r10, h11, qh11, hm⟩ := ss_bind2 hm
  refine ss_newo (N := 6) hC hK hR hS rfl kn_S_25 rfl qh11 (Nat.le_of_ble_eq_true rfl) (Nat.le_of_ble_eq_true rfl) dd_S_init_31 (fun H hR hS => ?_)
  refine W.widen (k := 12) (n := 470) (Nat.le_of_ble_eq_true rfl) (Nat.le_of_ble_eq_true rfl) ?_
  refine ss_dupr hx hb dd_S_init_34 ?_
  refine ss_aload_n hx hb dd_S_init_35 rfl (lv_at hl 0 rfl) ?_
  obtain ⟨r12, qr12, hm⟩ := ss_bind hm
  refine ss_getr hC hK hR kf_S_10 rfl qr12 dd_S_init_36 ?_
  obtain ⟨h13, qh13, hm⟩ := ss_bind hm
  refine ss_cI 14 895 (As := [ss_v (ss_b G) r12]) hC hK hR hS hl.1 (cc_RR_init l G N _ _ _ _ qh13) km_S_27 (ck_RR_init qh13) ⟨Nat.le_of_ble_eq_true rfl, Nat.le_of_ble_eq_true rfl⟩ ⟨Nat.le_of_ble_eq_true rfl, Nat.le_of_ble_eq_true rfl, Nat.le_of_ble_eq_true rfl, Nat.le_of_ble_eq_true rfl⟩ rfl rfl (by simp [ss_v_cat, ss_cat_i, ss_cat_l, ss_cat_r]) dd_S_init_39 (fun H locs hR hS => ?_)
  obtain ⟨h14, qh14, hm⟩ := ss_bind hm
  refine ss_putrF hC hK hR hS hin kq_S_28 rfl (Or.inl ⟨_, rfl⟩) qh14 dd_S_init_42 (fun H locs hR hS => ?_)
  refine ss_aload_n hx hb dd_S_init_45 rfl (lv_at hl 0 rfl) ?_
  refine lv_bipush (v := 6) hx hb dd_S_init_46 (by decide) ?_
  obtain ⟨r15, h16, qh16, hm⟩ := ss_bind2 hm
  refine ss_newaq hC hK hR hS ka_S_32 hK.2.1.2.1 (t0 := 5) rfl (by decide) qh16 (by decide) (Nat.le_of_ble_eq_true rfl) (Nat.le_of_ble_eq_true rfl) dd_S_init_48 (fun H hR hS => ?_)
  refine W.widen (k := 15) (n := 901) (Nat.le_of_ble_eq_true rfl) (Nat.le_of_ble_eq_true rfl) ?_
  obtain ⟨h17, qh17, hm⟩ := ss_bind hm
  refine ss_putrF hC hK hR hS hin kq_S_34 rfl (Or.inr ⟨_, rfl⟩) qh17 dd_S_init_51 (fun H locs hR hS => ?_)
  refine ss_aload_n hx hb dd_S_init_54 rfl (lv_at hl 0 rfl) ?_
  obtain ⟨r18, h19, qh19, hm⟩ := ss_bind2 hm
  refine ss_newo (N := 8) hC hK hR hS rfl kn_S_38 rfl qh19 (Nat.le_of_ble_eq_true rfl) (Nat.le_of_ble_eq_true rfl) dd_S_init_55 (fun H hR hS => ?_)
  refine W.widen (k := 16) (n := 909) (Nat.le_of_ble_eq_true rfl) (Nat.le_of_ble_eq_true rfl) ?_
  refine ss_dupr hx hb dd_S_init_58 ?_
  obtain ⟨r20, h21, qh21, hm⟩ := ss_bind2 hm
  refine ss_newo (N := 10) hC hK hR hS rfl kn_S_40 rfl qh21 (Nat.le_of_ble_eq_true rfl) (Nat.le_of_ble_eq_true rfl) dd_S_init_59 (fun H hR hS => ?_)
  refine W.widen (k := 17) (n := 919) (Nat.le_of_ble_eq_true rfl) (Nat.le_of_ble_eq_true rfl) ?_
  refine ss_dupr hx hb dd_S_init_62 ?_
  obtain ⟨h22, qh22, hm⟩ := ss_bind hm
  refine ss_cN 24 965 (As := []) hC hK hR hS hl.1 (cc_V_init l G N _ _ _ qh22) km_S_42 (ck_V_init qh22) ⟨Nat.le_of_ble_eq_true rfl, Nat.le_of_ble_eq_true rfl⟩ ⟨Nat.le_of_ble_eq_true rfl, Nat.le_of_ble_eq_true rfl, Nat.le_of_ble_eq_true rfl, Nat.le_of_ble_eq_true rfl⟩ rfl rfl (by simp [ss_v_cat, ss_cat_i, ss_cat_l, ss_cat_r]) dd_S_init_63 (fun H locs hR hS => ?_)
  obtain ⟨h23, qh23, hm⟩ := ss_bind hm
  refine ss_cI 30 1017 (As := [ss_v (ss_b G) r20]) hC hK hR hS hl.1 (cc_Wo_init l G N _ _ _ _ qh23) km_S_43 (ck_Wo_init qh23) ⟨Nat.le_of_ble_eq_true rfl, Nat.le_of_ble_eq_true rfl⟩ ⟨Nat.le_of_ble_eq_true rfl, Nat.le_of_ble_eq_true rfl, Nat.le_of_ble_eq_true rfl, Nat.le_of_ble_eq_true rfl⟩ rfl rfl (by simp [ss_v_cat, ss_cat_i, ss_cat_l, ss_cat_r]) dd_S_init_66 (fun H locs hR hS => ?_)
  obtain ⟨h24, qh24, hm⟩ := ss_bind hm
  refine ss_putrF hC hK hR hS hin kq_S_46 rfl (Or.inl ⟨_, rfl⟩) qh24 dd_S_init_69 (fun H locs hR hS => ?_)
  refine ss_aload_n hx hb dd_S_init_72 rfl (lv_at hl 0 rfl) ?_
  refine lv_iconst (v := 4) hx hb dd_S_init_73 (by decide) ?_
  obtain ⟨r25, h26, qh26, hm⟩ := ss_bind2 hm
  refine ss_newaq hC hK hR hS ka_S_38 hK.2.1.2.2 (t0 := 6) rfl (by decide) qh26 (by decide) (Nat.le_of_ble_eq_true rfl) (Nat.le_of_ble_eq_true rfl) dd_S_init_74 (fun H hR hS => ?_)
  refine W.widen (k := 31) (n := 1021) (Nat.le_of_ble_eq_true rfl) (Nat.le_of_ble_eq_true rfl) ?_
  obtain ⟨h27, qh27, hm⟩ := ss_bind hm
  refine ss_putrF hC hK hR hS hin kq_S_50 rfl (Or.inr ⟨_, rfl⟩) qh27 dd_S_init_77 (fun H locs hR hS => ?_)
  refine ss_aload_n hx hb dd_S_init_80 rfl (lv_at hl 0 rfl) ?_
  obtain ⟨r28, h29, qh29, hm⟩ := ss_bind2 hm
  refine ss_newo (N := 3) hC hK hR hS rfl kn_S_54 rfl qh29 (Nat.le_of_ble_eq_true rfl) (Nat.le_of_ble_eq_true rfl) dd_S_init_81 (fun H hR hS => ?_)
  refine W.widen (k := 32) (n := 1024) (Nat.le_of_ble_eq_true rfl) (Nat.le_of_ble_eq_true rfl) ?_
  refine ss_dupr hx hb dd_S_init_84 ?_
  obtain ⟨h30, qh30, hm⟩ := ss_bind hm
  refine ss_cI 93 1484 (As := []) hC hK hR hS hl.1 (cc_A_init l G N _ _ _ qh30) km_S_56 (ck_A_init qh30) ⟨Nat.le_of_ble_eq_true rfl, Nat.le_of_ble_eq_true rfl⟩ ⟨Nat.le_of_ble_eq_true rfl, Nat.le_of_ble_eq_true rfl, Nat.le_of_ble_eq_true rfl, Nat.le_of_ble_eq_true rfl⟩ rfl rfl (by simp [ss_v_cat, ss_cat_i, ss_cat_l, ss_cat_r]) dd_S_init_85 (fun H locs hR hS => ?_)
  obtain ⟨h31, qh31, hm⟩ := ss_bind hm
  refine ss_putrF hC hK hR hS hin kq_S_57 rfl (Or.inl ⟨_, rfl⟩) qh31 dd_S_init_88 (fun H locs hR hS => ?_)
  refine ss_aload_n hx hb dd_S_init_91 rfl (lv_at hl 0 rfl) ?_
  obtain ⟨r32, h33, qh33, hm⟩ := ss_bind2 hm
  refine ss_newo (N := 8) hC hK hR hS rfl kn_S_61 rfl qh33 (Nat.le_of_ble_eq_true rfl) (Nat.le_of_ble_eq_true rfl) dd_S_init_92 (fun H hR hS => ?_)
  refine W.widen (k := 94) (n := 1492) (Nat.le_of_ble_eq_true rfl) (Nat.le_of_ble_eq_true rfl) ?_
  refine ss_dupr hx hb dd_S_init_95 ?_
  refine ss_aload_n hx hb dd_S_init_96 rfl (lv_at hl 0 rfl) ?_
  obtain ⟨r34, qr34, hm⟩ := ss_bind hm
  refine ss_getr hC hK hR kf_S_46 rfl qr34 dd_S_init_97 ?_
  obtain ⟨r35, qr35, hm⟩ := ss_bind hm
  refine ss_getr hC hK hR kf_S_63 rfl qr35 dd_S_init_100 ?_
  obtain ⟨h36, qh36, hm⟩ := ss_bind hm
  refine ss_cI 102 1578 (As := [ss_v (ss_b G) r35]) hC hK hR hS hl.1 (cc_Wi_init l G N _ _ _ _ qh36) km_S_67 (ck_Wi_init qh36) ⟨Nat.le_of_ble_eq_true rfl, Nat.le_of_ble_eq_true rfl⟩ ⟨Nat.le_of_ble_eq_true rfl, Nat.le_of_ble_eq_true rfl, Nat.le_of_ble_eq_true rfl, Nat.le_of_ble_eq_true rfl⟩ rfl rfl (by simp [ss_v_cat, ss_cat_i, ss_cat_l, ss_cat_r]) dd_S_init_103 (fun H locs hR hS => ?_)
  obtain ⟨h37, qh37, hm⟩ := ss_bind hm
  refine ss_putrF hC hK hR hS hin kq_S_68 rfl (Or.inl ⟨_, rfl⟩) qh37 dd_S_init_106 (fun H locs hR hS => ?_)
  refine ss_aload_n hx hb dd_S_init_109 rfl (lv_at hl 0 rfl) ?_
  obtain ⟨r38, h39, qh39, hm⟩ := ss_bind2 hm
  refine ss_newo (N := 5) hC hK hR hS rfl kn_S_72 rfl qh39 (Nat.le_of_ble_eq_true rfl) (Nat.le_of_ble_eq_true rfl) dd_S_init_110 (fun H hR hS => ?_)
  refine W.widen (k := 103) (n := 1583) (Nat.le_of_ble_eq_true rfl) (Nat.le_of_ble_eq_true rfl) ?_
  refine ss_dupr hx hb dd_S_init_113 ?_
  refine ss_aload_n hx hb dd_S_init_114 rfl (lv_at hl 0 rfl) ?_
  obtain ⟨r40, qr40, hm⟩ := ss_bind hm
  refine ss_getr hC hK hR kf_S_46 rfl qr40 dd_S_init_115 ?_
  refine ss_aload_n hx hb dd_S_init_118 rfl (lv_at hl 0 rfl) ?_
  obtain ⟨r41, qr41, hm⟩ := ss_bind hm
  refine ss_getr hC hK hR kf_S_34 rfl qr41 dd_S_init_119 ?_
  refine ss_aload_n hx hb dd_S_init_122 rfl (lv_at hl 0 rfl) ?_
  obtain ⟨r42, qr42, hm⟩ := ss_bind hm
  refine ss_getr hC hK hR kf_S_68 rfl qr42 dd_S_init_123 ?_
  obtain ⟨h43, qh43, hm⟩ := ss_bind hm
  refine ss_cI 105 2078 (As := [ss_v (ss_b G) r40, ss_v (ss_b G) r41, ss_v (ss_b G) r42]) hC hK hR hS hl.1 (cc_F_init l G N _ _ _ _ _ _ qh43) km_S_74 (ck_F_init qh43) ⟨Nat.le_of_ble_eq_true rfl, Nat.le_of_ble_eq_true rfl⟩ ⟨Nat.le_of_ble_eq_true rfl, Nat.le_of_ble_eq_true rfl, Nat.le_of_ble_eq_true rfl, Nat.le_of_ble_eq_true rfl⟩ rfl rfl (by simp [ss_v_cat, ss_cat_i, ss_cat_l, ss_cat_r]) dd_S_init_126 (fun H locs hR hS => ?_)
  obtain ⟨h44, qh44, hm⟩ := ss_bind hm
  refine ss_putrF hC hK hR hS hin kq_S_77 rfl (Or.inl ⟨_, rfl⟩) qh44 dd_S_init_129 (fun H locs hR hS => ?_)
  refine ss_aload_n hx hb dd_S_init_132 rfl (lv_at hl 0 rfl) ?_
  obtain ⟨r45, h46, qh46, hm⟩ := ss_bind2 hm
  refine ss_newo (N := 5) hC hK hR hS rfl kn_S_81 rfl qh46 (Nat.le_of_ble_eq_true rfl) (Nat.le_of_ble_eq_true rfl) dd_S_init_133 (fun H hR hS => ?_)
  refine W.widen (k := 106) (n := 2083) (Nat.le_of_ble_eq_true rfl) (Nat.le_of_ble_eq_true rfl) ?_
  refine ss_dupr hx hb dd_S_init_136 ?_
  refine ss_aload_n hx hb dd_S_init_137 rfl (lv_at hl 0 rfl) ?_
  obtain ⟨r47, qr47, hm⟩ := ss_bind hm
  refine ss_getr hC hK hR kf_S_46 rfl qr47 dd_S_init_138 ?_
  refine ss_aload_n hx hb dd_S_init_141 rfl (lv_at hl 0 rfl) ?_
  obtain ⟨r48, qr48, hm⟩ := ss_bind hm
  refine ss_getr hC hK hR kf_S_68 rfl qr48 dd_S_init_142 ?_
  obtain ⟨h49, qh49, hm⟩ := ss_bind hm
  refine ss_cI 109 2163 (As := [ss_v (ss_b G) r47, ss_v (ss_b G) r48]) hC hK hR hS hl.1 (cc_P_init l G N _ _ _ _ _ qh49) km_S_83 (ck_P_init qh49) ⟨Nat.le_of_ble_eq_true rfl, Nat.le_of_ble_eq_true rfl⟩ ⟨Nat.le_of_ble_eq_true rfl, Nat.le_of_ble_eq_true rfl, Nat.le_of_ble_eq_true rfl, Nat.le_of_ble_eq_true rfl⟩ rfl rfl (by simp [ss_v_cat, ss_cat_i, ss_cat_l, ss_cat_r]) dd_S_init_145 (fun H locs hR hS => ?_)
  obtain ⟨h50, qh50, hm⟩ := ss_bind hm
  refine ss_putrF hC hK hR hS hin kq_S_86 rfl (Or.inl ⟨_, rfl⟩) qh50 dd_S_init_148 (fun H locs hR hS => ?_)
  exact ss_vret hC hr hlocks hR hS hm dd_S_init_151
theorem dd_T_put_0 : decode bb_T_put 0 = .ok (.bipush 24, 2) := by decide +kernel
theorem dd_T_put_2 : decode bb_T_put 2 = .ok (.istore_n 2, 1) := by decide +kernel
theorem dd_T_put_3 : decode bb_T_put 3 = .ok (.iload_n 2, 1) := by decide +kernel
theorem dd_T_put_4 : decode bb_T_put 4 = .ok (.ifCond .lt 45, 3) := by decide +kernel
theorem dd_T_put_7 : decode bb_T_put 7 = .ok (.aload_n 0, 1) := by decide +kernel
theorem dd_T_put_8 : decode bb_T_put 8 = .ok (.getfield 15, 3) := by decide +kernel
theorem dd_T_put_11 : decode bb_T_put 11 = .ok (.sipush 400, 3) := by decide +kernel
theorem dd_T_put_14 : decode bb_T_put 14 = .ok (.if_icmp .ge 35, 3) := by decide +kernel
theorem dd_T_put_17 : decode bb_T_put 17 = .ok (.aload_n 0, 1) := by decide +kernel
theorem dd_T_put_18 : decode bb_T_put 18 = .ok (.getfield 11, 3) := by decide +kernel
theorem dd_T_put_21 : decode bb_T_put 21 = .ok (.aload_n 0, 1) := by decide +kernel
theorem dd_T_put_22 : decode bb_T_put 22 = .ok (.getfield 15, 3) := by decide +kernel
theorem dd_T_put_25 : decode bb_T_put 25 = .ok (.iload_n 1, 1) := by decide +kernel
theorem dd_T_put_26 : decode bb_T_put 26 = .ok (.iload_n 2, 1) := by decide +kernel
theorem dd_T_put_27 : decode bb_T_put 27 = .ok (.ishr, 1) := by decide +kernel
theorem dd_T_put_28 : decode bb_T_put 28 = .ok (.sipush 255, 3) := by decide +kernel
theorem dd_T_put_31 : decode bb_T_put 31 = .ok (.iand, 1) := by decide +kernel
theorem dd_T_put_32 : decode bb_T_put 32 = .ok (.iastore, 1) := by decide +kernel
theorem dd_T_put_33 : decode bb_T_put 33 = .ok (.aload_n 0, 1) := by decide +kernel
theorem dd_T_put_34 : decode bb_T_put 34 = .ok (.dup, 1) := by decide +kernel
theorem dd_T_put_35 : decode bb_T_put 35 = .ok (.getfield 15, 3) := by decide +kernel
theorem dd_T_put_38 : decode bb_T_put 38 = .ok (.iconst 1, 1) := by decide +kernel
theorem dd_T_put_39 : decode bb_T_put 39 = .ok (.iadd, 1) := by decide +kernel
theorem dd_T_put_40 : decode bb_T_put 40 = .ok (.putfield 15, 3) := by decide +kernel
theorem dd_T_put_43 : decode bb_T_put 43 = .ok (.iinc 2 (-8), 3) := by decide +kernel
theorem dd_T_put_46 : decode bb_T_put 46 = .ok (.goto (-43), 3) := by decide +kernel
theorem dd_T_put_49 : decode bb_T_put 49 = .ok (.return_, 1) := by decide +kernel
def mm_T_put_b3 (N : Nat) (this : Option Nat) (a1 : Int32) (st : Int32 × ss_Hp) : Option ((Int32 × ss_Hp) ⊕ ss_Hp) :=
  match st with
  | (x2_3, h_3) =>
    if x2_3 < 0 then
      some (.inr h_3)
    else
      (ss_gi h_3 this 2 0).bind fun v2 =>
      if (400 : Int32) ≤ v2 then
        some (.inr h_3)
      else
        (ss_gr h_3 this 2 0).bind fun r4 =>
        (ss_gi h_3 this 2 0).bind fun v5 =>
        (ss_ui h_3 r4 20 v5 ((a1 >>> (x2_3 &&& 31)) &&& (255 : Int32))).bind fun h6 =>
        (ss_gi h6 this 2 0).bind fun v7 =>
        (ss_pi h6 this 2 0 (v7 + (1 : Int32))).bind fun h8 =>
        (some (x2_3 + (-8 : Int32))).bind fun v9 =>
        some (.inl (v9, h8))
def mm_T_put (N : Nat) (this : Option Nat) (a1 : Int32) (h : ss_Hp) : Option ss_Hp :=
  if ss_is h this 2 = true then
    (ss_lp (mm_T_put_b3 N this a1) N ((24 : Int32), h)).bind fun h_3_49 =>
    some h_3_49
  else none
abbrev ww_T_put (p : Program) (l : Launch) (e : Env) (s : State) (m : MethodId) (below : List Frame) (meth : Method) (c : Code) (G : ss_G) (this : Option Nat) (a1 : Int32) (h : ss_Hp) (hh : ss_Hp) (H : Heap) (locs : List Loc) (k n : Nat) (g : JFrame) : Prop := W p l e (headSpec (ss_w yy_T_put bb_T_put 3 none) ({ frames := 0, cells := 0, slots := 0, locals := 0 })).room s m ([ss_v (ss_b G) this, .int a1] : List Value).toArray below meth c H locs k n (MQ below (ss_Qc G none hh) ([ss_v (ss_b G) this, .int a1] : List Value).toArray s 0 0 (ss_A G)) g
theorem ck_T_put {N : Nat} {this : Option Nat} {a1 : Int32} {h : ss_Hp} {res : ss_Hp} (hm : mm_T_put N this a1 h = some res) : ss_is h this 2 = true := (ss_chk hm).1
set_option maxHeartbeats 4000000 in
set_option maxRecDepth 100000 in
theorem cc_T_put (l : Launch) (G : ss_G) (N : Nat) (this : Option Nat) (a1 : Int32) (h : ss_Hp) (hh : ss_Hp) (hm : mm_T_put N this a1 h = some hh) : ss_Ct l G yy_T_put bb_T_put 3 none ({ frames := 0, cells := 0, slots := 0, locals := 0 }) [ss_v (ss_b G) this, .int a1] h none hh := by
  obtain ⟨hck, hm⟩ := ss_chk hm
  refine Met.ofW (cc := bb_T_put) (maxL := 3) (ret := none) (by decide) rfl ?_
  intro p e s m args below meth c s₁ B hml hv
  obtain ⟨rfl, hR, hK⟩ := hv
  have hC : CallFix p m c bb_T_put 3 s _ lw_g sR_2 := ⟨B.exec, B.bytes, hml, findClass_of_methodNamed B.named, fun w hw => atoms_spec (ws := ss_w yy_T_put bb_T_put 3 none) B.pre w (List.mem_cons_of_mem _ hw)⟩
  have hx := hC.1
  have hb := hC.2.1
  have hr := B.returns
  have hlocks := B.notSynchronized
  have hS : va_S (ss_A G) s.heap s.heap [] := va_S.rf
  have hl := lv_entry ([ss_v (ss_b G) this, .int a1]) (n := 3) (by simp [lg_sl, ss_v_cat, ss_cat_i, ss_cat_l, ss_cat_r])
  rw [lg_entry_eq]
  generalize (lg_sl ([ss_v (ss_b G) this, .int a1]) ++ List.replicate (3 - (lg_sl ([ss_v (ss_b G) this, .int a1])).length) Slot.unset).toArray = ls at hl ⊢
  have hl : lv_has ls 3 [(0, ss_v (ss_b G) this), (1, .int a1)] := by simpa [lv_args, ss_v_cat, ss_cat_i, ss_cat_l, ss_cat_r] using hl
  refine lv_bipush (v := 24) hx hb dd_T_put_0 (by decide) ?_
  refine lv_istore_n (lv' := [(2, .int (24 : Int32)), (0, ss_v (ss_b G) this), (1, .int a1)]) hx hb dd_T_put_2 rfl hl (by decide) rfl (fun ls hl => ?_)
  obtain ⟨e_3, he_3, hm⟩ := ss_bind hm
  have X_3_49 : ∀  (h_3_49 : ss_Hp) (H : Heap) (locs : List Loc) (ls : Array Slot), e_3 = h_3_49 → ss_R G h_3_49 H → va_S (ss_A G) s.heap H locs → lv_has ls 3 [] → ww_T_put p l e s m below meth c G this a1 h hh  H locs 0 0 (F0 m 49 ls []) := by
    intro h_3_49 H locs ls hq hR hS hl
    rw [hq] at hm
    exact ss_vret hC hr hlocks hR hS hm dd_T_put_49
  have L_3 : ∀ (n : Nat) (x2_3 : Int32) (h_3 : ss_Hp) (H : Heap) (locs : List Loc) (ls : Array Slot), ss_lp (mm_T_put_b3 N this a1) n (x2_3, h_3) = some e_3 → ss_R G h_3 H → va_S (ss_A G) s.heap H locs → lv_has ls 3 [(0, ss_v (ss_b G) this), (1, .int a1), (2, .int x2_3)] → ww_T_put p l e s m below meth c G this a1 h hh  H locs 0 0 (F0 m 3 ls []) := by
    intro n
    induction n with
    | zero => intro x2_3 h_3 H locs ls hm; cases hm
    | succ n ih_3 =>
      intro x2_3 h_3 H locs ls hm hR hS hl
      obtain ⟨z_3, hm, hz1_3, hz2_3⟩ := ss_lps hm
      refine lv_iload_n hx hb dd_T_put_3 rfl (lv_at hl 2 rfl) ?_
      refine lv_if_lt (tgt := 49) hx hb dd_T_put_4 (by decide) (fun c1 => ?_) (fun c1 => ?_)
      · have hm := ss_ift hm c1
        exact X_3_49 h_3 _ _ _ (hz2_3 _ (ss_some hm)) hR hS (lv_sub hl [] rfl)
      · have hm := ss_iff hm c1
        refine ss_aload_n hx hb dd_T_put_7 rfl (lv_at hl 0 rfl) ?_
        obtain ⟨v2, qv2, hm⟩ := ss_bind hm
        refine ss_geti hC hK hR kf_T_15 qv2 dd_T_put_8 ?_
        refine lv_sipush (v := 400) hx hb dd_T_put_11 (by decide) ?_
        refine lv_icmp_ge (tgt := 49) hx hb dd_T_put_14 (by decide) (fun c3 => ?_) (fun c3 => ?_)
        · have hm := ss_ift hm c3
          exact X_3_49 h_3 _ _ _ (hz2_3 _ (ss_some hm)) hR hS (lv_sub hl [] rfl)
        · have hm := ss_iff hm c3
          refine ss_aload_n hx hb dd_T_put_17 rfl (lv_at hl 0 rfl) ?_
          obtain ⟨r4, qr4, hm⟩ := ss_bind hm
          refine ss_getr hC hK hR kf_T_11 rfl qr4 dd_T_put_18 ?_
          refine ss_aload_n hx hb dd_T_put_21 rfl (lv_at hl 0 rfl) ?_
          obtain ⟨v5, qv5, hm⟩ := ss_bind hm
          refine ss_geti hC hK hR kf_T_15 qv5 dd_T_put_22 ?_
          refine lv_iload_n hx hb dd_T_put_25 rfl (lv_at hl 1 rfl) ?_
          refine lv_iload_n hx hb dd_T_put_26 rfl (lv_at hl 2 rfl) ?_
          refine lv_ishr hx hb dd_T_put_27 ?_
          refine lv_sipush (v := 255) hx hb dd_T_put_28 (by decide) ?_
          refine lv_iand hx hb dd_T_put_31 ?_
          obtain ⟨h6, qh6, hm⟩ := ss_bind hm
          refine ss_iast hC hK hR hS qh6 dd_T_put_32 (fun H locs hR hS => ?_)
          refine ss_aload_n hx hb dd_T_put_33 rfl (lv_at hl 0 rfl) ?_
          refine ss_dupr hx hb dd_T_put_34 ?_
          obtain ⟨v7, qv7, hm⟩ := ss_bind hm
          refine ss_geti hC hK hR kf_T_15 qv7 dd_T_put_35 ?_
          refine lv_iconst (v := 1) hx hb dd_T_put_38 (by decide) ?_
          refine lv_iadd hx hb dd_T_put_39 ?_
          obtain ⟨h8, qh8, hm⟩ := ss_bind hm
          refine ss_puti hC hK hR hS kp_T_15 qh8 dd_T_put_40 (fun H locs hR hS => ?_)
          obtain ⟨v9, qv9, hm⟩ := ss_bind hm
          refine lv_iinc (v := v9) (lv' := [(2, .int v9), (0, ss_v (ss_b G) this), (1, .int a1)]) hx hb dd_T_put_43 hl (k := 2) rfl (ss_inc (by decide) qv9) (by decide) rfl (fun ls hl => ?_)
          refine lv_goto (tgt := 3) hx hb dd_T_put_46 (by decide) ?_
          exact ih_3 v9 h8 _ _ _ (hz1_3 _ (ss_some hm)) hR hS (lv_sub hl [1, 2, 0] rfl)
  exact L_3 N (24 : Int32) h _ _ _ he_3 hR hS (lv_sub hl [1, 2, 0] rfl)
theorem dd_S_feed_0 : decode bb_S_feed 0 = .ok (.aload_n 0, 1) := by decide +kernel
theorem dd_S_feed_1 : decode bb_S_feed 1 = .ok (.getfield 10, 3) := by decide +kernel
theorem dd_S_feed_4 : decode bb_S_feed 4 = .ok (.getfield 90, 3) := by decide +kernel
theorem dd_S_feed_7 : decode bb_S_feed 7 = .ok (.sipush 380, 3) := by decide +kernel
theorem dd_S_feed_10 : decode bb_S_feed 10 = .ok (.if_icmp .le 5, 3) := by decide +kernel
theorem dd_S_feed_13 : decode bb_S_feed 13 = .ok (.iconst (-1), 1) := by decide +kernel
theorem dd_S_feed_14 : decode bb_S_feed 14 = .ok (.ireturn, 1) := by decide +kernel
theorem dd_S_feed_15 : decode bb_S_feed 15 = .ok (.aload_n 0, 1) := by decide +kernel
theorem dd_S_feed_16 : decode bb_S_feed 16 = .ok (.getfield 10, 3) := by decide +kernel
theorem dd_S_feed_19 : decode bb_S_feed 19 = .ok (.iload_n 1, 1) := by decide +kernel
theorem dd_S_feed_20 : decode bb_S_feed 20 = .ok (.invokevirtual 94, 3) := by decide +kernel
theorem dd_S_feed_23 : decode bb_S_feed 23 = .ok (.aload_n 0, 1) := by decide +kernel
theorem dd_S_feed_24 : decode bb_S_feed 24 = .ok (.getfield 10, 3) := by decide +kernel
theorem dd_S_feed_27 : decode bb_S_feed 27 = .ok (.iload_n 2, 1) := by decide +kernel
theorem dd_S_feed_28 : decode bb_S_feed 28 = .ok (.invokevirtual 94, 3) := by decide +kernel
theorem dd_S_feed_31 : decode bb_S_feed 31 = .ok (.aload_n 0, 1) := by decide +kernel
theorem dd_S_feed_32 : decode bb_S_feed 32 = .ok (.getfield 10, 3) := by decide +kernel
theorem dd_S_feed_35 : decode bb_S_feed 35 = .ok (.iload_n 3, 1) := by decide +kernel
theorem dd_S_feed_36 : decode bb_S_feed 36 = .ok (.invokevirtual 94, 3) := by decide +kernel
theorem dd_S_feed_39 : decode bb_S_feed 39 = .ok (.aload_n 0, 1) := by decide +kernel
theorem dd_S_feed_40 : decode bb_S_feed 40 = .ok (.getfield 10, 3) := by decide +kernel
theorem dd_S_feed_43 : decode bb_S_feed 43 = .ok (.iload 4, 2) := by decide +kernel
theorem dd_S_feed_45 : decode bb_S_feed 45 = .ok (.invokevirtual 94, 3) := by decide +kernel
theorem dd_S_feed_48 : decode bb_S_feed 48 = .ok (.aload_n 0, 1) := by decide +kernel
theorem dd_S_feed_49 : decode bb_S_feed 49 = .ok (.getfield 10, 3) := by decide +kernel
theorem dd_S_feed_52 : decode bb_S_feed 52 = .ok (.iload 5, 2) := by decide +kernel
theorem dd_S_feed_54 : decode bb_S_feed 54 = .ok (.invokevirtual 94, 3) := by decide +kernel
theorem dd_S_feed_57 : decode bb_S_feed 57 = .ok (.aload_n 0, 1) := by decide +kernel
theorem dd_S_feed_58 : decode bb_S_feed 58 = .ok (.getfield 10, 3) := by decide +kernel
theorem dd_S_feed_61 : decode bb_S_feed 61 = .ok (.getfield 90, 3) := by decide +kernel
theorem dd_S_feed_64 : decode bb_S_feed 64 = .ok (.ireturn, 1) := by decide +kernel
def mm_S_feed (N : Nat) (this : Option Nat) (a1 : Int32) (a2 : Int32) (a3 : Int32) (a4 : Int32) (a5 : Int32) (h : ss_Hp) : Option (Int32 × ss_Hp) :=
  if ss_is h this 11 = true then
    (ss_gr h this 11 0).bind fun r1 =>
    (ss_gi h r1 2 0).bind fun v2 =>
    if v2 ≤ (380 : Int32) then
      (ss_gr h this 11 0).bind fun r4 =>
      (mm_T_put N r4 a1 h).bind fun h5 =>
      (ss_gr h5 this 11 0).bind fun r6 =>
      (mm_T_put N r6 a2 h5).bind fun h7 =>
      (ss_gr h7 this 11 0).bind fun r8 =>
      (mm_T_put N r8 a3 h7).bind fun h9 =>
      (ss_gr h9 this 11 0).bind fun r10 =>
      (mm_T_put N r10 a4 h9).bind fun h11 =>
      (ss_gr h11 this 11 0).bind fun r12 =>
      (mm_T_put N r12 a5 h11).bind fun h13 =>
      (ss_gr h13 this 11 0).bind fun r14 =>
      (ss_gi h13 r14 2 0).bind fun v15 =>
      some (v15, h13)
    else
      some ((-1 : Int32), h)
  else none
abbrev ww_S_feed (p : Program) (l : Launch) (e : Env) (s : State) (m : MethodId) (below : List Frame) (meth : Method) (c : Code) (G : ss_G) (this : Option Nat) (a1 : Int32) (a2 : Int32) (a3 : Int32) (a4 : Int32) (a5 : Int32) (h : ss_Hp) (rr : Int32) (hh : ss_Hp) (H : Heap) (locs : List Loc) (k n : Nat) (g : JFrame) : Prop := W p l e (headSpec (ss_w yy_S_feed bb_S_feed 6 (some (.int))) ({ frames := 1, cells := 0, slots := 0, locals := 22 })).room s m ([ss_v (ss_b G) this, .int a1, .int a2, .int a3, .int a4, .int a5] : List Value).toArray below meth c H locs k n (MQ below (ss_Qc G (some (.int rr)) hh) ([ss_v (ss_b G) this, .int a1, .int a2, .int a3, .int a4, .int a5] : List Value).toArray s 0 0 (ss_A G)) g
theorem ck_S_feed {N : Nat} {this : Option Nat} {a1 : Int32} {a2 : Int32} {a3 : Int32} {a4 : Int32} {a5 : Int32} {h : ss_Hp} {res : Int32 × ss_Hp} (hm : mm_S_feed N this a1 a2 a3 a4 a5 h = some res) : ss_is h this 11 = true := (ss_chk hm).1
set_option maxHeartbeats 4000000 in
set_option maxRecDepth 100000 in
theorem cc_S_feed (l : Launch) (G : ss_G) (N : Nat) (this : Option Nat) (a1 : Int32) (a2 : Int32) (a3 : Int32) (a4 : Int32) (a5 : Int32) (h : ss_Hp) (rr : Int32) (hh : ss_Hp) (hm : mm_S_feed N this a1 a2 a3 a4 a5 h = some (rr, hh)) : ss_Ct l G yy_S_feed bb_S_feed 6 (some (.int)) ({ frames := 1, cells := 0, slots := 0, locals := 22 }) [ss_v (ss_b G) this, .int a1, .int a2, .int a3, .int a4, .int a5] h (some (.int rr)) hh := by
  obtain ⟨hck, hm⟩ := ss_chk hm
  refine Met.ofW (cc := bb_S_feed) (maxL := 6) (ret := (some (.int))) (by decide) rfl ?_
  intro p e s m args below meth c s₁ B hml hv
  obtain ⟨rfl, hR, hK⟩ := hv
  have hC : CallFix p m c bb_S_feed 6 s _ lw_g sR_11 := ⟨B.exec, B.bytes, hml, findClass_of_methodNamed B.named, fun w hw => atoms_spec (ws := ss_w yy_S_feed bb_S_feed 6 (some (.int))) B.pre w (List.mem_cons_of_mem _ hw)⟩
  have hx := hC.1
  have hb := hC.2.1
  have hr := B.returns
  have hlocks := B.notSynchronized
  have hS : va_S (ss_A G) s.heap s.heap [] := va_S.rf
  have hl := lv_entry ([ss_v (ss_b G) this, .int a1, .int a2, .int a3, .int a4, .int a5]) (n := 6) (by simp [lg_sl, ss_v_cat, ss_cat_i, ss_cat_l, ss_cat_r])
  rw [lg_entry_eq]
  generalize (lg_sl ([ss_v (ss_b G) this, .int a1, .int a2, .int a3, .int a4, .int a5]) ++ List.replicate (6 - (lg_sl ([ss_v (ss_b G) this, .int a1, .int a2, .int a3, .int a4, .int a5])).length) Slot.unset).toArray = ls at hl ⊢
  have hl : lv_has ls 6 [(0, ss_v (ss_b G) this), (1, .int a1), (2, .int a2), (3, .int a3), (4, .int a4), (5, .int a5)] := by simpa [lv_args, ss_v_cat, ss_cat_i, ss_cat_l, ss_cat_r] using hl
  refine ss_aload_n hx hb dd_S_feed_0 rfl (lv_at hl 0 rfl) ?_
  obtain ⟨r1, qr1, hm⟩ := ss_bind hm
  refine ss_getr hC hK hR kf_S_10 rfl qr1 dd_S_feed_1 ?_
  obtain ⟨v2, qv2, hm⟩ := ss_bind hm
  refine ss_geti hC hK hR kf_S_90 qv2 dd_S_feed_4 ?_
  refine lv_sipush (v := 380) hx hb dd_S_feed_7 (by decide) ?_
  refine lv_icmp_le (tgt := 15) hx hb dd_S_feed_10 (by decide) (fun c3 => ?_) (fun c3 => ?_)
  · have hm := ss_ift hm c3
    refine ss_aload_n hx hb dd_S_feed_15 rfl (lv_at hl 0 rfl) ?_
    obtain ⟨r4, qr4, hm⟩ := ss_bind hm
    refine ss_getr hC hK hR kf_S_10 rfl qr4 dd_S_feed_16 ?_
    refine lv_iload_n hx hb dd_S_feed_19 rfl (lv_at hl 1 rfl) ?_
    obtain ⟨h5, qh5, hm⟩ := ss_bind hm
    refine ss_cVv 0 0 (As := [.int a1]) hC hK hR hS hl.1 (cc_T_put l G N _ _ _ _ qh5) km_S_94 (ck_T_put qh5) ⟨Nat.le_of_ble_eq_true rfl, Nat.le_of_ble_eq_true rfl⟩ ⟨Nat.le_of_ble_eq_true rfl, Nat.le_of_ble_eq_true rfl, Nat.le_of_ble_eq_true rfl, Nat.le_of_ble_eq_true rfl⟩ rfl rfl (Nat.le_of_ble_eq_true rfl) dd_S_feed_20 (fun H locs hR hS => ?_)
    refine ss_aload_n hx hb dd_S_feed_23 rfl (lv_at hl 0 rfl) ?_
    obtain ⟨r6, qr6, hm⟩ := ss_bind hm
    refine ss_getr hC hK hR kf_S_10 rfl qr6 dd_S_feed_24 ?_
    refine lv_iload_n hx hb dd_S_feed_27 rfl (lv_at hl 2 rfl) ?_
    obtain ⟨h7, qh7, hm⟩ := ss_bind hm
    refine ss_cVv 0 0 (As := [.int a2]) hC hK hR hS hl.1 (cc_T_put l G N _ _ _ _ qh7) km_S_94 (ck_T_put qh7) ⟨Nat.le_of_ble_eq_true rfl, Nat.le_of_ble_eq_true rfl⟩ ⟨Nat.le_of_ble_eq_true rfl, Nat.le_of_ble_eq_true rfl, Nat.le_of_ble_eq_true rfl, Nat.le_of_ble_eq_true rfl⟩ rfl rfl (Nat.le_of_ble_eq_true rfl) dd_S_feed_28 (fun H locs hR hS => ?_)
    refine ss_aload_n hx hb dd_S_feed_31 rfl (lv_at hl 0 rfl) ?_
    obtain ⟨r8, qr8, hm⟩ := ss_bind hm
    refine ss_getr hC hK hR kf_S_10 rfl qr8 dd_S_feed_32 ?_
    refine lv_iload_n hx hb dd_S_feed_35 rfl (lv_at hl 3 rfl) ?_
    obtain ⟨h9, qh9, hm⟩ := ss_bind hm
    refine ss_cVv 0 0 (As := [.int a3]) hC hK hR hS hl.1 (cc_T_put l G N _ _ _ _ qh9) km_S_94 (ck_T_put qh9) ⟨Nat.le_of_ble_eq_true rfl, Nat.le_of_ble_eq_true rfl⟩ ⟨Nat.le_of_ble_eq_true rfl, Nat.le_of_ble_eq_true rfl, Nat.le_of_ble_eq_true rfl, Nat.le_of_ble_eq_true rfl⟩ rfl rfl (Nat.le_of_ble_eq_true rfl) dd_S_feed_36 (fun H locs hR hS => ?_)
    refine ss_aload_n hx hb dd_S_feed_39 rfl (lv_at hl 0 rfl) ?_
    obtain ⟨r10, qr10, hm⟩ := ss_bind hm
    refine ss_getr hC hK hR kf_S_10 rfl qr10 dd_S_feed_40 ?_
    refine lv_iload hx hb dd_S_feed_43 (lv_at hl 4 rfl) ?_
    obtain ⟨h11, qh11, hm⟩ := ss_bind hm
    refine ss_cVv 0 0 (As := [.int a4]) hC hK hR hS hl.1 (cc_T_put l G N _ _ _ _ qh11) km_S_94 (ck_T_put qh11) ⟨Nat.le_of_ble_eq_true rfl, Nat.le_of_ble_eq_true rfl⟩ ⟨Nat.le_of_ble_eq_true rfl, Nat.le_of_ble_eq_true rfl, Nat.le_of_ble_eq_true rfl, Nat.le_of_ble_eq_true rfl⟩ rfl rfl (Nat.le_of_ble_eq_true rfl) dd_S_feed_45 (fun H locs hR hS => ?_)
    refine ss_aload_n hx hb dd_S_feed_48 rfl (lv_at hl 0 rfl) ?_
    obtain ⟨r12, qr12, hm⟩ := ss_bind hm
    refine ss_getr hC hK hR kf_S_10 rfl qr12 dd_S_feed_49 ?_
    refine lv_iload hx hb dd_S_feed_52 (lv_at hl 5 rfl) ?_
    obtain ⟨h13, qh13, hm⟩ := ss_bind hm
    refine ss_cVv 0 0 (As := [.int a5]) hC hK hR hS hl.1 (cc_T_put l G N _ _ _ _ qh13) km_S_94 (ck_T_put qh13) ⟨Nat.le_of_ble_eq_true rfl, Nat.le_of_ble_eq_true rfl⟩ ⟨Nat.le_of_ble_eq_true rfl, Nat.le_of_ble_eq_true rfl, Nat.le_of_ble_eq_true rfl, Nat.le_of_ble_eq_true rfl⟩ rfl rfl (Nat.le_of_ble_eq_true rfl) dd_S_feed_54 (fun H locs hR hS => ?_)
    refine ss_aload_n hx hb dd_S_feed_57 rfl (lv_at hl 0 rfl) ?_
    obtain ⟨r14, qr14, hm⟩ := ss_bind hm
    refine ss_getr hC hK hR kf_S_10 rfl qr14 dd_S_feed_58 ?_
    obtain ⟨v15, qv15, hm⟩ := ss_bind hm
    refine ss_geti hC hK hR kf_S_90 qv15 dd_S_feed_61 ?_
    exact ss_iret hC hr hlocks hR hS hm dd_S_feed_64
  · have hm := ss_iff hm c3
    refine lv_iconst (v := -1) hx hb dd_S_feed_13 (by decide) ?_
    exact ss_iret hC hr hlocks hR hS hm dd_S_feed_14
theorem dd_S_end_0 : decode bb_S_end 0 = .ok (.iload_n 1, 1) := by decide +kernel
theorem dd_S_end_1 : decode bb_S_end 1 = .ok (.ifCond .lt 14, 3) := by decide +kernel
theorem dd_S_end_4 : decode bb_S_end 4 = .ok (.iload_n 1, 1) := by decide +kernel
theorem dd_S_end_5 : decode bb_S_end 5 = .ok (.aload_n 0, 1) := by decide +kernel
theorem dd_S_end_6 : decode bb_S_end 6 = .ok (.getfield 10, 3) := by decide +kernel
theorem dd_S_end_9 : decode bb_S_end 9 = .ok (.getfield 90, 3) := by decide +kernel
theorem dd_S_end_12 : decode bb_S_end 12 = .ok (.if_icmp .le 5, 3) := by decide +kernel
theorem dd_S_end_15 : decode bb_S_end 15 = .ok (.iconst (-1), 1) := by decide +kernel
theorem dd_S_end_16 : decode bb_S_end 16 = .ok (.ireturn, 1) := by decide +kernel
theorem dd_S_end_17 : decode bb_S_end 17 = .ok (.aload_n 0, 1) := by decide +kernel
theorem dd_S_end_18 : decode bb_S_end 18 = .ok (.getfield 10, 3) := by decide +kernel
theorem dd_S_end_21 : decode bb_S_end 21 = .ok (.iload_n 1, 1) := by decide +kernel
theorem dd_S_end_22 : decode bb_S_end 22 = .ok (.putfield 90, 3) := by decide +kernel
theorem dd_S_end_25 : decode bb_S_end 25 = .ok (.iload_n 1, 1) := by decide +kernel
theorem dd_S_end_26 : decode bb_S_end 26 = .ok (.ireturn, 1) := by decide +kernel
def mm_S_end_j15 (N : Nat) (this : Option Nat) (a1 : Int32) (h_15 : ss_Hp) : Option (Int32 × ss_Hp) :=
  some ((-1 : Int32), h_15)
def mm_S_end (N : Nat) (this : Option Nat) (a1 : Int32) (h : ss_Hp) : Option (Int32 × ss_Hp) :=
  if ss_is h this 11 = true then
    if a1 < 0 then
      mm_S_end_j15 N this a1 h
    else
      (ss_gr h this 11 0).bind fun r2 =>
      (ss_gi h r2 2 0).bind fun v3 =>
      if a1 ≤ v3 then
        (ss_gr h this 11 0).bind fun r5 =>
        (ss_pi h r5 2 0 a1).bind fun h6 =>
        some (a1, h6)
      else
        mm_S_end_j15 N this a1 h
  else none
abbrev ww_S_end (p : Program) (l : Launch) (e : Env) (s : State) (m : MethodId) (below : List Frame) (meth : Method) (c : Code) (G : ss_G) (this : Option Nat) (a1 : Int32) (h : ss_Hp) (rr : Int32) (hh : ss_Hp) (H : Heap) (locs : List Loc) (k n : Nat) (g : JFrame) : Prop := W p l e (headSpec (ss_w yy_S_end bb_S_end 2 (some (.int))) ({ frames := 0, cells := 0, slots := 0, locals := 0 })).room s m ([ss_v (ss_b G) this, .int a1] : List Value).toArray below meth c H locs k n (MQ below (ss_Qc G (some (.int rr)) hh) ([ss_v (ss_b G) this, .int a1] : List Value).toArray s 0 0 (ss_A G)) g
theorem ck_S_end {N : Nat} {this : Option Nat} {a1 : Int32} {h : ss_Hp} {res : Int32 × ss_Hp} (hm : mm_S_end N this a1 h = some res) : ss_is h this 11 = true := (ss_chk hm).1
set_option maxHeartbeats 4000000 in
set_option maxRecDepth 100000 in
theorem cc_S_end (l : Launch) (G : ss_G) (N : Nat) (this : Option Nat) (a1 : Int32) (h : ss_Hp) (rr : Int32) (hh : ss_Hp) (hm : mm_S_end N this a1 h = some (rr, hh)) : ss_Ct l G yy_S_end bb_S_end 2 (some (.int)) ({ frames := 0, cells := 0, slots := 0, locals := 0 }) [ss_v (ss_b G) this, .int a1] h (some (.int rr)) hh := by
  obtain ⟨hck, hm⟩ := ss_chk hm
  refine Met.ofW (cc := bb_S_end) (maxL := 2) (ret := (some (.int))) (by decide) rfl ?_
  intro p e s m args below meth c s₁ B hml hv
  obtain ⟨rfl, hR, hK⟩ := hv
  have hC : CallFix p m c bb_S_end 2 s _ lw_g sR_11 := ⟨B.exec, B.bytes, hml, findClass_of_methodNamed B.named, fun w hw => atoms_spec (ws := ss_w yy_S_end bb_S_end 2 (some (.int))) B.pre w (List.mem_cons_of_mem _ hw)⟩
  have hx := hC.1
  have hb := hC.2.1
  have hr := B.returns
  have hlocks := B.notSynchronized
  have hS : va_S (ss_A G) s.heap s.heap [] := va_S.rf
  have hl := lv_entry ([ss_v (ss_b G) this, .int a1]) (n := 2) (by simp [lg_sl, ss_v_cat, ss_cat_i, ss_cat_l, ss_cat_r])
  rw [lg_entry_eq]
  generalize (lg_sl ([ss_v (ss_b G) this, .int a1]) ++ List.replicate (2 - (lg_sl ([ss_v (ss_b G) this, .int a1])).length) Slot.unset).toArray = ls at hl ⊢
  have hl : lv_has ls 2 [(0, ss_v (ss_b G) this), (1, .int a1)] := by simpa [lv_args, ss_v_cat, ss_cat_i, ss_cat_l, ss_cat_r] using hl
  have J_15 : ∀ (h_15 : ss_Hp) (H : Heap) (locs : List Loc) (ls : Array Slot), mm_S_end_j15 N this a1 h_15 = some (rr, hh) → ss_R G h_15 H → va_S (ss_A G) s.heap H locs → lv_has ls 2 [] → ww_S_end p l e s m below meth c G this a1 h rr hh  H locs 0 0 (F0 m 15 ls []) := by
    intro h_15 H locs ls hm hR hS hl
    refine lv_iconst (v := -1) hx hb dd_S_end_15 (by decide) ?_
    exact ss_iret hC hr hlocks hR hS hm dd_S_end_16
  refine lv_iload_n hx hb dd_S_end_0 rfl (lv_at hl 1 rfl) ?_
  refine lv_if_lt (tgt := 15) hx hb dd_S_end_1 (by decide) (fun c1 => ?_) (fun c1 => ?_)
  · have hm := ss_ift hm c1
    exact J_15 h _ _ _ hm hR hS (lv_sub hl [] rfl)
  · have hm := ss_iff hm c1
    refine lv_iload_n hx hb dd_S_end_4 rfl (lv_at hl 1 rfl) ?_
    refine ss_aload_n hx hb dd_S_end_5 rfl (lv_at hl 0 rfl) ?_
    obtain ⟨r2, qr2, hm⟩ := ss_bind hm
    refine ss_getr hC hK hR kf_S_10 rfl qr2 dd_S_end_6 ?_
    obtain ⟨v3, qv3, hm⟩ := ss_bind hm
    refine ss_geti hC hK hR kf_S_90 qv3 dd_S_end_9 ?_
    refine lv_icmp_le (tgt := 17) hx hb dd_S_end_12 (by decide) (fun c4 => ?_) (fun c4 => ?_)
    · have hm := ss_ift hm c4
      refine ss_aload_n hx hb dd_S_end_17 rfl (lv_at hl 0 rfl) ?_
      obtain ⟨r5, qr5, hm⟩ := ss_bind hm
      refine ss_getr hC hK hR kf_S_10 rfl qr5 dd_S_end_18 ?_
      refine lv_iload_n hx hb dd_S_end_21 rfl (lv_at hl 1 rfl) ?_
      obtain ⟨h6, qh6, hm⟩ := ss_bind hm
      refine ss_puti hC hK hR hS kp_S_90 qh6 dd_S_end_22 (fun H locs hR hS => ?_)
      refine lv_iload_n hx hb dd_S_end_25 rfl (lv_at hl 1 rfl) ?_
      exact ss_iret hC hr hlocks hR hS hm dd_S_end_26
    · have hm := ss_iff hm c4
      exact J_15 h _ _ _ hm hR hS (lv_sub hl [] rfl)
theorem dd_T_isLetter_0 : decode bb_T_isLetter 0 = .ok (.aload_n 0, 1) := by decide +kernel
theorem dd_T_isLetter_1 : decode bb_T_isLetter 1 = .ok (.getfield 11, 3) := by decide +kernel
theorem dd_T_isLetter_4 : decode bb_T_isLetter 4 = .ok (.iload_n 1, 1) := by decide +kernel
theorem dd_T_isLetter_5 : decode bb_T_isLetter 5 = .ok (.iaload, 1) := by decide +kernel
theorem dd_T_isLetter_6 : decode bb_T_isLetter 6 = .ok (.bipush 97, 2) := by decide +kernel
theorem dd_T_isLetter_8 : decode bb_T_isLetter 8 = .ok (.if_icmp .lt 18, 3) := by decide +kernel
theorem dd_T_isLetter_11 : decode bb_T_isLetter 11 = .ok (.aload_n 0, 1) := by decide +kernel
theorem dd_T_isLetter_12 : decode bb_T_isLetter 12 = .ok (.getfield 11, 3) := by decide +kernel
theorem dd_T_isLetter_15 : decode bb_T_isLetter 15 = .ok (.iload_n 1, 1) := by decide +kernel
theorem dd_T_isLetter_16 : decode bb_T_isLetter 16 = .ok (.iaload, 1) := by decide +kernel
theorem dd_T_isLetter_17 : decode bb_T_isLetter 17 = .ok (.bipush 122, 2) := by decide +kernel
theorem dd_T_isLetter_19 : decode bb_T_isLetter 19 = .ok (.if_icmp .gt 7, 3) := by decide +kernel
theorem dd_T_isLetter_22 : decode bb_T_isLetter 22 = .ok (.iconst 1, 1) := by decide +kernel
theorem dd_T_isLetter_23 : decode bb_T_isLetter 23 = .ok (.goto 4, 3) := by decide +kernel
theorem dd_T_isLetter_26 : decode bb_T_isLetter 26 = .ok (.iconst 0, 1) := by decide +kernel
theorem dd_T_isLetter_27 : decode bb_T_isLetter 27 = .ok (.ireturn, 1) := by decide +kernel
def mm_T_isLetter_j27 (N : Nat) (this : Option Nat) (a1 : Int32) (h : ss_Hp) (s0_27 : Int32) : Option Int32 :=
  (ss_bz s0_27).bind fun v1 =>
  some v1
def mm_T_isLetter_j26 (N : Nat) (this : Option Nat) (a1 : Int32) (h : ss_Hp) : Option Int32 :=
  mm_T_isLetter_j27 N this a1 h (0 : Int32)
def mm_T_isLetter (N : Nat) (this : Option Nat) (a1 : Int32) (h : ss_Hp) : Option Int32 :=
  if ss_is h this 2 = true then
    (ss_gr h this 2 0).bind fun r2 =>
    (ss_ai h r2 20 a1).bind fun v3 =>
    if v3 < (97 : Int32) then
      mm_T_isLetter_j26 N this a1 h
    else
      (ss_gr h this 2 0).bind fun r5 =>
      (ss_ai h r5 20 a1).bind fun v6 =>
      if (122 : Int32) < v6 then
        mm_T_isLetter_j26 N this a1 h
      else
        mm_T_isLetter_j27 N this a1 h (1 : Int32)
  else none
abbrev ww_T_isLetter (p : Program) (l : Launch) (e : Env) (s : State) (m : MethodId) (below : List Frame) (meth : Method) (c : Code) (G : ss_G) (this : Option Nat) (a1 : Int32) (h : ss_Hp) (rr : Int32) (H : Heap) (locs : List Loc) (k n : Nat) (g : JFrame) : Prop := W p l e (headSpec (ss_w yy_T_isLetter bb_T_isLetter 2 (some .boolean)) ({ frames := 0, cells := 0, slots := 0, locals := 0 })).room s m ([ss_v (ss_b G) this, .int a1] : List Value).toArray below meth c H locs k n (MQ below (ss_Qc G (some (.int rr)) h) ([ss_v (ss_b G) this, .int a1] : List Value).toArray s 0 0 (ss_A G)) g
theorem ck_T_isLetter {N : Nat} {this : Option Nat} {a1 : Int32} {h : ss_Hp} {res : Int32} (hm : mm_T_isLetter N this a1 h = some res) : ss_is h this 2 = true := (ss_chk hm).1
set_option maxHeartbeats 4000000 in
set_option maxRecDepth 100000 in
theorem cc_T_isLetter (l : Launch) (G : ss_G) (N : Nat) (this : Option Nat) (a1 : Int32) (h : ss_Hp) (rr : Int32) (hm : mm_T_isLetter N this a1 h = some rr) : ss_Ct l G yy_T_isLetter bb_T_isLetter 2 (some .boolean) ({ frames := 0, cells := 0, slots := 0, locals := 0 }) [ss_v (ss_b G) this, .int a1] h (some (.int rr)) h := by
  obtain ⟨hck, hm⟩ := ss_chk hm
  refine Met.ofW (cc := bb_T_isLetter) (maxL := 2) (ret := (some .boolean)) (by decide) rfl ?_
  intro p e s m args below meth c s₁ B hml hv
  obtain ⟨rfl, hR, hK⟩ := hv
  have hC : CallFix p m c bb_T_isLetter 2 s _ lw_g sR_2 := ⟨B.exec, B.bytes, hml, findClass_of_methodNamed B.named, fun w hw => atoms_spec (ws := ss_w yy_T_isLetter bb_T_isLetter 2 (some .boolean)) B.pre w (List.mem_cons_of_mem _ hw)⟩
  have hx := hC.1
  have hb := hC.2.1
  have hr := B.returns
  have hlocks := B.notSynchronized
  have hS : va_S (ss_A G) s.heap s.heap [] := va_S.rf
  have hl := lv_entry ([ss_v (ss_b G) this, .int a1]) (n := 2) (by simp [lg_sl, ss_v_cat, ss_cat_i, ss_cat_l, ss_cat_r])
  rw [lg_entry_eq]
  generalize (lg_sl ([ss_v (ss_b G) this, .int a1]) ++ List.replicate (2 - (lg_sl ([ss_v (ss_b G) this, .int a1])).length) Slot.unset).toArray = ls at hl ⊢
  have hl : lv_has ls 2 [(0, ss_v (ss_b G) this), (1, .int a1)] := by simpa [lv_args, ss_v_cat, ss_cat_i, ss_cat_l, ss_cat_r] using hl
  have J_27 : ∀ (s0_27 : Int32) (H : Heap) (locs : List Loc) (ls : Array Slot), mm_T_isLetter_j27 N this a1 h s0_27 = some rr → ss_R G h H → va_S (ss_A G) s.heap H locs → lv_has ls 2 [] → ww_T_isLetter p l e s m below meth c G this a1 h rr  H locs 0 0 (F0 m 27 ls [.int s0_27]) := by
    intro s0_27 H locs ls hm hR hS hl
    obtain ⟨v1, qv1, hm⟩ := ss_bind hm
    obtain ⟨hnb, rfl⟩ := ss_bzs qv1
    exact ss_zret hC hr hnb hlocks hR hS (ss_with _ hm) dd_T_isLetter_27
  have J_26 : ∀  (H : Heap) (locs : List Loc) (ls : Array Slot), mm_T_isLetter_j26 N this a1 h = some rr → ss_R G h H → va_S (ss_A G) s.heap H locs → lv_has ls 2 [] → ww_T_isLetter p l e s m below meth c G this a1 h rr  H locs 0 0 (F0 m 26 ls []) := by
    intro  H locs ls hm hR hS hl
    refine lv_iconst (v := 0) hx hb dd_T_isLetter_26 (by decide) ?_
    exact J_27 (0 : Int32)  _ _ _ hm hR hS hl
  refine ss_aload_n hx hb dd_T_isLetter_0 rfl (lv_at hl 0 rfl) ?_
  obtain ⟨r2, qr2, hm⟩ := ss_bind hm
  refine ss_getr hC hK hR kf_T_11 rfl qr2 dd_T_isLetter_1 ?_
  refine lv_iload_n hx hb dd_T_isLetter_4 rfl (lv_at hl 1 rfl) ?_
  obtain ⟨v3, qv3, hm⟩ := ss_bind hm
  refine ss_iald hC hK hR qv3 dd_T_isLetter_5 ?_
  refine lv_bipush (v := 97) hx hb dd_T_isLetter_6 (by decide) ?_
  refine lv_icmp_lt (tgt := 26) hx hb dd_T_isLetter_8 (by decide) (fun c4 => ?_) (fun c4 => ?_)
  · have hm := ss_ift hm c4
    exact J_26  _ _ _ hm hR hS (lv_sub hl [] rfl)
  · have hm := ss_iff hm c4
    refine ss_aload_n hx hb dd_T_isLetter_11 rfl (lv_at hl 0 rfl) ?_
    obtain ⟨r5, qr5, hm⟩ := ss_bind hm
    refine ss_getr hC hK hR kf_T_11 rfl qr5 dd_T_isLetter_12 ?_
    refine lv_iload_n hx hb dd_T_isLetter_15 rfl (lv_at hl 1 rfl) ?_
    obtain ⟨v6, qv6, hm⟩ := ss_bind hm
    refine ss_iald hC hK hR qv6 dd_T_isLetter_16 ?_
    refine lv_bipush (v := 122) hx hb dd_T_isLetter_17 (by decide) ?_
    refine lv_icmp_gt (tgt := 26) hx hb dd_T_isLetter_19 (by decide) (fun c7 => ?_) (fun c7 => ?_)
    · have hm := ss_ift hm c7
      exact J_26  _ _ _ hm hR hS (lv_sub hl [] rfl)
    · have hm := ss_iff hm c7
      refine lv_iconst (v := 1) hx hb dd_T_isLetter_22 (by decide) ?_
      refine lv_goto (tgt := 27) hx hb dd_T_isLetter_23 (by decide) ?_
      exact J_27 (1 : Int32)  _ _ _ hm hR hS (lv_sub hl [] rfl)
theorem dd_T_isDigit_0 : decode bb_T_isDigit 0 = .ok (.aload_n 0, 1) := by decide +kernel
theorem dd_T_isDigit_1 : decode bb_T_isDigit 1 = .ok (.getfield 11, 3) := by decide +kernel
theorem dd_T_isDigit_4 : decode bb_T_isDigit 4 = .ok (.iload_n 1, 1) := by decide +kernel
theorem dd_T_isDigit_5 : decode bb_T_isDigit 5 = .ok (.iaload, 1) := by decide +kernel
theorem dd_T_isDigit_6 : decode bb_T_isDigit 6 = .ok (.bipush 48, 2) := by decide +kernel
theorem dd_T_isDigit_8 : decode bb_T_isDigit 8 = .ok (.if_icmp .lt 18, 3) := by decide +kernel
theorem dd_T_isDigit_11 : decode bb_T_isDigit 11 = .ok (.aload_n 0, 1) := by decide +kernel
theorem dd_T_isDigit_12 : decode bb_T_isDigit 12 = .ok (.getfield 11, 3) := by decide +kernel
theorem dd_T_isDigit_15 : decode bb_T_isDigit 15 = .ok (.iload_n 1, 1) := by decide +kernel
theorem dd_T_isDigit_16 : decode bb_T_isDigit 16 = .ok (.iaload, 1) := by decide +kernel
theorem dd_T_isDigit_17 : decode bb_T_isDigit 17 = .ok (.bipush 57, 2) := by decide +kernel
theorem dd_T_isDigit_19 : decode bb_T_isDigit 19 = .ok (.if_icmp .gt 7, 3) := by decide +kernel
theorem dd_T_isDigit_22 : decode bb_T_isDigit 22 = .ok (.iconst 1, 1) := by decide +kernel
theorem dd_T_isDigit_23 : decode bb_T_isDigit 23 = .ok (.goto 4, 3) := by decide +kernel
theorem dd_T_isDigit_26 : decode bb_T_isDigit 26 = .ok (.iconst 0, 1) := by decide +kernel
theorem dd_T_isDigit_27 : decode bb_T_isDigit 27 = .ok (.ireturn, 1) := by decide +kernel
def mm_T_isDigit_j27 (N : Nat) (this : Option Nat) (a1 : Int32) (h : ss_Hp) (s0_27 : Int32) : Option Int32 :=
  (ss_bz s0_27).bind fun v1 =>
  some v1
def mm_T_isDigit_j26 (N : Nat) (this : Option Nat) (a1 : Int32) (h : ss_Hp) : Option Int32 :=
  mm_T_isDigit_j27 N this a1 h (0 : Int32)
def mm_T_isDigit (N : Nat) (this : Option Nat) (a1 : Int32) (h : ss_Hp) : Option Int32 :=
  if ss_is h this 2 = true then
    (ss_gr h this 2 0).bind fun r2 =>
    (ss_ai h r2 20 a1).bind fun v3 =>
    if v3 < (48 : Int32) then
      mm_T_isDigit_j26 N this a1 h
    else
      (ss_gr h this 2 0).bind fun r5 =>
      (ss_ai h r5 20 a1).bind fun v6 =>
      if (57 : Int32) < v6 then
        mm_T_isDigit_j26 N this a1 h
      else
        mm_T_isDigit_j27 N this a1 h (1 : Int32)
  else none
abbrev ww_T_isDigit (p : Program) (l : Launch) (e : Env) (s : State) (m : MethodId) (below : List Frame) (meth : Method) (c : Code) (G : ss_G) (this : Option Nat) (a1 : Int32) (h : ss_Hp) (rr : Int32) (H : Heap) (locs : List Loc) (k n : Nat) (g : JFrame) : Prop := W p l e (headSpec (ss_w yy_T_isDigit bb_T_isDigit 2 (some .boolean)) ({ frames := 0, cells := 0, slots := 0, locals := 0 })).room s m ([ss_v (ss_b G) this, .int a1] : List Value).toArray below meth c H locs k n (MQ below (ss_Qc G (some (.int rr)) h) ([ss_v (ss_b G) this, .int a1] : List Value).toArray s 0 0 (ss_A G)) g
theorem ck_T_isDigit {N : Nat} {this : Option Nat} {a1 : Int32} {h : ss_Hp} {res : Int32} (hm : mm_T_isDigit N this a1 h = some res) : ss_is h this 2 = true := (ss_chk hm).1
set_option maxHeartbeats 4000000 in
set_option maxRecDepth 100000 in
theorem cc_T_isDigit (l : Launch) (G : ss_G) (N : Nat) (this : Option Nat) (a1 : Int32) (h : ss_Hp) (rr : Int32) (hm : mm_T_isDigit N this a1 h = some rr) : ss_Ct l G yy_T_isDigit bb_T_isDigit 2 (some .boolean) ({ frames := 0, cells := 0, slots := 0, locals := 0 }) [ss_v (ss_b G) this, .int a1] h (some (.int rr)) h := by
  obtain ⟨hck, hm⟩ := ss_chk hm
  refine Met.ofW (cc := bb_T_isDigit) (maxL := 2) (ret := (some .boolean)) (by decide) rfl ?_
  intro p e s m args below meth c s₁ B hml hv
  obtain ⟨rfl, hR, hK⟩ := hv
  have hC : CallFix p m c bb_T_isDigit 2 s _ lw_g sR_2 := ⟨B.exec, B.bytes, hml, findClass_of_methodNamed B.named, fun w hw => atoms_spec (ws := ss_w yy_T_isDigit bb_T_isDigit 2 (some .boolean)) B.pre w (List.mem_cons_of_mem _ hw)⟩
  have hx := hC.1
  have hb := hC.2.1
  have hr := B.returns
  have hlocks := B.notSynchronized
  have hS : va_S (ss_A G) s.heap s.heap [] := va_S.rf
  have hl := lv_entry ([ss_v (ss_b G) this, .int a1]) (n := 2) (by simp [lg_sl, ss_v_cat, ss_cat_i, ss_cat_l, ss_cat_r])
  rw [lg_entry_eq]
  generalize (lg_sl ([ss_v (ss_b G) this, .int a1]) ++ List.replicate (2 - (lg_sl ([ss_v (ss_b G) this, .int a1])).length) Slot.unset).toArray = ls at hl ⊢
  have hl : lv_has ls 2 [(0, ss_v (ss_b G) this), (1, .int a1)] := by simpa [lv_args, ss_v_cat, ss_cat_i, ss_cat_l, ss_cat_r] using hl
  have J_27 : ∀ (s0_27 : Int32) (H : Heap) (locs : List Loc) (ls : Array Slot), mm_T_isDigit_j27 N this a1 h s0_27 = some rr → ss_R G h H → va_S (ss_A G) s.heap H locs → lv_has ls 2 [] → ww_T_isDigit p l e s m below meth c G this a1 h rr  H locs 0 0 (F0 m 27 ls [.int s0_27]) := by
    intro s0_27 H locs ls hm hR hS hl
    obtain ⟨v1, qv1, hm⟩ := ss_bind hm
    obtain ⟨hnb, rfl⟩ := ss_bzs qv1
    exact ss_zret hC hr hnb hlocks hR hS (ss_with _ hm) dd_T_isDigit_27
  have J_26 : ∀  (H : Heap) (locs : List Loc) (ls : Array Slot), mm_T_isDigit_j26 N this a1 h = some rr → ss_R G h H → va_S (ss_A G) s.heap H locs → lv_has ls 2 [] → ww_T_isDigit p l e s m below meth c G this a1 h rr  H locs 0 0 (F0 m 26 ls []) := by
    intro  H locs ls hm hR hS hl
    refine lv_iconst (v := 0) hx hb dd_T_isDigit_26 (by decide) ?_
    exact J_27 (0 : Int32)  _ _ _ hm hR hS hl
  refine ss_aload_n hx hb dd_T_isDigit_0 rfl (lv_at hl 0 rfl) ?_
  obtain ⟨r2, qr2, hm⟩ := ss_bind hm
  refine ss_getr hC hK hR kf_T_11 rfl qr2 dd_T_isDigit_1 ?_
  refine lv_iload_n hx hb dd_T_isDigit_4 rfl (lv_at hl 1 rfl) ?_
  obtain ⟨v3, qv3, hm⟩ := ss_bind hm
  refine ss_iald hC hK hR qv3 dd_T_isDigit_5 ?_
  refine lv_bipush (v := 48) hx hb dd_T_isDigit_6 (by decide) ?_
  refine lv_icmp_lt (tgt := 26) hx hb dd_T_isDigit_8 (by decide) (fun c4 => ?_) (fun c4 => ?_)
  · have hm := ss_ift hm c4
    exact J_26  _ _ _ hm hR hS (lv_sub hl [] rfl)
  · have hm := ss_iff hm c4
    refine ss_aload_n hx hb dd_T_isDigit_11 rfl (lv_at hl 0 rfl) ?_
    obtain ⟨r5, qr5, hm⟩ := ss_bind hm
    refine ss_getr hC hK hR kf_T_11 rfl qr5 dd_T_isDigit_12 ?_
    refine lv_iload_n hx hb dd_T_isDigit_15 rfl (lv_at hl 1 rfl) ?_
    obtain ⟨v6, qv6, hm⟩ := ss_bind hm
    refine ss_iald hC hK hR qv6 dd_T_isDigit_16 ?_
    refine lv_bipush (v := 57) hx hb dd_T_isDigit_17 (by decide) ?_
    refine lv_icmp_gt (tgt := 26) hx hb dd_T_isDigit_19 (by decide) (fun c7 => ?_) (fun c7 => ?_)
    · have hm := ss_ift hm c7
      exact J_26  _ _ _ hm hR hS (lv_sub hl [] rfl)
    · have hm := ss_iff hm c7
      refine lv_iconst (v := 1) hx hb dd_T_isDigit_22 (by decide) ?_
      refine lv_goto (tgt := 27) hx hb dd_T_isDigit_23 (by decide) ?_
      exact J_27 (1 : Int32)  _ _ _ hm hR hS (lv_sub hl [] rfl)
theorem dd_T_advance_0 : decode bb_T_advance 0 = .ok (.aload_n 0, 1) := by decide +kernel
theorem dd_T_advance_1 : decode bb_T_advance 1 = .ok (.aload_n 0, 1) := by decide +kernel
theorem dd_T_advance_2 : decode bb_T_advance 2 = .ok (.getfield 22, 3) := by decide +kernel
theorem dd_T_advance_5 : decode bb_T_advance 5 = .ok (.putfield 28, 3) := by decide +kernel
theorem dd_T_advance_8 : decode bb_T_advance 8 = .ok (.aload_n 0, 1) := by decide +kernel
theorem dd_T_advance_9 : decode bb_T_advance 9 = .ok (.getfield 28, 3) := by decide +kernel
theorem dd_T_advance_12 : decode bb_T_advance 12 = .ok (.aload_n 0, 1) := by decide +kernel
theorem dd_T_advance_13 : decode bb_T_advance 13 = .ok (.getfield 15, 3) := by decide +kernel
theorem dd_T_advance_16 : decode bb_T_advance 16 = .ok (.if_icmp .ge 30, 3) := by decide +kernel
theorem dd_T_advance_19 : decode bb_T_advance 19 = .ok (.aload_n 0, 1) := by decide +kernel
theorem dd_T_advance_20 : decode bb_T_advance 20 = .ok (.getfield 11, 3) := by decide +kernel
theorem dd_T_advance_23 : decode bb_T_advance 23 = .ok (.aload_n 0, 1) := by decide +kernel
theorem dd_T_advance_24 : decode bb_T_advance 24 = .ok (.getfield 28, 3) := by decide +kernel
theorem dd_T_advance_27 : decode bb_T_advance 27 = .ok (.iaload, 1) := by decide +kernel
theorem dd_T_advance_28 : decode bb_T_advance 28 = .ok (.bipush 32, 2) := by decide +kernel
theorem dd_T_advance_30 : decode bb_T_advance 30 = .ok (.if_icmp .ne 16, 3) := by decide +kernel
theorem dd_T_advance_33 : decode bb_T_advance 33 = .ok (.aload_n 0, 1) := by decide +kernel
theorem dd_T_advance_34 : decode bb_T_advance 34 = .ok (.dup, 1) := by decide +kernel
theorem dd_T_advance_35 : decode bb_T_advance 35 = .ok (.getfield 28, 3) := by decide +kernel
theorem dd_T_advance_38 : decode bb_T_advance 38 = .ok (.iconst 1, 1) := by decide +kernel
theorem dd_T_advance_39 : decode bb_T_advance 39 = .ok (.iadd, 1) := by decide +kernel
theorem dd_T_advance_40 : decode bb_T_advance 40 = .ok (.putfield 28, 3) := by decide +kernel
theorem dd_T_advance_43 : decode bb_T_advance 43 = .ok (.goto (-35), 3) := by decide +kernel
theorem dd_T_advance_46 : decode bb_T_advance 46 = .ok (.aload_n 0, 1) := by decide +kernel
theorem dd_T_advance_47 : decode bb_T_advance 47 = .ok (.aload_n 0, 1) := by decide +kernel
theorem dd_T_advance_48 : decode bb_T_advance 48 = .ok (.getfield 28, 3) := by decide +kernel
theorem dd_T_advance_51 : decode bb_T_advance 51 = .ok (.iconst 1, 1) := by decide +kernel
theorem dd_T_advance_52 : decode bb_T_advance 52 = .ok (.iadd, 1) := by decide +kernel
theorem dd_T_advance_53 : decode bb_T_advance 53 = .ok (.putfield 22, 3) := by decide +kernel
theorem dd_T_advance_56 : decode bb_T_advance 56 = .ok (.aload_n 0, 1) := by decide +kernel
theorem dd_T_advance_57 : decode bb_T_advance 57 = .ok (.getfield 28, 3) := by decide +kernel
theorem dd_T_advance_60 : decode bb_T_advance 60 = .ok (.aload_n 0, 1) := by decide +kernel
theorem dd_T_advance_61 : decode bb_T_advance 61 = .ok (.getfield 15, 3) := by decide +kernel
theorem dd_T_advance_64 : decode bb_T_advance 64 = .ok (.if_icmp .lt 19, 3) := by decide +kernel
theorem dd_T_advance_67 : decode bb_T_advance 67 = .ok (.aload_n 0, 1) := by decide +kernel
theorem dd_T_advance_68 : decode bb_T_advance 68 = .ok (.iconst 0, 1) := by decide +kernel
theorem dd_T_advance_69 : decode bb_T_advance 69 = .ok (.putfield 31, 3) := by decide +kernel
theorem dd_T_advance_72 : decode bb_T_advance 72 = .ok (.aload_n 0, 1) := by decide +kernel
theorem dd_T_advance_73 : decode bb_T_advance 73 = .ok (.aload_n 0, 1) := by decide +kernel
theorem dd_T_advance_74 : decode bb_T_advance 74 = .ok (.getfield 28, 3) := by decide +kernel
theorem dd_T_advance_77 : decode bb_T_advance 77 = .ok (.putfield 22, 3) := by decide +kernel
theorem dd_T_advance_80 : decode bb_T_advance 80 = .ok (.goto 183, 3) := by decide +kernel
theorem dd_T_advance_83 : decode bb_T_advance 83 = .ok (.aload_n 0, 1) := by decide +kernel
theorem dd_T_advance_84 : decode bb_T_advance 84 = .ok (.aload_n 0, 1) := by decide +kernel
theorem dd_T_advance_85 : decode bb_T_advance 85 = .ok (.getfield 28, 3) := by decide +kernel
theorem dd_T_advance_88 : decode bb_T_advance 88 = .ok (.invokevirtual 34, 3) := by decide +kernel
theorem dd_T_advance_91 : decode bb_T_advance 91 = .ok (.ifCond .eq 43, 3) := by decide +kernel
theorem dd_T_advance_94 : decode bb_T_advance 94 = .ok (.aload_n 0, 1) := by decide +kernel
theorem dd_T_advance_95 : decode bb_T_advance 95 = .ok (.iconst 1, 1) := by decide +kernel
theorem dd_T_advance_96 : decode bb_T_advance 96 = .ok (.putfield 31, 3) := by decide +kernel
theorem dd_T_advance_99 : decode bb_T_advance 99 = .ok (.aload_n 0, 1) := by decide +kernel
theorem dd_T_advance_100 : decode bb_T_advance 100 = .ok (.getfield 22, 3) := by decide +kernel
theorem dd_T_advance_103 : decode bb_T_advance 103 = .ok (.aload_n 0, 1) := by decide +kernel
theorem dd_T_advance_104 : decode bb_T_advance 104 = .ok (.getfield 15, 3) := by decide +kernel
theorem dd_T_advance_107 : decode bb_T_advance 107 = .ok (.if_icmp .ge 156, 3) := by decide +kernel
theorem dd_T_advance_110 : decode bb_T_advance 110 = .ok (.aload_n 0, 1) := by decide +kernel
theorem dd_T_advance_111 : decode bb_T_advance 111 = .ok (.aload_n 0, 1) := by decide +kernel
theorem dd_T_advance_112 : decode bb_T_advance 112 = .ok (.getfield 22, 3) := by decide +kernel
theorem dd_T_advance_115 : decode bb_T_advance 115 = .ok (.invokevirtual 34, 3) := by decide +kernel
theorem dd_T_advance_118 : decode bb_T_advance 118 = .ok (.ifCond .eq 145, 3) := by decide +kernel
theorem dd_T_advance_121 : decode bb_T_advance 121 = .ok (.aload_n 0, 1) := by decide +kernel
theorem dd_T_advance_122 : decode bb_T_advance 122 = .ok (.dup, 1) := by decide +kernel
theorem dd_T_advance_123 : decode bb_T_advance 123 = .ok (.getfield 22, 3) := by decide +kernel
theorem dd_T_advance_126 : decode bb_T_advance 126 = .ok (.iconst 1, 1) := by decide +kernel
theorem dd_T_advance_127 : decode bb_T_advance 127 = .ok (.iadd, 1) := by decide +kernel
theorem dd_T_advance_128 : decode bb_T_advance 128 = .ok (.putfield 22, 3) := by decide +kernel
theorem dd_T_advance_131 : decode bb_T_advance 131 = .ok (.goto (-32), 3) := by decide +kernel
theorem dd_T_advance_134 : decode bb_T_advance 134 = .ok (.aload_n 0, 1) := by decide +kernel
theorem dd_T_advance_135 : decode bb_T_advance 135 = .ok (.aload_n 0, 1) := by decide +kernel
theorem dd_T_advance_136 : decode bb_T_advance 136 = .ok (.getfield 28, 3) := by decide +kernel
theorem dd_T_advance_139 : decode bb_T_advance 139 = .ok (.invokevirtual 38, 3) := by decide +kernel
theorem dd_T_advance_142 : decode bb_T_advance 142 = .ok (.ifCond .eq 43, 3) := by decide +kernel
theorem dd_T_advance_145 : decode bb_T_advance 145 = .ok (.aload_n 0, 1) := by decide +kernel
theorem dd_T_advance_146 : decode bb_T_advance 146 = .ok (.iconst 2, 1) := by decide +kernel
theorem dd_T_advance_147 : decode bb_T_advance 147 = .ok (.putfield 31, 3) := by decide +kernel
theorem dd_T_advance_150 : decode bb_T_advance 150 = .ok (.aload_n 0, 1) := by decide +kernel
theorem dd_T_advance_151 : decode bb_T_advance 151 = .ok (.getfield 22, 3) := by decide +kernel
theorem dd_T_advance_154 : decode bb_T_advance 154 = .ok (.aload_n 0, 1) := by decide +kernel
theorem dd_T_advance_155 : decode bb_T_advance 155 = .ok (.getfield 15, 3) := by decide +kernel
theorem dd_T_advance_158 : decode bb_T_advance 158 = .ok (.if_icmp .ge 105, 3) := by decide +kernel
theorem dd_T_advance_161 : decode bb_T_advance 161 = .ok (.aload_n 0, 1) := by decide +kernel
theorem dd_T_advance_162 : decode bb_T_advance 162 = .ok (.aload_n 0, 1) := by decide +kernel
theorem dd_T_advance_163 : decode bb_T_advance 163 = .ok (.getfield 22, 3) := by decide +kernel
theorem dd_T_advance_166 : decode bb_T_advance 166 = .ok (.invokevirtual 38, 3) := by decide +kernel
theorem dd_T_advance_169 : decode bb_T_advance 169 = .ok (.ifCond .eq 94, 3) := by decide +kernel
theorem dd_T_advance_172 : decode bb_T_advance 172 = .ok (.aload_n 0, 1) := by decide +kernel
theorem dd_T_advance_173 : decode bb_T_advance 173 = .ok (.dup, 1) := by decide +kernel
theorem dd_T_advance_174 : decode bb_T_advance 174 = .ok (.getfield 22, 3) := by decide +kernel
theorem dd_T_advance_177 : decode bb_T_advance 177 = .ok (.iconst 1, 1) := by decide +kernel
theorem dd_T_advance_178 : decode bb_T_advance 178 = .ok (.iadd, 1) := by decide +kernel
theorem dd_T_advance_179 : decode bb_T_advance 179 = .ok (.putfield 22, 3) := by decide +kernel
theorem dd_T_advance_182 : decode bb_T_advance 182 = .ok (.goto (-32), 3) := by decide +kernel
theorem dd_T_advance_185 : decode bb_T_advance 185 = .ok (.aload_n 0, 1) := by decide +kernel
theorem dd_T_advance_186 : decode bb_T_advance 186 = .ok (.iconst 3, 1) := by decide +kernel
theorem dd_T_advance_187 : decode bb_T_advance 187 = .ok (.putfield 31, 3) := by decide +kernel
theorem dd_T_advance_190 : decode bb_T_advance 190 = .ok (.aload_n 0, 1) := by decide +kernel
theorem dd_T_advance_191 : decode bb_T_advance 191 = .ok (.getfield 11, 3) := by decide +kernel
theorem dd_T_advance_194 : decode bb_T_advance 194 = .ok (.aload_n 0, 1) := by decide +kernel
theorem dd_T_advance_195 : decode bb_T_advance 195 = .ok (.getfield 28, 3) := by decide +kernel
theorem dd_T_advance_198 : decode bb_T_advance 198 = .ok (.iaload, 1) := by decide +kernel
theorem dd_T_advance_199 : decode bb_T_advance 199 = .ok (.bipush 60, 2) := by decide +kernel
theorem dd_T_advance_201 : decode bb_T_advance 201 = .ok (.if_icmp .eq 17, 3) := by decide +kernel
theorem dd_T_advance_204 : decode bb_T_advance 204 = .ok (.aload_n 0, 1) := by decide +kernel
theorem dd_T_advance_205 : decode bb_T_advance 205 = .ok (.getfield 11, 3) := by decide +kernel
theorem dd_T_advance_208 : decode bb_T_advance 208 = .ok (.aload_n 0, 1) := by decide +kernel
theorem dd_T_advance_209 : decode bb_T_advance 209 = .ok (.getfield 28, 3) := by decide +kernel
theorem dd_T_advance_212 : decode bb_T_advance 212 = .ok (.iaload, 1) := by decide +kernel
theorem dd_T_advance_213 : decode bb_T_advance 213 = .ok (.bipush 62, 2) := by decide +kernel
theorem dd_T_advance_215 : decode bb_T_advance 215 = .ok (.if_icmp .ne 7, 3) := by decide +kernel
theorem dd_T_advance_218 : decode bb_T_advance 218 = .ok (.iconst 1, 1) := by decide +kernel
theorem dd_T_advance_219 : decode bb_T_advance 219 = .ok (.goto 4, 3) := by decide +kernel
theorem dd_T_advance_222 : decode bb_T_advance 222 = .ok (.iconst 0, 1) := by decide +kernel
theorem dd_T_advance_223 : decode bb_T_advance 223 = .ok (.istore_n 1, 1) := by decide +kernel
theorem dd_T_advance_224 : decode bb_T_advance 224 = .ok (.iload_n 1, 1) := by decide +kernel
theorem dd_T_advance_225 : decode bb_T_advance 225 = .ok (.ifCond .eq 38, 3) := by decide +kernel
theorem dd_T_advance_228 : decode bb_T_advance 228 = .ok (.aload_n 0, 1) := by decide +kernel
theorem dd_T_advance_229 : decode bb_T_advance 229 = .ok (.getfield 22, 3) := by decide +kernel
theorem dd_T_advance_232 : decode bb_T_advance 232 = .ok (.aload_n 0, 1) := by decide +kernel
theorem dd_T_advance_233 : decode bb_T_advance 233 = .ok (.getfield 15, 3) := by decide +kernel
theorem dd_T_advance_236 : decode bb_T_advance 236 = .ok (.if_icmp .ge 27, 3) := by decide +kernel
theorem dd_T_advance_239 : decode bb_T_advance 239 = .ok (.aload_n 0, 1) := by decide +kernel
theorem dd_T_advance_240 : decode bb_T_advance 240 = .ok (.getfield 11, 3) := by decide +kernel
theorem dd_T_advance_243 : decode bb_T_advance 243 = .ok (.aload_n 0, 1) := by decide +kernel
theorem dd_T_advance_244 : decode bb_T_advance 244 = .ok (.getfield 22, 3) := by decide +kernel
theorem dd_T_advance_247 : decode bb_T_advance 247 = .ok (.iaload, 1) := by decide +kernel
theorem dd_T_advance_248 : decode bb_T_advance 248 = .ok (.bipush 61, 2) := by decide +kernel
theorem dd_T_advance_250 : decode bb_T_advance 250 = .ok (.if_icmp .ne 13, 3) := by decide +kernel
theorem dd_T_advance_253 : decode bb_T_advance 253 = .ok (.aload_n 0, 1) := by decide +kernel
theorem dd_T_advance_254 : decode bb_T_advance 254 = .ok (.dup, 1) := by decide +kernel
theorem dd_T_advance_255 : decode bb_T_advance 255 = .ok (.getfield 22, 3) := by decide +kernel
theorem dd_T_advance_258 : decode bb_T_advance 258 = .ok (.iconst 1, 1) := by decide +kernel
theorem dd_T_advance_259 : decode bb_T_advance 259 = .ok (.iadd, 1) := by decide +kernel
theorem dd_T_advance_260 : decode bb_T_advance 260 = .ok (.putfield 22, 3) := by decide +kernel
theorem dd_T_advance_263 : decode bb_T_advance 263 = .ok (.return_, 1) := by decide +kernel
def mm_T_advance_j263 (N : Nat) (this : Option Nat) (h_263 : ss_Hp) : Option ss_Hp :=
  some h_263
def mm_T_advance_j223 (N : Nat) (this : Option Nat) (s0_223 : Int32) (h_223 : ss_Hp) : Option ss_Hp :=
  if s0_223 = 0 then
    mm_T_advance_j263 N this h_223
  else
    (ss_gi h_223 this 2 4).bind fun v2 =>
    (ss_gi h_223 this 2 0).bind fun v3 =>
    if v3 ≤ v2 then
      mm_T_advance_j263 N this h_223
    else
      (ss_gr h_223 this 2 0).bind fun r5 =>
      (ss_gi h_223 this 2 4).bind fun v6 =>
      (ss_ai h_223 r5 20 v6).bind fun v7 =>
      if v7 = (61 : Int32) then
        (ss_gi h_223 this 2 4).bind fun v9 =>
        (ss_pi h_223 this 2 4 (v9 + (1 : Int32))).bind fun h10 =>
        mm_T_advance_j263 N this h10
      else
        mm_T_advance_j263 N this h_223
def mm_T_advance_j218 (N : Nat) (this : Option Nat) (h_218 : ss_Hp) : Option ss_Hp :=
  mm_T_advance_j223 N this (1 : Int32) h_218
def mm_T_advance_b150 (N : Nat) (this : Option Nat) (st : ss_Hp) : Option (ss_Hp ⊕ ss_Hp) :=
  match st with
  | h_150 =>
    (ss_gi h_150 this 2 4).bind fun v34 =>
    (ss_gi h_150 this 2 0).bind fun v35 =>
    if v35 ≤ v34 then
      some (.inr h_150)
    else
      (ss_gi h_150 this 2 4).bind fun v37 =>
      (mm_T_isDigit N this v37 h_150).bind fun v38 =>
      if v38 = 0 then
        some (.inr h_150)
      else
        (ss_gi h_150 this 2 4).bind fun v40 =>
        (ss_pi h_150 this 2 4 (v40 + (1 : Int32))).bind fun h41 =>
        some (.inl h41)
def mm_T_advance_b99 (N : Nat) (this : Option Nat) (st : ss_Hp) : Option (ss_Hp ⊕ ss_Hp) :=
  match st with
  | h_99 =>
    (ss_gi h_99 this 2 4).bind fun v43 =>
    (ss_gi h_99 this 2 0).bind fun v44 =>
    if v44 ≤ v43 then
      some (.inr h_99)
    else
      (ss_gi h_99 this 2 4).bind fun v46 =>
      (mm_T_isLetter N this v46 h_99).bind fun v47 =>
      if v47 = 0 then
        some (.inr h_99)
      else
        (ss_gi h_99 this 2 4).bind fun v49 =>
        (ss_pi h_99 this 2 4 (v49 + (1 : Int32))).bind fun h50 =>
        some (.inl h50)
def mm_T_advance_b8 (N : Nat) (this : Option Nat) (st : ss_Hp) : Option (ss_Hp ⊕ ss_Hp) :=
  match st with
  | h_8 =>
    (ss_gi h_8 this 2 3).bind fun v54 =>
    (ss_gi h_8 this 2 0).bind fun v55 =>
    if v55 ≤ v54 then
      some (.inr h_8)
    else
      (ss_gr h_8 this 2 0).bind fun r57 =>
      (ss_gi h_8 this 2 3).bind fun v58 =>
      (ss_ai h_8 r57 20 v58).bind fun v59 =>
      if v59 = (32 : Int32) then
        (ss_gi h_8 this 2 3).bind fun v61 =>
        (ss_pi h_8 this 2 3 (v61 + (1 : Int32))).bind fun h62 =>
        some (.inl h62)
      else
        some (.inr h_8)
def mm_T_advance (N : Nat) (this : Option Nat) (h : ss_Hp) : Option ss_Hp :=
  if ss_is h this 2 = true then
    (ss_gi h this 2 4).bind fun v11 =>
    (ss_pi h this 2 3 v11).bind fun h12 =>
    (ss_lp (mm_T_advance_b8 N this) N h12).bind fun h_8_46 =>
    (ss_gi h_8_46 this 2 3).bind fun v13 =>
    (ss_pi h_8_46 this 2 4 (v13 + (1 : Int32))).bind fun h14 =>
    (ss_gi h14 this 2 3).bind fun v15 =>
    (ss_gi h14 this 2 0).bind fun v16 =>
    if v15 < v16 then
      (ss_gi h14 this 2 3).bind fun v18 =>
      (mm_T_isLetter N this v18 h14).bind fun v19 =>
      if v19 = 0 then
        (ss_gi h14 this 2 3).bind fun v21 =>
        (mm_T_isDigit N this v21 h14).bind fun v22 =>
        if v22 = 0 then
          (ss_pi h14 this 2 2 (3 : Int32)).bind fun h24 =>
          (ss_gr h24 this 2 0).bind fun r25 =>
          (ss_gi h24 this 2 3).bind fun v26 =>
          (ss_ai h24 r25 20 v26).bind fun v27 =>
          if v27 = (60 : Int32) then
            mm_T_advance_j218 N this h24
          else
            (ss_gr h24 this 2 0).bind fun r29 =>
            (ss_gi h24 this 2 3).bind fun v30 =>
            (ss_ai h24 r29 20 v30).bind fun v31 =>
            if v31 = (62 : Int32) then
              mm_T_advance_j218 N this h24
            else
              mm_T_advance_j223 N this (0 : Int32) h24
        else
          (ss_pi h14 this 2 2 (2 : Int32)).bind fun h33 =>
          (ss_lp (mm_T_advance_b150 N this) N h33).bind fun h_150_263 =>
          mm_T_advance_j263 N this h_150_263
      else
        (ss_pi h14 this 2 2 (1 : Int32)).bind fun h42 =>
        (ss_lp (mm_T_advance_b99 N this) N h42).bind fun h_99_263 =>
        mm_T_advance_j263 N this h_99_263
    else
      (ss_pi h14 this 2 2 (0 : Int32)).bind fun h51 =>
      (ss_gi h51 this 2 3).bind fun v52 =>
      (ss_pi h51 this 2 4 v52).bind fun h53 =>
      mm_T_advance_j263 N this h53
  else none
abbrev ww_T_advance (p : Program) (l : Launch) (e : Env) (s : State) (m : MethodId) (below : List Frame) (meth : Method) (c : Code) (G : ss_G) (this : Option Nat) (h : ss_Hp) (hh : ss_Hp) (H : Heap) (locs : List Loc) (k n : Nat) (g : JFrame) : Prop := W p l e (headSpec (ss_w yy_T_advance bb_T_advance 2 none) ({ frames := 1, cells := 0, slots := 0, locals := 21 })).room s m ([ss_v (ss_b G) this] : List Value).toArray below meth c H locs k n (MQ below (ss_Qc G none hh) ([ss_v (ss_b G) this] : List Value).toArray s 0 0 (ss_A G)) g
theorem ck_T_advance {N : Nat} {this : Option Nat} {h : ss_Hp} {res : ss_Hp} (hm : mm_T_advance N this h = some res) : ss_is h this 2 = true := (ss_chk hm).1
set_option maxHeartbeats 4000000 in
set_option maxRecDepth 100000 in
theorem cc_T_advance (l : Launch) (G : ss_G) (N : Nat) (this : Option Nat) (h : ss_Hp) (hh : ss_Hp) (hm : mm_T_advance N this h = some hh) : ss_Ct l G yy_T_advance bb_T_advance 2 none ({ frames := 1, cells := 0, slots := 0, locals := 21 }) [ss_v (ss_b G) this] h none hh := by
  obtain ⟨hck, hm⟩ := ss_chk hm
  refine Met.ofW (cc := bb_T_advance) (maxL := 2) (ret := none) (by decide) rfl ?_
  intro p e s m args below meth c s₁ B hml hv
  obtain ⟨rfl, hR, hK⟩ := hv
  have hC : CallFix p m c bb_T_advance 2 s _ lw_g sR_2 := ⟨B.exec, B.bytes, hml, findClass_of_methodNamed B.named, fun w hw => atoms_spec (ws := ss_w yy_T_advance bb_T_advance 2 none) B.pre w (List.mem_cons_of_mem _ hw)⟩
  have hx := hC.1
  have hb := hC.2.1
  have hr := B.returns
  have hlocks := B.notSynchronized
  have hS : va_S (ss_A G) s.heap s.heap [] := va_S.rf
  have hl := lv_entry ([ss_v (ss_b G) this]) (n := 2) (by simp [lg_sl, ss_v_cat, ss_cat_i, ss_cat_l, ss_cat_r])
  rw [lg_entry_eq]
  generalize (lg_sl ([ss_v (ss_b G) this]) ++ List.replicate (2 - (lg_sl ([ss_v (ss_b G) this])).length) Slot.unset).toArray = ls at hl ⊢
  have hl : lv_has ls 2 [(0, ss_v (ss_b G) this)] := by simpa [lv_args, ss_v_cat, ss_cat_i, ss_cat_l, ss_cat_r] using hl
  have J_263 : ∀ (h_263 : ss_Hp) (H : Heap) (locs : List Loc) (ls : Array Slot), mm_T_advance_j263 N this h_263 = some hh → ss_R G h_263 H → va_S (ss_A G) s.heap H locs → lv_has ls 2 [] → ww_T_advance p l e s m below meth c G this h hh  H locs 0 0 (F0 m 263 ls []) := by
    intro h_263 H locs ls hm hR hS hl
    exact ss_vret hC hr hlocks hR hS hm dd_T_advance_263
  have J_223 : ∀ (s0_223 : Int32) (h_223 : ss_Hp) (H : Heap) (locs : List Loc) (ls : Array Slot), mm_T_advance_j223 N this s0_223 h_223 = some hh → ss_R G h_223 H → va_S (ss_A G) s.heap H locs → lv_has ls 2 [(0, ss_v (ss_b G) this)] → ww_T_advance p l e s m below meth c G this h hh  H locs 0 0 (F0 m 223 ls [.int s0_223]) := by
    intro s0_223 h_223 H locs ls hm hR hS hl
    refine lv_istore_n (lv' := [(1, .int s0_223), (0, ss_v (ss_b G) this)]) hx hb dd_T_advance_223 rfl hl (by decide) (by simp only [List.filter_cons, ss_v_cat]; rfl) (fun ls hl => ?_)
    refine lv_iload_n hx hb dd_T_advance_224 rfl (lv_at hl 0 rfl) ?_
    refine lv_if_eq (tgt := 263) hx hb dd_T_advance_225 (by decide) (fun c1 => ?_) (fun c1 => ?_)
    · have hm := ss_ift hm c1
      exact J_263 h_223 _ _ _ hm hR hS (lv_sub hl [] rfl)
    · have hm := ss_iff hm c1
      refine ss_aload_n hx hb dd_T_advance_228 rfl (lv_at hl 1 rfl) ?_
      obtain ⟨v2, qv2, hm⟩ := ss_bind hm
      refine ss_geti hC hK hR kf_T_22 qv2 dd_T_advance_229 ?_
      refine ss_aload_n hx hb dd_T_advance_232 rfl (lv_at hl 1 rfl) ?_
      obtain ⟨v3, qv3, hm⟩ := ss_bind hm
      refine ss_geti hC hK hR kf_T_15 qv3 dd_T_advance_233 ?_
      refine lv_icmp_ge (tgt := 263) hx hb dd_T_advance_236 (by decide) (fun c4 => ?_) (fun c4 => ?_)
      · have hm := ss_ift hm c4
        exact J_263 h_223 _ _ _ hm hR hS (lv_sub hl [] rfl)
      · have hm := ss_iff hm c4
        refine ss_aload_n hx hb dd_T_advance_239 rfl (lv_at hl 1 rfl) ?_
        obtain ⟨r5, qr5, hm⟩ := ss_bind hm
        refine ss_getr hC hK hR kf_T_11 rfl qr5 dd_T_advance_240 ?_
        refine ss_aload_n hx hb dd_T_advance_243 rfl (lv_at hl 1 rfl) ?_
        obtain ⟨v6, qv6, hm⟩ := ss_bind hm
        refine ss_geti hC hK hR kf_T_22 qv6 dd_T_advance_244 ?_
        obtain ⟨v7, qv7, hm⟩ := ss_bind hm
        refine ss_iald hC hK hR qv7 dd_T_advance_247 ?_
        refine lv_bipush (v := 61) hx hb dd_T_advance_248 (by decide) ?_
        refine lv_icmp_ne (tgt := 263) hx hb dd_T_advance_250 (by decide) (fun c8 => ?_) (fun c8 => ?_)
        · have hm := ss_iff hm c8
          exact J_263 h_223 _ _ _ hm hR hS (lv_sub hl [] rfl)
        · have hm := ss_ift hm c8
          refine ss_aload_n hx hb dd_T_advance_253 rfl (lv_at hl 1 rfl) ?_
          refine ss_dupr hx hb dd_T_advance_254 ?_
          obtain ⟨v9, qv9, hm⟩ := ss_bind hm
          refine ss_geti hC hK hR kf_T_22 qv9 dd_T_advance_255 ?_
          refine lv_iconst (v := 1) hx hb dd_T_advance_258 (by decide) ?_
          refine lv_iadd hx hb dd_T_advance_259 ?_
          obtain ⟨h10, qh10, hm⟩ := ss_bind hm
          refine ss_puti hC hK hR hS kp_T_22 qh10 dd_T_advance_260 (fun H locs hR hS => ?_)
          exact J_263 h10 _ _ _ hm hR hS (lv_sub hl [] rfl)
  have J_218 : ∀ (h_218 : ss_Hp) (H : Heap) (locs : List Loc) (ls : Array Slot), mm_T_advance_j218 N this h_218 = some hh → ss_R G h_218 H → va_S (ss_A G) s.heap H locs → lv_has ls 2 [(0, ss_v (ss_b G) this)] → ww_T_advance p l e s m below meth c G this h hh  H locs 0 0 (F0 m 218 ls []) := by
    intro h_218 H locs ls hm hR hS hl
    refine lv_iconst (v := 1) hx hb dd_T_advance_218 (by decide) ?_
    refine lv_goto (tgt := 223) hx hb dd_T_advance_219 (by decide) ?_
    exact J_223 (1 : Int32) h_218 _ _ _ hm hR hS hl
  refine ss_aload_n hx hb dd_T_advance_0 rfl (lv_at hl 0 rfl) ?_
  refine ss_aload_n hx hb dd_T_advance_1 rfl (lv_at hl 0 rfl) ?_
  obtain ⟨v11, qv11, hm⟩ := ss_bind hm
  refine ss_geti hC hK hR kf_T_22 qv11 dd_T_advance_2 ?_
  obtain ⟨h12, qh12, hm⟩ := ss_bind hm
  refine ss_puti hC hK hR hS kp_T_28 qh12 dd_T_advance_5 (fun H locs hR hS => ?_)
  obtain ⟨e_8, he_8, hm⟩ := ss_bind hm
  have X_8_46 : ∀  (h_8_46 : ss_Hp) (H : Heap) (locs : List Loc) (ls : Array Slot), e_8 = h_8_46 → ss_R G h_8_46 H → va_S (ss_A G) s.heap H locs → lv_has ls 2 [(0, ss_v (ss_b G) this)] → ww_T_advance p l e s m below meth c G this h hh  H locs 0 0 (F0 m 46 ls []) := by
    intro h_8_46 H locs ls hq hR hS hl
    rw [hq] at hm
    refine ss_aload_n hx hb dd_T_advance_46 rfl (lv_at hl 0 rfl) ?_
    refine ss_aload_n hx hb dd_T_advance_47 rfl (lv_at hl 0 rfl) ?_
    obtain ⟨v13, qv13, hm⟩ := ss_bind hm
    refine ss_geti hC hK hR kf_T_28 qv13 dd_T_advance_48 ?_
    refine lv_iconst (v := 1) hx hb dd_T_advance_51 (by decide) ?_
    refine lv_iadd hx hb dd_T_advance_52 ?_
    obtain ⟨h14, qh14, hm⟩ := ss_bind hm
    refine ss_puti hC hK hR hS kp_T_22 qh14 dd_T_advance_53 (fun H locs hR hS => ?_)
    refine ss_aload_n hx hb dd_T_advance_56 rfl (lv_at hl 0 rfl) ?_
    obtain ⟨v15, qv15, hm⟩ := ss_bind hm
    refine ss_geti hC hK hR kf_T_28 qv15 dd_T_advance_57 ?_
    refine ss_aload_n hx hb dd_T_advance_60 rfl (lv_at hl 0 rfl) ?_
    obtain ⟨v16, qv16, hm⟩ := ss_bind hm
    refine ss_geti hC hK hR kf_T_15 qv16 dd_T_advance_61 ?_
    refine lv_icmp_lt (tgt := 83) hx hb dd_T_advance_64 (by decide) (fun c17 => ?_) (fun c17 => ?_)
    · have hm := ss_ift hm c17
      refine ss_aload_n hx hb dd_T_advance_83 rfl (lv_at hl 0 rfl) ?_
      refine ss_aload_n hx hb dd_T_advance_84 rfl (lv_at hl 0 rfl) ?_
      obtain ⟨v18, qv18, hm⟩ := ss_bind hm
      refine ss_geti hC hK hR kf_T_28 qv18 dd_T_advance_85 ?_
      obtain ⟨v19, qv19, hm⟩ := ss_bind hm
      refine ss_cV 0 0 (As := [.int v18]) hC hK hR hS hl.1 (cc_T_isLetter l G N _ _ _ _ qv19) km_T_34 (ck_T_isLetter qv19) ⟨Nat.le_of_ble_eq_true rfl, Nat.le_of_ble_eq_true rfl⟩ ⟨Nat.le_of_ble_eq_true rfl, Nat.le_of_ble_eq_true rfl, Nat.le_of_ble_eq_true rfl, Nat.le_of_ble_eq_true rfl⟩ rfl rfl (Nat.le_of_ble_eq_true rfl) dd_T_advance_88 (fun H locs hR hS => ?_)
      refine lv_if_eq (tgt := 134) hx hb dd_T_advance_91 (by decide) (fun c20 => ?_) (fun c20 => ?_)
      · have hm := ss_ift hm c20
        refine ss_aload_n hx hb dd_T_advance_134 rfl (lv_at hl 0 rfl) ?_
        refine ss_aload_n hx hb dd_T_advance_135 rfl (lv_at hl 0 rfl) ?_
        obtain ⟨v21, qv21, hm⟩ := ss_bind hm
        refine ss_geti hC hK hR kf_T_28 qv21 dd_T_advance_136 ?_
        obtain ⟨v22, qv22, hm⟩ := ss_bind hm
        refine ss_cV 0 0 (As := [.int v21]) hC hK hR hS hl.1 (cc_T_isDigit l G N _ _ _ _ qv22) km_T_38 (ck_T_isDigit qv22) ⟨Nat.le_of_ble_eq_true rfl, Nat.le_of_ble_eq_true rfl⟩ ⟨Nat.le_of_ble_eq_true rfl, Nat.le_of_ble_eq_true rfl, Nat.le_of_ble_eq_true rfl, Nat.le_of_ble_eq_true rfl⟩ rfl rfl (Nat.le_of_ble_eq_true rfl) dd_T_advance_139 (fun H locs hR hS => ?_)
        refine lv_if_eq (tgt := 185) hx hb dd_T_advance_142 (by decide) (fun c23 => ?_) (fun c23 => ?_)
        · have hm := ss_ift hm c23
          refine ss_aload_n hx hb dd_T_advance_185 rfl (lv_at hl 0 rfl) ?_
          refine lv_iconst (v := 3) hx hb dd_T_advance_186 (by decide) ?_
          obtain ⟨h24, qh24, hm⟩ := ss_bind hm
          refine ss_puti hC hK hR hS kp_T_31 qh24 dd_T_advance_187 (fun H locs hR hS => ?_)
          refine ss_aload_n hx hb dd_T_advance_190 rfl (lv_at hl 0 rfl) ?_
          obtain ⟨r25, qr25, hm⟩ := ss_bind hm
          refine ss_getr hC hK hR kf_T_11 rfl qr25 dd_T_advance_191 ?_
          refine ss_aload_n hx hb dd_T_advance_194 rfl (lv_at hl 0 rfl) ?_
          obtain ⟨v26, qv26, hm⟩ := ss_bind hm
          refine ss_geti hC hK hR kf_T_28 qv26 dd_T_advance_195 ?_
          obtain ⟨v27, qv27, hm⟩ := ss_bind hm
          refine ss_iald hC hK hR qv27 dd_T_advance_198 ?_
          refine lv_bipush (v := 60) hx hb dd_T_advance_199 (by decide) ?_
          refine lv_icmp_eq (tgt := 218) hx hb dd_T_advance_201 (by decide) (fun c28 => ?_) (fun c28 => ?_)
          · have hm := ss_ift hm c28
            exact J_218 h24 _ _ _ hm hR hS hl
          · have hm := ss_iff hm c28
            refine ss_aload_n hx hb dd_T_advance_204 rfl (lv_at hl 0 rfl) ?_
            obtain ⟨r29, qr29, hm⟩ := ss_bind hm
            refine ss_getr hC hK hR kf_T_11 rfl qr29 dd_T_advance_205 ?_
            refine ss_aload_n hx hb dd_T_advance_208 rfl (lv_at hl 0 rfl) ?_
            obtain ⟨v30, qv30, hm⟩ := ss_bind hm
            refine ss_geti hC hK hR kf_T_28 qv30 dd_T_advance_209 ?_
            obtain ⟨v31, qv31, hm⟩ := ss_bind hm
            refine ss_iald hC hK hR qv31 dd_T_advance_212 ?_
            refine lv_bipush (v := 62) hx hb dd_T_advance_213 (by decide) ?_
            refine lv_icmp_ne (tgt := 222) hx hb dd_T_advance_215 (by decide) (fun c32 => ?_) (fun c32 => ?_)
            · have hm := ss_iff hm c32
              refine lv_iconst (v := 0) hx hb dd_T_advance_222 (by decide) ?_
              exact J_223 (0 : Int32) h24 _ _ _ hm hR hS hl
            · have hm := ss_ift hm c32
              exact J_218 h24 _ _ _ hm hR hS hl
        · have hm := ss_iff hm c23
          refine ss_aload_n hx hb dd_T_advance_145 rfl (lv_at hl 0 rfl) ?_
          refine lv_iconst (v := 2) hx hb dd_T_advance_146 (by decide) ?_
          obtain ⟨h33, qh33, hm⟩ := ss_bind hm
          refine ss_puti hC hK hR hS kp_T_31 qh33 dd_T_advance_147 (fun H locs hR hS => ?_)
          obtain ⟨e_150, he_150, hm⟩ := ss_bind hm
          have X_150_263 : ∀  (h_150_263 : ss_Hp) (H : Heap) (locs : List Loc) (ls : Array Slot), e_150 = h_150_263 → ss_R G h_150_263 H → va_S (ss_A G) s.heap H locs → lv_has ls 2 [] → ww_T_advance p l e s m below meth c G this h hh  H locs 0 0 (F0 m 263 ls []) := by
            intro h_150_263 H locs ls hq hR hS hl
            rw [hq] at hm
            exact J_263 h_150_263 _ _ _ hm hR hS hl
          have L_150 : ∀ (n : Nat)  (h_150 : ss_Hp) (H : Heap) (locs : List Loc) (ls : Array Slot), ss_lp (mm_T_advance_b150 N this) n h_150 = some e_150 → ss_R G h_150 H → va_S (ss_A G) s.heap H locs → lv_has ls 2 [(0, ss_v (ss_b G) this)] → ww_T_advance p l e s m below meth c G this h hh  H locs 0 0 (F0 m 150 ls []) := by
            intro n
            induction n with
            | zero => intro h_150 H locs ls hm; cases hm
            | succ n ih_150 =>
              intro h_150 H locs ls hm hR hS hl
              obtain ⟨z_150, hm, hz1_150, hz2_150⟩ := ss_lps hm
              refine ss_aload_n hx hb dd_T_advance_150 rfl (lv_at hl 0 rfl) ?_
              obtain ⟨v34, qv34, hm⟩ := ss_bind hm
              refine ss_geti hC hK hR kf_T_22 qv34 dd_T_advance_151 ?_
              refine ss_aload_n hx hb dd_T_advance_154 rfl (lv_at hl 0 rfl) ?_
              obtain ⟨v35, qv35, hm⟩ := ss_bind hm
              refine ss_geti hC hK hR kf_T_15 qv35 dd_T_advance_155 ?_
              refine lv_icmp_ge (tgt := 263) hx hb dd_T_advance_158 (by decide) (fun c36 => ?_) (fun c36 => ?_)
              · have hm := ss_ift hm c36
                exact X_150_263 h_150 _ _ _ (hz2_150 _ (ss_some hm)) hR hS (lv_sub hl [] rfl)
              · have hm := ss_iff hm c36
                refine ss_aload_n hx hb dd_T_advance_161 rfl (lv_at hl 0 rfl) ?_
                refine ss_aload_n hx hb dd_T_advance_162 rfl (lv_at hl 0 rfl) ?_
                obtain ⟨v37, qv37, hm⟩ := ss_bind hm
                refine ss_geti hC hK hR kf_T_22 qv37 dd_T_advance_163 ?_
                obtain ⟨v38, qv38, hm⟩ := ss_bind hm
                refine ss_cV 0 0 (As := [.int v37]) hC hK hR hS hl.1 (cc_T_isDigit l G N _ _ _ _ qv38) km_T_38 (ck_T_isDigit qv38) ⟨Nat.le_of_ble_eq_true rfl, Nat.le_of_ble_eq_true rfl⟩ ⟨Nat.le_of_ble_eq_true rfl, Nat.le_of_ble_eq_true rfl, Nat.le_of_ble_eq_true rfl, Nat.le_of_ble_eq_true rfl⟩ rfl rfl (Nat.le_of_ble_eq_true rfl) dd_T_advance_166 (fun H locs hR hS => ?_)
                refine lv_if_eq (tgt := 263) hx hb dd_T_advance_169 (by decide) (fun c39 => ?_) (fun c39 => ?_)
                · have hm := ss_ift hm c39
                  exact X_150_263 h_150 _ _ _ (hz2_150 _ (ss_some hm)) hR hS (lv_sub hl [] rfl)
                · have hm := ss_iff hm c39
                  refine ss_aload_n hx hb dd_T_advance_172 rfl (lv_at hl 0 rfl) ?_
                  refine ss_dupr hx hb dd_T_advance_173 ?_
                  obtain ⟨v40, qv40, hm⟩ := ss_bind hm
                  refine ss_geti hC hK hR kf_T_22 qv40 dd_T_advance_174 ?_
                  refine lv_iconst (v := 1) hx hb dd_T_advance_177 (by decide) ?_
                  refine lv_iadd hx hb dd_T_advance_178 ?_
                  obtain ⟨h41, qh41, hm⟩ := ss_bind hm
                  refine ss_puti hC hK hR hS kp_T_22 qh41 dd_T_advance_179 (fun H locs hR hS => ?_)
                  refine lv_goto (tgt := 150) hx hb dd_T_advance_182 (by decide) ?_
                  exact ih_150 h41 _ _ _ (hz1_150 _ (ss_some hm)) hR hS hl
          exact L_150 N h33 _ _ _ he_150 hR hS hl
      · have hm := ss_iff hm c20
        refine ss_aload_n hx hb dd_T_advance_94 rfl (lv_at hl 0 rfl) ?_
        refine lv_iconst (v := 1) hx hb dd_T_advance_95 (by decide) ?_
        obtain ⟨h42, qh42, hm⟩ := ss_bind hm
        refine ss_puti hC hK hR hS kp_T_31 qh42 dd_T_advance_96 (fun H locs hR hS => ?_)
        obtain ⟨e_99, he_99, hm⟩ := ss_bind hm
        have X_99_263 : ∀  (h_99_263 : ss_Hp) (H : Heap) (locs : List Loc) (ls : Array Slot), e_99 = h_99_263 → ss_R G h_99_263 H → va_S (ss_A G) s.heap H locs → lv_has ls 2 [] → ww_T_advance p l e s m below meth c G this h hh  H locs 0 0 (F0 m 263 ls []) := by
          intro h_99_263 H locs ls hq hR hS hl
          rw [hq] at hm
          exact J_263 h_99_263 _ _ _ hm hR hS hl
        have L_99 : ∀ (n : Nat)  (h_99 : ss_Hp) (H : Heap) (locs : List Loc) (ls : Array Slot), ss_lp (mm_T_advance_b99 N this) n h_99 = some e_99 → ss_R G h_99 H → va_S (ss_A G) s.heap H locs → lv_has ls 2 [(0, ss_v (ss_b G) this)] → ww_T_advance p l e s m below meth c G this h hh  H locs 0 0 (F0 m 99 ls []) := by
          intro n
          induction n with
          | zero => intro h_99 H locs ls hm; cases hm
          | succ n ih_99 =>
            intro h_99 H locs ls hm hR hS hl
            obtain ⟨z_99, hm, hz1_99, hz2_99⟩ := ss_lps hm
            refine ss_aload_n hx hb dd_T_advance_99 rfl (lv_at hl 0 rfl) ?_
            obtain ⟨v43, qv43, hm⟩ := ss_bind hm
            refine ss_geti hC hK hR kf_T_22 qv43 dd_T_advance_100 ?_
            refine ss_aload_n hx hb dd_T_advance_103 rfl (lv_at hl 0 rfl) ?_
            obtain ⟨v44, qv44, hm⟩ := ss_bind hm
            refine ss_geti hC hK hR kf_T_15 qv44 dd_T_advance_104 ?_
            refine lv_icmp_ge (tgt := 263) hx hb dd_T_advance_107 (by decide) (fun c45 => ?_) (fun c45 => ?_)
            · have hm := ss_ift hm c45
              exact X_99_263 h_99 _ _ _ (hz2_99 _ (ss_some hm)) hR hS (lv_sub hl [] rfl)
            · have hm := ss_iff hm c45
              refine ss_aload_n hx hb dd_T_advance_110 rfl (lv_at hl 0 rfl) ?_
              refine ss_aload_n hx hb dd_T_advance_111 rfl (lv_at hl 0 rfl) ?_
              obtain ⟨v46, qv46, hm⟩ := ss_bind hm
              refine ss_geti hC hK hR kf_T_22 qv46 dd_T_advance_112 ?_
              obtain ⟨v47, qv47, hm⟩ := ss_bind hm
              refine ss_cV 0 0 (As := [.int v46]) hC hK hR hS hl.1 (cc_T_isLetter l G N _ _ _ _ qv47) km_T_34 (ck_T_isLetter qv47) ⟨Nat.le_of_ble_eq_true rfl, Nat.le_of_ble_eq_true rfl⟩ ⟨Nat.le_of_ble_eq_true rfl, Nat.le_of_ble_eq_true rfl, Nat.le_of_ble_eq_true rfl, Nat.le_of_ble_eq_true rfl⟩ rfl rfl (Nat.le_of_ble_eq_true rfl) dd_T_advance_115 (fun H locs hR hS => ?_)
              refine lv_if_eq (tgt := 263) hx hb dd_T_advance_118 (by decide) (fun c48 => ?_) (fun c48 => ?_)
              · have hm := ss_ift hm c48
                exact X_99_263 h_99 _ _ _ (hz2_99 _ (ss_some hm)) hR hS (lv_sub hl [] rfl)
              · have hm := ss_iff hm c48
                refine ss_aload_n hx hb dd_T_advance_121 rfl (lv_at hl 0 rfl) ?_
                refine ss_dupr hx hb dd_T_advance_122 ?_
                obtain ⟨v49, qv49, hm⟩ := ss_bind hm
                refine ss_geti hC hK hR kf_T_22 qv49 dd_T_advance_123 ?_
                refine lv_iconst (v := 1) hx hb dd_T_advance_126 (by decide) ?_
                refine lv_iadd hx hb dd_T_advance_127 ?_
                obtain ⟨h50, qh50, hm⟩ := ss_bind hm
                refine ss_puti hC hK hR hS kp_T_22 qh50 dd_T_advance_128 (fun H locs hR hS => ?_)
                refine lv_goto (tgt := 99) hx hb dd_T_advance_131 (by decide) ?_
                exact ih_99 h50 _ _ _ (hz1_99 _ (ss_some hm)) hR hS hl
        exact L_99 N h42 _ _ _ he_99 hR hS hl
    · have hm := ss_iff hm c17
      refine ss_aload_n hx hb dd_T_advance_67 rfl (lv_at hl 0 rfl) ?_
      refine lv_iconst (v := 0) hx hb dd_T_advance_68 (by decide) ?_
      obtain ⟨h51, qh51, hm⟩ := ss_bind hm
      refine ss_puti hC hK hR hS kp_T_31 qh51 dd_T_advance_69 (fun H locs hR hS => ?_)
      refine ss_aload_n hx hb dd_T_advance_72 rfl (lv_at hl 0 rfl) ?_
      refine ss_aload_n hx hb dd_T_advance_73 rfl (lv_at hl 0 rfl) ?_
      obtain ⟨v52, qv52, hm⟩ := ss_bind hm
      refine ss_geti hC hK hR kf_T_28 qv52 dd_T_advance_74 ?_
      obtain ⟨h53, qh53, hm⟩ := ss_bind hm
      refine ss_puti hC hK hR hS kp_T_22 qh53 dd_T_advance_77 (fun H locs hR hS => ?_)
      refine lv_goto (tgt := 263) hx hb dd_T_advance_80 (by decide) ?_
      exact J_263 h53 _ _ _ hm hR hS (lv_sub hl [] rfl)
  have L_8 : ∀ (n : Nat)  (h_8 : ss_Hp) (H : Heap) (locs : List Loc) (ls : Array Slot), ss_lp (mm_T_advance_b8 N this) n h_8 = some e_8 → ss_R G h_8 H → va_S (ss_A G) s.heap H locs → lv_has ls 2 [(0, ss_v (ss_b G) this)] → ww_T_advance p l e s m below meth c G this h hh  H locs 0 0 (F0 m 8 ls []) := by
    intro n
    induction n with
    | zero => intro h_8 H locs ls hm; cases hm
    | succ n ih_8 =>
      intro h_8 H locs ls hm hR hS hl
      obtain ⟨z_8, hm, hz1_8, hz2_8⟩ := ss_lps hm
      refine ss_aload_n hx hb dd_T_advance_8 rfl (lv_at hl 0 rfl) ?_
      obtain ⟨v54, qv54, hm⟩ := ss_bind hm
      refine ss_geti hC hK hR kf_T_28 qv54 dd_T_advance_9 ?_
      refine ss_aload_n hx hb dd_T_advance_12 rfl (lv_at hl 0 rfl) ?_
      obtain ⟨v55, qv55, hm⟩ := ss_bind hm
      refine ss_geti hC hK hR kf_T_15 qv55 dd_T_advance_13 ?_
      refine lv_icmp_ge (tgt := 46) hx hb dd_T_advance_16 (by decide) (fun c56 => ?_) (fun c56 => ?_)
      · have hm := ss_ift hm c56
        exact X_8_46 h_8 _ _ _ (hz2_8 _ (ss_some hm)) hR hS hl
      · have hm := ss_iff hm c56
        refine ss_aload_n hx hb dd_T_advance_19 rfl (lv_at hl 0 rfl) ?_
        obtain ⟨r57, qr57, hm⟩ := ss_bind hm
        refine ss_getr hC hK hR kf_T_11 rfl qr57 dd_T_advance_20 ?_
        refine ss_aload_n hx hb dd_T_advance_23 rfl (lv_at hl 0 rfl) ?_
        obtain ⟨v58, qv58, hm⟩ := ss_bind hm
        refine ss_geti hC hK hR kf_T_28 qv58 dd_T_advance_24 ?_
        obtain ⟨v59, qv59, hm⟩ := ss_bind hm
        refine ss_iald hC hK hR qv59 dd_T_advance_27 ?_
        refine lv_bipush (v := 32) hx hb dd_T_advance_28 (by decide) ?_
        refine lv_icmp_ne (tgt := 46) hx hb dd_T_advance_30 (by decide) (fun c60 => ?_) (fun c60 => ?_)
        · have hm := ss_iff hm c60
          exact X_8_46 h_8 _ _ _ (hz2_8 _ (ss_some hm)) hR hS hl
        · have hm := ss_ift hm c60
          refine ss_aload_n hx hb dd_T_advance_33 rfl (lv_at hl 0 rfl) ?_
          refine ss_dupr hx hb dd_T_advance_34 ?_
          obtain ⟨v61, qv61, hm⟩ := ss_bind hm
          refine ss_geti hC hK hR kf_T_28 qv61 dd_T_advance_35 ?_
          refine lv_iconst (v := 1) hx hb dd_T_advance_38 (by decide) ?_
          refine lv_iadd hx hb dd_T_advance_39 ?_
          obtain ⟨h62, qh62, hm⟩ := ss_bind hm
          refine ss_puti hC hK hR hS kp_T_28 qh62 dd_T_advance_40 (fun H locs hR hS => ?_)
          refine lv_goto (tgt := 8) hx hb dd_T_advance_43 (by decide) ?_
          exact ih_8 h62 _ _ _ (hz1_8 _ (ss_some hm)) hR hS hl
  exact L_8 N h12 _ _ _ he_8 hR hS hl
