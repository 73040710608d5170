theorem dd_G_init_0 : decode bb_G_init 0 = .ok (.aload_n 0, 1) := by decide +kernel
theorem dd_G_init_1 : decode bb_G_init 1 = .ok (.invokespecial 3, 3) := by decide +kernel
theorem dd_G_init_4 : decode bb_G_init 4 = .ok (.aload_n 0, 1) := by decide +kernel
theorem dd_G_init_5 : decode bb_G_init 5 = .ok (.bipush 8, 2) := by decide +kernel
theorem dd_G_init_7 : decode bb_G_init 7 = .ok (.newarray .int, 2) := by decide +kernel
theorem dd_G_init_9 : decode bb_G_init 9 = .ok (.putfield 9, 3) := by decide +kernel
theorem dd_G_init_12 : decode bb_G_init 12 = .ok (.aload_n 0, 1) := by decide +kernel
theorem dd_G_init_13 : decode bb_G_init 13 = .ok (.bipush 8, 2) := by decide +kernel
theorem dd_G_init_15 : decode bb_G_init 15 = .ok (.newarray .int, 2) := by decide +kernel
theorem dd_G_init_17 : decode bb_G_init 17 = .ok (.putfield 15, 3) := by decide +kernel
theorem dd_G_init_20 : decode bb_G_init 20 = .ok (.iconst 0, 1) := by decide +kernel
theorem dd_G_init_21 : decode bb_G_init 21 = .ok (.istore_n 1, 1) := by decide +kernel
theorem dd_G_init_22 : decode bb_G_init 22 = .ok (.iload_n 1, 1) := by decide +kernel
theorem dd_G_init_23 : decode bb_G_init 23 = .ok (.bipush 8, 2) := by decide +kernel
theorem dd_G_init_25 : decode bb_G_init 25 = .ok (.if_icmp .ge 16, 3) := by decide +kernel
theorem dd_G_init_28 : decode bb_G_init 28 = .ok (.aload_n 0, 1) := by decide +kernel
theorem dd_G_init_29 : decode bb_G_init 29 = .ok (.getfield 15, 3) := by decide +kernel
theorem dd_G_init_32 : decode bb_G_init 32 = .ok (.iload_n 1, 1) := by decide +kernel
theorem dd_G_init_33 : decode bb_G_init 33 = .ok (.iconst (-1), 1) := by decide +kernel
theorem dd_G_init_34 : decode bb_G_init 34 = .ok (.iastore, 1) := by decide +kernel
theorem dd_G_init_35 : decode bb_G_init 35 = .ok (.iinc 1 1, 3) := by decide +kernel
theorem dd_G_init_38 : decode bb_G_init 38 = .ok (.goto (-16), 3) := by decide +kernel
theorem dd_G_init_41 : decode bb_G_init 41 = .ok (.return_, 1) := by decide +kernel
def mm_G_init_b22 (N : Nat) (this : Option Nat) (st : Int32 × ss_Hp) : Option ((Int32 × ss_Hp) ⊕ ss_Hp) :=
  match st with
  | (x1_22, h_22) =>
    if (8 : Int32) ≤ x1_22 then
      some (.inr h_22)
    else
      (ss_gr h_22 this 0 1).bind fun r8 =>
      (ss_ui h_22 r8 20 x1_22 (-1 : Int32)).bind fun h9 =>
      (some (x1_22 + (1 : Int32))).bind fun v10 =>
      some (.inl (v10, h9))
def mm_G_init (N : Nat) (this : Option Nat) (h : ss_Hp) : Option ss_Hp :=
  if ss_is h this 0 = true then
    ss_b2 (ss_na h 20 8 (8 : Int32)) fun r1 h2 =>
    (ss_pr h2 this 0 0 r1).bind fun h3 =>
    ss_b2 (ss_na h3 20 8 (8 : Int32)) fun r4 h5 =>
    (ss_pr h5 this 0 1 r4).bind fun h6 =>
    (ss_lp (mm_G_init_b22 N this) N ((0 : Int32), h6)).bind fun h_22_41 =>
    some h_22_41
  else none
abbrev ww_G_init (p : Program) (l : Launch) (e : Env) (s : State) (m : MethodId) (below : List Frame) (meth : Method) (c : Code) (G : ss_G) (this : Option Nat) (h : ss_Hp) (hh : ss_Hp) (H : Heap) (locs : List Loc) (k n : Nat) (g : JFrame) : Prop := W p l e (headSpec (ss_w yy_G_init bb_G_init 2 none) ({ frames := 1, cells := 2, slots := 16, locals := 80 })).room s m ([ss_v (ss_b G) this] : List Value).toArray below meth c H locs k n (MQ below (ss_Qc G none hh) ([ss_v (ss_b G) this] : List Value).toArray s 2 16 (ss_A G)) g
theorem ck_G_init {N : Nat} {this : Option Nat} {h : ss_Hp} {res : ss_Hp} (hm : mm_G_init N this h = some res) : ss_is h this 0 = true := (ss_chk hm).1
set_option maxHeartbeats 4000000 in
set_option maxRecDepth 100000 in
theorem cc_G_init (l : Launch) (G : ss_G) (N : Nat) (this : Option Nat) (h : ss_Hp) (hh : ss_Hp) (hm : mm_G_init N this h = some hh) : ss_Ct l G yy_G_init bb_G_init 2 none ({ frames := 1, cells := 2, slots := 16, locals := 80 }) [ss_v (ss_b G) this] h none hh := by
  obtain ⟨hck, hm⟩ := ss_chk hm
  refine Met.ofW (cc := bb_G_init) (maxL := 2) (ret := none) (by decide) rfl ?_
  intro p e s m args below meth c s₁ B hml hv
  obtain ⟨rfl, hR, hK⟩ := hv
  have hC : CallFix p m c bb_G_init 2 s _ lw_g sR_0 := ⟨B.exec, B.bytes, hml, findClass_of_methodNamed B.named, fun w hw => atoms_spec (ws := ss_w yy_G_init bb_G_init 2 none) B.pre w (List.mem_cons_of_mem _ hw)⟩
  have hx := hC.1
  have hb := hC.2.1
  have hr := B.returns
  have hlocks := B.notSynchronized
  have hin : meth.name = "<init>" := (name_of_methodNamed B.named B.method).1
  have hS : va_S (ss_A G) s.heap s.heap [] := va_S.rf
  have hl := lv_entry ([ss_v (ss_b G) this]) (n := 2) (by simp [lg_sl, ss_v_cat, ss_cat_i, ss_cat_l, ss_cat_r])
  rw [lg_entry_eq]
  generalize (lg_sl ([ss_v (ss_b G) this]) ++ List.replicate (2 - (lg_sl ([ss_v (ss_b G) this])).length) Slot.unset).toArray = ls at hl ⊢
  have hl : lv_has ls 2 [(0, ss_v (ss_b G) this)] := by simpa [lv_args, ss_v_cat, ss_cat_i, ss_cat_l, ss_cat_r] using hl
  refine ss_aload_n hx hb dd_G_init_0 rfl (lv_at hl 0 rfl) ?_
  obtain ⟨_, hck1⟩ := ss_isSome hck
  refine ss_init hC hl.1 kj_G_3 kj_oi kj_oc hck1 (Nat.le_of_ble_eq_true rfl) (Nat.le_of_ble_eq_true rfl) (Nat.le_of_ble_eq_true rfl) dd_G_init_1 ?_
  refine ss_aload_n hx hb dd_G_init_4 rfl (lv_at hl 0 rfl) ?_
  refine lv_bipush (v := 8) hx hb dd_G_init_5 (by decide) ?_
  obtain ⟨r1, h2, qh2, hm⟩ := ss_bind2 hm
  refine ss_newai hC hK hR hS kt_int rfl rfl (by decide) (t0 := 0) rfl (by decide) qh2 (by decide) (Nat.le_of_ble_eq_true rfl) (Nat.le_of_ble_eq_true rfl) dd_G_init_7 (fun H hR hS => ?_)
  refine W.widen (k := 1) (n := 8) (Nat.le_of_ble_eq_true rfl) (Nat.le_of_ble_eq_true rfl) ?_
  obtain ⟨h3, qh3, hm⟩ := ss_bind hm
  refine ss_putrF hC hK hR hS hin kq_G_9 rfl (Or.inr ⟨_, rfl⟩) qh3 dd_G_init_9 (fun H locs hR hS => ?_)
  refine ss_aload_n hx hb dd_G_init_12 rfl (lv_at hl 0 rfl) ?_
  refine lv_bipush (v := 8) hx hb dd_G_init_13 (by decide) ?_
  obtain ⟨r4, h5, qh5, hm⟩ := ss_bind2 hm
  refine ss_newai hC hK hR hS kt_int rfl rfl (by decide) (t0 := 0) rfl (by decide) qh5 (by decide) (Nat.le_of_ble_eq_true rfl) (Nat.le_of_ble_eq_true rfl) dd_G_init_15 (fun H hR hS => ?_)
  refine W.widen (k := 2) (n := 16) (Nat.le_of_ble_eq_true rfl) (Nat.le_of_ble_eq_true rfl) ?_
  obtain ⟨h6, qh6, hm⟩ := ss_bind hm
  refine ss_putrF hC hK hR hS hin kq_G_15 rfl (Or.inr ⟨_, rfl⟩) qh6 dd_G_init_17 (fun H locs hR hS => ?_)
  refine lv_iconst (v := 0) hx hb dd_G_init_20 (by decide) ?_
  refine lv_istore_n (lv' := [(1, .int (0 : Int32)), (0, ss_v (ss_b G) this)]) hx hb dd_G_init_21 rfl hl (by decide) (by simp only [List.filter_cons, ss_v_cat]; rfl) (fun ls hl => ?_)
  obtain ⟨e_22, he_22, hm⟩ := ss_bind hm
  have X_22_41 : ∀  (h_22_41 : ss_Hp) (H : Heap) (locs : List Loc) (ls : Array Slot), e_22 = h_22_41 → ss_R G h_22_41 H → va_S (ss_A G) s.heap H locs → lv_has ls 2 [] → ww_G_init p l e s m below meth c G this h hh  H locs 2 16 (F0 m 41 ls []) := by
    intro h_22_41 H locs ls hq hR hS hl
    rw [hq] at hm
    exact ss_vret hC hr hlocks hR hS hm dd_G_init_41
  have L_22 : ∀ (n : Nat) (x1_22 : Int32) (h_22 : ss_Hp) (H : Heap) (locs : List Loc) (ls : Array Slot), ss_lp (mm_G_init_b22 N this) n (x1_22, h_22) = some e_22 → ss_R G h_22 H → va_S (ss_A G) s.heap H locs → lv_has ls 2 [(0, ss_v (ss_b G) this), (1, .int x1_22)] → ww_G_init p l e s m below meth c G this h hh  H locs 2 16 (F0 m 22 ls []) := by
    intro n
    induction n with
    | zero => intro x1_22 h_22 H locs ls hm; cases hm
    | succ n ih_22 =>
      intro x1_22 h_22 H locs ls hm hR hS hl
      obtain ⟨z_22, hm, hz1_22, hz2_22⟩ := ss_lps hm
      refine lv_iload_n hx hb dd_G_init_22 rfl (lv_at hl 1 rfl) ?_
      refine lv_bipush (v := 8) hx hb dd_G_init_23 (by decide) ?_
      refine lv_icmp_ge (tgt := 41) hx hb dd_G_init_25 (by decide) (fun c7 => ?_) (fun c7 => ?_)
      · have hm := ss_ift hm c7
        exact X_22_41 h_22 _ _ _ (hz2_22 _ (ss_some hm)) hR hS (lv_sub hl [] rfl)
      · have hm := ss_iff hm c7
        refine ss_aload_n hx hb dd_G_init_28 rfl (lv_at hl 0 rfl) ?_
        obtain ⟨r8, qr8, hm⟩ := ss_bind hm
        refine ss_getr hC hK hR kf_G_15 rfl qr8 dd_G_init_29 ?_
        refine lv_iload_n hx hb dd_G_init_32 rfl (lv_at hl 1 rfl) ?_
        refine lv_iconst (v := -1) hx hb dd_G_init_33 (by decide) ?_
        obtain ⟨h9, qh9, hm⟩ := ss_bind hm
        refine ss_iast hC hK hR hS qh9 dd_G_init_34 (fun H locs hR hS => ?_)
        obtain ⟨v10, qv10, hm⟩ := ss_bind hm
        refine lv_iinc (v := v10) (lv' := [(1, .int v10), (0, ss_v (ss_b G) this)]) hx hb dd_G_init_35 hl (k := 1) rfl (ss_inc (by decide) qv10) (by decide) (by simp only [List.filter_cons, ss_v_cat]; rfl) (fun ls hl => ?_)
        refine lv_goto (tgt := 22) hx hb dd_G_init_38 (by decide) ?_
        exact ih_22 v10 h9 _ _ _ (hz1_22 _ (ss_some hm)) hR hS (lv_sub hl [1, 0] rfl)
  exact L_22 N (0 : Int32) h6 _ _ _ he_22 hR hS (lv_sub hl [1, 0] rfl)
theorem dd_G_copyFrom_0 : decode bb_G_copyFrom 0 = .ok (.aload_n 1, 1) := by decide +kernel
theorem dd_G_copyFrom_1 : decode bb_G_copyFrom 1 = .ok (.getfield 9, 3) := by decide +kernel
theorem dd_G_copyFrom_4 : decode bb_G_copyFrom 4 = .ok (.iconst 0, 1) := by decide +kernel
theorem dd_G_copyFrom_5 : decode bb_G_copyFrom 5 = .ok (.aload_n 0, 1) := by decide +kernel
theorem dd_G_copyFrom_6 : decode bb_G_copyFrom 6 = .ok (.getfield 9, 3) := by decide +kernel
theorem dd_G_copyFrom_9 : decode bb_G_copyFrom 9 = .ok (.iconst 0, 1) := by decide +kernel
theorem dd_G_copyFrom_10 : decode bb_G_copyFrom 10 = .ok (.bipush 8, 2) := by decide +kernel
theorem dd_G_copyFrom_12 : decode bb_G_copyFrom 12 = .ok (.invokestatic 18, 3) := by decide +kernel
theorem dd_G_copyFrom_15 : decode bb_G_copyFrom 15 = .ok (.aload_n 1, 1) := by decide +kernel
theorem dd_G_copyFrom_16 : decode bb_G_copyFrom 16 = .ok (.getfield 15, 3) := by decide +kernel
theorem dd_G_copyFrom_19 : decode bb_G_copyFrom 19 = .ok (.iconst 0, 1) := by decide +kernel
theorem dd_G_copyFrom_20 : decode bb_G_copyFrom 20 = .ok (.aload_n 0, 1) := by decide +kernel
theorem dd_G_copyFrom_21 : decode bb_G_copyFrom 21 = .ok (.getfield 15, 3) := by decide +kernel
theorem dd_G_copyFrom_24 : decode bb_G_copyFrom 24 = .ok (.iconst 0, 1) := by decide +kernel
theorem dd_G_copyFrom_25 : decode bb_G_copyFrom 25 = .ok (.bipush 8, 2) := by decide +kernel
theorem dd_G_copyFrom_27 : decode bb_G_copyFrom 27 = .ok (.invokestatic 18, 3) := by decide +kernel
theorem dd_G_copyFrom_30 : decode bb_G_copyFrom 30 = .ok (.aload_n 0, 1) := by decide +kernel
theorem dd_G_copyFrom_31 : decode bb_G_copyFrom 31 = .ok (.aload_n 1, 1) := by decide +kernel
theorem dd_G_copyFrom_32 : decode bb_G_copyFrom 32 = .ok (.getfield 24, 3) := by decide +kernel
theorem dd_G_copyFrom_35 : decode bb_G_copyFrom 35 = .ok (.putfield 24, 3) := by decide +kernel
theorem dd_G_copyFrom_38 : decode bb_G_copyFrom 38 = .ok (.aload_n 0, 1) := by decide +kernel
theorem dd_G_copyFrom_39 : decode bb_G_copyFrom 39 = .ok (.aload_n 1, 1) := by decide +kernel
theorem dd_G_copyFrom_40 : decode bb_G_copyFrom 40 = .ok (.getfield 28, 3) := by decide +kernel
theorem dd_G_copyFrom_43 : decode bb_G_copyFrom 43 = .ok (.putfield 28, 3) := by decide +kernel
theorem dd_G_copyFrom_46 : decode bb_G_copyFrom 46 = .ok (.aload_n 0, 1) := by decide +kernel
theorem dd_G_copyFrom_47 : decode bb_G_copyFrom 47 = .ok (.aload_n 1, 1) := by decide +kernel
theorem dd_G_copyFrom_48 : decode bb_G_copyFrom 48 = .ok (.getfield 31, 3) := by decide +kernel
theorem dd_G_copyFrom_51 : decode bb_G_copyFrom 51 = .ok (.putfield 31, 3) := by decide +kernel
theorem dd_G_copyFrom_54 : decode bb_G_copyFrom 54 = .ok (.aload_n 0, 1) := by decide +kernel
theorem dd_G_copyFrom_55 : decode bb_G_copyFrom 55 = .ok (.aload_n 1, 1) := by decide +kernel
theorem dd_G_copyFrom_56 : decode bb_G_copyFrom 56 = .ok (.getfield 34, 3) := by decide +kernel
theorem dd_G_copyFrom_59 : decode bb_G_copyFrom 59 = .ok (.putfield 34, 3) := by decide +kernel
theorem dd_G_copyFrom_62 : decode bb_G_copyFrom 62 = .ok (.return_, 1) := by decide +kernel
def mm_G_copyFrom (N : Nat) (this : Option Nat) (a1 : Option Nat) (h : ss_Hp) : Option ss_Hp :=
  if ss_is h this 0 = true then
    (ss_gr h a1 0 0).bind fun r1 =>
    (ss_gr h this 0 0).bind fun r2 =>
    (ss_cp h r1 (0 : Int32) r2 (0 : Int32) (8 : Int32)).bind fun h3 =>
    (ss_gr h3 a1 0 1).bind fun r4 =>
    (ss_gr h3 this 0 1).bind fun r5 =>
    (ss_cp h3 r4 (0 : Int32) r5 (0 : Int32) (8 : Int32)).bind fun h6 =>
    (ss_gi h6 a1 0 0).bind fun v7 =>
    (ss_pi h6 this 0 0 v7).bind fun h8 =>
    (ss_gi h8 a1 0 1).bind fun v9 =>
    (ss_pi h8 this 0 1 v9).bind fun h10 =>
    (ss_gi h10 a1 0 2).bind fun v11 =>
    (ss_pi h10 this 0 2 v11).bind fun h12 =>
    (ss_gi h12 a1 0 3).bind fun v13 =>
    (ss_pi h12 this 0 3 v13).bind fun h14 =>
    some h14
  else none
abbrev ww_G_copyFrom (p : Program) (l : Launch) (e : Env) (s : State) (m : MethodId) (below : List Frame) (meth : Method) (c : Code) (G : ss_G) (this : Option Nat) (a1 : Option Nat) (h : ss_Hp) (hh : ss_Hp) (H : Heap) (locs : List Loc) (k n : Nat) (g : JFrame) : Prop := W p l e (headSpec (ss_w yy_G_copyFrom bb_G_copyFrom 2 none) ({ frames := 1, cells := 0, slots := 0, locals := 80 })).room s m ([ss_v (ss_b G) this, ss_v (ss_b G) a1] : List Value).toArray below meth c H locs k n (MQ below (ss_Qc G none hh) ([ss_v (ss_b G) this, ss_v (ss_b G) a1] : List Value).toArray s 0 0 (ss_A G)) g
theorem ck_G_copyFrom {N : Nat} {this : Option Nat} {a1 : Option Nat} {h : ss_Hp} {res : ss_Hp} (hm : mm_G_copyFrom N this a1 h = some res) : ss_is h this 0 = true := (ss_chk hm).1
set_option maxHeartbeats 4000000 in
set_option maxRecDepth 100000 in
theorem cc_G_copyFrom (l : Launch) (G : ss_G) (N : Nat) (this : Option Nat) (a1 : Option Nat) (h : ss_Hp) (hh : ss_Hp) (hm : mm_G_copyFrom N this a1 h = some hh) : ss_Ct l G yy_G_copyFrom bb_G_copyFrom 2 none ({ frames := 1, cells := 0, slots := 0, locals := 80 }) [ss_v (ss_b G) this, ss_v (ss_b G) a1] h none hh := by
  obtain ⟨hck, hm⟩ := ss_chk hm
  refine Met.ofW (cc := bb_G_copyFrom) (maxL := 2) (ret := none) (by decide) rfl ?_
  intro p e s m args below meth c s₁ B hml hv
  obtain ⟨rfl, hR, hK⟩ := hv
  have hC : CallFix p m c bb_G_copyFrom 2 s _ lw_g sR_0 := ⟨B.exec, B.bytes, hml, findClass_of_methodNamed B.named, fun w hw => atoms_spec (ws := ss_w yy_G_copyFrom bb_G_copyFrom 2 none) B.pre w (List.mem_cons_of_mem _ hw)⟩
  have hx := hC.1
  have hb := hC.2.1
  have hr := B.returns
  have hlocks := B.notSynchronized
  have hS : va_S (ss_A G) s.heap s.heap [] := va_S.rf
  have hl := lv_entry ([ss_v (ss_b G) this, ss_v (ss_b G) a1]) (n := 2) (by simp [lg_sl, ss_v_cat, ss_cat_i, ss_cat_l, ss_cat_r])
  rw [lg_entry_eq]
  generalize (lg_sl ([ss_v (ss_b G) this, ss_v (ss_b G) a1]) ++ List.replicate (2 - (lg_sl ([ss_v (ss_b G) this, ss_v (ss_b G) a1])).length) Slot.unset).toArray = ls at hl ⊢
  have hl : lv_has ls 2 [(0, ss_v (ss_b G) this), (1, ss_v (ss_b G) a1)] := by simpa [lv_args, ss_v_cat, ss_cat_i, ss_cat_l, ss_cat_r] using hl
  refine ss_aload_n hx hb dd_G_copyFrom_0 rfl (lv_at hl 1 rfl) ?_
  obtain ⟨r1, qr1, hm⟩ := ss_bind hm
  refine ss_getr hC hK hR kf_G_9 rfl qr1 dd_G_copyFrom_1 ?_
  refine lv_iconst (v := 0) hx hb dd_G_copyFrom_4 (by decide) ?_
  refine ss_aload_n hx hb dd_G_copyFrom_5 rfl (lv_at hl 0 rfl) ?_
  obtain ⟨r2, qr2, hm⟩ := ss_bind hm
  refine ss_getr hC hK hR kf_G_9 rfl qr2 dd_G_copyFrom_6 ?_
  refine lv_iconst (v := 0) hx hb dd_G_copyFrom_9 (by decide) ?_
  refine lv_bipush (v := 8) hx hb dd_G_copyFrom_10 (by decide) ?_
  obtain ⟨h3, qh3, hm⟩ := ss_bind hm
  refine ss_copy hC hK hR hS hl.1 kj_G_18 kj_ac_n kj_ac_s kj_sys qh3 (Nat.le_of_ble_eq_true rfl) (Nat.le_of_ble_eq_true rfl) (by decide) dd_G_copyFrom_12 (fun H locs hR hS => ?_)
  refine ss_aload_n hx hb dd_G_copyFrom_15 rfl (lv_at hl 1 rfl) ?_
  obtain ⟨r4, qr4, hm⟩ := ss_bind hm
  refine ss_getr hC hK hR kf_G_15 rfl qr4 dd_G_copyFrom_16 ?_
  refine lv_iconst (v := 0) hx hb dd_G_copyFrom_19 (by decide) ?_
  refine ss_aload_n hx hb dd_G_copyFrom_20 rfl (lv_at hl 0 rfl) ?_
  obtain ⟨r5, qr5, hm⟩ := ss_bind hm
  refine ss_getr hC hK hR kf_G_15 rfl qr5 dd_G_copyFrom_21 ?_
  refine lv_iconst (v := 0) hx hb dd_G_copyFrom_24 (by decide) ?_
  refine lv_bipush (v := 8) hx hb dd_G_copyFrom_25 (by decide) ?_
  obtain ⟨h6, qh6, hm⟩ := ss_bind hm
  refine ss_copy hC hK hR hS hl.1 kj_G_18 kj_ac_n kj_ac_s kj_sys qh6 (Nat.le_of_ble_eq_true rfl) (Nat.le_of_ble_eq_true rfl) (by decide) dd_G_copyFrom_27 (fun H locs hR hS => ?_)
  refine ss_aload_n hx hb dd_G_copyFrom_30 rfl (lv_at hl 0 rfl) ?_
  refine ss_aload_n hx hb dd_G_copyFrom_31 rfl (lv_at hl 1 rfl) ?_
  obtain ⟨v7, qv7, hm⟩ := ss_bind hm
  refine ss_geti hC hK hR kf_G_24 qv7 dd_G_copyFrom_32 ?_
  obtain ⟨h8, qh8, hm⟩ := ss_bind hm
  refine ss_puti hC hK hR hS kp_G_24 qh8 dd_G_copyFrom_35 (fun H locs hR hS => ?_)
  refine ss_aload_n hx hb dd_G_copyFrom_38 rfl (lv_at hl 0 rfl) ?_
  refine ss_aload_n hx hb dd_G_copyFrom_39 rfl (lv_at hl 1 rfl) ?_
  obtain ⟨v9, qv9, hm⟩ := ss_bind hm
  refine ss_geti hC hK hR kf_G_28 qv9 dd_G_copyFrom_40 ?_
  obtain ⟨h10, qh10, hm⟩ := ss_bind hm
  refine ss_puti hC hK hR hS kp_G_28 qh10 dd_G_copyFrom_43 (fun H locs hR hS => ?_)
  refine ss_aload_n hx hb dd_G_copyFrom_46 rfl (lv_at hl 0 rfl) ?_
  refine ss_aload_n hx hb dd_G_copyFrom_47 rfl (lv_at hl 1 rfl) ?_
  obtain ⟨v11, qv11, hm⟩ := ss_bind hm
  refine ss_geti hC hK hR kf_G_31 qv11 dd_G_copyFrom_48 ?_
  obtain ⟨h12, qh12, hm⟩ := ss_bind hm
  refine ss_puti hC hK hR hS kp_G_31 qh12 dd_G_copyFrom_51 (fun H locs hR hS => ?_)
  refine ss_aload_n hx hb dd_G_copyFrom_54 rfl (lv_at hl 0 rfl) ?_
  refine ss_aload_n hx hb dd_G_copyFrom_55 rfl (lv_at hl 1 rfl) ?_
  obtain ⟨v13, qv13, hm⟩ := ss_bind hm
  refine ss_geti hC hK hR kf_G_34 qv13 dd_G_copyFrom_56 ?_
  obtain ⟨h14, qh14, hm⟩ := ss_bind hm
  refine ss_puti hC hK hR hS kp_G_34 qh14 dd_G_copyFrom_59 (fun H locs hR hS => ?_)
  exact ss_vret hC hr hlocks hR hS hm dd_G_copyFrom_62
theorem dd_G_lay_0 : decode bb_G_lay 0 = .ok (.aload_n 0, 1) := by decide +kernel
theorem dd_G_lay_1 : decode bb_G_lay 1 = .ok (.getfield 9, 3) := by decide +kernel
theorem dd_G_lay_4 : decode bb_G_lay 4 = .ok (.iload_n 1, 1) := by decide +kernel
theorem dd_G_lay_5 : decode bb_G_lay 5 = .ok (.sipush 999, 3) := by decide +kernel
theorem dd_G_lay_8 : decode bb_G_lay 8 = .ok (.aload_n 0, 1) := by decide +kernel
theorem dd_G_lay_9 : decode bb_G_lay 9 = .ok (.getfield 9, 3) := by decide +kernel
theorem dd_G_lay_12 : decode bb_G_lay 12 = .ok (.iload_n 1, 1) := by decide +kernel
theorem dd_G_lay_13 : decode bb_G_lay 13 = .ok (.iaload, 1) := by decide +kernel
theorem dd_G_lay_14 : decode bb_G_lay 14 = .ok (.iload_n 2, 1) := by decide +kernel
theorem dd_G_lay_15 : decode bb_G_lay 15 = .ok (.iadd, 1) := by decide +kernel
theorem dd_G_lay_16 : decode bb_G_lay 16 = .ok (.invokestatic 37, 3) := by decide +kernel
theorem dd_G_lay_19 : decode bb_G_lay 19 = .ok (.iastore, 1) := by decide +kernel
theorem dd_G_lay_20 : decode bb_G_lay 20 = .ok (.return_, 1) := by decide +kernel
def mm_G_lay (N : Nat) (this : Option Nat) (a1 : Int32) (a2 : Int32) (h : ss_Hp) : Option ss_Hp :=
  if ss_is h this 0 = true then
    (ss_gr h this 0 0).bind fun r1 =>
    (ss_gr h this 0 0).bind fun r2 =>
    (ss_ai h r2 20 a1).bind fun v3 =>
    (ss_ui h r1 20 a1 (if (v3 + a2) < (999 : Int32) then (v3 + a2) else (999 : Int32))).bind fun h4 =>
    some h4
  else none
abbrev ww_G_lay (p : Program) (l : Launch) (e : Env) (s : State) (m : MethodId) (below : List Frame) (meth : Method) (c : Code) (G : ss_G) (this : Option Nat) (a1 : Int32) (a2 : Int32) (h : ss_Hp) (hh : ss_Hp) (H : Heap) (locs : List Loc) (k n : Nat) (g : JFrame) : Prop := W p l e (headSpec (ss_w yy_G_lay bb_G_lay 3 none) ({ frames := 1, cells := 0, slots := 0, locals := 80 })).room s m ([ss_v (ss_b G) this, .int a1, .int a2] : List Value).toArray below meth c H locs k n (MQ below (ss_Qc G none hh) ([ss_v (ss_b G) this, .int a1, .int a2] : List Value).toArray s 0 0 (ss_A G)) g
theorem ck_G_lay {N : Nat} {this : Option Nat} {a1 : Int32} {a2 : Int32} {h : ss_Hp} {res : ss_Hp} (hm : mm_G_lay N this a1 a2 h = some res) : ss_is h this 0 = true := (ss_chk hm).1
set_option maxHeartbeats 4000000 in
set_option maxRecDepth 100000 in
theorem cc_G_lay (l : Launch) (G : ss_G) (N : Nat) (this : Option Nat) (a1 : Int32) (a2 : Int32) (h : ss_Hp) (hh : ss_Hp) (hm : mm_G_lay N this a1 a2 h = some hh) : ss_Ct l G yy_G_lay bb_G_lay 3 none ({ frames := 1, cells := 0, slots := 0, locals := 80 }) [ss_v (ss_b G) this, .int a1, .int a2] h none hh := by
  obtain ⟨hck, hm⟩ := ss_chk hm
  refine Met.ofW (cc := bb_G_lay) (maxL := 3) (ret := none) (by decide) rfl ?_
  intro p e s m args below meth c s₁ B hml hv
  obtain ⟨rfl, hR, hK⟩ := hv
  have hC : CallFix p m c bb_G_lay 3 s _ lw_g sR_0 := ⟨B.exec, B.bytes, hml, findClass_of_methodNamed B.named, fun w hw => atoms_spec (ws := ss_w yy_G_lay bb_G_lay 3 none) B.pre w (List.mem_cons_of_mem _ hw)⟩
  have hx := hC.1
  have hb := hC.2.1
  have hr := B.returns
  have hlocks := B.notSynchronized
  have hS : va_S (ss_A G) s.heap s.heap [] := va_S.rf
  have hl := lv_entry ([ss_v (ss_b G) this, .int a1, .int a2]) (n := 3) (by simp [lg_sl, ss_v_cat, ss_cat_i, ss_cat_l, ss_cat_r])
  rw [lg_entry_eq]
  generalize (lg_sl ([ss_v (ss_b G) this, .int a1, .int a2]) ++ List.replicate (3 - (lg_sl ([ss_v (ss_b G) this, .int a1, .int a2])).length) Slot.unset).toArray = ls at hl ⊢
  have hl : lv_has ls 3 [(0, ss_v (ss_b G) this), (1, .int a1), (2, .int a2)] := by simpa [lv_args, ss_v_cat, ss_cat_i, ss_cat_l, ss_cat_r] using hl
  refine ss_aload_n hx hb dd_G_lay_0 rfl (lv_at hl 0 rfl) ?_
  obtain ⟨r1, qr1, hm⟩ := ss_bind hm
  refine ss_getr hC hK hR kf_G_9 rfl qr1 dd_G_lay_1 ?_
  refine lv_iload_n hx hb dd_G_lay_4 rfl (lv_at hl 1 rfl) ?_
  refine lv_sipush (v := 999) hx hb dd_G_lay_5 (by decide) ?_
  refine ss_aload_n hx hb dd_G_lay_8 rfl (lv_at hl 0 rfl) ?_
  obtain ⟨r2, qr2, hm⟩ := ss_bind hm
  refine ss_getr hC hK hR kf_G_9 rfl qr2 dd_G_lay_9 ?_
  refine lv_iload_n hx hb dd_G_lay_12 rfl (lv_at hl 1 rfl) ?_
  obtain ⟨v3, qv3, hm⟩ := ss_bind hm
  refine ss_iald hC hK hR qv3 dd_G_lay_13 ?_
  refine lv_iload_n hx hb dd_G_lay_14 rfl (lv_at hl 2 rfl) ?_
  refine lv_iadd hx hb dd_G_lay_15 ?_
  refine ss_min hC hl.1 kj_G_37 kj_min_s kj_math kj_min_c (Nat.le_of_ble_eq_true rfl) (by simp [ss_v_cat, ss_cat_i, ss_cat_l, ss_cat_r]) (Nat.le_of_ble_eq_true rfl) ⟨Nat.le_of_ble_eq_true rfl, Nat.le_of_ble_eq_true rfl⟩ dd_G_lay_16 ?_
  obtain ⟨h4, qh4, hm⟩ := ss_bind hm
  refine ss_iast hC hK hR hS qh4 dd_G_lay_19 (fun H locs hR hS => ?_)
  exact ss_vret hC hr hlocks hR hS hm dd_G_lay_20
theorem dd_G_snowOfAll_0 : decode bb_G_snowOfAll 0 = .ok (.iconst 0, 1) := by decide +kernel
theorem dd_G_snowOfAll_1 : decode bb_G_snowOfAll 1 = .ok (.istore_n 1, 1) := by decide +kernel
theorem dd_G_snowOfAll_2 : decode bb_G_snowOfAll 2 = .ok (.iconst 0, 1) := by decide +kernel
theorem dd_G_snowOfAll_3 : decode bb_G_snowOfAll 3 = .ok (.istore_n 2, 1) := by decide +kernel
theorem dd_G_snowOfAll_4 : decode bb_G_snowOfAll 4 = .ok (.iload_n 2, 1) := by decide +kernel
theorem dd_G_snowOfAll_5 : decode bb_G_snowOfAll 5 = .ok (.bipush 8, 2) := by decide +kernel
theorem dd_G_snowOfAll_7 : decode bb_G_snowOfAll 7 = .ok (.if_icmp .ge 18, 3) := by decide +kernel
theorem dd_G_snowOfAll_10 : decode bb_G_snowOfAll 10 = .ok (.iload_n 1, 1) := by decide +kernel
theorem dd_G_snowOfAll_11 : decode bb_G_snowOfAll 11 = .ok (.aload_n 0, 1) := by decide +kernel
theorem dd_G_snowOfAll_12 : decode bb_G_snowOfAll 12 = .ok (.getfield 9, 3) := by decide +kernel
theorem dd_G_snowOfAll_15 : decode bb_G_snowOfAll 15 = .ok (.iload_n 2, 1) := by decide +kernel
theorem dd_G_snowOfAll_16 : decode bb_G_snowOfAll 16 = .ok (.iaload, 1) := by decide +kernel
theorem dd_G_snowOfAll_17 : decode bb_G_snowOfAll 17 = .ok (.iadd, 1) := by decide +kernel
theorem dd_G_snowOfAll_18 : decode bb_G_snowOfAll 18 = .ok (.istore_n 1, 1) := by decide +kernel
theorem dd_G_snowOfAll_19 : decode bb_G_snowOfAll 19 = .ok (.iinc 2 1, 3) := by decide +kernel
theorem dd_G_snowOfAll_22 : decode bb_G_snowOfAll 22 = .ok (.goto (-18), 3) := by decide +kernel
theorem dd_G_snowOfAll_25 : decode bb_G_snowOfAll 25 = .ok (.iload_n 1, 1) := by decide +kernel
theorem dd_G_snowOfAll_26 : decode bb_G_snowOfAll 26 = .ok (.ireturn, 1) := by decide +kernel
def mm_G_snowOfAll_b4 (N : Nat) (this : Option Nat) (h : ss_Hp) (st : Int32 × Int32) : Option ((Int32 × Int32) ⊕ Int32) :=
  match st with
  | (x1_4, x2_4) =>
    if (8 : Int32) ≤ x2_4 then
      some (.inr x1_4)
    else
      (ss_gr h this 0 0).bind fun r2 =>
      (ss_ai h r2 20 x2_4).bind fun v3 =>
      (some (x1_4 + v3)).bind fun v4 =>
      (some (x2_4 + (1 : Int32))).bind fun v5 =>
      some (.inl (v4, v5))
def mm_G_snowOfAll (N : Nat) (this : Option Nat) (h : ss_Hp) : Option Int32 :=
  if ss_is h this 0 = true then
    (ss_lp (mm_G_snowOfAll_b4 N this h) N ((0 : Int32), (0 : Int32))).bind fun y1_4_25 =>
    some y1_4_25
  else none
abbrev ww_G_snowOfAll (p : Program) (l : Launch) (e : Env) (s : State) (m : MethodId) (below : List Frame) (meth : Method) (c : Code) (G : ss_G) (this : Option Nat) (h : ss_Hp) (rr : Int32) (H : Heap) (locs : List Loc) (k n : Nat) (g : JFrame) : Prop := W p l e (headSpec (ss_w yy_G_snowOfAll bb_G_snowOfAll 3 (some (.int))) ({ frames := 0, cells := 0, slots := 0, locals := 0 })).room s m ([ss_v (ss_b G) this] : List Value).toArray below meth c H locs k n (MQ below (ss_Qc G (some (.int rr)) h) ([ss_v (ss_b G) this] : List Value).toArray s 0 0 (ss_A G)) g
theorem ck_G_snowOfAll {N : Nat} {this : Option Nat} {h : ss_Hp} {res : Int32} (hm : mm_G_snowOfAll N this h = some res) : ss_is h this 0 = true := (ss_chk hm).1
set_option maxHeartbeats 4000000 in
set_option maxRecDepth 100000 in
theorem cc_G_snowOfAll (l : Launch) (G : ss_G) (N : Nat) (this : Option Nat) (h : ss_Hp) (rr : Int32) (hm : mm_G_snowOfAll N this h = some rr) : ss_Ct l G yy_G_snowOfAll bb_G_snowOfAll 3 (some (.int)) ({ frames := 0, cells := 0, slots := 0, locals := 0 }) [ss_v (ss_b G) this] h (some (.int rr)) h := by
  obtain ⟨hck, hm⟩ := ss_chk hm
  refine Met.ofW (cc := bb_G_snowOfAll) (maxL := 3) (ret := (some (.int))) (by decide) rfl ?_
  intro p e s m args below meth c s₁ B hml hv
  obtain ⟨rfl, hR, hK⟩ := hv
  have hC : CallFix p m c bb_G_snowOfAll 3 s _ lw_g sR_0 := ⟨B.exec, B.bytes, hml, findClass_of_methodNamed B.named, fun w hw => atoms_spec (ws := ss_w yy_G_snowOfAll bb_G_snowOfAll 3 (some (.int))) B.pre w (List.mem_cons_of_mem _ hw)⟩
  have hx := hC.1
  have hb := hC.2.1
  have hr := B.returns
  have hlocks := B.notSynchronized
  have hS : va_S (ss_A G) s.heap s.heap [] := va_S.rf
  have hl := lv_entry ([ss_v (ss_b G) this]) (n := 3) (by simp [lg_sl, ss_v_cat, ss_cat_i, ss_cat_l, ss_cat_r])
  rw [lg_entry_eq]
  generalize (lg_sl ([ss_v (ss_b G) this]) ++ List.replicate (3 - (lg_sl ([ss_v (ss_b G) this])).length) Slot.unset).toArray = ls at hl ⊢
  have hl : lv_has ls 3 [(0, ss_v (ss_b G) this)] := by simpa [lv_args, ss_v_cat, ss_cat_i, ss_cat_l, ss_cat_r] using hl
  refine lv_iconst (v := 0) hx hb dd_G_snowOfAll_0 (by decide) ?_
  refine lv_istore_n (lv' := [(1, .int (0 : Int32)), (0, ss_v (ss_b G) this)]) hx hb dd_G_snowOfAll_1 rfl hl (by decide) (by simp only [List.filter_cons, ss_v_cat]; rfl) (fun ls hl => ?_)
  refine lv_iconst (v := 0) hx hb dd_G_snowOfAll_2 (by decide) ?_
  refine lv_istore_n (lv' := [(2, .int (0 : Int32)), (1, .int (0 : Int32)), (0, ss_v (ss_b G) this)]) hx hb dd_G_snowOfAll_3 rfl hl (by decide) rfl (fun ls hl => ?_)
  obtain ⟨e_4, he_4, hm⟩ := ss_bind hm
  have X_4_25 : ∀ (y1_4_25 : Int32) (H : Heap) (locs : List Loc) (ls : Array Slot), e_4 = y1_4_25 → ss_R G h H → va_S (ss_A G) s.heap H locs → lv_has ls 3 [(1, .int y1_4_25)] → ww_G_snowOfAll p l e s m below meth c G this h rr  H locs 0 0 (F0 m 25 ls []) := by
    intro y1_4_25 H locs ls hq hR hS hl
    rw [hq] at hm
    refine lv_iload_n hx hb dd_G_snowOfAll_25 rfl (lv_at hl 0 rfl) ?_
    exact ss_iret hC hr hlocks hR hS (ss_with _ hm) dd_G_snowOfAll_26
  have L_4 : ∀ (n : Nat) (x1_4 : Int32) (x2_4 : Int32) (H : Heap) (locs : List Loc) (ls : Array Slot), ss_lp (mm_G_snowOfAll_b4 N this h) n (x1_4, x2_4) = some e_4 → ss_R G h H → va_S (ss_A G) s.heap H locs → lv_has ls 3 [(0, ss_v (ss_b G) this), (1, .int x1_4), (2, .int x2_4)] → ww_G_snowOfAll p l e s m below meth c G this h rr  H locs 0 0 (F0 m 4 ls []) := by
    intro n
    induction n with
    | zero => intro x1_4 x2_4 H locs ls hm; cases hm
    | succ n ih_4 =>
      intro x1_4 x2_4 H locs ls hm hR hS hl
      obtain ⟨z_4, hm, hz1_4, hz2_4⟩ := ss_lps hm
      refine lv_iload_n hx hb dd_G_snowOfAll_4 rfl (lv_at hl 2 rfl) ?_
      refine lv_bipush (v := 8) hx hb dd_G_snowOfAll_5 (by decide) ?_
      refine lv_icmp_ge (tgt := 25) hx hb dd_G_snowOfAll_7 (by decide) (fun c1 => ?_) (fun c1 => ?_)
      · have hm := ss_ift hm c1
        exact X_4_25 x1_4  _ _ _ (hz2_4 _ (ss_some hm)) hR hS (lv_sub hl [1] rfl)
      · have hm := ss_iff hm c1
        refine lv_iload_n hx hb dd_G_snowOfAll_10 rfl (lv_at hl 1 rfl) ?_
        refine ss_aload_n hx hb dd_G_snowOfAll_11 rfl (lv_at hl 0 rfl) ?_
        obtain ⟨r2, qr2, hm⟩ := ss_bind hm
        refine ss_getr hC hK hR kf_G_9 rfl qr2 dd_G_snowOfAll_12 ?_
        refine lv_iload_n hx hb dd_G_snowOfAll_15 rfl (lv_at hl 2 rfl) ?_
        obtain ⟨v3, qv3, hm⟩ := ss_bind hm
        refine ss_iald hC hK hR qv3 dd_G_snowOfAll_16 ?_
        refine lv_iadd hx hb dd_G_snowOfAll_17 ?_
        obtain ⟨v4, qv4, hm⟩ := ss_bind hm
        refine ss_topi qv4 ?_
        refine lv_istore_n (lv' := [(1, .int v4), (0, ss_v (ss_b G) this), (2, .int x2_4)]) hx hb dd_G_snowOfAll_18 rfl hl (by decide) (by simp only [List.filter_cons, ss_v_cat]; rfl) (fun ls hl => ?_)
        obtain ⟨v5, qv5, hm⟩ := ss_bind hm
        refine lv_iinc (v := v5) (lv' := [(2, .int v5), (1, .int v4), (0, ss_v (ss_b G) this)]) hx hb dd_G_snowOfAll_19 hl (k := 2) rfl (ss_inc (by decide) qv5) (by decide) rfl (fun ls hl => ?_)
        refine lv_goto (tgt := 4) hx hb dd_G_snowOfAll_22 (by decide) ?_
        exact ih_4 v4 v5  _ _ _ (hz1_4 _ (ss_some hm)) hR hS (lv_sub hl [2, 1, 0] rfl)
  exact L_4 N (0 : Int32) (0 : Int32) _ _ _ he_4 hR hS (lv_sub hl [2, 1, 0] rfl)
theorem dd_G_halve_0 : decode bb_G_halve 0 = .ok (.iconst 0, 1) := by decide +kernel
theorem dd_G_halve_1 : decode bb_G_halve 1 = .ok (.istore_n 1, 1) := by decide +kernel
theorem dd_G_halve_2 : decode bb_G_halve 2 = .ok (.iload_n 1, 1) := by decide +kernel
theorem dd_G_halve_3 : decode bb_G_halve 3 = .ok (.bipush 8, 2) := by decide +kernel
theorem dd_G_halve_5 : decode bb_G_halve 5 = .ok (.if_icmp .ge 19, 3) := by decide +kernel
theorem dd_G_halve_8 : decode bb_G_halve 8 = .ok (.aload_n 0, 1) := by decide +kernel
theorem dd_G_halve_9 : decode bb_G_halve 9 = .ok (.getfield 9, 3) := by decide +kernel
theorem dd_G_halve_12 : decode bb_G_halve 12 = .ok (.iload_n 1, 1) := by decide +kernel
theorem dd_G_halve_13 : decode bb_G_halve 13 = .ok (.dup2, 1) := by decide +kernel
theorem dd_G_halve_14 : decode bb_G_halve 14 = .ok (.iaload, 1) := by decide +kernel
theorem dd_G_halve_15 : decode bb_G_halve 15 = .ok (.iconst 2, 1) := by decide +kernel
theorem dd_G_halve_16 : decode bb_G_halve 16 = .ok (.idiv, 1) := by decide +kernel
theorem dd_G_halve_17 : decode bb_G_halve 17 = .ok (.iastore, 1) := by decide +kernel
theorem dd_G_halve_18 : decode bb_G_halve 18 = .ok (.iinc 1 1, 3) := by decide +kernel
theorem dd_G_halve_21 : decode bb_G_halve 21 = .ok (.goto (-19), 3) := by decide +kernel
theorem dd_G_halve_24 : decode bb_G_halve 24 = .ok (.return_, 1) := by decide +kernel
def mm_G_halve_b2 (N : Nat) (this : Option Nat) (st : Int32 × ss_Hp) : Option ((Int32 × ss_Hp) ⊕ ss_Hp) :=
  match st with
  | (x1_2, h_2) =>
    if (8 : Int32) ≤ x1_2 then
      some (.inr h_2)
    else
      (ss_gr h_2 this 0 0).bind fun r2 =>
      (ss_ai h_2 r2 20 x1_2).bind fun v3 =>
      (ss_div v3 (2 : Int32)).bind fun v4 =>
      (ss_ui h_2 r2 20 x1_2 v4).bind fun h5 =>
      (some (x1_2 + (1 : Int32))).bind fun v6 =>
      some (.inl (v6, h5))
def mm_G_halve (N : Nat) (this : Option Nat) (h : ss_Hp) : Option ss_Hp :=
  if ss_is h this 0 = true then
    (ss_lp (mm_G_halve_b2 N this) N ((0 : Int32), h)).bind fun h_2_24 =>
    some h_2_24
  else none
abbrev ww_G_halve (p : Program) (l : Launch) (e : Env) (s : State) (m : MethodId) (below : List Frame) (meth : Method) (c : Code) (G : ss_G) (this : Option Nat) (h : ss_Hp) (hh : ss_Hp) (H : Heap) (locs : List Loc) (k n : Nat) (g : JFrame) : Prop := W p l e (headSpec (ss_w yy_G_halve bb_G_halve 2 none) ({ frames := 0, cells := 0, slots := 0, locals := 0 })).room s m ([ss_v (ss_b G) this] : List Value).toArray below meth c H locs k n (MQ below (ss_Qc G none hh) ([ss_v (ss_b G) this] : List Value).toArray s 0 0 (ss_A G)) g
theorem ck_G_halve {N : Nat} {this : Option Nat} {h : ss_Hp} {res : ss_Hp} (hm : mm_G_halve N this h = some res) : ss_is h this 0 = true := (ss_chk hm).1
set_option maxHeartbeats 4000000 in
set_option maxRecDepth 100000 in
theorem cc_G_halve (l : Launch) (G : ss_G) (N : Nat) (this : Option Nat) (h : ss_Hp) (hh : ss_Hp) (hm : mm_G_halve N this h = some hh) : ss_Ct l G yy_G_halve bb_G_halve 2 none ({ frames := 0, cells := 0, slots := 0, locals := 0 }) [ss_v (ss_b G) this] h none hh := by
  obtain ⟨hck, hm⟩ := ss_chk hm
  refine Met.ofW (cc := bb_G_halve) (maxL := 2) (ret := none) (by decide) rfl ?_
  intro p e s m args below meth c s₁ B hml hv
  obtain ⟨rfl, hR, hK⟩ := hv
  have hC : CallFix p m c bb_G_halve 2 s _ lw_g sR_0 := ⟨B.exec, B.bytes, hml, findClass_of_methodNamed B.named, fun w hw => atoms_spec (ws := ss_w yy_G_halve bb_G_halve 2 none) B.pre w (List.mem_cons_of_mem _ hw)⟩
  have hx := hC.1
  have hb := hC.2.1
  have hr := B.returns
  have hlocks := B.notSynchronized
  have hS : va_S (ss_A G) s.heap s.heap [] := va_S.rf
  have hl := lv_entry ([ss_v (ss_b G) this]) (n := 2) (by simp [lg_sl, ss_v_cat, ss_cat_i, ss_cat_l, ss_cat_r])
  rw [lg_entry_eq]
  generalize (lg_sl ([ss_v (ss_b G) this]) ++ List.replicate (2 - (lg_sl ([ss_v (ss_b G) this])).length) Slot.unset).toArray = ls at hl ⊢
  have hl : lv_has ls 2 [(0, ss_v (ss_b G) this)] := by simpa [lv_args, ss_v_cat, ss_cat_i, ss_cat_l, ss_cat_r] using hl
  refine lv_iconst (v := 0) hx hb dd_G_halve_0 (by decide) ?_
  refine lv_istore_n (lv' := [(1, .int (0 : Int32)), (0, ss_v (ss_b G) this)]) hx hb dd_G_halve_1 rfl hl (by decide) (by simp only [List.filter_cons, ss_v_cat]; rfl) (fun ls hl => ?_)
  obtain ⟨e_2, he_2, hm⟩ := ss_bind hm
  have X_2_24 : ∀  (h_2_24 : ss_Hp) (H : Heap) (locs : List Loc) (ls : Array Slot), e_2 = h_2_24 → ss_R G h_2_24 H → va_S (ss_A G) s.heap H locs → lv_has ls 2 [] → ww_G_halve p l e s m below meth c G this h hh  H locs 0 0 (F0 m 24 ls []) := by
    intro h_2_24 H locs ls hq hR hS hl
    rw [hq] at hm
    exact ss_vret hC hr hlocks hR hS hm dd_G_halve_24
  have L_2 : ∀ (n : Nat) (x1_2 : Int32) (h_2 : ss_Hp) (H : Heap) (locs : List Loc) (ls : Array Slot), ss_lp (mm_G_halve_b2 N this) n (x1_2, h_2) = some e_2 → ss_R G h_2 H → va_S (ss_A G) s.heap H locs → lv_has ls 2 [(0, ss_v (ss_b G) this), (1, .int x1_2)] → ww_G_halve p l e s m below meth c G this h hh  H locs 0 0 (F0 m 2 ls []) := by
    intro n
    induction n with
    | zero => intro x1_2 h_2 H locs ls hm; cases hm
    | succ n ih_2 =>
      intro x1_2 h_2 H locs ls hm hR hS hl
      obtain ⟨z_2, hm, hz1_2, hz2_2⟩ := ss_lps hm
      refine lv_iload_n hx hb dd_G_halve_2 rfl (lv_at hl 1 rfl) ?_
      refine lv_bipush (v := 8) hx hb dd_G_halve_3 (by decide) ?_
      refine lv_icmp_ge (tgt := 24) hx hb dd_G_halve_5 (by decide) (fun c1 => ?_) (fun c1 => ?_)
      · have hm := ss_ift hm c1
        exact X_2_24 h_2 _ _ _ (hz2_2 _ (ss_some hm)) hR hS (lv_sub hl [] rfl)
      · have hm := ss_iff hm c1
        refine ss_aload_n hx hb dd_G_halve_8 rfl (lv_at hl 0 rfl) ?_
        obtain ⟨r2, qr2, hm⟩ := ss_bind hm
        refine ss_getr hC hK hR kf_G_9 rfl qr2 dd_G_halve_9 ?_
        refine lv_iload_n hx hb dd_G_halve_12 rfl (lv_at hl 1 rfl) ?_
        refine ss_dup2ir hx hb dd_G_halve_13 ?_
        obtain ⟨v3, qv3, hm⟩ := ss_bind hm
        refine ss_iald hC hK hR qv3 dd_G_halve_14 ?_
        refine lv_iconst (v := 2) hx hb dd_G_halve_15 (by decide) ?_
        obtain ⟨v4, qv4, hm⟩ := ss_bind hm
        refine ss_idiv hx hb qv4 dd_G_halve_16 ?_
        obtain ⟨h5, qh5, hm⟩ := ss_bind hm
        refine ss_iast hC hK hR hS qh5 dd_G_halve_17 (fun H locs hR hS => ?_)
        obtain ⟨v6, qv6, hm⟩ := ss_bind hm
        refine lv_iinc (v := v6) (lv' := [(1, .int v6), (0, ss_v (ss_b G) this)]) hx hb dd_G_halve_18 hl (k := 1) rfl (ss_inc (by decide) qv6) (by decide) (by simp only [List.filter_cons, ss_v_cat]; rfl) (fun ls hl => ?_)
        refine lv_goto (tgt := 2) hx hb dd_G_halve_21 (by decide) ?_
        exact ih_2 v6 h5 _ _ _ (hz1_2 _ (ss_some hm)) hR hS (lv_sub hl [1, 0] rfl)
  exact L_2 N (0 : Int32) h _ _ _ he_2 hR hS (lv_sub hl [1, 0] rfl)
