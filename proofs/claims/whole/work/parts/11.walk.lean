theorem dd_T_isLetter_0 : decode bb_T_isLetter 0 = .ok (.aload_n 0, 1) := by decide +kernel
theorem dd_T_isLetter_1 : decode bb_T_isLetter 1 = .ok (.getfield 11, 3) := by decide +kernel
theorem dd_T_isLetter_4 : decode bb_T_isLetter 4 = .ok (.iload_n 1, 1) := by decide +kernel
theorem dd_T_isLetter_5 : decode bb_T_isLetter 5 = .ok (.iaload, 1) := by decide +kernel
theorem dd_T_isLetter_6 : decode bb_T_isLetter 6 = .ok (.bipush 97, 2) := by decide +kernel
theorem dd_T_isLetter_8 : decode bb_T_isLetter 8 = .ok (.if_icmp .lt 18, 3) := by decide +kernel
theorem dd_T_isLetter_11 : decode bb_T_isLetter 11 = .ok (.aload_n 0, 1) := by decide +kernel
theorem dd_T_isLetter_12 : decode bb_T_isLetter 12 = .ok (.getfield 11, 3) := by decide +kernel
theorem dd_T_isLetter_15 : decode bb_T_isLetter 15 = .ok (.iload_n 1, 1) := by decide +kernel
theorem dd_T_isLetter_16 : decode bb_T_isLetter 16 = .ok (.iaload, 1) := by decide +kernel
theorem dd_T_isLetter_17 : decode bb_T_isLetter 17 = .ok (.bipush 122, 2) := by decide +kernel
theorem dd_T_isLetter_19 : decode bb_T_isLetter 19 = .ok (.if_icmp .gt 7, 3) := by decide +kernel
theorem dd_T_isLetter_22 : decode bb_T_isLetter 22 = .ok (.iconst 1, 1) := by decide +kernel
theorem dd_T_isLetter_23 : decode bb_T_isLetter 23 = .ok (.goto 4, 3) := by decide +kernel
theorem dd_T_isLetter_26 : decode bb_T_isLetter 26 = .ok (.iconst 0, 1) := by decide +kernel
theorem dd_T_isLetter_27 : decode bb_T_isLetter 27 = .ok (.ireturn, 1) := by decide +kernel
def mm_T_isLetter_j27 (N : Nat) (this : Option Nat) (a1 : Int32) (h : ss_Hp) (s0_27 : Int32) : Option Int32 :=
  (ss_bz s0_27).bind fun v1 =>
  some v1
def mm_T_isLetter_j26 (N : Nat) (this : Option Nat) (a1 : Int32) (h : ss_Hp) : Option Int32 :=
  mm_T_isLetter_j27 N this a1 h (0 : Int32)
def mm_T_isLetter (N : Nat) (this : Option Nat) (a1 : Int32) (h : ss_Hp) : Option Int32 :=
  if ss_is h this 2 = true then
    (ss_gr h this 2 0).bind fun r2 =>
    (ss_ai h r2 20 a1).bind fun v3 =>
    if v3 < (97 : Int32) then
      mm_T_isLetter_j26 N this a1 h
    else
      (ss_gr h this 2 0).bind fun r5 =>
      (ss_ai h r5 20 a1).bind fun v6 =>
      if (122 : Int32) < v6 then
        mm_T_isLetter_j26 N this a1 h
      else
        mm_T_isLetter_j27 N this a1 h (1 : Int32)
  else none
abbrev ww_T_isLetter (p : Program) (l : Launch) (e : Env) (s : State) (m : MethodId) (below : List Frame) (meth : Method) (c : Code) (G : ss_G) (this : Option Nat) (a1 : Int32) (h : ss_Hp) (rr : Int32) (H : Heap) (locs : List Loc) (k n : Nat) (g : JFrame) : Prop := W p l e (headSpec (ss_w yy_T_isLetter bb_T_isLetter 2 (some .boolean)) ({ frames := 0, cells := 0, slots := 0, locals := 0 })).room s m ([ss_v (ss_b G) this, .int a1] : List Value).toArray below meth c H locs k n (MQ below (ss_Qc G (some (.int rr)) h) ([ss_v (ss_b G) this, .int a1] : List Value).toArray s 0 0 (ss_A G)) g
theorem ck_T_isLetter {N : Nat} {this : Option Nat} {a1 : Int32} {h : ss_Hp} {res : Int32} (hm : mm_T_isLetter N this a1 h = some res) : ss_is h this 2 = true := (ss_chk hm).1
set_option maxHeartbeats 4000000 in
set_option maxRecDepth 100000 in
theorem cc_T_isLetter (l : Launch) (G : ss_G) (N : Nat) (this : Option Nat) (a1 : Int32) (h : ss_Hp) (rr : Int32) (hm : mm_T_isLetter N this a1 h = some rr) : ss_Ct l G yy_T_isLetter bb_T_isLetter 2 (some .boolean) ({ frames := 0, cells := 0, slots := 0, locals := 0 }) [ss_v (ss_b G) this, .int a1] h (some (.int rr)) h := by
  obtain ⟨hck, hm⟩ := ss_chk hm
  refine Met.ofW (cc := bb_T_isLetter) (maxL := 2) (ret := (some .boolean)) (by decide) rfl ?_
  intro p e s m args below meth c s₁ B hml hv
  obtain ⟨rfl, hR, hK⟩ := hv
  have hC : CallFix p m c bb_T_isLetter 2 s _ lw_g sR_2 := ⟨B.exec, B.bytes, hml, findClass_of_methodNamed B.named, fun w hw => atoms_spec (ws := ss_w yy_T_isLetter bb_T_isLetter 2 (some .boolean)) B.pre w (List.mem_cons_of_mem _ hw)⟩
  have hx := hC.1
  have hb := hC.2.1
  have hr := B.returns
  have hlocks := B.notSynchronized
  have hS : va_S (ss_A G) s.heap s.heap [] := va_S.rf
  have hl := lv_entry ([ss_v (ss_b G) this, .int a1]) (n := 2) (by simp [lg_sl, ss_v_cat, ss_cat_i, ss_cat_l, ss_cat_r])
  rw [lg_entry_eq]
  generalize (lg_sl ([ss_v (ss_b G) this, .int a1]) ++ List.replicate (2 - (lg_sl ([ss_v (ss_b G) this, .int a1])).length) Slot.unset).toArray = ls at hl ⊢
  have hl : lv_has ls 2 [(0, ss_v (ss_b G) this), (1, .int a1)] := by simpa [lv_args, ss_v_cat, ss_cat_i, ss_cat_l, ss_cat_r] using hl
  have J_27 : ∀ (s0_27 : Int32) (H : Heap) (locs : List Loc) (ls : Array Slot), mm_T_isLetter_j27 N this a1 h s0_27 = some rr → ss_R G h H → va_S (ss_A G) s.heap H locs → lv_has ls 2 [] → ww_T_isLetter p l e s m below meth c G this a1 h rr  H locs 0 0 (F0 m 27 ls [.int s0_27]) := by
    intro s0_27 H locs ls hm hR hS hl
    obtain ⟨v1, qv1, hm⟩ := ss_bind hm
    obtain ⟨hnb, rfl⟩ := ss_bzs qv1
    exact ss_zret hC hr hnb hlocks hR hS (ss_with _ hm) dd_T_isLetter_27
  have J_26 : ∀  (H : Heap) (locs : List Loc) (ls : Array Slot), mm_T_isLetter_j26 N this a1 h = some rr → ss_R G h H → va_S (ss_A G) s.heap H locs → lv_has ls 2 [] → ww_T_isLetter p l e s m below meth c G this a1 h rr  H locs 0 0 (F0 m 26 ls []) := by
    intro  H locs ls hm hR hS hl
    refine lv_iconst (v := 0) hx hb dd_T_isLetter_26 (by decide) ?_
    exact J_27 (0 : Int32)  _ _ _ hm hR hS hl
  refine ss_aload_n hx hb dd_T_isLetter_0 rfl (lv_at hl 0 rfl) ?_
  obtain ⟨r2, qr2, hm⟩ := ss_bind hm
  refine ss_getr hC hK hR kf_T_11 rfl qr2 dd_T_isLetter_1 ?_
  refine lv_iload_n hx hb dd_T_isLetter_4 rfl (lv_at hl 1 rfl) ?_
  obtain ⟨v3, qv3, hm⟩ := ss_bind hm
  refine ss_iald hC hK hR qv3 dd_T_isLetter_5 ?_
  refine lv_bipush (v := 97) hx hb dd_T_isLetter_6 (by decide) ?_
  refine lv_icmp_lt (tgt := 26) hx hb dd_T_isLetter_8 (by decide) (fun c4 => ?_) (fun c4 => ?_)
  · have hm := ss_ift hm c4
    exact J_26  _ _ _ hm hR hS (lv_sub hl [] rfl)
  · have hm := ss_iff hm c4
    refine ss_aload_n hx hb dd_T_isLetter_11 rfl (lv_at hl 0 rfl) ?_
    obtain ⟨r5, qr5, hm⟩ := ss_bind hm
    refine ss_getr hC hK hR kf_T_11 rfl qr5 dd_T_isLetter_12 ?_
    refine lv_iload_n hx hb dd_T_isLetter_15 rfl (lv_at hl 1 rfl) ?_
    obtain ⟨v6, qv6, hm⟩ := ss_bind hm
    refine ss_iald hC hK hR qv6 dd_T_isLetter_16 ?_
    refine lv_bipush (v := 122) hx hb dd_T_isLetter_17 (by decide) ?_
    refine lv_icmp_gt (tgt := 26) hx hb dd_T_isLetter_19 (by decide) (fun c7 => ?_) (fun c7 => ?_)
    · have hm := ss_ift hm c7
      exact J_26  _ _ _ hm hR hS (lv_sub hl [] rfl)
    · have hm := ss_iff hm c7
      refine lv_iconst (v := 1) hx hb dd_T_isLetter_22 (by decide) ?_
      refine lv_goto (tgt := 27) hx hb dd_T_isLetter_23 (by decide) ?_
      exact J_27 (1 : Int32)  _ _ _ hm hR hS (lv_sub hl [] rfl)
theorem dd_T_isDigit_0 : decode bb_T_isDigit 0 = .ok (.aload_n 0, 1) := by decide +kernel
theorem dd_T_isDigit_1 : decode bb_T_isDigit 1 = .ok (.getfield 11, 3) := by decide +kernel
theorem dd_T_isDigit_4 : decode bb_T_isDigit 4 = .ok (.iload_n 1, 1) := by decide +kernel
theorem dd_T_isDigit_5 : decode bb_T_isDigit 5 = .ok (.iaload, 1) := by decide +kernel
theorem dd_T_isDigit_6 : decode bb_T_isDigit 6 = .ok (.bipush 48, 2) := by decide +kernel
theorem dd_T_isDigit_8 : decode bb_T_isDigit 8 = .ok (.if_icmp .lt 18, 3) := by decide +kernel
theorem dd_T_isDigit_11 : decode bb_T_isDigit 11 = .ok (.aload_n 0, 1) := by decide +kernel
theorem dd_T_isDigit_12 : decode bb_T_isDigit 12 = .ok (.getfield 11, 3) := by decide +kernel
theorem dd_T_isDigit_15 : decode bb_T_isDigit 15 = .ok (.iload_n 1, 1) := by decide +kernel
theorem dd_T_isDigit_16 : decode bb_T_isDigit 16 = .ok (.iaload, 1) := by decide +kernel
theorem dd_T_isDigit_17 : decode bb_T_isDigit 17 = .ok (.bipush 57, 2) := by decide +kernel
theorem dd_T_isDigit_19 : decode bb_T_isDigit 19 = .ok (.if_icmp .gt 7, 3) := by decide +kernel
theorem dd_T_isDigit_22 : decode bb_T_isDigit 22 = .ok (.iconst 1, 1) := by decide +kernel
theorem dd_T_isDigit_23 : decode bb_T_isDigit 23 = .ok (.goto 4, 3) := by decide +kernel
theorem dd_T_isDigit_26 : decode bb_T_isDigit 26 = .ok (.iconst 0, 1) := by decide +kernel
theorem dd_T_isDigit_27 : decode bb_T_isDigit 27 = .ok (.ireturn, 1) := by decide +kernel
def mm_T_isDigit_j27 (N : Nat) (this : Option Nat) (a1 : Int32) (h : ss_Hp) (s0_27 : Int32) : Option Int32 :=
  (ss_bz s0_27).bind fun v1 =>
  some v1
def mm_T_isDigit_j26 (N : Nat) (this : Option Nat) (a1 : Int32) (h : ss_Hp) : Option Int32 :=
  mm_T_isDigit_j27 N this a1 h (0 : Int32)
def mm_T_isDigit (N : Nat) (this : Option Nat) (a1 : Int32) (h : ss_Hp) : Option Int32 :=
  if ss_is h this 2 = true then
    (ss_gr h this 2 0).bind fun r2 =>
    (ss_ai h r2 20 a1).bind fun v3 =>
    if v3 < (48 : Int32) then
      mm_T_isDigit_j26 N this a1 h
    else
      (ss_gr h this 2 0).bind fun r5 =>
      (ss_ai h r5 20 a1).bind fun v6 =>
      if (57 : Int32) < v6 then
        mm_T_isDigit_j26 N this a1 h
      else
        mm_T_isDigit_j27 N this a1 h (1 : Int32)
  else none
abbrev ww_T_isDigit (p : Program) (l : Launch) (e : Env) (s : State) (m : MethodId) (below : List Frame) (meth : Method) (c : Code) (G : ss_G) (this : Option Nat) (a1 : Int32) (h : ss_Hp) (rr : Int32) (H : Heap) (locs : List Loc) (k n : Nat) (g : JFrame) : Prop := W p l e (headSpec (ss_w yy_T_isDigit bb_T_isDigit 2 (some .boolean)) ({ frames := 0, cells := 0, slots := 0, locals := 0 })).room s m ([ss_v (ss_b G) this, .int a1] : List Value).toArray below meth c H locs k n (MQ below (ss_Qc G (some (.int rr)) h) ([ss_v (ss_b G) this, .int a1] : List Value).toArray s 0 0 (ss_A G)) g
theorem ck_T_isDigit {N : Nat} {this : Option Nat} {a1 : Int32} {h : ss_Hp} {res : Int32} (hm : mm_T_isDigit N this a1 h = some res) : ss_is h this 2 = true := (ss_chk hm).1
set_option maxHeartbeats 4000000 in
set_option maxRecDepth 100000 in
theorem cc_T_isDigit (l : Launch) (G : ss_G) (N : Nat) (this : Option Nat) (a1 : Int32) (h : ss_Hp) (rr : Int32) (hm : mm_T_isDigit N this a1 h = some rr) : ss_Ct l G yy_T_isDigit bb_T_isDigit 2 (some .boolean) ({ frames := 0, cells := 0, slots := 0, locals := 0 }) [ss_v (ss_b G) this, .int a1] h (some (.int rr)) h := by
  obtain ⟨hck, hm⟩ := ss_chk hm
  refine Met.ofW (cc := bb_T_isDigit) (maxL := 2) (ret := (some .boolean)) (by decide) rfl ?_
  intro p e s m args below meth c s₁ B hml hv
  obtain ⟨rfl, hR, hK⟩ := hv
  have hC : CallFix p m c bb_T_isDigit 2 s _ lw_g sR_2 := ⟨B.exec, B.bytes, hml, findClass_of_methodNamed B.named, fun w hw => atoms_spec (ws := ss_w yy_T_isDigit bb_T_isDigit 2 (some .boolean)) B.pre w (List.mem_cons_of_mem _ hw)⟩
  have hx := hC.1
  have hb := hC.2.1
  have hr := B.returns
  have hlocks := B.notSynchronized
  have hS : va_S (ss_A G) s.heap s.heap [] := va_S.rf
  have hl := lv_entry ([ss_v (ss_b G) this, .int a1]) (n := 2) (by simp [lg_sl, ss_v_cat, ss_cat_i, ss_cat_l, ss_cat_r])
  rw [lg_entry_eq]
  generalize (lg_sl ([ss_v (ss_b G) this, .int a1]) ++ List.replicate (2 - (lg_sl ([ss_v (ss_b G) this, .int a1])).length) Slot.unset).toArray = ls at hl ⊢
  have hl : lv_has ls 2 [(0, ss_v (ss_b G) this), (1, .int a1)] := by simpa [lv_args, ss_v_cat, ss_cat_i, ss_cat_l, ss_cat_r] using hl
  have J_27 : ∀ (s0_27 : Int32) (H : Heap) (locs : List Loc) (ls : Array Slot), mm_T_isDigit_j27 N this a1 h s0_27 = some rr → ss_R G h H → va_S (ss_A G) s.heap H locs → lv_has ls 2 [] → ww_T_isDigit p l e s m below meth c G this a1 h rr  H locs 0 0 (F0 m 27 ls [.int s0_27]) := by
    intro s0_27 H locs ls hm hR hS hl
    obtain ⟨v1, qv1, hm⟩ := ss_bind hm
    obtain ⟨hnb, rfl⟩ := ss_bzs qv1
    exact ss_zret hC hr hnb hlocks hR hS (ss_with _ hm) dd_T_isDigit_27
  have J_26 : ∀  (H : Heap) (locs : List Loc) (ls : Array Slot), mm_T_isDigit_j26 N this a1 h = some rr → ss_R G h H → va_S (ss_A G) s.heap H locs → lv_has ls 2 [] → ww_T_isDigit p l e s m below meth c G this a1 h rr  H locs 0 0 (F0 m 26 ls []) := by
    intro  H locs ls hm hR hS hl
    refine lv_iconst (v := 0) hx hb dd_T_isDigit_26 (by decide) ?_
    exact J_27 (0 : Int32)  _ _ _ hm hR hS hl
  refine ss_aload_n hx hb dd_T_isDigit_0 rfl (lv_at hl 0 rfl) ?_
  obtain ⟨r2, qr2, hm⟩ := ss_bind hm
  refine ss_getr hC hK hR kf_T_11 rfl qr2 dd_T_isDigit_1 ?_
  refine lv_iload_n hx hb dd_T_isDigit_4 rfl (lv_at hl 1 rfl) ?_
  obtain ⟨v3, qv3, hm⟩ := ss_bind hm
  refine ss_iald hC hK hR qv3 dd_T_isDigit_5 ?_
  refine lv_bipush (v := 48) hx hb dd_T_isDigit_6 (by decide) ?_
  refine lv_icmp_lt (tgt := 26) hx hb dd_T_isDigit_8 (by decide) (fun c4 => ?_) (fun c4 => ?_)
  · have hm := ss_ift hm c4
    exact J_26  _ _ _ hm hR hS (lv_sub hl [] rfl)
  · have hm := ss_iff hm c4
    refine ss_aload_n hx hb dd_T_isDigit_11 rfl (lv_at hl 0 rfl) ?_
    obtain ⟨r5, qr5, hm⟩ := ss_bind hm
    refine ss_getr hC hK hR kf_T_11 rfl qr5 dd_T_isDigit_12 ?_
    refine lv_iload_n hx hb dd_T_isDigit_15 rfl (lv_at hl 1 rfl) ?_
    obtain ⟨v6, qv6, hm⟩ := ss_bind hm
    refine ss_iald hC hK hR qv6 dd_T_isDigit_16 ?_
    refine lv_bipush (v := 57) hx hb dd_T_isDigit_17 (by decide) ?_
    refine lv_icmp_gt (tgt := 26) hx hb dd_T_isDigit_19 (by decide) (fun c7 => ?_) (fun c7 => ?_)
    · have hm := ss_ift hm c7
      exact J_26  _ _ _ hm hR hS (lv_sub hl [] rfl)
    · have hm := ss_iff hm c7
      refine lv_iconst (v := 1) hx hb dd_T_isDigit_22 (by decide) ?_
      refine lv_goto (tgt := 27) hx hb dd_T_isDigit_23 (by decide) ?_
      exact J_27 (1 : Int32)  _ _ _ hm hR hS (lv_sub hl [] rfl)
theorem dd_T_advance_0 : decode bb_T_advance 0 = .ok (.aload_n 0, 1) := by decide +kernel
theorem dd_T_advance_1 : decode bb_T_advance 1 = .ok (.aload_n 0, 1) := by decide +kernel
theorem dd_T_advance_2 : decode bb_T_advance 2 = .ok (.getfield 22, 3) := by decide +kernel
theorem dd_T_advance_5 : decode bb_T_advance 5 = .ok (.putfield 28, 3) := by decide +kernel
theorem dd_T_advance_8 : decode bb_T_advance 8 = .ok (.aload_n 0, 1) := by decide +kernel
theorem dd_T_advance_9 : decode bb_T_advance 9 = .ok (.getfield 28, 3) := by decide +kernel
theorem dd_T_advance_12 : decode bb_T_advance 12 = .ok (.aload_n 0, 1) := by decide +kernel
theorem dd_T_advance_13 : decode bb_T_advance 13 = .ok (.getfield 15, 3) := by decide +kernel
theorem dd_T_advance_16 : decode bb_T_advance 16 = .ok (.if_icmp .ge 30, 3) := by decide +kernel
theorem dd_T_advance_19 : decode bb_T_advance 19 = .ok (.aload_n 0, 1) := by decide +kernel
theorem dd_T_advance_20 : decode bb_T_advance 20 = .ok (.getfield 11, 3) := by decide +kernel
theorem dd_T_advance_23 : decode bb_T_advance 23 = .ok (.aload_n 0, 1) := by decide +kernel
theorem dd_T_advance_24 : decode bb_T_advance 24 = .ok (.getfield 28, 3) := by decide +kernel
theorem dd_T_advance_27 : decode bb_T_advance 27 = .ok (.iaload, 1) := by decide +kernel
theorem dd_T_advance_28 : decode bb_T_advance 28 = .ok (.bipush 32, 2) := by decide +kernel
theorem dd_T_advance_30 : decode bb_T_advance 30 = .ok (.if_icmp .ne 16, 3) := by decide +kernel
theorem dd_T_advance_33 : decode bb_T_advance 33 = .ok (.aload_n 0, 1) := by decide +kernel
theorem dd_T_advance_34 : decode bb_T_advance 34 = .ok (.dup, 1) := by decide +kernel
theorem dd_T_advance_35 : decode bb_T_advance 35 = .ok (.getfield 28, 3) := by decide +kernel
theorem dd_T_advance_38 : decode bb_T_advance 38 = .ok (.iconst 1, 1) := by decide +kernel
theorem dd_T_advance_39 : decode bb_T_advance 39 = .ok (.iadd, 1) := by decide +kernel
theorem dd_T_advance_40 : decode bb_T_advance 40 = .ok (.putfield 28, 3) := by decide +kernel
theorem dd_T_advance_43 : decode bb_T_advance 43 = .ok (.goto (-35), 3) := by decide +kernel
theorem dd_T_advance_46 : decode bb_T_advance 46 = .ok (.aload_n 0, 1) := by decide +kernel
theorem dd_T_advance_47 : decode bb_T_advance 47 = .ok (.aload_n 0, 1) := by decide +kernel
theorem dd_T_advance_48 : decode bb_T_advance 48 = .ok (.getfield 28, 3) := by decide +kernel
theorem dd_T_advance_51 : decode bb_T_advance 51 = .ok (.iconst 1, 1) := by decide +kernel
theorem dd_T_advance_52 : decode bb_T_advance 52 = .ok (.iadd, 1) := by decide +kernel
theorem dd_T_advance_53 : decode bb_T_advance 53 = .ok (.putfield 22, 3) := by decide +kernel
theorem dd_T_advance_56 : decode bb_T_advance 56 = .ok (.aload_n 0, 1) := by decide +kernel
theorem dd_T_advance_57 : decode bb_T_advance 57 = .ok (.getfield 28, 3) := by decide +kernel
theorem dd_T_advance_60 : decode bb_T_advance 60 = .ok (.aload_n 0, 1) := by decide +kernel
theorem dd_T_advance_61 : decode bb_T_advance 61 = .ok (.getfield 15, 3) := by decide +kernel
theorem dd_T_advance_64 : decode bb_T_advance 64 = .ok (.if_icmp .lt 19, 3) := by decide +kernel
theorem dd_T_advance_67 : decode bb_T_advance 67 = .ok (.aload_n 0, 1) := by decide +kernel
theorem dd_T_advance_68 : decode bb_T_advance 68 = .ok (.iconst 0, 1) := by decide +kernel
theorem dd_T_advance_69 : decode bb_T_advance 69 = .ok (.putfield 31, 3) := by decide +kernel
theorem dd_T_advance_72 : decode bb_T_advance 72 = .ok (.aload_n 0, 1) := by decide +kernel
theorem dd_T_advance_73 : decode bb_T_advance 73 = .ok (.aload_n 0, 1) := by decide +kernel
theorem dd_T_advance_74 : decode bb_T_advance 74 = .ok (.getfield 28, 3) := by decide +kernel
theorem dd_T_advance_77 : decode bb_T_advance 77 = .ok (.putfield 22, 3) := by decide +kernel
theorem dd_T_advance_80 : decode bb_T_advance 80 = .ok (.goto 183, 3) := by decide +kernel
theorem dd_T_advance_83 : decode bb_T_advance 83 = .ok (.aload_n 0, 1) := by decide +kernel
theorem dd_T_advance_84 : decode bb_T_advance 84 = .ok (.aload_n 0, 1) := by decide +kernel
theorem dd_T_advance_85 : decode bb_T_advance 85 = .ok (.getfield 28, 3) := by decide +kernel
theorem dd_T_advance_88 : decode bb_T_advance 88 = .ok (.invokevirtual 34, 3) := by decide +kernel
theorem dd_T_advance_91 : decode bb_T_advance 91 = .ok (.ifCond .eq 43, 3) := by decide +kernel
theorem dd_T_advance_94 : decode bb_T_advance 94 = .ok (.aload_n 0, 1) := by decide +kernel
theorem dd_T_advance_95 : decode bb_T_advance 95 = .ok (.iconst 1, 1) := by decide +kernel
theorem dd_T_advance_96 : decode bb_T_advance 96 = .ok (.putfield 31, 3) := by decide +kernel
theorem dd_T_advance_99 : decode bb_T_advance 99 = .ok (.aload_n 0, 1) := by decide +kernel
theorem dd_T_advance_100 : decode bb_T_advance 100 = .ok (.getfield 22, 3) := by decide +kernel
theorem dd_T_advance_103 : decode bb_T_advance 103 = .ok (.aload_n 0, 1) := by decide +kernel
theorem dd_T_advance_104 : decode bb_T_advance 104 = .ok (.getfield 15, 3) := by decide +kernel
theorem dd_T_advance_107 : decode bb_T_advance 107 = .ok (.if_icmp .ge 156, 3) := by decide +kernel
theorem dd_T_advance_110 : decode bb_T_advance 110 = .ok (.aload_n 0, 1) := by decide +kernel
theorem dd_T_advance_111 : decode bb_T_advance 111 = .ok (.aload_n 0, 1) := by decide +kernel
theorem dd_T_advance_112 : decode bb_T_advance 112 = .ok (.getfield 22, 3) := by decide +kernel
theorem dd_T_advance_115 : decode bb_T_advance 115 = .ok (.invokevirtual 34, 3) := by decide +kernel
theorem dd_T_advance_118 : decode bb_T_advance 118 = .ok (.ifCond .eq 145, 3) := by decide +kernel
theorem dd_T_advance_121 : decode bb_T_advance 121 = .ok (.aload_n 0, 1) := by decide +kernel
theorem dd_T_advance_122 : decode bb_T_advance 122 = .ok (.dup, 1) := by decide +kernel
theorem dd_T_advance_123 : decode bb_T_advance 123 = .ok (.getfield 22, 3) := by decide +kernel
theorem dd_T_advance_126 : decode bb_T_advance 126 = .ok (.iconst 1, 1) := by decide +kernel
theorem dd_T_advance_127 : decode bb_T_advance 127 = .ok (.iadd, 1) := by decide +kernel
theorem dd_T_advance_128 : decode bb_T_advance 128 = .ok (.putfield 22, 3) := by decide +kernel
theorem dd_T_advance_131 : decode bb_T_advance 131 = .ok (.goto (-32), 3) := by decide +kernel
theorem dd_T_advance_134 : decode bb_T_advance 134 = .ok (.aload_n 0, 1) := by decide +kernel
theorem dd_T_advance_135 : decode bb_T_advance 135 = .ok (.aload_n 0, 1) := by decide +kernel
theorem dd_T_advance_136 : decode bb_T_advance 136 = .ok (.getfield 28, 3) := by decide +kernel
theorem dd_T_advance_139 : decode bb_T_advance 139 = .ok (.invokevirtual 38, 3) := by decide +kernel
theorem dd_T_advance_142 : decode bb_T_advance 142 = .ok (.ifCond .eq 43, 3) := by decide +kernel
theorem dd_T_advance_145 : decode bb_T_advance 145 = .ok (.aload_n 0, 1) := by decide +kernel
theorem dd_T_advance_146 : decode bb_T_advance 146 = .ok (.iconst 2, 1) := by decide +kernel
theorem dd_T_advance_147 : decode bb_T_advance 147 = .ok (.putfield 31, 3) := by decide +kernel
theorem dd_T_advance_150 : decode bb_T_advance 150 = .ok (.aload_n 0, 1) := by decide +kernel
theorem dd_T_advance_151 : decode bb_T_advance 151 = .ok (.getfield 22, 3) := by decide +kernel
theorem dd_T_advance_154 : decode bb_T_advance 154 = .ok (.aload_n 0, 1) := by decide +kernel
theorem dd_T_advance_155 : decode bb_T_advance 155 = .ok (.getfield 15, 3) := by decide +kernel
theorem dd_T_advance_158 : decode bb_T_advance 158 = .ok (.if_icmp .ge 105, 3) := by decide +kernel
theorem dd_T_advance_161 : decode bb_T_advance 161 = .ok (.aload_n 0, 1) := by decide +kernel
theorem dd_T_advance_162 : decode bb_T_advance 162 = .ok (.aload_n 0, 1) := by decide +kernel
theorem dd_T_advance_163 : decode bb_T_advance 163 = .ok (.getfield 22, 3) := by decide +kernel
theorem dd_T_advance_166 : decode bb_T_advance 166 = .ok (.invokevirtual 38, 3) := by decide +kernel
theorem dd_T_advance_169 : decode bb_T_advance 169 = .ok (.ifCond .eq 94, 3) := by decide +kernel
theorem dd_T_advance_172 : decode bb_T_advance 172 = .ok (.aload_n 0, 1) := by decide +kernel
theorem dd_T_advance_173 : decode bb_T_advance 173 = .ok (.dup, 1) := by decide +kernel
theorem dd_T_advance_174 : decode bb_T_advance 174 = .ok (.getfield 22, 3) := by decide +kernel
theorem dd_T_advance_177 : decode bb_T_advance 177 = .ok (.iconst 1, 1) := by decide +kernel
theorem dd_T_advance_178 : decode bb_T_advance 178 = .ok (.iadd, 1) := by decide +kernel
theorem dd_T_advance_179 : decode bb_T_advance 179 = .ok (.putfield 22, 3) := by decide +kernel
theorem dd_T_advance_182 : decode bb_T_advance 182 = .ok (.goto (-32), 3) := by decide +kernel
theorem dd_T_advance_185 : decode bb_T_advance 185 = .ok (.aload_n 0, 1) := by decide +kernel
theorem dd_T_advance_186 : decode bb_T_advance 186 = .ok (.iconst 3, 1) := by decide +kernel
theorem dd_T_advance_187 : decode bb_T_advance 187 = .ok (.putfield 31, 3) := by decide +kernel
theorem dd_T_advance_190 : decode bb_T_advance 190 = .ok (.aload_n 0, 1) := by decide +kernel
theorem dd_T_advance_191 : decode bb_T_advance 191 = .ok (.getfield 11, 3) := by decide +kernel
theorem dd_T_advance_194 : decode bb_T_advance 194 = .ok (.aload_n 0, 1) := by decide +kernel
theorem dd_T_advance_195 : decode bb_T_advance 195 = .ok (.getfield 28, 3) := by decide +kernel
theorem dd_T_advance_198 : decode bb_T_advance 198 = .ok (.iaload, 1) := by decide +kernel
theorem dd_T_advance_199 : decode bb_T_advance 199 = .ok (.bipush 60, 2) := by decide +kernel
theorem dd_T_advance_201 : decode bb_T_advance 201 = .ok (.if_icmp .eq 17, 3) := by decide +kernel
theorem dd_T_advance_204 : decode bb_T_advance 204 = .ok (.aload_n 0, 1) := by decide +kernel
theorem dd_T_advance_205 : decode bb_T_advance 205 = .ok (.getfield 11, 3) := by decide +kernel
theorem dd_T_advance_208 : decode bb_T_advance 208 = .ok (.aload_n 0, 1) := by decide +kernel
theorem dd_T_advance_209 : decode bb_T_advance 209 = .ok (.getfield 28, 3) := by decide +kernel
theorem dd_T_advance_212 : decode bb_T_advance 212 = .ok (.iaload, 1) := by decide +kernel
theorem dd_T_advance_213 : decode bb_T_advance 213 = .ok (.bipush 62, 2) := by decide +kernel
theorem dd_T_advance_215 : decode bb_T_advance 215 = .ok (.if_icmp .ne 7, 3) := by decide +kernel
theorem dd_T_advance_218 : decode bb_T_advance 218 = .ok (.iconst 1, 1) := by decide +kernel
theorem dd_T_advance_219 : decode bb_T_advance 219 = .ok (.goto 4, 3) := by decide +kernel
theorem dd_T_advance_222 : decode bb_T_advance 222 = .ok (.iconst 0, 1) := by decide +kernel
theorem dd_T_advance_223 : decode bb_T_advance 223 = .ok (.istore_n 1, 1) := by decide +kernel
theorem dd_T_advance_224 : decode bb_T_advance 224 = .ok (.iload_n 1, 1) := by decide +kernel
theorem dd_T_advance_225 : decode bb_T_advance 225 = .ok (.ifCond .eq 38, 3) := by decide +kernel
theorem dd_T_advance_228 : decode bb_T_advance 228 = .ok (.aload_n 0, 1) := by decide +kernel
theorem dd_T_advance_229 : decode bb_T_advance 229 = .ok (.getfield 22, 3) := by decide +kernel
theorem dd_T_advance_232 : decode bb_T_advance 232 = .ok (.aload_n 0, 1) := by decide +kernel
theorem dd_T_advance_233 : decode bb_T_advance 233 = .ok (.getfield 15, 3) := by decide +kernel
theorem dd_T_advance_236 : decode bb_T_advance 236 = .ok (.if_icmp .ge 27, 3) := by decide +kernel
theorem dd_T_advance_239 : decode bb_T_advance 239 = .ok (.aload_n 0, 1) := by decide +kernel
theorem dd_T_advance_240 : decode bb_T_advance 240 = .ok (.getfield 11, 3) := by decide +kernel
theorem dd_T_advance_243 : decode bb_T_advance 243 = .ok (.aload_n 0, 1) := by decide +kernel
theorem dd_T_advance_244 : decode bb_T_advance 244 = .ok (.getfield 22, 3) := by decide +kernel
theorem dd_T_advance_247 : decode bb_T_advance 247 = .ok (.iaload, 1) := by decide +kernel
theorem dd_T_advance_248 : decode bb_T_advance 248 = .ok (.bipush 61, 2) := by decide +kernel
theorem dd_T_advance_250 : decode bb_T_advance 250 = .ok (.if_icmp .ne 13, 3) := by decide +kernel
theorem dd_T_advance_253 : decode bb_T_advance 253 = .ok (.aload_n 0, 1) := by decide +kernel
theorem dd_T_advance_254 : decode bb_T_advance 254 = .ok (.dup, 1) := by decide +kernel
theorem dd_T_advance_255 : decode bb_T_advance 255 = .ok (.getfield 22, 3) := by decide +kernel
theorem dd_T_advance_258 : decode bb_T_advance 258 = .ok (.iconst 1, 1) := by decide +kernel
theorem dd_T_advance_259 : decode bb_T_advance 259 = .ok (.iadd, 1) := by decide +kernel
theorem dd_T_advance_260 : decode bb_T_advance 260 = .ok (.putfield 22, 3) := by decide +kernel
theorem dd_T_advance_263 : decode bb_T_advance 263 = .ok (.return_, 1) := by decide +kernel
def mm_T_advance_j263 (N : Nat) (this : Option Nat) (h_263 : ss_Hp) : Option ss_Hp :=
  some h_263
def mm_T_advance_j223 (N : Nat) (this : Option Nat) (s0_223 : Int32) (h_223 : ss_Hp) : Option ss_Hp :=
  if s0_223 = 0 then
    mm_T_advance_j263 N this h_223
  else
    (ss_gi h_223 this 2 4).bind fun v2 =>
    (ss_gi h_223 this 2 0).bind fun v3 =>
    if v3 ≤ v2 then
      mm_T_advance_j263 N this h_223
    else
      (ss_gr h_223 this 2 0).bind fun r5 =>
      (ss_gi h_223 this 2 4).bind fun v6 =>
      (ss_ai h_223 r5 20 v6).bind fun v7 =>
      if v7 = (61 : Int32) then
        (ss_gi h_223 this 2 4).bind fun v9 =>
        (ss_pi h_223 this 2 4 (v9 + (1 : Int32))).bind fun h10 =>
        mm_T_advance_j263 N this h10
      else
        mm_T_advance_j263 N this h_223
def mm_T_advance_j218 (N : Nat) (this : Option Nat) (h_218 : ss_Hp) : Option ss_Hp :=
  mm_T_advance_j223 N this (1 : Int32) h_218
def mm_T_advance_b150 (N : Nat) (this : Option Nat) (st : ss_Hp) : Option (ss_Hp ⊕ ss_Hp) :=
  match st with
  | h_150 =>
    (ss_gi h_150 this 2 4).bind fun v34 =>
    (ss_gi h_150 this 2 0).bind fun v35 =>
    if v35 ≤ v34 then
      some (.inr h_150)
    else
      (ss_gi h_150 this 2 4).bind fun v37 =>
      (mm_T_isDigit N this v37 h_150).bind fun v38 =>
      if v38 = 0 then
        some (.inr h_150)
      else
        (ss_gi h_150 this 2 4).bind fun v40 =>
        (ss_pi h_150 this 2 4 (v40 + (1 : Int32))).bind fun h41 =>
        some (.inl h41)
def mm_T_advance_b99 (N : Nat) (this : Option Nat) (st : ss_Hp) : Option (ss_Hp ⊕ ss_Hp) :=
  match st with
  | h_99 =>
    (ss_gi h_99 this 2 4).bind fun v43 =>
    (ss_gi h_99 this 2 0).bind fun v44 =>
    if v44 ≤ v43 then
      some (.inr h_99)
    else
      (ss_gi h_99 this 2 4).bind fun v46 =>
      (mm_T_isLetter N this v46 h_99).bind fun v47 =>
      if v47 = 0 then
        some (.inr h_99)
      else
        (ss_gi h_99 this 2 4).bind fun v49 =>
        (ss_pi h_99 this 2 4 (v49 + (1 : Int32))).bind fun h50 =>
        some (.inl h50)
def mm_T_advance_b8 (N : Nat) (this : Option Nat) (st : ss_Hp) : Option (ss_Hp ⊕ ss_Hp) :=
  match st with
  | h_8 =>
    (ss_gi h_8 this 2 3).bind fun v54 =>
    (ss_gi h_8 this 2 0).bind fun v55 =>
    if v55 ≤ v54 then
      some (.inr h_8)
    else
      (ss_gr h_8 this 2 0).bind fun r57 =>
      (ss_gi h_8 this 2 3).bind fun v58 =>
      (ss_ai h_8 r57 20 v58).bind fun v59 =>
      if v59 = (32 : Int32) then
        (ss_gi h_8 this 2 3).bind fun v61 =>
        (ss_pi h_8 this 2 3 (v61 + (1 : Int32))).bind fun h62 =>
        some (.inl h62)
      else
        some (.inr h_8)
def mm_T_advance (N : Nat) (this : Option Nat) (h : ss_Hp) : Option ss_Hp :=
  if ss_is h this 2 = true then
    (ss_gi h this 2 4).bind fun v11 =>
    (ss_pi h this 2 3 v11).bind fun h12 =>
    (ss_lp (mm_T_advance_b8 N this) N h12).bind fun h_8_46 =>
    (ss_gi h_8_46 this 2 3).bind fun v13 =>
    (ss_pi h_8_46 this 2 4 (v13 + (1 : Int32))).bind fun h14 =>
    (ss_gi h14 this 2 3).bind fun v15 =>
    (ss_gi h14 this 2 0).bind fun v16 =>
    if v15 < v16 then
      (ss_gi h14 this 2 3).bind fun v18 =>
      (mm_T_isLetter N this v18 h14).bind fun v19 =>
      if v19 = 0 then
        (ss_gi h14 this 2 3).bind fun v21 =>
        (mm_T_isDigit N this v21 h14).bind fun v22 =>
        if v22 = 0 then
          (ss_pi h14 this 2 2 (3 : Int32)).bind fun h24 =>
          (ss_gr h24 this 2 0).bind fun r25 =>
          (ss_gi h24 this 2 3).bind fun v26 =>
          (ss_ai h24 r25 20 v26).bind fun v27 =>
          if v27 = (60 : Int32) then
            mm_T_advance_j218 N this h24
          else
            (ss_gr h24 this 2 0).bind fun r29 =>
            (ss_gi h24 this 2 3).bind fun v30 =>
            (ss_ai h24 r29 20 v30).bind fun v31 =>
            if v31 = (62 : Int32) then
              mm_T_advance_j218 N this h24
            else
              mm_T_advance_j223 N this (0 : Int32) h24
        else
          (ss_pi h14 this 2 2 (2 : Int32)).bind fun h33 =>
          (ss_lp (mm_T_advance_b150 N this) N h33).bind fun h_150_263 =>
          mm_T_advance_j263 N this h_150_263
      else
        (ss_pi h14 this 2 2 (1 : Int32)).bind fun h42 =>
        (ss_lp (mm_T_advance_b99 N this) N h42).bind fun h_99_263 =>
        mm_T_advance_j263 N this h_99_263
    else
      (ss_pi h14 this 2 2 (0 : Int32)).bind fun h51 =>
      (ss_gi h51 this 2 3).bind fun v52 =>
      (ss_pi h51 this 2 4 v52).bind fun h53 =>
      mm_T_advance_j263 N this h53
  else none
abbrev ww_T_advance (p : Program) (l : Launch) (e : Env) (s : State) (m : MethodId) (below : List Frame) (meth : Method) (c : Code) (G : ss_G) (this : Option Nat) (h : ss_Hp) (hh : ss_Hp) (H : Heap) (locs : List Loc) (k n : Nat) (g : JFrame) : Prop := W p l e (headSpec (ss_w yy_T_advance bb_T_advance 2 none) ({ frames := 1, cells := 0, slots := 0, locals := 21 })).room s m ([ss_v (ss_b G) this] : List Value).toArray below meth c H locs k n (MQ below (ss_Qc G none hh) ([ss_v (ss_b G) this] : List Value).toArray s 0 0 (ss_A G)) g
theorem ck_T_advance {N : Nat} {this : Option Nat} {h : ss_Hp} {res : ss_Hp} (hm : mm_T_advance N this h = some res) : ss_is h this 2 = true := (ss_chk hm).1
set_option maxHeartbeats 4000000 in
set_option maxRecDepth 100000 in
theorem cc_T_advance (l : Launch) (G : ss_G) (N : Nat) (this : Option Nat) (h : ss_Hp) (hh : ss_Hp) (hm : mm_T_advance N this h = some hh) : ss_Ct l G yy_T_advance bb_T_advance 2 none ({ frames := 1, cells := 0, slots := 0, locals := 21 }) [ss_v (ss_b G) this] h none hh := by
  obtain ⟨hck, hm⟩ := ss_chk hm
  refine Met.ofW (cc := bb_T_advance) (maxL := 2) (ret := none) (by decide) rfl ?_
  intro p e s m args below meth c s₁ B hml hv
  obtain ⟨rfl, hR, hK⟩ := hv
  have hC : CallFix p m c bb_T_advance 2 s _ lw_g sR_2 := ⟨B.exec, B.bytes, hml, findClass_of_methodNamed B.named, fun w hw => atoms_spec (ws := ss_w yy_T_advance bb_T_advance 2 none) B.pre w (List.mem_cons_of_mem _ hw)⟩
  have hx := hC.1
  have hb := hC.2.1
  have hr := B.returns
  have hlocks := B.notSynchronized
  have hS : va_S (ss_A G) s.heap s.heap [] := va_S.rf
  have hl := lv_entry ([ss_v (ss_b G) this]) (n := 2) (by simp [lg_sl, ss_v_cat, ss_cat_i, ss_cat_l, ss_cat_r])
  rw [lg_entry_eq]
  generalize (lg_sl ([ss_v (ss_b G) this]) ++ List.replicate (2 - (lg_sl ([ss_v (ss_b G) this])).length) Slot.unset).toArray = ls at hl ⊢
  have hl : lv_has ls 2 [(0, ss_v (ss_b G) this)] := by simpa [lv_args, ss_v_cat, ss_cat_i, ss_cat_l, ss_cat_r] using hl
  have J_263 : ∀ (h_263 : ss_Hp) (H : Heap) (locs : List Loc) (ls : Array Slot), mm_T_advance_j263 N this h_263 = some hh → ss_R G h_263 H → va_S (ss_A G) s.heap H locs → lv_has ls 2 [] → ww_T_advance p l e s m below meth c G this h hh  H locs 0 0 (F0 m 263 ls []) := by
    intro h_263 H locs ls hm hR hS hl
    exact ss_vret hC hr hlocks hR hS hm dd_T_advance_263
  have J_223 : ∀ (s0_223 : Int32) (h_223 : ss_Hp) (H : Heap) (locs : List Loc) (ls : Array Slot), mm_T_advance_j223 N this s0_223 h_223 = some hh → ss_R G h_223 H → va_S (ss_A G) s.heap H locs → lv_has ls 2 [(0, ss_v (ss_b G) this)] → ww_T_advance p l e s m below meth c G this h hh  H locs 0 0 (F0 m 223 ls [.int s0_223]) := by
    intro s0_223 h_223 H locs ls hm hR hS hl
    refine lv_istore_n (lv' := [(1, .int s0_223), (0, ss_v (ss_b G) this)]) hx hb dd_T_advance_223 rfl hl (by decide) (by simp only [List.filter_cons, ss_v_cat]; rfl) (fun ls hl => ?_)
    refine lv_iload_n hx hb dd_T_advance_224 rfl (lv_at hl 0 rfl) ?_
    refine lv_if_eq (tgt := 263) hx hb dd_T_advance_225 (by decide) (fun c1 => ?_) (fun c1 => ?_)
    · have hm := ss_ift hm c1
      exact J_263 h_223 _ _ _ hm hR hS (lv_sub hl [] rfl)
    · have hm := ss_iff hm c1
      refine ss_aload_n hx hb dd_T_advance_228 rfl (lv_at hl 1 rfl) ?_
      obtain ⟨v2, qv2, hm⟩ := ss_bind hm
      refine ss_geti hC hK hR kf_T_22 qv2 dd_T_advance_229 ?_
      refine ss_aload_n hx hb dd_T_advance_232 rfl (lv_at hl 1 rfl) ?_
      obtain ⟨v3, qv3, hm⟩ := ss_bind hm
      refine ss_geti hC hK hR kf_T_15 qv3 dd_T_advance_233 ?_
      refine lv_icmp_ge (tgt := 263) hx hb dd_T_advance_236 (by decide) (fun c4 => ?_) (fun c4 => ?_)
      · have hm := ss_ift hm c4
        exact J_263 h_223 _ _ _ hm hR hS (lv_sub hl [] rfl)
      · have hm := ss_iff hm c4
        refine ss_aload_n hx hb dd_T_advance_239 rfl (lv_at hl 1 rfl) ?_
        obtain ⟨r5, qr5, hm⟩ := ss_bind hm
        refine ss_getr hC hK hR kf_T_11 rfl qr5 dd_T_advance_240 ?_
        refine ss_aload_n hx hb dd_T_advance_243 rfl (lv_at hl 1 rfl) ?_
        obtain ⟨v6, qv6, hm⟩ := ss_bind hm
        refine ss_geti hC hK hR kf_T_22 qv6 dd_T_advance_244 ?_
        obtain ⟨v7, qv7, hm⟩ := ss_bind hm
        refine ss_iald hC hK hR qv7 dd_T_advance_247 ?_
        refine lv_bipush (v := 61) hx hb dd_T_advance_248 (by decide) ?_
        refine lv_icmp_ne (tgt := 263) hx hb dd_T_advance_250 (by decide) (fun c8 => ?_) (fun c8 => ?_)
        · have hm := ss_iff hm c8
          exact J_263 h_223 _ _ _ hm hR hS (lv_sub hl [] rfl)
        · have hm := ss_ift hm c8
          refine ss_aload_n hx hb dd_T_advance_253 rfl (lv_at hl 1 rfl) ?_
          refine ss_dupr hx hb dd_T_advance_254 ?_
          obtain ⟨v9, qv9, hm⟩ := ss_bind hm
          refine ss_geti hC hK hR kf_T_22 qv9 dd_T_advance_255 ?_
          refine lv_iconst (v := 1) hx hb dd_T_advance_258 (by decide) ?_
          refine lv_iadd hx hb dd_T_advance_259 ?_
          obtain ⟨h10, qh10, hm⟩ := ss_bind hm
          refine ss_puti hC hK hR hS kp_T_22 qh10 dd_T_advance_260 (fun H locs hR hS => ?_)
          exact J_263 h10 _ _ _ hm hR hS (lv_sub hl [] rfl)
  have J_218 : ∀ (h_218 : ss_Hp) (H : Heap) (locs : List Loc) (ls : Array Slot), mm_T_advance_j218 N this h_218 = some hh → ss_R G h_218 H → va_S (ss_A G) s.heap H locs → lv_has ls 2 [(0, ss_v (ss_b G) this)] → ww_T_advance p l e s m below meth c G this h hh  H locs 0 0 (F0 m 218 ls []) := by
    intro h_218 H locs ls hm hR hS hl
    refine lv_iconst (v := 1) hx hb dd_T_advance_218 (by decide) ?_
    refine lv_goto (tgt := 223) hx hb dd_T_advance_219 (by decide) ?_
    exact J_223 (1 : Int32) h_218 _ _ _ hm hR hS hl
  refine ss_aload_n hx hb dd_T_advance_0 rfl (lv_at hl 0 rfl) ?_
  refine ss_aload_n hx hb dd_T_advance_1 rfl (lv_at hl 0 rfl) ?_
  obtain ⟨v11, qv11, hm⟩ := ss_bind hm
  refine ss_geti hC hK hR kf_T_22 qv11 dd_T_advance_2 ?_
  obtain ⟨h12, qh12, hm⟩ := ss_bind hm
  refine ss_puti hC hK hR hS kp_T_28 qh12 dd_T_advance_5 (fun H locs hR hS => ?_)
  obtain ⟨e_8, he_8, hm⟩ := ss_bind hm
  have X_8_46 : ∀  (h_8_46 : ss_Hp) (H : Heap) (locs : List Loc) (ls : Array Slot), e_8 = h_8_46 → ss_R G h_8_46 H → va_S (ss_A G) s.heap H locs → lv_has ls 2 [(0, ss_v (ss_b G) this)] → ww_T_advance p l e s m below meth c G this h hh  H locs 0 0 (F0 m 46 ls []) := by
    intro h_8_46 H locs ls hq hR hS hl
    rw [hq] at hm
    refine ss_aload_n hx hb dd_T_advance_46 rfl (lv_at hl 0 rfl) ?_
    refine ss_aload_n hx hb dd_T_advance_47 rfl (lv_at hl 0 rfl) ?_
    obtain ⟨v13, qv13, hm⟩ := ss_bind hm
    refine ss_geti hC hK hR kf_T_28 qv13 dd_T_advance_48 ?_
    refine lv_iconst (v := 1) hx hb dd_T_advance_51 (by decide) ?_
    refine lv_iadd hx hb dd_T_advance_52 ?_
    obtain ⟨h14, qh14, hm⟩ := ss_bind hm
    refine ss_puti hC hK hR hS kp_T_22 qh14 dd_T_advance_53 (fun H locs hR hS => ?_)
    refine ss_aload_n hx hb dd_T_advance_56 rfl (lv_at hl 0 rfl) ?_
    obtain ⟨v15, qv15, hm⟩ := ss_bind hm
    refine ss_geti hC hK hR kf_T_28 qv15 dd_T_advance_57 ?_
    refine ss_aload_n hx hb dd_T_advance_60 rfl (lv_at hl 0 rfl) ?_
    obtain ⟨v16, qv16, hm⟩ := ss_bind hm
    refine ss_geti hC hK hR kf_T_15 qv16 dd_T_advance_61 ?_
    refine lv_icmp_lt (tgt := 83) hx hb dd_T_advance_64 (by decide) (fun c17 => ?_) (fun c17 => ?_)
    · have hm := ss_ift hm c17
      refine ss_aload_n hx hb dd_T_advance_83 rfl (lv_at hl 0 rfl) ?_
      refine ss_aload_n hx hb dd_T_advance_84 rfl (lv_at hl 0 rfl) ?_
      obtain ⟨v18, qv18, hm⟩ := ss_bind hm
      refine ss_geti hC hK hR kf_T_28 qv18 dd_T_advance_85 ?_
      obtain ⟨v19, qv19, hm⟩ := ss_bind hm
      refine ss_cV 0 0 (As := [.int v18]) hC hK hR hS hl.1 (cc_T_isLetter l G N _ _ _ _ qv19) km_T_34 (ck_T_isLetter qv19) ⟨Nat.le_of_ble_eq_true rfl, Nat.le_of_ble_eq_true rfl⟩ ⟨Nat.le_of_ble_eq_true rfl, Nat.le_of_ble_eq_true rfl, Nat.le_of_ble_eq_true rfl, Nat.le_of_ble_eq_true rfl⟩ rfl rfl (Nat.le_of_ble_eq_true rfl) dd_T_advance_88 (fun H locs hR hS => ?_)
      refine lv_if_eq (tgt := 134) hx hb dd_T_advance_91 (by decide) (fun c20 => ?_) (fun c20 => ?_)
      · have hm := ss_ift hm c20
        refine ss_aload_n hx hb dd_T_advance_134 rfl (lv_at hl 0 rfl) ?_
        refine ss_aload_n hx hb dd_T_advance_135 rfl (lv_at hl 0 rfl) ?_
        obtain ⟨v21, qv21, hm⟩ := ss_bind hm
        refine ss_geti hC hK hR kf_T_28 qv21 dd_T_advance_136 ?_
        obtain ⟨v22, qv22, hm⟩ := ss_bind hm
        refine ss_cV 0 0 (As := [.int v21]) hC hK hR hS hl.1 (cc_T_isDigit l G N _ _ _ _ qv22) km_T_38 (ck_T_isDigit qv22) ⟨Nat.le_of_ble_eq_true rfl, Nat.le_of_ble_eq_true rfl⟩ ⟨Nat.le_of_ble_eq_true rfl, Nat.le_of_ble_eq_true rfl, Nat.le_of_ble_eq_true rfl, Nat.le_of_ble_eq_true rfl⟩ rfl rfl (Nat.le_of_ble_eq_true rfl) dd_T_advance_139 (fun H locs hR hS => ?_)
        refine lv_if_eq (tgt := 185) hx hb dd_T_advance_142 (by decide) (fun c23 => ?_) (fun c23 => ?_)
        · have hm := ss_ift hm c23
          refine ss_aload_n hx hb dd_T_advance_185 rfl (lv_at hl 0 rfl) ?_
          refine lv_iconst (v := 3) hx hb dd_T_advance_186 (by decide) ?_
          obtain ⟨h24, qh24, hm⟩ := ss_bind hm
          refine ss_puti hC hK hR hS kp_T_31 qh24 dd_T_advance_187 (fun H locs hR hS => ?_)
          refine ss_aload_n hx hb dd_T_advance_190 rfl (lv_at hl 0 rfl) ?_
          obtain ⟨r25, qr25, hm⟩ := ss_bind hm
          refine ss_getr hC hK hR kf_T_11 rfl qr25 dd_T_advance_191 ?_
          refine ss_aload_n hx hb dd_T_advance_194 rfl (lv_at hl 0 rfl) ?_
          obtain ⟨v26, qv26, hm⟩ := ss_bind hm
          refine ss_geti hC hK hR kf_T_28 qv26 dd_T_advance_195 ?_
          obtain ⟨v27, qv27, hm⟩ := ss_bind hm
          refine ss_iald hC hK hR qv27 dd_T_advance_198 ?_
          refine lv_bipush (v := 60) hx hb dd_T_advance_199 (by decide) ?_
          refine lv_icmp_eq (tgt := 218) hx hb dd_T_advance_201 (by decide) (fun c28 => ?_) (fun c28 => ?_)
          · have hm := ss_ift hm c28
            exact J_218 h24 _ _ _ hm hR hS hl
          · have hm := ss_iff hm c28
            refine ss_aload_n hx hb dd_T_advance_204 rfl (lv_at hl 0 rfl) ?_
            obtain ⟨r29, qr29, hm⟩ := ss_bind hm
            refine ss_getr hC hK hR kf_T_11 rfl qr29 dd_T_advance_205 ?_
            refine ss_aload_n hx hb dd_T_advance_208 rfl (lv_at hl 0 rfl) ?_
            obtain ⟨v30, qv30, hm⟩ := ss_bind hm
            refine ss_geti hC hK hR kf_T_28 qv30 dd_T_advance_209 ?_
            obtain ⟨v31, qv31, hm⟩ := ss_bind hm
            refine ss_iald hC hK hR qv31 dd_T_advance_212 ?_
            refine lv_bipush (v := 62) hx hb dd_T_advance_213 (by decide) ?_
            refine lv_icmp_ne (tgt := 222) hx hb dd_T_advance_215 (by decide) (fun c32 => ?_) (fun c32 => ?_)
            · have hm := ss_iff hm c32
              refine lv_iconst (v := 0) hx hb dd_T_advance_222 (by decide) ?_
              exact J_223 (0 : Int32) h24 _ _ _ hm hR hS hl
            · have hm := ss_ift hm c32
              exact J_218 h24 _ _ _ hm hR hS hl
        · have hm := ss_iff hm c23
          refine ss_aload_n hx hb dd_T_advance_145 rfl (lv_at hl 0 rfl) ?_
          refine lv_iconst (v := 2) hx hb dd_T_advance_146 (by decide) ?_
          obtain ⟨h33, qh33, hm⟩ := ss_bind hm
          refine ss_puti hC hK hR hS kp_T_31 qh33 dd_T_advance_147 (fun H locs hR hS => ?_)
          obtain ⟨e_150, he_150, hm⟩ := ss_bind hm
          have X_150_263 : ∀  (h_150_263 : ss_Hp) (H : Heap) (locs : List Loc) (ls : Array Slot), e_150 = h_150_263 → ss_R G h_150_263 H → va_S (ss_A G) s.heap H locs → lv_has ls 2 [] → ww_T_advance p l e s m below meth c G this h hh  H locs 0 0 (F0 m 263 ls []) := by
            intro h_150_263 H locs ls hq hR hS hl
            rw [hq] at hm
            exact J_263 h_150_263 _ _ _ hm hR hS hl
          have L_150 : ∀ (n : Nat)  (h_150 : ss_Hp) (H : Heap) (locs : List Loc) (ls : Array Slot), ss_lp (mm_T_advance_b150 N this) n h_150 = some e_150 → ss_R G h_150 H → va_S (ss_A G) s.heap H locs → lv_has ls 2 [(0, ss_v (ss_b G) this)] → ww_T_advance p l e s m below meth c G this h hh  H locs 0 0 (F0 m 150 ls []) := by
            intro n
            induction n with
            | zero => intro h_150 H locs ls hm; cases hm
            | succ n ih_150 =>
              intro h_150 H locs ls hm hR hS hl
              obtain ⟨z_150, hm, hz1_150, hz2_150⟩ := ss_lps hm
              refine ss_aload_n hx hb dd_T_advance_150 rfl (lv_at hl 0 rfl) ?_
              obtain ⟨v34, qv34, hm⟩ := ss_bind hm
              refine ss_geti hC hK hR kf_T_22 qv34 dd_T_advance_151 ?_
              refine ss_aload_n hx hb dd_T_advance_154 rfl (lv_at hl 0 rfl) ?_
              obtain ⟨v35, qv35, hm⟩ := ss_bind hm
              refine ss_geti hC hK hR kf_T_15 qv35 dd_T_advance_155 ?_
              refine lv_icmp_ge (tgt := 263) hx hb dd_T_advance_158 (by decide) (fun c36 => ?_) (fun c36 => ?_)
              · have hm := ss_ift hm c36
                exact X_150_263 h_150 _ _ _ (hz2_150 _ (ss_some hm)) hR hS (lv_sub hl [] rfl)
              · have hm := ss_iff hm c36
                refine ss_aload_n hx hb dd_T_advance_161 rfl (lv_at hl 0 rfl) ?_
                refine ss_aload_n hx hb dd_T_advance_162 rfl (lv_at hl 0 rfl) ?_
                obtain ⟨v37, qv37, hm⟩ := ss_bind hm
                refine ss_geti hC hK hR kf_T_22 qv37 dd_T_advance_163 ?_
                obtain ⟨v38, qv38, hm⟩ := ss_bind hm
                refine ss_cV 0 0 (As := [.int v37]) hC hK hR hS hl.1 (cc_T_isDigit l G N _ _ _ _ qv38) km_T_38 (ck_T_isDigit qv38) ⟨Nat.le_of_ble_eq_true rfl, Nat.le_of_ble_eq_true rfl⟩ ⟨Nat.le_of_ble_eq_true rfl, Nat.le_of_ble_eq_true rfl, Nat.le_of_ble_eq_true rfl, Nat.le_of_ble_eq_true rfl⟩ rfl rfl (Nat.le_of_ble_eq_true rfl) dd_T_advance_166 (fun H locs hR hS => ?_)
                refine lv_if_eq (tgt := 263) hx hb dd_T_advance_169 (by decide) (fun c39 => ?_) (fun c39 => ?_)
                · have hm := ss_ift hm c39
                  exact X_150_263 h_150 _ _ _ (hz2_150 _ (ss_some hm)) hR hS (lv_sub hl [] rfl)
                · have hm := ss_iff hm c39
                  refine ss_aload_n hx hb dd_T_advance_172 rfl (lv_at hl 0 rfl) ?_
                  refine ss_dupr hx hb dd_T_advance_173 ?_
                  obtain ⟨v40, qv40, hm⟩ := ss_bind hm
                  refine ss_geti hC hK hR kf_T_22 qv40 dd_T_advance_174 ?_
                  refine lv_iconst (v := 1) hx hb dd_T_advance_177 (by decide) ?_
                  refine lv_iadd hx hb dd_T_advance_178 ?_
                  obtain ⟨h41, qh41, hm⟩ := ss_bind hm
                  refine ss_puti hC hK hR hS kp_T_22 qh41 dd_T_advance_179 (fun H locs hR hS => ?_)
                  refine lv_goto (tgt := 150) hx hb dd_T_advance_182 (by decide) ?_
                  exact ih_150 h41 _ _ _ (hz1_150 _ (ss_some hm)) hR hS hl
          exact L_150 N h33 _ _ _ he_150 hR hS hl
      · have hm := ss_iff hm c20
        refine ss_aload_n hx hb dd_T_advance_94 rfl (lv_at hl 0 rfl) ?_
        refine lv_iconst (v := 1) hx hb dd_T_advance_95 (by decide) ?_
        obtain ⟨h42, qh42, hm⟩ := ss_bind hm
        refine ss_puti hC hK hR hS kp_T_31 qh42 dd_T_advance_96 (fun H locs hR hS => ?_)
        obtain ⟨e_99, he_99, hm⟩ := ss_bind hm
        have X_99_263 : ∀  (h_99_263 : ss_Hp) (H : Heap) (locs : List Loc) (ls : Array Slot), e_99 = h_99_263 → ss_R G h_99_263 H → va_S (ss_A G) s.heap H locs → lv_has ls 2 [] → ww_T_advance p l e s m below meth c G this h hh  H locs 0 0 (F0 m 263 ls []) := by
          intro h_99_263 H locs ls hq hR hS hl
          rw [hq] at hm
          exact J_263 h_99_263 _ _ _ hm hR hS hl
        have L_99 : ∀ (n : Nat)  (h_99 : ss_Hp) (H : Heap) (locs : List Loc) (ls : Array Slot), ss_lp (mm_T_advance_b99 N this) n h_99 = some e_99 → ss_R G h_99 H → va_S (ss_A G) s.heap H locs → lv_has ls 2 [(0, ss_v (ss_b G) this)] → ww_T_advance p l e s m below meth c G this h hh  H locs 0 0 (F0 m 99 ls []) := by
          intro n
          induction n with
          | zero => intro h_99 H locs ls hm; cases hm
          | succ n ih_99 =>
            intro h_99 H locs ls hm hR hS hl
            obtain ⟨z_99, hm, hz1_99, hz2_99⟩ := ss_lps hm
            refine ss_aload_n hx hb dd_T_advance_99 rfl (lv_at hl 0 rfl) ?_
            obtain ⟨v43, qv43, hm⟩ := ss_bind hm
            refine ss_geti hC hK hR kf_T_22 qv43 dd_T_advance_100 ?_
            refine ss_aload_n hx hb dd_T_advance_103 rfl (lv_at hl 0 rfl) ?_
            obtain ⟨v44, qv44, hm⟩ := ss_bind hm
            refine ss_geti hC hK hR kf_T_15 qv44 dd_T_advance_104 ?_
            refine lv_icmp_ge (tgt := 263) hx hb dd_T_advance_107 (by decide) (fun c45 => ?_) (fun c45 => ?_)
            · have hm := ss_ift hm c45
              exact X_99_263 h_99 _ _ _ (hz2_99 _ (ss_some hm)) hR hS (lv_sub hl [] rfl)
            · have hm := ss_iff hm c45
              refine ss_aload_n hx hb dd_T_advance_110 rfl (lv_at hl 0 rfl) ?_
              refine ss_aload_n hx hb dd_T_advance_111 rfl (lv_at hl 0 rfl) ?_
              obtain ⟨v46, qv46, hm⟩ := ss_bind hm
              refine ss_geti hC hK hR kf_T_22 qv46 dd_T_advance_112 ?_
              obtain ⟨v47, qv47, hm⟩ := ss_bind hm
              refine ss_cV 0 0 (As := [.int v46]) hC hK hR hS hl.1 (cc_T_isLetter l G N _ _ _ _ qv47) km_T_34 (ck_T_isLetter qv47) ⟨Nat.le_of_ble_eq_true rfl, Nat.le_of_ble_eq_true rfl⟩ ⟨Nat.le_of_ble_eq_true rfl, Nat.le_of_ble_eq_true rfl, Nat.le_of_ble_eq_true rfl, Nat.le_of_ble_eq_true rfl⟩ rfl rfl (Nat.le_of_ble_eq_true rfl) dd_T_advance_115 (fun H locs hR hS => ?_)
              refine lv_if_eq (tgt := 263) hx hb dd_T_advance_118 (by decide) (fun c48 => ?_) (fun c48 => ?_)
              · have hm := ss_ift hm c48
                exact X_99_263 h_99 _ _ _ (hz2_99 _ (ss_some hm)) hR hS (lv_sub hl [] rfl)
              · have hm := ss_iff hm c48
                refine ss_aload_n hx hb dd_T_advance_121 rfl (lv_at hl 0 rfl) ?_
                refine ss_dupr hx hb dd_T_advance_122 ?_
                obtain ⟨v49, qv49, hm⟩ := ss_bind hm
                refine ss_geti hC hK hR kf_T_22 qv49 dd_T_advance_123 ?_
                refine lv_iconst (v := 1) hx hb dd_T_advance_126 (by decide) ?_
                refine lv_iadd hx hb dd_T_advance_127 ?_
                obtain ⟨h50, qh50, hm⟩ := ss_bind hm
                refine ss_puti hC hK hR hS kp_T_22 qh50 dd_T_advance_128 (fun H locs hR hS => ?_)
                refine lv_goto (tgt := 99) hx hb dd_T_advance_131 (by decide) ?_
                exact ih_99 h50 _ _ _ (hz1_99 _ (ss_some hm)) hR hS hl
        exact L_99 N h42 _ _ _ he_99 hR hS hl
    · have hm := ss_iff hm c17
      refine ss_aload_n hx hb dd_T_advance_67 rfl (lv_at hl 0 rfl) ?_
      refine lv_iconst (v := 0) hx hb dd_T_advance_68 (by decide) ?_
      obtain ⟨h51, qh51, hm⟩ := ss_bind hm
      refine ss_puti hC hK hR hS kp_T_31 qh51 dd_T_advance_69 (fun H locs hR hS => ?_)
      refine ss_aload_n hx hb dd_T_advance_72 rfl (lv_at hl 0 rfl) ?_
      refine ss_aload_n hx hb dd_T_advance_73 rfl (lv_at hl 0 rfl) ?_
      obtain ⟨v52, qv52, hm⟩ := ss_bind hm
      refine ss_geti hC hK hR kf_T_28 qv52 dd_T_advance_74 ?_
      obtain ⟨h53, qh53, hm⟩ := ss_bind hm
      refine ss_puti hC hK hR hS kp_T_22 qh53 dd_T_advance_77 (fun H locs hR hS => ?_)
      refine lv_goto (tgt := 263) hx hb dd_T_advance_80 (by decide) ?_
      exact J_263 h53 _ _ _ hm hR hS (lv_sub hl [] rfl)
  have L_8 : ∀ (n : Nat)  (h_8 : ss_Hp) (H : Heap) (locs : List Loc) (ls : Array Slot), ss_lp (mm_T_advance_b8 N this) n h_8 = some e_8 → ss_R G h_8 H → va_S (ss_A G) s.heap H locs → lv_has ls 2 [(0, ss_v (ss_b G) this)] → ww_T_advance p l e s m below meth c G this h hh  H locs 0 0 (F0 m 8 ls []) := by
    intro n
    induction n with
    | zero => intro h_8 H locs ls hm; cases hm
    | succ n ih_8 =>
      intro h_8 H locs ls hm hR hS hl
      obtain ⟨z_8, hm, hz1_8, hz2_8⟩ := ss_lps hm
      refine ss_aload_n hx hb dd_T_advance_8 rfl (lv_at hl 0 rfl) ?_
      obtain ⟨v54, qv54, hm⟩ := ss_bind hm
      refine ss_geti hC hK hR kf_T_28 qv54 dd_T_advance_9 ?_
      refine ss_aload_n hx hb dd_T_advance_12 rfl (lv_at hl 0 rfl) ?_
      obtain ⟨v55, qv55, hm⟩ := ss_bind hm
      refine ss_geti hC hK hR kf_T_15 qv55 dd_T_advance_13 ?_
      refine lv_icmp_ge (tgt := 46) hx hb dd_T_advance_16 (by decide) (fun c56 => ?_) (fun c56 => ?_)
      · have hm := ss_ift hm c56
        exact X_8_46 h_8 _ _ _ (hz2_8 _ (ss_some hm)) hR hS hl
      · have hm := ss_iff hm c56
        refine ss_aload_n hx hb dd_T_advance_19 rfl (lv_at hl 0 rfl) ?_
        obtain ⟨r57, qr57, hm⟩ := ss_bind hm
        refine ss_getr hC hK hR kf_T_11 rfl qr57 dd_T_advance_20 ?_
        refine ss_aload_n hx hb dd_T_advance_23 rfl (lv_at hl 0 rfl) ?_
        obtain ⟨v58, qv58, hm⟩ := ss_bind hm
        refine ss_geti hC hK hR kf_T_28 qv58 dd_T_advance_24 ?_
        obtain ⟨v59, qv59, hm⟩ := ss_bind hm
        refine ss_iald hC hK hR qv59 dd_T_advance_27 ?_
        refine lv_bipush (v := 32) hx hb dd_T_advance_28 (by decide) ?_
        refine lv_icmp_ne (tgt := 46) hx hb dd_T_advance_30 (by decide) (fun c60 => ?_) (fun c60 => ?_)
        · have hm := ss_iff hm c60
          exact X_8_46 h_8 _ _ _ (hz2_8 _ (ss_some hm)) hR hS hl
        · have hm := ss_ift hm c60
          refine ss_aload_n hx hb dd_T_advance_33 rfl (lv_at hl 0 rfl) ?_
          refine ss_dupr hx hb dd_T_advance_34 ?_
          obtain ⟨v61, qv61, hm⟩ := ss_bind hm
          refine ss_geti hC hK hR kf_T_28 qv61 dd_T_advance_35 ?_
          refine lv_iconst (v := 1) hx hb dd_T_advance_38 (by decide) ?_
          refine lv_iadd hx hb dd_T_advance_39 ?_
          obtain ⟨h62, qh62, hm⟩ := ss_bind hm
          refine ss_puti hC hK hR hS kp_T_28 qh62 dd_T_advance_40 (fun H locs hR hS => ?_)
          refine lv_goto (tgt := 8) hx hb dd_T_advance_43 (by decide) ?_
          exact ih_8 h62 _ _ _ (hz1_8 _ (ss_some hm)) hR hS hl
  exact L_8 N h12 _ _ _ he_8 hR hS hl
theorem dd_T_open_0 : decode bb_T_open 0 = .ok (.aload_n 0, 1) := by decide +kernel
theorem dd_T_open_1 : decode bb_T_open 1 = .ok (.iconst 0, 1) := by decide +kernel
theorem dd_T_open_2 : decode bb_T_open 2 = .ok (.putfield 19, 3) := by decide +kernel
theorem dd_T_open_5 : decode bb_T_open 5 = .ok (.aload_n 0, 1) := by decide +kernel
theorem dd_T_open_6 : decode bb_T_open 6 = .ok (.iconst 0, 1) := by decide +kernel
theorem dd_T_open_7 : decode bb_T_open 7 = .ok (.putfield 22, 3) := by decide +kernel
theorem dd_T_open_10 : decode bb_T_open 10 = .ok (.aload_n 0, 1) := by decide +kernel
theorem dd_T_open_11 : decode bb_T_open 11 = .ok (.invokevirtual 25, 3) := by decide +kernel
theorem dd_T_open_14 : decode bb_T_open 14 = .ok (.return_, 1) := by decide +kernel
def mm_T_open (N : Nat) (this : Option Nat) (h : ss_Hp) : Option ss_Hp :=
  if ss_is h this 2 = true then
    (ss_pi h this 2 1 (0 : Int32)).bind fun h1 =>
    (ss_pi h1 this 2 4 (0 : Int32)).bind fun h2 =>
    (mm_T_advance N this h2).bind fun h3 =>
    some h3
  else none
abbrev ww_T_open (p : Program) (l : Launch) (e : Env) (s : State) (m : MethodId) (below : List Frame) (meth : Method) (c : Code) (G : ss_G) (this : Option Nat) (h : ss_Hp) (hh : ss_Hp) (H : Heap) (locs : List Loc) (k n : Nat) (g : JFrame) : Prop := W p l e (headSpec (ss_w yy_T_open bb_T_open 1 none) ({ frames := 2, cells := 0, slots := 0, locals := 42 })).room s m ([ss_v (ss_b G) this] : List Value).toArray below meth c H locs k n (MQ below (ss_Qc G none hh) ([ss_v (ss_b G) this] : List Value).toArray s 0 0 (ss_A G)) g
theorem ck_T_open {N : Nat} {this : Option Nat} {h : ss_Hp} {res : ss_Hp} (hm : mm_T_open N this h = some res) : ss_is h this 2 = true := (ss_chk hm).1
set_option maxHeartbeats 4000000 in
set_option maxRecDepth 100000 in
theorem cc_T_open (l : Launch) (G : ss_G) (N : Nat) (this : Option Nat) (h : ss_Hp) (hh : ss_Hp) (hm : mm_T_open N this h = some hh) : ss_Ct l G yy_T_open bb_T_open 1 none ({ frames := 2, cells := 0, slots := 0, locals := 42 }) [ss_v (ss_b G) this] h none hh := by
  obtain ⟨hck, hm⟩ := ss_chk hm
  refine Met.ofW (cc := bb_T_open) (maxL := 1) (ret := none) (by decide) rfl ?_
  intro p e s m args below meth c s₁ B hml hv
  obtain ⟨rfl, hR, hK⟩ := hv
  have hC : CallFix p m c bb_T_open 1 s _ lw_g sR_2 := ⟨B.exec, B.bytes, hml, findClass_of_methodNamed B.named, fun w hw => atoms_spec (ws := ss_w yy_T_open bb_T_open 1 none) B.pre w (List.mem_cons_of_mem _ hw)⟩
  have hx := hC.1
  have hb := hC.2.1
  have hr := B.returns
  have hlocks := B.notSynchronized
  have hS : va_S (ss_A G) s.heap s.heap [] := va_S.rf
  have hl := lv_entry ([ss_v (ss_b G) this]) (n := 1) (by simp [lg_sl, ss_v_cat, ss_cat_i, ss_cat_l, ss_cat_r])
  rw [lg_entry_eq]
  generalize (lg_sl ([ss_v (ss_b G) this]) ++ List.replicate (1 - (lg_sl ([ss_v (ss_b G) this])).length) Slot.unset).toArray = ls at hl ⊢
  have hl : lv_has ls 1 [(0, ss_v (ss_b G) this)] := by simpa [lv_args, ss_v_cat, ss_cat_i, ss_cat_l, ss_cat_r] using hl
  refine ss_aload_n hx hb dd_T_open_0 rfl (lv_at hl 0 rfl) ?_
  refine lv_iconst (v := 0) hx hb dd_T_open_1 (by decide) ?_
  obtain ⟨h1, qh1, hm⟩ := ss_bind hm
  refine ss_puti hC hK hR hS kp_T_19 qh1 dd_T_open_2 (fun H locs hR hS => ?_)
  refine ss_aload_n hx hb dd_T_open_5 rfl (lv_at hl 0 rfl) ?_
  refine lv_iconst (v := 0) hx hb dd_T_open_6 (by decide) ?_
  obtain ⟨h2, qh2, hm⟩ := ss_bind hm
  refine ss_puti hC hK hR hS kp_T_22 qh2 dd_T_open_7 (fun H locs hR hS => ?_)
  refine ss_aload_n hx hb dd_T_open_10 rfl (lv_at hl 0 rfl) ?_
  obtain ⟨h3, qh3, hm⟩ := ss_bind hm
  refine ss_cVv 0 0 (As := []) hC hK hR hS hl.1 (cc_T_advance l G N _ _ _ qh3) km_T_25 (ck_T_advance qh3) ⟨Nat.le_of_ble_eq_true rfl, Nat.le_of_ble_eq_true rfl⟩ ⟨Nat.le_of_ble_eq_true rfl, Nat.le_of_ble_eq_true rfl, Nat.le_of_ble_eq_true rfl, Nat.le_of_ble_eq_true rfl⟩ rfl rfl (Nat.le_of_ble_eq_true rfl) dd_T_open_11 (fun H locs hR hS => ?_)
  exact ss_vret hC hr hlocks hR hS hm dd_T_open_14
theorem dd_T_wordIn_0 : decode bb_T_wordIn 0 = .ok (.iconst 0, 1) := by decide +kernel
theorem dd_T_wordIn_1 : decode bb_T_wordIn 1 = .ok (.istore_n 2, 1) := by decide +kernel
theorem dd_T_wordIn_2 : decode bb_T_wordIn 2 = .ok (.aload_n 0, 1) := by decide +kernel
theorem dd_T_wordIn_3 : decode bb_T_wordIn 3 = .ok (.getfield 28, 3) := by decide +kernel
theorem dd_T_wordIn_6 : decode bb_T_wordIn 6 = .ok (.istore_n 3, 1) := by decide +kernel
theorem dd_T_wordIn_7 : decode bb_T_wordIn 7 = .ok (.iconst 1, 1) := by decide +kernel
theorem dd_T_wordIn_8 : decode bb_T_wordIn 8 = .ok (.istore 4, 2) := by decide +kernel
theorem dd_T_wordIn_10 : decode bb_T_wordIn 10 = .ok (.iconst 0, 1) := by decide +kernel
theorem dd_T_wordIn_11 : decode bb_T_wordIn 11 = .ok (.istore 5, 2) := by decide +kernel
theorem dd_T_wordIn_13 : decode bb_T_wordIn 13 = .ok (.iload 5, 2) := by decide +kernel
theorem dd_T_wordIn_15 : decode bb_T_wordIn 15 = .ok (.aload_n 1, 1) := by decide +kernel
theorem dd_T_wordIn_16 : decode bb_T_wordIn 16 = .ok (.invokevirtual 41, 3) := by decide +kernel
theorem dd_T_wordIn_19 : decode bb_T_wordIn 19 = .ok (.if_icmp .gt 121, 3) := by decide +kernel
theorem dd_T_wordIn_22 : decode bb_T_wordIn 22 = .ok (.aload_n 0, 1) := by decide +kernel
theorem dd_T_wordIn_23 : decode bb_T_wordIn 23 = .ok (.getfield 31, 3) := by decide +kernel
theorem dd_T_wordIn_26 : decode bb_T_wordIn 26 = .ok (.iconst 1, 1) := by decide +kernel
theorem dd_T_wordIn_27 : decode bb_T_wordIn 27 = .ok (.if_icmp .ne 113, 3) := by decide +kernel
theorem dd_T_wordIn_30 : decode bb_T_wordIn 30 = .ok (.iload 5, 2) := by decide +kernel
theorem dd_T_wordIn_32 : decode bb_T_wordIn 32 = .ok (.aload_n 1, 1) := by decide +kernel
theorem dd_T_wordIn_33 : decode bb_T_wordIn 33 = .ok (.invokevirtual 41, 3) := by decide +kernel
theorem dd_T_wordIn_36 : decode bb_T_wordIn 36 = .ok (.if_icmp .eq 14, 3) := by decide +kernel
theorem dd_T_wordIn_39 : decode bb_T_wordIn 39 = .ok (.aload_n 1, 1) := by decide +kernel
theorem dd_T_wordIn_40 : decode bb_T_wordIn 40 = .ok (.iload 5, 2) := by decide +kernel
theorem dd_T_wordIn_42 : decode bb_T_wordIn 42 = .ok (.invokevirtual 46, 3) := by decide +kernel
theorem dd_T_wordIn_45 : decode bb_T_wordIn 45 = .ok (.bipush 32, 2) := by decide +kernel
theorem dd_T_wordIn_47 : decode bb_T_wordIn 47 = .ok (.if_icmp .ne 7, 3) := by decide +kernel
theorem dd_T_wordIn_50 : decode bb_T_wordIn 50 = .ok (.iconst 1, 1) := by decide +kernel
theorem dd_T_wordIn_51 : decode bb_T_wordIn 51 = .ok (.goto 4, 3) := by decide +kernel
theorem dd_T_wordIn_54 : decode bb_T_wordIn 54 = .ok (.iconst 0, 1) := by decide +kernel
theorem dd_T_wordIn_55 : decode bb_T_wordIn 55 = .ok (.istore 6, 2) := by decide +kernel
theorem dd_T_wordIn_57 : decode bb_T_wordIn 57 = .ok (.iload 6, 2) := by decide +kernel
theorem dd_T_wordIn_59 : decode bb_T_wordIn 59 = .ok (.ifCond .eq 18, 3) := by decide +kernel
theorem dd_T_wordIn_62 : decode bb_T_wordIn 62 = .ok (.iload 4, 2) := by decide +kernel
theorem dd_T_wordIn_64 : decode bb_T_wordIn 64 = .ok (.ifCond .eq 13, 3) := by decide +kernel
theorem dd_T_wordIn_67 : decode bb_T_wordIn 67 = .ok (.iload_n 3, 1) := by decide +kernel
theorem dd_T_wordIn_68 : decode bb_T_wordIn 68 = .ok (.aload_n 0, 1) := by decide +kernel
theorem dd_T_wordIn_69 : decode bb_T_wordIn 69 = .ok (.getfield 22, 3) := by decide +kernel
theorem dd_T_wordIn_72 : decode bb_T_wordIn 72 = .ok (.if_icmp .ne 5, 3) := by decide +kernel
theorem dd_T_wordIn_75 : decode bb_T_wordIn 75 = .ok (.iload_n 2, 1) := by decide +kernel
theorem dd_T_wordIn_76 : decode bb_T_wordIn 76 = .ok (.ireturn, 1) := by decide +kernel
theorem dd_T_wordIn_77 : decode bb_T_wordIn 77 = .ok (.iload 6, 2) := by decide +kernel
theorem dd_T_wordIn_79 : decode bb_T_wordIn 79 = .ok (.ifCond .eq 17, 3) := by decide +kernel
theorem dd_T_wordIn_82 : decode bb_T_wordIn 82 = .ok (.iinc 2 1, 3) := by decide +kernel
theorem dd_T_wordIn_85 : decode bb_T_wordIn 85 = .ok (.aload_n 0, 1) := by decide +kernel
theorem dd_T_wordIn_86 : decode bb_T_wordIn 86 = .ok (.getfield 28, 3) := by decide +kernel
theorem dd_T_wordIn_89 : decode bb_T_wordIn 89 = .ok (.istore_n 3, 1) := by decide +kernel
theorem dd_T_wordIn_90 : decode bb_T_wordIn 90 = .ok (.iconst 1, 1) := by decide +kernel
theorem dd_T_wordIn_91 : decode bb_T_wordIn 91 = .ok (.istore 4, 2) := by decide +kernel
theorem dd_T_wordIn_93 : decode bb_T_wordIn 93 = .ok (.goto 41, 3) := by decide +kernel
theorem dd_T_wordIn_96 : decode bb_T_wordIn 96 = .ok (.iload 4, 2) := by decide +kernel
theorem dd_T_wordIn_98 : decode bb_T_wordIn 98 = .ok (.ifCond .eq 30, 3) := by decide +kernel
theorem dd_T_wordIn_101 : decode bb_T_wordIn 101 = .ok (.iload_n 3, 1) := by decide +kernel
theorem dd_T_wordIn_102 : decode bb_T_wordIn 102 = .ok (.aload_n 0, 1) := by decide +kernel
theorem dd_T_wordIn_103 : decode bb_T_wordIn 103 = .ok (.getfield 22, 3) := by decide +kernel
theorem dd_T_wordIn_106 : decode bb_T_wordIn 106 = .ok (.if_icmp .ge 22, 3) := by decide +kernel
theorem dd_T_wordIn_109 : decode bb_T_wordIn 109 = .ok (.aload_n 1, 1) := by decide +kernel
theorem dd_T_wordIn_110 : decode bb_T_wordIn 110 = .ok (.iload 5, 2) := by decide +kernel
theorem dd_T_wordIn_112 : decode bb_T_wordIn 112 = .ok (.invokevirtual 46, 3) := by decide +kernel
theorem dd_T_wordIn_115 : decode bb_T_wordIn 115 = .ok (.aload_n 0, 1) := by decide +kernel
theorem dd_T_wordIn_116 : decode bb_T_wordIn 116 = .ok (.getfield 11, 3) := by decide +kernel
theorem dd_T_wordIn_119 : decode bb_T_wordIn 119 = .ok (.iload_n 3, 1) := by decide +kernel
theorem dd_T_wordIn_120 : decode bb_T_wordIn 120 = .ok (.iaload, 1) := by decide +kernel
theorem dd_T_wordIn_121 : decode bb_T_wordIn 121 = .ok (.if_icmp .ne 7, 3) := by decide +kernel
theorem dd_T_wordIn_124 : decode bb_T_wordIn 124 = .ok (.iconst 1, 1) := by decide +kernel
theorem dd_T_wordIn_125 : decode bb_T_wordIn 125 = .ok (.goto 4, 3) := by decide +kernel
theorem dd_T_wordIn_128 : decode bb_T_wordIn 128 = .ok (.iconst 0, 1) := by decide +kernel
theorem dd_T_wordIn_129 : decode bb_T_wordIn 129 = .ok (.istore 4, 2) := by decide +kernel
theorem dd_T_wordIn_131 : decode bb_T_wordIn 131 = .ok (.iinc 3 1, 3) := by decide +kernel
theorem dd_T_wordIn_134 : decode bb_T_wordIn 134 = .ok (.iinc 5 1, 3) := by decide +kernel
theorem dd_T_wordIn_137 : decode bb_T_wordIn 137 = .ok (.goto (-124), 3) := by decide +kernel
theorem dd_T_wordIn_140 : decode bb_T_wordIn 140 = .ok (.iconst (-1), 1) := by decide +kernel
theorem dd_T_wordIn_141 : decode bb_T_wordIn 141 = .ok (.ireturn, 1) := by decide +kernel
def mm_T_wordIn_j134 (N : Nat) (this : Option Nat) (a1 : Nat) (h : ss_Hp) (x2_134 : Int32) (x3_134 : Int32) (x4_134 : Int32) (x5_134 : Int32) : Option ((Int32 × Int32 × Int32 × Int32) ⊕ (Unit ⊕ Int32)) :=
  (some (x5_134 + (1 : Int32))).bind fun v2 =>
  some (.inl (x2_134, x3_134, x4_134, v2))
def mm_T_wordIn_j129 (N : Nat) (this : Option Nat) (a1 : Nat) (h : ss_Hp) (x2_129 : Int32) (x3_129 : Int32) (x5_129 : Int32) (s0_129 : Int32) : Option ((Int32 × Int32 × Int32 × Int32) ⊕ (Unit ⊕ Int32)) :=
  (some (x3_129 + (1 : Int32))).bind fun v3 =>
  mm_T_wordIn_j134 N this a1 h x2_129 v3 s0_129 x5_129
def mm_T_wordIn_j128 (N : Nat) (this : Option Nat) (a1 : Nat) (h : ss_Hp) (x2_128 : Int32) (x3_128 : Int32) (x5_128 : Int32) : Option ((Int32 × Int32 × Int32 × Int32) ⊕ (Unit ⊕ Int32)) :=
  mm_T_wordIn_j129 N this a1 h x2_128 x3_128 x5_128 (0 : Int32)
def mm_T_wordIn_j77 (N : Nat) (this : Option Nat) (a1 : Nat) (h : ss_Hp) (x2_77 : Int32) (x3_77 : Int32) (x4_77 : Int32) (x5_77 : Int32) (x6_77 : Int32) : Option ((Int32 × Int32 × Int32 × Int32) ⊕ (Unit ⊕ Int32)) :=
  if x6_77 = 0 then
    if x4_77 = 0 then
      mm_T_wordIn_j128 N this a1 h x2_77 x3_77 x5_77
    else
      (ss_gi h this 2 4).bind fun v6 =>
      if v6 ≤ x3_77 then
        mm_T_wordIn_j128 N this a1 h x2_77 x3_77 x5_77
      else
        (ss_sc a1 x5_77).bind fun v8 =>
        (ss_gr h this 2 0).bind fun r9 =>
        (ss_ai h r9 20 x3_77).bind fun v10 =>
        if v8 = v10 then
          mm_T_wordIn_j129 N this a1 h x2_77 x3_77 x5_77 (1 : Int32)
        else
          mm_T_wordIn_j128 N this a1 h x2_77 x3_77 x5_77
  else
    (some (x2_77 + (1 : Int32))).bind fun v12 =>
    (ss_gi h this 2 3).bind fun v13 =>
    mm_T_wordIn_j134 N this a1 h v12 v13 (1 : Int32) x5_77
def mm_T_wordIn_j55 (N : Nat) (this : Option Nat) (a1 : Nat) (h : ss_Hp) (x2_55 : Int32) (x3_55 : Int32) (x4_55 : Int32) (x5_55 : Int32) (s0_55 : Int32) : Option ((Int32 × Int32 × Int32 × Int32) ⊕ (Unit ⊕ Int32)) :=
  if s0_55 = 0 then
    mm_T_wordIn_j77 N this a1 h x2_55 x3_55 x4_55 x5_55 s0_55
  else
    if x4_55 = 0 then
      mm_T_wordIn_j77 N this a1 h x2_55 x3_55 x4_55 x5_55 s0_55
    else
      (ss_gi h this 2 4).bind fun v16 =>
      if x3_55 = v16 then
        some (.inr (.inr x2_55))
      else
        mm_T_wordIn_j77 N this a1 h x2_55 x3_55 x4_55 x5_55 s0_55
def mm_T_wordIn_j50 (N : Nat) (this : Option Nat) (a1 : Nat) (h : ss_Hp) (x2_50 : Int32) (x3_50 : Int32) (x4_50 : Int32) (x5_50 : Int32) : Option ((Int32 × Int32 × Int32 × Int32) ⊕ (Unit ⊕ Int32)) :=
  mm_T_wordIn_j55 N this a1 h x2_50 x3_50 x4_50 x5_50 (1 : Int32)
def mm_T_wordIn_b13 (N : Nat) (this : Option Nat) (a1 : Nat) (h : ss_Hp) (st : Int32 × Int32 × Int32 × Int32) : Option ((Int32 × Int32 × Int32 × Int32) ⊕ (Unit ⊕ Int32)) :=
  match st with
  | (x2_13, x3_13, x4_13, x5_13) =>
    (ss_sl a1).bind fun v18 =>
    if v18 < x5_13 then
      some (.inr (.inl ()))
    else
      (ss_gi h this 2 2).bind fun v20 =>
      if v20 = (1 : Int32) then
        (ss_sl a1).bind fun v22 =>
        if x5_13 = v22 then
          mm_T_wordIn_j50 N this a1 h x2_13 x3_13 x4_13 x5_13
        else
          (ss_sc a1 x5_13).bind fun v24 =>
          if v24 = (32 : Int32) then
            mm_T_wordIn_j50 N this a1 h x2_13 x3_13 x4_13 x5_13
          else
            mm_T_wordIn_j55 N this a1 h x2_13 x3_13 x4_13 x5_13 (0 : Int32)
      else
        some (.inr (.inl ()))
def mm_T_wordIn (N : Nat) (this : Option Nat) (a1 : Nat) (h : ss_Hp) : Option Int32 :=
  if ss_is h this 2 = true then
    (ss_gi h this 2 3).bind fun v1 =>
    (ss_lp (mm_T_wordIn_b13 N this a1 h) N ((0 : Int32), v1, (1 : Int32), (0 : Int32))).bind fun e_13 =>
    match e_13 with
    | (.inl ()) =>
      some (-1 : Int32)
    | (.inr y2_13_75) =>
      some y2_13_75
  else none
abbrev ww_T_wordIn (p : Program) (l : Launch) (e : Env) (s : State) (m : MethodId) (below : List Frame) (meth : Method) (c : Code) (G : ss_G) (this : Option Nat) (a1 : Nat) (h : ss_Hp) (rr : Int32) (H : Heap) (locs : List Loc) (k n : Nat) (g : JFrame) : Prop := W p l e (headSpec (ss_w yy_T_wordIn bb_T_wordIn 7 (some (.int))) ({ frames := 8, cells := 0, slots := 0, locals := 200 })).room s m ([ss_v (ss_b G) this, .ref (G.2.2.2.1 a1)] : List Value).toArray below meth c H locs k n (MQ below (ss_Qc G (some (.int rr)) h) ([ss_v (ss_b G) this, .ref (G.2.2.2.1 a1)] : List Value).toArray s 0 0 (ss_A G)) g
theorem ck_T_wordIn {N : Nat} {this : Option Nat} {a1 : Nat} {h : ss_Hp} {res : Int32} (hm : mm_T_wordIn N this a1 h = some res) : ss_is h this 2 = true := (ss_chk hm).1
set_option maxHeartbeats 4000000 in
set_option maxRecDepth 100000 in
theorem cc_T_wordIn (l : Launch) (G : ss_G) (N : Nat) (this : Option Nat) (a1 : Nat) (h : ss_Hp) (rr : Int32) (hm : mm_T_wordIn N this a1 h = some rr) : ss_Ct l G yy_T_wordIn bb_T_wordIn 7 (some (.int)) ({ frames := 8, cells := 0, slots := 0, locals := 200 }) [ss_v (ss_b G) this, .ref (G.2.2.2.1 a1)] h (some (.int rr)) h := by
  obtain ⟨hck, hm⟩ := ss_chk hm
  refine Met.ofW (cc := bb_T_wordIn) (maxL := 7) (ret := (some (.int))) (by decide) rfl ?_
  intro p e s m args below meth c s₁ B hml hv
  obtain ⟨rfl, hR, hK⟩ := hv
  have hC : CallFix p m c bb_T_wordIn 7 s _ lw_g sR_2 := ⟨B.exec, B.bytes, hml, findClass_of_methodNamed B.named, fun w hw => atoms_spec (ws := ss_w yy_T_wordIn bb_T_wordIn 7 (some (.int))) B.pre w (List.mem_cons_of_mem _ hw)⟩
  have hx := hC.1
  have hb := hC.2.1
  have hr := B.returns
  have hlocks := B.notSynchronized
  have hS : va_S (ss_A G) s.heap s.heap [] := va_S.rf
  have hl := lv_entry ([ss_v (ss_b G) this, .ref (G.2.2.2.1 a1)]) (n := 7) (by simp [lg_sl, ss_v_cat, ss_cat_i, ss_cat_l, ss_cat_r])
  rw [lg_entry_eq]
  generalize (lg_sl ([ss_v (ss_b G) this, .ref (G.2.2.2.1 a1)]) ++ List.replicate (7 - (lg_sl ([ss_v (ss_b G) this, .ref (G.2.2.2.1 a1)])).length) Slot.unset).toArray = ls at hl ⊢
  have hl : lv_has ls 7 [(0, ss_v (ss_b G) this), (1, .ref (G.2.2.2.1 a1))] := by simpa [lv_args, ss_v_cat, ss_cat_i, ss_cat_l, ss_cat_r] using hl
  refine lv_iconst (v := 0) hx hb dd_T_wordIn_0 (by decide) ?_
  refine lv_istore_n (lv' := [(2, .int (0 : Int32)), (0, ss_v (ss_b G) this), (1, .ref (G.2.2.2.1 a1))]) hx hb dd_T_wordIn_1 rfl hl (by decide) rfl (fun ls hl => ?_)
  refine ss_aload_n hx hb dd_T_wordIn_2 rfl (lv_at hl 1 rfl) ?_
  obtain ⟨v1, qv1, hm⟩ := ss_bind hm
  refine ss_geti hC hK hR kf_T_28 qv1 dd_T_wordIn_3 ?_
  refine lv_istore_n (lv' := [(3, .int v1), (2, .int (0 : Int32)), (0, ss_v (ss_b G) this), (1, .ref (G.2.2.2.1 a1))]) hx hb dd_T_wordIn_6 rfl hl (by decide) rfl (fun ls hl => ?_)
  refine lv_iconst (v := 1) hx hb dd_T_wordIn_7 (by decide) ?_
  refine lv_istore (lv' := [(4, .int (1 : Int32)), (3, .int v1), (2, .int (0 : Int32)), (0, ss_v (ss_b G) this), (1, .ref (G.2.2.2.1 a1))]) hx hb dd_T_wordIn_8 hl (by decide) rfl (fun ls hl => ?_)
  refine lv_iconst (v := 0) hx hb dd_T_wordIn_10 (by decide) ?_
  refine lv_istore (lv' := [(5, .int (0 : Int32)), (4, .int (1 : Int32)), (3, .int v1), (2, .int (0 : Int32)), (0, ss_v (ss_b G) this), (1, .ref (G.2.2.2.1 a1))]) hx hb dd_T_wordIn_11 hl (by decide) rfl (fun ls hl => ?_)
  obtain ⟨e_13, he_13, hm⟩ := ss_bind hm
  have X_13_140 : ∀  (H : Heap) (locs : List Loc) (ls : Array Slot), e_13 = (.inl ()) → ss_R G h H → va_S (ss_A G) s.heap H locs → lv_has ls 7 [] → ww_T_wordIn p l e s m below meth c G this a1 h rr  H locs 0 0 (F0 m 140 ls []) := by
    intro  H locs ls hq hR hS hl
    rw [hq] at hm
    refine lv_iconst (v := -1) hx hb dd_T_wordIn_140 (by decide) ?_
    exact ss_iret hC hr hlocks hR hS (ss_with _ hm) dd_T_wordIn_141
  have X_13_75 : ∀ (y2_13_75 : Int32) (H : Heap) (locs : List Loc) (ls : Array Slot), e_13 = (.inr y2_13_75) → ss_R G h H → va_S (ss_A G) s.heap H locs → lv_has ls 7 [(2, .int y2_13_75)] → ww_T_wordIn p l e s m below meth c G this a1 h rr  H locs 0 0 (F0 m 75 ls []) := by
    intro y2_13_75 H locs ls hq hR hS hl
    rw [hq] at hm
    refine lv_iload_n hx hb dd_T_wordIn_75 rfl (lv_at hl 0 rfl) ?_
    exact ss_iret hC hr hlocks hR hS (ss_with _ hm) dd_T_wordIn_76
  have L_13 : ∀ (n : Nat) (x2_13 : Int32) (x3_13 : Int32) (x4_13 : Int32) (x5_13 : Int32) (H : Heap) (locs : List Loc) (ls : Array Slot), ss_lp (mm_T_wordIn_b13 N this a1 h) n (x2_13, x3_13, x4_13, x5_13) = some e_13 → ss_R G h H → va_S (ss_A G) s.heap H locs → lv_has ls 7 [(0, ss_v (ss_b G) this), (1, .ref (G.2.2.2.1 a1)), (2, .int x2_13), (3, .int x3_13), (4, .int x4_13), (5, .int x5_13)] → ww_T_wordIn p l e s m below meth c G this a1 h rr  H locs 0 0 (F0 m 13 ls []) := by
    intro n
    induction n with
    | zero => intro x2_13 x3_13 x4_13 x5_13 H locs ls hm; cases hm
    | succ n ih_13 =>
      intro x2_13 x3_13 x4_13 x5_13 H locs ls hm hR hS hl
      obtain ⟨z_13, hm, hz1_13, hz2_13⟩ := ss_lps hm
      have J_134 : ∀ (x2_134 : Int32) (x3_134 : Int32) (x4_134 : Int32) (x5_134 : Int32) (H : Heap) (locs : List Loc) (ls : Array Slot), mm_T_wordIn_j134 N this a1 h x2_134 x3_134 x4_134 x5_134 = some z_13 → ss_R G h H → va_S (ss_A G) s.heap H locs → lv_has ls 7 [(0, ss_v (ss_b G) this), (1, .ref (G.2.2.2.1 a1)), (2, .int x2_134), (3, .int x3_134), (4, .int x4_134), (5, .int x5_134)] → ww_T_wordIn p l e s m below meth c G this a1 h rr  H locs 0 0 (F0 m 134 ls []) := by
        intro x2_134 x3_134 x4_134 x5_134 H locs ls hm hR hS hl
        obtain ⟨v2, qv2, hm⟩ := ss_bind hm
        refine lv_iinc (v := v2) (lv' := [(5, .int v2), (0, ss_v (ss_b G) this), (1, .ref (G.2.2.2.1 a1)), (2, .int x2_134), (3, .int x3_134), (4, .int x4_134)]) hx hb dd_T_wordIn_134 hl (k := 5) rfl (ss_inc (by decide) qv2) (by decide) rfl (fun ls hl => ?_)
        refine lv_goto (tgt := 13) hx hb dd_T_wordIn_137 (by decide) ?_
        exact ih_13 x2_134 x3_134 x4_134 v2  _ _ _ (hz1_13 _ (ss_some hm)) hR hS (lv_sub hl [1, 2, 3, 4, 5, 0] rfl)
      have J_129 : ∀ (x2_129 : Int32) (x3_129 : Int32) (x5_129 : Int32) (s0_129 : Int32) (H : Heap) (locs : List Loc) (ls : Array Slot), mm_T_wordIn_j129 N this a1 h x2_129 x3_129 x5_129 s0_129 = some z_13 → ss_R G h H → va_S (ss_A G) s.heap H locs → lv_has ls 7 [(0, ss_v (ss_b G) this), (1, .ref (G.2.2.2.1 a1)), (2, .int x2_129), (3, .int x3_129), (5, .int x5_129)] → ww_T_wordIn p l e s m below meth c G this a1 h rr  H locs 0 0 (F0 m 129 ls [.int s0_129]) := by
        intro x2_129 x3_129 x5_129 s0_129 H locs ls hm hR hS hl
        refine lv_istore (lv' := [(4, .int s0_129), (0, ss_v (ss_b G) this), (1, .ref (G.2.2.2.1 a1)), (2, .int x2_129), (3, .int x3_129), (5, .int x5_129)]) hx hb dd_T_wordIn_129 hl (by decide) rfl (fun ls hl => ?_)
        obtain ⟨v3, qv3, hm⟩ := ss_bind hm
        refine lv_iinc (v := v3) (lv' := [(3, .int v3), (4, .int s0_129), (0, ss_v (ss_b G) this), (1, .ref (G.2.2.2.1 a1)), (2, .int x2_129), (5, .int x5_129)]) hx hb dd_T_wordIn_131 hl (k := 4) rfl (ss_inc (by decide) qv3) (by decide) rfl (fun ls hl => ?_)
        exact J_134 x2_129 v3 s0_129 x5_129  _ _ _ hm hR hS (lv_sub hl [2, 3, 4, 0, 1, 5] rfl)
      have J_128 : ∀ (x2_128 : Int32) (x3_128 : Int32) (x5_128 : Int32) (H : Heap) (locs : List Loc) (ls : Array Slot), mm_T_wordIn_j128 N this a1 h x2_128 x3_128 x5_128 = some z_13 → ss_R G h H → va_S (ss_A G) s.heap H locs → lv_has ls 7 [(0, ss_v (ss_b G) this), (1, .ref (G.2.2.2.1 a1)), (2, .int x2_128), (3, .int x3_128), (5, .int x5_128)] → ww_T_wordIn p l e s m below meth c G this a1 h rr  H locs 0 0 (F0 m 128 ls []) := by
        intro x2_128 x3_128 x5_128 H locs ls hm hR hS hl
        refine lv_iconst (v := 0) hx hb dd_T_wordIn_128 (by decide) ?_
        exact J_129 x2_128 x3_128 x5_128 (0 : Int32)  _ _ _ hm hR hS hl
      have J_77 : ∀ (x2_77 : Int32) (x3_77 : Int32) (x4_77 : Int32) (x5_77 : Int32) (x6_77 : Int32) (H : Heap) (locs : List Loc) (ls : Array Slot), mm_T_wordIn_j77 N this a1 h x2_77 x3_77 x4_77 x5_77 x6_77 = some z_13 → ss_R G h H → va_S (ss_A G) s.heap H locs → lv_has ls 7 [(0, ss_v (ss_b G) this), (1, .ref (G.2.2.2.1 a1)), (2, .int x2_77), (3, .int x3_77), (4, .int x4_77), (5, .int x5_77), (6, .int x6_77)] → ww_T_wordIn p l e s m below meth c G this a1 h rr  H locs 0 0 (F0 m 77 ls []) := by
        intro x2_77 x3_77 x4_77 x5_77 x6_77 H locs ls hm hR hS hl
        refine lv_iload hx hb dd_T_wordIn_77 (lv_at hl 6 rfl) ?_
        refine lv_if_eq (tgt := 96) hx hb dd_T_wordIn_79 (by decide) (fun c4 => ?_) (fun c4 => ?_)
        · have hm := ss_ift hm c4
          refine lv_iload hx hb dd_T_wordIn_96 (lv_at hl 4 rfl) ?_
          refine lv_if_eq (tgt := 128) hx hb dd_T_wordIn_98 (by decide) (fun c5 => ?_) (fun c5 => ?_)
          · have hm := ss_ift hm c5
            exact J_128 x2_77 x3_77 x5_77  _ _ _ hm hR hS (lv_sub hl [0, 1, 2, 3, 5] rfl)
          · have hm := ss_iff hm c5
            refine lv_iload_n hx hb dd_T_wordIn_101 rfl (lv_at hl 3 rfl) ?_
            refine ss_aload_n hx hb dd_T_wordIn_102 rfl (lv_at hl 0 rfl) ?_
            obtain ⟨v6, qv6, hm⟩ := ss_bind hm
            refine ss_geti hC hK hR kf_T_22 qv6 dd_T_wordIn_103 ?_
            refine lv_icmp_ge (tgt := 128) hx hb dd_T_wordIn_106 (by decide) (fun c7 => ?_) (fun c7 => ?_)
            · have hm := ss_ift hm c7
              exact J_128 x2_77 x3_77 x5_77  _ _ _ hm hR hS (lv_sub hl [0, 1, 2, 3, 5] rfl)
            · have hm := ss_iff hm c7
              refine lv_aload_n hx hb dd_T_wordIn_109 rfl (lv_at hl 1 rfl) ?_
              refine lv_iload hx hb dd_T_wordIn_110 (lv_at hl 5 rfl) ?_
              obtain ⟨v8, qv8, hm⟩ := ss_bind hm
              refine ss_schr hC hK hR hS hl.1 qv8 ks_T_46 (Nat.le_of_ble_eq_true rfl) (Nat.le_of_ble_eq_true rfl) ⟨Nat.le_of_ble_eq_true rfl, Nat.le_of_ble_eq_true rfl⟩ (Nat.le_of_ble_eq_true rfl) dd_T_wordIn_112 (fun H locs hR hS => ?_)
              refine ss_aload_n hx hb dd_T_wordIn_115 rfl (lv_at hl 0 rfl) ?_
              obtain ⟨r9, qr9, hm⟩ := ss_bind hm
              refine ss_getr hC hK hR kf_T_11 rfl qr9 dd_T_wordIn_116 ?_
              refine lv_iload_n hx hb dd_T_wordIn_119 rfl (lv_at hl 3 rfl) ?_
              obtain ⟨v10, qv10, hm⟩ := ss_bind hm
              refine ss_iald hC hK hR qv10 dd_T_wordIn_120 ?_
              refine lv_icmp_ne (tgt := 128) hx hb dd_T_wordIn_121 (by decide) (fun c11 => ?_) (fun c11 => ?_)
              · have hm := ss_iff hm c11
                exact J_128 x2_77 x3_77 x5_77  _ _ _ hm hR hS (lv_sub hl [0, 1, 2, 3, 5] rfl)
              · have hm := ss_ift hm c11
                refine lv_iconst (v := 1) hx hb dd_T_wordIn_124 (by decide) ?_
                refine lv_goto (tgt := 129) hx hb dd_T_wordIn_125 (by decide) ?_
                exact J_129 x2_77 x3_77 x5_77 (1 : Int32)  _ _ _ hm hR hS (lv_sub hl [0, 1, 2, 3, 5] rfl)
        · have hm := ss_iff hm c4
          obtain ⟨v12, qv12, hm⟩ := ss_bind hm
          refine lv_iinc (v := v12) (lv' := [(2, .int v12), (0, ss_v (ss_b G) this), (1, .ref (G.2.2.2.1 a1)), (3, .int x3_77), (4, .int x4_77), (5, .int x5_77), (6, .int x6_77)]) hx hb dd_T_wordIn_82 hl (k := 2) rfl (ss_inc (by decide) qv12) (by decide) rfl (fun ls hl => ?_)
          refine ss_aload_n hx hb dd_T_wordIn_85 rfl (lv_at hl 1 rfl) ?_
          obtain ⟨v13, qv13, hm⟩ := ss_bind hm
          refine ss_geti hC hK hR kf_T_28 qv13 dd_T_wordIn_86 ?_
          refine lv_istore_n (lv' := [(3, .int v13), (2, .int v12), (0, ss_v (ss_b G) this), (1, .ref (G.2.2.2.1 a1)), (4, .int x4_77), (5, .int x5_77), (6, .int x6_77)]) hx hb dd_T_wordIn_89 rfl hl (by decide) rfl (fun ls hl => ?_)
          refine lv_iconst (v := 1) hx hb dd_T_wordIn_90 (by decide) ?_
          refine lv_istore (lv' := [(4, .int (1 : Int32)), (3, .int v13), (2, .int v12), (0, ss_v (ss_b G) this), (1, .ref (G.2.2.2.1 a1)), (5, .int x5_77), (6, .int x6_77)]) hx hb dd_T_wordIn_91 hl (by decide) rfl (fun ls hl => ?_)
          refine lv_goto (tgt := 134) hx hb dd_T_wordIn_93 (by decide) ?_
          exact J_134 v12 v13 (1 : Int32) x5_77  _ _ _ hm hR hS (lv_sub hl [3, 4, 2, 1, 0, 5] rfl)
      have J_55 : ∀ (x2_55 : Int32) (x3_55 : Int32) (x4_55 : Int32) (x5_55 : Int32) (s0_55 : Int32) (H : Heap) (locs : List Loc) (ls : Array Slot), mm_T_wordIn_j55 N this a1 h x2_55 x3_55 x4_55 x5_55 s0_55 = some z_13 → ss_R G h H → va_S (ss_A G) s.heap H locs → lv_has ls 7 [(0, ss_v (ss_b G) this), (1, .ref (G.2.2.2.1 a1)), (2, .int x2_55), (3, .int x3_55), (4, .int x4_55), (5, .int x5_55)] → ww_T_wordIn p l e s m below meth c G this a1 h rr  H locs 0 0 (F0 m 55 ls [.int s0_55]) := by
        intro x2_55 x3_55 x4_55 x5_55 s0_55 H locs ls hm hR hS hl
        refine lv_istore (lv' := [(6, .int s0_55), (0, ss_v (ss_b G) this), (1, .ref (G.2.2.2.1 a1)), (2, .int x2_55), (3, .int x3_55), (4, .int x4_55), (5, .int x5_55)]) hx hb dd_T_wordIn_55 hl (by decide) rfl (fun ls hl => ?_)
        refine lv_iload hx hb dd_T_wordIn_57 (lv_at hl 0 rfl) ?_
        refine lv_if_eq (tgt := 77) hx hb dd_T_wordIn_59 (by decide) (fun c14 => ?_) (fun c14 => ?_)
        · have hm := ss_ift hm c14
          exact J_77 x2_55 x3_55 x4_55 x5_55 s0_55  _ _ _ hm hR hS (lv_sub hl [1, 2, 3, 4, 5, 6, 0] rfl)
        · have hm := ss_iff hm c14
          refine lv_iload hx hb dd_T_wordIn_62 (lv_at hl 5 rfl) ?_
          refine lv_if_eq (tgt := 77) hx hb dd_T_wordIn_64 (by decide) (fun c15 => ?_) (fun c15 => ?_)
          · have hm := ss_ift hm c15
            exact J_77 x2_55 x3_55 x4_55 x5_55 s0_55  _ _ _ hm hR hS (lv_sub hl [1, 2, 3, 4, 5, 6, 0] rfl)
          · have hm := ss_iff hm c15
            refine lv_iload_n hx hb dd_T_wordIn_67 rfl (lv_at hl 4 rfl) ?_
            refine ss_aload_n hx hb dd_T_wordIn_68 rfl (lv_at hl 1 rfl) ?_
            obtain ⟨v16, qv16, hm⟩ := ss_bind hm
            refine ss_geti hC hK hR kf_T_22 qv16 dd_T_wordIn_69 ?_
            refine lv_icmp_ne (tgt := 77) hx hb dd_T_wordIn_72 (by decide) (fun c17 => ?_) (fun c17 => ?_)
            · have hm := ss_iff hm c17
              exact J_77 x2_55 x3_55 x4_55 x5_55 s0_55  _ _ _ hm hR hS (lv_sub hl [1, 2, 3, 4, 5, 6, 0] rfl)
            · have hm := ss_ift hm c17
              exact X_13_75 x2_55  _ _ _ (hz2_13 _ (ss_some hm)) hR hS (lv_sub hl [3] rfl)
      have J_50 : ∀ (x2_50 : Int32) (x3_50 : Int32) (x4_50 : Int32) (x5_50 : Int32) (H : Heap) (locs : List Loc) (ls : Array Slot), mm_T_wordIn_j50 N this a1 h x2_50 x3_50 x4_50 x5_50 = some z_13 → ss_R G h H → va_S (ss_A G) s.heap H locs → lv_has ls 7 [(0, ss_v (ss_b G) this), (1, .ref (G.2.2.2.1 a1)), (2, .int x2_50), (3, .int x3_50), (4, .int x4_50), (5, .int x5_50)] → ww_T_wordIn p l e s m below meth c G this a1 h rr  H locs 0 0 (F0 m 50 ls []) := by
        intro x2_50 x3_50 x4_50 x5_50 H locs ls hm hR hS hl
        refine lv_iconst (v := 1) hx hb dd_T_wordIn_50 (by decide) ?_
        refine lv_goto (tgt := 55) hx hb dd_T_wordIn_51 (by decide) ?_
        exact J_55 x2_50 x3_50 x4_50 x5_50 (1 : Int32)  _ _ _ hm hR hS hl
      refine lv_iload hx hb dd_T_wordIn_13 (lv_at hl 5 rfl) ?_
      refine lv_aload_n hx hb dd_T_wordIn_15 rfl (lv_at hl 1 rfl) ?_
      obtain ⟨v18, qv18, hm⟩ := ss_bind hm
      refine ss_slen hC hK hR hS hl.1 qv18 ks_T_41 (Nat.le_of_ble_eq_true rfl) (Nat.le_of_ble_eq_true rfl) ⟨Nat.le_of_ble_eq_true rfl, Nat.le_of_ble_eq_true rfl⟩ (Nat.le_of_ble_eq_true rfl) dd_T_wordIn_16 (fun H locs hR hS => ?_)
      refine lv_icmp_gt (tgt := 140) hx hb dd_T_wordIn_19 (by decide) (fun c19 => ?_) (fun c19 => ?_)
      · have hm := ss_ift hm c19
        exact X_13_140  _ _ _ (hz2_13 _ (ss_some hm)) hR hS (lv_sub hl [] rfl)
      · have hm := ss_iff hm c19
        refine ss_aload_n hx hb dd_T_wordIn_22 rfl (lv_at hl 0 rfl) ?_
        obtain ⟨v20, qv20, hm⟩ := ss_bind hm
        refine ss_geti hC hK hR kf_T_31 qv20 dd_T_wordIn_23 ?_
        refine lv_iconst (v := 1) hx hb dd_T_wordIn_26 (by decide) ?_
        refine lv_icmp_ne (tgt := 140) hx hb dd_T_wordIn_27 (by decide) (fun c21 => ?_) (fun c21 => ?_)
        · have hm := ss_iff hm c21
          exact X_13_140  _ _ _ (hz2_13 _ (ss_some hm)) hR hS (lv_sub hl [] rfl)
        · have hm := ss_ift hm c21
          refine lv_iload hx hb dd_T_wordIn_30 (lv_at hl 5 rfl) ?_
          refine lv_aload_n hx hb dd_T_wordIn_32 rfl (lv_at hl 1 rfl) ?_
          obtain ⟨v22, qv22, hm⟩ := ss_bind hm
          refine ss_slen hC hK hR hS hl.1 qv22 ks_T_41 (Nat.le_of_ble_eq_true rfl) (Nat.le_of_ble_eq_true rfl) ⟨Nat.le_of_ble_eq_true rfl, Nat.le_of_ble_eq_true rfl⟩ (Nat.le_of_ble_eq_true rfl) dd_T_wordIn_33 (fun H locs hR hS => ?_)
          refine lv_icmp_eq (tgt := 50) hx hb dd_T_wordIn_36 (by decide) (fun c23 => ?_) (fun c23 => ?_)
          · have hm := ss_ift hm c23
            exact J_50 x2_13 x3_13 x4_13 x5_13  _ _ _ hm hR hS hl
          · have hm := ss_iff hm c23
            refine lv_aload_n hx hb dd_T_wordIn_39 rfl (lv_at hl 1 rfl) ?_
            refine lv_iload hx hb dd_T_wordIn_40 (lv_at hl 5 rfl) ?_
            obtain ⟨v24, qv24, hm⟩ := ss_bind hm
            refine ss_schr hC hK hR hS hl.1 qv24 ks_T_46 (Nat.le_of_ble_eq_true rfl) (Nat.le_of_ble_eq_true rfl) ⟨Nat.le_of_ble_eq_true rfl, Nat.le_of_ble_eq_true rfl⟩ (Nat.le_of_ble_eq_true rfl) dd_T_wordIn_42 (fun H locs hR hS => ?_)
            refine lv_bipush (v := 32) hx hb dd_T_wordIn_45 (by decide) ?_
            refine lv_icmp_ne (tgt := 54) hx hb dd_T_wordIn_47 (by decide) (fun c25 => ?_) (fun c25 => ?_)
            · have hm := ss_iff hm c25
              refine lv_iconst (v := 0) hx hb dd_T_wordIn_54 (by decide) ?_
              exact J_55 x2_13 x3_13 x4_13 x5_13 (0 : Int32)  _ _ _ hm hR hS hl
            · have hm := ss_ift hm c25
              exact J_50 x2_13 x3_13 x4_13 x5_13  _ _ _ hm hR hS hl
  exact L_13 N (0 : Int32) v1 (1 : Int32) (0 : Int32) _ _ _ he_13 hR hS (lv_sub hl [4, 5, 3, 2, 1, 0] rfl)
theorem dd_T_fail_0 : decode bb_T_fail 0 = .ok (.aload_n 0, 1) := by decide +kernel
theorem dd_T_fail_1 : decode bb_T_fail 1 = .ok (.getfield 19, 3) := by decide +kernel
theorem dd_T_fail_4 : decode bb_T_fail 4 = .ok (.ifCond .ne 18, 3) := by decide +kernel
theorem dd_T_fail_7 : decode bb_T_fail 7 = .ok (.aload_n 0, 1) := by decide +kernel
theorem dd_T_fail_8 : decode bb_T_fail 8 = .ok (.iconst 1, 1) := by decide +kernel
theorem dd_T_fail_9 : decode bb_T_fail 9 = .ok (.bipush 8, 2) := by decide +kernel
theorem dd_T_fail_11 : decode bb_T_fail 11 = .ok (.aload_n 0, 1) := by decide +kernel
theorem dd_T_fail_12 : decode bb_T_fail 12 = .ok (.getfield 28, 3) := by decide +kernel
theorem dd_T_fail_15 : decode bb_T_fail 15 = .ok (.imul, 1) := by decide +kernel
theorem dd_T_fail_16 : decode bb_T_fail 16 = .ok (.iadd, 1) := by decide +kernel
theorem dd_T_fail_17 : decode bb_T_fail 17 = .ok (.iload_n 1, 1) := by decide +kernel
theorem dd_T_fail_18 : decode bb_T_fail 18 = .ok (.iadd, 1) := by decide +kernel
theorem dd_T_fail_19 : decode bb_T_fail 19 = .ok (.putfield 19, 3) := by decide +kernel
theorem dd_T_fail_22 : decode bb_T_fail 22 = .ok (.return_, 1) := by decide +kernel
def mm_T_fail_j22 (N : Nat) (this : Option Nat) (a1 : Int32) (h_22 : ss_Hp) : Option ss_Hp :=
  some h_22
def mm_T_fail (N : Nat) (this : Option Nat) (a1 : Int32) (h : ss_Hp) : Option ss_Hp :=
  if ss_is h this 2 = true then
    (ss_gi h this 2 1).bind fun v1 =>
    if v1 = 0 then
      (ss_gi h this 2 3).bind fun v3 =>
      (ss_pi h this 2 1 (((1 : Int32) + ((8 : Int32) * v3)) + a1)).bind fun h4 =>
      mm_T_fail_j22 N this a1 h4
    else
      mm_T_fail_j22 N this a1 h
  else none
abbrev ww_T_fail (p : Program) (l : Launch) (e : Env) (s : State) (m : MethodId) (below : List Frame) (meth : Method) (c : Code) (G : ss_G) (this : Option Nat) (a1 : Int32) (h : ss_Hp) (hh : ss_Hp) (H : Heap) (locs : List Loc) (k n : Nat) (g : JFrame) : Prop := W p l e (headSpec (ss_w yy_T_fail bb_T_fail 2 none) ({ frames := 0, cells := 0, slots := 0, locals := 0 })).room s m ([ss_v (ss_b G) this, .int a1] : List Value).toArray below meth c H locs k n (MQ below (ss_Qc G none hh) ([ss_v (ss_b G) this, .int a1] : List Value).toArray s 0 0 (ss_A G)) g
theorem ck_T_fail {N : Nat} {this : Option Nat} {a1 : Int32} {h : ss_Hp} {res : ss_Hp} (hm : mm_T_fail N this a1 h = some res) : ss_is h this 2 = true := (ss_chk hm).1
set_option maxHeartbeats 4000000 in
set_option maxRecDepth 100000 in
theorem cc_T_fail (l : Launch) (G : ss_G) (N : Nat) (this : Option Nat) (a1 : Int32) (h : ss_Hp) (hh : ss_Hp) (hm : mm_T_fail N this a1 h = some hh) : ss_Ct l G yy_T_fail bb_T_fail 2 none ({ frames := 0, cells := 0, slots := 0, locals := 0 }) [ss_v (ss_b G) this, .int a1] h none hh := by
  obtain ⟨hck, hm⟩ := ss_chk hm
  refine Met.ofW (cc := bb_T_fail) (maxL := 2) (ret := none) (by decide) rfl ?_
  intro p e s m args below meth c s₁ B hml hv
  obtain ⟨rfl, hR, hK⟩ := hv
  have hC : CallFix p m c bb_T_fail 2 s _ lw_g sR_2 := ⟨B.exec, B.bytes, hml, findClass_of_methodNamed B.named, fun w hw => atoms_spec (ws := ss_w yy_T_fail bb_T_fail 2 none) B.pre w (List.mem_cons_of_mem _ hw)⟩
  have hx := hC.1
  have hb := hC.2.1
  have hr := B.returns
  have hlocks := B.notSynchronized
  have hS : va_S (ss_A G) s.heap s.heap [] := va_S.rf
  have hl := lv_entry ([ss_v (ss_b G) this, .int a1]) (n := 2) (by simp [lg_sl, ss_v_cat, ss_cat_i, ss_cat_l, ss_cat_r])
  rw [lg_entry_eq]
  generalize (lg_sl ([ss_v (ss_b G) this, .int a1]) ++ List.replicate (2 - (lg_sl ([ss_v (ss_b G) this, .int a1])).length) Slot.unset).toArray = ls at hl ⊢
  have hl : lv_has ls 2 [(0, ss_v (ss_b G) this), (1, .int a1)] := by simpa [lv_args, ss_v_cat, ss_cat_i, ss_cat_l, ss_cat_r] using hl
  have J_22 : ∀ (h_22 : ss_Hp) (H : Heap) (locs : List Loc) (ls : Array Slot), mm_T_fail_j22 N this a1 h_22 = some hh → ss_R G h_22 H → va_S (ss_A G) s.heap H locs → lv_has ls 2 [] → ww_T_fail p l e s m below meth c G this a1 h hh  H locs 0 0 (F0 m 22 ls []) := by
    intro h_22 H locs ls hm hR hS hl
    exact ss_vret hC hr hlocks hR hS hm dd_T_fail_22
  refine ss_aload_n hx hb dd_T_fail_0 rfl (lv_at hl 0 rfl) ?_
  obtain ⟨v1, qv1, hm⟩ := ss_bind hm
  refine ss_geti hC hK hR kf_T_19 qv1 dd_T_fail_1 ?_
  refine lv_if_ne (tgt := 22) hx hb dd_T_fail_4 (by decide) (fun c2 => ?_) (fun c2 => ?_)
  · have hm := ss_iff hm c2
    exact J_22 h _ _ _ hm hR hS (lv_sub hl [] rfl)
  · have hm := ss_ift hm c2
    refine ss_aload_n hx hb dd_T_fail_7 rfl (lv_at hl 0 rfl) ?_
    refine lv_iconst (v := 1) hx hb dd_T_fail_8 (by decide) ?_
    refine lv_bipush (v := 8) hx hb dd_T_fail_9 (by decide) ?_
    refine ss_aload_n hx hb dd_T_fail_11 rfl (lv_at hl 0 rfl) ?_
    obtain ⟨v3, qv3, hm⟩ := ss_bind hm
    refine ss_geti hC hK hR kf_T_28 qv3 dd_T_fail_12 ?_
    refine lv_imul hx hb dd_T_fail_15 ?_
    refine lv_iadd hx hb dd_T_fail_16 ?_
    refine lv_iload_n hx hb dd_T_fail_17 rfl (lv_at hl 1 rfl) ?_
    refine lv_iadd hx hb dd_T_fail_18 ?_
    obtain ⟨h4, qh4, hm⟩ := ss_bind hm
    refine ss_puti hC hK hR hS kp_T_19 qh4 dd_T_fail_19 (fun H locs hR hS => ?_)
    exact J_22 h4 _ _ _ hm hR hS (lv_sub hl [] rfl)
theorem dd_VR_mayStand_0 : decode bb_VR_mayStand 0 = .ok (.iload_n 2, 1) := by decide +kernel
theorem dd_VR_mayStand_1 : decode bb_VR_mayStand 1 = .ok (.bipush 40, 2) := by decide +kernel
theorem dd_VR_mayStand_3 : decode bb_VR_mayStand 3 = .ok (.if_icmp .ge 24, 3) := by decide +kernel
theorem dd_VR_mayStand_6 : decode bb_VR_mayStand 6 = .ok (.iload_n 1, 1) := by decide +kernel
theorem dd_VR_mayStand_7 : decode bb_VR_mayStand 7 = .ok (.ifCond .ne 7, 3) := by decide +kernel
theorem dd_VR_mayStand_10 : decode bb_VR_mayStand 10 = .ok (.iconst 1, 1) := by decide +kernel
theorem dd_VR_mayStand_11 : decode bb_VR_mayStand 11 = .ok (.goto 4, 3) := by decide +kernel
theorem dd_VR_mayStand_14 : decode bb_VR_mayStand 14 = .ok (.iconst 0, 1) := by decide +kernel
theorem dd_VR_mayStand_15 : decode bb_VR_mayStand 15 = .ok (.iload_n 2, 1) := by decide +kernel
theorem dd_VR_mayStand_16 : decode bb_VR_mayStand 16 = .ok (.ifCond .ne 7, 3) := by decide +kernel
theorem dd_VR_mayStand_19 : decode bb_VR_mayStand 19 = .ok (.iconst 1, 1) := by decide +kernel
theorem dd_VR_mayStand_20 : decode bb_VR_mayStand 20 = .ok (.goto 4, 3) := by decide +kernel
theorem dd_VR_mayStand_23 : decode bb_VR_mayStand 23 = .ok (.iconst 0, 1) := by decide +kernel
theorem dd_VR_mayStand_24 : decode bb_VR_mayStand 24 = .ok (.if_icmp .eq 5, 3) := by decide +kernel
theorem dd_VR_mayStand_27 : decode bb_VR_mayStand 27 = .ok (.iconst 0, 1) := by decide +kernel
theorem dd_VR_mayStand_28 : decode bb_VR_mayStand 28 = .ok (.ireturn, 1) := by decide +kernel
theorem dd_VR_mayStand_29 : decode bb_VR_mayStand 29 = .ok (.iload_n 1, 1) := by decide +kernel
theorem dd_VR_mayStand_30 : decode bb_VR_mayStand 30 = .ok (.iconst 1, 1) := by decide +kernel
theorem dd_VR_mayStand_31 : decode bb_VR_mayStand 31 = .ok (.if_icmp .ne 21, 3) := by decide +kernel
theorem dd_VR_mayStand_34 : decode bb_VR_mayStand 34 = .ok (.aload_n 0, 1) := by decide +kernel
theorem dd_VR_mayStand_35 : decode bb_VR_mayStand 35 = .ok (.getfield 18, 3) := by decide +kernel
theorem dd_VR_mayStand_38 : decode bb_VR_mayStand 38 = .ok (.getfield 82, 3) := by decide +kernel
theorem dd_VR_mayStand_41 : decode bb_VR_mayStand 41 = .ok (.bipush 8, 2) := by decide +kernel
theorem dd_VR_mayStand_43 : decode bb_VR_mayStand 43 = .ok (.if_icmp .ge 7, 3) := by decide +kernel
theorem dd_VR_mayStand_46 : decode bb_VR_mayStand 46 = .ok (.iconst 1, 1) := by decide +kernel
theorem dd_VR_mayStand_47 : decode bb_VR_mayStand 47 = .ok (.goto 4, 3) := by decide +kernel
theorem dd_VR_mayStand_50 : decode bb_VR_mayStand 50 = .ok (.iconst 0, 1) := by decide +kernel
theorem dd_VR_mayStand_51 : decode bb_VR_mayStand 51 = .ok (.ireturn, 1) := by decide +kernel
theorem dd_VR_mayStand_52 : decode bb_VR_mayStand 52 = .ok (.iload_n 1, 1) := by decide +kernel
theorem dd_VR_mayStand_53 : decode bb_VR_mayStand 53 = .ok (.iconst 2, 1) := by decide +kernel
theorem dd_VR_mayStand_54 : decode bb_VR_mayStand 54 = .ok (.if_icmp .ne 14, 3) := by decide +kernel
theorem dd_VR_mayStand_57 : decode bb_VR_mayStand 57 = .ok (.aload_n 0, 1) := by decide +kernel
theorem dd_VR_mayStand_58 : decode bb_VR_mayStand 58 = .ok (.getfield 18, 3) := by decide +kernel
theorem dd_VR_mayStand_61 : decode bb_VR_mayStand 61 = .ok (.getfield 86, 3) := by decide +kernel
theorem dd_VR_mayStand_64 : decode bb_VR_mayStand 64 = .ok (.iconst 4, 1) := by decide +kernel
theorem dd_VR_mayStand_65 : decode bb_VR_mayStand 65 = .ok (.if_icmp .ge 7, 3) := by decide +kernel
theorem dd_VR_mayStand_68 : decode bb_VR_mayStand 68 = .ok (.iconst 1, 1) := by decide +kernel
theorem dd_VR_mayStand_69 : decode bb_VR_mayStand 69 = .ok (.goto 4, 3) := by decide +kernel
theorem dd_VR_mayStand_72 : decode bb_VR_mayStand 72 = .ok (.iconst 0, 1) := by decide +kernel
theorem dd_VR_mayStand_73 : decode bb_VR_mayStand 73 = .ok (.ireturn, 1) := by decide +kernel
def mm_VR_mayStand_j27 (N : Nat) (this : Option Nat) (a1 : Int32) (a2 : Int32) (h : ss_Hp) : Option Int32 :=
  some (0 : Int32)
def mm_VR_mayStand_j51 (N : Nat) (this : Option Nat) (a1 : Int32) (a2 : Int32) (h : ss_Hp) (s0_51 : Int32) : Option Int32 :=
  (ss_bz s0_51).bind fun v1 =>
  some v1
def mm_VR_mayStand_j73 (N : Nat) (this : Option Nat) (a1 : Int32) (a2 : Int32) (h : ss_Hp) (s0_73 : Int32) : Option Int32 :=
  (ss_bz s0_73).bind fun v2 =>
  some v2
def mm_VR_mayStand_j68 (N : Nat) (this : Option Nat) (a1 : Int32) (a2 : Int32) (h : ss_Hp) : Option Int32 :=
  mm_VR_mayStand_j73 N this a1 a2 h (1 : Int32)
def mm_VR_mayStand_j24 (N : Nat) (this : Option Nat) (a1 : Int32) (a2 : Int32) (h : ss_Hp) (s0_24 : Int32) (s1_24 : Int32) : Option Int32 :=
  if s0_24 = s1_24 then
    if a1 = (1 : Int32) then
      (ss_gr h this 6 2).bind fun r9 =>
      (ss_gi h r9 5 3).bind fun v10 =>
      if (8 : Int32) ≤ v10 then
        mm_VR_mayStand_j51 N this a1 a2 h (0 : Int32)
      else
        mm_VR_mayStand_j51 N this a1 a2 h (1 : Int32)
    else
      if a1 = (2 : Int32) then
        (ss_gr h this 6 2).bind fun r6 =>
        (ss_gi h r6 5 4).bind fun v7 =>
        if (4 : Int32) ≤ v7 then
          mm_VR_mayStand_j73 N this a1 a2 h (0 : Int32)
        else
          mm_VR_mayStand_j68 N this a1 a2 h
      else
        mm_VR_mayStand_j68 N this a1 a2 h
  else
    mm_VR_mayStand_j27 N this a1 a2 h
def mm_VR_mayStand_j15 (N : Nat) (this : Option Nat) (a1 : Int32) (a2 : Int32) (h : ss_Hp) (s0_15 : Int32) : Option Int32 :=
  if a2 = 0 then
    mm_VR_mayStand_j24 N this a1 a2 h s0_15 (1 : Int32)
  else
    mm_VR_mayStand_j24 N this a1 a2 h s0_15 (0 : Int32)
def mm_VR_mayStand (N : Nat) (this : Option Nat) (a1 : Int32) (a2 : Int32) (h : ss_Hp) : Option Int32 :=
  if ss_is h this 6 = true then
    if (40 : Int32) ≤ a2 then
      mm_VR_mayStand_j27 N this a1 a2 h
    else
      if a1 = 0 then
        mm_VR_mayStand_j15 N this a1 a2 h (1 : Int32)
      else
        mm_VR_mayStand_j15 N this a1 a2 h (0 : Int32)
  else none
abbrev ww_VR_mayStand (p : Program) (l : Launch) (e : Env) (s : State) (m : MethodId) (below : List Frame) (meth : Method) (c : Code) (G : ss_G) (this : Option Nat) (a1 : Int32) (a2 : Int32) (h : ss_Hp) (rr : Int32) (H : Heap) (locs : List Loc) (k n : Nat) (g : JFrame) : Prop := W p l e (headSpec (ss_w yy_VR_mayStand bb_VR_mayStand 3 (some .boolean)) ({ frames := 0, cells := 0, slots := 0, locals := 0 })).room s m ([ss_v (ss_b G) this, .int a1, .int a2] : List Value).toArray below meth c H locs k n (MQ below (ss_Qc G (some (.int rr)) h) ([ss_v (ss_b G) this, .int a1, .int a2] : List Value).toArray s 0 0 (ss_A G)) g
theorem ck_VR_mayStand {N : Nat} {this : Option Nat} {a1 : Int32} {a2 : Int32} {h : ss_Hp} {res : Int32} (hm : mm_VR_mayStand N this a1 a2 h = some res) : ss_is h this 6 = true := (ss_chk hm).1
set_option maxHeartbeats 4000000 in
set_option maxRecDepth 100000 in
theorem cc_VR_mayStand (l : Launch) (G : ss_G) (N : Nat) (this : Option Nat) (a1 : Int32) (a2 : Int32) (h : ss_Hp) (rr : Int32) (hm : mm_VR_mayStand N this a1 a2 h = some rr) : ss_Ct l G yy_VR_mayStand bb_VR_mayStand 3 (some .boolean) ({ frames := 0, cells := 0, slots := 0, locals := 0 }) [ss_v (ss_b G) this, .int a1, .int a2] h (some (.int rr)) h := by
  obtain ⟨hck, hm⟩ := ss_chk hm
  refine Met.ofW (cc := bb_VR_mayStand) (maxL := 3) (ret := (some .boolean)) (by decide) rfl ?_
  intro p e s m args below meth c s₁ B hml hv
  obtain ⟨rfl, hR, hK⟩ := hv
  have hC : CallFix p m c bb_VR_mayStand 3 s _ lw_g sR_6 := ⟨B.exec, B.bytes, hml, findClass_of_methodNamed B.named, fun w hw => atoms_spec (ws := ss_w yy_VR_mayStand bb_VR_mayStand 3 (some .boolean)) B.pre w (List.mem_cons_of_mem _ hw)⟩
  have hx := hC.1
  have hb := hC.2.1
  have hr := B.returns
  have hlocks := B.notSynchronized
  have hS : va_S (ss_A G) s.heap s.heap [] := va_S.rf
  have hl := lv_entry ([ss_v (ss_b G) this, .int a1, .int a2]) (n := 3) (by simp [lg_sl, ss_v_cat, ss_cat_i, ss_cat_l, ss_cat_r])
  rw [lg_entry_eq]
  generalize (lg_sl ([ss_v (ss_b G) this, .int a1, .int a2]) ++ List.replicate (3 - (lg_sl ([ss_v (ss_b G) this, .int a1, .int a2])).length) Slot.unset).toArray = ls at hl ⊢
  have hl : lv_has ls 3 [(0, ss_v (ss_b G) this), (1, .int a1), (2, .int a2)] := by simpa [lv_args, ss_v_cat, ss_cat_i, ss_cat_l, ss_cat_r] using hl
  have J_27 : ∀  (H : Heap) (locs : List Loc) (ls : Array Slot), mm_VR_mayStand_j27 N this a1 a2 h = some rr → ss_R G h H → va_S (ss_A G) s.heap H locs → lv_has ls 3 [] → ww_VR_mayStand p l e s m below meth c G this a1 a2 h rr  H locs 0 0 (F0 m 27 ls []) := by
    intro  H locs ls hm hR hS hl
    refine lv_iconst (v := 0) hx hb dd_VR_mayStand_27 (by decide) ?_
    exact ss_zret hC hr (by decide) hlocks hR hS (ss_with _ hm) dd_VR_mayStand_28
  have J_51 : ∀ (s0_51 : Int32) (H : Heap) (locs : List Loc) (ls : Array Slot), mm_VR_mayStand_j51 N this a1 a2 h s0_51 = some rr → ss_R G h H → va_S (ss_A G) s.heap H locs → lv_has ls 3 [] → ww_VR_mayStand p l e s m below meth c G this a1 a2 h rr  H locs 0 0 (F0 m 51 ls [.int s0_51]) := by
    intro s0_51 H locs ls hm hR hS hl
    obtain ⟨v1, qv1, hm⟩ := ss_bind hm
    obtain ⟨hnb, rfl⟩ := ss_bzs qv1
    exact ss_zret hC hr hnb hlocks hR hS (ss_with _ hm) dd_VR_mayStand_51
  have J_73 : ∀ (s0_73 : Int32) (H : Heap) (locs : List Loc) (ls : Array Slot), mm_VR_mayStand_j73 N this a1 a2 h s0_73 = some rr → ss_R G h H → va_S (ss_A G) s.heap H locs → lv_has ls 3 [] → ww_VR_mayStand p l e s m below meth c G this a1 a2 h rr  H locs 0 0 (F0 m 73 ls [.int s0_73]) := by
    intro s0_73 H locs ls hm hR hS hl
    obtain ⟨v2, qv2, hm⟩ := ss_bind hm
    obtain ⟨hnb, rfl⟩ := ss_bzs qv2
    exact ss_zret hC hr hnb hlocks hR hS (ss_with _ hm) dd_VR_mayStand_73
  have J_68 : ∀  (H : Heap) (locs : List Loc) (ls : Array Slot), mm_VR_mayStand_j68 N this a1 a2 h = some rr → ss_R G h H → va_S (ss_A G) s.heap H locs → lv_has ls 3 [] → ww_VR_mayStand p l e s m below meth c G this a1 a2 h rr  H locs 0 0 (F0 m 68 ls []) := by
    intro  H locs ls hm hR hS hl
    refine lv_iconst (v := 1) hx hb dd_VR_mayStand_68 (by decide) ?_
    refine lv_goto (tgt := 73) hx hb dd_VR_mayStand_69 (by decide) ?_
    exact J_73 (1 : Int32)  _ _ _ hm hR hS hl
  have J_24 : ∀ (s0_24 : Int32) (s1_24 : Int32) (H : Heap) (locs : List Loc) (ls : Array Slot), mm_VR_mayStand_j24 N this a1 a2 h s0_24 s1_24 = some rr → ss_R G h H → va_S (ss_A G) s.heap H locs → lv_has ls 3 [(0, ss_v (ss_b G) this), (1, .int a1)] → ww_VR_mayStand p l e s m below meth c G this a1 a2 h rr  H locs 0 0 (F0 m 24 ls [.int s1_24, .int s0_24]) := by
    intro s0_24 s1_24 H locs ls hm hR hS hl
    refine lv_icmp_eq (tgt := 29) hx hb dd_VR_mayStand_24 (by decide) (fun c3 => ?_) (fun c3 => ?_)
    · have hm := ss_ift hm c3
      refine lv_iload_n hx hb dd_VR_mayStand_29 rfl (lv_at hl 1 rfl) ?_
      refine lv_iconst (v := 1) hx hb dd_VR_mayStand_30 (by decide) ?_
      refine lv_icmp_ne (tgt := 52) hx hb dd_VR_mayStand_31 (by decide) (fun c4 => ?_) (fun c4 => ?_)
      · have hm := ss_iff hm c4
        refine lv_iload_n hx hb dd_VR_mayStand_52 rfl (lv_at hl 1 rfl) ?_
        refine lv_iconst (v := 2) hx hb dd_VR_mayStand_53 (by decide) ?_
        refine lv_icmp_ne (tgt := 68) hx hb dd_VR_mayStand_54 (by decide) (fun c5 => ?_) (fun c5 => ?_)
        · have hm := ss_iff hm c5
          exact J_68  _ _ _ hm hR hS (lv_sub hl [] rfl)
        · have hm := ss_ift hm c5
          refine ss_aload_n hx hb dd_VR_mayStand_57 rfl (lv_at hl 0 rfl) ?_
          obtain ⟨r6, qr6, hm⟩ := ss_bind hm
          refine ss_getr hC hK hR kf_VR_18 rfl qr6 dd_VR_mayStand_58 ?_
          obtain ⟨v7, qv7, hm⟩ := ss_bind hm
          refine ss_geti hC hK hR kf_VR_86 qv7 dd_VR_mayStand_61 ?_
          refine lv_iconst (v := 4) hx hb dd_VR_mayStand_64 (by decide) ?_
          refine lv_icmp_ge (tgt := 72) hx hb dd_VR_mayStand_65 (by decide) (fun c8 => ?_) (fun c8 => ?_)
          · have hm := ss_ift hm c8
            refine lv_iconst (v := 0) hx hb dd_VR_mayStand_72 (by decide) ?_
            exact J_73 (0 : Int32)  _ _ _ hm hR hS (lv_sub hl [] rfl)
          · have hm := ss_iff hm c8
            exact J_68  _ _ _ hm hR hS (lv_sub hl [] rfl)
      · have hm := ss_ift hm c4
        refine ss_aload_n hx hb dd_VR_mayStand_34 rfl (lv_at hl 0 rfl) ?_
        obtain ⟨r9, qr9, hm⟩ := ss_bind hm
        refine ss_getr hC hK hR kf_VR_18 rfl qr9 dd_VR_mayStand_35 ?_
        obtain ⟨v10, qv10, hm⟩ := ss_bind hm
        refine ss_geti hC hK hR kf_VR_82 qv10 dd_VR_mayStand_38 ?_
        refine lv_bipush (v := 8) hx hb dd_VR_mayStand_41 (by decide) ?_
        refine lv_icmp_ge (tgt := 50) hx hb dd_VR_mayStand_43 (by decide) (fun c11 => ?_) (fun c11 => ?_)
        · have hm := ss_ift hm c11
          refine lv_iconst (v := 0) hx hb dd_VR_mayStand_50 (by decide) ?_
          exact J_51 (0 : Int32)  _ _ _ hm hR hS (lv_sub hl [] rfl)
        · have hm := ss_iff hm c11
          refine lv_iconst (v := 1) hx hb dd_VR_mayStand_46 (by decide) ?_
          refine lv_goto (tgt := 51) hx hb dd_VR_mayStand_47 (by decide) ?_
          exact J_51 (1 : Int32)  _ _ _ hm hR hS (lv_sub hl [] rfl)
    · have hm := ss_iff hm c3
      exact J_27  _ _ _ hm hR hS (lv_sub hl [] rfl)
  have J_15 : ∀ (s0_15 : Int32) (H : Heap) (locs : List Loc) (ls : Array Slot), mm_VR_mayStand_j15 N this a1 a2 h s0_15 = some rr → ss_R G h H → va_S (ss_A G) s.heap H locs → lv_has ls 3 [(0, ss_v (ss_b G) this), (1, .int a1), (2, .int a2)] → ww_VR_mayStand p l e s m below meth c G this a1 a2 h rr  H locs 0 0 (F0 m 15 ls [.int s0_15]) := by
    intro s0_15 H locs ls hm hR hS hl
    refine lv_iload_n hx hb dd_VR_mayStand_15 rfl (lv_at hl 2 rfl) ?_
    refine lv_if_ne (tgt := 23) hx hb dd_VR_mayStand_16 (by decide) (fun c12 => ?_) (fun c12 => ?_)
    · have hm := ss_iff hm c12
      refine lv_iconst (v := 0) hx hb dd_VR_mayStand_23 (by decide) ?_
      exact J_24 s0_15 (0 : Int32)  _ _ _ hm hR hS (lv_sub hl [0, 1] rfl)
    · have hm := ss_ift hm c12
      refine lv_iconst (v := 1) hx hb dd_VR_mayStand_19 (by decide) ?_
      refine lv_goto (tgt := 24) hx hb dd_VR_mayStand_20 (by decide) ?_
      exact J_24 s0_15 (1 : Int32)  _ _ _ hm hR hS (lv_sub hl [0, 1] rfl)
  refine lv_iload_n hx hb dd_VR_mayStand_0 rfl (lv_at hl 2 rfl) ?_
  refine lv_bipush (v := 40) hx hb dd_VR_mayStand_1 (by decide) ?_
  refine lv_icmp_ge (tgt := 27) hx hb dd_VR_mayStand_3 (by decide) (fun c13 => ?_) (fun c13 => ?_)
  · have hm := ss_ift hm c13
    exact J_27  _ _ _ hm hR hS (lv_sub hl [] rfl)
  · have hm := ss_iff hm c13
    refine lv_iload_n hx hb dd_VR_mayStand_6 rfl (lv_at hl 1 rfl) ?_
    refine lv_if_ne (tgt := 14) hx hb dd_VR_mayStand_7 (by decide) (fun c14 => ?_) (fun c14 => ?_)
    · have hm := ss_iff hm c14
      refine lv_iconst (v := 0) hx hb dd_VR_mayStand_14 (by decide) ?_
      exact J_15 (0 : Int32)  _ _ _ hm hR hS hl
    · have hm := ss_ift hm c14
      refine lv_iconst (v := 1) hx hb dd_VR_mayStand_10 (by decide) ?_
      refine lv_goto (tgt := 15) hx hb dd_VR_mayStand_11 (by decide) ?_
      exact J_15 (1 : Int32)  _ _ _ hm hR hS hl
theorem dd_T_isDigits_0 : decode bb_T_isDigits 0 = .ok (.aload_n 0, 1) := by decide +kernel
theorem dd_T_isDigits_1 : decode bb_T_isDigits 1 = .ok (.getfield 31, 3) := by decide +kernel
theorem dd_T_isDigits_4 : decode bb_T_isDigits 4 = .ok (.iconst 2, 1) := by decide +kernel
theorem dd_T_isDigits_5 : decode bb_T_isDigits 5 = .ok (.if_icmp .ne 7, 3) := by decide +kernel
theorem dd_T_isDigits_8 : decode bb_T_isDigits 8 = .ok (.iconst 1, 1) := by decide +kernel
theorem dd_T_isDigits_9 : decode bb_T_isDigits 9 = .ok (.goto 4, 3) := by decide +kernel
theorem dd_T_isDigits_12 : decode bb_T_isDigits 12 = .ok (.iconst 0, 1) := by decide +kernel
theorem dd_T_isDigits_13 : decode bb_T_isDigits 13 = .ok (.ireturn, 1) := by decide +kernel
def mm_T_isDigits_j13 (N : Nat) (this : Option Nat) (h : ss_Hp) (s0_13 : Int32) : Option Int32 :=
  (ss_bz s0_13).bind fun v1 =>
  some v1
def mm_T_isDigits (N : Nat) (this : Option Nat) (h : ss_Hp) : Option Int32 :=
  if ss_is h this 2 = true then
    (ss_gi h this 2 2).bind fun v2 =>
    if v2 = (2 : Int32) then
      mm_T_isDigits_j13 N this h (1 : Int32)
    else
      mm_T_isDigits_j13 N this h (0 : Int32)
  else none
abbrev ww_T_isDigits (p : Program) (l : Launch) (e : Env) (s : State) (m : MethodId) (below : List Frame) (meth : Method) (c : Code) (G : ss_G) (this : Option Nat) (h : ss_Hp) (rr : Int32) (H : Heap) (locs : List Loc) (k n : Nat) (g : JFrame) : Prop := W p l e (headSpec (ss_w yy_T_isDigits bb_T_isDigits 1 (some .boolean)) ({ frames := 0, cells := 0, slots := 0, locals := 0 })).room s m ([ss_v (ss_b G) this] : List Value).toArray below meth c H locs k n (MQ below (ss_Qc G (some (.int rr)) h) ([ss_v (ss_b G) this] : List Value).toArray s 0 0 (ss_A G)) g
theorem ck_T_isDigits {N : Nat} {this : Option Nat} {h : ss_Hp} {res : Int32} (hm : mm_T_isDigits N this h = some res) : ss_is h this 2 = true := (ss_chk hm).1
set_option maxHeartbeats 4000000 in
set_option maxRecDepth 100000 in
theorem cc_T_isDigits (l : Launch) (G : ss_G) (N : Nat) (this : Option Nat) (h : ss_Hp) (rr : Int32) (hm : mm_T_isDigits N this h = some rr) : ss_Ct l G yy_T_isDigits bb_T_isDigits 1 (some .boolean) ({ frames := 0, cells := 0, slots := 0, locals := 0 }) [ss_v (ss_b G) this] h (some (.int rr)) h := by
  obtain ⟨hck, hm⟩ := ss_chk hm
  refine Met.ofW (cc := bb_T_isDigits) (maxL := 1) (ret := (some .boolean)) (by decide) rfl ?_
  intro p e s m args below meth c s₁ B hml hv
  obtain ⟨rfl, hR, hK⟩ := hv
  have hC : CallFix p m c bb_T_isDigits 1 s _ lw_g sR_2 := ⟨B.exec, B.bytes, hml, findClass_of_methodNamed B.named, fun w hw => atoms_spec (ws := ss_w yy_T_isDigits bb_T_isDigits 1 (some .boolean)) B.pre w (List.mem_cons_of_mem _ hw)⟩
  have hx := hC.1
  have hb := hC.2.1
  have hr := B.returns
  have hlocks := B.notSynchronized
  have hS : va_S (ss_A G) s.heap s.heap [] := va_S.rf
  have hl := lv_entry ([ss_v (ss_b G) this]) (n := 1) (by simp [lg_sl, ss_v_cat, ss_cat_i, ss_cat_l, ss_cat_r])
  rw [lg_entry_eq]
  generalize (lg_sl ([ss_v (ss_b G) this]) ++ List.replicate (1 - (lg_sl ([ss_v (ss_b G) this])).length) Slot.unset).toArray = ls at hl ⊢
  have hl : lv_has ls 1 [(0, ss_v (ss_b G) this)] := by simpa [lv_args, ss_v_cat, ss_cat_i, ss_cat_l, ss_cat_r] using hl
  have J_13 : ∀ (s0_13 : Int32) (H : Heap) (locs : List Loc) (ls : Array Slot), mm_T_isDigits_j13 N this h s0_13 = some rr → ss_R G h H → va_S (ss_A G) s.heap H locs → lv_has ls 1 [] → ww_T_isDigits p l e s m below meth c G this h rr  H locs 0 0 (F0 m 13 ls [.int s0_13]) := by
    intro s0_13 H locs ls hm hR hS hl
    obtain ⟨v1, qv1, hm⟩ := ss_bind hm
    obtain ⟨hnb, rfl⟩ := ss_bzs qv1
    exact ss_zret hC hr hnb hlocks hR hS (ss_with _ hm) dd_T_isDigits_13
  refine ss_aload_n hx hb dd_T_isDigits_0 rfl (lv_at hl 0 rfl) ?_
  obtain ⟨v2, qv2, hm⟩ := ss_bind hm
  refine ss_geti hC hK hR kf_T_31 qv2 dd_T_isDigits_1 ?_
  refine lv_iconst (v := 2) hx hb dd_T_isDigits_4 (by decide) ?_
  refine lv_icmp_ne (tgt := 12) hx hb dd_T_isDigits_5 (by decide) (fun c3 => ?_) (fun c3 => ?_)
  · have hm := ss_iff hm c3
    refine lv_iconst (v := 0) hx hb dd_T_isDigits_12 (by decide) ?_
    exact J_13 (0 : Int32)  _ _ _ hm hR hS (lv_sub hl [] rfl)
  · have hm := ss_ift hm c3
    refine lv_iconst (v := 1) hx hb dd_T_isDigits_8 (by decide) ?_
    refine lv_goto (tgt := 13) hx hb dd_T_isDigits_9 (by decide) ?_
    exact J_13 (1 : Int32)  _ _ _ hm hR hS (lv_sub hl [] rfl)
theorem dd_T_digits_0 : decode bb_T_digits 0 = .ok (.aload_n 0, 1) := by decide +kernel
theorem dd_T_digits_1 : decode bb_T_digits 1 = .ok (.getfield 22, 3) := by decide +kernel
theorem dd_T_digits_4 : decode bb_T_digits 4 = .ok (.aload_n 0, 1) := by decide +kernel
theorem dd_T_digits_5 : decode bb_T_digits 5 = .ok (.getfield 28, 3) := by decide +kernel
theorem dd_T_digits_8 : decode bb_T_digits 8 = .ok (.isub, 1) := by decide +kernel
theorem dd_T_digits_9 : decode bb_T_digits 9 = .ok (.iconst 5, 1) := by decide +kernel
theorem dd_T_digits_10 : decode bb_T_digits 10 = .ok (.if_icmp .le 5, 3) := by decide +kernel
theorem dd_T_digits_13 : decode bb_T_digits 13 = .ok (.iconst (-1), 1) := by decide +kernel
theorem dd_T_digits_14 : decode bb_T_digits 14 = .ok (.ireturn, 1) := by decide +kernel
theorem dd_T_digits_15 : decode bb_T_digits 15 = .ok (.iconst 0, 1) := by decide +kernel
theorem dd_T_digits_16 : decode bb_T_digits 16 = .ok (.istore_n 1, 1) := by decide +kernel
theorem dd_T_digits_17 : decode bb_T_digits 17 = .ok (.aload_n 0, 1) := by decide +kernel
theorem dd_T_digits_18 : decode bb_T_digits 18 = .ok (.getfield 28, 3) := by decide +kernel
theorem dd_T_digits_21 : decode bb_T_digits 21 = .ok (.istore_n 2, 1) := by decide +kernel
theorem dd_T_digits_22 : decode bb_T_digits 22 = .ok (.iload_n 2, 1) := by decide +kernel
theorem dd_T_digits_23 : decode bb_T_digits 23 = .ok (.aload_n 0, 1) := by decide +kernel
theorem dd_T_digits_24 : decode bb_T_digits 24 = .ok (.getfield 22, 3) := by decide +kernel
theorem dd_T_digits_27 : decode bb_T_digits 27 = .ok (.if_icmp .ge 24, 3) := by decide +kernel
theorem dd_T_digits_30 : decode bb_T_digits 30 = .ok (.bipush 10, 2) := by decide +kernel
theorem dd_T_digits_32 : decode bb_T_digits 32 = .ok (.iload_n 1, 1) := by decide +kernel
theorem dd_T_digits_33 : decode bb_T_digits 33 = .ok (.imul, 1) := by decide +kernel
theorem dd_T_digits_34 : decode bb_T_digits 34 = .ok (.aload_n 0, 1) := by decide +kernel
theorem dd_T_digits_35 : decode bb_T_digits 35 = .ok (.getfield 11, 3) := by decide +kernel
theorem dd_T_digits_38 : decode bb_T_digits 38 = .ok (.iload_n 2, 1) := by decide +kernel
theorem dd_T_digits_39 : decode bb_T_digits 39 = .ok (.iaload, 1) := by decide +kernel
theorem dd_T_digits_40 : decode bb_T_digits 40 = .ok (.iadd, 1) := by decide +kernel
theorem dd_T_digits_41 : decode bb_T_digits 41 = .ok (.bipush 48, 2) := by decide +kernel
theorem dd_T_digits_43 : decode bb_T_digits 43 = .ok (.isub, 1) := by decide +kernel
theorem dd_T_digits_44 : decode bb_T_digits 44 = .ok (.istore_n 1, 1) := by decide +kernel
theorem dd_T_digits_45 : decode bb_T_digits 45 = .ok (.iinc 2 1, 3) := by decide +kernel
theorem dd_T_digits_48 : decode bb_T_digits 48 = .ok (.goto (-26), 3) := by decide +kernel
theorem dd_T_digits_51 : decode bb_T_digits 51 = .ok (.iload_n 1, 1) := by decide +kernel
theorem dd_T_digits_52 : decode bb_T_digits 52 = .ok (.ireturn, 1) := by decide +kernel
def mm_T_digits_b22 (N : Nat) (this : Option Nat) (h : ss_Hp) (st : Int32 × Int32) : Option ((Int32 × Int32) ⊕ Int32) :=
  match st with
  | (x1_22, x2_22) =>
    (ss_gi h this 2 4).bind fun v5 =>
    if v5 ≤ x2_22 then
      some (.inr x1_22)
    else
      (ss_gr h this 2 0).bind fun r7 =>
      (ss_ai h r7 20 x2_22).bind fun v8 =>
      (some ((((10 : Int32) * x1_22) + v8) - (48 : Int32))).bind fun v9 =>
      (some (x2_22 + (1 : Int32))).bind fun v10 =>
      some (.inl (v9, v10))
def mm_T_digits (N : Nat) (this : Option Nat) (h : ss_Hp) : Option Int32 :=
  if ss_is h this 2 = true then
    (ss_gi h this 2 4).bind fun v1 =>
    (ss_gi h this 2 3).bind fun v2 =>
    if (v1 - v2) ≤ (5 : Int32) then
      (ss_gi h this 2 3).bind fun v4 =>
      (ss_lp (mm_T_digits_b22 N this h) N ((0 : Int32), v4)).bind fun y1_22_51 =>
      some y1_22_51
    else
      some (-1 : Int32)
  else none
abbrev ww_T_digits (p : Program) (l : Launch) (e : Env) (s : State) (m : MethodId) (below : List Frame) (meth : Method) (c : Code) (G : ss_G) (this : Option Nat) (h : ss_Hp) (rr : Int32) (H : Heap) (locs : List Loc) (k n : Nat) (g : JFrame) : Prop := W p l e (headSpec (ss_w yy_T_digits bb_T_digits 3 (some (.int))) ({ frames := 0, cells := 0, slots := 0, locals := 0 })).room s m ([ss_v (ss_b G) this] : List Value).toArray below meth c H locs k n (MQ below (ss_Qc G (some (.int rr)) h) ([ss_v (ss_b G) this] : List Value).toArray s 0 0 (ss_A G)) g
theorem ck_T_digits {N : Nat} {this : Option Nat} {h : ss_Hp} {res : Int32} (hm : mm_T_digits N this h = some res) : ss_is h this 2 = true := (ss_chk hm).1
set_option maxHeartbeats 4000000 in
set_option maxRecDepth 100000 in
theorem cc_T_digits (l : Launch) (G : ss_G) (N : Nat) (this : Option Nat) (h : ss_Hp) (rr : Int32) (hm : mm_T_digits N this h = some rr) : ss_Ct l G yy_T_digits bb_T_digits 3 (some (.int)) ({ frames := 0, cells := 0, slots := 0, locals := 0 }) [ss_v (ss_b G) this] h (some (.int rr)) h := by
  obtain ⟨hck, hm⟩ := ss_chk hm
  refine Met.ofW (cc := bb_T_digits) (maxL := 3) (ret := (some (.int))) (by decide) rfl ?_
  intro p e s m args below meth c s₁ B hml hv
  obtain ⟨rfl, hR, hK⟩ := hv
  have hC : CallFix p m c bb_T_digits 3 s _ lw_g sR_2 := ⟨B.exec, B.bytes, hml, findClass_of_methodNamed B.named, fun w hw => atoms_spec (ws := ss_w yy_T_digits bb_T_digits 3 (some (.int))) B.pre w (List.mem_cons_of_mem _ hw)⟩
  have hx := hC.1
  have hb := hC.2.1
  have hr := B.returns
  have hlocks := B.notSynchronized
  have hS : va_S (ss_A G) s.heap s.heap [] := va_S.rf
  have hl := lv_entry ([ss_v (ss_b G) this]) (n := 3) (by simp [lg_sl, ss_v_cat, ss_cat_i, ss_cat_l, ss_cat_r])
  rw [lg_entry_eq]
  generalize (lg_sl ([ss_v (ss_b G) this]) ++ List.replicate (3 - (lg_sl ([ss_v (ss_b G) this])).length) Slot.unset).toArray = ls at hl ⊢
  have hl : lv_has ls 3 [(0, ss_v (ss_b G) this)] := by simpa [lv_args, ss_v_cat, ss_cat_i, ss_cat_l, ss_cat_r] using hl
  refine ss_aload_n hx hb dd_T_digits_0 rfl (lv_at hl 0 rfl) ?_
  obtain ⟨v1, qv1, hm⟩ := ss_bind hm
  refine ss_geti hC hK hR kf_T_22 qv1 dd_T_digits_1 ?_
  refine ss_aload_n hx hb dd_T_digits_4 rfl (lv_at hl 0 rfl) ?_
  obtain ⟨v2, qv2, hm⟩ := ss_bind hm
  refine ss_geti hC hK hR kf_T_28 qv2 dd_T_digits_5 ?_
  refine lv_isub hx hb dd_T_digits_8 ?_
  refine lv_iconst (v := 5) hx hb dd_T_digits_9 (by decide) ?_
  refine lv_icmp_le (tgt := 15) hx hb dd_T_digits_10 (by decide) (fun c3 => ?_) (fun c3 => ?_)
  · have hm := ss_ift hm c3
    refine lv_iconst (v := 0) hx hb dd_T_digits_15 (by decide) ?_
    refine lv_istore_n (lv' := [(1, .int (0 : Int32)), (0, ss_v (ss_b G) this)]) hx hb dd_T_digits_16 rfl hl (by decide) (by simp only [List.filter_cons, ss_v_cat]; rfl) (fun ls hl => ?_)
    refine ss_aload_n hx hb dd_T_digits_17 rfl (lv_at hl 1 rfl) ?_
    obtain ⟨v4, qv4, hm⟩ := ss_bind hm
    refine ss_geti hC hK hR kf_T_28 qv4 dd_T_digits_18 ?_
    refine lv_istore_n (lv' := [(2, .int v4), (1, .int (0 : Int32)), (0, ss_v (ss_b G) this)]) hx hb dd_T_digits_21 rfl hl (by decide) rfl (fun ls hl => ?_)
    obtain ⟨e_22, he_22, hm⟩ := ss_bind hm
    have X_22_51 : ∀ (y1_22_51 : Int32) (H : Heap) (locs : List Loc) (ls : Array Slot), e_22 = y1_22_51 → ss_R G h H → va_S (ss_A G) s.heap H locs → lv_has ls 3 [(1, .int y1_22_51)] → ww_T_digits p l e s m below meth c G this h rr  H locs 0 0 (F0 m 51 ls []) := by
      intro y1_22_51 H locs ls hq hR hS hl
      rw [hq] at hm
      refine lv_iload_n hx hb dd_T_digits_51 rfl (lv_at hl 0 rfl) ?_
      exact ss_iret hC hr hlocks hR hS (ss_with _ hm) dd_T_digits_52
    have L_22 : ∀ (n : Nat) (x1_22 : Int32) (x2_22 : Int32) (H : Heap) (locs : List Loc) (ls : Array Slot), ss_lp (mm_T_digits_b22 N this h) n (x1_22, x2_22) = some e_22 → ss_R G h H → va_S (ss_A G) s.heap H locs → lv_has ls 3 [(0, ss_v (ss_b G) this), (1, .int x1_22), (2, .int x2_22)] → ww_T_digits p l e s m below meth c G this h rr  H locs 0 0 (F0 m 22 ls []) := by
      intro n
      induction n with
      | zero => intro x1_22 x2_22 H locs ls hm; cases hm
      | succ n ih_22 =>
        intro x1_22 x2_22 H locs ls hm hR hS hl
        obtain ⟨z_22, hm, hz1_22, hz2_22⟩ := ss_lps hm
        refine lv_iload_n hx hb dd_T_digits_22 rfl (lv_at hl 2 rfl) ?_
        refine ss_aload_n hx hb dd_T_digits_23 rfl (lv_at hl 0 rfl) ?_
        obtain ⟨v5, qv5, hm⟩ := ss_bind hm
        refine ss_geti hC hK hR kf_T_22 qv5 dd_T_digits_24 ?_
        refine lv_icmp_ge (tgt := 51) hx hb dd_T_digits_27 (by decide) (fun c6 => ?_) (fun c6 => ?_)
        · have hm := ss_ift hm c6
          exact X_22_51 x1_22  _ _ _ (hz2_22 _ (ss_some hm)) hR hS (lv_sub hl [1] rfl)
        · have hm := ss_iff hm c6
          refine lv_bipush (v := 10) hx hb dd_T_digits_30 (by decide) ?_
          refine lv_iload_n hx hb dd_T_digits_32 rfl (lv_at hl 1 rfl) ?_
          refine lv_imul hx hb dd_T_digits_33 ?_
          refine ss_aload_n hx hb dd_T_digits_34 rfl (lv_at hl 0 rfl) ?_
          obtain ⟨r7, qr7, hm⟩ := ss_bind hm
          refine ss_getr hC hK hR kf_T_11 rfl qr7 dd_T_digits_35 ?_
          refine lv_iload_n hx hb dd_T_digits_38 rfl (lv_at hl 2 rfl) ?_
          obtain ⟨v8, qv8, hm⟩ := ss_bind hm
          refine ss_iald hC hK hR qv8 dd_T_digits_39 ?_
          refine lv_iadd hx hb dd_T_digits_40 ?_
          refine lv_bipush (v := 48) hx hb dd_T_digits_41 (by decide) ?_
          refine lv_isub hx hb dd_T_digits_43 ?_
          obtain ⟨v9, qv9, hm⟩ := ss_bind hm
          refine ss_topi qv9 ?_
          refine lv_istore_n (lv' := [(1, .int v9), (0, ss_v (ss_b G) this), (2, .int x2_22)]) hx hb dd_T_digits_44 rfl hl (by decide) (by simp only [List.filter_cons, ss_v_cat]; rfl) (fun ls hl => ?_)
          obtain ⟨v10, qv10, hm⟩ := ss_bind hm
          refine lv_iinc (v := v10) (lv' := [(2, .int v10), (1, .int v9), (0, ss_v (ss_b G) this)]) hx hb dd_T_digits_45 hl (k := 2) rfl (ss_inc (by decide) qv10) (by decide) rfl (fun ls hl => ?_)
          refine lv_goto (tgt := 22) hx hb dd_T_digits_48 (by decide) ?_
          exact ih_22 v9 v10  _ _ _ (hz1_22 _ (ss_some hm)) hR hS (lv_sub hl [2, 1, 0] rfl)
    exact L_22 N (0 : Int32) v4 _ _ _ he_22 hR hS (lv_sub hl [2, 1, 0] rfl)
  · have hm := ss_iff hm c3
    refine lv_iconst (v := -1) hx hb dd_T_digits_13 (by decide) ?_
    exact ss_iret hC hr hlocks hR hS (ss_with _ hm) dd_T_digits_14
theorem dd_T_number_0 : decode bb_T_number 0 = .ok (.aload_n 0, 1) := by decide +kernel
theorem dd_T_number_1 : decode bb_T_number 1 = .ok (.invokevirtual 63, 3) := by decide +kernel
theorem dd_T_number_4 : decode bb_T_number 4 = .ok (.ifCond .ne 10, 3) := by decide +kernel
theorem dd_T_number_7 : decode bb_T_number 7 = .ok (.aload_n 0, 1) := by decide +kernel
theorem dd_T_number_8 : decode bb_T_number 8 = .ok (.iconst 0, 1) := by decide +kernel
theorem dd_T_number_9 : decode bb_T_number 9 = .ok (.invokevirtual 67, 3) := by decide +kernel
theorem dd_T_number_12 : decode bb_T_number 12 = .ok (.iconst (-1), 1) := by decide +kernel
theorem dd_T_number_13 : decode bb_T_number 13 = .ok (.ireturn, 1) := by decide +kernel
theorem dd_T_number_14 : decode bb_T_number 14 = .ok (.aload_n 0, 1) := by decide +kernel
theorem dd_T_number_15 : decode bb_T_number 15 = .ok (.invokevirtual 71, 3) := by decide +kernel
theorem dd_T_number_18 : decode bb_T_number 18 = .ok (.istore 4, 2) := by decide +kernel
theorem dd_T_number_20 : decode bb_T_number 20 = .ok (.iload 4, 2) := by decide +kernel
theorem dd_T_number_22 : decode bb_T_number 22 = .ok (.iconst (-1), 1) := by decide +kernel
theorem dd_T_number_23 : decode bb_T_number 23 = .ok (.if_icmp .eq 21, 3) := by decide +kernel
theorem dd_T_number_26 : decode bb_T_number 26 = .ok (.iload 4, 2) := by decide +kernel
theorem dd_T_number_28 : decode bb_T_number 28 = .ok (.iload_n 1, 1) := by decide +kernel
theorem dd_T_number_29 : decode bb_T_number 29 = .ok (.if_icmp .lt 15, 3) := by decide +kernel
theorem dd_T_number_32 : decode bb_T_number 32 = .ok (.iload 4, 2) := by decide +kernel
theorem dd_T_number_34 : decode bb_T_number 34 = .ok (.iload_n 2, 1) := by decide +kernel
theorem dd_T_number_35 : decode bb_T_number 35 = .ok (.if_icmp .gt 9, 3) := by decide +kernel
theorem dd_T_number_38 : decode bb_T_number 38 = .ok (.iload 4, 2) := by decide +kernel
theorem dd_T_number_40 : decode bb_T_number 40 = .ok (.iload_n 3, 1) := by decide +kernel
theorem dd_T_number_41 : decode bb_T_number 41 = .ok (.if_icmp .ne 10, 3) := by decide +kernel
theorem dd_T_number_44 : decode bb_T_number 44 = .ok (.aload_n 0, 1) := by decide +kernel
theorem dd_T_number_45 : decode bb_T_number 45 = .ok (.iconst 1, 1) := by decide +kernel
theorem dd_T_number_46 : decode bb_T_number 46 = .ok (.invokevirtual 67, 3) := by decide +kernel
theorem dd_T_number_49 : decode bb_T_number 49 = .ok (.iconst (-1), 1) := by decide +kernel
theorem dd_T_number_50 : decode bb_T_number 50 = .ok (.ireturn, 1) := by decide +kernel
theorem dd_T_number_51 : decode bb_T_number 51 = .ok (.aload_n 0, 1) := by decide +kernel
theorem dd_T_number_52 : decode bb_T_number 52 = .ok (.invokevirtual 25, 3) := by decide +kernel
theorem dd_T_number_55 : decode bb_T_number 55 = .ok (.iload 4, 2) := by decide +kernel
theorem dd_T_number_57 : decode bb_T_number 57 = .ok (.ireturn, 1) := by decide +kernel
def mm_T_number_j44 (N : Nat) (this : Option Nat) (a1 : Int32) (a2 : Int32) (a3 : Int32) (h_44 : ss_Hp) : Option (Int32 × ss_Hp) :=
  (mm_T_fail N this (1 : Int32) h_44).bind fun h1 =>
  some ((-1 : Int32), h1)
def mm_T_number (N : Nat) (this : Option Nat) (a1 : Int32) (a2 : Int32) (a3 : Int32) (h : ss_Hp) : Option (Int32 × ss_Hp) :=
  if ss_is h this 2 = true then
    (mm_T_isDigits N this h).bind fun v2 =>
    if v2 = 0 then
      (mm_T_fail N this (0 : Int32) h).bind fun h10 =>
      some ((-1 : Int32), h10)
    else
      (mm_T_digits N this h).bind fun v4 =>
      if v4 = (-1 : Int32) then
        mm_T_number_j44 N this a1 a2 a3 h
      else
        if v4 < a1 then
          mm_T_number_j44 N this a1 a2 a3 h
        else
          if a2 < v4 then
            mm_T_number_j44 N this a1 a2 a3 h
          else
            if v4 = a3 then
              mm_T_number_j44 N this a1 a2 a3 h
            else
              (mm_T_advance N this h).bind fun h9 =>
              some (v4, h9)
  else none
abbrev ww_T_number (p : Program) (l : Launch) (e : Env) (s : State) (m : MethodId) (below : List Frame) (meth : Method) (c : Code) (G : ss_G) (this : Option Nat) (a1 : Int32) (a2 : Int32) (a3 : Int32) (h : ss_Hp) (rr : Int32) (hh : ss_Hp) (H : Heap) (locs : List Loc) (k n : Nat) (g : JFrame) : Prop := W p l e (headSpec (ss_w yy_T_number bb_T_number 5 (some (.int))) ({ frames := 2, cells := 0, slots := 0, locals := 42 })).room s m ([ss_v (ss_b G) this, .int a1, .int a2, .int a3] : List Value).toArray below meth c H locs k n (MQ below (ss_Qc G (some (.int rr)) hh) ([ss_v (ss_b G) this, .int a1, .int a2, .int a3] : List Value).toArray s 0 0 (ss_A G)) g
theorem ck_T_number {N : Nat} {this : Option Nat} {a1 : Int32} {a2 : Int32} {a3 : Int32} {h : ss_Hp} {res : Int32 × ss_Hp} (hm : mm_T_number N this a1 a2 a3 h = some res) : ss_is h this 2 = true := (ss_chk hm).1
set_option maxHeartbeats 4000000 in
set_option maxRecDepth 100000 in
theorem cc_T_number (l : Launch) (G : ss_G) (N : Nat) (this : Option Nat) (a1 : Int32) (a2 : Int32) (a3 : Int32) (h : ss_Hp) (rr : Int32) (hh : ss_Hp) (hm : mm_T_number N this a1 a2 a3 h = some (rr, hh)) : ss_Ct l G yy_T_number bb_T_number 5 (some (.int)) ({ frames := 2, cells := 0, slots := 0, locals := 42 }) [ss_v (ss_b G) this, .int a1, .int a2, .int a3] h (some (.int rr)) hh := by
  obtain ⟨hck, hm⟩ := ss_chk hm
  refine Met.ofW (cc := bb_T_number) (maxL := 5) (ret := (some (.int))) (by decide) rfl ?_
  intro p e s m args below meth c s₁ B hml hv
  obtain ⟨rfl, hR, hK⟩ := hv
  have hC : CallFix p m c bb_T_number 5 s _ lw_g sR_2 := ⟨B.exec, B.bytes, hml, findClass_of_methodNamed B.named, fun w hw => atoms_spec (ws := ss_w yy_T_number bb_T_number 5 (some (.int))) B.pre w (List.mem_cons_of_mem _ hw)⟩
  have hx := hC.1
  have hb := hC.2.1
  have hr := B.returns
  have hlocks := B.notSynchronized
  have hS : va_S (ss_A G) s.heap s.heap [] := va_S.rf
  have hl := lv_entry ([ss_v (ss_b G) this, .int a1, .int a2, .int a3]) (n := 5) (by simp [lg_sl, ss_v_cat, ss_cat_i, ss_cat_l, ss_cat_r])
  rw [lg_entry_eq]
  generalize (lg_sl ([ss_v (ss_b G) this, .int a1, .int a2, .int a3]) ++ List.replicate (5 - (lg_sl ([ss_v (ss_b G) this, .int a1, .int a2, .int a3])).length) Slot.unset).toArray = ls at hl ⊢
  have hl : lv_has ls 5 [(0, ss_v (ss_b G) this), (1, .int a1), (2, .int a2), (3, .int a3)] := by simpa [lv_args, ss_v_cat, ss_cat_i, ss_cat_l, ss_cat_r] using hl
  have J_44 : ∀ (h_44 : ss_Hp) (H : Heap) (locs : List Loc) (ls : Array Slot), mm_T_number_j44 N this a1 a2 a3 h_44 = some (rr, hh) → ss_R G h_44 H → va_S (ss_A G) s.heap H locs → lv_has ls 5 [(0, ss_v (ss_b G) this)] → ww_T_number p l e s m below meth c G this a1 a2 a3 h rr hh  H locs 0 0 (F0 m 44 ls []) := by
    intro h_44 H locs ls hm hR hS hl
    refine ss_aload_n hx hb dd_T_number_44 rfl (lv_at hl 0 rfl) ?_
    refine lv_iconst (v := 1) hx hb dd_T_number_45 (by decide) ?_
    obtain ⟨h1, qh1, hm⟩ := ss_bind hm
    refine ss_cVv 0 0 (As := [.int (1 : Int32)]) hC hK hR hS hl.1 (cc_T_fail l G N _ _ _ _ qh1) km_T_67 (ck_T_fail qh1) ⟨Nat.le_of_ble_eq_true rfl, Nat.le_of_ble_eq_true rfl⟩ ⟨Nat.le_of_ble_eq_true rfl, Nat.le_of_ble_eq_true rfl, Nat.le_of_ble_eq_true rfl, Nat.le_of_ble_eq_true rfl⟩ rfl rfl (Nat.le_of_ble_eq_true rfl) dd_T_number_46 (fun H locs hR hS => ?_)
    refine lv_iconst (v := -1) hx hb dd_T_number_49 (by decide) ?_
    exact ss_iret hC hr hlocks hR hS hm dd_T_number_50
  refine ss_aload_n hx hb dd_T_number_0 rfl (lv_at hl 0 rfl) ?_
  obtain ⟨v2, qv2, hm⟩ := ss_bind hm
  refine ss_cV 0 0 (As := []) hC hK hR hS hl.1 (cc_T_isDigits l G N _ _ _ qv2) km_T_63 (ck_T_isDigits qv2) ⟨Nat.le_of_ble_eq_true rfl, Nat.le_of_ble_eq_true rfl⟩ ⟨Nat.le_of_ble_eq_true rfl, Nat.le_of_ble_eq_true rfl, Nat.le_of_ble_eq_true rfl, Nat.le_of_ble_eq_true rfl⟩ rfl rfl (Nat.le_of_ble_eq_true rfl) dd_T_number_1 (fun H locs hR hS => ?_)
  refine lv_if_ne (tgt := 14) hx hb dd_T_number_4 (by decide) (fun c3 => ?_) (fun c3 => ?_)
  · have hm := ss_iff hm c3
    refine ss_aload_n hx hb dd_T_number_14 rfl (lv_at hl 0 rfl) ?_
    obtain ⟨v4, qv4, hm⟩ := ss_bind hm
    refine ss_cV 0 0 (As := []) hC hK hR hS hl.1 (cc_T_digits l G N _ _ _ qv4) km_T_71 (ck_T_digits qv4) ⟨Nat.le_of_ble_eq_true rfl, Nat.le_of_ble_eq_true rfl⟩ ⟨Nat.le_of_ble_eq_true rfl, Nat.le_of_ble_eq_true rfl, Nat.le_of_ble_eq_true rfl, Nat.le_of_ble_eq_true rfl⟩ rfl rfl (Nat.le_of_ble_eq_true rfl) dd_T_number_15 (fun H locs hR hS => ?_)
    refine lv_istore (lv' := [(4, .int v4), (0, ss_v (ss_b G) this), (1, .int a1), (2, .int a2), (3, .int a3)]) hx hb dd_T_number_18 hl (by decide) rfl (fun ls hl => ?_)
    refine lv_iload hx hb dd_T_number_20 (lv_at hl 0 rfl) ?_
    refine lv_iconst (v := -1) hx hb dd_T_number_22 (by decide) ?_
    refine lv_icmp_eq (tgt := 44) hx hb dd_T_number_23 (by decide) (fun c5 => ?_) (fun c5 => ?_)
    · have hm := ss_ift hm c5
      exact J_44 h _ _ _ hm hR hS (lv_sub hl [1] rfl)
    · have hm := ss_iff hm c5
      refine lv_iload hx hb dd_T_number_26 (lv_at hl 0 rfl) ?_
      refine lv_iload_n hx hb dd_T_number_28 rfl (lv_at hl 2 rfl) ?_
      refine lv_icmp_lt (tgt := 44) hx hb dd_T_number_29 (by decide) (fun c6 => ?_) (fun c6 => ?_)
      · have hm := ss_ift hm c6
        exact J_44 h _ _ _ hm hR hS (lv_sub hl [1] rfl)
      · have hm := ss_iff hm c6
        refine lv_iload hx hb dd_T_number_32 (lv_at hl 0 rfl) ?_
        refine lv_iload_n hx hb dd_T_number_34 rfl (lv_at hl 3 rfl) ?_
        refine lv_icmp_gt (tgt := 44) hx hb dd_T_number_35 (by decide) (fun c7 => ?_) (fun c7 => ?_)
        · have hm := ss_ift hm c7
          exact J_44 h _ _ _ hm hR hS (lv_sub hl [1] rfl)
        · have hm := ss_iff hm c7
          refine lv_iload hx hb dd_T_number_38 (lv_at hl 0 rfl) ?_
          refine lv_iload_n hx hb dd_T_number_40 rfl (lv_at hl 4 rfl) ?_
          refine lv_icmp_ne (tgt := 51) hx hb dd_T_number_41 (by decide) (fun c8 => ?_) (fun c8 => ?_)
          · have hm := ss_iff hm c8
            refine ss_aload_n hx hb dd_T_number_51 rfl (lv_at hl 1 rfl) ?_
            obtain ⟨h9, qh9, hm⟩ := ss_bind hm
            refine ss_cVv 0 0 (As := []) hC hK hR hS hl.1 (cc_T_advance l G N _ _ _ qh9) km_T_25 (ck_T_advance qh9) ⟨Nat.le_of_ble_eq_true rfl, Nat.le_of_ble_eq_true rfl⟩ ⟨Nat.le_of_ble_eq_true rfl, Nat.le_of_ble_eq_true rfl, Nat.le_of_ble_eq_true rfl, Nat.le_of_ble_eq_true rfl⟩ rfl rfl (Nat.le_of_ble_eq_true rfl) dd_T_number_52 (fun H locs hR hS => ?_)
            refine lv_iload hx hb dd_T_number_55 (lv_at hl 0 rfl) ?_
            exact ss_iret hC hr hlocks hR hS hm dd_T_number_57
          · have hm := ss_ift hm c8
            exact J_44 h _ _ _ hm hR hS (lv_sub hl [1] rfl)
  · have hm := ss_ift hm c3
    refine ss_aload_n hx hb dd_T_number_7 rfl (lv_at hl 0 rfl) ?_
    refine lv_iconst (v := 0) hx hb dd_T_number_8 (by decide) ?_
    obtain ⟨h10, qh10, hm⟩ := ss_bind hm
    refine ss_cVv 0 0 (As := [.int (0 : Int32)]) hC hK hR hS hl.1 (cc_T_fail l G N _ _ _ _ qh10) km_T_67 (ck_T_fail qh10) ⟨Nat.le_of_ble_eq_true rfl, Nat.le_of_ble_eq_true rfl⟩ ⟨Nat.le_of_ble_eq_true rfl, Nat.le_of_ble_eq_true rfl, Nat.le_of_ble_eq_true rfl, Nat.le_of_ble_eq_true rfl⟩ rfl rfl (Nat.le_of_ble_eq_true rfl) dd_T_number_9 (fun H locs hR hS => ?_)
    refine lv_iconst (v := -1) hx hb dd_T_number_12 (by decide) ?_
    exact ss_iret hC hr hlocks hR hS hm dd_T_number_13
theorem dd_T_isWell_0 : decode bb_T_isWell 0 = .ok (.aload_n 0, 1) := by decide +kernel
theorem dd_T_isWell_1 : decode bb_T_isWell 1 = .ok (.getfield 19, 3) := by decide +kernel
theorem dd_T_isWell_4 : decode bb_T_isWell 4 = .ok (.ifCond .ne 7, 3) := by decide +kernel
theorem dd_T_isWell_7 : decode bb_T_isWell 7 = .ok (.iconst 1, 1) := by decide +kernel
theorem dd_T_isWell_8 : decode bb_T_isWell 8 = .ok (.goto 4, 3) := by decide +kernel
theorem dd_T_isWell_11 : decode bb_T_isWell 11 = .ok (.iconst 0, 1) := by decide +kernel
theorem dd_T_isWell_12 : decode bb_T_isWell 12 = .ok (.ireturn, 1) := by decide +kernel
def mm_T_isWell_j12 (N : Nat) (this : Option Nat) (h : ss_Hp) (s0_12 : Int32) : Option Int32 :=
  (ss_bz s0_12).bind fun v1 =>
  some v1
def mm_T_isWell (N : Nat) (this : Option Nat) (h : ss_Hp) : Option Int32 :=
  if ss_is h this 2 = true then
    (ss_gi h this 2 1).bind fun v2 =>
    if v2 = 0 then
      mm_T_isWell_j12 N this h (1 : Int32)
    else
      mm_T_isWell_j12 N this h (0 : Int32)
  else none
abbrev ww_T_isWell (p : Program) (l : Launch) (e : Env) (s : State) (m : MethodId) (below : List Frame) (meth : Method) (c : Code) (G : ss_G) (this : Option Nat) (h : ss_Hp) (rr : Int32) (H : Heap) (locs : List Loc) (k n : Nat) (g : JFrame) : Prop := W p l e (headSpec (ss_w yy_T_isWell bb_T_isWell 1 (some .boolean)) ({ frames := 0, cells := 0, slots := 0, locals := 0 })).room s m ([ss_v (ss_b G) this] : List Value).toArray below meth c H locs k n (MQ below (ss_Qc G (some (.int rr)) h) ([ss_v (ss_b G) this] : List Value).toArray s 0 0 (ss_A G)) g
theorem ck_T_isWell {N : Nat} {this : Option Nat} {h : ss_Hp} {res : Int32} (hm : mm_T_isWell N this h = some res) : ss_is h this 2 = true := (ss_chk hm).1
set_option maxHeartbeats 4000000 in
set_option maxRecDepth 100000 in
theorem cc_T_isWell (l : Launch) (G : ss_G) (N : Nat) (this : Option Nat) (h : ss_Hp) (rr : Int32) (hm : mm_T_isWell N this h = some rr) : ss_Ct l G yy_T_isWell bb_T_isWell 1 (some .boolean) ({ frames := 0, cells := 0, slots := 0, locals := 0 }) [ss_v (ss_b G) this] h (some (.int rr)) h := by
  obtain ⟨hck, hm⟩ := ss_chk hm
  refine Met.ofW (cc := bb_T_isWell) (maxL := 1) (ret := (some .boolean)) (by decide) rfl ?_
  intro p e s m args below meth c s₁ B hml hv
  obtain ⟨rfl, hR, hK⟩ := hv
  have hC : CallFix p m c bb_T_isWell 1 s _ lw_g sR_2 := ⟨B.exec, B.bytes, hml, findClass_of_methodNamed B.named, fun w hw => atoms_spec (ws := ss_w yy_T_isWell bb_T_isWell 1 (some .boolean)) B.pre w (List.mem_cons_of_mem _ hw)⟩
  have hx := hC.1
  have hb := hC.2.1
  have hr := B.returns
  have hlocks := B.notSynchronized
  have hS : va_S (ss_A G) s.heap s.heap [] := va_S.rf
  have hl := lv_entry ([ss_v (ss_b G) this]) (n := 1) (by simp [lg_sl, ss_v_cat, ss_cat_i, ss_cat_l, ss_cat_r])
  rw [lg_entry_eq]
  generalize (lg_sl ([ss_v (ss_b G) this]) ++ List.replicate (1 - (lg_sl ([ss_v (ss_b G) this])).length) Slot.unset).toArray = ls at hl ⊢
  have hl : lv_has ls 1 [(0, ss_v (ss_b G) this)] := by simpa [lv_args, ss_v_cat, ss_cat_i, ss_cat_l, ss_cat_r] using hl
  have J_12 : ∀ (s0_12 : Int32) (H : Heap) (locs : List Loc) (ls : Array Slot), mm_T_isWell_j12 N this h s0_12 = some rr → ss_R G h H → va_S (ss_A G) s.heap H locs → lv_has ls 1 [] → ww_T_isWell p l e s m below meth c G this h rr  H locs 0 0 (F0 m 12 ls [.int s0_12]) := by
    intro s0_12 H locs ls hm hR hS hl
    obtain ⟨v1, qv1, hm⟩ := ss_bind hm
    obtain ⟨hnb, rfl⟩ := ss_bzs qv1
    exact ss_zret hC hr hnb hlocks hR hS (ss_with _ hm) dd_T_isWell_12
  refine ss_aload_n hx hb dd_T_isWell_0 rfl (lv_at hl 0 rfl) ?_
  obtain ⟨v2, qv2, hm⟩ := ss_bind hm
  refine ss_geti hC hK hR kf_T_19 qv2 dd_T_isWell_1 ?_
  refine lv_if_ne (tgt := 11) hx hb dd_T_isWell_4 (by decide) (fun c3 => ?_) (fun c3 => ?_)
  · have hm := ss_iff hm c3
    refine lv_iconst (v := 0) hx hb dd_T_isWell_11 (by decide) ?_
    exact J_12 (0 : Int32)  _ _ _ hm hR hS (lv_sub hl [] rfl)
  · have hm := ss_ift hm c3
    refine lv_iconst (v := 1) hx hb dd_T_isWell_7 (by decide) ?_
    refine lv_goto (tgt := 12) hx hb dd_T_isWell_8 (by decide) ?_
    exact J_12 (1 : Int32)  _ _ _ hm hR hS (lv_sub hl [] rfl)
theorem dd_VR_readMeasures_0 : decode bb_VR_readMeasures 0 = .ok (.aload_n 0, 1) := by decide +kernel
theorem dd_VR_readMeasures_1 : decode bb_VR_readMeasures 1 = .ok (.getfield 18, 3) := by decide +kernel
theorem dd_VR_readMeasures_4 : decode bb_VR_readMeasures 4 = .ok (.aload_n 0, 1) := by decide +kernel
theorem dd_VR_readMeasures_5 : decode bb_VR_readMeasures 5 = .ok (.getfield 21, 3) := by decide +kernel
theorem dd_VR_readMeasures_8 : decode bb_VR_readMeasures 8 = .ok (.iconst 1, 1) := by decide +kernel
theorem dd_VR_readMeasures_9 : decode bb_VR_readMeasures 9 = .ok (.bipush 9, 2) := by decide +kernel
theorem dd_VR_readMeasures_11 : decode bb_VR_readMeasures 11 = .ok (.iconst (-1), 1) := by decide +kernel
theorem dd_VR_readMeasures_12 : decode bb_VR_readMeasures 12 = .ok (.invokevirtual 89, 3) := by decide +kernel
theorem dd_VR_readMeasures_15 : decode bb_VR_readMeasures 15 = .ok (.putfield 93, 3) := by decide +kernel
theorem dd_VR_readMeasures_18 : decode bb_VR_readMeasures 18 = .ok (.aload_n 0, 1) := by decide +kernel
theorem dd_VR_readMeasures_19 : decode bb_VR_readMeasures 19 = .ok (.getfield 21, 3) := by decide +kernel
theorem dd_VR_readMeasures_22 : decode bb_VR_readMeasures 22 = .ok (.invokevirtual 45, 3) := by decide +kernel
theorem dd_VR_readMeasures_25 : decode bb_VR_readMeasures 25 = .ok (.ifCond .eq 21, 3) := by decide +kernel
theorem dd_VR_readMeasures_28 : decode bb_VR_readMeasures 28 = .ok (.aload_n 0, 1) := by decide +kernel
theorem dd_VR_readMeasures_29 : decode bb_VR_readMeasures 29 = .ok (.getfield 18, 3) := by decide +kernel
theorem dd_VR_readMeasures_32 : decode bb_VR_readMeasures 32 = .ok (.aload_n 0, 1) := by decide +kernel
theorem dd_VR_readMeasures_33 : decode bb_VR_readMeasures 33 = .ok (.getfield 21, 3) := by decide +kernel
theorem dd_VR_readMeasures_36 : decode bb_VR_readMeasures 36 = .ok (.iconst 1, 1) := by decide +kernel
theorem dd_VR_readMeasures_37 : decode bb_VR_readMeasures 37 = .ok (.bipush 30, 2) := by decide +kernel
theorem dd_VR_readMeasures_39 : decode bb_VR_readMeasures 39 = .ok (.iconst (-1), 1) := by decide +kernel
theorem dd_VR_readMeasures_40 : decode bb_VR_readMeasures 40 = .ok (.invokevirtual 89, 3) := by decide +kernel
theorem dd_VR_readMeasures_43 : decode bb_VR_readMeasures 43 = .ok (.putfield 96, 3) := by decide +kernel
theorem dd_VR_readMeasures_46 : decode bb_VR_readMeasures 46 = .ok (.return_, 1) := by decide +kernel
def mm_VR_readMeasures_j46 (N : Nat) (this : Option Nat) (h_46 : ss_Hp) : Option ss_Hp :=
  some h_46
def mm_VR_readMeasures (N : Nat) (this : Option Nat) (h : ss_Hp) : Option ss_Hp :=
  if ss_is h this 6 = true then
    (ss_gr h this 6 2).bind fun r1 =>
    (ss_gr h this 6 0).bind fun r2 =>
    ss_b2 (mm_T_number N r2 (1 : Int32) (9 : Int32) (-1 : Int32) h) fun v3 h4 =>
    (ss_pi h4 r1 5 1 v3).bind fun h5 =>
    (ss_gr h5 this 6 0).bind fun r6 =>
    (mm_T_isWell N r6 h5).bind fun v7 =>
    if v7 = 0 then
      mm_VR_readMeasures_j46 N this h5
    else
      (ss_gr h5 this 6 2).bind fun r9 =>
      (ss_gr h5 this 6 0).bind fun r10 =>
      ss_b2 (mm_T_number N r10 (1 : Int32) (30 : Int32) (-1 : Int32) h5) fun v11 h12 =>
      (ss_pi h12 r9 5 2 v11).bind fun h13 =>
      mm_VR_readMeasures_j46 N this h13
  else none
abbrev ww_VR_readMeasures (p : Program) (l : Launch) (e : Env) (s : State) (m : MethodId) (below : List Frame) (meth : Method) (c : Code) (G : ss_G) (this : Option Nat) (h : ss_Hp) (hh : ss_Hp) (H : Heap) (locs : List Loc) (k n : Nat) (g : JFrame) : Prop := W p l e (headSpec (ss_w yy_VR_readMeasures bb_VR_readMeasures 1 none) ({ frames := 3, cells := 0, slots := 0, locals := 66 })).room s m ([ss_v (ss_b G) this] : List Value).toArray below meth c H locs k n (MQ below (ss_Qc G none hh) ([ss_v (ss_b G) this] : List Value).toArray s 0 0 (ss_A G)) g
theorem ck_VR_readMeasures {N : Nat} {this : Option Nat} {h : ss_Hp} {res : ss_Hp} (hm : mm_VR_readMeasures N this h = some res) : ss_is h this 6 = true := (ss_chk hm).1
set_option maxHeartbeats 4000000 in
set_option maxRecDepth 100000 in
theorem cc_VR_readMeasures (l : Launch) (G : ss_G) (N : Nat) (this : Option Nat) (h : ss_Hp) (hh : ss_Hp) (hm : mm_VR_readMeasures N this h = some hh) : ss_Ct l G yy_VR_readMeasures bb_VR_readMeasures 1 none ({ frames := 3, cells := 0, slots := 0, locals := 66 }) [ss_v (ss_b G) this] h none hh := by
  obtain ⟨hck, hm⟩ := ss_chk hm
  refine Met.ofW (cc := bb_VR_readMeasures) (maxL := 1) (ret := none) (by decide) rfl ?_
  intro p e s m args below meth c s₁ B hml hv
  obtain ⟨rfl, hR, hK⟩ := hv
  have hC : CallFix p m c bb_VR_readMeasures 1 s _ lw_g sR_6 := ⟨B.exec, B.bytes, hml, findClass_of_methodNamed B.named, fun w hw => atoms_spec (ws := ss_w yy_VR_readMeasures bb_VR_readMeasures 1 none) B.pre w (List.mem_cons_of_mem _ hw)⟩
  have hx := hC.1
  have hb := hC.2.1
  have hr := B.returns
  have hlocks := B.notSynchronized
  have hS : va_S (ss_A G) s.heap s.heap [] := va_S.rf
  have hl := lv_entry ([ss_v (ss_b G) this]) (n := 1) (by simp [lg_sl, ss_v_cat, ss_cat_i, ss_cat_l, ss_cat_r])
  rw [lg_entry_eq]
  generalize (lg_sl ([ss_v (ss_b G) this]) ++ List.replicate (1 - (lg_sl ([ss_v (ss_b G) this])).length) Slot.unset).toArray = ls at hl ⊢
  have hl : lv_has ls 1 [(0, ss_v (ss_b G) this)] := by simpa [lv_args, ss_v_cat, ss_cat_i, ss_cat_l, ss_cat_r] using hl
  have J_46 : ∀ (h_46 : ss_Hp) (H : Heap) (locs : List Loc) (ls : Array Slot), mm_VR_readMeasures_j46 N this h_46 = some hh → ss_R G h_46 H → va_S (ss_A G) s.heap H locs → lv_has ls 1 [] → ww_VR_readMeasures p l e s m below meth c G this h hh  H locs 0 0 (F0 m 46 ls []) := by
    intro h_46 H locs ls hm hR hS hl
    exact ss_vret hC hr hlocks hR hS hm dd_VR_readMeasures_46
  refine ss_aload_n hx hb dd_VR_readMeasures_0 rfl (lv_at hl 0 rfl) ?_
  obtain ⟨r1, qr1, hm⟩ := ss_bind hm
  refine ss_getr hC hK hR kf_VR_18 rfl qr1 dd_VR_readMeasures_1 ?_
  refine ss_aload_n hx hb dd_VR_readMeasures_4 rfl (lv_at hl 0 rfl) ?_
  obtain ⟨r2, qr2, hm⟩ := ss_bind hm
  refine ss_getr hC hK hR kf_VR_21 rfl qr2 dd_VR_readMeasures_5 ?_
  refine lv_iconst (v := 1) hx hb dd_VR_readMeasures_8 (by decide) ?_
  refine lv_bipush (v := 9) hx hb dd_VR_readMeasures_9 (by decide) ?_
  refine lv_iconst (v := -1) hx hb dd_VR_readMeasures_11 (by decide) ?_
  obtain ⟨v3, h4, qh4, hm⟩ := ss_bind2 hm
  refine ss_cV 0 0 (As := [.int (1 : Int32), .int (9 : Int32), .int (-1 : Int32)]) hC hK hR hS hl.1 (cc_T_number l G N _ _ _ _ _ _ _ qh4) km_VR_89 (ck_T_number qh4) ⟨Nat.le_of_ble_eq_true rfl, Nat.le_of_ble_eq_true rfl⟩ ⟨Nat.le_of_ble_eq_true rfl, Nat.le_of_ble_eq_true rfl, Nat.le_of_ble_eq_true rfl, Nat.le_of_ble_eq_true rfl⟩ rfl rfl (by simp [ss_v_cat, ss_cat_i, ss_cat_l, ss_cat_r]) dd_VR_readMeasures_12 (fun H locs hR hS => ?_)
  obtain ⟨h5, qh5, hm⟩ := ss_bind hm
  refine ss_puti hC hK hR hS kp_VR_93 qh5 dd_VR_readMeasures_15 (fun H locs hR hS => ?_)
  refine ss_aload_n hx hb dd_VR_readMeasures_18 rfl (lv_at hl 0 rfl) ?_
  obtain ⟨r6, qr6, hm⟩ := ss_bind hm
  refine ss_getr hC hK hR kf_VR_21 rfl qr6 dd_VR_readMeasures_19 ?_
  obtain ⟨v7, qv7, hm⟩ := ss_bind hm
  refine ss_cV 0 0 (As := []) hC hK hR hS hl.1 (cc_T_isWell l G N _ _ _ qv7) km_VR_45 (ck_T_isWell qv7) ⟨Nat.le_of_ble_eq_true rfl, Nat.le_of_ble_eq_true rfl⟩ ⟨Nat.le_of_ble_eq_true rfl, Nat.le_of_ble_eq_true rfl, Nat.le_of_ble_eq_true rfl, Nat.le_of_ble_eq_true rfl⟩ rfl rfl (Nat.le_of_ble_eq_true rfl) dd_VR_readMeasures_22 (fun H locs hR hS => ?_)
  refine lv_if_eq (tgt := 46) hx hb dd_VR_readMeasures_25 (by decide) (fun c8 => ?_) (fun c8 => ?_)
  · have hm := ss_ift hm c8
    exact J_46 h5 _ _ _ hm hR hS (lv_sub hl [] rfl)
  · have hm := ss_iff hm c8
    refine ss_aload_n hx hb dd_VR_readMeasures_28 rfl (lv_at hl 0 rfl) ?_
    obtain ⟨r9, qr9, hm⟩ := ss_bind hm
    refine ss_getr hC hK hR kf_VR_18 rfl qr9 dd_VR_readMeasures_29 ?_
    refine ss_aload_n hx hb dd_VR_readMeasures_32 rfl (lv_at hl 0 rfl) ?_
    obtain ⟨r10, qr10, hm⟩ := ss_bind hm
    refine ss_getr hC hK hR kf_VR_21 rfl qr10 dd_VR_readMeasures_33 ?_
    refine lv_iconst (v := 1) hx hb dd_VR_readMeasures_36 (by decide) ?_
    refine lv_bipush (v := 30) hx hb dd_VR_readMeasures_37 (by decide) ?_
    refine lv_iconst (v := -1) hx hb dd_VR_readMeasures_39 (by decide) ?_
    obtain ⟨v11, h12, qh12, hm⟩ := ss_bind2 hm
    refine ss_cV 0 0 (As := [.int (1 : Int32), .int (30 : Int32), .int (-1 : Int32)]) hC hK hR hS hl.1 (cc_T_number l G N _ _ _ _ _ _ _ qh12) km_VR_89 (ck_T_number qh12) ⟨Nat.le_of_ble_eq_true rfl, Nat.le_of_ble_eq_true rfl⟩ ⟨Nat.le_of_ble_eq_true rfl, Nat.le_of_ble_eq_true rfl, Nat.le_of_ble_eq_true rfl, Nat.le_of_ble_eq_true rfl⟩ rfl rfl (by simp [ss_v_cat, ss_cat_i, ss_cat_l, ss_cat_r]) dd_VR_readMeasures_40 (fun H locs hR hS => ?_)
    obtain ⟨h13, qh13, hm⟩ := ss_bind hm
    refine ss_puti hC hK hR hS kp_VR_96 qh13 dd_VR_readMeasures_43 (fun H locs hR hS => ?_)
    exact J_46 h13 _ _ _ hm hR hS (lv_sub hl [] rfl)
