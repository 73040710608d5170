theorem dd_M_closedIn_0 : decode bb_M_closedIn 0 = .ok (.iconst 0, 1) := by decide +kernel
theorem dd_M_closedIn_1 : decode bb_M_closedIn 1 = .ok (.istore_n 2, 1) := by decide +kernel
theorem dd_M_closedIn_2 : decode bb_M_closedIn 2 = .ok (.iload_n 2, 1) := by decide +kernel
theorem dd_M_closedIn_3 : decode bb_M_closedIn 3 = .ok (.iload_n 1, 1) := by decide +kernel
theorem dd_M_closedIn_4 : decode bb_M_closedIn 4 = .ok (.if_icmp .ge 14, 3) := by decide +kernel
theorem dd_M_closedIn_7 : decode bb_M_closedIn 7 = .ok (.aload_n 0, 1) := by decide +kernel
theorem dd_M_closedIn_8 : decode bb_M_closedIn 8 = .ok (.invokevirtual 372, 3) := by decide +kernel
theorem dd_M_closedIn_11 : decode bb_M_closedIn 11 = .ok (.pop, 1) := by decide +kernel
theorem dd_M_closedIn_12 : decode bb_M_closedIn 12 = .ok (.iinc 2 1, 3) := by decide +kernel
theorem dd_M_closedIn_15 : decode bb_M_closedIn 15 = .ok (.goto (-13), 3) := by decide +kernel
theorem dd_M_closedIn_18 : decode bb_M_closedIn 18 = .ok (.aload_n 0, 1) := by decide +kernel
theorem dd_M_closedIn_19 : decode bb_M_closedIn 19 = .ok (.invokevirtual 340, 3) := by decide +kernel
theorem dd_M_closedIn_22 : decode bb_M_closedIn 22 = .ok (.invokestatic 343, 3) := by decide +kernel
theorem dd_M_closedIn_25 : decode bb_M_closedIn 25 = .ok (.istore_n 2, 1) := by decide +kernel
theorem dd_M_closedIn_26 : decode bb_M_closedIn 26 = .ok (.aload_n 0, 1) := by decide +kernel
theorem dd_M_closedIn_27 : decode bb_M_closedIn 27 = .ok (.invokevirtual 388, 3) := by decide +kernel
theorem dd_M_closedIn_30 : decode bb_M_closedIn 30 = .ok (.iload_n 2, 1) := by decide +kernel
theorem dd_M_closedIn_31 : decode bb_M_closedIn 31 = .ok (.ireturn, 1) := by decide +kernel
def mm_M_closedIn_b2 (N : Nat) (this : Option Nat) (a1 : Int32) (st : Int32 × ss_Hp) : Option ((Int32 × ss_Hp) ⊕ ss_Hp) :=
  match st with
  | (x2_2, h_2) =>
    if a1 ≤ x2_2 then
      some (.inr h_2)
    else
      ss_b2 (mm_M_passes N this h_2) fun v5 h6 =>
      (some (x2_2 + (1 : Int32))).bind fun v7 =>
      some (.inl (v7, h6))
def mm_M_closedIn (N : Nat) (this : Option Nat) (a1 : Int32) (h : ss_Hp) : Option (Int32 × ss_Hp) :=
  if ss_is h this 12 = true then
    (ss_lp (mm_M_closedIn_b2 N this a1) N ((0 : Int32), h)).bind fun h_2_18 =>
    (mm_M_closed N this h_2_18).bind fun v1 =>
    (mm_M_bits N v1).bind fun v2 =>
    (mm_M_laysBack N this h_2_18).bind fun h3 =>
    some (v2, h3)
  else none
abbrev ww_M_closedIn (p : Program) (l : Launch) (e : Env) (s : State) (m : MethodId) (below : List Frame) (meth : Method) (c : Code) (G : ss_G) (this : Option Nat) (a1 : Int32) (h : ss_Hp) (rr : Int32) (hh : ss_Hp) (H : Heap) (locs : List Loc) (k n : Nat) (g : JFrame) : Prop := W p l e (headSpec (ss_w yy_M_closedIn bb_M_closedIn 3 (some (.int))) ({ frames := 5, cells := 0, slots := 0, locals := 126 })).room s m ([ss_v (ss_b G) this, .int a1] : List Value).toArray below meth c H locs k n (MQ below (ss_Qc G (some (.int rr)) hh) ([ss_v (ss_b G) this, .int a1] : List Value).toArray s 0 0 (ss_A G)) g
theorem ck_M_closedIn {N : Nat} {this : Option Nat} {a1 : Int32} {h : ss_Hp} {res : Int32 × ss_Hp} (hm : mm_M_closedIn N this a1 h = some res) : ss_is h this 12 = true := (ss_chk hm).1
set_option maxHeartbeats 4000000 in
set_option maxRecDepth 100000 in
theorem cc_M_closedIn (l : Launch) (G : ss_G) (N : Nat) (this : Option Nat) (a1 : Int32) (h : ss_Hp) (rr : Int32) (hh : ss_Hp) (hm : mm_M_closedIn N this a1 h = some (rr, hh)) : ss_Ct l G yy_M_closedIn bb_M_closedIn 3 (some (.int)) ({ frames := 5, cells := 0, slots := 0, locals := 126 }) [ss_v (ss_b G) this, .int a1] h (some (.int rr)) hh := by
  obtain ⟨hck, hm⟩ := ss_chk hm
  refine Met.ofW (cc := bb_M_closedIn) (maxL := 3) (ret := (some (.int))) (by decide) rfl ?_
  intro p e s m args below meth c s₁ B hml hv
  obtain ⟨rfl, hR, hK⟩ := hv
  have hC : CallFix p m c bb_M_closedIn 3 s _ lw_g sR_12 := ⟨B.exec, B.bytes, hml, findClass_of_methodNamed B.named, fun w hw => atoms_spec (ws := ss_w yy_M_closedIn bb_M_closedIn 3 (some (.int))) B.pre w (List.mem_cons_of_mem _ hw)⟩
  have hx := hC.1
  have hb := hC.2.1
  have hr := B.returns
  have hlocks := B.notSynchronized
  have hS : va_S (ss_A G) s.heap s.heap [] := va_S.rf
  have hl := lv_entry ([ss_v (ss_b G) this, .int a1]) (n := 3) (by simp [lg_sl, ss_v_cat, ss_cat_i, ss_cat_l, ss_cat_r])
  rw [lg_entry_eq]
  generalize (lg_sl ([ss_v (ss_b G) this, .int a1]) ++ List.replicate (3 - (lg_sl ([ss_v (ss_b G) this, .int a1])).length) Slot.unset).toArray = ls at hl ⊢
  have hl : lv_has ls 3 [(0, ss_v (ss_b G) this), (1, .int a1)] := by simpa [lv_args, ss_v_cat, ss_cat_i, ss_cat_l, ss_cat_r] using hl
  refine lv_iconst (v := 0) hx hb dd_M_closedIn_0 (by decide) ?_
  refine lv_istore_n (lv' := [(2, .int (0 : Int32)), (0, ss_v (ss_b G) this), (1, .int a1)]) hx hb dd_M_closedIn_1 rfl hl (by decide) rfl (fun ls hl => ?_)
  obtain ⟨e_2, he_2, hm⟩ := ss_bind hm
  have X_2_18 : ∀  (h_2_18 : ss_Hp) (H : Heap) (locs : List Loc) (ls : Array Slot), e_2 = h_2_18 → ss_R G h_2_18 H → va_S (ss_A G) s.heap H locs → lv_has ls 3 [(0, ss_v (ss_b G) this)] → ww_M_closedIn p l e s m below meth c G this a1 h rr hh  H locs 0 0 (F0 m 18 ls []) := by
    intro h_2_18 H locs ls hq hR hS hl
    rw [hq] at hm
    refine ss_aload_n hx hb dd_M_closedIn_18 rfl (lv_at hl 0 rfl) ?_
    obtain ⟨v1, qv1, hm⟩ := ss_bind hm
    refine ss_cV 0 0 (As := []) hC hK hR hS hl.1 (cc_M_closed l G N _ _ _ qv1) km_M_340 (ck_M_closed qv1) ⟨Nat.le_of_ble_eq_true rfl, Nat.le_of_ble_eq_true rfl⟩ ⟨Nat.le_of_ble_eq_true rfl, Nat.le_of_ble_eq_true rfl, Nat.le_of_ble_eq_true rfl, Nat.le_of_ble_eq_true rfl⟩ rfl rfl (Nat.le_of_ble_eq_true rfl) dd_M_closedIn_19 (fun H locs hR hS => ?_)
    obtain ⟨v2, qv2, hm⟩ := ss_bind hm
    refine ss_cS 0 0 (As := [.int v1]) hC hK hR hS hl.1 (cc_M_bits l G N _ _ _ qv2) km_M_343 ⟨Nat.le_of_ble_eq_true rfl, Nat.le_of_ble_eq_true rfl⟩ ⟨Nat.le_of_ble_eq_true rfl, Nat.le_of_ble_eq_true rfl, Nat.le_of_ble_eq_true rfl, Nat.le_of_ble_eq_true rfl⟩ rfl rfl (Nat.le_of_ble_eq_true rfl) dd_M_closedIn_22 (fun H locs hR hS => ?_)
    refine lv_istore_n (lv' := [(2, .int v2), (0, ss_v (ss_b G) this)]) hx hb dd_M_closedIn_25 rfl hl (by decide) rfl (fun ls hl => ?_)
    refine ss_aload_n hx hb dd_M_closedIn_26 rfl (lv_at hl 1 rfl) ?_
    obtain ⟨h3, qh3, hm⟩ := ss_bind hm
    refine ss_cVv 0 0 (As := []) hC hK hR hS hl.1 (cc_M_laysBack l G N _ _ _ qh3) km_M_388 (ck_M_laysBack qh3) ⟨Nat.le_of_ble_eq_true rfl, Nat.le_of_ble_eq_true rfl⟩ ⟨Nat.le_of_ble_eq_true rfl, Nat.le_of_ble_eq_true rfl, Nat.le_of_ble_eq_true rfl, Nat.le_of_ble_eq_true rfl⟩ rfl rfl (Nat.le_of_ble_eq_true rfl) dd_M_closedIn_27 (fun H locs hR hS => ?_)
    refine lv_iload_n hx hb dd_M_closedIn_30 rfl (lv_at hl 0 rfl) ?_
    exact ss_iret hC hr hlocks hR hS hm dd_M_closedIn_31
  have L_2 : ∀ (n : Nat) (x2_2 : Int32) (h_2 : ss_Hp) (H : Heap) (locs : List Loc) (ls : Array Slot), ss_lp (mm_M_closedIn_b2 N this a1) n (x2_2, h_2) = some e_2 → ss_R G h_2 H → va_S (ss_A G) s.heap H locs → lv_has ls 3 [(0, ss_v (ss_b G) this), (1, .int a1), (2, .int x2_2)] → ww_M_closedIn p l e s m below meth c G this a1 h rr hh  H locs 0 0 (F0 m 2 ls []) := by
    intro n
    induction n with
    | zero => intro x2_2 h_2 H locs ls hm; cases hm
    | succ n ih_2 =>
      intro x2_2 h_2 H locs ls hm hR hS hl
      obtain ⟨z_2, hm, hz1_2, hz2_2⟩ := ss_lps hm
      refine lv_iload_n hx hb dd_M_closedIn_2 rfl (lv_at hl 2 rfl) ?_
      refine lv_iload_n hx hb dd_M_closedIn_3 rfl (lv_at hl 1 rfl) ?_
      refine lv_icmp_ge (tgt := 18) hx hb dd_M_closedIn_4 (by decide) (fun c4 => ?_) (fun c4 => ?_)
      · have hm := ss_ift hm c4
        exact X_2_18 h_2 _ _ _ (hz2_2 _ (ss_some hm)) hR hS (lv_sub hl [0] rfl)
      · have hm := ss_iff hm c4
        refine ss_aload_n hx hb dd_M_closedIn_7 rfl (lv_at hl 0 rfl) ?_
        obtain ⟨v5, h6, qh6, hm⟩ := ss_bind2 hm
        refine ss_cV 0 0 (As := []) hC hK hR hS hl.1 (cc_M_passes l G N _ _ _ _ qh6) km_M_372 (ck_M_passes qh6) ⟨Nat.le_of_ble_eq_true rfl, Nat.le_of_ble_eq_true rfl⟩ ⟨Nat.le_of_ble_eq_true rfl, Nat.le_of_ble_eq_true rfl, Nat.le_of_ble_eq_true rfl, Nat.le_of_ble_eq_true rfl⟩ rfl rfl (Nat.le_of_ble_eq_true rfl) dd_M_closedIn_8 (fun H locs hR hS => ?_)
        refine lv_pop hx hb dd_M_closedIn_11 rfl ?_
        obtain ⟨v7, qv7, hm⟩ := ss_bind hm
        refine lv_iinc (v := v7) (lv' := [(2, .int v7), (0, ss_v (ss_b G) this), (1, .int a1)]) hx hb dd_M_closedIn_12 hl (k := 2) rfl (ss_inc (by decide) qv7) (by decide) rfl (fun ls hl => ?_)
        refine lv_goto (tgt := 2) hx hb dd_M_closedIn_15 (by decide) ?_
        exact ih_2 v7 h6 _ _ _ (hz1_2 _ (ss_some hm)) hR hS (lv_sub hl [1, 2, 0] rfl)
  exact L_2 N (0 : Int32) h _ _ _ he_2 hR hS (lv_sub hl [1, 2, 0] rfl)
theorem dd_M_best_0 : decode bb_M_best 0 = .ok (.aload_n 0, 1) := by decide +kernel
theorem dd_M_best_1 : decode bb_M_best 1 = .ok (.iload_n 1, 1) := by decide +kernel
theorem dd_M_best_2 : decode bb_M_best 2 = .ok (.invokevirtual 322, 3) := by decide +kernel
theorem dd_M_best_5 : decode bb_M_best 5 = .ok (.ifCond .eq 39, 3) := by decide +kernel
theorem dd_M_best_8 : decode bb_M_best 8 = .ok (.aload_n 0, 1) := by decide +kernel
theorem dd_M_best_9 : decode bb_M_best 9 = .ok (.getfield 39, 3) := by decide +kernel
theorem dd_M_best_12 : decode bb_M_best 12 = .ok (.bipush 13, 2) := by decide +kernel
theorem dd_M_best_14 : decode bb_M_best 14 = .ok (.iaload, 1) := by decide +kernel
theorem dd_M_best_15 : decode bb_M_best 15 = .ok (.iload_n 1, 1) := by decide +kernel
theorem dd_M_best_16 : decode bb_M_best 16 = .ok (.invokestatic 316, 3) := by decide +kernel
theorem dd_M_best_19 : decode bb_M_best 19 = .ok (.ifCond .ne 25, 3) := by decide +kernel
theorem dd_M_best_22 : decode bb_M_best 22 = .ok (.iload_n 2, 1) := by decide +kernel
theorem dd_M_best_23 : decode bb_M_best 23 = .ok (.i2l, 1) := by decide +kernel
theorem dd_M_best_24 : decode bb_M_best 24 = .ok (.lconst 1, 1) := by decide +kernel
theorem dd_M_best_25 : decode bb_M_best 25 = .ok (.ldc2_w 413, 3) := by decide +kernel
theorem dd_M_best_28 : decode bb_M_best 28 = .ok (.invokestatic 124, 3) := by decide +kernel
theorem dd_M_best_31 : decode bb_M_best 31 = .ok (.ifCond .eq 13, 3) := by decide +kernel
theorem dd_M_best_34 : decode bb_M_best 34 = .ok (.iload_n 3, 1) := by decide +kernel
theorem dd_M_best_35 : decode bb_M_best 35 = .ok (.i2l, 1) := by decide +kernel
theorem dd_M_best_36 : decode bb_M_best 36 = .ok (.lconst 0, 1) := by decide +kernel
theorem dd_M_best_37 : decode bb_M_best 37 = .ok (.lconst 1, 1) := by decide +kernel
theorem dd_M_best_38 : decode bb_M_best 38 = .ok (.invokestatic 124, 3) := by decide +kernel
theorem dd_M_best_41 : decode bb_M_best 41 = .ok (.ifCond .ne 6, 3) := by decide +kernel
theorem dd_M_best_44 : decode bb_M_best 44 = .ok (.bipush (-2), 2) := by decide +kernel
theorem dd_M_best_46 : decode bb_M_best 46 = .ok (.ireturn, 1) := by decide +kernel
theorem dd_M_best_47 : decode bb_M_best 47 = .ok (.aload_n 0, 1) := by decide +kernel
theorem dd_M_best_48 : decode bb_M_best 48 = .ok (.invokevirtual 385, 3) := by decide +kernel
theorem dd_M_best_51 : decode bb_M_best 51 = .ok (.iconst (-1), 1) := by decide +kernel
theorem dd_M_best_52 : decode bb_M_best 52 = .ok (.istore 4, 2) := by decide +kernel
theorem dd_M_best_54 : decode bb_M_best 54 = .ok (.aload_n 0, 1) := by decide +kernel
theorem dd_M_best_55 : decode bb_M_best 55 = .ok (.iload_n 2, 1) := by decide +kernel
theorem dd_M_best_56 : decode bb_M_best 56 = .ok (.invokevirtual 424, 3) := by decide +kernel
theorem dd_M_best_59 : decode bb_M_best 59 = .ok (.istore 5, 2) := by decide +kernel
theorem dd_M_best_61 : decode bb_M_best 61 = .ok (.iconst 0, 1) := by decide +kernel
theorem dd_M_best_62 : decode bb_M_best 62 = .ok (.istore 6, 2) := by decide +kernel
theorem dd_M_best_64 : decode bb_M_best 64 = .ok (.iload 6, 2) := by decide +kernel
theorem dd_M_best_66 : decode bb_M_best 66 = .ok (.aload_n 0, 1) := by decide +kernel
theorem dd_M_best_67 : decode bb_M_best 67 = .ok (.getfield 39, 3) := by decide +kernel
theorem dd_M_best_70 : decode bb_M_best 70 = .ok (.iconst 2, 1) := by decide +kernel
theorem dd_M_best_71 : decode bb_M_best 71 = .ok (.iaload, 1) := by decide +kernel
theorem dd_M_best_72 : decode bb_M_best 72 = .ok (.if_icmp .ge 68, 3) := by decide +kernel
theorem dd_M_best_75 : decode bb_M_best 75 = .ok (.aload_n 0, 1) := by decide +kernel
theorem dd_M_best_76 : decode bb_M_best 76 = .ok (.iload_n 1, 1) := by decide +kernel
theorem dd_M_best_77 : decode bb_M_best 77 = .ok (.iload 6, 2) := by decide +kernel
theorem dd_M_best_79 : decode bb_M_best 79 = .ok (.invokevirtual 375, 3) := by decide +kernel
theorem dd_M_best_82 : decode bb_M_best 82 = .ok (.ifCond .ne 6, 3) := by decide +kernel
theorem dd_M_best_85 : decode bb_M_best 85 = .ok (.goto 49, 3) := by decide +kernel
theorem dd_M_best_88 : decode bb_M_best 88 = .ok (.aload_n 0, 1) := by decide +kernel
theorem dd_M_best_89 : decode bb_M_best 89 = .ok (.getfield 39, 3) := by decide +kernel
theorem dd_M_best_92 : decode bb_M_best 92 = .ok (.bipush 13, 2) := by decide +kernel
theorem dd_M_best_94 : decode bb_M_best 94 = .ok (.dup2, 1) := by decide +kernel
theorem dd_M_best_95 : decode bb_M_best 95 = .ok (.iaload, 1) := by decide +kernel
theorem dd_M_best_96 : decode bb_M_best 96 = .ok (.iconst 1, 1) := by decide +kernel
theorem dd_M_best_97 : decode bb_M_best 97 = .ok (.iload_n 1, 1) := by decide +kernel
theorem dd_M_best_98 : decode bb_M_best 98 = .ok (.ishl, 1) := by decide +kernel
theorem dd_M_best_99 : decode bb_M_best 99 = .ok (.ior, 1) := by decide +kernel
theorem dd_M_best_100 : decode bb_M_best 100 = .ok (.iastore, 1) := by decide +kernel
theorem dd_M_best_101 : decode bb_M_best 101 = .ok (.aload_n 0, 1) := by decide +kernel
theorem dd_M_best_102 : decode bb_M_best 102 = .ok (.iload_n 1, 1) := by decide +kernel
theorem dd_M_best_103 : decode bb_M_best 103 = .ok (.iload 6, 2) := by decide +kernel
theorem dd_M_best_105 : decode bb_M_best 105 = .ok (.invokevirtual 359, 3) := by decide +kernel
theorem dd_M_best_108 : decode bb_M_best 108 = .ok (.pop, 1) := by decide +kernel
theorem dd_M_best_109 : decode bb_M_best 109 = .ok (.aload_n 0, 1) := by decide +kernel
theorem dd_M_best_110 : decode bb_M_best 110 = .ok (.iload_n 2, 1) := by decide +kernel
theorem dd_M_best_111 : decode bb_M_best 111 = .ok (.invokevirtual 424, 3) := by decide +kernel
theorem dd_M_best_114 : decode bb_M_best 114 = .ok (.istore 7, 2) := by decide +kernel
theorem dd_M_best_116 : decode bb_M_best 116 = .ok (.iload 7, 2) := by decide +kernel
theorem dd_M_best_118 : decode bb_M_best 118 = .ok (.iload 5, 2) := by decide +kernel
theorem dd_M_best_120 : decode bb_M_best 120 = .ok (.if_icmp .lt 6, 3) := by decide +kernel
theorem dd_M_best_123 : decode bb_M_best 123 = .ok (.goto 11, 3) := by decide +kernel
theorem dd_M_best_126 : decode bb_M_best 126 = .ok (.iload 6, 2) := by decide +kernel
theorem dd_M_best_128 : decode bb_M_best 128 = .ok (.istore 4, 2) := by decide +kernel
theorem dd_M_best_130 : decode bb_M_best 130 = .ok (.iload 7, 2) := by decide +kernel
theorem dd_M_best_132 : decode bb_M_best 132 = .ok (.istore 5, 2) := by decide +kernel
theorem dd_M_best_134 : decode bb_M_best 134 = .ok (.iinc 6 1, 3) := by decide +kernel
theorem dd_M_best_137 : decode bb_M_best 137 = .ok (.goto (-73), 3) := by decide +kernel
theorem dd_M_best_140 : decode bb_M_best 140 = .ok (.iload_n 3, 1) := by decide +kernel
theorem dd_M_best_141 : decode bb_M_best 141 = .ok (.ifCond .ne 8, 3) := by decide +kernel
theorem dd_M_best_144 : decode bb_M_best 144 = .ok (.iload 4, 2) := by decide +kernel
theorem dd_M_best_146 : decode bb_M_best 146 = .ok (.goto 5, 3) := by decide +kernel
theorem dd_M_best_149 : decode bb_M_best 149 = .ok (.iload 5, 2) := by decide +kernel
theorem dd_M_best_151 : decode bb_M_best 151 = .ok (.ireturn, 1) := by decide +kernel
def mm_M_best_j44 (N : Nat) (this : Option Nat) (a1 : Int32) (a2 : Int32) (a3 : Int32) (h_44 : ss_Hp) : Option (Int32 × ss_Hp) :=
  some ((-2 : Int32), h_44)
def mm_M_best_j151 (N : Nat) (this : Option Nat) (a1 : Int32) (a2 : Int32) (a3 : Int32) (s0_151 : Int32) (h_151 : ss_Hp) : Option (Int32 × ss_Hp) :=
  some (s0_151, h_151)
def mm_M_best_j134 (N : Nat) (this : Option Nat) (a1 : Int32) (a2 : Int32) (a3 : Int32) (x4_134 : Int32) (x5_134 : Int32) (x6_134 : Int32) (h_134 : ss_Hp) : Option ((Int32 × Int32 × Int32 × ss_Hp) ⊕ (Int32 × Int32 × ss_Hp)) :=
  (some (x6_134 + (1 : Int32))).bind fun v15 =>
  some (.inl (x4_134, x5_134, v15, h_134))
def mm_M_best_b64 (N : Nat) (this : Option Nat) (a1 : Int32) (a2 : Int32) (a3 : Int32) (st : Int32 × Int32 × Int32 × ss_Hp) : Option ((Int32 × Int32 × Int32 × ss_Hp) ⊕ (Int32 × Int32 × ss_Hp)) :=
  match st with
  | (x4_64, x5_64, x6_64, h_64) =>
    (ss_gr h_64 this 12 9).bind fun r16 =>
    (ss_ai h_64 r16 20 (2 : Int32)).bind fun v17 =>
    if v17 ≤ x6_64 then
      some (.inr (x4_64, x5_64, h_64))
    else
      (mm_M_canSweep N this a1 x6_64 h_64).bind fun v19 =>
      if v19 = 0 then
        mm_M_best_j134 N this a1 a2 a3 x4_64 x5_64 x6_64 h_64
      else
        (ss_gr h_64 this 12 9).bind fun r21 =>
        (ss_ai h_64 r21 20 (13 : Int32)).bind fun v22 =>
        (ss_ui h_64 r21 20 (13 : Int32) (v22 ||| ((1 : Int32) <<< (a1 &&& 31)))).bind fun h23 =>
        ss_b2 (mm_M_takes N this a1 x6_64 h23) fun v24 h25 =>
        ss_b2 (mm_M_closedIn N this a2 h25) fun v26 h27 =>
        if v26 < x5_64 then
          mm_M_best_j134 N this a1 a2 a3 x6_64 v26 x6_64 h27
        else
          mm_M_best_j134 N this a1 a2 a3 x4_64 x5_64 x6_64 h27
def mm_M_best (N : Nat) (this : Option Nat) (a1 : Int32) (a2 : Int32) (a3 : Int32) (h : ss_Hp) : Option (Int32 × ss_Hp) :=
  if ss_is h this 12 = true then
    (mm_M_isHouse N this a1 h).bind fun v1 =>
    if v1 = 0 then
      mm_M_best_j44 N this a1 a2 a3 h
    else
      (ss_gr h this 12 9).bind fun r3 =>
      (ss_ai h r3 20 (13 : Int32)).bind fun v4 =>
      (mm_M_isOf N v4 a1).bind fun v5 =>
      if v5 = 0 then
        (mm_M_in N ((a2).toInt64) (1 : Int64) (30 : Int64)).bind fun v7 =>
        if v7 = 0 then
          mm_M_best_j44 N this a1 a2 a3 h
        else
          (mm_M_in N ((a3).toInt64) (0 : Int64) (1 : Int64)).bind fun v9 =>
          if v9 = 0 then
            mm_M_best_j44 N this a1 a2 a3 h
          else
            (mm_M_keeps N this h).bind fun h11 =>
            ss_b2 (mm_M_closedIn N this a2 h11) fun v12 h13 =>
            (ss_lp (mm_M_best_b64 N this a1 a2 a3) N ((-1 : Int32), v12, (0 : Int32), h13)).bind fun e_64 =>
            match e_64 with
            | (y4_64_140, y5_64_140, h_64_140) =>
              if a3 = 0 then
                mm_M_best_j151 N this a1 a2 a3 y4_64_140 h_64_140
              else
                mm_M_best_j151 N this a1 a2 a3 y5_64_140 h_64_140
      else
        mm_M_best_j44 N this a1 a2 a3 h
  else none
abbrev ww_M_best (p : Program) (l : Launch) (e : Env) (s : State) (m : MethodId) (below : List Frame) (meth : Method) (c : Code) (G : ss_G) (this : Option Nat) (a1 : Int32) (a2 : Int32) (a3 : Int32) (h : ss_Hp) (rr : Int32) (hh : ss_Hp) (H : Heap) (locs : List Loc) (k n : Nat) (g : JFrame) : Prop := W p l e (headSpec (ss_w yy_M_best bb_M_best 8 (some (.int))) ({ frames := 6, cells := 0, slots := 0, locals := 148 })).room s m ([ss_v (ss_b G) this, .int a1, .int a2, .int a3] : List Value).toArray below meth c H locs k n (MQ below (ss_Qc G (some (.int rr)) hh) ([ss_v (ss_b G) this, .int a1, .int a2, .int a3] : List Value).toArray s 0 0 (ss_A G)) g
theorem ck_M_best {N : Nat} {this : Option Nat} {a1 : Int32} {a2 : Int32} {a3 : Int32} {h : ss_Hp} {res : Int32 × ss_Hp} (hm : mm_M_best N this a1 a2 a3 h = some res) : ss_is h this 12 = true := (ss_chk hm).1
set_option maxHeartbeats 4000000 in
set_option maxRecDepth 100000 in
theorem cc_M_best (l : Launch) (G : ss_G) (N : Nat) (this : Option Nat) (a1 : Int32) (a2 : Int32) (a3 : Int32) (h : ss_Hp) (rr : Int32) (hh : ss_Hp) (hm : mm_M_best N this a1 a2 a3 h = some (rr, hh)) : ss_Ct l G yy_M_best bb_M_best 8 (some (.int)) ({ frames := 6, cells := 0, slots := 0, locals := 148 }) [ss_v (ss_b G) this, .int a1, .int a2, .int a3] h (some (.int rr)) hh := by
  obtain ⟨hck, hm⟩ := ss_chk hm
  refine Met.ofW (cc := bb_M_best) (maxL := 8) (ret := (some (.int))) (by decide) rfl ?_
  intro p e s m args below meth c s₁ B hml hv
  obtain ⟨rfl, hR, hK⟩ := hv
  have hC : CallFix p m c bb_M_best 8 s _ lw_g sR_12 := ⟨B.exec, B.bytes, hml, findClass_of_methodNamed B.named, fun w hw => atoms_spec (ws := ss_w yy_M_best bb_M_best 8 (some (.int))) B.pre w (List.mem_cons_of_mem _ hw)⟩
  have hx := hC.1
  have hb := hC.2.1
  have hr := B.returns
  have hlocks := B.notSynchronized
  have hS : va_S (ss_A G) s.heap s.heap [] := va_S.rf
  have hl := lv_entry ([ss_v (ss_b G) this, .int a1, .int a2, .int a3]) (n := 8) (by simp [lg_sl, ss_v_cat, ss_cat_i, ss_cat_l, ss_cat_r])
  rw [lg_entry_eq]
  generalize (lg_sl ([ss_v (ss_b G) this, .int a1, .int a2, .int a3]) ++ List.replicate (8 - (lg_sl ([ss_v (ss_b G) this, .int a1, .int a2, .int a3])).length) Slot.unset).toArray = ls at hl ⊢
  have hl : lv_has ls 8 [(0, ss_v (ss_b G) this), (1, .int a1), (2, .int a2), (3, .int a3)] := by simpa [lv_args, ss_v_cat, ss_cat_i, ss_cat_l, ss_cat_r] using hl
  have J_44 : ∀ (h_44 : ss_Hp) (H : Heap) (locs : List Loc) (ls : Array Slot), mm_M_best_j44 N this a1 a2 a3 h_44 = some (rr, hh) → ss_R G h_44 H → va_S (ss_A G) s.heap H locs → lv_has ls 8 [] → ww_M_best p l e s m below meth c G this a1 a2 a3 h rr hh  H locs 0 0 (F0 m 44 ls []) := by
    intro h_44 H locs ls hm hR hS hl
    refine lv_bipush (v := -2) hx hb dd_M_best_44 (by decide) ?_
    exact ss_iret hC hr hlocks hR hS hm dd_M_best_46
  have J_151 : ∀ (s0_151 : Int32) (h_151 : ss_Hp) (H : Heap) (locs : List Loc) (ls : Array Slot), mm_M_best_j151 N this a1 a2 a3 s0_151 h_151 = some (rr, hh) → ss_R G h_151 H → va_S (ss_A G) s.heap H locs → lv_has ls 8 [] → ww_M_best p l e s m below meth c G this a1 a2 a3 h rr hh  H locs 0 0 (F0 m 151 ls [.int s0_151]) := by
    intro s0_151 h_151 H locs ls hm hR hS hl
    exact ss_iret hC hr hlocks hR hS hm dd_M_best_151
  refine ss_aload_n hx hb dd_M_best_0 rfl (lv_at hl 0 rfl) ?_
  refine lv_iload_n hx hb dd_M_best_1 rfl (lv_at hl 1 rfl) ?_
  obtain ⟨v1, qv1, hm⟩ := ss_bind hm
  refine ss_cV 0 0 (As := [.int a1]) hC hK hR hS hl.1 (cc_M_isHouse l G N _ _ _ _ qv1) km_M_322 (ck_M_isHouse qv1) ⟨Nat.le_of_ble_eq_true rfl, Nat.le_of_ble_eq_true rfl⟩ ⟨Nat.le_of_ble_eq_true rfl, Nat.le_of_ble_eq_true rfl, Nat.le_of_ble_eq_true rfl, Nat.le_of_ble_eq_true rfl⟩ rfl rfl (Nat.le_of_ble_eq_true rfl) dd_M_best_2 (fun H locs hR hS => ?_)
  refine lv_if_eq (tgt := 44) hx hb dd_M_best_5 (by decide) (fun c2 => ?_) (fun c2 => ?_)
  · have hm := ss_ift hm c2
    exact J_44 h _ _ _ hm hR hS (lv_sub hl [] rfl)
  · have hm := ss_iff hm c2
    refine ss_aload_n hx hb dd_M_best_8 rfl (lv_at hl 0 rfl) ?_
    obtain ⟨r3, qr3, hm⟩ := ss_bind hm
    refine ss_getr hC hK hR kf_M_39 rfl qr3 dd_M_best_9 ?_
    refine lv_bipush (v := 13) hx hb dd_M_best_12 (by decide) ?_
    obtain ⟨v4, qv4, hm⟩ := ss_bind hm
    refine ss_iald hC hK hR qv4 dd_M_best_14 ?_
    refine lv_iload_n hx hb dd_M_best_15 rfl (lv_at hl 1 rfl) ?_
    obtain ⟨v5, qv5, hm⟩ := ss_bind hm
    refine ss_cS 0 0 (As := [.int v4, .int a1]) hC hK hR hS hl.1 (cc_M_isOf l G N _ _ _ _ qv5) km_M_316 ⟨Nat.le_of_ble_eq_true rfl, Nat.le_of_ble_eq_true rfl⟩ ⟨Nat.le_of_ble_eq_true rfl, Nat.le_of_ble_eq_true rfl, Nat.le_of_ble_eq_true rfl, Nat.le_of_ble_eq_true rfl⟩ rfl rfl (Nat.le_of_ble_eq_true rfl) dd_M_best_16 (fun H locs hR hS => ?_)
    refine lv_if_ne (tgt := 44) hx hb dd_M_best_19 (by decide) (fun c6 => ?_) (fun c6 => ?_)
    · have hm := ss_iff hm c6
      exact J_44 h _ _ _ hm hR hS (lv_sub hl [] rfl)
    · have hm := ss_ift hm c6
      refine lv_iload_n hx hb dd_M_best_22 rfl (lv_at hl 2 rfl) ?_
      refine lv_i2l hx hb dd_M_best_23 rfl ?_
      refine lv_lconst (v := 1) hx hb dd_M_best_24 (by decide) ?_
      refine lv_ldc2 (v := 30) hx hb hC.2.2.2.1 (hC.2.2.2.2 _ kl_M_413) dd_M_best_25 ?_
      obtain ⟨v7, qv7, hm⟩ := ss_bind hm
      refine ss_cS 0 0 (As := [.long ((a2).toInt64), .long (1 : Int64), .long (30 : Int64)]) hC hK hR hS hl.1 (cc_M_in l G N _ _ _ _ _ qv7) km_M_124 ⟨Nat.le_of_ble_eq_true rfl, Nat.le_of_ble_eq_true rfl⟩ ⟨Nat.le_of_ble_eq_true rfl, Nat.le_of_ble_eq_true rfl, Nat.le_of_ble_eq_true rfl, Nat.le_of_ble_eq_true rfl⟩ rfl rfl (Nat.le_of_ble_eq_true rfl) dd_M_best_28 (fun H locs hR hS => ?_)
      refine lv_if_eq (tgt := 44) hx hb dd_M_best_31 (by decide) (fun c8 => ?_) (fun c8 => ?_)
      · have hm := ss_ift hm c8
        exact J_44 h _ _ _ hm hR hS (lv_sub hl [] rfl)
      · have hm := ss_iff hm c8
        refine lv_iload_n hx hb dd_M_best_34 rfl (lv_at hl 3 rfl) ?_
        refine lv_i2l hx hb dd_M_best_35 rfl ?_
        refine lv_lconst (v := 0) hx hb dd_M_best_36 (by decide) ?_
        refine lv_lconst (v := 1) hx hb dd_M_best_37 (by decide) ?_
        obtain ⟨v9, qv9, hm⟩ := ss_bind hm
        refine ss_cS 0 0 (As := [.long ((a3).toInt64), .long (0 : Int64), .long (1 : Int64)]) hC hK hR hS hl.1 (cc_M_in l G N _ _ _ _ _ qv9) km_M_124 ⟨Nat.le_of_ble_eq_true rfl, Nat.le_of_ble_eq_true rfl⟩ ⟨Nat.le_of_ble_eq_true rfl, Nat.le_of_ble_eq_true rfl, Nat.le_of_ble_eq_true rfl, Nat.le_of_ble_eq_true rfl⟩ rfl rfl (Nat.le_of_ble_eq_true rfl) dd_M_best_38 (fun H locs hR hS => ?_)
        refine lv_if_ne (tgt := 47) hx hb dd_M_best_41 (by decide) (fun c10 => ?_) (fun c10 => ?_)
        · have hm := ss_iff hm c10
          refine ss_aload_n hx hb dd_M_best_47 rfl (lv_at hl 0 rfl) ?_
          obtain ⟨h11, qh11, hm⟩ := ss_bind hm
          refine ss_cVv 0 0 (As := []) hC hK hR hS hl.1 (cc_M_keeps l G N _ _ _ qh11) km_M_385 (ck_M_keeps qh11) ⟨Nat.le_of_ble_eq_true rfl, Nat.le_of_ble_eq_true rfl⟩ ⟨Nat.le_of_ble_eq_true rfl, Nat.le_of_ble_eq_true rfl, Nat.le_of_ble_eq_true rfl, Nat.le_of_ble_eq_true rfl⟩ rfl rfl (Nat.le_of_ble_eq_true rfl) dd_M_best_48 (fun H locs hR hS => ?_)
          refine lv_iconst (v := -1) hx hb dd_M_best_51 (by decide) ?_
          refine lv_istore (lv' := [(4, .int (-1 : Int32)), (0, ss_v (ss_b G) this), (1, .int a1), (2, .int a2), (3, .int a3)]) hx hb dd_M_best_52 hl (by decide) rfl (fun ls hl => ?_)
          refine ss_aload_n hx hb dd_M_best_54 rfl (lv_at hl 1 rfl) ?_
          refine lv_iload_n hx hb dd_M_best_55 rfl (lv_at hl 3 rfl) ?_
          obtain ⟨v12, h13, qh13, hm⟩ := ss_bind2 hm
          refine ss_cV 0 0 (As := [.int a2]) hC hK hR hS hl.1 (cc_M_closedIn l G N _ _ _ _ _ qh13) km_M_424 (ck_M_closedIn qh13) ⟨Nat.le_of_ble_eq_true rfl, Nat.le_of_ble_eq_true rfl⟩ ⟨Nat.le_of_ble_eq_true rfl, Nat.le_of_ble_eq_true rfl, Nat.le_of_ble_eq_true rfl, Nat.le_of_ble_eq_true rfl⟩ rfl rfl (Nat.le_of_ble_eq_true rfl) dd_M_best_56 (fun H locs hR hS => ?_)
          refine lv_istore (lv' := [(5, .int v12), (4, .int (-1 : Int32)), (0, ss_v (ss_b G) this), (1, .int a1), (2, .int a2), (3, .int a3)]) hx hb dd_M_best_59 hl (by decide) rfl (fun ls hl => ?_)
          refine lv_iconst (v := 0) hx hb dd_M_best_61 (by decide) ?_
          refine lv_istore (lv' := [(6, .int (0 : Int32)), (5, .int v12), (4, .int (-1 : Int32)), (0, ss_v (ss_b G) this), (1, .int a1), (2, .int a2), (3, .int a3)]) hx hb dd_M_best_62 hl (by decide) rfl (fun ls hl => ?_)
          obtain ⟨e_64, he_64, hm⟩ := ss_bind hm
          have X_64_140 : ∀ (y4_64_140 : Int32) (y5_64_140 : Int32) (h_64_140 : ss_Hp) (H : Heap) (locs : List Loc) (ls : Array Slot), e_64 = (y4_64_140, y5_64_140, h_64_140) → ss_R G h_64_140 H → va_S (ss_A G) s.heap H locs → lv_has ls 8 [(3, .int a3), (4, .int y4_64_140), (5, .int y5_64_140)] → ww_M_best p l e s m below meth c G this a1 a2 a3 h rr hh  H locs 0 0 (F0 m 140 ls []) := by
            intro y4_64_140 y5_64_140 h_64_140 H locs ls hq hR hS hl
            rw [hq] at hm
            refine lv_iload_n hx hb dd_M_best_140 rfl (lv_at hl 0 rfl) ?_
            refine lv_if_ne (tgt := 149) hx hb dd_M_best_141 (by decide) (fun c14 => ?_) (fun c14 => ?_)
            · have hm := ss_iff hm c14
              refine lv_iload hx hb dd_M_best_149 (lv_at hl 2 rfl) ?_
              exact J_151 y5_64_140 h_64_140 _ _ _ hm hR hS (lv_sub hl [] rfl)
            · have hm := ss_ift hm c14
              refine lv_iload hx hb dd_M_best_144 (lv_at hl 1 rfl) ?_
              refine lv_goto (tgt := 151) hx hb dd_M_best_146 (by decide) ?_
              exact J_151 y4_64_140 h_64_140 _ _ _ hm hR hS (lv_sub hl [] rfl)
          have L_64 : ∀ (n : Nat) (x4_64 : Int32) (x5_64 : Int32) (x6_64 : Int32) (h_64 : ss_Hp) (H : Heap) (locs : List Loc) (ls : Array Slot), ss_lp (mm_M_best_b64 N this a1 a2 a3) n (x4_64, x5_64, x6_64, h_64) = some e_64 → ss_R G h_64 H → va_S (ss_A G) s.heap H locs → lv_has ls 8 [(0, ss_v (ss_b G) this), (1, .int a1), (2, .int a2), (3, .int a3), (4, .int x4_64), (5, .int x5_64), (6, .int x6_64)] → ww_M_best p l e s m below meth c G this a1 a2 a3 h rr hh  H locs 0 0 (F0 m 64 ls []) := by
            intro n
            induction n with
            | zero => intro x4_64 x5_64 x6_64 h_64 H locs ls hm; cases hm
            | succ n ih_64 =>
              intro x4_64 x5_64 x6_64 h_64 H locs ls hm hR hS hl
              obtain ⟨z_64, hm, hz1_64, hz2_64⟩ := ss_lps hm
              have J_134 : ∀ (x4_134 : Int32) (x5_134 : Int32) (x6_134 : Int32) (h_134 : ss_Hp) (H : Heap) (locs : List Loc) (ls : Array Slot), mm_M_best_j134 N this a1 a2 a3 x4_134 x5_134 x6_134 h_134 = some z_64 → ss_R G h_134 H → va_S (ss_A G) s.heap H locs → lv_has ls 8 [(0, ss_v (ss_b G) this), (1, .int a1), (2, .int a2), (3, .int a3), (4, .int x4_134), (5, .int x5_134), (6, .int x6_134)] → ww_M_best p l e s m below meth c G this a1 a2 a3 h rr hh  H locs 0 0 (F0 m 134 ls []) := by
                intro x4_134 x5_134 x6_134 h_134 H locs ls hm hR hS hl
                obtain ⟨v15, qv15, hm⟩ := ss_bind hm
                refine lv_iinc (v := v15) (lv' := [(6, .int v15), (0, ss_v (ss_b G) this), (1, .int a1), (2, .int a2), (3, .int a3), (4, .int x4_134), (5, .int x5_134)]) hx hb dd_M_best_134 hl (k := 6) rfl (ss_inc (by decide) qv15) (by decide) rfl (fun ls hl => ?_)
                refine lv_goto (tgt := 64) hx hb dd_M_best_137 (by decide) ?_
                exact ih_64 x4_134 x5_134 v15 h_134 _ _ _ (hz1_64 _ (ss_some hm)) hR hS (lv_sub hl [1, 2, 3, 4, 5, 6, 0] rfl)
              refine lv_iload hx hb dd_M_best_64 (lv_at hl 6 rfl) ?_
              refine ss_aload_n hx hb dd_M_best_66 rfl (lv_at hl 0 rfl) ?_
              obtain ⟨r16, qr16, hm⟩ := ss_bind hm
              refine ss_getr hC hK hR kf_M_39 rfl qr16 dd_M_best_67 ?_
              refine lv_iconst (v := 2) hx hb dd_M_best_70 (by decide) ?_
              obtain ⟨v17, qv17, hm⟩ := ss_bind hm
              refine ss_iald hC hK hR qv17 dd_M_best_71 ?_
              refine lv_icmp_ge (tgt := 140) hx hb dd_M_best_72 (by decide) (fun c18 => ?_) (fun c18 => ?_)
              · have hm := ss_ift hm c18
                exact X_64_140 x4_64 x5_64 h_64 _ _ _ (hz2_64 _ (ss_some hm)) hR hS (lv_sub hl [3, 4, 5] rfl)
              · have hm := ss_iff hm c18
                refine ss_aload_n hx hb dd_M_best_75 rfl (lv_at hl 0 rfl) ?_
                refine lv_iload_n hx hb dd_M_best_76 rfl (lv_at hl 1 rfl) ?_
                refine lv_iload hx hb dd_M_best_77 (lv_at hl 6 rfl) ?_
                obtain ⟨v19, qv19, hm⟩ := ss_bind hm
                refine ss_cV 0 0 (As := [.int a1, .int x6_64]) hC hK hR hS hl.1 (cc_M_canSweep l G N _ _ _ _ _ qv19) km_M_375 (ck_M_canSweep qv19) ⟨Nat.le_of_ble_eq_true rfl, Nat.le_of_ble_eq_true rfl⟩ ⟨Nat.le_of_ble_eq_true rfl, Nat.le_of_ble_eq_true rfl, Nat.le_of_ble_eq_true rfl, Nat.le_of_ble_eq_true rfl⟩ rfl rfl (Nat.le_of_ble_eq_true rfl) dd_M_best_79 (fun H locs hR hS => ?_)
                refine lv_if_ne (tgt := 88) hx hb dd_M_best_82 (by decide) (fun c20 => ?_) (fun c20 => ?_)
                · have hm := ss_iff hm c20
                  refine ss_aload_n hx hb dd_M_best_88 rfl (lv_at hl 0 rfl) ?_
                  obtain ⟨r21, qr21, hm⟩ := ss_bind hm
                  refine ss_getr hC hK hR kf_M_39 rfl qr21 dd_M_best_89 ?_
                  refine lv_bipush (v := 13) hx hb dd_M_best_92 (by decide) ?_
                  refine ss_dup2ir hx hb dd_M_best_94 ?_
                  obtain ⟨v22, qv22, hm⟩ := ss_bind hm
                  refine ss_iald hC hK hR qv22 dd_M_best_95 ?_
                  refine lv_iconst (v := 1) hx hb dd_M_best_96 (by decide) ?_
                  refine lv_iload_n hx hb dd_M_best_97 rfl (lv_at hl 1 rfl) ?_
                  refine lv_ishl hx hb dd_M_best_98 ?_
                  refine lv_ior hx hb dd_M_best_99 ?_
                  obtain ⟨h23, qh23, hm⟩ := ss_bind hm
                  refine ss_iast hC hK hR hS qh23 dd_M_best_100 (fun H locs hR hS => ?_)
                  refine ss_aload_n hx hb dd_M_best_101 rfl (lv_at hl 0 rfl) ?_
                  refine lv_iload_n hx hb dd_M_best_102 rfl (lv_at hl 1 rfl) ?_
                  refine lv_iload hx hb dd_M_best_103 (lv_at hl 6 rfl) ?_
                  obtain ⟨v24, h25, qh25, hm⟩ := ss_bind2 hm
                  refine ss_cV 0 0 (As := [.int a1, .int x6_64]) hC hK hR hS hl.1 (cc_M_takes l G N _ _ _ _ _ _ qh25) km_M_359 (ck_M_takes qh25) ⟨Nat.le_of_ble_eq_true rfl, Nat.le_of_ble_eq_true rfl⟩ ⟨Nat.le_of_ble_eq_true rfl, Nat.le_of_ble_eq_true rfl, Nat.le_of_ble_eq_true rfl, Nat.le_of_ble_eq_true rfl⟩ rfl rfl (Nat.le_of_ble_eq_true rfl) dd_M_best_105 (fun H locs hR hS => ?_)
                  refine lv_pop hx hb dd_M_best_108 rfl ?_
                  refine ss_aload_n hx hb dd_M_best_109 rfl (lv_at hl 0 rfl) ?_
                  refine lv_iload_n hx hb dd_M_best_110 rfl (lv_at hl 2 rfl) ?_
                  obtain ⟨v26, h27, qh27, hm⟩ := ss_bind2 hm
                  refine ss_cV 0 0 (As := [.int a2]) hC hK hR hS hl.1 (cc_M_closedIn l G N _ _ _ _ _ qh27) km_M_424 (ck_M_closedIn qh27) ⟨Nat.le_of_ble_eq_true rfl, Nat.le_of_ble_eq_true rfl⟩ ⟨Nat.le_of_ble_eq_true rfl, Nat.le_of_ble_eq_true rfl, Nat.le_of_ble_eq_true rfl, Nat.le_of_ble_eq_true rfl⟩ rfl rfl (Nat.le_of_ble_eq_true rfl) dd_M_best_111 (fun H locs hR hS => ?_)
                  refine lv_istore (lv' := [(7, .int v26), (0, ss_v (ss_b G) this), (1, .int a1), (2, .int a2), (3, .int a3), (4, .int x4_64), (5, .int x5_64), (6, .int x6_64)]) hx hb dd_M_best_114 hl (by decide) rfl (fun ls hl => ?_)
                  refine lv_iload hx hb dd_M_best_116 (lv_at hl 0 rfl) ?_
                  refine lv_iload hx hb dd_M_best_118 (lv_at hl 6 rfl) ?_
                  refine lv_icmp_lt (tgt := 126) hx hb dd_M_best_120 (by decide) (fun c28 => ?_) (fun c28 => ?_)
                  · have hm := ss_ift hm c28
                    refine lv_iload hx hb dd_M_best_126 (lv_at hl 7 rfl) ?_
                    refine lv_istore (lv' := [(4, .int x6_64), (7, .int v26), (0, ss_v (ss_b G) this), (1, .int a1), (2, .int a2), (3, .int a3), (5, .int x5_64), (6, .int x6_64)]) hx hb dd_M_best_128 hl (by decide) rfl (fun ls hl => ?_)
                    refine lv_iload hx hb dd_M_best_130 (lv_at hl 1 rfl) ?_
                    refine lv_istore (lv' := [(5, .int v26), (4, .int x6_64), (7, .int v26), (0, ss_v (ss_b G) this), (1, .int a1), (2, .int a2), (3, .int a3), (6, .int x6_64)]) hx hb dd_M_best_132 hl (by decide) rfl (fun ls hl => ?_)
                    exact J_134 x6_64 v26 x6_64 h27 _ _ _ hm hR hS (lv_sub hl [3, 4, 5, 6, 1, 0, 7] rfl)
                  · have hm := ss_iff hm c28
                    refine lv_goto (tgt := 134) hx hb dd_M_best_123 (by decide) ?_
                    exact J_134 x4_64 x5_64 x6_64 h27 _ _ _ hm hR hS (lv_sub hl [1, 2, 3, 4, 5, 6, 7] rfl)
                · have hm := ss_ift hm c20
                  refine lv_goto (tgt := 134) hx hb dd_M_best_85 (by decide) ?_
                  exact J_134 x4_64 x5_64 x6_64 h_64 _ _ _ hm hR hS hl
          exact L_64 N (-1 : Int32) v12 (0 : Int32) h13 _ _ _ he_64 hR hS (lv_sub hl [3, 4, 5, 6, 2, 1, 0] rfl)
        · have hm := ss_ift hm c10
          exact J_44 h _ _ _ hm hR hS (lv_sub hl [] rfl)
theorem dd_M_staysOpen_0 : decode bb_M_staysOpen 0 = .ok (.iconst 1, 1) := by decide +kernel
theorem dd_M_staysOpen_1 : decode bb_M_staysOpen 1 = .ok (.istore_n 3, 1) := by decide +kernel
theorem dd_M_staysOpen_2 : decode bb_M_staysOpen 2 = .ok (.iconst 0, 1) := by decide +kernel
theorem dd_M_staysOpen_3 : decode bb_M_staysOpen 3 = .ok (.istore 4, 2) := by decide +kernel
theorem dd_M_staysOpen_5 : decode bb_M_staysOpen 5 = .ok (.iload 4, 2) := by decide +kernel
theorem dd_M_staysOpen_7 : decode bb_M_staysOpen 7 = .ok (.iload_n 2, 1) := by decide +kernel
theorem dd_M_staysOpen_8 : decode bb_M_staysOpen 8 = .ok (.if_icmp .ge 32, 3) := by decide +kernel
theorem dd_M_staysOpen_11 : decode bb_M_staysOpen 11 = .ok (.iload_n 3, 1) := by decide +kernel
theorem dd_M_staysOpen_12 : decode bb_M_staysOpen 12 = .ok (.ifCond .eq 28, 3) := by decide +kernel
theorem dd_M_staysOpen_15 : decode bb_M_staysOpen 15 = .ok (.aload_n 0, 1) := by decide +kernel
theorem dd_M_staysOpen_16 : decode bb_M_staysOpen 16 = .ok (.invokevirtual 372, 3) := by decide +kernel
theorem dd_M_staysOpen_19 : decode bb_M_staysOpen 19 = .ok (.pop, 1) := by decide +kernel
theorem dd_M_staysOpen_20 : decode bb_M_staysOpen 20 = .ok (.aload_n 0, 1) := by decide +kernel
theorem dd_M_staysOpen_21 : decode bb_M_staysOpen 21 = .ok (.iload_n 1, 1) := by decide +kernel
theorem dd_M_staysOpen_22 : decode bb_M_staysOpen 22 = .ok (.invokevirtual 307, 3) := by decide +kernel
theorem dd_M_staysOpen_25 : decode bb_M_staysOpen 25 = .ok (.ifCond .ne 7, 3) := by decide +kernel
theorem dd_M_staysOpen_28 : decode bb_M_staysOpen 28 = .ok (.iconst 1, 1) := by decide +kernel
theorem dd_M_staysOpen_29 : decode bb_M_staysOpen 29 = .ok (.goto 4, 3) := by decide +kernel
theorem dd_M_staysOpen_32 : decode bb_M_staysOpen 32 = .ok (.iconst 0, 1) := by decide +kernel
theorem dd_M_staysOpen_33 : decode bb_M_staysOpen 33 = .ok (.istore_n 3, 1) := by decide +kernel
theorem dd_M_staysOpen_34 : decode bb_M_staysOpen 34 = .ok (.iinc 4 1, 3) := by decide +kernel
theorem dd_M_staysOpen_37 : decode bb_M_staysOpen 37 = .ok (.goto (-32), 3) := by decide +kernel
theorem dd_M_staysOpen_40 : decode bb_M_staysOpen 40 = .ok (.aload_n 0, 1) := by decide +kernel
theorem dd_M_staysOpen_41 : decode bb_M_staysOpen 41 = .ok (.invokevirtual 388, 3) := by decide +kernel
theorem dd_M_staysOpen_44 : decode bb_M_staysOpen 44 = .ok (.iload_n 3, 1) := by decide +kernel
theorem dd_M_staysOpen_45 : decode bb_M_staysOpen 45 = .ok (.ireturn, 1) := by decide +kernel
def mm_M_staysOpen_j33 (N : Nat) (this : Option Nat) (a1 : Int32) (a2 : Int32) (x4_33 : Int32) (s0_33 : Int32) (h_33 : ss_Hp) : Option ((Int32 × Int32 × ss_Hp) ⊕ (Int32 × ss_Hp)) :=
  (some (x4_33 + (1 : Int32))).bind fun v3 =>
  some (.inl (s0_33, v3, h_33))
def mm_M_staysOpen_b5 (N : Nat) (this : Option Nat) (a1 : Int32) (a2 : Int32) (st : Int32 × Int32 × ss_Hp) : Option ((Int32 × Int32 × ss_Hp) ⊕ (Int32 × ss_Hp)) :=
  match st with
  | (x3_5, x4_5, h_5) =>
    if a2 ≤ x4_5 then
      some (.inr (x3_5, h_5))
    else
      if x3_5 = 0 then
        some (.inr (x3_5, h_5))
      else
        ss_b2 (mm_M_passes N this h_5) fun v6 h7 =>
        (mm_M_isClosed N this a1 h7).bind fun v8 =>
        if v8 = 0 then
          mm_M_staysOpen_j33 N this a1 a2 x4_5 (1 : Int32) h7
        else
          mm_M_staysOpen_j33 N this a1 a2 x4_5 (0 : Int32) h7
def mm_M_staysOpen (N : Nat) (this : Option Nat) (a1 : Int32) (a2 : Int32) (h : ss_Hp) : Option (Int32 × ss_Hp) :=
  if ss_is h this 12 = true then
    (ss_lp (mm_M_staysOpen_b5 N this a1 a2) N ((1 : Int32), (0 : Int32), h)).bind fun e_5 =>
    match e_5 with
    | (y3_5_40, h_5_40) =>
      (mm_M_laysBack N this h_5_40).bind fun h1 =>
      (ss_bz y3_5_40).bind fun v2 =>
      some (v2, h1)
  else none
abbrev ww_M_staysOpen (p : Program) (l : Launch) (e : Env) (s : State) (m : MethodId) (below : List Frame) (meth : Method) (c : Code) (G : ss_G) (this : Option Nat) (a1 : Int32) (a2 : Int32) (h : ss_Hp) (rr : Int32) (hh : ss_Hp) (H : Heap) (locs : List Loc) (k n : Nat) (g : JFrame) : Prop := W p l e (headSpec (ss_w yy_M_staysOpen bb_M_staysOpen 5 (some .boolean)) ({ frames := 5, cells := 0, slots := 0, locals := 126 })).room s m ([ss_v (ss_b G) this, .int a1, .int a2] : List Value).toArray below meth c H locs k n (MQ below (ss_Qc G (some (.int rr)) hh) ([ss_v (ss_b G) this, .int a1, .int a2] : List Value).toArray s 0 0 (ss_A G)) g
theorem ck_M_staysOpen {N : Nat} {this : Option Nat} {a1 : Int32} {a2 : Int32} {h : ss_Hp} {res : Int32 × ss_Hp} (hm : mm_M_staysOpen N this a1 a2 h = some res) : ss_is h this 12 = true := (ss_chk hm).1
set_option maxHeartbeats 4000000 in
set_option maxRecDepth 100000 in
theorem cc_M_staysOpen (l : Launch) (G : ss_G) (N : Nat) (this : Option Nat) (a1 : Int32) (a2 : Int32) (h : ss_Hp) (rr : Int32) (hh : ss_Hp) (hm : mm_M_staysOpen N this a1 a2 h = some (rr, hh)) : ss_Ct l G yy_M_staysOpen bb_M_staysOpen 5 (some .boolean) ({ frames := 5, cells := 0, slots := 0, locals := 126 }) [ss_v (ss_b G) this, .int a1, .int a2] h (some (.int rr)) hh := by
  obtain ⟨hck, hm⟩ := ss_chk hm
  refine Met.ofW (cc := bb_M_staysOpen) (maxL := 5) (ret := (some .boolean)) (by decide) rfl ?_
  intro p e s m args below meth c s₁ B hml hv
  obtain ⟨rfl, hR, hK⟩ := hv
  have hC : CallFix p m c bb_M_staysOpen 5 s _ lw_g sR_12 := ⟨B.exec, B.bytes, hml, findClass_of_methodNamed B.named, fun w hw => atoms_spec (ws := ss_w yy_M_staysOpen bb_M_staysOpen 5 (some .boolean)) B.pre w (List.mem_cons_of_mem _ hw)⟩
  have hx := hC.1
  have hb := hC.2.1
  have hr := B.returns
  have hlocks := B.notSynchronized
  have hS : va_S (ss_A G) s.heap s.heap [] := va_S.rf
  have hl := lv_entry ([ss_v (ss_b G) this, .int a1, .int a2]) (n := 5) (by simp [lg_sl, ss_v_cat, ss_cat_i, ss_cat_l, ss_cat_r])
  rw [lg_entry_eq]
  generalize (lg_sl ([ss_v (ss_b G) this, .int a1, .int a2]) ++ List.replicate (5 - (lg_sl ([ss_v (ss_b G) this, .int a1, .int a2])).length) Slot.unset).toArray = ls at hl ⊢
  have hl : lv_has ls 5 [(0, ss_v (ss_b G) this), (1, .int a1), (2, .int a2)] := by simpa [lv_args, ss_v_cat, ss_cat_i, ss_cat_l, ss_cat_r] using hl
  refine lv_iconst (v := 1) hx hb dd_M_staysOpen_0 (by decide) ?_
  refine lv_istore_n (lv' := [(3, .int (1 : Int32)), (0, ss_v (ss_b G) this), (1, .int a1), (2, .int a2)]) hx hb dd_M_staysOpen_1 rfl hl (by decide) rfl (fun ls hl => ?_)
  refine lv_iconst (v := 0) hx hb dd_M_staysOpen_2 (by decide) ?_
  refine lv_istore (lv' := [(4, .int (0 : Int32)), (3, .int (1 : Int32)), (0, ss_v (ss_b G) this), (1, .int a1), (2, .int a2)]) hx hb dd_M_staysOpen_3 hl (by decide) rfl (fun ls hl => ?_)
  obtain ⟨e_5, he_5, hm⟩ := ss_bind hm
  have X_5_40 : ∀ (y3_5_40 : Int32) (h_5_40 : ss_Hp) (H : Heap) (locs : List Loc) (ls : Array Slot), e_5 = (y3_5_40, h_5_40) → ss_R G h_5_40 H → va_S (ss_A G) s.heap H locs → lv_has ls 5 [(0, ss_v (ss_b G) this), (3, .int y3_5_40)] → ww_M_staysOpen p l e s m below meth c G this a1 a2 h rr hh  H locs 0 0 (F0 m 40 ls []) := by
    intro y3_5_40 h_5_40 H locs ls hq hR hS hl
    rw [hq] at hm
    refine ss_aload_n hx hb dd_M_staysOpen_40 rfl (lv_at hl 0 rfl) ?_
    obtain ⟨h1, qh1, hm⟩ := ss_bind hm
    refine ss_cVv 0 0 (As := []) hC hK hR hS hl.1 (cc_M_laysBack l G N _ _ _ qh1) km_M_388 (ck_M_laysBack qh1) ⟨Nat.le_of_ble_eq_true rfl, Nat.le_of_ble_eq_true rfl⟩ ⟨Nat.le_of_ble_eq_true rfl, Nat.le_of_ble_eq_true rfl, Nat.le_of_ble_eq_true rfl, Nat.le_of_ble_eq_true rfl⟩ rfl rfl (Nat.le_of_ble_eq_true rfl) dd_M_staysOpen_41 (fun H locs hR hS => ?_)
    refine lv_iload_n hx hb dd_M_staysOpen_44 rfl (lv_at hl 1 rfl) ?_
    obtain ⟨v2, qv2, hm⟩ := ss_bind hm
    obtain ⟨hnb, rfl⟩ := ss_bzs qv2
    exact ss_zret hC hr hnb hlocks hR hS hm dd_M_staysOpen_45
  have L_5 : ∀ (n : Nat) (x3_5 : Int32) (x4_5 : Int32) (h_5 : ss_Hp) (H : Heap) (locs : List Loc) (ls : Array Slot), ss_lp (mm_M_staysOpen_b5 N this a1 a2) n (x3_5, x4_5, h_5) = some e_5 → ss_R G h_5 H → va_S (ss_A G) s.heap H locs → lv_has ls 5 [(0, ss_v (ss_b G) this), (1, .int a1), (2, .int a2), (3, .int x3_5), (4, .int x4_5)] → ww_M_staysOpen p l e s m below meth c G this a1 a2 h rr hh  H locs 0 0 (F0 m 5 ls []) := by
    intro n
    induction n with
    | zero => intro x3_5 x4_5 h_5 H locs ls hm; cases hm
    | succ n ih_5 =>
      intro x3_5 x4_5 h_5 H locs ls hm hR hS hl
      obtain ⟨z_5, hm, hz1_5, hz2_5⟩ := ss_lps hm
      have J_33 : ∀ (x4_33 : Int32) (s0_33 : Int32) (h_33 : ss_Hp) (H : Heap) (locs : List Loc) (ls : Array Slot), mm_M_staysOpen_j33 N this a1 a2 x4_33 s0_33 h_33 = some z_5 → ss_R G h_33 H → va_S (ss_A G) s.heap H locs → lv_has ls 5 [(0, ss_v (ss_b G) this), (1, .int a1), (2, .int a2), (4, .int x4_33)] → ww_M_staysOpen p l e s m below meth c G this a1 a2 h rr hh  H locs 0 0 (F0 m 33 ls [.int s0_33]) := by
        intro x4_33 s0_33 h_33 H locs ls hm hR hS hl
        refine lv_istore_n (lv' := [(3, .int s0_33), (0, ss_v (ss_b G) this), (1, .int a1), (2, .int a2), (4, .int x4_33)]) hx hb dd_M_staysOpen_33 rfl hl (by decide) rfl (fun ls hl => ?_)
        obtain ⟨v3, qv3, hm⟩ := ss_bind hm
        refine lv_iinc (v := v3) (lv' := [(4, .int v3), (3, .int s0_33), (0, ss_v (ss_b G) this), (1, .int a1), (2, .int a2)]) hx hb dd_M_staysOpen_34 hl (k := 4) rfl (ss_inc (by decide) qv3) (by decide) rfl (fun ls hl => ?_)
        refine lv_goto (tgt := 5) hx hb dd_M_staysOpen_37 (by decide) ?_
        exact ih_5 s0_33 v3 h_33 _ _ _ (hz1_5 _ (ss_some hm)) hR hS (lv_sub hl [2, 3, 4, 1, 0] rfl)
      refine lv_iload hx hb dd_M_staysOpen_5 (lv_at hl 4 rfl) ?_
      refine lv_iload_n hx hb dd_M_staysOpen_7 rfl (lv_at hl 2 rfl) ?_
      refine lv_icmp_ge (tgt := 40) hx hb dd_M_staysOpen_8 (by decide) (fun c4 => ?_) (fun c4 => ?_)
      · have hm := ss_ift hm c4
        exact X_5_40 x3_5 h_5 _ _ _ (hz2_5 _ (ss_some hm)) hR hS (lv_sub hl [0, 3] rfl)
      · have hm := ss_iff hm c4
        refine lv_iload_n hx hb dd_M_staysOpen_11 rfl (lv_at hl 3 rfl) ?_
        refine lv_if_eq (tgt := 40) hx hb dd_M_staysOpen_12 (by decide) (fun c5 => ?_) (fun c5 => ?_)
        · have hm := ss_ift hm c5
          exact X_5_40 x3_5 h_5 _ _ _ (hz2_5 _ (ss_some hm)) hR hS (lv_sub hl [0, 3] rfl)
        · have hm := ss_iff hm c5
          refine ss_aload_n hx hb dd_M_staysOpen_15 rfl (lv_at hl 0 rfl) ?_
          obtain ⟨v6, h7, qh7, hm⟩ := ss_bind2 hm
          refine ss_cV 0 0 (As := []) hC hK hR hS hl.1 (cc_M_passes l G N _ _ _ _ qh7) km_M_372 (ck_M_passes qh7) ⟨Nat.le_of_ble_eq_true rfl, Nat.le_of_ble_eq_true rfl⟩ ⟨Nat.le_of_ble_eq_true rfl, Nat.le_of_ble_eq_true rfl, Nat.le_of_ble_eq_true rfl, Nat.le_of_ble_eq_true rfl⟩ rfl rfl (Nat.le_of_ble_eq_true rfl) dd_M_staysOpen_16 (fun H locs hR hS => ?_)
          refine lv_pop hx hb dd_M_staysOpen_19 rfl ?_
          refine ss_aload_n hx hb dd_M_staysOpen_20 rfl (lv_at hl 0 rfl) ?_
          refine lv_iload_n hx hb dd_M_staysOpen_21 rfl (lv_at hl 1 rfl) ?_
          obtain ⟨v8, qv8, hm⟩ := ss_bind hm
          refine ss_cV 0 0 (As := [.int a1]) hC hK hR hS hl.1 (cc_M_isClosed l G N _ _ _ _ qv8) km_M_307 (ck_M_isClosed qv8) ⟨Nat.le_of_ble_eq_true rfl, Nat.le_of_ble_eq_true rfl⟩ ⟨Nat.le_of_ble_eq_true rfl, Nat.le_of_ble_eq_true rfl, Nat.le_of_ble_eq_true rfl, Nat.le_of_ble_eq_true rfl⟩ rfl rfl (Nat.le_of_ble_eq_true rfl) dd_M_staysOpen_22 (fun H locs hR hS => ?_)
          refine lv_if_ne (tgt := 32) hx hb dd_M_staysOpen_25 (by decide) (fun c9 => ?_) (fun c9 => ?_)
          · have hm := ss_iff hm c9
            refine lv_iconst (v := 0) hx hb dd_M_staysOpen_32 (by decide) ?_
            exact J_33 x4_5 (0 : Int32) h7 _ _ _ hm hR hS (lv_sub hl [0, 1, 2, 4] rfl)
          · have hm := ss_ift hm c9
            refine lv_iconst (v := 1) hx hb dd_M_staysOpen_28 (by decide) ?_
            refine lv_goto (tgt := 33) hx hb dd_M_staysOpen_29 (by decide) ?_
            exact J_33 x4_5 (1 : Int32) h7 _ _ _ hm hR hS (lv_sub hl [0, 1, 2, 4] rfl)
  exact L_5 N (1 : Int32) (0 : Int32) h _ _ _ he_5 hR hS (lv_sub hl [2, 3, 4, 1, 0] rfl)
theorem dd_M_might_0 : decode bb_M_might 0 = .ok (.aload_n 0, 1) := by decide +kernel
theorem dd_M_might_1 : decode bb_M_might 1 = .ok (.iload_n 1, 1) := by decide +kernel
theorem dd_M_might_2 : decode bb_M_might 2 = .ok (.invokevirtual 322, 3) := by decide +kernel
theorem dd_M_might_5 : decode bb_M_might 5 = .ok (.ifCond .eq 15, 3) := by decide +kernel
theorem dd_M_might_8 : decode bb_M_might 8 = .ok (.iload_n 2, 1) := by decide +kernel
theorem dd_M_might_9 : decode bb_M_might 9 = .ok (.i2l, 1) := by decide +kernel
theorem dd_M_might_10 : decode bb_M_might 10 = .ok (.lconst 1, 1) := by decide +kernel
theorem dd_M_might_11 : decode bb_M_might 11 = .ok (.ldc2_w 413, 3) := by decide +kernel
theorem dd_M_might_14 : decode bb_M_might 14 = .ok (.invokestatic 124, 3) := by decide +kernel
theorem dd_M_might_17 : decode bb_M_might 17 = .ok (.ifCond .ne 5, 3) := by decide +kernel
theorem dd_M_might_20 : decode bb_M_might 20 = .ok (.iconst (-1), 1) := by decide +kernel
theorem dd_M_might_21 : decode bb_M_might 21 = .ok (.ireturn, 1) := by decide +kernel
theorem dd_M_might_22 : decode bb_M_might 22 = .ok (.aload_n 0, 1) := by decide +kernel
theorem dd_M_might_23 : decode bb_M_might 23 = .ok (.iload_n 1, 1) := by decide +kernel
theorem dd_M_might_24 : decode bb_M_might 24 = .ok (.invokevirtual 330, 3) := by decide +kernel
theorem dd_M_might_27 : decode bb_M_might 27 = .ok (.istore_n 3, 1) := by decide +kernel
theorem dd_M_might_28 : decode bb_M_might 28 = .ok (.bipush (-2), 2) := by decide +kernel
theorem dd_M_might_30 : decode bb_M_might 30 = .ok (.istore 4, 2) := by decide +kernel
theorem dd_M_might_32 : decode bb_M_might 32 = .ok (.aload_n 0, 1) := by decide +kernel
theorem dd_M_might_33 : decode bb_M_might 33 = .ok (.invokevirtual 385, 3) := by decide +kernel
theorem dd_M_might_36 : decode bb_M_might 36 = .ok (.iconst 1, 1) := by decide +kernel
theorem dd_M_might_37 : decode bb_M_might 37 = .ok (.istore 5, 2) := by decide +kernel
theorem dd_M_might_39 : decode bb_M_might 39 = .ok (.iload 5, 2) := by decide +kernel
theorem dd_M_might_41 : decode bb_M_might 41 = .ok (.bipush 99, 2) := by decide +kernel
theorem dd_M_might_43 : decode bb_M_might 43 = .ok (.if_icmp .gt 46, 3) := by decide +kernel
theorem dd_M_might_46 : decode bb_M_might 46 = .ok (.iload 4, 2) := by decide +kernel
theorem dd_M_might_48 : decode bb_M_might 48 = .ok (.ifCond .ge 41, 3) := by decide +kernel
theorem dd_M_might_51 : decode bb_M_might 51 = .ok (.aload_n 0, 1) := by decide +kernel
theorem dd_M_might_52 : decode bb_M_might 52 = .ok (.getfield 39, 3) := by decide +kernel
theorem dd_M_might_55 : decode bb_M_might 55 = .ok (.bipush 38, 2) := by decide +kernel
theorem dd_M_might_57 : decode bb_M_might 57 = .ok (.iconst 2, 1) := by decide +kernel
theorem dd_M_might_58 : decode bb_M_might 58 = .ok (.iload_n 1, 1) := by decide +kernel
theorem dd_M_might_59 : decode bb_M_might 59 = .ok (.imul, 1) := by decide +kernel
theorem dd_M_might_60 : decode bb_M_might 60 = .ok (.iadd, 1) := by decide +kernel
theorem dd_M_might_61 : decode bb_M_might 61 = .ok (.iconst 1, 1) := by decide +kernel
theorem dd_M_might_62 : decode bb_M_might 62 = .ok (.iadd, 1) := by decide +kernel
theorem dd_M_might_63 : decode bb_M_might 63 = .ok (.iload 5, 2) := by decide +kernel
theorem dd_M_might_65 : decode bb_M_might 65 = .ok (.iastore, 1) := by decide +kernel
theorem dd_M_might_66 : decode bb_M_might 66 = .ok (.aload_n 0, 1) := by decide +kernel
theorem dd_M_might_67 : decode bb_M_might 67 = .ok (.aload_n 0, 1) := by decide +kernel
theorem dd_M_might_68 : decode bb_M_might 68 = .ok (.iload_n 1, 1) := by decide +kernel
theorem dd_M_might_69 : decode bb_M_might 69 = .ok (.invokevirtual 327, 3) := by decide +kernel
theorem dd_M_might_72 : decode bb_M_might 72 = .ok (.iload_n 2, 1) := by decide +kernel
theorem dd_M_might_73 : decode bb_M_might 73 = .ok (.invokevirtual 427, 3) := by decide +kernel
theorem dd_M_might_76 : decode bb_M_might 76 = .ok (.ifCond .eq 7, 3) := by decide +kernel
theorem dd_M_might_79 : decode bb_M_might 79 = .ok (.iload 5, 2) := by decide +kernel
theorem dd_M_might_81 : decode bb_M_might 81 = .ok (.istore 4, 2) := by decide +kernel
theorem dd_M_might_83 : decode bb_M_might 83 = .ok (.iinc 5 1, 3) := by decide +kernel
theorem dd_M_might_86 : decode bb_M_might 86 = .ok (.goto (-47), 3) := by decide +kernel
theorem dd_M_might_89 : decode bb_M_might 89 = .ok (.aload_n 0, 1) := by decide +kernel
theorem dd_M_might_90 : decode bb_M_might 90 = .ok (.getfield 39, 3) := by decide +kernel
theorem dd_M_might_93 : decode bb_M_might 93 = .ok (.bipush 38, 2) := by decide +kernel
theorem dd_M_might_95 : decode bb_M_might 95 = .ok (.iconst 2, 1) := by decide +kernel
theorem dd_M_might_96 : decode bb_M_might 96 = .ok (.iload_n 1, 1) := by decide +kernel
theorem dd_M_might_97 : decode bb_M_might 97 = .ok (.imul, 1) := by decide +kernel
theorem dd_M_might_98 : decode bb_M_might 98 = .ok (.iadd, 1) := by decide +kernel
theorem dd_M_might_99 : decode bb_M_might 99 = .ok (.iconst 1, 1) := by decide +kernel
theorem dd_M_might_100 : decode bb_M_might 100 = .ok (.iadd, 1) := by decide +kernel
theorem dd_M_might_101 : decode bb_M_might 101 = .ok (.iload_n 3, 1) := by decide +kernel
theorem dd_M_might_102 : decode bb_M_might 102 = .ok (.iastore, 1) := by decide +kernel
theorem dd_M_might_103 : decode bb_M_might 103 = .ok (.iload 4, 2) := by decide +kernel
theorem dd_M_might_105 : decode bb_M_might 105 = .ok (.ireturn, 1) := by decide +kernel
def mm_M_might_j20 (N : Nat) (this : Option Nat) (a1 : Int32) (a2 : Int32) (h_20 : ss_Hp) : Option (Int32 × ss_Hp) :=
  some ((-1 : Int32), h_20)
def mm_M_might_j83 (N : Nat) (this : Option Nat) (a1 : Int32) (a2 : Int32) (v5 : Int32) (x4_83 : Int32) (x5_83 : Int32) (h_83 : ss_Hp) : Option ((Int32 × Int32 × ss_Hp) ⊕ (Int32 × ss_Hp)) :=
  (some (x5_83 + (1 : Int32))).bind fun v9 =>
  some (.inl (x4_83, v9, h_83))
def mm_M_might_b39 (N : Nat) (this : Option Nat) (a1 : Int32) (a2 : Int32) (v5 : Int32) (st : Int32 × Int32 × ss_Hp) : Option ((Int32 × Int32 × ss_Hp) ⊕ (Int32 × ss_Hp)) :=
  match st with
  | (x4_39, x5_39, h_39) =>
    if (99 : Int32) < x5_39 then
      some (.inr (x4_39, h_39))
    else
      if 0 ≤ x4_39 then
        some (.inr (x4_39, h_39))
      else
        (ss_gr h_39 this 12 9).bind fun r12 =>
        (ss_ui h_39 r12 20 (((38 : Int32) + ((2 : Int32) * a1)) + (1 : Int32)) x5_39).bind fun h13 =>
        (mm_M_ownOf N this a1 h13).bind fun v14 =>
        ss_b2 (mm_M_staysOpen N this v14 a2 h13) fun v15 h16 =>
        if v15 = 0 then
          mm_M_might_j83 N this a1 a2 v5 x4_39 x5_39 h16
        else
          mm_M_might_j83 N this a1 a2 v5 x5_39 x5_39 h16
def mm_M_might (N : Nat) (this : Option Nat) (a1 : Int32) (a2 : Int32) (h : ss_Hp) : Option (Int32 × ss_Hp) :=
  if ss_is h this 12 = true then
    (mm_M_isHouse N this a1 h).bind fun v1 =>
    if v1 = 0 then
      mm_M_might_j20 N this a1 a2 h
    else
      (mm_M_in N ((a2).toInt64) (1 : Int64) (30 : Int64)).bind fun v3 =>
      if v3 = 0 then
        mm_M_might_j20 N this a1 a2 h
      else
        (mm_M_strengthOf N this a1 h).bind fun v5 =>
        (mm_M_keeps N this h).bind fun h6 =>
        (ss_lp (mm_M_might_b39 N this a1 a2 v5) N ((-2 : Int32), (1 : Int32), h6)).bind fun e_39 =>
        match e_39 with
        | (y4_39_89, h_39_89) =>
          (ss_gr h_39_89 this 12 9).bind fun r7 =>
          (ss_ui h_39_89 r7 20 (((38 : Int32) + ((2 : Int32) * a1)) + (1 : Int32)) v5).bind fun h8 =>
          some (y4_39_89, h8)
  else none
abbrev ww_M_might (p : Program) (l : Launch) (e : Env) (s : State) (m : MethodId) (below : List Frame) (meth : Method) (c : Code) (G : ss_G) (this : Option Nat) (a1 : Int32) (a2 : Int32) (h : ss_Hp) (rr : Int32) (hh : ss_Hp) (H : Heap) (locs : List Loc) (k n : Nat) (g : JFrame) : Prop := W p l e (headSpec (ss_w yy_M_might bb_M_might 6 (some (.int))) ({ frames := 6, cells := 0, slots := 0, locals := 150 })).room s m ([ss_v (ss_b G) this, .int a1, .int a2] : List Value).toArray below meth c H locs k n (MQ below (ss_Qc G (some (.int rr)) hh) ([ss_v (ss_b G) this, .int a1, .int a2] : List Value).toArray s 0 0 (ss_A G)) g
theorem ck_M_might {N : Nat} {this : Option Nat} {a1 : Int32} {a2 : Int32} {h : ss_Hp} {res : Int32 × ss_Hp} (hm : mm_M_might N this a1 a2 h = some res) : ss_is h this 12 = true := (ss_chk hm).1
set_option maxHeartbeats 4000000 in
set_option maxRecDepth 100000 in
theorem cc_M_might (l : Launch) (G : ss_G) (N : Nat) (this : Option Nat) (a1 : Int32) (a2 : Int32) (h : ss_Hp) (rr : Int32) (hh : ss_Hp) (hm : mm_M_might N this a1 a2 h = some (rr, hh)) : ss_Ct l G yy_M_might bb_M_might 6 (some (.int)) ({ frames := 6, cells := 0, slots := 0, locals := 150 }) [ss_v (ss_b G) this, .int a1, .int a2] h (some (.int rr)) hh := by
  obtain ⟨hck, hm⟩ := ss_chk hm
  refine Met.ofW (cc := bb_M_might) (maxL := 6) (ret := (some (.int))) (by decide) rfl ?_
  intro p e s m args below meth c s₁ B hml hv
  obtain ⟨rfl, hR, hK⟩ := hv
  have hC : CallFix p m c bb_M_might 6 s _ lw_g sR_12 := ⟨B.exec, B.bytes, hml, findClass_of_methodNamed B.named, fun w hw => atoms_spec (ws := ss_w yy_M_might bb_M_might 6 (some (.int))) B.pre w (List.mem_cons_of_mem _ hw)⟩
  have hx := hC.1
  have hb := hC.2.1
  have hr := B.returns
  have hlocks := B.notSynchronized
  have hS : va_S (ss_A G) s.heap s.heap [] := va_S.rf
  have hl := lv_entry ([ss_v (ss_b G) this, .int a1, .int a2]) (n := 6) (by simp [lg_sl, ss_v_cat, ss_cat_i, ss_cat_l, ss_cat_r])
  rw [lg_entry_eq]
  generalize (lg_sl ([ss_v (ss_b G) this, .int a1, .int a2]) ++ List.replicate (6 - (lg_sl ([ss_v (ss_b G) this, .int a1, .int a2])).length) Slot.unset).toArray = ls at hl ⊢
  have hl : lv_has ls 6 [(0, ss_v (ss_b G) this), (1, .int a1), (2, .int a2)] := by simpa [lv_args, ss_v_cat, ss_cat_i, ss_cat_l, ss_cat_r] using hl
  have J_20 : ∀ (h_20 : ss_Hp) (H : Heap) (locs : List Loc) (ls : Array Slot), mm_M_might_j20 N this a1 a2 h_20 = some (rr, hh) → ss_R G h_20 H → va_S (ss_A G) s.heap H locs → lv_has ls 6 [] → ww_M_might p l e s m below meth c G this a1 a2 h rr hh  H locs 0 0 (F0 m 20 ls []) := by
    intro h_20 H locs ls hm hR hS hl
    refine lv_iconst (v := -1) hx hb dd_M_might_20 (by decide) ?_
    exact ss_iret hC hr hlocks hR hS hm dd_M_might_21
  refine ss_aload_n hx hb dd_M_might_0 rfl (lv_at hl 0 rfl) ?_
  refine lv_iload_n hx hb dd_M_might_1 rfl (lv_at hl 1 rfl) ?_
  obtain ⟨v1, qv1, hm⟩ := ss_bind hm
  refine ss_cV 0 0 (As := [.int a1]) hC hK hR hS hl.1 (cc_M_isHouse l G N _ _ _ _ qv1) km_M_322 (ck_M_isHouse qv1) ⟨Nat.le_of_ble_eq_true rfl, Nat.le_of_ble_eq_true rfl⟩ ⟨Nat.le_of_ble_eq_true rfl, Nat.le_of_ble_eq_true rfl, Nat.le_of_ble_eq_true rfl, Nat.le_of_ble_eq_true rfl⟩ rfl rfl (Nat.le_of_ble_eq_true rfl) dd_M_might_2 (fun H locs hR hS => ?_)
  refine lv_if_eq (tgt := 20) hx hb dd_M_might_5 (by decide) (fun c2 => ?_) (fun c2 => ?_)
  · have hm := ss_ift hm c2
    exact J_20 h _ _ _ hm hR hS (lv_sub hl [] rfl)
  · have hm := ss_iff hm c2
    refine lv_iload_n hx hb dd_M_might_8 rfl (lv_at hl 2 rfl) ?_
    refine lv_i2l hx hb dd_M_might_9 rfl ?_
    refine lv_lconst (v := 1) hx hb dd_M_might_10 (by decide) ?_
    refine lv_ldc2 (v := 30) hx hb hC.2.2.2.1 (hC.2.2.2.2 _ kl_M_413) dd_M_might_11 ?_
    obtain ⟨v3, qv3, hm⟩ := ss_bind hm
    refine ss_cS 0 0 (As := [.long ((a2).toInt64), .long (1 : Int64), .long (30 : Int64)]) hC hK hR hS hl.1 (cc_M_in l G N _ _ _ _ _ qv3) km_M_124 ⟨Nat.le_of_ble_eq_true rfl, Nat.le_of_ble_eq_true rfl⟩ ⟨Nat.le_of_ble_eq_true rfl, Nat.le_of_ble_eq_true rfl, Nat.le_of_ble_eq_true rfl, Nat.le_of_ble_eq_true rfl⟩ rfl rfl (Nat.le_of_ble_eq_true rfl) dd_M_might_14 (fun H locs hR hS => ?_)
    refine lv_if_ne (tgt := 22) hx hb dd_M_might_17 (by decide) (fun c4 => ?_) (fun c4 => ?_)
    · have hm := ss_iff hm c4
      refine ss_aload_n hx hb dd_M_might_22 rfl (lv_at hl 0 rfl) ?_
      refine lv_iload_n hx hb dd_M_might_23 rfl (lv_at hl 1 rfl) ?_
      obtain ⟨v5, qv5, hm⟩ := ss_bind hm
      refine ss_cV 0 0 (As := [.int a1]) hC hK hR hS hl.1 (cc_M_strengthOf l G N _ _ _ _ qv5) km_M_330 (ck_M_strengthOf qv5) ⟨Nat.le_of_ble_eq_true rfl, Nat.le_of_ble_eq_true rfl⟩ ⟨Nat.le_of_ble_eq_true rfl, Nat.le_of_ble_eq_true rfl, Nat.le_of_ble_eq_true rfl, Nat.le_of_ble_eq_true rfl⟩ rfl rfl (Nat.le_of_ble_eq_true rfl) dd_M_might_24 (fun H locs hR hS => ?_)
      refine lv_istore_n (lv' := [(3, .int v5), (0, ss_v (ss_b G) this), (1, .int a1), (2, .int a2)]) hx hb dd_M_might_27 rfl hl (by decide) rfl (fun ls hl => ?_)
      refine lv_bipush (v := -2) hx hb dd_M_might_28 (by decide) ?_
      refine lv_istore (lv' := [(4, .int (-2 : Int32)), (3, .int v5), (0, ss_v (ss_b G) this), (1, .int a1), (2, .int a2)]) hx hb dd_M_might_30 hl (by decide) rfl (fun ls hl => ?_)
      refine ss_aload_n hx hb dd_M_might_32 rfl (lv_at hl 2 rfl) ?_
      obtain ⟨h6, qh6, hm⟩ := ss_bind hm
      refine ss_cVv 0 0 (As := []) hC hK hR hS hl.1 (cc_M_keeps l G N _ _ _ qh6) km_M_385 (ck_M_keeps qh6) ⟨Nat.le_of_ble_eq_true rfl, Nat.le_of_ble_eq_true rfl⟩ ⟨Nat.le_of_ble_eq_true rfl, Nat.le_of_ble_eq_true rfl, Nat.le_of_ble_eq_true rfl, Nat.le_of_ble_eq_true rfl⟩ rfl rfl (Nat.le_of_ble_eq_true rfl) dd_M_might_33 (fun H locs hR hS => ?_)
      refine lv_iconst (v := 1) hx hb dd_M_might_36 (by decide) ?_
      refine lv_istore (lv' := [(5, .int (1 : Int32)), (4, .int (-2 : Int32)), (3, .int v5), (0, ss_v (ss_b G) this), (1, .int a1), (2, .int a2)]) hx hb dd_M_might_37 hl (by decide) rfl (fun ls hl => ?_)
      obtain ⟨e_39, he_39, hm⟩ := ss_bind hm
      have X_39_89 : ∀ (y4_39_89 : Int32) (h_39_89 : ss_Hp) (H : Heap) (locs : List Loc) (ls : Array Slot), e_39 = (y4_39_89, h_39_89) → ss_R G h_39_89 H → va_S (ss_A G) s.heap H locs → lv_has ls 6 [(0, ss_v (ss_b G) this), (1, .int a1), (3, .int v5), (4, .int y4_39_89)] → ww_M_might p l e s m below meth c G this a1 a2 h rr hh  H locs 0 0 (F0 m 89 ls []) := by
        intro y4_39_89 h_39_89 H locs ls hq hR hS hl
        rw [hq] at hm
        refine ss_aload_n hx hb dd_M_might_89 rfl (lv_at hl 0 rfl) ?_
        obtain ⟨r7, qr7, hm⟩ := ss_bind hm
        refine ss_getr hC hK hR kf_M_39 rfl qr7 dd_M_might_90 ?_
        refine lv_bipush (v := 38) hx hb dd_M_might_93 (by decide) ?_
        refine lv_iconst (v := 2) hx hb dd_M_might_95 (by decide) ?_
        refine lv_iload_n hx hb dd_M_might_96 rfl (lv_at hl 1 rfl) ?_
        refine lv_imul hx hb dd_M_might_97 ?_
        refine lv_iadd hx hb dd_M_might_98 ?_
        refine lv_iconst (v := 1) hx hb dd_M_might_99 (by decide) ?_
        refine lv_iadd hx hb dd_M_might_100 ?_
        refine lv_iload_n hx hb dd_M_might_101 rfl (lv_at hl 2 rfl) ?_
        obtain ⟨h8, qh8, hm⟩ := ss_bind hm
        refine ss_iast hC hK hR hS qh8 dd_M_might_102 (fun H locs hR hS => ?_)
        refine lv_iload hx hb dd_M_might_103 (lv_at hl 3 rfl) ?_
        exact ss_iret hC hr hlocks hR hS hm dd_M_might_105
      have L_39 : ∀ (n : Nat) (x4_39 : Int32) (x5_39 : Int32) (h_39 : ss_Hp) (H : Heap) (locs : List Loc) (ls : Array Slot), ss_lp (mm_M_might_b39 N this a1 a2 v5) n (x4_39, x5_39, h_39) = some e_39 → ss_R G h_39 H → va_S (ss_A G) s.heap H locs → lv_has ls 6 [(0, ss_v (ss_b G) this), (1, .int a1), (2, .int a2), (3, .int v5), (4, .int x4_39), (5, .int x5_39)] → ww_M_might p l e s m below meth c G this a1 a2 h rr hh  H locs 0 0 (F0 m 39 ls []) := by
        intro n
        induction n with
        | zero => intro x4_39 x5_39 h_39 H locs ls hm; cases hm
        | succ n ih_39 =>
          intro x4_39 x5_39 h_39 H locs ls hm hR hS hl
          obtain ⟨z_39, hm, hz1_39, hz2_39⟩ := ss_lps hm
          have J_83 : ∀ (x4_83 : Int32) (x5_83 : Int32) (h_83 : ss_Hp) (H : Heap) (locs : List Loc) (ls : Array Slot), mm_M_might_j83 N this a1 a2 v5 x4_83 x5_83 h_83 = some z_39 → ss_R G h_83 H → va_S (ss_A G) s.heap H locs → lv_has ls 6 [(0, ss_v (ss_b G) this), (1, .int a1), (2, .int a2), (3, .int v5), (4, .int x4_83), (5, .int x5_83)] → ww_M_might p l e s m below meth c G this a1 a2 h rr hh  H locs 0 0 (F0 m 83 ls []) := by
            intro x4_83 x5_83 h_83 H locs ls hm hR hS hl
            obtain ⟨v9, qv9, hm⟩ := ss_bind hm
            refine lv_iinc (v := v9) (lv' := [(5, .int v9), (0, ss_v (ss_b G) this), (1, .int a1), (2, .int a2), (3, .int v5), (4, .int x4_83)]) hx hb dd_M_might_83 hl (k := 5) rfl (ss_inc (by decide) qv9) (by decide) rfl (fun ls hl => ?_)
            refine lv_goto (tgt := 39) hx hb dd_M_might_86 (by decide) ?_
            exact ih_39 x4_83 v9 h_83 _ _ _ (hz1_39 _ (ss_some hm)) hR hS (lv_sub hl [1, 2, 3, 4, 5, 0] rfl)
          refine lv_iload hx hb dd_M_might_39 (lv_at hl 5 rfl) ?_
          refine lv_bipush (v := 99) hx hb dd_M_might_41 (by decide) ?_
          refine lv_icmp_gt (tgt := 89) hx hb dd_M_might_43 (by decide) (fun c10 => ?_) (fun c10 => ?_)
          · have hm := ss_ift hm c10
            exact X_39_89 x4_39 h_39 _ _ _ (hz2_39 _ (ss_some hm)) hR hS (lv_sub hl [0, 1, 3, 4] rfl)
          · have hm := ss_iff hm c10
            refine lv_iload hx hb dd_M_might_46 (lv_at hl 4 rfl) ?_
            refine lv_if_ge (tgt := 89) hx hb dd_M_might_48 (by decide) (fun c11 => ?_) (fun c11 => ?_)
            · have hm := ss_ift hm c11
              exact X_39_89 x4_39 h_39 _ _ _ (hz2_39 _ (ss_some hm)) hR hS (lv_sub hl [0, 1, 3, 4] rfl)
            · have hm := ss_iff hm c11
              refine ss_aload_n hx hb dd_M_might_51 rfl (lv_at hl 0 rfl) ?_
              obtain ⟨r12, qr12, hm⟩ := ss_bind hm
              refine ss_getr hC hK hR kf_M_39 rfl qr12 dd_M_might_52 ?_
              refine lv_bipush (v := 38) hx hb dd_M_might_55 (by decide) ?_
              refine lv_iconst (v := 2) hx hb dd_M_might_57 (by decide) ?_
              refine lv_iload_n hx hb dd_M_might_58 rfl (lv_at hl 1 rfl) ?_
              refine lv_imul hx hb dd_M_might_59 ?_
              refine lv_iadd hx hb dd_M_might_60 ?_
              refine lv_iconst (v := 1) hx hb dd_M_might_61 (by decide) ?_
              refine lv_iadd hx hb dd_M_might_62 ?_
              refine lv_iload hx hb dd_M_might_63 (lv_at hl 5 rfl) ?_
              obtain ⟨h13, qh13, hm⟩ := ss_bind hm
              refine ss_iast hC hK hR hS qh13 dd_M_might_65 (fun H locs hR hS => ?_)
              refine ss_aload_n hx hb dd_M_might_66 rfl (lv_at hl 0 rfl) ?_
              refine ss_aload_n hx hb dd_M_might_67 rfl (lv_at hl 0 rfl) ?_
              refine lv_iload_n hx hb dd_M_might_68 rfl (lv_at hl 1 rfl) ?_
              obtain ⟨v14, qv14, hm⟩ := ss_bind hm
              refine ss_cV 0 0 (As := [.int a1]) hC hK hR hS hl.1 (cc_M_ownOf l G N _ _ _ _ qv14) km_M_327 (ck_M_ownOf qv14) ⟨Nat.le_of_ble_eq_true rfl, Nat.le_of_ble_eq_true rfl⟩ ⟨Nat.le_of_ble_eq_true rfl, Nat.le_of_ble_eq_true rfl, Nat.le_of_ble_eq_true rfl, Nat.le_of_ble_eq_true rfl⟩ rfl rfl (by simp [ss_v_cat, ss_cat_i, ss_cat_l, ss_cat_r]) dd_M_might_69 (fun H locs hR hS => ?_)
              refine lv_iload_n hx hb dd_M_might_72 rfl (lv_at hl 2 rfl) ?_
              obtain ⟨v15, h16, qh16, hm⟩ := ss_bind2 hm
              refine ss_cV 0 0 (As := [.int v14, .int a2]) hC hK hR hS hl.1 (cc_M_staysOpen l G N _ _ _ _ _ _ qh16) km_M_427 (ck_M_staysOpen qh16) ⟨Nat.le_of_ble_eq_true rfl, Nat.le_of_ble_eq_true rfl⟩ ⟨Nat.le_of_ble_eq_true rfl, Nat.le_of_ble_eq_true rfl, Nat.le_of_ble_eq_true rfl, Nat.le_of_ble_eq_true rfl⟩ rfl rfl (Nat.le_of_ble_eq_true rfl) dd_M_might_73 (fun H locs hR hS => ?_)
              refine lv_if_eq (tgt := 83) hx hb dd_M_might_76 (by decide) (fun c17 => ?_) (fun c17 => ?_)
              · have hm := ss_ift hm c17
                exact J_83 x4_39 x5_39 h16 _ _ _ hm hR hS hl
              · have hm := ss_iff hm c17
                refine lv_iload hx hb dd_M_might_79 (lv_at hl 5 rfl) ?_
                refine lv_istore (lv' := [(4, .int x5_39), (0, ss_v (ss_b G) this), (1, .int a1), (2, .int a2), (3, .int v5), (5, .int x5_39)]) hx hb dd_M_might_81 hl (by decide) rfl (fun ls hl => ?_)
                exact J_83 x5_39 x5_39 h16 _ _ _ hm hR hS (lv_sub hl [1, 2, 3, 4, 0, 5] rfl)
      exact L_39 N (-2 : Int32) (1 : Int32) h6 _ _ _ he_39 hR hS (lv_sub hl [3, 4, 5, 2, 1, 0] rfl)
    · have hm := ss_ift hm c4
      exact J_20 h _ _ _ hm hR hS (lv_sub hl [] rfl)
theorem dd_M_note_0 : decode bb_M_note 0 = .ok (.iload_n 1, 1) := by decide +kernel
theorem dd_M_note_1 : decode bb_M_note 1 = .ok (.iconst (-1), 1) := by decide +kernel
theorem dd_M_note_2 : decode bb_M_note 2 = .ok (.if_icmp .ne 13, 3) := by decide +kernel
theorem dd_M_note_5 : decode bb_M_note 5 = .ok (.aload_n 0, 1) := by decide +kernel
theorem dd_M_note_6 : decode bb_M_note 6 = .ok (.getfield 39, 3) := by decide +kernel
theorem dd_M_note_9 : decode bb_M_note 9 = .ok (.bipush 123, 2) := by decide +kernel
theorem dd_M_note_11 : decode bb_M_note 11 = .ok (.iconst 0, 1) := by decide +kernel
theorem dd_M_note_12 : decode bb_M_note 12 = .ok (.iastore, 1) := by decide +kernel
theorem dd_M_note_13 : decode bb_M_note 13 = .ok (.iconst 0, 1) := by decide +kernel
theorem dd_M_note_14 : decode bb_M_note 14 = .ok (.ireturn, 1) := by decide +kernel
theorem dd_M_note_15 : decode bb_M_note 15 = .ok (.iload_n 1, 1) := by decide +kernel
theorem dd_M_note_16 : decode bb_M_note 16 = .ok (.i2l, 1) := by decide +kernel
theorem dd_M_note_17 : decode bb_M_note 17 = .ok (.lconst 0, 1) := by decide +kernel
theorem dd_M_note_18 : decode bb_M_note 18 = .ok (.ldc2_w 391, 3) := by decide +kernel
theorem dd_M_note_21 : decode bb_M_note 21 = .ok (.invokestatic 124, 3) := by decide +kernel
theorem dd_M_note_24 : decode bb_M_note 24 = .ok (.ifCond .eq 35, 3) := by decide +kernel
theorem dd_M_note_27 : decode bb_M_note 27 = .ok (.aload_n 0, 1) := by decide +kernel
theorem dd_M_note_28 : decode bb_M_note 28 = .ok (.iload_n 2, 1) := by decide +kernel
theorem dd_M_note_29 : decode bb_M_note 29 = .ok (.invokevirtual 313, 3) := by decide +kernel
theorem dd_M_note_32 : decode bb_M_note 32 = .ok (.ifCond .eq 27, 3) := by decide +kernel
theorem dd_M_note_35 : decode bb_M_note 35 = .ok (.iload_n 3, 1) := by decide +kernel
theorem dd_M_note_36 : decode bb_M_note 36 = .ok (.i2l, 1) := by decide +kernel
theorem dd_M_note_37 : decode bb_M_note 37 = .ok (.lconst 0, 1) := by decide +kernel
theorem dd_M_note_38 : decode bb_M_note 38 = .ok (.ldc2_w 430, 3) := by decide +kernel
theorem dd_M_note_41 : decode bb_M_note 41 = .ok (.invokestatic 124, 3) := by decide +kernel
theorem dd_M_note_44 : decode bb_M_note 44 = .ok (.ifCond .eq 15, 3) := by decide +kernel
theorem dd_M_note_47 : decode bb_M_note 47 = .ok (.aload_n 0, 1) := by decide +kernel
theorem dd_M_note_48 : decode bb_M_note 48 = .ok (.getfield 39, 3) := by decide +kernel
theorem dd_M_note_51 : decode bb_M_note 51 = .ok (.bipush 123, 2) := by decide +kernel
theorem dd_M_note_53 : decode bb_M_note 53 = .ok (.iaload, 1) := by decide +kernel
theorem dd_M_note_54 : decode bb_M_note 54 = .ok (.bipush 10, 2) := by decide +kernel
theorem dd_M_note_56 : decode bb_M_note 56 = .ok (.if_icmp .ne 6, 3) := by decide +kernel
theorem dd_M_note_59 : decode bb_M_note 59 = .ok (.bipush (-2), 2) := by decide +kernel
theorem dd_M_note_61 : decode bb_M_note 61 = .ok (.ireturn, 1) := by decide +kernel
theorem dd_M_note_62 : decode bb_M_note 62 = .ok (.bipush 93, 2) := by decide +kernel
theorem dd_M_note_64 : decode bb_M_note 64 = .ok (.iconst 3, 1) := by decide +kernel
theorem dd_M_note_65 : decode bb_M_note 65 = .ok (.aload_n 0, 1) := by decide +kernel
theorem dd_M_note_66 : decode bb_M_note 66 = .ok (.getfield 39, 3) := by decide +kernel
theorem dd_M_note_69 : decode bb_M_note 69 = .ok (.bipush 123, 2) := by decide +kernel
theorem dd_M_note_71 : decode bb_M_note 71 = .ok (.iaload, 1) := by decide +kernel
theorem dd_M_note_72 : decode bb_M_note 72 = .ok (.imul, 1) := by decide +kernel
theorem dd_M_note_73 : decode bb_M_note 73 = .ok (.iadd, 1) := by decide +kernel
theorem dd_M_note_74 : decode bb_M_note 74 = .ok (.istore 4, 2) := by decide +kernel
theorem dd_M_note_76 : decode bb_M_note 76 = .ok (.aload_n 0, 1) := by decide +kernel
theorem dd_M_note_77 : decode bb_M_note 77 = .ok (.getfield 39, 3) := by decide +kernel
theorem dd_M_note_80 : decode bb_M_note 80 = .ok (.iload 4, 2) := by decide +kernel
theorem dd_M_note_82 : decode bb_M_note 82 = .ok (.iload_n 1, 1) := by decide +kernel
theorem dd_M_note_83 : decode bb_M_note 83 = .ok (.iastore, 1) := by decide +kernel
theorem dd_M_note_84 : decode bb_M_note 84 = .ok (.aload_n 0, 1) := by decide +kernel
theorem dd_M_note_85 : decode bb_M_note 85 = .ok (.getfield 39, 3) := by decide +kernel
theorem dd_M_note_88 : decode bb_M_note 88 = .ok (.iload 4, 2) := by decide +kernel
theorem dd_M_note_90 : decode bb_M_note 90 = .ok (.iconst 1, 1) := by decide +kernel
theorem dd_M_note_91 : decode bb_M_note 91 = .ok (.iadd, 1) := by decide +kernel
theorem dd_M_note_92 : decode bb_M_note 92 = .ok (.iload_n 2, 1) := by decide +kernel
theorem dd_M_note_93 : decode bb_M_note 93 = .ok (.iastore, 1) := by decide +kernel
theorem dd_M_note_94 : decode bb_M_note 94 = .ok (.aload_n 0, 1) := by decide +kernel
theorem dd_M_note_95 : decode bb_M_note 95 = .ok (.getfield 39, 3) := by decide +kernel
theorem dd_M_note_98 : decode bb_M_note 98 = .ok (.iload 4, 2) := by decide +kernel
theorem dd_M_note_100 : decode bb_M_note 100 = .ok (.iconst 2, 1) := by decide +kernel
theorem dd_M_note_101 : decode bb_M_note 101 = .ok (.iadd, 1) := by decide +kernel
theorem dd_M_note_102 : decode bb_M_note 102 = .ok (.iload_n 3, 1) := by decide +kernel
theorem dd_M_note_103 : decode bb_M_note 103 = .ok (.iastore, 1) := by decide +kernel
theorem dd_M_note_104 : decode bb_M_note 104 = .ok (.aload_n 0, 1) := by decide +kernel
theorem dd_M_note_105 : decode bb_M_note 105 = .ok (.getfield 39, 3) := by decide +kernel
theorem dd_M_note_108 : decode bb_M_note 108 = .ok (.bipush 123, 2) := by decide +kernel
theorem dd_M_note_110 : decode bb_M_note 110 = .ok (.dup2, 1) := by decide +kernel
theorem dd_M_note_111 : decode bb_M_note 111 = .ok (.iaload, 1) := by decide +kernel
theorem dd_M_note_112 : decode bb_M_note 112 = .ok (.iconst 1, 1) := by decide +kernel
theorem dd_M_note_113 : decode bb_M_note 113 = .ok (.iadd, 1) := by decide +kernel
theorem dd_M_note_114 : decode bb_M_note 114 = .ok (.iastore, 1) := by decide +kernel
theorem dd_M_note_115 : decode bb_M_note 115 = .ok (.aload_n 0, 1) := by decide +kernel
theorem dd_M_note_116 : decode bb_M_note 116 = .ok (.getfield 39, 3) := by decide +kernel
theorem dd_M_note_119 : decode bb_M_note 119 = .ok (.bipush 123, 2) := by decide +kernel
theorem dd_M_note_121 : decode bb_M_note 121 = .ok (.iaload, 1) := by decide +kernel
theorem dd_M_note_122 : decode bb_M_note 122 = .ok (.ireturn, 1) := by decide +kernel
def mm_M_note_j59 (N : Nat) (this : Option Nat) (a1 : Int32) (a2 : Int32) (a3 : Int32) (h_59 : ss_Hp) : Option (Int32 × ss_Hp) :=
  some ((-2 : Int32), h_59)
def mm_M_note (N : Nat) (this : Option Nat) (a1 : Int32) (a2 : Int32) (a3 : Int32) (h : ss_Hp) : Option (Int32 × ss_Hp) :=
  if ss_is h this 12 = true then
    if a1 = (-1 : Int32) then
      (ss_gr h this 12 9).bind fun r25 =>
      (ss_ui h r25 20 (123 : Int32) (0 : Int32)).bind fun h26 =>
      some ((0 : Int32), h26)
    else
      (mm_M_in N ((a1).toInt64) (0 : Int64) (60 : Int64)).bind fun v2 =>
      if v2 = 0 then
        mm_M_note_j59 N this a1 a2 a3 h
      else
        (mm_M_isStep N this a2 h).bind fun v4 =>
        if v4 = 0 then
          mm_M_note_j59 N this a1 a2 a3 h
        else
          (mm_M_in N ((a3).toInt64) (0 : Int64) (999 : Int64)).bind fun v6 =>
          if v6 = 0 then
            mm_M_note_j59 N this a1 a2 a3 h
          else
            (ss_gr h this 12 9).bind fun r8 =>
            (ss_ai h r8 20 (123 : Int32)).bind fun v9 =>
            if v9 = (10 : Int32) then
              mm_M_note_j59 N this a1 a2 a3 h
            else
              (ss_gr h this 12 9).bind fun r11 =>
              (ss_ai h r11 20 (123 : Int32)).bind fun v12 =>
              (some ((93 : Int32) + ((3 : Int32) * v12))).bind fun v13 =>
              (ss_gr h this 12 9).bind fun r14 =>
              (ss_ui h r14 20 v13 a1).bind fun h15 =>
              (ss_gr h15 this 12 9).bind fun r16 =>
              (ss_ui h15 r16 20 (v13 + (1 : Int32)) a2).bind fun h17 =>
              (ss_gr h17 this 12 9).bind fun r18 =>
              (ss_ui h17 r18 20 (v13 + (2 : Int32)) a3).bind fun h19 =>
              (ss_gr h19 this 12 9).bind fun r20 =>
              (ss_ai h19 r20 20 (123 : Int32)).bind fun v21 =>
              (ss_ui h19 r20 20 (123 : Int32) (v21 + (1 : Int32))).bind fun h22 =>
              (ss_gr h22 this 12 9).bind fun r23 =>
              (ss_ai h22 r23 20 (123 : Int32)).bind fun v24 =>
              some (v24, h22)
  else none
abbrev ww_M_note (p : Program) (l : Launch) (e : Env) (s : State) (m : MethodId) (below : List Frame) (meth : Method) (c : Code) (G : ss_G) (this : Option Nat) (a1 : Int32) (a2 : Int32) (a3 : Int32) (h : ss_Hp) (rr : Int32) (hh : ss_Hp) (H : Heap) (locs : List Loc) (k n : Nat) (g : JFrame) : Prop := W p l e (headSpec (ss_w yy_M_note bb_M_note 5 (some (.int))) ({ frames := 1, cells := 0, slots := 0, locals := 25 })).room s m ([ss_v (ss_b G) this, .int a1, .int a2, .int a3] : List Value).toArray below meth c H locs k n (MQ below (ss_Qc G (some (.int rr)) hh) ([ss_v (ss_b G) this, .int a1, .int a2, .int a3] : List Value).toArray s 0 0 (ss_A G)) g
theorem ck_M_note {N : Nat} {this : Option Nat} {a1 : Int32} {a2 : Int32} {a3 : Int32} {h : ss_Hp} {res : Int32 × ss_Hp} (hm : mm_M_note N this a1 a2 a3 h = some res) : ss_is h this 12 = true := (ss_chk hm).1
set_option maxHeartbeats 4000000 in
set_option maxRecDepth 100000 in
theorem cc_M_note (l : Launch) (G : ss_G) (N : Nat) (this : Option Nat) (a1 : Int32) (a2 : Int32) (a3 : Int32) (h : ss_Hp) (rr : Int32) (hh : ss_Hp) (hm : mm_M_note N this a1 a2 a3 h = some (rr, hh)) : ss_Ct l G yy_M_note bb_M_note 5 (some (.int)) ({ frames := 1, cells := 0, slots := 0, locals := 25 }) [ss_v (ss_b G) this, .int a1, .int a2, .int a3] h (some (.int rr)) hh := by
  obtain ⟨hck, hm⟩ := ss_chk hm
  refine Met.ofW (cc := bb_M_note) (maxL := 5) (ret := (some (.int))) (by decide) rfl ?_
  intro p e s m args below meth c s₁ B hml hv
  obtain ⟨rfl, hR, hK⟩ := hv
  have hC : CallFix p m c bb_M_note 5 s _ lw_g sR_12 := ⟨B.exec, B.bytes, hml, findClass_of_methodNamed B.named, fun w hw => atoms_spec (ws := ss_w yy_M_note bb_M_note 5 (some (.int))) B.pre w (List.mem_cons_of_mem _ hw)⟩
  have hx := hC.1
  have hb := hC.2.1
  have hr := B.returns
  have hlocks := B.notSynchronized
  have hS : va_S (ss_A G) s.heap s.heap [] := va_S.rf
  have hl := lv_entry ([ss_v (ss_b G) this, .int a1, .int a2, .int a3]) (n := 5) (by simp [lg_sl, ss_v_cat, ss_cat_i, ss_cat_l, ss_cat_r])
  rw [lg_entry_eq]
  generalize (lg_sl ([ss_v (ss_b G) this, .int a1, .int a2, .int a3]) ++ List.replicate (5 - (lg_sl ([ss_v (ss_b G) this, .int a1, .int a2, .int a3])).length) Slot.unset).toArray = ls at hl ⊢
  have hl : lv_has ls 5 [(0, ss_v (ss_b G) this), (1, .int a1), (2, .int a2), (3, .int a3)] := by simpa [lv_args, ss_v_cat, ss_cat_i, ss_cat_l, ss_cat_r] using hl
  have J_59 : ∀ (h_59 : ss_Hp) (H : Heap) (locs : List Loc) (ls : Array Slot), mm_M_note_j59 N this a1 a2 a3 h_59 = some (rr, hh) → ss_R G h_59 H → va_S (ss_A G) s.heap H locs → lv_has ls 5 [] → ww_M_note p l e s m below meth c G this a1 a2 a3 h rr hh  H locs 0 0 (F0 m 59 ls []) := by
    intro h_59 H locs ls hm hR hS hl
    refine lv_bipush (v := -2) hx hb dd_M_note_59 (by decide) ?_
    exact ss_iret hC hr hlocks hR hS hm dd_M_note_61
  refine lv_iload_n hx hb dd_M_note_0 rfl (lv_at hl 1 rfl) ?_
  refine lv_iconst (v := -1) hx hb dd_M_note_1 (by decide) ?_
  refine lv_icmp_ne (tgt := 15) hx hb dd_M_note_2 (by decide) (fun c1 => ?_) (fun c1 => ?_)
  · have hm := ss_iff hm c1
    refine lv_iload_n hx hb dd_M_note_15 rfl (lv_at hl 1 rfl) ?_
    refine lv_i2l hx hb dd_M_note_16 rfl ?_
    refine lv_lconst (v := 0) hx hb dd_M_note_17 (by decide) ?_
    refine lv_ldc2 (v := 60) hx hb hC.2.2.2.1 (hC.2.2.2.2 _ kl_M_391) dd_M_note_18 ?_
    obtain ⟨v2, qv2, hm⟩ := ss_bind hm
    refine ss_cS 0 0 (As := [.long ((a1).toInt64), .long (0 : Int64), .long (60 : Int64)]) hC hK hR hS hl.1 (cc_M_in l G N _ _ _ _ _ qv2) km_M_124 ⟨Nat.le_of_ble_eq_true rfl, Nat.le_of_ble_eq_true rfl⟩ ⟨Nat.le_of_ble_eq_true rfl, Nat.le_of_ble_eq_true rfl, Nat.le_of_ble_eq_true rfl, Nat.le_of_ble_eq_true rfl⟩ rfl rfl (Nat.le_of_ble_eq_true rfl) dd_M_note_21 (fun H locs hR hS => ?_)
    refine lv_if_eq (tgt := 59) hx hb dd_M_note_24 (by decide) (fun c3 => ?_) (fun c3 => ?_)
    · have hm := ss_ift hm c3
      exact J_59 h _ _ _ hm hR hS (lv_sub hl [] rfl)
    · have hm := ss_iff hm c3
      refine ss_aload_n hx hb dd_M_note_27 rfl (lv_at hl 0 rfl) ?_
      refine lv_iload_n hx hb dd_M_note_28 rfl (lv_at hl 2 rfl) ?_
      obtain ⟨v4, qv4, hm⟩ := ss_bind hm
      refine ss_cV 0 0 (As := [.int a2]) hC hK hR hS hl.1 (cc_M_isStep l G N _ _ _ _ qv4) km_M_313 (ck_M_isStep qv4) ⟨Nat.le_of_ble_eq_true rfl, Nat.le_of_ble_eq_true rfl⟩ ⟨Nat.le_of_ble_eq_true rfl, Nat.le_of_ble_eq_true rfl, Nat.le_of_ble_eq_true rfl, Nat.le_of_ble_eq_true rfl⟩ rfl rfl (Nat.le_of_ble_eq_true rfl) dd_M_note_29 (fun H locs hR hS => ?_)
      refine lv_if_eq (tgt := 59) hx hb dd_M_note_32 (by decide) (fun c5 => ?_) (fun c5 => ?_)
      · have hm := ss_ift hm c5
        exact J_59 h _ _ _ hm hR hS (lv_sub hl [] rfl)
      · have hm := ss_iff hm c5
        refine lv_iload_n hx hb dd_M_note_35 rfl (lv_at hl 3 rfl) ?_
        refine lv_i2l hx hb dd_M_note_36 rfl ?_
        refine lv_lconst (v := 0) hx hb dd_M_note_37 (by decide) ?_
        refine lv_ldc2 (v := 999) hx hb hC.2.2.2.1 (hC.2.2.2.2 _ kl_M_430) dd_M_note_38 ?_
        obtain ⟨v6, qv6, hm⟩ := ss_bind hm
        refine ss_cS 0 0 (As := [.long ((a3).toInt64), .long (0 : Int64), .long (999 : Int64)]) hC hK hR hS hl.1 (cc_M_in l G N _ _ _ _ _ qv6) km_M_124 ⟨Nat.le_of_ble_eq_true rfl, Nat.le_of_ble_eq_true rfl⟩ ⟨Nat.le_of_ble_eq_true rfl, Nat.le_of_ble_eq_true rfl, Nat.le_of_ble_eq_true rfl, Nat.le_of_ble_eq_true rfl⟩ rfl rfl (Nat.le_of_ble_eq_true rfl) dd_M_note_41 (fun H locs hR hS => ?_)
        refine lv_if_eq (tgt := 59) hx hb dd_M_note_44 (by decide) (fun c7 => ?_) (fun c7 => ?_)
        · have hm := ss_ift hm c7
          exact J_59 h _ _ _ hm hR hS (lv_sub hl [] rfl)
        · have hm := ss_iff hm c7
          refine ss_aload_n hx hb dd_M_note_47 rfl (lv_at hl 0 rfl) ?_
          obtain ⟨r8, qr8, hm⟩ := ss_bind hm
          refine ss_getr hC hK hR kf_M_39 rfl qr8 dd_M_note_48 ?_
          refine lv_bipush (v := 123) hx hb dd_M_note_51 (by decide) ?_
          obtain ⟨v9, qv9, hm⟩ := ss_bind hm
          refine ss_iald hC hK hR qv9 dd_M_note_53 ?_
          refine lv_bipush (v := 10) hx hb dd_M_note_54 (by decide) ?_
          refine lv_icmp_ne (tgt := 62) hx hb dd_M_note_56 (by decide) (fun c10 => ?_) (fun c10 => ?_)
          · have hm := ss_iff hm c10
            refine lv_bipush (v := 93) hx hb dd_M_note_62 (by decide) ?_
            refine lv_iconst (v := 3) hx hb dd_M_note_64 (by decide) ?_
            refine ss_aload_n hx hb dd_M_note_65 rfl (lv_at hl 0 rfl) ?_
            obtain ⟨r11, qr11, hm⟩ := ss_bind hm
            refine ss_getr hC hK hR kf_M_39 rfl qr11 dd_M_note_66 ?_
            refine lv_bipush (v := 123) hx hb dd_M_note_69 (by decide) ?_
            obtain ⟨v12, qv12, hm⟩ := ss_bind hm
            refine ss_iald hC hK hR qv12 dd_M_note_71 ?_
            refine lv_imul hx hb dd_M_note_72 ?_
            refine lv_iadd hx hb dd_M_note_73 ?_
            obtain ⟨v13, qv13, hm⟩ := ss_bind hm
            refine ss_topi qv13 ?_
            refine lv_istore (lv' := [(4, .int v13), (0, ss_v (ss_b G) this), (1, .int a1), (2, .int a2), (3, .int a3)]) hx hb dd_M_note_74 hl (by decide) rfl (fun ls hl => ?_)
            refine ss_aload_n hx hb dd_M_note_76 rfl (lv_at hl 1 rfl) ?_
            obtain ⟨r14, qr14, hm⟩ := ss_bind hm
            refine ss_getr hC hK hR kf_M_39 rfl qr14 dd_M_note_77 ?_
            refine lv_iload hx hb dd_M_note_80 (lv_at hl 0 rfl) ?_
            refine lv_iload_n hx hb dd_M_note_82 rfl (lv_at hl 2 rfl) ?_
            obtain ⟨h15, qh15, hm⟩ := ss_bind hm
            refine ss_iast hC hK hR hS qh15 dd_M_note_83 (fun H locs hR hS => ?_)
            refine ss_aload_n hx hb dd_M_note_84 rfl (lv_at hl 1 rfl) ?_
            obtain ⟨r16, qr16, hm⟩ := ss_bind hm
            refine ss_getr hC hK hR kf_M_39 rfl qr16 dd_M_note_85 ?_
            refine lv_iload hx hb dd_M_note_88 (lv_at hl 0 rfl) ?_
            refine lv_iconst (v := 1) hx hb dd_M_note_90 (by decide) ?_
            refine lv_iadd hx hb dd_M_note_91 ?_
            refine lv_iload_n hx hb dd_M_note_92 rfl (lv_at hl 3 rfl) ?_
            obtain ⟨h17, qh17, hm⟩ := ss_bind hm
            refine ss_iast hC hK hR hS qh17 dd_M_note_93 (fun H locs hR hS => ?_)
            refine ss_aload_n hx hb dd_M_note_94 rfl (lv_at hl 1 rfl) ?_
            obtain ⟨r18, qr18, hm⟩ := ss_bind hm
            refine ss_getr hC hK hR kf_M_39 rfl qr18 dd_M_note_95 ?_
            refine lv_iload hx hb dd_M_note_98 (lv_at hl 0 rfl) ?_
            refine lv_iconst (v := 2) hx hb dd_M_note_100 (by decide) ?_
            refine lv_iadd hx hb dd_M_note_101 ?_
            refine lv_iload_n hx hb dd_M_note_102 rfl (lv_at hl 4 rfl) ?_
            obtain ⟨h19, qh19, hm⟩ := ss_bind hm
            refine ss_iast hC hK hR hS qh19 dd_M_note_103 (fun H locs hR hS => ?_)
            refine ss_aload_n hx hb dd_M_note_104 rfl (lv_at hl 1 rfl) ?_
            obtain ⟨r20, qr20, hm⟩ := ss_bind hm
            refine ss_getr hC hK hR kf_M_39 rfl qr20 dd_M_note_105 ?_
            refine lv_bipush (v := 123) hx hb dd_M_note_108 (by decide) ?_
            refine ss_dup2ir hx hb dd_M_note_110 ?_
            obtain ⟨v21, qv21, hm⟩ := ss_bind hm
            refine ss_iald hC hK hR qv21 dd_M_note_111 ?_
            refine lv_iconst (v := 1) hx hb dd_M_note_112 (by decide) ?_
            refine lv_iadd hx hb dd_M_note_113 ?_
            obtain ⟨h22, qh22, hm⟩ := ss_bind hm
            refine ss_iast hC hK hR hS qh22 dd_M_note_114 (fun H locs hR hS => ?_)
            refine ss_aload_n hx hb dd_M_note_115 rfl (lv_at hl 1 rfl) ?_
            obtain ⟨r23, qr23, hm⟩ := ss_bind hm
            refine ss_getr hC hK hR kf_M_39 rfl qr23 dd_M_note_116 ?_
            refine lv_bipush (v := 123) hx hb dd_M_note_119 (by decide) ?_
            obtain ⟨v24, qv24, hm⟩ := ss_bind hm
            refine ss_iald hC hK hR qv24 dd_M_note_121 ?_
            exact ss_iret hC hr hlocks hR hS hm dd_M_note_122
          · have hm := ss_ift hm c10
            exact J_59 h _ _ _ hm hR hS (lv_sub hl [] rfl)
  · have hm := ss_ift hm c1
    refine ss_aload_n hx hb dd_M_note_5 rfl (lv_at hl 0 rfl) ?_
    obtain ⟨r25, qr25, hm⟩ := ss_bind hm
    refine ss_getr hC hK hR kf_M_39 rfl qr25 dd_M_note_6 ?_
    refine lv_bipush (v := 123) hx hb dd_M_note_9 (by decide) ?_
    refine lv_iconst (v := 0) hx hb dd_M_note_11 (by decide) ?_
    obtain ⟨h26, qh26, hm⟩ := ss_bind hm
    refine ss_iast hC hK hR hS qh26 dd_M_note_12 (fun H locs hR hS => ?_)
    refine lv_iconst (v := 0) hx hb dd_M_note_13 (by decide) ?_
    exact ss_iret hC hr hlocks hR hS hm dd_M_note_14
theorem dd_M_areNotesSo_0 : decode bb_M_areNotesSo 0 = .ok (.iconst 0, 1) := by decide +kernel
theorem dd_M_areNotesSo_1 : decode bb_M_areNotesSo 1 = .ok (.istore_n 2, 1) := by decide +kernel
theorem dd_M_areNotesSo_2 : decode bb_M_areNotesSo 2 = .ok (.iload_n 2, 1) := by decide +kernel
theorem dd_M_areNotesSo_3 : decode bb_M_areNotesSo 3 = .ok (.iconst 3, 1) := by decide +kernel
theorem dd_M_areNotesSo_4 : decode bb_M_areNotesSo 4 = .ok (.aload_n 0, 1) := by decide +kernel
theorem dd_M_areNotesSo_5 : decode bb_M_areNotesSo 5 = .ok (.getfield 39, 3) := by decide +kernel
theorem dd_M_areNotesSo_8 : decode bb_M_areNotesSo 8 = .ok (.bipush 123, 2) := by decide +kernel
theorem dd_M_areNotesSo_10 : decode bb_M_areNotesSo 10 = .ok (.iaload, 1) := by decide +kernel
theorem dd_M_areNotesSo_11 : decode bb_M_areNotesSo 11 = .ok (.imul, 1) := by decide +kernel
theorem dd_M_areNotesSo_12 : decode bb_M_areNotesSo 12 = .ok (.if_icmp .ge 57, 3) := by decide +kernel
theorem dd_M_areNotesSo_15 : decode bb_M_areNotesSo 15 = .ok (.aload_n 0, 1) := by decide +kernel
theorem dd_M_areNotesSo_16 : decode bb_M_areNotesSo 16 = .ok (.getfield 39, 3) := by decide +kernel
theorem dd_M_areNotesSo_19 : decode bb_M_areNotesSo 19 = .ok (.bipush 93, 2) := by decide +kernel
theorem dd_M_areNotesSo_21 : decode bb_M_areNotesSo 21 = .ok (.iload_n 2, 1) := by decide +kernel
theorem dd_M_areNotesSo_22 : decode bb_M_areNotesSo 22 = .ok (.iadd, 1) := by decide +kernel
theorem dd_M_areNotesSo_23 : decode bb_M_areNotesSo 23 = .ok (.iaload, 1) := by decide +kernel
theorem dd_M_areNotesSo_24 : decode bb_M_areNotesSo 24 = .ok (.iload_n 1, 1) := by decide +kernel
theorem dd_M_areNotesSo_25 : decode bb_M_areNotesSo 25 = .ok (.if_icmp .ne 38, 3) := by decide +kernel
theorem dd_M_areNotesSo_28 : decode bb_M_areNotesSo 28 = .ok (.aload_n 0, 1) := by decide +kernel
theorem dd_M_areNotesSo_29 : decode bb_M_areNotesSo 29 = .ok (.getfield 39, 3) := by decide +kernel
theorem dd_M_areNotesSo_32 : decode bb_M_areNotesSo 32 = .ok (.bipush 14, 2) := by decide +kernel
theorem dd_M_areNotesSo_34 : decode bb_M_areNotesSo 34 = .ok (.aload_n 0, 1) := by decide +kernel
theorem dd_M_areNotesSo_35 : decode bb_M_areNotesSo 35 = .ok (.getfield 39, 3) := by decide +kernel
theorem dd_M_areNotesSo_38 : decode bb_M_areNotesSo 38 = .ok (.bipush 93, 2) := by decide +kernel
theorem dd_M_areNotesSo_40 : decode bb_M_areNotesSo 40 = .ok (.iload_n 2, 1) := by decide +kernel
theorem dd_M_areNotesSo_41 : decode bb_M_areNotesSo 41 = .ok (.iadd, 1) := by decide +kernel
theorem dd_M_areNotesSo_42 : decode bb_M_areNotesSo 42 = .ok (.iconst 1, 1) := by decide +kernel
theorem dd_M_areNotesSo_43 : decode bb_M_areNotesSo 43 = .ok (.iadd, 1) := by decide +kernel
theorem dd_M_areNotesSo_44 : decode bb_M_areNotesSo 44 = .ok (.iaload, 1) := by decide +kernel
theorem dd_M_areNotesSo_45 : decode bb_M_areNotesSo 45 = .ok (.iadd, 1) := by decide +kernel
theorem dd_M_areNotesSo_46 : decode bb_M_areNotesSo 46 = .ok (.iaload, 1) := by decide +kernel
theorem dd_M_areNotesSo_47 : decode bb_M_areNotesSo 47 = .ok (.aload_n 0, 1) := by decide +kernel
theorem dd_M_areNotesSo_48 : decode bb_M_areNotesSo 48 = .ok (.getfield 39, 3) := by decide +kernel
theorem dd_M_areNotesSo_51 : decode bb_M_areNotesSo 51 = .ok (.bipush 93, 2) := by decide +kernel
theorem dd_M_areNotesSo_53 : decode bb_M_areNotesSo 53 = .ok (.iload_n 2, 1) := by decide +kernel
theorem dd_M_areNotesSo_54 : decode bb_M_areNotesSo 54 = .ok (.iadd, 1) := by decide +kernel
theorem dd_M_areNotesSo_55 : decode bb_M_areNotesSo 55 = .ok (.iconst 2, 1) := by decide +kernel
theorem dd_M_areNotesSo_56 : decode bb_M_areNotesSo 56 = .ok (.iadd, 1) := by decide +kernel
theorem dd_M_areNotesSo_57 : decode bb_M_areNotesSo 57 = .ok (.iaload, 1) := by decide +kernel
theorem dd_M_areNotesSo_58 : decode bb_M_areNotesSo 58 = .ok (.if_icmp .eq 5, 3) := by decide +kernel
theorem dd_M_areNotesSo_61 : decode bb_M_areNotesSo 61 = .ok (.iconst 0, 1) := by decide +kernel
theorem dd_M_areNotesSo_62 : decode bb_M_areNotesSo 62 = .ok (.ireturn, 1) := by decide +kernel
theorem dd_M_areNotesSo_63 : decode bb_M_areNotesSo 63 = .ok (.iinc 2 3, 3) := by decide +kernel
theorem dd_M_areNotesSo_66 : decode bb_M_areNotesSo 66 = .ok (.goto (-64), 3) := by decide +kernel
theorem dd_M_areNotesSo_69 : decode bb_M_areNotesSo 69 = .ok (.iconst 1, 1) := by decide +kernel
theorem dd_M_areNotesSo_70 : decode bb_M_areNotesSo 70 = .ok (.ireturn, 1) := by decide +kernel
def mm_M_areNotesSo_j63 (N : Nat) (this : Option Nat) (a1 : Int32) (h : ss_Hp) (x2_63 : Int32) : Option (Int32 ⊕ (Unit ⊕ Unit)) :=
  (some (x2_63 + (3 : Int32))).bind fun v1 =>
  some (.inl v1)
def mm_M_areNotesSo_b2 (N : Nat) (this : Option Nat) (a1 : Int32) (h : ss_Hp) (st : Int32) : Option (Int32 ⊕ (Unit ⊕ Unit)) :=
  match st with
  | x2_2 =>
    (ss_gr h this 12 9).bind fun r2 =>
    (ss_ai h r2 20 (123 : Int32)).bind fun v3 =>
    if ((3 : Int32) * v3) ≤ x2_2 then
      some (.inr (.inl ()))
    else
      (ss_gr h this 12 9).bind fun r5 =>
      (ss_ai h r5 20 ((93 : Int32) + x2_2)).bind fun v6 =>
      if v6 = a1 then
        (ss_gr h this 12 9).bind fun r8 =>
        (ss_gr h this 12 9).bind fun r9 =>
        (ss_ai h r9 20 (((93 : Int32) + x2_2) + (1 : Int32))).bind fun v10 =>
        (ss_ai h r8 20 ((14 : Int32) + v10)).bind fun v11 =>
        (ss_gr h this 12 9).bind fun r12 =>
        (ss_ai h r12 20 (((93 : Int32) + x2_2) + (2 : Int32))).bind fun v13 =>
        if v11 = v13 then
          mm_M_areNotesSo_j63 N this a1 h x2_2
        else
          some (.inr (.inr ()))
      else
        mm_M_areNotesSo_j63 N this a1 h x2_2
def mm_M_areNotesSo (N : Nat) (this : Option Nat) (a1 : Int32) (h : ss_Hp) : Option Int32 :=
  if ss_is h this 12 = true then
    (ss_lp (mm_M_areNotesSo_b2 N this a1 h) N (0 : Int32)).bind fun e_2 =>
    match e_2 with
    | (.inl ()) =>
      some (1 : Int32)
    | (.inr ()) =>
      some (0 : Int32)
  else none
abbrev ww_M_areNotesSo (p : Program) (l : Launch) (e : Env) (s : State) (m : MethodId) (below : List Frame) (meth : Method) (c : Code) (G : ss_G) (this : Option Nat) (a1 : Int32) (h : ss_Hp) (rr : Int32) (H : Heap) (locs : List Loc) (k n : Nat) (g : JFrame) : Prop := W p l e (headSpec (ss_w yy_M_areNotesSo bb_M_areNotesSo 3 (some .boolean)) ({ frames := 0, cells := 0, slots := 0, locals := 0 })).room s m ([ss_v (ss_b G) this, .int a1] : List Value).toArray below meth c H locs k n (MQ below (ss_Qc G (some (.int rr)) h) ([ss_v (ss_b G) this, .int a1] : List Value).toArray s 0 0 (ss_A G)) g
theorem ck_M_areNotesSo {N : Nat} {this : Option Nat} {a1 : Int32} {h : ss_Hp} {res : Int32} (hm : mm_M_areNotesSo N this a1 h = some res) : ss_is h this 12 = true := (ss_chk hm).1
set_option maxHeartbeats 4000000 in
set_option maxRecDepth 100000 in
theorem cc_M_areNotesSo (l : Launch) (G : ss_G) (N : Nat) (this : Option Nat) (a1 : Int32) (h : ss_Hp) (rr : Int32) (hm : mm_M_areNotesSo N this a1 h = some rr) : ss_Ct l G yy_M_areNotesSo bb_M_areNotesSo 3 (some .boolean) ({ frames := 0, cells := 0, slots := 0, locals := 0 }) [ss_v (ss_b G) this, .int a1] h (some (.int rr)) h := by
  obtain ⟨hck, hm⟩ := ss_chk hm
  refine Met.ofW (cc := bb_M_areNotesSo) (maxL := 3) (ret := (some .boolean)) (by decide) rfl ?_
  intro p e s m args below meth c s₁ B hml hv
  obtain ⟨rfl, hR, hK⟩ := hv
  have hC : CallFix p m c bb_M_areNotesSo 3 s _ lw_g sR_12 := ⟨B.exec, B.bytes, hml, findClass_of_methodNamed B.named, fun w hw => atoms_spec (ws := ss_w yy_M_areNotesSo bb_M_areNotesSo 3 (some .boolean)) B.pre w (List.mem_cons_of_mem _ hw)⟩
  have hx := hC.1
  have hb := hC.2.1
  have hr := B.returns
  have hlocks := B.notSynchronized
  have hS : va_S (ss_A G) s.heap s.heap [] := va_S.rf
  have hl := lv_entry ([ss_v (ss_b G) this, .int a1]) (n := 3) (by simp [lg_sl, ss_v_cat, ss_cat_i, ss_cat_l, ss_cat_r])
  rw [lg_entry_eq]
  generalize (lg_sl ([ss_v (ss_b G) this, .int a1]) ++ List.replicate (3 - (lg_sl ([ss_v (ss_b G) this, .int a1])).length) Slot.unset).toArray = ls at hl ⊢
  have hl : lv_has ls 3 [(0, ss_v (ss_b G) this), (1, .int a1)] := by simpa [lv_args, ss_v_cat, ss_cat_i, ss_cat_l, ss_cat_r] using hl
  refine lv_iconst (v := 0) hx hb dd_M_areNotesSo_0 (by decide) ?_
  refine lv_istore_n (lv' := [(2, .int (0 : Int32)), (0, ss_v (ss_b G) this), (1, .int a1)]) hx hb dd_M_areNotesSo_1 rfl hl (by decide) rfl (fun ls hl => ?_)
  obtain ⟨e_2, he_2, hm⟩ := ss_bind hm
  have X_2_69 : ∀  (H : Heap) (locs : List Loc) (ls : Array Slot), e_2 = (.inl ()) → ss_R G h H → va_S (ss_A G) s.heap H locs → lv_has ls 3 [] → ww_M_areNotesSo p l e s m below meth c G this a1 h rr  H locs 0 0 (F0 m 69 ls []) := by
    intro  H locs ls hq hR hS hl
    rw [hq] at hm
    refine lv_iconst (v := 1) hx hb dd_M_areNotesSo_69 (by decide) ?_
    exact ss_zret hC hr (by decide) hlocks hR hS (ss_with _ hm) dd_M_areNotesSo_70
  have X_2_61 : ∀  (H : Heap) (locs : List Loc) (ls : Array Slot), e_2 = (.inr ()) → ss_R G h H → va_S (ss_A G) s.heap H locs → lv_has ls 3 [] → ww_M_areNotesSo p l e s m below meth c G this a1 h rr  H locs 0 0 (F0 m 61 ls []) := by
    intro  H locs ls hq hR hS hl
    rw [hq] at hm
    refine lv_iconst (v := 0) hx hb dd_M_areNotesSo_61 (by decide) ?_
    exact ss_zret hC hr (by decide) hlocks hR hS (ss_with _ hm) dd_M_areNotesSo_62
  have L_2 : ∀ (n : Nat) (x2_2 : Int32) (H : Heap) (locs : List Loc) (ls : Array Slot), ss_lp (mm_M_areNotesSo_b2 N this a1 h) n x2_2 = some e_2 → ss_R G h H → va_S (ss_A G) s.heap H locs → lv_has ls 3 [(0, ss_v (ss_b G) this), (1, .int a1), (2, .int x2_2)] → ww_M_areNotesSo p l e s m below meth c G this a1 h rr  H locs 0 0 (F0 m 2 ls []) := by
    intro n
    induction n with
    | zero => intro x2_2 H locs ls hm; cases hm
    | succ n ih_2 =>
      intro x2_2 H locs ls hm hR hS hl
      obtain ⟨z_2, hm, hz1_2, hz2_2⟩ := ss_lps hm
      have J_63 : ∀ (x2_63 : Int32) (H : Heap) (locs : List Loc) (ls : Array Slot), mm_M_areNotesSo_j63 N this a1 h x2_63 = some z_2 → ss_R G h H → va_S (ss_A G) s.heap H locs → lv_has ls 3 [(0, ss_v (ss_b G) this), (1, .int a1), (2, .int x2_63)] → ww_M_areNotesSo p l e s m below meth c G this a1 h rr  H locs 0 0 (F0 m 63 ls []) := by
        intro x2_63 H locs ls hm hR hS hl
        obtain ⟨v1, qv1, hm⟩ := ss_bind hm
        refine lv_iinc (v := v1) (lv' := [(2, .int v1), (0, ss_v (ss_b G) this), (1, .int a1)]) hx hb dd_M_areNotesSo_63 hl (k := 2) rfl (ss_inc (by decide) qv1) (by decide) rfl (fun ls hl => ?_)
        refine lv_goto (tgt := 2) hx hb dd_M_areNotesSo_66 (by decide) ?_
        exact ih_2 v1  _ _ _ (hz1_2 _ (ss_some hm)) hR hS (lv_sub hl [1, 2, 0] rfl)
      refine lv_iload_n hx hb dd_M_areNotesSo_2 rfl (lv_at hl 2 rfl) ?_
      refine lv_iconst (v := 3) hx hb dd_M_areNotesSo_3 (by decide) ?_
      refine ss_aload_n hx hb dd_M_areNotesSo_4 rfl (lv_at hl 0 rfl) ?_
      obtain ⟨r2, qr2, hm⟩ := ss_bind hm
      refine ss_getr hC hK hR kf_M_39 rfl qr2 dd_M_areNotesSo_5 ?_
      refine lv_bipush (v := 123) hx hb dd_M_areNotesSo_8 (by decide) ?_
      obtain ⟨v3, qv3, hm⟩ := ss_bind hm
      refine ss_iald hC hK hR qv3 dd_M_areNotesSo_10 ?_
      refine lv_imul hx hb dd_M_areNotesSo_11 ?_
      refine lv_icmp_ge (tgt := 69) hx hb dd_M_areNotesSo_12 (by decide) (fun c4 => ?_) (fun c4 => ?_)
      · have hm := ss_ift hm c4
        exact X_2_69  _ _ _ (hz2_2 _ (ss_some hm)) hR hS (lv_sub hl [] rfl)
      · have hm := ss_iff hm c4
        refine ss_aload_n hx hb dd_M_areNotesSo_15 rfl (lv_at hl 0 rfl) ?_
        obtain ⟨r5, qr5, hm⟩ := ss_bind hm
        refine ss_getr hC hK hR kf_M_39 rfl qr5 dd_M_areNotesSo_16 ?_
        refine lv_bipush (v := 93) hx hb dd_M_areNotesSo_19 (by decide) ?_
        refine lv_iload_n hx hb dd_M_areNotesSo_21 rfl (lv_at hl 2 rfl) ?_
        refine lv_iadd hx hb dd_M_areNotesSo_22 ?_
        obtain ⟨v6, qv6, hm⟩ := ss_bind hm
        refine ss_iald hC hK hR qv6 dd_M_areNotesSo_23 ?_
        refine lv_iload_n hx hb dd_M_areNotesSo_24 rfl (lv_at hl 1 rfl) ?_
        refine lv_icmp_ne (tgt := 63) hx hb dd_M_areNotesSo_25 (by decide) (fun c7 => ?_) (fun c7 => ?_)
        · have hm := ss_iff hm c7
          exact J_63 x2_2  _ _ _ hm hR hS hl
        · have hm := ss_ift hm c7
          refine ss_aload_n hx hb dd_M_areNotesSo_28 rfl (lv_at hl 0 rfl) ?_
          obtain ⟨r8, qr8, hm⟩ := ss_bind hm
          refine ss_getr hC hK hR kf_M_39 rfl qr8 dd_M_areNotesSo_29 ?_
          refine lv_bipush (v := 14) hx hb dd_M_areNotesSo_32 (by decide) ?_
          refine ss_aload_n hx hb dd_M_areNotesSo_34 rfl (lv_at hl 0 rfl) ?_
          obtain ⟨r9, qr9, hm⟩ := ss_bind hm
          refine ss_getr hC hK hR kf_M_39 rfl qr9 dd_M_areNotesSo_35 ?_
          refine lv_bipush (v := 93) hx hb dd_M_areNotesSo_38 (by decide) ?_
          refine lv_iload_n hx hb dd_M_areNotesSo_40 rfl (lv_at hl 2 rfl) ?_
          refine lv_iadd hx hb dd_M_areNotesSo_41 ?_
          refine lv_iconst (v := 1) hx hb dd_M_areNotesSo_42 (by decide) ?_
          refine lv_iadd hx hb dd_M_areNotesSo_43 ?_
          obtain ⟨v10, qv10, hm⟩ := ss_bind hm
          refine ss_iald hC hK hR qv10 dd_M_areNotesSo_44 ?_
          refine lv_iadd hx hb dd_M_areNotesSo_45 ?_
          obtain ⟨v11, qv11, hm⟩ := ss_bind hm
          refine ss_iald hC hK hR qv11 dd_M_areNotesSo_46 ?_
          refine ss_aload_n hx hb dd_M_areNotesSo_47 rfl (lv_at hl 0 rfl) ?_
          obtain ⟨r12, qr12, hm⟩ := ss_bind hm
          refine ss_getr hC hK hR kf_M_39 rfl qr12 dd_M_areNotesSo_48 ?_
          refine lv_bipush (v := 93) hx hb dd_M_areNotesSo_51 (by decide) ?_
          refine lv_iload_n hx hb dd_M_areNotesSo_53 rfl (lv_at hl 2 rfl) ?_
          refine lv_iadd hx hb dd_M_areNotesSo_54 ?_
          refine lv_iconst (v := 2) hx hb dd_M_areNotesSo_55 (by decide) ?_
          refine lv_iadd hx hb dd_M_areNotesSo_56 ?_
          obtain ⟨v13, qv13, hm⟩ := ss_bind hm
          refine ss_iald hC hK hR qv13 dd_M_areNotesSo_57 ?_
          refine lv_icmp_eq (tgt := 63) hx hb dd_M_areNotesSo_58 (by decide) (fun c14 => ?_) (fun c14 => ?_)
          · have hm := ss_ift hm c14
            exact J_63 x2_2  _ _ _ hm hR hS hl
          · have hm := ss_iff hm c14
            exact X_2_61  _ _ _ (hz2_2 _ (ss_some hm)) hR hS (lv_sub hl [] rfl)
  exact L_2 N (0 : Int32) _ _ _ he_2 hR hS (lv_sub hl [1, 2, 0] rfl)
theorem dd_M_fillsFits_0 : decode bb_M_fillsFits 0 = .ok (.aload_n 0, 1) := by decide +kernel
theorem dd_M_fillsFits_1 : decode bb_M_fillsFits 1 = .ok (.getfield 42, 3) := by decide +kernel
theorem dd_M_fillsFits_4 : decode bb_M_fillsFits 4 = .ok (.istore_n 2, 1) := by decide +kernel
theorem dd_M_fillsFits_5 : decode bb_M_fillsFits 5 = .ok (.aload_n 0, 1) := by decide +kernel
theorem dd_M_fillsFits_6 : decode bb_M_fillsFits 6 = .ok (.invokevirtual 385, 3) := by decide +kernel
theorem dd_M_fillsFits_9 : decode bb_M_fillsFits 9 = .ok (.iconst 0, 1) := by decide +kernel
theorem dd_M_fillsFits_10 : decode bb_M_fillsFits 10 = .ok (.istore_n 3, 1) := by decide +kernel
theorem dd_M_fillsFits_11 : decode bb_M_fillsFits 11 = .ok (.iload_n 3, 1) := by decide +kernel
theorem dd_M_fillsFits_12 : decode bb_M_fillsFits 12 = .ok (.aload_n 0, 1) := by decide +kernel
theorem dd_M_fillsFits_13 : decode bb_M_fillsFits 13 = .ok (.getfield 280, 3) := by decide +kernel
theorem dd_M_fillsFits_16 : decode bb_M_fillsFits 16 = .ok (.if_icmp .gt 117, 3) := by decide +kernel
theorem dd_M_fillsFits_19 : decode bb_M_fillsFits 19 = .ok (.aload_n 0, 1) := by decide +kernel
theorem dd_M_fillsFits_20 : decode bb_M_fillsFits 20 = .ok (.iload_n 3, 1) := by decide +kernel
theorem dd_M_fillsFits_21 : decode bb_M_fillsFits 21 = .ok (.iconst 1, 1) := by decide +kernel
theorem dd_M_fillsFits_22 : decode bb_M_fillsFits 22 = .ok (.isub, 1) := by decide +kernel
theorem dd_M_fillsFits_23 : decode bb_M_fillsFits 23 = .ok (.putfield 42, 3) := by decide +kernel
theorem dd_M_fillsFits_26 : decode bb_M_fillsFits 26 = .ok (.aload_n 0, 1) := by decide +kernel
theorem dd_M_fillsFits_27 : decode bb_M_fillsFits 27 = .ok (.invokevirtual 286, 3) := by decide +kernel
theorem dd_M_fillsFits_30 : decode bb_M_fillsFits 30 = .ok (.iconst 1, 1) := by decide +kernel
theorem dd_M_fillsFits_31 : decode bb_M_fillsFits 31 = .ok (.istore 4, 2) := by decide +kernel
theorem dd_M_fillsFits_33 : decode bb_M_fillsFits 33 = .ok (.iconst 0, 1) := by decide +kernel
theorem dd_M_fillsFits_34 : decode bb_M_fillsFits 34 = .ok (.istore 5, 2) := by decide +kernel
theorem dd_M_fillsFits_36 : decode bb_M_fillsFits 36 = .ok (.iload 5, 2) := by decide +kernel
theorem dd_M_fillsFits_38 : decode bb_M_fillsFits 38 = .ok (.bipush 60, 2) := by decide +kernel
theorem dd_M_fillsFits_40 : decode bb_M_fillsFits 40 = .ok (.if_icmp .gt 79, 3) := by decide +kernel
theorem dd_M_fillsFits_43 : decode bb_M_fillsFits 43 = .ok (.iload 4, 2) := by decide +kernel
theorem dd_M_fillsFits_45 : decode bb_M_fillsFits 45 = .ok (.ifCond .eq 16, 3) := by decide +kernel
theorem dd_M_fillsFits_48 : decode bb_M_fillsFits 48 = .ok (.aload_n 0, 1) := by decide +kernel
theorem dd_M_fillsFits_49 : decode bb_M_fillsFits 49 = .ok (.iload 5, 2) := by decide +kernel
theorem dd_M_fillsFits_51 : decode bb_M_fillsFits 51 = .ok (.invokevirtual 432, 3) := by decide +kernel
theorem dd_M_fillsFits_54 : decode bb_M_fillsFits 54 = .ok (.ifCond .eq 7, 3) := by decide +kernel
theorem dd_M_fillsFits_57 : decode bb_M_fillsFits 57 = .ok (.iconst 1, 1) := by decide +kernel
theorem dd_M_fillsFits_58 : decode bb_M_fillsFits 58 = .ok (.goto 4, 3) := by decide +kernel
theorem dd_M_fillsFits_61 : decode bb_M_fillsFits 61 = .ok (.iconst 0, 1) := by decide +kernel
theorem dd_M_fillsFits_62 : decode bb_M_fillsFits 62 = .ok (.istore 4, 2) := by decide +kernel
theorem dd_M_fillsFits_64 : decode bb_M_fillsFits 64 = .ok (.iconst 0, 1) := by decide +kernel
theorem dd_M_fillsFits_65 : decode bb_M_fillsFits 65 = .ok (.istore 6, 2) := by decide +kernel
theorem dd_M_fillsFits_67 : decode bb_M_fillsFits 67 = .ok (.iload 6, 2) := by decide +kernel
theorem dd_M_fillsFits_69 : decode bb_M_fillsFits 69 = .ok (.bipush 8, 2) := by decide +kernel
theorem dd_M_fillsFits_71 : decode bb_M_fillsFits 71 = .ok (.if_icmp .ge 37, 3) := by decide +kernel
theorem dd_M_fillsFits_74 : decode bb_M_fillsFits 74 = .ok (.iload 5, 2) := by decide +kernel
theorem dd_M_fillsFits_76 : decode bb_M_fillsFits 76 = .ok (.iload_n 1, 1) := by decide +kernel
theorem dd_M_fillsFits_77 : decode bb_M_fillsFits 77 = .ok (.if_icmp .ne 31, 3) := by decide +kernel
theorem dd_M_fillsFits_80 : decode bb_M_fillsFits 80 = .ok (.aload_n 0, 1) := by decide +kernel
theorem dd_M_fillsFits_81 : decode bb_M_fillsFits 81 = .ok (.getfield 71, 3) := by decide +kernel
theorem dd_M_fillsFits_84 : decode bb_M_fillsFits 84 = .ok (.bipush 8, 2) := by decide +kernel
theorem dd_M_fillsFits_86 : decode bb_M_fillsFits 86 = .ok (.iload_n 3, 1) := by decide +kernel
theorem dd_M_fillsFits_87 : decode bb_M_fillsFits 87 = .ok (.imul, 1) := by decide +kernel
theorem dd_M_fillsFits_88 : decode bb_M_fillsFits 88 = .ok (.iload 6, 2) := by decide +kernel
theorem dd_M_fillsFits_90 : decode bb_M_fillsFits 90 = .ok (.iadd, 1) := by decide +kernel
theorem dd_M_fillsFits_91 : decode bb_M_fillsFits 91 = .ok (.aload_n 0, 1) := by decide +kernel
theorem dd_M_fillsFits_92 : decode bb_M_fillsFits 92 = .ok (.getfield 39, 3) := by decide +kernel
theorem dd_M_fillsFits_95 : decode bb_M_fillsFits 95 = .ok (.bipush 14, 2) := by decide +kernel
theorem dd_M_fillsFits_97 : decode bb_M_fillsFits 97 = .ok (.iload 6, 2) := by decide +kernel
theorem dd_M_fillsFits_99 : decode bb_M_fillsFits 99 = .ok (.iadd, 1) := by decide +kernel
theorem dd_M_fillsFits_100 : decode bb_M_fillsFits 100 = .ok (.iaload, 1) := by decide +kernel
theorem dd_M_fillsFits_101 : decode bb_M_fillsFits 101 = .ok (.iastore, 1) := by decide +kernel
theorem dd_M_fillsFits_102 : decode bb_M_fillsFits 102 = .ok (.iinc 6 1, 3) := by decide +kernel
theorem dd_M_fillsFits_105 : decode bb_M_fillsFits 105 = .ok (.goto (-38), 3) := by decide +kernel
theorem dd_M_fillsFits_108 : decode bb_M_fillsFits 108 = .ok (.aload_n 0, 1) := by decide +kernel
theorem dd_M_fillsFits_109 : decode bb_M_fillsFits 109 = .ok (.invokevirtual 372, 3) := by decide +kernel
theorem dd_M_fillsFits_112 : decode bb_M_fillsFits 112 = .ok (.pop, 1) := by decide +kernel
theorem dd_M_fillsFits_113 : decode bb_M_fillsFits 113 = .ok (.iinc 5 1, 3) := by decide +kernel
theorem dd_M_fillsFits_116 : decode bb_M_fillsFits 116 = .ok (.goto (-80), 3) := by decide +kernel
theorem dd_M_fillsFits_119 : decode bb_M_fillsFits 119 = .ok (.aload_n 0, 1) := by decide +kernel
theorem dd_M_fillsFits_120 : decode bb_M_fillsFits 120 = .ok (.getfield 67, 3) := by decide +kernel
theorem dd_M_fillsFits_123 : decode bb_M_fillsFits 123 = .ok (.iload_n 3, 1) := by decide +kernel
theorem dd_M_fillsFits_124 : decode bb_M_fillsFits 124 = .ok (.iload 4, 2) := by decide +kernel
theorem dd_M_fillsFits_126 : decode bb_M_fillsFits 126 = .ok (.bastore, 1) := by decide +kernel
theorem dd_M_fillsFits_127 : decode bb_M_fillsFits 127 = .ok (.iinc 3 1, 3) := by decide +kernel
theorem dd_M_fillsFits_130 : decode bb_M_fillsFits 130 = .ok (.goto (-119), 3) := by decide +kernel
theorem dd_M_fillsFits_133 : decode bb_M_fillsFits 133 = .ok (.aload_n 0, 1) := by decide +kernel
theorem dd_M_fillsFits_134 : decode bb_M_fillsFits 134 = .ok (.iload_n 2, 1) := by decide +kernel
theorem dd_M_fillsFits_135 : decode bb_M_fillsFits 135 = .ok (.putfield 42, 3) := by decide +kernel
theorem dd_M_fillsFits_138 : decode bb_M_fillsFits 138 = .ok (.aload_n 0, 1) := by decide +kernel
theorem dd_M_fillsFits_139 : decode bb_M_fillsFits 139 = .ok (.invokevirtual 388, 3) := by decide +kernel
theorem dd_M_fillsFits_142 : decode bb_M_fillsFits 142 = .ok (.return_, 1) := by decide +kernel
def mm_M_fillsFits_b67 (N : Nat) (this : Option Nat) (a1 : Int32) (v1 : Int32) (x3_11 : Int32) (s0_62 : Int32) (x5_62 : Int32) (st : Int32 × ss_Hp) : Option ((Int32 × ss_Hp) ⊕ ss_Hp) :=
  match st with
  | (x6_67, h_67) =>
    if (8 : Int32) ≤ x6_67 then
      some (.inr h_67)
    else
      if x5_62 = a1 then
        (ss_gr h_67 this 12 18).bind fun r17 =>
        (ss_gr h_67 this 12 9).bind fun r18 =>
        (ss_ai h_67 r18 20 ((14 : Int32) + x6_67)).bind fun v19 =>
        (ss_ui h_67 r17 20 (((8 : Int32) * x3_11) + x6_67) v19).bind fun h20 =>
        (some (x6_67 + (1 : Int32))).bind fun v21 =>
        some (.inl (v21, h20))
      else
        some (.inr h_67)
def mm_M_fillsFits_j62 (N : Nat) (this : Option Nat) (a1 : Int32) (v1 : Int32) (x3_11 : Int32) (x5_62 : Int32) (s0_62 : Int32) (h_62 : ss_Hp) : Option ((Int32 × Int32 × ss_Hp) ⊕ (Int32 × ss_Hp)) :=
  (ss_lp (mm_M_fillsFits_b67 N this a1 v1 x3_11 s0_62 x5_62) N ((0 : Int32), h_62)).bind fun h_67_108 =>
  ss_b2 (mm_M_passes N this h_67_108) fun v12 h13 =>
  (some (x5_62 + (1 : Int32))).bind fun v14 =>
  some (.inl (s0_62, v14, h13))
def mm_M_fillsFits_j61 (N : Nat) (this : Option Nat) (a1 : Int32) (v1 : Int32) (x3_11 : Int32) (x5_61 : Int32) (h_61 : ss_Hp) : Option ((Int32 × Int32 × ss_Hp) ⊕ (Int32 × ss_Hp)) :=
  mm_M_fillsFits_j62 N this a1 v1 x3_11 x5_61 (0 : Int32) h_61
def mm_M_fillsFits_b36 (N : Nat) (this : Option Nat) (a1 : Int32) (v1 : Int32) (x3_11 : Int32) (st : Int32 × Int32 × ss_Hp) : Option ((Int32 × Int32 × ss_Hp) ⊕ (Int32 × ss_Hp)) :=
  match st with
  | (x4_36, x5_36, h_36) =>
    if (60 : Int32) < x5_36 then
      some (.inr (x4_36, h_36))
    else
      if x4_36 = 0 then
        mm_M_fillsFits_j61 N this a1 v1 x3_11 x5_36 h_36
      else
        (mm_M_areNotesSo N this x5_36 h_36).bind fun v24 =>
        if v24 = 0 then
          mm_M_fillsFits_j61 N this a1 v1 x3_11 x5_36 h_36
        else
          mm_M_fillsFits_j62 N this a1 v1 x3_11 x5_36 (1 : Int32) h_36
def mm_M_fillsFits_b11 (N : Nat) (this : Option Nat) (a1 : Int32) (v1 : Int32) (st : Int32 × ss_Hp) : Option ((Int32 × ss_Hp) ⊕ ss_Hp) :=
  match st with
  | (x3_11, h_11) =>
    (ss_gi h_11 this 12 1).bind fun v5 =>
    if v5 < x3_11 then
      some (.inr h_11)
    else
      (ss_pi h_11 this 12 13 (x3_11 - (1 : Int32))).bind fun h7 =>
      (mm_M_begins N this h7).bind fun h8 =>
      (ss_lp (mm_M_fillsFits_b36 N this a1 v1 x3_11) N ((1 : Int32), (0 : Int32), h8)).bind fun e_36 =>
      match e_36 with
      | (y4_36_119, h_36_119) =>
        (ss_gr h_36_119 this 12 17).bind fun r9 =>
        (ss_ui h_36_119 r9 22 x3_11 (vp_nar .boolean y4_36_119)).bind fun h10 =>
        (some (x3_11 + (1 : Int32))).bind fun v11 =>
        some (.inl (v11, h10))
def mm_M_fillsFits (N : Nat) (this : Option Nat) (a1 : Int32) (h : ss_Hp) : Option ss_Hp :=
  if ss_is h this 12 = true then
    (ss_gi h this 12 13).bind fun v1 =>
    (mm_M_keeps N this h).bind fun h2 =>
    (ss_lp (mm_M_fillsFits_b11 N this a1 v1) N ((0 : Int32), h2)).bind fun h_11_133 =>
    (ss_pi h_11_133 this 12 13 v1).bind fun h3 =>
    (mm_M_laysBack N this h3).bind fun h4 =>
    some h4
  else none
abbrev ww_M_fillsFits (p : Program) (l : Launch) (e : Env) (s : State) (m : MethodId) (below : List Frame) (meth : Method) (c : Code) (G : ss_G) (this : Option Nat) (a1 : Int32) (h : ss_Hp) (hh : ss_Hp) (H : Heap) (locs : List Loc) (k n : Nat) (g : JFrame) : Prop := W p l e (headSpec (ss_w yy_M_fillsFits bb_M_fillsFits 7 none) ({ frames := 5, cells := 0, slots := 0, locals := 126 })).room s m ([ss_v (ss_b G) this, .int a1] : List Value).toArray below meth c H locs k n (MQ below (ss_Qc G none hh) ([ss_v (ss_b G) this, .int a1] : List Value).toArray s 0 0 (ss_A G)) g
theorem ck_M_fillsFits {N : Nat} {this : Option Nat} {a1 : Int32} {h : ss_Hp} {res : ss_Hp} (hm : mm_M_fillsFits N this a1 h = some res) : ss_is h this 12 = true := (ss_chk hm).1
set_option maxHeartbeats 4000000 in
set_option maxRecDepth 100000 in
theorem cc_M_fillsFits (l : Launch) (G : ss_G) (N : Nat) (this : Option Nat) (a1 : Int32) (h : ss_Hp) (hh : ss_Hp) (hm : mm_M_fillsFits N this a1 h = some hh) : ss_Ct l G yy_M_fillsFits bb_M_fillsFits 7 none ({ frames := 5, cells := 0, slots := 0, locals := 126 }) [ss_v (ss_b G) this, .int a1] h none hh := by
  obtain ⟨hck, hm⟩ := ss_chk hm
  refine Met.ofW (cc := bb_M_fillsFits) (maxL := 7) (ret := none) (by decide) rfl ?_
  intro p e s m args below meth c s₁ B hml hv
  obtain ⟨rfl, hR, hK⟩ := hv
  have hC : CallFix p m c bb_M_fillsFits 7 s _ lw_g sR_12 := ⟨B.exec, B.bytes, hml, findClass_of_methodNamed B.named, fun w hw => atoms_spec (ws := ss_w yy_M_fillsFits bb_M_fillsFits 7 none) B.pre w (List.mem_cons_of_mem _ hw)⟩
  have hx := hC.1
  have hb := hC.2.1
  have hr := B.returns
  have hlocks := B.notSynchronized
  have hS : va_S (ss_A G) s.heap s.heap [] := va_S.rf
  have hl := lv_entry ([ss_v (ss_b G) this, .int a1]) (n := 7) (by simp [lg_sl, ss_v_cat, ss_cat_i, ss_cat_l, ss_cat_r])
  rw [lg_entry_eq]
  generalize (lg_sl ([ss_v (ss_b G) this, .int a1]) ++ List.replicate (7 - (lg_sl ([ss_v (ss_b G) this, .int a1])).length) Slot.unset).toArray = ls at hl ⊢
  have hl : lv_has ls 7 [(0, ss_v (ss_b G) this), (1, .int a1)] := by simpa [lv_args, ss_v_cat, ss_cat_i, ss_cat_l, ss_cat_r] using hl
  refine ss_aload_n hx hb dd_M_fillsFits_0 rfl (lv_at hl 0 rfl) ?_
  obtain ⟨v1, qv1, hm⟩ := ss_bind hm
  refine ss_geti hC hK hR kf_M_42 qv1 dd_M_fillsFits_1 ?_
  refine lv_istore_n (lv' := [(2, .int v1), (0, ss_v (ss_b G) this), (1, .int a1)]) hx hb dd_M_fillsFits_4 rfl hl (by decide) rfl (fun ls hl => ?_)
  refine ss_aload_n hx hb dd_M_fillsFits_5 rfl (lv_at hl 1 rfl) ?_
  obtain ⟨h2, qh2, hm⟩ := ss_bind hm
  refine ss_cVv 0 0 (As := []) hC hK hR hS hl.1 (cc_M_keeps l G N _ _ _ qh2) km_M_385 (ck_M_keeps qh2) ⟨Nat.le_of_ble_eq_true rfl, Nat.le_of_ble_eq_true rfl⟩ ⟨Nat.le_of_ble_eq_true rfl, Nat.le_of_ble_eq_true rfl, Nat.le_of_ble_eq_true rfl, Nat.le_of_ble_eq_true rfl⟩ rfl rfl (Nat.le_of_ble_eq_true rfl) dd_M_fillsFits_6 (fun H locs hR hS => ?_)
  refine lv_iconst (v := 0) hx hb dd_M_fillsFits_9 (by decide) ?_
  refine lv_istore_n (lv' := [(3, .int (0 : Int32)), (2, .int v1), (0, ss_v (ss_b G) this), (1, .int a1)]) hx hb dd_M_fillsFits_10 rfl hl (by decide) rfl (fun ls hl => ?_)
  obtain ⟨e_11, he_11, hm⟩ := ss_bind hm
  have X_11_133 : ∀  (h_11_133 : ss_Hp) (H : Heap) (locs : List Loc) (ls : Array Slot), e_11 = h_11_133 → ss_R G h_11_133 H → va_S (ss_A G) s.heap H locs → lv_has ls 7 [(0, ss_v (ss_b G) this), (2, .int v1)] → ww_M_fillsFits p l e s m below meth c G this a1 h hh  H locs 0 0 (F0 m 133 ls []) := by
    intro h_11_133 H locs ls hq hR hS hl
    rw [hq] at hm
    refine ss_aload_n hx hb dd_M_fillsFits_133 rfl (lv_at hl 0 rfl) ?_
    refine lv_iload_n hx hb dd_M_fillsFits_134 rfl (lv_at hl 1 rfl) ?_
    obtain ⟨h3, qh3, hm⟩ := ss_bind hm
    refine ss_puti hC hK hR hS kp_M_42 qh3 dd_M_fillsFits_135 (fun H locs hR hS => ?_)
    refine ss_aload_n hx hb dd_M_fillsFits_138 rfl (lv_at hl 0 rfl) ?_
    obtain ⟨h4, qh4, hm⟩ := ss_bind hm
    refine ss_cVv 0 0 (As := []) hC hK hR hS hl.1 (cc_M_laysBack l G N _ _ _ qh4) km_M_388 (ck_M_laysBack qh4) ⟨Nat.le_of_ble_eq_true rfl, Nat.le_of_ble_eq_true rfl⟩ ⟨Nat.le_of_ble_eq_true rfl, Nat.le_of_ble_eq_true rfl, Nat.le_of_ble_eq_true rfl, Nat.le_of_ble_eq_true rfl⟩ rfl rfl (Nat.le_of_ble_eq_true rfl) dd_M_fillsFits_139 (fun H locs hR hS => ?_)
    exact ss_vret hC hr hlocks hR hS hm dd_M_fillsFits_142
  have L_11 : ∀ (n : Nat) (x3_11 : Int32) (h_11 : ss_Hp) (H : Heap) (locs : List Loc) (ls : Array Slot), ss_lp (mm_M_fillsFits_b11 N this a1 v1) n (x3_11, h_11) = some e_11 → ss_R G h_11 H → va_S (ss_A G) s.heap H locs → lv_has ls 7 [(0, ss_v (ss_b G) this), (1, .int a1), (2, .int v1), (3, .int x3_11)] → ww_M_fillsFits p l e s m below meth c G this a1 h hh  H locs 0 0 (F0 m 11 ls []) := by
    intro n
    induction n with
    | zero => intro x3_11 h_11 H locs ls hm; cases hm
    | succ n ih_11 =>
      intro x3_11 h_11 H locs ls hm hR hS hl
      obtain ⟨z_11, hm, hz1_11, hz2_11⟩ := ss_lps hm
      refine lv_iload_n hx hb dd_M_fillsFits_11 rfl (lv_at hl 3 rfl) ?_
      refine ss_aload_n hx hb dd_M_fillsFits_12 rfl (lv_at hl 0 rfl) ?_
      obtain ⟨v5, qv5, hm⟩ := ss_bind hm
      refine ss_geti hC hK hR kf_M_280 qv5 dd_M_fillsFits_13 ?_
      refine lv_icmp_gt (tgt := 133) hx hb dd_M_fillsFits_16 (by decide) (fun c6 => ?_) (fun c6 => ?_)
      · have hm := ss_ift hm c6
        exact X_11_133 h_11 _ _ _ (hz2_11 _ (ss_some hm)) hR hS (lv_sub hl [0, 2] rfl)
      · have hm := ss_iff hm c6
        refine ss_aload_n hx hb dd_M_fillsFits_19 rfl (lv_at hl 0 rfl) ?_
        refine lv_iload_n hx hb dd_M_fillsFits_20 rfl (lv_at hl 3 rfl) ?_
        refine lv_iconst (v := 1) hx hb dd_M_fillsFits_21 (by decide) ?_
        refine lv_isub hx hb dd_M_fillsFits_22 ?_
        obtain ⟨h7, qh7, hm⟩ := ss_bind hm
        refine ss_puti hC hK hR hS kp_M_42 qh7 dd_M_fillsFits_23 (fun H locs hR hS => ?_)
        refine ss_aload_n hx hb dd_M_fillsFits_26 rfl (lv_at hl 0 rfl) ?_
        obtain ⟨h8, qh8, hm⟩ := ss_bind hm
        refine ss_cVv 0 0 (As := []) hC hK hR hS hl.1 (cc_M_begins l G N _ _ _ qh8) km_M_286 (ck_M_begins qh8) ⟨Nat.le_of_ble_eq_true rfl, Nat.le_of_ble_eq_true rfl⟩ ⟨Nat.le_of_ble_eq_true rfl, Nat.le_of_ble_eq_true rfl, Nat.le_of_ble_eq_true rfl, Nat.le_of_ble_eq_true rfl⟩ rfl rfl (Nat.le_of_ble_eq_true rfl) dd_M_fillsFits_27 (fun H locs hR hS => ?_)
        refine lv_iconst (v := 1) hx hb dd_M_fillsFits_30 (by decide) ?_
        refine lv_istore (lv' := [(4, .int (1 : Int32)), (0, ss_v (ss_b G) this), (1, .int a1), (2, .int v1), (3, .int x3_11)]) hx hb dd_M_fillsFits_31 hl (by decide) rfl (fun ls hl => ?_)
        refine lv_iconst (v := 0) hx hb dd_M_fillsFits_33 (by decide) ?_
        refine lv_istore (lv' := [(5, .int (0 : Int32)), (4, .int (1 : Int32)), (0, ss_v (ss_b G) this), (1, .int a1), (2, .int v1), (3, .int x3_11)]) hx hb dd_M_fillsFits_34 hl (by decide) rfl (fun ls hl => ?_)
        obtain ⟨e_36, he_36, hm⟩ := ss_bind hm
        have X_36_119 : ∀ (y4_36_119 : Int32) (h_36_119 : ss_Hp) (H : Heap) (locs : List Loc) (ls : Array Slot), e_36 = (y4_36_119, h_36_119) → ss_R G h_36_119 H → va_S (ss_A G) s.heap H locs → lv_has ls 7 [(0, ss_v (ss_b G) this), (1, .int a1), (2, .int v1), (3, .int x3_11), (4, .int y4_36_119)] → ww_M_fillsFits p l e s m below meth c G this a1 h hh  H locs 0 0 (F0 m 119 ls []) := by
          intro y4_36_119 h_36_119 H locs ls hq hR hS hl
          rw [hq] at hm
          refine ss_aload_n hx hb dd_M_fillsFits_119 rfl (lv_at hl 0 rfl) ?_
          obtain ⟨r9, qr9, hm⟩ := ss_bind hm
          refine ss_getr hC hK hR kf_M_67 rfl qr9 dd_M_fillsFits_120 ?_
          refine lv_iload_n hx hb dd_M_fillsFits_123 rfl (lv_at hl 3 rfl) ?_
          refine lv_iload hx hb dd_M_fillsFits_124 (lv_at hl 4 rfl) ?_
          obtain ⟨h10, qh10, hm⟩ := ss_bind hm
          refine ss_zast hC hK hR hS qh10 dd_M_fillsFits_126 (fun H locs hR hS => ?_)
          obtain ⟨v11, qv11, hm⟩ := ss_bind hm
          refine lv_iinc (v := v11) (lv' := [(3, .int v11), (0, ss_v (ss_b G) this), (1, .int a1), (2, .int v1), (4, .int y4_36_119)]) hx hb dd_M_fillsFits_127 hl (k := 3) rfl (ss_inc (by decide) qv11) (by decide) rfl (fun ls hl => ?_)
          refine lv_goto (tgt := 11) hx hb dd_M_fillsFits_130 (by decide) ?_
          exact ih_11 v11 h10 _ _ _ (hz1_11 _ (ss_some hm)) hR hS (lv_sub hl [1, 2, 3, 0] rfl)
        have L_36 : ∀ (n : Nat) (x4_36 : Int32) (x5_36 : Int32) (h_36 : ss_Hp) (H : Heap) (locs : List Loc) (ls : Array Slot), ss_lp (mm_M_fillsFits_b36 N this a1 v1 x3_11) n (x4_36, x5_36, h_36) = some e_36 → ss_R G h_36 H → va_S (ss_A G) s.heap H locs → lv_has ls 7 [(0, ss_v (ss_b G) this), (1, .int a1), (2, .int v1), (3, .int x3_11), (4, .int x4_36), (5, .int x5_36)] → ww_M_fillsFits p l e s m below meth c G this a1 h hh  H locs 0 0 (F0 m 36 ls []) := by
          intro n
          induction n with
          | zero => intro x4_36 x5_36 h_36 H locs ls hm; cases hm
          | succ n ih_36 =>
            intro x4_36 x5_36 h_36 H locs ls hm hR hS hl
            obtain ⟨z_36, hm, hz1_36, hz2_36⟩ := ss_lps hm
            have J_62 : ∀ (x5_62 : Int32) (s0_62 : Int32) (h_62 : ss_Hp) (H : Heap) (locs : List Loc) (ls : Array Slot), mm_M_fillsFits_j62 N this a1 v1 x3_11 x5_62 s0_62 h_62 = some z_36 → ss_R G h_62 H → va_S (ss_A G) s.heap H locs → lv_has ls 7 [(0, ss_v (ss_b G) this), (1, .int a1), (2, .int v1), (3, .int x3_11), (5, .int x5_62)] → ww_M_fillsFits p l e s m below meth c G this a1 h hh  H locs 0 0 (F0 m 62 ls [.int s0_62]) := by
              intro x5_62 s0_62 h_62 H locs ls hm hR hS hl
              refine lv_istore (lv' := [(4, .int s0_62), (0, ss_v (ss_b G) this), (1, .int a1), (2, .int v1), (3, .int x3_11), (5, .int x5_62)]) hx hb dd_M_fillsFits_62 hl (by decide) rfl (fun ls hl => ?_)
              refine lv_iconst (v := 0) hx hb dd_M_fillsFits_64 (by decide) ?_
              refine lv_istore (lv' := [(6, .int (0 : Int32)), (4, .int s0_62), (0, ss_v (ss_b G) this), (1, .int a1), (2, .int v1), (3, .int x3_11), (5, .int x5_62)]) hx hb dd_M_fillsFits_65 hl (by decide) rfl (fun ls hl => ?_)
              obtain ⟨e_67, he_67, hm⟩ := ss_bind hm
              have X_67_108 : ∀  (h_67_108 : ss_Hp) (H : Heap) (locs : List Loc) (ls : Array Slot), e_67 = h_67_108 → ss_R G h_67_108 H → va_S (ss_A G) s.heap H locs → lv_has ls 7 [(0, ss_v (ss_b G) this), (1, .int a1), (2, .int v1), (3, .int x3_11), (4, .int s0_62), (5, .int x5_62)] → ww_M_fillsFits p l e s m below meth c G this a1 h hh  H locs 0 0 (F0 m 108 ls []) := by
                intro h_67_108 H locs ls hq hR hS hl
                rw [hq] at hm
                refine ss_aload_n hx hb dd_M_fillsFits_108 rfl (lv_at hl 0 rfl) ?_
                obtain ⟨v12, h13, qh13, hm⟩ := ss_bind2 hm
                refine ss_cV 0 0 (As := []) hC hK hR hS hl.1 (cc_M_passes l G N _ _ _ _ qh13) km_M_372 (ck_M_passes qh13) ⟨Nat.le_of_ble_eq_true rfl, Nat.le_of_ble_eq_true rfl⟩ ⟨Nat.le_of_ble_eq_true rfl, Nat.le_of_ble_eq_true rfl, Nat.le_of_ble_eq_true rfl, Nat.le_of_ble_eq_true rfl⟩ rfl rfl (Nat.le_of_ble_eq_true rfl) dd_M_fillsFits_109 (fun H locs hR hS => ?_)
                refine lv_pop hx hb dd_M_fillsFits_112 rfl ?_
                obtain ⟨v14, qv14, hm⟩ := ss_bind hm
                refine lv_iinc (v := v14) (lv' := [(5, .int v14), (0, ss_v (ss_b G) this), (1, .int a1), (2, .int v1), (3, .int x3_11), (4, .int s0_62)]) hx hb dd_M_fillsFits_113 hl (k := 5) rfl (ss_inc (by decide) qv14) (by decide) rfl (fun ls hl => ?_)
                refine lv_goto (tgt := 36) hx hb dd_M_fillsFits_116 (by decide) ?_
                exact ih_36 s0_62 v14 h13 _ _ _ (hz1_36 _ (ss_some hm)) hR hS (lv_sub hl [1, 2, 3, 4, 5, 0] rfl)
              have L_67 : ∀ (n : Nat) (x6_67 : Int32) (h_67 : ss_Hp) (H : Heap) (locs : List Loc) (ls : Array Slot), ss_lp (mm_M_fillsFits_b67 N this a1 v1 x3_11 s0_62 x5_62) n (x6_67, h_67) = some e_67 → ss_R G h_67 H → va_S (ss_A G) s.heap H locs → lv_has ls 7 [(0, ss_v (ss_b G) this), (1, .int a1), (2, .int v1), (3, .int x3_11), (4, .int s0_62), (5, .int x5_62), (6, .int x6_67)] → ww_M_fillsFits p l e s m below meth c G this a1 h hh  H locs 0 0 (F0 m 67 ls []) := by
                intro n
                induction n with
                | zero => intro x6_67 h_67 H locs ls hm; cases hm
                | succ n ih_67 =>
                  intro x6_67 h_67 H locs ls hm hR hS hl
                  obtain ⟨z_67, hm, hz1_67, hz2_67⟩ := ss_lps hm
                  refine lv_iload hx hb dd_M_fillsFits_67 (lv_at hl 6 rfl) ?_
                  refine lv_bipush (v := 8) hx hb dd_M_fillsFits_69 (by decide) ?_
                  refine lv_icmp_ge (tgt := 108) hx hb dd_M_fillsFits_71 (by decide) (fun c15 => ?_) (fun c15 => ?_)
                  · have hm := ss_ift hm c15
                    exact X_67_108 h_67 _ _ _ (hz2_67 _ (ss_some hm)) hR hS (lv_sub hl [0, 1, 2, 3, 4, 5] rfl)
                  · have hm := ss_iff hm c15
                    refine lv_iload hx hb dd_M_fillsFits_74 (lv_at hl 5 rfl) ?_
                    refine lv_iload_n hx hb dd_M_fillsFits_76 rfl (lv_at hl 1 rfl) ?_
                    refine lv_icmp_ne (tgt := 108) hx hb dd_M_fillsFits_77 (by decide) (fun c16 => ?_) (fun c16 => ?_)
                    · have hm := ss_iff hm c16
                      exact X_67_108 h_67 _ _ _ (hz2_67 _ (ss_some hm)) hR hS (lv_sub hl [0, 1, 2, 3, 4, 5] rfl)
                    · have hm := ss_ift hm c16
                      refine ss_aload_n hx hb dd_M_fillsFits_80 rfl (lv_at hl 0 rfl) ?_
                      obtain ⟨r17, qr17, hm⟩ := ss_bind hm
                      refine ss_getr hC hK hR kf_M_71 rfl qr17 dd_M_fillsFits_81 ?_
                      refine lv_bipush (v := 8) hx hb dd_M_fillsFits_84 (by decide) ?_
                      refine lv_iload_n hx hb dd_M_fillsFits_86 rfl (lv_at hl 3 rfl) ?_
                      refine lv_imul hx hb dd_M_fillsFits_87 ?_
                      refine lv_iload hx hb dd_M_fillsFits_88 (lv_at hl 6 rfl) ?_
                      refine lv_iadd hx hb dd_M_fillsFits_90 ?_
                      refine ss_aload_n hx hb dd_M_fillsFits_91 rfl (lv_at hl 0 rfl) ?_
                      obtain ⟨r18, qr18, hm⟩ := ss_bind hm
                      refine ss_getr hC hK hR kf_M_39 rfl qr18 dd_M_fillsFits_92 ?_
                      refine lv_bipush (v := 14) hx hb dd_M_fillsFits_95 (by decide) ?_
                      refine lv_iload hx hb dd_M_fillsFits_97 (lv_at hl 6 rfl) ?_
                      refine lv_iadd hx hb dd_M_fillsFits_99 ?_
                      obtain ⟨v19, qv19, hm⟩ := ss_bind hm
                      refine ss_iald hC hK hR qv19 dd_M_fillsFits_100 ?_
                      obtain ⟨h20, qh20, hm⟩ := ss_bind hm
                      refine ss_iast hC hK hR hS qh20 dd_M_fillsFits_101 (fun H locs hR hS => ?_)
                      obtain ⟨v21, qv21, hm⟩ := ss_bind hm
                      refine lv_iinc (v := v21) (lv' := [(6, .int v21), (0, ss_v (ss_b G) this), (1, .int a1), (2, .int v1), (3, .int x3_11), (4, .int s0_62), (5, .int x5_62)]) hx hb dd_M_fillsFits_102 hl (k := 6) rfl (ss_inc (by decide) qv21) (by decide) rfl (fun ls hl => ?_)
                      refine lv_goto (tgt := 67) hx hb dd_M_fillsFits_105 (by decide) ?_
                      exact ih_67 v21 h20 _ _ _ (hz1_67 _ (ss_some hm)) hR hS (lv_sub hl [1, 2, 3, 4, 5, 6, 0] rfl)
              exact L_67 N (0 : Int32) h_62 _ _ _ he_67 hR hS (lv_sub hl [2, 3, 4, 5, 1, 6, 0] rfl)
            have J_61 : ∀ (x5_61 : Int32) (h_61 : ss_Hp) (H : Heap) (locs : List Loc) (ls : Array Slot), mm_M_fillsFits_j61 N this a1 v1 x3_11 x5_61 h_61 = some z_36 → ss_R G h_61 H → va_S (ss_A G) s.heap H locs → lv_has ls 7 [(0, ss_v (ss_b G) this), (1, .int a1), (2, .int v1), (3, .int x3_11), (5, .int x5_61)] → ww_M_fillsFits p l e s m below meth c G this a1 h hh  H locs 0 0 (F0 m 61 ls []) := by
              intro x5_61 h_61 H locs ls hm hR hS hl
              refine lv_iconst (v := 0) hx hb dd_M_fillsFits_61 (by decide) ?_
              exact J_62 x5_61 (0 : Int32) h_61 _ _ _ hm hR hS hl
            refine lv_iload hx hb dd_M_fillsFits_36 (lv_at hl 5 rfl) ?_
            refine lv_bipush (v := 60) hx hb dd_M_fillsFits_38 (by decide) ?_
            refine lv_icmp_gt (tgt := 119) hx hb dd_M_fillsFits_40 (by decide) (fun c22 => ?_) (fun c22 => ?_)
            · have hm := ss_ift hm c22
              exact X_36_119 x4_36 h_36 _ _ _ (hz2_36 _ (ss_some hm)) hR hS (lv_sub hl [0, 1, 2, 3, 4] rfl)
            · have hm := ss_iff hm c22
              refine lv_iload hx hb dd_M_fillsFits_43 (lv_at hl 4 rfl) ?_
              refine lv_if_eq (tgt := 61) hx hb dd_M_fillsFits_45 (by decide) (fun c23 => ?_) (fun c23 => ?_)
              · have hm := ss_ift hm c23
                exact J_61 x5_36 h_36 _ _ _ hm hR hS (lv_sub hl [0, 1, 2, 3, 5] rfl)
              · have hm := ss_iff hm c23
                refine ss_aload_n hx hb dd_M_fillsFits_48 rfl (lv_at hl 0 rfl) ?_
                refine lv_iload hx hb dd_M_fillsFits_49 (lv_at hl 5 rfl) ?_
                obtain ⟨v24, qv24, hm⟩ := ss_bind hm
                refine ss_cV 0 0 (As := [.int x5_36]) hC hK hR hS hl.1 (cc_M_areNotesSo l G N _ _ _ _ qv24) km_M_432 (ck_M_areNotesSo qv24) ⟨Nat.le_of_ble_eq_true rfl, Nat.le_of_ble_eq_true rfl⟩ ⟨Nat.le_of_ble_eq_true rfl, Nat.le_of_ble_eq_true rfl, Nat.le_of_ble_eq_true rfl, Nat.le_of_ble_eq_true rfl⟩ rfl rfl (Nat.le_of_ble_eq_true rfl) dd_M_fillsFits_51 (fun H locs hR hS => ?_)
                refine lv_if_eq (tgt := 61) hx hb dd_M_fillsFits_54 (by decide) (fun c25 => ?_) (fun c25 => ?_)
                · have hm := ss_ift hm c25
                  exact J_61 x5_36 h_36 _ _ _ hm hR hS (lv_sub hl [0, 1, 2, 3, 5] rfl)
                · have hm := ss_iff hm c25
                  refine lv_iconst (v := 1) hx hb dd_M_fillsFits_57 (by decide) ?_
                  refine lv_goto (tgt := 62) hx hb dd_M_fillsFits_58 (by decide) ?_
                  exact J_62 x5_36 (1 : Int32) h_36 _ _ _ hm hR hS (lv_sub hl [0, 1, 2, 3, 5] rfl)
        exact L_36 N (1 : Int32) (0 : Int32) h8 _ _ _ he_36 hR hS (lv_sub hl [2, 3, 4, 5, 1, 0] rfl)
  exact L_11 N (0 : Int32) h2 _ _ _ he_11 hR hS (lv_sub hl [2, 3, 1, 0] rfl)
theorem dd_M_ruled_0 : decode bb_M_ruled 0 = .ok (.aload_n 0, 1) := by decide +kernel
theorem dd_M_ruled_1 : decode bb_M_ruled 1 = .ok (.invokevirtual 366, 3) := by decide +kernel
theorem dd_M_ruled_4 : decode bb_M_ruled 4 = .ok (.ifCond .eq 13, 3) := by decide +kernel
theorem dd_M_ruled_7 : decode bb_M_ruled 7 = .ok (.iload_n 1, 1) := by decide +kernel
theorem dd_M_ruled_8 : decode bb_M_ruled 8 = .ok (.i2l, 1) := by decide +kernel
theorem dd_M_ruled_9 : decode bb_M_ruled 9 = .ok (.lconst 0, 1) := by decide +kernel
theorem dd_M_ruled_10 : decode bb_M_ruled 10 = .ok (.lconst 1, 1) := by decide +kernel
theorem dd_M_ruled_11 : decode bb_M_ruled 11 = .ok (.invokestatic 124, 3) := by decide +kernel
theorem dd_M_ruled_14 : decode bb_M_ruled 14 = .ok (.ifCond .ne 6, 3) := by decide +kernel
theorem dd_M_ruled_17 : decode bb_M_ruled 17 = .ok (.bipush (-3), 2) := by decide +kernel
theorem dd_M_ruled_19 : decode bb_M_ruled 19 = .ok (.ireturn, 1) := by decide +kernel
theorem dd_M_ruled_20 : decode bb_M_ruled 20 = .ok (.aload_n 0, 1) := by decide +kernel
theorem dd_M_ruled_21 : decode bb_M_ruled 21 = .ok (.iconst 0, 1) := by decide +kernel
theorem dd_M_ruled_22 : decode bb_M_ruled 22 = .ok (.invokevirtual 435, 3) := by decide +kernel
theorem dd_M_ruled_25 : decode bb_M_ruled 25 = .ok (.iconst 0, 1) := by decide +kernel
theorem dd_M_ruled_26 : decode bb_M_ruled 26 = .ok (.istore_n 2, 1) := by decide +kernel
theorem dd_M_ruled_27 : decode bb_M_ruled 27 = .ok (.bipush (-2), 2) := by decide +kernel
theorem dd_M_ruled_29 : decode bb_M_ruled 29 = .ok (.istore_n 3, 1) := by decide +kernel
theorem dd_M_ruled_30 : decode bb_M_ruled 30 = .ok (.aload_n 0, 1) := by decide +kernel
theorem dd_M_ruled_31 : decode bb_M_ruled 31 = .ok (.getfield 280, 3) := by decide +kernel
theorem dd_M_ruled_34 : decode bb_M_ruled 34 = .ok (.istore 4, 2) := by decide +kernel
theorem dd_M_ruled_36 : decode bb_M_ruled 36 = .ok (.iload 4, 2) := by decide +kernel
theorem dd_M_ruled_38 : decode bb_M_ruled 38 = .ok (.ifCond .lt 30, 3) := by decide +kernel
theorem dd_M_ruled_41 : decode bb_M_ruled 41 = .ok (.aload_n 0, 1) := by decide +kernel
theorem dd_M_ruled_42 : decode bb_M_ruled 42 = .ok (.getfield 67, 3) := by decide +kernel
theorem dd_M_ruled_45 : decode bb_M_ruled 45 = .ok (.iload 4, 2) := by decide +kernel
theorem dd_M_ruled_47 : decode bb_M_ruled 47 = .ok (.baload, 1) := by decide +kernel
theorem dd_M_ruled_48 : decode bb_M_ruled 48 = .ok (.ifCond .ne 6, 3) := by decide +kernel
theorem dd_M_ruled_51 : decode bb_M_ruled 51 = .ok (.goto 11, 3) := by decide +kernel
theorem dd_M_ruled_54 : decode bb_M_ruled 54 = .ok (.iload 4, 2) := by decide +kernel
theorem dd_M_ruled_56 : decode bb_M_ruled 56 = .ok (.iconst 1, 1) := by decide +kernel
theorem dd_M_ruled_57 : decode bb_M_ruled 57 = .ok (.isub, 1) := by decide +kernel
theorem dd_M_ruled_58 : decode bb_M_ruled 58 = .ok (.istore_n 3, 1) := by decide +kernel
theorem dd_M_ruled_59 : decode bb_M_ruled 59 = .ok (.iinc 2 1, 3) := by decide +kernel
theorem dd_M_ruled_62 : decode bb_M_ruled 62 = .ok (.iinc 4 (-1), 3) := by decide +kernel
theorem dd_M_ruled_65 : decode bb_M_ruled 65 = .ok (.goto (-29), 3) := by decide +kernel
theorem dd_M_ruled_68 : decode bb_M_ruled 68 = .ok (.iload_n 1, 1) := by decide +kernel
theorem dd_M_ruled_69 : decode bb_M_ruled 69 = .ok (.ifCond .ne 7, 3) := by decide +kernel
theorem dd_M_ruled_72 : decode bb_M_ruled 72 = .ok (.iload_n 2, 1) := by decide +kernel
theorem dd_M_ruled_73 : decode bb_M_ruled 73 = .ok (.goto 4, 3) := by decide +kernel
theorem dd_M_ruled_76 : decode bb_M_ruled 76 = .ok (.iload_n 3, 1) := by decide +kernel
theorem dd_M_ruled_77 : decode bb_M_ruled 77 = .ok (.ireturn, 1) := by decide +kernel
def mm_M_ruled_j17 (N : Nat) (this : Option Nat) (a1 : Int32) (h_17 : ss_Hp) : Option (Int32 × ss_Hp) :=
  some ((-3 : Int32), h_17)
def mm_M_ruled_j77 (N : Nat) (this : Option Nat) (a1 : Int32) (s0_77 : Int32) (h_77 : ss_Hp) : Option (Int32 × ss_Hp) :=
  some (s0_77, h_77)
def mm_M_ruled_j62 (N : Nat) (this : Option Nat) (a1 : Int32) (h5 : ss_Hp) (x2_62 : Int32) (x3_62 : Int32) (x4_62 : Int32) : Option ((Int32 × Int32 × Int32) ⊕ (Int32 × Int32)) :=
  (some (x4_62 + (-1 : Int32))).bind fun v8 =>
  some (.inl (x2_62, x3_62, v8))
def mm_M_ruled_b36 (N : Nat) (this : Option Nat) (a1 : Int32) (h5 : ss_Hp) (st : Int32 × Int32 × Int32) : Option ((Int32 × Int32 × Int32) ⊕ (Int32 × Int32)) :=
  match st with
  | (x2_36, x3_36, x4_36) =>
    if x4_36 < 0 then
      some (.inr (x2_36, x3_36))
    else
      (ss_gr h5 this 12 17).bind fun r10 =>
      (ss_ai h5 r10 22 x4_36).bind fun v11 =>
      if v11 = 0 then
        mm_M_ruled_j62 N this a1 h5 x2_36 x3_36 x4_36
      else
        (some (x4_36 - (1 : Int32))).bind fun v13 =>
        (some (x2_36 + (1 : Int32))).bind fun v14 =>
        mm_M_ruled_j62 N this a1 h5 v14 v13 x4_36
def mm_M_ruled (N : Nat) (this : Option Nat) (a1 : Int32) (h : ss_Hp) : Option (Int32 × ss_Hp) :=
  if ss_is h this 12 = true then
    (mm_M_isValley N this h).bind fun v1 =>
    if v1 = 0 then
      mm_M_ruled_j17 N this a1 h
    else
      (mm_M_in N ((a1).toInt64) (0 : Int64) (1 : Int64)).bind fun v3 =>
      if v3 = 0 then
        mm_M_ruled_j17 N this a1 h
      else
        (mm_M_fillsFits N this (0 : Int32) h).bind fun h5 =>
        (ss_gi h5 this 12 1).bind fun v6 =>
        (ss_lp (mm_M_ruled_b36 N this a1 h5) N ((0 : Int32), (-2 : Int32), v6)).bind fun e_36 =>
        match e_36 with
        | (y2_36_68, y3_36_68) =>
          if a1 = 0 then
            mm_M_ruled_j77 N this a1 y2_36_68 h5
          else
            mm_M_ruled_j77 N this a1 y3_36_68 h5
  else none
abbrev ww_M_ruled (p : Program) (l : Launch) (e : Env) (s : State) (m : MethodId) (below : List Frame) (meth : Method) (c : Code) (G : ss_G) (this : Option Nat) (a1 : Int32) (h : ss_Hp) (rr : Int32) (hh : ss_Hp) (H : Heap) (locs : List Loc) (k n : Nat) (g : JFrame) : Prop := W p l e (headSpec (ss_w yy_M_ruled bb_M_ruled 5 (some (.int))) ({ frames := 6, cells := 0, slots := 0, locals := 152 })).room s m ([ss_v (ss_b G) this, .int a1] : List Value).toArray below meth c H locs k n (MQ below (ss_Qc G (some (.int rr)) hh) ([ss_v (ss_b G) this, .int a1] : List Value).toArray s 0 0 (ss_A G)) g
theorem ck_M_ruled {N : Nat} {this : Option Nat} {a1 : Int32} {h : ss_Hp} {res : Int32 × ss_Hp} (hm : mm_M_ruled N this a1 h = some res) : ss_is h this 12 = true := (ss_chk hm).1
set_option maxHeartbeats 4000000 in
set_option maxRecDepth 100000 in
theorem cc_M_ruled (l : Launch) (G : ss_G) (N : Nat) (this : Option Nat) (a1 : Int32) (h : ss_Hp) (rr : Int32) (hh : ss_Hp) (hm : mm_M_ruled N this a1 h = some (rr, hh)) : ss_Ct l G yy_M_ruled bb_M_ruled 5 (some (.int)) ({ frames := 6, cells := 0, slots := 0, locals := 152 }) [ss_v (ss_b G) this, .int a1] h (some (.int rr)) hh := by
  obtain ⟨hck, hm⟩ := ss_chk hm
  refine Met.ofW (cc := bb_M_ruled) (maxL := 5) (ret := (some (.int))) (by decide) rfl ?_
  intro p e s m args below meth c s₁ B hml hv
  obtain ⟨rfl, hR, hK⟩ := hv
  have hC : CallFix p m c bb_M_ruled 5 s _ lw_g sR_12 := ⟨B.exec, B.bytes, hml, findClass_of_methodNamed B.named, fun w hw => atoms_spec (ws := ss_w yy_M_ruled bb_M_ruled 5 (some (.int))) B.pre w (List.mem_cons_of_mem _ hw)⟩
  have hx := hC.1
  have hb := hC.2.1
  have hr := B.returns
  have hlocks := B.notSynchronized
  have hS : va_S (ss_A G) s.heap s.heap [] := va_S.rf
  have hl := lv_entry ([ss_v (ss_b G) this, .int a1]) (n := 5) (by simp [lg_sl, ss_v_cat, ss_cat_i, ss_cat_l, ss_cat_r])
  rw [lg_entry_eq]
  generalize (lg_sl ([ss_v (ss_b G) this, .int a1]) ++ List.replicate (5 - (lg_sl ([ss_v (ss_b G) this, .int a1])).length) Slot.unset).toArray = ls at hl ⊢
  have hl : lv_has ls 5 [(0, ss_v (ss_b G) this), (1, .int a1)] := by simpa [lv_args, ss_v_cat, ss_cat_i, ss_cat_l, ss_cat_r] using hl
  have J_17 : ∀ (h_17 : ss_Hp) (H : Heap) (locs : List Loc) (ls : Array Slot), mm_M_ruled_j17 N this a1 h_17 = some (rr, hh) → ss_R G h_17 H → va_S (ss_A G) s.heap H locs → lv_has ls 5 [] → ww_M_ruled p l e s m below meth c G this a1 h rr hh  H locs 0 0 (F0 m 17 ls []) := by
    intro h_17 H locs ls hm hR hS hl
    refine lv_bipush (v := -3) hx hb dd_M_ruled_17 (by decide) ?_
    exact ss_iret hC hr hlocks hR hS hm dd_M_ruled_19
  have J_77 : ∀ (s0_77 : Int32) (h_77 : ss_Hp) (H : Heap) (locs : List Loc) (ls : Array Slot), mm_M_ruled_j77 N this a1 s0_77 h_77 = some (rr, hh) → ss_R G h_77 H → va_S (ss_A G) s.heap H locs → lv_has ls 5 [] → ww_M_ruled p l e s m below meth c G this a1 h rr hh  H locs 0 0 (F0 m 77 ls [.int s0_77]) := by
    intro s0_77 h_77 H locs ls hm hR hS hl
    exact ss_iret hC hr hlocks hR hS hm dd_M_ruled_77
  refine ss_aload_n hx hb dd_M_ruled_0 rfl (lv_at hl 0 rfl) ?_
  obtain ⟨v1, qv1, hm⟩ := ss_bind hm
  refine ss_cV 0 0 (As := []) hC hK hR hS hl.1 (cc_M_isValley l G N _ _ _ qv1) km_M_366 (ck_M_isValley qv1) ⟨Nat.le_of_ble_eq_true rfl, Nat.le_of_ble_eq_true rfl⟩ ⟨Nat.le_of_ble_eq_true rfl, Nat.le_of_ble_eq_true rfl, Nat.le_of_ble_eq_true rfl, Nat.le_of_ble_eq_true rfl⟩ rfl rfl (Nat.le_of_ble_eq_true rfl) dd_M_ruled_1 (fun H locs hR hS => ?_)
  refine lv_if_eq (tgt := 17) hx hb dd_M_ruled_4 (by decide) (fun c2 => ?_) (fun c2 => ?_)
  · have hm := ss_ift hm c2
    exact J_17 h _ _ _ hm hR hS (lv_sub hl [] rfl)
  · have hm := ss_iff hm c2
    refine lv_iload_n hx hb dd_M_ruled_7 rfl (lv_at hl 1 rfl) ?_
    refine lv_i2l hx hb dd_M_ruled_8 rfl ?_
    refine lv_lconst (v := 0) hx hb dd_M_ruled_9 (by decide) ?_
    refine lv_lconst (v := 1) hx hb dd_M_ruled_10 (by decide) ?_
    obtain ⟨v3, qv3, hm⟩ := ss_bind hm
    refine ss_cS 0 0 (As := [.long ((a1).toInt64), .long (0 : Int64), .long (1 : Int64)]) hC hK hR hS hl.1 (cc_M_in l G N _ _ _ _ _ qv3) km_M_124 ⟨Nat.le_of_ble_eq_true rfl, Nat.le_of_ble_eq_true rfl⟩ ⟨Nat.le_of_ble_eq_true rfl, Nat.le_of_ble_eq_true rfl, Nat.le_of_ble_eq_true rfl, Nat.le_of_ble_eq_true rfl⟩ rfl rfl (Nat.le_of_ble_eq_true rfl) dd_M_ruled_11 (fun H locs hR hS => ?_)
    refine lv_if_ne (tgt := 20) hx hb dd_M_ruled_14 (by decide) (fun c4 => ?_) (fun c4 => ?_)
    · have hm := ss_iff hm c4
      refine ss_aload_n hx hb dd_M_ruled_20 rfl (lv_at hl 0 rfl) ?_
      refine lv_iconst (v := 0) hx hb dd_M_ruled_21 (by decide) ?_
      obtain ⟨h5, qh5, hm⟩ := ss_bind hm
      refine ss_cVv 0 0 (As := [.int (0 : Int32)]) hC hK hR hS hl.1 (cc_M_fillsFits l G N _ _ _ _ qh5) km_M_435 (ck_M_fillsFits qh5) ⟨Nat.le_of_ble_eq_true rfl, Nat.le_of_ble_eq_true rfl⟩ ⟨Nat.le_of_ble_eq_true rfl, Nat.le_of_ble_eq_true rfl, Nat.le_of_ble_eq_true rfl, Nat.le_of_ble_eq_true rfl⟩ rfl rfl (Nat.le_of_ble_eq_true rfl) dd_M_ruled_22 (fun H locs hR hS => ?_)
      refine lv_iconst (v := 0) hx hb dd_M_ruled_25 (by decide) ?_
      refine lv_istore_n (lv' := [(2, .int (0 : Int32)), (0, ss_v (ss_b G) this), (1, .int a1)]) hx hb dd_M_ruled_26 rfl hl (by decide) rfl (fun ls hl => ?_)
      refine lv_bipush (v := -2) hx hb dd_M_ruled_27 (by decide) ?_
      refine lv_istore_n (lv' := [(3, .int (-2 : Int32)), (2, .int (0 : Int32)), (0, ss_v (ss_b G) this), (1, .int a1)]) hx hb dd_M_ruled_29 rfl hl (by decide) rfl (fun ls hl => ?_)
      refine ss_aload_n hx hb dd_M_ruled_30 rfl (lv_at hl 2 rfl) ?_
      obtain ⟨v6, qv6, hm⟩ := ss_bind hm
      refine ss_geti hC hK hR kf_M_280 qv6 dd_M_ruled_31 ?_
      refine lv_istore (lv' := [(4, .int v6), (3, .int (-2 : Int32)), (2, .int (0 : Int32)), (0, ss_v (ss_b G) this), (1, .int a1)]) hx hb dd_M_ruled_34 hl (by decide) rfl (fun ls hl => ?_)
      obtain ⟨e_36, he_36, hm⟩ := ss_bind hm
      have X_36_68 : ∀ (y2_36_68 : Int32) (y3_36_68 : Int32) (H : Heap) (locs : List Loc) (ls : Array Slot), e_36 = (y2_36_68, y3_36_68) → ss_R G h5 H → va_S (ss_A G) s.heap H locs → lv_has ls 5 [(1, .int a1), (2, .int y2_36_68), (3, .int y3_36_68)] → ww_M_ruled p l e s m below meth c G this a1 h rr hh  H locs 0 0 (F0 m 68 ls []) := by
        intro y2_36_68 y3_36_68 H locs ls hq hR hS hl
        rw [hq] at hm
        refine lv_iload_n hx hb dd_M_ruled_68 rfl (lv_at hl 0 rfl) ?_
        refine lv_if_ne (tgt := 76) hx hb dd_M_ruled_69 (by decide) (fun c7 => ?_) (fun c7 => ?_)
        · have hm := ss_iff hm c7
          refine lv_iload_n hx hb dd_M_ruled_76 rfl (lv_at hl 2 rfl) ?_
          exact J_77 y3_36_68 h5 _ _ _ hm hR hS (lv_sub hl [] rfl)
        · have hm := ss_ift hm c7
          refine lv_iload_n hx hb dd_M_ruled_72 rfl (lv_at hl 1 rfl) ?_
          refine lv_goto (tgt := 77) hx hb dd_M_ruled_73 (by decide) ?_
          exact J_77 y2_36_68 h5 _ _ _ hm hR hS (lv_sub hl [] rfl)
      have L_36 : ∀ (n : Nat) (x2_36 : Int32) (x3_36 : Int32) (x4_36 : Int32) (H : Heap) (locs : List Loc) (ls : Array Slot), ss_lp (mm_M_ruled_b36 N this a1 h5) n (x2_36, x3_36, x4_36) = some e_36 → ss_R G h5 H → va_S (ss_A G) s.heap H locs → lv_has ls 5 [(0, ss_v (ss_b G) this), (1, .int a1), (2, .int x2_36), (3, .int x3_36), (4, .int x4_36)] → ww_M_ruled p l e s m below meth c G this a1 h rr hh  H locs 0 0 (F0 m 36 ls []) := by
        intro n
        induction n with
        | zero => intro x2_36 x3_36 x4_36 H locs ls hm; cases hm
        | succ n ih_36 =>
          intro x2_36 x3_36 x4_36 H locs ls hm hR hS hl
          obtain ⟨z_36, hm, hz1_36, hz2_36⟩ := ss_lps hm
          have J_62 : ∀ (x2_62 : Int32) (x3_62 : Int32) (x4_62 : Int32) (H : Heap) (locs : List Loc) (ls : Array Slot), mm_M_ruled_j62 N this a1 h5 x2_62 x3_62 x4_62 = some z_36 → ss_R G h5 H → va_S (ss_A G) s.heap H locs → lv_has ls 5 [(0, ss_v (ss_b G) this), (1, .int a1), (2, .int x2_62), (3, .int x3_62), (4, .int x4_62)] → ww_M_ruled p l e s m below meth c G this a1 h rr hh  H locs 0 0 (F0 m 62 ls []) := by
            intro x2_62 x3_62 x4_62 H locs ls hm hR hS hl
            obtain ⟨v8, qv8, hm⟩ := ss_bind hm
            refine lv_iinc (v := v8) (lv' := [(4, .int v8), (0, ss_v (ss_b G) this), (1, .int a1), (2, .int x2_62), (3, .int x3_62)]) hx hb dd_M_ruled_62 hl (k := 4) rfl (ss_inc (by decide) qv8) (by decide) rfl (fun ls hl => ?_)
            refine lv_goto (tgt := 36) hx hb dd_M_ruled_65 (by decide) ?_
            exact ih_36 x2_62 x3_62 v8  _ _ _ (hz1_36 _ (ss_some hm)) hR hS (lv_sub hl [1, 2, 3, 4, 0] rfl)
          refine lv_iload hx hb dd_M_ruled_36 (lv_at hl 4 rfl) ?_
          refine lv_if_lt (tgt := 68) hx hb dd_M_ruled_38 (by decide) (fun c9 => ?_) (fun c9 => ?_)
          · have hm := ss_ift hm c9
            exact X_36_68 x2_36 x3_36  _ _ _ (hz2_36 _ (ss_some hm)) hR hS (lv_sub hl [1, 2, 3] rfl)
          · have hm := ss_iff hm c9
            refine ss_aload_n hx hb dd_M_ruled_41 rfl (lv_at hl 0 rfl) ?_
            obtain ⟨r10, qr10, hm⟩ := ss_bind hm
            refine ss_getr hC hK hR kf_M_67 rfl qr10 dd_M_ruled_42 ?_
            refine lv_iload hx hb dd_M_ruled_45 (lv_at hl 4 rfl) ?_
            obtain ⟨v11, qv11, hm⟩ := ss_bind hm
            refine ss_zald hC hK hR qv11 dd_M_ruled_47 ?_
            refine lv_if_ne (tgt := 54) hx hb dd_M_ruled_48 (by decide) (fun c12 => ?_) (fun c12 => ?_)
            · have hm := ss_iff hm c12
              refine lv_iload hx hb dd_M_ruled_54 (lv_at hl 4 rfl) ?_
              refine lv_iconst (v := 1) hx hb dd_M_ruled_56 (by decide) ?_
              refine lv_isub hx hb dd_M_ruled_57 ?_
              obtain ⟨v13, qv13, hm⟩ := ss_bind hm
              refine ss_topi qv13 ?_
              refine lv_istore_n (lv' := [(3, .int v13), (0, ss_v (ss_b G) this), (1, .int a1), (2, .int x2_36), (4, .int x4_36)]) hx hb dd_M_ruled_58 rfl hl (by decide) rfl (fun ls hl => ?_)
              obtain ⟨v14, qv14, hm⟩ := ss_bind hm
              refine lv_iinc (v := v14) (lv' := [(2, .int v14), (3, .int v13), (0, ss_v (ss_b G) this), (1, .int a1), (4, .int x4_36)]) hx hb dd_M_ruled_59 hl (k := 3) rfl (ss_inc (by decide) qv14) (by decide) rfl (fun ls hl => ?_)
              exact J_62 v14 v13 x4_36  _ _ _ hm hR hS (lv_sub hl [2, 3, 0, 1, 4] rfl)
            · have hm := ss_ift hm c12
              refine lv_goto (tgt := 62) hx hb dd_M_ruled_51 (by decide) ?_
              exact J_62 x2_36 x3_36 x4_36  _ _ _ hm hR hS hl
      exact L_36 N (0 : Int32) (-2 : Int32) v6 _ _ _ he_36 hR hS (lv_sub hl [3, 4, 2, 1, 0] rfl)
    · have hm := ss_ift hm c4
      exact J_17 h _ _ _ hm hR hS (lv_sub hl [] rfl)
