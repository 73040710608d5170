theorem dd_M_ring_0 : decode bb_M_ring 0 = .ok (.aload_n 0, 1) := by decide +kernel
theorem dd_M_ring_1 : decode bb_M_ring 1 = .ok (.invokevirtual 366, 3) := by decide +kernel
theorem dd_M_ring_4 : decode bb_M_ring 4 = .ok (.ifCond .eq 13, 3) := by decide +kernel
theorem dd_M_ring_7 : decode bb_M_ring 7 = .ok (.iload_n 1, 1) := by decide +kernel
theorem dd_M_ring_8 : decode bb_M_ring 8 = .ok (.i2l, 1) := by decide +kernel
theorem dd_M_ring_9 : decode bb_M_ring 9 = .ok (.lconst 0, 1) := by decide +kernel
theorem dd_M_ring_10 : decode bb_M_ring 10 = .ok (.lconst 1, 1) := by decide +kernel
theorem dd_M_ring_11 : decode bb_M_ring 11 = .ok (.invokestatic 124, 3) := by decide +kernel
theorem dd_M_ring_14 : decode bb_M_ring 14 = .ok (.ifCond .ne 5, 3) := by decide +kernel
theorem dd_M_ring_17 : decode bb_M_ring 17 = .ok (.iconst (-1), 1) := by decide +kernel
theorem dd_M_ring_18 : decode bb_M_ring 18 = .ok (.ireturn, 1) := by decide +kernel
theorem dd_M_ring_19 : decode bb_M_ring 19 = .ok (.aload_n 0, 1) := by decide +kernel
theorem dd_M_ring_20 : decode bb_M_ring 20 = .ok (.invokevirtual 385, 3) := by decide +kernel
theorem dd_M_ring_23 : decode bb_M_ring 23 = .ok (.iconst 0, 1) := by decide +kernel
theorem dd_M_ring_24 : decode bb_M_ring 24 = .ok (.istore_n 2, 1) := by decide +kernel
theorem dd_M_ring_25 : decode bb_M_ring 25 = .ok (.iload_n 2, 1) := by decide +kernel
theorem dd_M_ring_26 : decode bb_M_ring 26 = .ok (.bipush 60, 2) := by decide +kernel
theorem dd_M_ring_28 : decode bb_M_ring 28 = .ok (.if_icmp .gt 48, 3) := by decide +kernel
theorem dd_M_ring_31 : decode bb_M_ring 31 = .ok (.iconst 0, 1) := by decide +kernel
theorem dd_M_ring_32 : decode bb_M_ring 32 = .ok (.istore_n 3, 1) := by decide +kernel
theorem dd_M_ring_33 : decode bb_M_ring 33 = .ok (.iload_n 3, 1) := by decide +kernel
theorem dd_M_ring_34 : decode bb_M_ring 34 = .ok (.bipush 8, 2) := by decide +kernel
theorem dd_M_ring_36 : decode bb_M_ring 36 = .ok (.if_icmp .ge 29, 3) := by decide +kernel
theorem dd_M_ring_39 : decode bb_M_ring 39 = .ok (.aload_n 0, 1) := by decide +kernel
theorem dd_M_ring_40 : decode bb_M_ring 40 = .ok (.getfield 58, 3) := by decide +kernel
theorem dd_M_ring_43 : decode bb_M_ring 43 = .ok (.bipush 8, 2) := by decide +kernel
theorem dd_M_ring_45 : decode bb_M_ring 45 = .ok (.iload_n 2, 1) := by decide +kernel
theorem dd_M_ring_46 : decode bb_M_ring 46 = .ok (.imul, 1) := by decide +kernel
theorem dd_M_ring_47 : decode bb_M_ring 47 = .ok (.iload_n 3, 1) := by decide +kernel
theorem dd_M_ring_48 : decode bb_M_ring 48 = .ok (.iadd, 1) := by decide +kernel
theorem dd_M_ring_49 : decode bb_M_ring 49 = .ok (.aload_n 0, 1) := by decide +kernel
theorem dd_M_ring_50 : decode bb_M_ring 50 = .ok (.getfield 39, 3) := by decide +kernel
theorem dd_M_ring_53 : decode bb_M_ring 53 = .ok (.bipush 14, 2) := by decide +kernel
theorem dd_M_ring_55 : decode bb_M_ring 55 = .ok (.iload_n 3, 1) := by decide +kernel
theorem dd_M_ring_56 : decode bb_M_ring 56 = .ok (.iadd, 1) := by decide +kernel
theorem dd_M_ring_57 : decode bb_M_ring 57 = .ok (.iaload, 1) := by decide +kernel
theorem dd_M_ring_58 : decode bb_M_ring 58 = .ok (.iastore, 1) := by decide +kernel
theorem dd_M_ring_59 : decode bb_M_ring 59 = .ok (.iinc 3 1, 3) := by decide +kernel
theorem dd_M_ring_62 : decode bb_M_ring 62 = .ok (.goto (-29), 3) := by decide +kernel
theorem dd_M_ring_65 : decode bb_M_ring 65 = .ok (.aload_n 0, 1) := by decide +kernel
theorem dd_M_ring_66 : decode bb_M_ring 66 = .ok (.invokevirtual 372, 3) := by decide +kernel
theorem dd_M_ring_69 : decode bb_M_ring 69 = .ok (.pop, 1) := by decide +kernel
theorem dd_M_ring_70 : decode bb_M_ring 70 = .ok (.iinc 2 1, 3) := by decide +kernel
theorem dd_M_ring_73 : decode bb_M_ring 73 = .ok (.goto (-48), 3) := by decide +kernel
theorem dd_M_ring_76 : decode bb_M_ring 76 = .ok (.aload_n 0, 1) := by decide +kernel
theorem dd_M_ring_77 : decode bb_M_ring 77 = .ok (.invokevirtual 388, 3) := by decide +kernel
theorem dd_M_ring_80 : decode bb_M_ring 80 = .ok (.iconst 0, 1) := by decide +kernel
theorem dd_M_ring_81 : decode bb_M_ring 81 = .ok (.istore_n 2, 1) := by decide +kernel
theorem dd_M_ring_82 : decode bb_M_ring 82 = .ok (.iload_n 2, 1) := by decide +kernel
theorem dd_M_ring_83 : decode bb_M_ring 83 = .ok (.bipush 60, 2) := by decide +kernel
theorem dd_M_ring_85 : decode bb_M_ring 85 = .ok (.if_icmp .ge 54, 3) := by decide +kernel
theorem dd_M_ring_88 : decode bb_M_ring 88 = .ok (.iload_n 2, 1) := by decide +kernel
theorem dd_M_ring_89 : decode bb_M_ring 89 = .ok (.iconst 1, 1) := by decide +kernel
theorem dd_M_ring_90 : decode bb_M_ring 90 = .ok (.iadd, 1) := by decide +kernel
theorem dd_M_ring_91 : decode bb_M_ring 91 = .ok (.istore_n 3, 1) := by decide +kernel
theorem dd_M_ring_92 : decode bb_M_ring 92 = .ok (.iload_n 3, 1) := by decide +kernel
theorem dd_M_ring_93 : decode bb_M_ring 93 = .ok (.bipush 60, 2) := by decide +kernel
theorem dd_M_ring_95 : decode bb_M_ring 95 = .ok (.if_icmp .gt 38, 3) := by decide +kernel
theorem dd_M_ring_98 : decode bb_M_ring 98 = .ok (.aload_n 0, 1) := by decide +kernel
theorem dd_M_ring_99 : decode bb_M_ring 99 = .ok (.iload_n 2, 1) := by decide +kernel
theorem dd_M_ring_100 : decode bb_M_ring 100 = .ok (.iload_n 3, 1) := by decide +kernel
theorem dd_M_ring_101 : decode bb_M_ring 101 = .ok (.invokevirtual 393, 3) := by decide +kernel
theorem dd_M_ring_104 : decode bb_M_ring 104 = .ok (.ifCond .eq 23, 3) := by decide +kernel
theorem dd_M_ring_107 : decode bb_M_ring 107 = .ok (.iload_n 1, 1) := by decide +kernel
theorem dd_M_ring_108 : decode bb_M_ring 108 = .ok (.ifCond .ne 15, 3) := by decide +kernel
theorem dd_M_ring_111 : decode bb_M_ring 111 = .ok (.aload_n 0, 1) := by decide +kernel
theorem dd_M_ring_112 : decode bb_M_ring 112 = .ok (.getfield 39, 3) := by decide +kernel
theorem dd_M_ring_115 : decode bb_M_ring 115 = .ok (.bipush 10, 2) := by decide +kernel
theorem dd_M_ring_117 : decode bb_M_ring 117 = .ok (.iaload, 1) := by decide +kernel
theorem dd_M_ring_118 : decode bb_M_ring 118 = .ok (.iload_n 2, 1) := by decide +kernel
theorem dd_M_ring_119 : decode bb_M_ring 119 = .ok (.iadd, 1) := by decide +kernel
theorem dd_M_ring_120 : decode bb_M_ring 120 = .ok (.goto 6, 3) := by decide +kernel
theorem dd_M_ring_123 : decode bb_M_ring 123 = .ok (.iload_n 3, 1) := by decide +kernel
theorem dd_M_ring_124 : decode bb_M_ring 124 = .ok (.iload_n 2, 1) := by decide +kernel
theorem dd_M_ring_125 : decode bb_M_ring 125 = .ok (.isub, 1) := by decide +kernel
theorem dd_M_ring_126 : decode bb_M_ring 126 = .ok (.ireturn, 1) := by decide +kernel
theorem dd_M_ring_127 : decode bb_M_ring 127 = .ok (.iinc 3 1, 3) := by decide +kernel
theorem dd_M_ring_130 : decode bb_M_ring 130 = .ok (.goto (-38), 3) := by decide +kernel
theorem dd_M_ring_133 : decode bb_M_ring 133 = .ok (.iinc 2 1, 3) := by decide +kernel
theorem dd_M_ring_136 : decode bb_M_ring 136 = .ok (.goto (-54), 3) := by decide +kernel
theorem dd_M_ring_139 : decode bb_M_ring 139 = .ok (.bipush (-2), 2) := by decide +kernel
theorem dd_M_ring_141 : decode bb_M_ring 141 = .ok (.ireturn, 1) := by decide +kernel
def mm_M_ring_j17 (N : Nat) (this : Option Nat) (a1 : Int32) (h_17 : ss_Hp) : Option (Int32 × ss_Hp) :=
  some ((-1 : Int32), h_17)
def mm_M_ring_j126 (N : Nat) (this : Option Nat) (a1 : Int32) (s0_126 : Int32) (h_126 : ss_Hp) : Option (Int32 × ss_Hp) :=
  some (s0_126, h_126)
def mm_M_ring_b92 (N : Nat) (this : Option Nat) (a1 : Int32) (x2_82 : Int32) (h6 : ss_Hp) (st : Int32) : Option (Int32 ⊕ (Unit ⊕ Int32)) :=
  match st with
  | x3_92 =>
    if (60 : Int32) < x3_92 then
      some (.inr (.inl ()))
    else
      (mm_M_areAlike N this x2_82 x3_92 h6).bind fun v14 =>
      if v14 = 0 then
        (some (x3_92 + (1 : Int32))).bind fun v16 =>
        some (.inl v16)
      else
        some (.inr (.inr x3_92))
def mm_M_ring_b82 (N : Nat) (this : Option Nat) (a1 : Int32) (h6 : ss_Hp) (st : Int32) : Option (Int32 ⊕ (Unit ⊕ (Int32 × Int32))) :=
  match st with
  | x2_82 =>
    if (60 : Int32) ≤ x2_82 then
      some (.inr (.inl ()))
    else
      (some (x2_82 + (1 : Int32))).bind fun v11 =>
      (ss_lp (mm_M_ring_b92 N this a1 x2_82 h6) N v11).bind fun e_92 =>
      match e_92 with
      | (.inl ()) =>
        (some (x2_82 + (1 : Int32))).bind fun v12 =>
        some (.inl v12)
      | (.inr y3_92_107) =>
        some (.inr (.inr (x2_82, y3_92_107)))
def mm_M_ring_b33 (N : Nat) (this : Option Nat) (a1 : Int32) (x2_25 : Int32) (st : Int32 × ss_Hp) : Option ((Int32 × ss_Hp) ⊕ ss_Hp) :=
  match st with
  | (x3_33, h_33) =>
    if (8 : Int32) ≤ x3_33 then
      some (.inr h_33)
    else
      (ss_gr h_33 this 12 14).bind fun r22 =>
      (ss_gr h_33 this 12 9).bind fun r23 =>
      (ss_ai h_33 r23 20 ((14 : Int32) + x3_33)).bind fun v24 =>
      (ss_ui h_33 r22 20 (((8 : Int32) * x2_25) + x3_33) v24).bind fun h25 =>
      (some (x3_33 + (1 : Int32))).bind fun v26 =>
      some (.inl (v26, h25))
def mm_M_ring_b25 (N : Nat) (this : Option Nat) (a1 : Int32) (st : Int32 × ss_Hp) : Option ((Int32 × ss_Hp) ⊕ ss_Hp) :=
  match st with
  | (x2_25, h_25) =>
    if (60 : Int32) < x2_25 then
      some (.inr h_25)
    else
      (ss_lp (mm_M_ring_b33 N this a1 x2_25) N ((0 : Int32), h_25)).bind fun h_33_65 =>
      ss_b2 (mm_M_passes N this h_33_65) fun v18 h19 =>
      (some (x2_25 + (1 : Int32))).bind fun v20 =>
      some (.inl (v20, h19))
def mm_M_ring (N : Nat) (this : Option Nat) (a1 : Int32) (h : ss_Hp) : Option (Int32 × ss_Hp) :=
  if ss_is h this 12 = true then
    (mm_M_isValley N this h).bind fun v1 =>
    if v1 = 0 then
      mm_M_ring_j17 N this a1 h
    else
      (mm_M_in N ((a1).toInt64) (0 : Int64) (1 : Int64)).bind fun v3 =>
      if v3 = 0 then
        mm_M_ring_j17 N this a1 h
      else
        (mm_M_keeps N this h).bind fun h5 =>
        (ss_lp (mm_M_ring_b25 N this a1) N ((0 : Int32), h5)).bind fun h_25_76 =>
        (mm_M_laysBack N this h_25_76).bind fun h6 =>
        (ss_lp (mm_M_ring_b82 N this a1 h6) N (0 : Int32)).bind fun e_82 =>
        match e_82 with
        | (.inl ()) =>
          some ((-2 : Int32), h6)
        | (.inr (y2_82_107, y3_82_107)) =>
          if a1 = 0 then
            (ss_gr h6 this 12 9).bind fun r8 =>
            (ss_ai h6 r8 20 (10 : Int32)).bind fun v9 =>
            mm_M_ring_j126 N this a1 (v9 + y2_82_107) h6
          else
            mm_M_ring_j126 N this a1 (y3_82_107 - y2_82_107) h6
  else none
abbrev ww_M_ring (p : Program) (l : Launch) (e : Env) (s : State) (m : MethodId) (below : List Frame) (meth : Method) (c : Code) (G : ss_G) (this : Option Nat) (a1 : Int32) (h : ss_Hp) (rr : Int32) (hh : ss_Hp) (H : Heap) (locs : List Loc) (k n : Nat) (g : JFrame) : Prop := W p l e (headSpec (ss_w yy_M_ring bb_M_ring 4 (some (.int))) ({ frames := 5, cells := 0, slots := 0, locals := 126 })).room s m ([ss_v (ss_b G) this, .int a1] : List Value).toArray below meth c H locs k n (MQ below (ss_Qc G (some (.int rr)) hh) ([ss_v (ss_b G) this, .int a1] : List Value).toArray s 0 0 (ss_A G)) g
theorem ck_M_ring {N : Nat} {this : Option Nat} {a1 : Int32} {h : ss_Hp} {res : Int32 × ss_Hp} (hm : mm_M_ring N this a1 h = some res) : ss_is h this 12 = true := (ss_chk hm).1
set_option maxHeartbeats 4000000 in
set_option maxRecDepth 100000 in
theorem cc_M_ring (l : Launch) (G : ss_G) (N : Nat) (this : Option Nat) (a1 : Int32) (h : ss_Hp) (rr : Int32) (hh : ss_Hp) (hm : mm_M_ring N this a1 h = some (rr, hh)) : ss_Ct l G yy_M_ring bb_M_ring 4 (some (.int)) ({ frames := 5, cells := 0, slots := 0, locals := 126 }) [ss_v (ss_b G) this, .int a1] h (some (.int rr)) hh := by
  obtain ⟨hck, hm⟩ := ss_chk hm
  refine Met.ofW (cc := bb_M_ring) (maxL := 4) (ret := (some (.int))) (by decide) rfl ?_
  intro p e s m args below meth c s₁ B hml hv
  obtain ⟨rfl, hR, hK⟩ := hv
  have hC : CallFix p m c bb_M_ring 4 s _ lw_g sR_12 := ⟨B.exec, B.bytes, hml, findClass_of_methodNamed B.named, fun w hw => atoms_spec (ws := ss_w yy_M_ring bb_M_ring 4 (some (.int))) B.pre w (List.mem_cons_of_mem _ hw)⟩
  have hx := hC.1
  have hb := hC.2.1
  have hr := B.returns
  have hlocks := B.notSynchronized
  have hS : va_S (ss_A G) s.heap s.heap [] := va_S.rf
  have hl := lv_entry ([ss_v (ss_b G) this, .int a1]) (n := 4) (by simp [lg_sl, ss_v_cat, ss_cat_i, ss_cat_l, ss_cat_r])
  rw [lg_entry_eq]
  generalize (lg_sl ([ss_v (ss_b G) this, .int a1]) ++ List.replicate (4 - (lg_sl ([ss_v (ss_b G) this, .int a1])).length) Slot.unset).toArray = ls at hl ⊢
  have hl : lv_has ls 4 [(0, ss_v (ss_b G) this), (1, .int a1)] := by simpa [lv_args, ss_v_cat, ss_cat_i, ss_cat_l, ss_cat_r] using hl
  have J_17 : ∀ (h_17 : ss_Hp) (H : Heap) (locs : List Loc) (ls : Array Slot), mm_M_ring_j17 N this a1 h_17 = some (rr, hh) → ss_R G h_17 H → va_S (ss_A G) s.heap H locs → lv_has ls 4 [] → ww_M_ring p l e s m below meth c G this a1 h rr hh  H locs 0 0 (F0 m 17 ls []) := by
    intro h_17 H locs ls hm hR hS hl
    refine lv_iconst (v := -1) hx hb dd_M_ring_17 (by decide) ?_
    exact ss_iret hC hr hlocks hR hS hm dd_M_ring_18
  have J_126 : ∀ (s0_126 : Int32) (h_126 : ss_Hp) (H : Heap) (locs : List Loc) (ls : Array Slot), mm_M_ring_j126 N this a1 s0_126 h_126 = some (rr, hh) → ss_R G h_126 H → va_S (ss_A G) s.heap H locs → lv_has ls 4 [] → ww_M_ring p l e s m below meth c G this a1 h rr hh  H locs 0 0 (F0 m 126 ls [.int s0_126]) := by
    intro s0_126 h_126 H locs ls hm hR hS hl
    exact ss_iret hC hr hlocks hR hS hm dd_M_ring_126
  refine ss_aload_n hx hb dd_M_ring_0 rfl (lv_at hl 0 rfl) ?_
  obtain ⟨v1, qv1, hm⟩ := ss_bind hm
  refine ss_cV 0 0 (As := []) hC hK hR hS hl.1 (cc_M_isValley l G N _ _ _ qv1) km_M_366 (ck_M_isValley qv1) ⟨Nat.le_of_ble_eq_true rfl, Nat.le_of_ble_eq_true rfl⟩ ⟨Nat.le_of_ble_eq_true rfl, Nat.le_of_ble_eq_true rfl, Nat.le_of_ble_eq_true rfl, Nat.le_of_ble_eq_true rfl⟩ rfl rfl (Nat.le_of_ble_eq_true rfl) dd_M_ring_1 (fun H locs hR hS => ?_)
  refine lv_if_eq (tgt := 17) hx hb dd_M_ring_4 (by decide) (fun c2 => ?_) (fun c2 => ?_)
  · have hm := ss_ift hm c2
    exact J_17 h _ _ _ hm hR hS (lv_sub hl [] rfl)
  · have hm := ss_iff hm c2
    refine lv_iload_n hx hb dd_M_ring_7 rfl (lv_at hl 1 rfl) ?_
    refine lv_i2l hx hb dd_M_ring_8 rfl ?_
    refine lv_lconst (v := 0) hx hb dd_M_ring_9 (by decide) ?_
    refine lv_lconst (v := 1) hx hb dd_M_ring_10 (by decide) ?_
    obtain ⟨v3, qv3, hm⟩ := ss_bind hm
    refine ss_cS 0 0 (As := [.long ((a1).toInt64), .long (0 : Int64), .long (1 : Int64)]) hC hK hR hS hl.1 (cc_M_in l G N _ _ _ _ _ qv3) km_M_124 ⟨Nat.le_of_ble_eq_true rfl, Nat.le_of_ble_eq_true rfl⟩ ⟨Nat.le_of_ble_eq_true rfl, Nat.le_of_ble_eq_true rfl, Nat.le_of_ble_eq_true rfl, Nat.le_of_ble_eq_true rfl⟩ rfl rfl (Nat.le_of_ble_eq_true rfl) dd_M_ring_11 (fun H locs hR hS => ?_)
    refine lv_if_ne (tgt := 19) hx hb dd_M_ring_14 (by decide) (fun c4 => ?_) (fun c4 => ?_)
    · have hm := ss_iff hm c4
      refine ss_aload_n hx hb dd_M_ring_19 rfl (lv_at hl 0 rfl) ?_
      obtain ⟨h5, qh5, hm⟩ := ss_bind hm
      refine ss_cVv 0 0 (As := []) hC hK hR hS hl.1 (cc_M_keeps l G N _ _ _ qh5) km_M_385 (ck_M_keeps qh5) ⟨Nat.le_of_ble_eq_true rfl, Nat.le_of_ble_eq_true rfl⟩ ⟨Nat.le_of_ble_eq_true rfl, Nat.le_of_ble_eq_true rfl, Nat.le_of_ble_eq_true rfl, Nat.le_of_ble_eq_true rfl⟩ rfl rfl (Nat.le_of_ble_eq_true rfl) dd_M_ring_20 (fun H locs hR hS => ?_)
      refine lv_iconst (v := 0) hx hb dd_M_ring_23 (by decide) ?_
      refine lv_istore_n (lv' := [(2, .int (0 : Int32)), (0, ss_v (ss_b G) this), (1, .int a1)]) hx hb dd_M_ring_24 rfl hl (by decide) rfl (fun ls hl => ?_)
      obtain ⟨e_25, he_25, hm⟩ := ss_bind hm
      have X_25_76 : ∀  (h_25_76 : ss_Hp) (H : Heap) (locs : List Loc) (ls : Array Slot), e_25 = h_25_76 → ss_R G h_25_76 H → va_S (ss_A G) s.heap H locs → lv_has ls 4 [(0, ss_v (ss_b G) this), (1, .int a1)] → ww_M_ring p l e s m below meth c G this a1 h rr hh  H locs 0 0 (F0 m 76 ls []) := by
        intro h_25_76 H locs ls hq hR hS hl
        rw [hq] at hm
        refine ss_aload_n hx hb dd_M_ring_76 rfl (lv_at hl 0 rfl) ?_
        obtain ⟨h6, qh6, hm⟩ := ss_bind hm
        refine ss_cVv 0 0 (As := []) hC hK hR hS hl.1 (cc_M_laysBack l G N _ _ _ qh6) km_M_388 (ck_M_laysBack qh6) ⟨Nat.le_of_ble_eq_true rfl, Nat.le_of_ble_eq_true rfl⟩ ⟨Nat.le_of_ble_eq_true rfl, Nat.le_of_ble_eq_true rfl, Nat.le_of_ble_eq_true rfl, Nat.le_of_ble_eq_true rfl⟩ rfl rfl (Nat.le_of_ble_eq_true rfl) dd_M_ring_77 (fun H locs hR hS => ?_)
        refine lv_iconst (v := 0) hx hb dd_M_ring_80 (by decide) ?_
        refine lv_istore_n (lv' := [(2, .int (0 : Int32)), (0, ss_v (ss_b G) this), (1, .int a1)]) hx hb dd_M_ring_81 rfl hl (by decide) rfl (fun ls hl => ?_)
        obtain ⟨e_82, he_82, hm⟩ := ss_bind hm
        have X_82_139 : ∀  (H : Heap) (locs : List Loc) (ls : Array Slot), e_82 = (.inl ()) → ss_R G h6 H → va_S (ss_A G) s.heap H locs → lv_has ls 4 [] → ww_M_ring p l e s m below meth c G this a1 h rr hh  H locs 0 0 (F0 m 139 ls []) := by
          intro  H locs ls hq hR hS hl
          rw [hq] at hm
          refine lv_bipush (v := -2) hx hb dd_M_ring_139 (by decide) ?_
          exact ss_iret hC hr hlocks hR hS hm dd_M_ring_141
        have X_82_107 : ∀ (y2_82_107 : Int32) (y3_82_107 : Int32) (H : Heap) (locs : List Loc) (ls : Array Slot), e_82 = (.inr (y2_82_107, y3_82_107)) → ss_R G h6 H → va_S (ss_A G) s.heap H locs → lv_has ls 4 [(0, ss_v (ss_b G) this), (1, .int a1), (2, .int y2_82_107), (3, .int y3_82_107)] → ww_M_ring p l e s m below meth c G this a1 h rr hh  H locs 0 0 (F0 m 107 ls []) := by
          intro y2_82_107 y3_82_107 H locs ls hq hR hS hl
          rw [hq] at hm
          refine lv_iload_n hx hb dd_M_ring_107 rfl (lv_at hl 1 rfl) ?_
          refine lv_if_ne (tgt := 123) hx hb dd_M_ring_108 (by decide) (fun c7 => ?_) (fun c7 => ?_)
          · have hm := ss_iff hm c7
            refine lv_iload_n hx hb dd_M_ring_123 rfl (lv_at hl 3 rfl) ?_
            refine lv_iload_n hx hb dd_M_ring_124 rfl (lv_at hl 2 rfl) ?_
            refine lv_isub hx hb dd_M_ring_125 ?_
            exact J_126 (y3_82_107 - y2_82_107) h6 _ _ _ hm hR hS (lv_sub hl [] rfl)
          · have hm := ss_ift hm c7
            refine ss_aload_n hx hb dd_M_ring_111 rfl (lv_at hl 0 rfl) ?_
            obtain ⟨r8, qr8, hm⟩ := ss_bind hm
            refine ss_getr hC hK hR kf_M_39 rfl qr8 dd_M_ring_112 ?_
            refine lv_bipush (v := 10) hx hb dd_M_ring_115 (by decide) ?_
            obtain ⟨v9, qv9, hm⟩ := ss_bind hm
            refine ss_iald hC hK hR qv9 dd_M_ring_117 ?_
            refine lv_iload_n hx hb dd_M_ring_118 rfl (lv_at hl 2 rfl) ?_
            refine lv_iadd hx hb dd_M_ring_119 ?_
            refine lv_goto (tgt := 126) hx hb dd_M_ring_120 (by decide) ?_
            exact J_126 (v9 + y2_82_107) h6 _ _ _ hm hR hS (lv_sub hl [] rfl)
        have L_82 : ∀ (n : Nat) (x2_82 : Int32) (H : Heap) (locs : List Loc) (ls : Array Slot), ss_lp (mm_M_ring_b82 N this a1 h6) n x2_82 = some e_82 → ss_R G h6 H → va_S (ss_A G) s.heap H locs → lv_has ls 4 [(0, ss_v (ss_b G) this), (1, .int a1), (2, .int x2_82)] → ww_M_ring p l e s m below meth c G this a1 h rr hh  H locs 0 0 (F0 m 82 ls []) := by
          intro n
          induction n with
          | zero => intro x2_82 H locs ls hm; cases hm
          | succ n ih_82 =>
            intro x2_82 H locs ls hm hR hS hl
            obtain ⟨z_82, hm, hz1_82, hz2_82⟩ := ss_lps hm
            refine lv_iload_n hx hb dd_M_ring_82 rfl (lv_at hl 2 rfl) ?_
            refine lv_bipush (v := 60) hx hb dd_M_ring_83 (by decide) ?_
            refine lv_icmp_ge (tgt := 139) hx hb dd_M_ring_85 (by decide) (fun c10 => ?_) (fun c10 => ?_)
            · have hm := ss_ift hm c10
              exact X_82_139  _ _ _ (hz2_82 _ (ss_some hm)) hR hS (lv_sub hl [] rfl)
            · have hm := ss_iff hm c10
              refine lv_iload_n hx hb dd_M_ring_88 rfl (lv_at hl 2 rfl) ?_
              refine lv_iconst (v := 1) hx hb dd_M_ring_89 (by decide) ?_
              refine lv_iadd hx hb dd_M_ring_90 ?_
              obtain ⟨v11, qv11, hm⟩ := ss_bind hm
              refine ss_topi qv11 ?_
              refine lv_istore_n (lv' := [(3, .int v11), (0, ss_v (ss_b G) this), (1, .int a1), (2, .int x2_82)]) hx hb dd_M_ring_91 rfl hl (by decide) rfl (fun ls hl => ?_)
              obtain ⟨e_92, he_92, hm⟩ := ss_bind hm
              have X_92_133 : ∀  (H : Heap) (locs : List Loc) (ls : Array Slot), e_92 = (.inl ()) → ss_R G h6 H → va_S (ss_A G) s.heap H locs → lv_has ls 4 [(0, ss_v (ss_b G) this), (1, .int a1), (2, .int x2_82)] → ww_M_ring p l e s m below meth c G this a1 h rr hh  H locs 0 0 (F0 m 133 ls []) := by
                intro  H locs ls hq hR hS hl
                rw [hq] at hm
                obtain ⟨v12, qv12, hm⟩ := ss_bind hm
                refine lv_iinc (v := v12) (lv' := [(2, .int v12), (0, ss_v (ss_b G) this), (1, .int a1)]) hx hb dd_M_ring_133 hl (k := 2) rfl (ss_inc (by decide) qv12) (by decide) rfl (fun ls hl => ?_)
                refine lv_goto (tgt := 82) hx hb dd_M_ring_136 (by decide) ?_
                exact ih_82 v12  _ _ _ (hz1_82 _ (ss_some hm)) hR hS (lv_sub hl [1, 2, 0] rfl)
              have X_92_107 : ∀ (y3_92_107 : Int32) (H : Heap) (locs : List Loc) (ls : Array Slot), e_92 = (.inr y3_92_107) → ss_R G h6 H → va_S (ss_A G) s.heap H locs → lv_has ls 4 [(0, ss_v (ss_b G) this), (1, .int a1), (2, .int x2_82), (3, .int y3_92_107)] → ww_M_ring p l e s m below meth c G this a1 h rr hh  H locs 0 0 (F0 m 107 ls []) := by
                intro y3_92_107 H locs ls hq hR hS hl
                rw [hq] at hm
                exact X_82_107 x2_82 y3_92_107  _ _ _ (hz2_82 _ (ss_some hm)) hR hS hl
              have L_92 : ∀ (n : Nat) (x3_92 : Int32) (H : Heap) (locs : List Loc) (ls : Array Slot), ss_lp (mm_M_ring_b92 N this a1 x2_82 h6) n x3_92 = some e_92 → ss_R G h6 H → va_S (ss_A G) s.heap H locs → lv_has ls 4 [(0, ss_v (ss_b G) this), (1, .int a1), (2, .int x2_82), (3, .int x3_92)] → ww_M_ring p l e s m below meth c G this a1 h rr hh  H locs 0 0 (F0 m 92 ls []) := by
                intro n
                induction n with
                | zero => intro x3_92 H locs ls hm; cases hm
                | succ n ih_92 =>
                  intro x3_92 H locs ls hm hR hS hl
                  obtain ⟨z_92, hm, hz1_92, hz2_92⟩ := ss_lps hm
                  refine lv_iload_n hx hb dd_M_ring_92 rfl (lv_at hl 3 rfl) ?_
                  refine lv_bipush (v := 60) hx hb dd_M_ring_93 (by decide) ?_
                  refine lv_icmp_gt (tgt := 133) hx hb dd_M_ring_95 (by decide) (fun c13 => ?_) (fun c13 => ?_)
                  · have hm := ss_ift hm c13
                    exact X_92_133  _ _ _ (hz2_92 _ (ss_some hm)) hR hS (lv_sub hl [0, 1, 2] rfl)
                  · have hm := ss_iff hm c13
                    refine ss_aload_n hx hb dd_M_ring_98 rfl (lv_at hl 0 rfl) ?_
                    refine lv_iload_n hx hb dd_M_ring_99 rfl (lv_at hl 2 rfl) ?_
                    refine lv_iload_n hx hb dd_M_ring_100 rfl (lv_at hl 3 rfl) ?_
                    obtain ⟨v14, qv14, hm⟩ := ss_bind hm
                    refine ss_cV 0 0 (As := [.int x2_82, .int x3_92]) hC hK hR hS hl.1 (cc_M_areAlike l G N _ _ _ _ _ qv14) km_M_393 (ck_M_areAlike qv14) ⟨Nat.le_of_ble_eq_true rfl, Nat.le_of_ble_eq_true rfl⟩ ⟨Nat.le_of_ble_eq_true rfl, Nat.le_of_ble_eq_true rfl, Nat.le_of_ble_eq_true rfl, Nat.le_of_ble_eq_true rfl⟩ rfl rfl (Nat.le_of_ble_eq_true rfl) dd_M_ring_101 (fun H locs hR hS => ?_)
                    refine lv_if_eq (tgt := 127) hx hb dd_M_ring_104 (by decide) (fun c15 => ?_) (fun c15 => ?_)
                    · have hm := ss_ift hm c15
                      obtain ⟨v16, qv16, hm⟩ := ss_bind hm
                      refine lv_iinc (v := v16) (lv' := [(3, .int v16), (0, ss_v (ss_b G) this), (1, .int a1), (2, .int x2_82)]) hx hb dd_M_ring_127 hl (k := 3) rfl (ss_inc (by decide) qv16) (by decide) rfl (fun ls hl => ?_)
                      refine lv_goto (tgt := 92) hx hb dd_M_ring_130 (by decide) ?_
                      exact ih_92 v16  _ _ _ (hz1_92 _ (ss_some hm)) hR hS (lv_sub hl [1, 2, 3, 0] rfl)
                    · have hm := ss_iff hm c15
                      exact X_92_107 x3_92  _ _ _ (hz2_92 _ (ss_some hm)) hR hS hl
              exact L_92 N v11 _ _ _ he_92 hR hS (lv_sub hl [1, 2, 3, 0] rfl)
        exact L_82 N (0 : Int32) _ _ _ he_82 hR hS (lv_sub hl [1, 2, 0] rfl)
      have L_25 : ∀ (n : Nat) (x2_25 : Int32) (h_25 : ss_Hp) (H : Heap) (locs : List Loc) (ls : Array Slot), ss_lp (mm_M_ring_b25 N this a1) n (x2_25, h_25) = some e_25 → ss_R G h_25 H → va_S (ss_A G) s.heap H locs → lv_has ls 4 [(0, ss_v (ss_b G) this), (1, .int a1), (2, .int x2_25)] → ww_M_ring p l e s m below meth c G this a1 h rr hh  H locs 0 0 (F0 m 25 ls []) := by
        intro n
        induction n with
        | zero => intro x2_25 h_25 H locs ls hm; cases hm
        | succ n ih_25 =>
          intro x2_25 h_25 H locs ls hm hR hS hl
          obtain ⟨z_25, hm, hz1_25, hz2_25⟩ := ss_lps hm
          refine lv_iload_n hx hb dd_M_ring_25 rfl (lv_at hl 2 rfl) ?_
          refine lv_bipush (v := 60) hx hb dd_M_ring_26 (by decide) ?_
          refine lv_icmp_gt (tgt := 76) hx hb dd_M_ring_28 (by decide) (fun c17 => ?_) (fun c17 => ?_)
          · have hm := ss_ift hm c17
            exact X_25_76 h_25 _ _ _ (hz2_25 _ (ss_some hm)) hR hS (lv_sub hl [0, 1] rfl)
          · have hm := ss_iff hm c17
            refine lv_iconst (v := 0) hx hb dd_M_ring_31 (by decide) ?_
            refine lv_istore_n (lv' := [(3, .int (0 : Int32)), (0, ss_v (ss_b G) this), (1, .int a1), (2, .int x2_25)]) hx hb dd_M_ring_32 rfl hl (by decide) rfl (fun ls hl => ?_)
            obtain ⟨e_33, he_33, hm⟩ := ss_bind hm
            have X_33_65 : ∀  (h_33_65 : ss_Hp) (H : Heap) (locs : List Loc) (ls : Array Slot), e_33 = h_33_65 → ss_R G h_33_65 H → va_S (ss_A G) s.heap H locs → lv_has ls 4 [(0, ss_v (ss_b G) this), (1, .int a1), (2, .int x2_25)] → ww_M_ring p l e s m below meth c G this a1 h rr hh  H locs 0 0 (F0 m 65 ls []) := by
              intro h_33_65 H locs ls hq hR hS hl
              rw [hq] at hm
              refine ss_aload_n hx hb dd_M_ring_65 rfl (lv_at hl 0 rfl) ?_
              obtain ⟨v18, h19, qh19, hm⟩ := ss_bind2 hm
              refine ss_cV 0 0 (As := []) hC hK hR hS hl.1 (cc_M_passes l G N _ _ _ _ qh19) km_M_372 (ck_M_passes qh19) ⟨Nat.le_of_ble_eq_true rfl, Nat.le_of_ble_eq_true rfl⟩ ⟨Nat.le_of_ble_eq_true rfl, Nat.le_of_ble_eq_true rfl, Nat.le_of_ble_eq_true rfl, Nat.le_of_ble_eq_true rfl⟩ rfl rfl (Nat.le_of_ble_eq_true rfl) dd_M_ring_66 (fun H locs hR hS => ?_)
              refine lv_pop hx hb dd_M_ring_69 rfl ?_
              obtain ⟨v20, qv20, hm⟩ := ss_bind hm
              refine lv_iinc (v := v20) (lv' := [(2, .int v20), (0, ss_v (ss_b G) this), (1, .int a1)]) hx hb dd_M_ring_70 hl (k := 2) rfl (ss_inc (by decide) qv20) (by decide) rfl (fun ls hl => ?_)
              refine lv_goto (tgt := 25) hx hb dd_M_ring_73 (by decide) ?_
              exact ih_25 v20 h19 _ _ _ (hz1_25 _ (ss_some hm)) hR hS (lv_sub hl [1, 2, 0] rfl)
            have L_33 : ∀ (n : Nat) (x3_33 : Int32) (h_33 : ss_Hp) (H : Heap) (locs : List Loc) (ls : Array Slot), ss_lp (mm_M_ring_b33 N this a1 x2_25) n (x3_33, h_33) = some e_33 → ss_R G h_33 H → va_S (ss_A G) s.heap H locs → lv_has ls 4 [(0, ss_v (ss_b G) this), (1, .int a1), (2, .int x2_25), (3, .int x3_33)] → ww_M_ring p l e s m below meth c G this a1 h rr hh  H locs 0 0 (F0 m 33 ls []) := by
              intro n
              induction n with
              | zero => intro x3_33 h_33 H locs ls hm; cases hm
              | succ n ih_33 =>
                intro x3_33 h_33 H locs ls hm hR hS hl
                obtain ⟨z_33, hm, hz1_33, hz2_33⟩ := ss_lps hm
                refine lv_iload_n hx hb dd_M_ring_33 rfl (lv_at hl 3 rfl) ?_
                refine lv_bipush (v := 8) hx hb dd_M_ring_34 (by decide) ?_
                refine lv_icmp_ge (tgt := 65) hx hb dd_M_ring_36 (by decide) (fun c21 => ?_) (fun c21 => ?_)
                · have hm := ss_ift hm c21
                  exact X_33_65 h_33 _ _ _ (hz2_33 _ (ss_some hm)) hR hS (lv_sub hl [0, 1, 2] rfl)
                · have hm := ss_iff hm c21
                  refine ss_aload_n hx hb dd_M_ring_39 rfl (lv_at hl 0 rfl) ?_
                  obtain ⟨r22, qr22, hm⟩ := ss_bind hm
                  refine ss_getr hC hK hR kf_M_58 rfl qr22 dd_M_ring_40 ?_
                  refine lv_bipush (v := 8) hx hb dd_M_ring_43 (by decide) ?_
                  refine lv_iload_n hx hb dd_M_ring_45 rfl (lv_at hl 2 rfl) ?_
                  refine lv_imul hx hb dd_M_ring_46 ?_
                  refine lv_iload_n hx hb dd_M_ring_47 rfl (lv_at hl 3 rfl) ?_
                  refine lv_iadd hx hb dd_M_ring_48 ?_
                  refine ss_aload_n hx hb dd_M_ring_49 rfl (lv_at hl 0 rfl) ?_
                  obtain ⟨r23, qr23, hm⟩ := ss_bind hm
                  refine ss_getr hC hK hR kf_M_39 rfl qr23 dd_M_ring_50 ?_
                  refine lv_bipush (v := 14) hx hb dd_M_ring_53 (by decide) ?_
                  refine lv_iload_n hx hb dd_M_ring_55 rfl (lv_at hl 3 rfl) ?_
                  refine lv_iadd hx hb dd_M_ring_56 ?_
                  obtain ⟨v24, qv24, hm⟩ := ss_bind hm
                  refine ss_iald hC hK hR qv24 dd_M_ring_57 ?_
                  obtain ⟨h25, qh25, hm⟩ := ss_bind hm
                  refine ss_iast hC hK hR hS qh25 dd_M_ring_58 (fun H locs hR hS => ?_)
                  obtain ⟨v26, qv26, hm⟩ := ss_bind hm
                  refine lv_iinc (v := v26) (lv' := [(3, .int v26), (0, ss_v (ss_b G) this), (1, .int a1), (2, .int x2_25)]) hx hb dd_M_ring_59 hl (k := 3) rfl (ss_inc (by decide) qv26) (by decide) rfl (fun ls hl => ?_)
                  refine lv_goto (tgt := 33) hx hb dd_M_ring_62 (by decide) ?_
                  exact ih_33 v26 h25 _ _ _ (hz1_33 _ (ss_some hm)) hR hS (lv_sub hl [1, 2, 3, 0] rfl)
            exact L_33 N (0 : Int32) h_25 _ _ _ he_33 hR hS (lv_sub hl [1, 2, 3, 0] rfl)
      exact L_25 N (0 : Int32) h5 _ _ _ he_25 hR hS (lv_sub hl [1, 2, 0] rfl)
    · have hm := ss_ift hm c4
      exact J_17 h _ _ _ hm hR hS (lv_sub hl [] rfl)
theorem dd_M_isSpared_0 : decode bb_M_isSpared 0 = .ok (.aload_n 0, 1) := by decide +kernel
theorem dd_M_isSpared_1 : decode bb_M_isSpared 1 = .ok (.getfield 39, 3) := by decide +kernel
theorem dd_M_isSpared_4 : decode bb_M_isSpared 4 = .ok (.bipush 14, 2) := by decide +kernel
theorem dd_M_isSpared_6 : decode bb_M_isSpared 6 = .ok (.iload_n 1, 1) := by decide +kernel
theorem dd_M_isSpared_7 : decode bb_M_isSpared 7 = .ok (.iadd, 1) := by decide +kernel
theorem dd_M_isSpared_8 : decode bb_M_isSpared 8 = .ok (.iaload, 1) := by decide +kernel
theorem dd_M_isSpared_9 : decode bb_M_isSpared 9 = .ok (.istore 4, 2) := by decide +kernel
theorem dd_M_isSpared_11 : decode bb_M_isSpared 11 = .ok (.iconst 0, 1) := by decide +kernel
theorem dd_M_isSpared_12 : decode bb_M_isSpared 12 = .ok (.istore 5, 2) := by decide +kernel
theorem dd_M_isSpared_14 : decode bb_M_isSpared 14 = .ok (.iload 5, 2) := by decide +kernel
theorem dd_M_isSpared_16 : decode bb_M_isSpared 16 = .ok (.iload_n 2, 1) := by decide +kernel
theorem dd_M_isSpared_17 : decode bb_M_isSpared 17 = .ok (.if_icmp .ge 75, 3) := by decide +kernel
theorem dd_M_isSpared_20 : decode bb_M_isSpared 20 = .ok (.iload_n 3, 1) := by decide +kernel
theorem dd_M_isSpared_21 : decode bb_M_isSpared 21 = .ok (.iload 5, 2) := by decide +kernel
theorem dd_M_isSpared_23 : decode bb_M_isSpared 23 = .ok (.invokestatic 316, 3) := by decide +kernel
theorem dd_M_isSpared_26 : decode bb_M_isSpared 26 = .ok (.ifCond .eq 6, 3) := by decide +kernel
theorem dd_M_isSpared_29 : decode bb_M_isSpared 29 = .ok (.iconst 0, 1) := by decide +kernel
theorem dd_M_isSpared_30 : decode bb_M_isSpared 30 = .ok (.istore 4, 2) := by decide +kernel
theorem dd_M_isSpared_32 : decode bb_M_isSpared 32 = .ok (.aload_n 0, 1) := by decide +kernel
theorem dd_M_isSpared_33 : decode bb_M_isSpared 33 = .ok (.aload_n 0, 1) := by decide +kernel
theorem dd_M_isSpared_34 : decode bb_M_isSpared 34 = .ok (.getfield 39, 3) := by decide +kernel
theorem dd_M_isSpared_37 : decode bb_M_isSpared 37 = .ok (.bipush 10, 2) := by decide +kernel
theorem dd_M_isSpared_39 : decode bb_M_isSpared 39 = .ok (.iaload, 1) := by decide +kernel
theorem dd_M_isSpared_40 : decode bb_M_isSpared 40 = .ok (.iload 5, 2) := by decide +kernel
theorem dd_M_isSpared_42 : decode bb_M_isSpared 42 = .ok (.iadd, 1) := by decide +kernel
theorem dd_M_isSpared_43 : decode bb_M_isSpared 43 = .ok (.invokevirtual 319, 3) := by decide +kernel
theorem dd_M_isSpared_46 : decode bb_M_isSpared 46 = .ok (.iload_n 1, 1) := by decide +kernel
theorem dd_M_isSpared_47 : decode bb_M_isSpared 47 = .ok (.invokestatic 316, 3) := by decide +kernel
theorem dd_M_isSpared_50 : decode bb_M_isSpared 50 = .ok (.ifCond .eq 16, 3) := by decide +kernel
theorem dd_M_isSpared_53 : decode bb_M_isSpared 53 = .ok (.iload 4, 2) := by decide +kernel
theorem dd_M_isSpared_55 : decode bb_M_isSpared 55 = .ok (.aload_n 0, 1) := by decide +kernel
theorem dd_M_isSpared_56 : decode bb_M_isSpared 56 = .ok (.getfield 39, 3) := by decide +kernel
theorem dd_M_isSpared_59 : decode bb_M_isSpared 59 = .ok (.iconst 1, 1) := by decide +kernel
theorem dd_M_isSpared_60 : decode bb_M_isSpared 60 = .ok (.iaload, 1) := by decide +kernel
theorem dd_M_isSpared_61 : decode bb_M_isSpared 61 = .ok (.if_icmp .lt 5, 3) := by decide +kernel
theorem dd_M_isSpared_64 : decode bb_M_isSpared 64 = .ok (.iconst 0, 1) := by decide +kernel
theorem dd_M_isSpared_65 : decode bb_M_isSpared 65 = .ok (.ireturn, 1) := by decide +kernel
theorem dd_M_isSpared_66 : decode bb_M_isSpared 66 = .ok (.iload_n 3, 1) := by decide +kernel
theorem dd_M_isSpared_67 : decode bb_M_isSpared 67 = .ok (.iload 5, 2) := by decide +kernel
theorem dd_M_isSpared_69 : decode bb_M_isSpared 69 = .ok (.invokestatic 316, 3) := by decide +kernel
theorem dd_M_isSpared_72 : decode bb_M_isSpared 72 = .ok (.ifCond .eq 14, 3) := by decide +kernel
theorem dd_M_isSpared_75 : decode bb_M_isSpared 75 = .ok (.iload 4, 2) := by decide +kernel
theorem dd_M_isSpared_77 : decode bb_M_isSpared 77 = .ok (.aload_n 0, 1) := by decide +kernel
theorem dd_M_isSpared_78 : decode bb_M_isSpared 78 = .ok (.getfield 39, 3) := by decide +kernel
theorem dd_M_isSpared_81 : decode bb_M_isSpared 81 = .ok (.iconst 0, 1) := by decide +kernel
theorem dd_M_isSpared_82 : decode bb_M_isSpared 82 = .ok (.iaload, 1) := by decide +kernel
theorem dd_M_isSpared_83 : decode bb_M_isSpared 83 = .ok (.iadd, 1) := by decide +kernel
theorem dd_M_isSpared_84 : decode bb_M_isSpared 84 = .ok (.istore 4, 2) := by decide +kernel
theorem dd_M_isSpared_86 : decode bb_M_isSpared 86 = .ok (.iinc 5 1, 3) := by decide +kernel
theorem dd_M_isSpared_89 : decode bb_M_isSpared 89 = .ok (.goto (-75), 3) := by decide +kernel
theorem dd_M_isSpared_92 : decode bb_M_isSpared 92 = .ok (.iconst 1, 1) := by decide +kernel
theorem dd_M_isSpared_93 : decode bb_M_isSpared 93 = .ok (.ireturn, 1) := by decide +kernel
def mm_M_isSpared_j86 (N : Nat) (this : Option Nat) (a1 : Int32) (a2 : Int32) (a3 : Int32) (h : ss_Hp) (x4_86 : Int32) (x5_86 : Int32) : Option ((Int32 × Int32) ⊕ (Unit ⊕ Unit)) :=
  (some (x5_86 + (1 : Int32))).bind fun v3 =>
  some (.inl (x4_86, v3))
def mm_M_isSpared_j66 (N : Nat) (this : Option Nat) (a1 : Int32) (a2 : Int32) (a3 : Int32) (h : ss_Hp) (x4_66 : Int32) (x5_66 : Int32) : Option ((Int32 × Int32) ⊕ (Unit ⊕ Unit)) :=
  (mm_M_isOf N a3 x5_66).bind fun v4 =>
  if v4 = 0 then
    mm_M_isSpared_j86 N this a1 a2 a3 h x4_66 x5_66
  else
    (ss_gr h this 12 9).bind fun r6 =>
    (ss_ai h r6 20 (0 : Int32)).bind fun v7 =>
    (some (x4_66 + v7)).bind fun v8 =>
    mm_M_isSpared_j86 N this a1 a2 a3 h v8 x5_66
def mm_M_isSpared_j32 (N : Nat) (this : Option Nat) (a1 : Int32) (a2 : Int32) (a3 : Int32) (h : ss_Hp) (x4_32 : Int32) (x5_32 : Int32) : Option ((Int32 × Int32) ⊕ (Unit ⊕ Unit)) :=
  (ss_gr h this 12 9).bind fun r9 =>
  (ss_ai h r9 20 (10 : Int32)).bind fun v10 =>
  (mm_M_neededOn N this (v10 + x5_32) h).bind fun v11 =>
  (mm_M_isOf N v11 a1).bind fun v12 =>
  if v12 = 0 then
    mm_M_isSpared_j66 N this a1 a2 a3 h x4_32 x5_32
  else
    (ss_gr h this 12 9).bind fun r14 =>
    (ss_ai h r14 20 (1 : Int32)).bind fun v15 =>
    if x4_32 < v15 then
      mm_M_isSpared_j66 N this a1 a2 a3 h x4_32 x5_32
    else
      some (.inr (.inr ()))
def mm_M_isSpared_b14 (N : Nat) (this : Option Nat) (a1 : Int32) (a2 : Int32) (a3 : Int32) (h : ss_Hp) (st : Int32 × Int32) : Option ((Int32 × Int32) ⊕ (Unit ⊕ Unit)) :=
  match st with
  | (x4_14, x5_14) =>
    if a2 ≤ x5_14 then
      some (.inr (.inl ()))
    else
      (mm_M_isOf N a3 x5_14).bind fun v18 =>
      if v18 = 0 then
        mm_M_isSpared_j32 N this a1 a2 a3 h x4_14 x5_14
      else
        mm_M_isSpared_j32 N this a1 a2 a3 h (0 : Int32) x5_14
def mm_M_isSpared (N : Nat) (this : Option Nat) (a1 : Int32) (a2 : Int32) (a3 : Int32) (h : ss_Hp) : Option Int32 :=
  if ss_is h this 12 = true then
    (ss_gr h this 12 9).bind fun r1 =>
    (ss_ai h r1 20 ((14 : Int32) + a1)).bind fun v2 =>
    (ss_lp (mm_M_isSpared_b14 N this a1 a2 a3 h) N (v2, (0 : Int32))).bind fun e_14 =>
    match e_14 with
    | (.inl ()) =>
      some (1 : Int32)
    | (.inr ()) =>
      some (0 : Int32)
  else none
abbrev ww_M_isSpared (p : Program) (l : Launch) (e : Env) (s : State) (m : MethodId) (below : List Frame) (meth : Method) (c : Code) (G : ss_G) (this : Option Nat) (a1 : Int32) (a2 : Int32) (a3 : Int32) (h : ss_Hp) (rr : Int32) (H : Heap) (locs : List Loc) (k n : Nat) (g : JFrame) : Prop := W p l e (headSpec (ss_w yy_M_isSpared bb_M_isSpared 6 (some .boolean)) ({ frames := 1, cells := 0, slots := 0, locals := 21 })).room s m ([ss_v (ss_b G) this, .int a1, .int a2, .int a3] : List Value).toArray below meth c H locs k n (MQ below (ss_Qc G (some (.int rr)) h) ([ss_v (ss_b G) this, .int a1, .int a2, .int a3] : List Value).toArray s 0 0 (ss_A G)) g
theorem ck_M_isSpared {N : Nat} {this : Option Nat} {a1 : Int32} {a2 : Int32} {a3 : Int32} {h : ss_Hp} {res : Int32} (hm : mm_M_isSpared N this a1 a2 a3 h = some res) : ss_is h this 12 = true := (ss_chk hm).1
set_option maxHeartbeats 4000000 in
set_option maxRecDepth 100000 in
theorem cc_M_isSpared (l : Launch) (G : ss_G) (N : Nat) (this : Option Nat) (a1 : Int32) (a2 : Int32) (a3 : Int32) (h : ss_Hp) (rr : Int32) (hm : mm_M_isSpared N this a1 a2 a3 h = some rr) : ss_Ct l G yy_M_isSpared bb_M_isSpared 6 (some .boolean) ({ frames := 1, cells := 0, slots := 0, locals := 21 }) [ss_v (ss_b G) this, .int a1, .int a2, .int a3] h (some (.int rr)) h := by
  obtain ⟨hck, hm⟩ := ss_chk hm
  refine Met.ofW (cc := bb_M_isSpared) (maxL := 6) (ret := (some .boolean)) (by decide) rfl ?_
  intro p e s m args below meth c s₁ B hml hv
  obtain ⟨rfl, hR, hK⟩ := hv
  have hC : CallFix p m c bb_M_isSpared 6 s _ lw_g sR_12 := ⟨B.exec, B.bytes, hml, findClass_of_methodNamed B.named, fun w hw => atoms_spec (ws := ss_w yy_M_isSpared bb_M_isSpared 6 (some .boolean)) B.pre w (List.mem_cons_of_mem _ hw)⟩
  have hx := hC.1
  have hb := hC.2.1
  have hr := B.returns
  have hlocks := B.notSynchronized
  have hS : va_S (ss_A G) s.heap s.heap [] := va_S.rf
  have hl := lv_entry ([ss_v (ss_b G) this, .int a1, .int a2, .int a3]) (n := 6) (by simp [lg_sl, ss_v_cat, ss_cat_i, ss_cat_l, ss_cat_r])
  rw [lg_entry_eq]
  generalize (lg_sl ([ss_v (ss_b G) this, .int a1, .int a2, .int a3]) ++ List.replicate (6 - (lg_sl ([ss_v (ss_b G) this, .int a1, .int a2, .int a3])).length) Slot.unset).toArray = ls at hl ⊢
  have hl : lv_has ls 6 [(0, ss_v (ss_b G) this), (1, .int a1), (2, .int a2), (3, .int a3)] := by simpa [lv_args, ss_v_cat, ss_cat_i, ss_cat_l, ss_cat_r] using hl
  refine ss_aload_n hx hb dd_M_isSpared_0 rfl (lv_at hl 0 rfl) ?_
  obtain ⟨r1, qr1, hm⟩ := ss_bind hm
  refine ss_getr hC hK hR kf_M_39 rfl qr1 dd_M_isSpared_1 ?_
  refine lv_bipush (v := 14) hx hb dd_M_isSpared_4 (by decide) ?_
  refine lv_iload_n hx hb dd_M_isSpared_6 rfl (lv_at hl 1 rfl) ?_
  refine lv_iadd hx hb dd_M_isSpared_7 ?_
  obtain ⟨v2, qv2, hm⟩ := ss_bind hm
  refine ss_iald hC hK hR qv2 dd_M_isSpared_8 ?_
  refine lv_istore (lv' := [(4, .int v2), (0, ss_v (ss_b G) this), (1, .int a1), (2, .int a2), (3, .int a3)]) hx hb dd_M_isSpared_9 hl (by decide) rfl (fun ls hl => ?_)
  refine lv_iconst (v := 0) hx hb dd_M_isSpared_11 (by decide) ?_
  refine lv_istore (lv' := [(5, .int (0 : Int32)), (4, .int v2), (0, ss_v (ss_b G) this), (1, .int a1), (2, .int a2), (3, .int a3)]) hx hb dd_M_isSpared_12 hl (by decide) rfl (fun ls hl => ?_)
  obtain ⟨e_14, he_14, hm⟩ := ss_bind hm
  have X_14_92 : ∀  (H : Heap) (locs : List Loc) (ls : Array Slot), e_14 = (.inl ()) → ss_R G h H → va_S (ss_A G) s.heap H locs → lv_has ls 6 [] → ww_M_isSpared p l e s m below meth c G this a1 a2 a3 h rr  H locs 0 0 (F0 m 92 ls []) := by
    intro  H locs ls hq hR hS hl
    rw [hq] at hm
    refine lv_iconst (v := 1) hx hb dd_M_isSpared_92 (by decide) ?_
    exact ss_zret hC hr (by decide) hlocks hR hS (ss_with _ hm) dd_M_isSpared_93
  have X_14_64 : ∀  (H : Heap) (locs : List Loc) (ls : Array Slot), e_14 = (.inr ()) → ss_R G h H → va_S (ss_A G) s.heap H locs → lv_has ls 6 [] → ww_M_isSpared p l e s m below meth c G this a1 a2 a3 h rr  H locs 0 0 (F0 m 64 ls []) := by
    intro  H locs ls hq hR hS hl
    rw [hq] at hm
    refine lv_iconst (v := 0) hx hb dd_M_isSpared_64 (by decide) ?_
    exact ss_zret hC hr (by decide) hlocks hR hS (ss_with _ hm) dd_M_isSpared_65
  have L_14 : ∀ (n : Nat) (x4_14 : Int32) (x5_14 : Int32) (H : Heap) (locs : List Loc) (ls : Array Slot), ss_lp (mm_M_isSpared_b14 N this a1 a2 a3 h) n (x4_14, x5_14) = some e_14 → ss_R G h H → va_S (ss_A G) s.heap H locs → lv_has ls 6 [(0, ss_v (ss_b G) this), (1, .int a1), (2, .int a2), (3, .int a3), (4, .int x4_14), (5, .int x5_14)] → ww_M_isSpared p l e s m below meth c G this a1 a2 a3 h rr  H locs 0 0 (F0 m 14 ls []) := by
    intro n
    induction n with
    | zero => intro x4_14 x5_14 H locs ls hm; cases hm
    | succ n ih_14 =>
      intro x4_14 x5_14 H locs ls hm hR hS hl
      obtain ⟨z_14, hm, hz1_14, hz2_14⟩ := ss_lps hm
      have J_86 : ∀ (x4_86 : Int32) (x5_86 : Int32) (H : Heap) (locs : List Loc) (ls : Array Slot), mm_M_isSpared_j86 N this a1 a2 a3 h x4_86 x5_86 = some z_14 → ss_R G h H → va_S (ss_A G) s.heap H locs → lv_has ls 6 [(0, ss_v (ss_b G) this), (1, .int a1), (2, .int a2), (3, .int a3), (4, .int x4_86), (5, .int x5_86)] → ww_M_isSpared p l e s m below meth c G this a1 a2 a3 h rr  H locs 0 0 (F0 m 86 ls []) := by
        intro x4_86 x5_86 H locs ls hm hR hS hl
        obtain ⟨v3, qv3, hm⟩ := ss_bind hm
        refine lv_iinc (v := v3) (lv' := [(5, .int v3), (0, ss_v (ss_b G) this), (1, .int a1), (2, .int a2), (3, .int a3), (4, .int x4_86)]) hx hb dd_M_isSpared_86 hl (k := 5) rfl (ss_inc (by decide) qv3) (by decide) rfl (fun ls hl => ?_)
        refine lv_goto (tgt := 14) hx hb dd_M_isSpared_89 (by decide) ?_
        exact ih_14 x4_86 v3  _ _ _ (hz1_14 _ (ss_some hm)) hR hS (lv_sub hl [1, 2, 3, 4, 5, 0] rfl)
      have J_66 : ∀ (x4_66 : Int32) (x5_66 : Int32) (H : Heap) (locs : List Loc) (ls : Array Slot), mm_M_isSpared_j66 N this a1 a2 a3 h x4_66 x5_66 = some z_14 → ss_R G h H → va_S (ss_A G) s.heap H locs → lv_has ls 6 [(0, ss_v (ss_b G) this), (1, .int a1), (2, .int a2), (3, .int a3), (4, .int x4_66), (5, .int x5_66)] → ww_M_isSpared p l e s m below meth c G this a1 a2 a3 h rr  H locs 0 0 (F0 m 66 ls []) := by
        intro x4_66 x5_66 H locs ls hm hR hS hl
        refine lv_iload_n hx hb dd_M_isSpared_66 rfl (lv_at hl 3 rfl) ?_
        refine lv_iload hx hb dd_M_isSpared_67 (lv_at hl 5 rfl) ?_
        obtain ⟨v4, qv4, hm⟩ := ss_bind hm
        refine ss_cS 0 0 (As := [.int a3, .int x5_66]) hC hK hR hS hl.1 (cc_M_isOf l G N _ _ _ _ qv4) km_M_316 ⟨Nat.le_of_ble_eq_true rfl, Nat.le_of_ble_eq_true rfl⟩ ⟨Nat.le_of_ble_eq_true rfl, Nat.le_of_ble_eq_true rfl, Nat.le_of_ble_eq_true rfl, Nat.le_of_ble_eq_true rfl⟩ rfl rfl (Nat.le_of_ble_eq_true rfl) dd_M_isSpared_69 (fun H locs hR hS => ?_)
        refine lv_if_eq (tgt := 86) hx hb dd_M_isSpared_72 (by decide) (fun c5 => ?_) (fun c5 => ?_)
        · have hm := ss_ift hm c5
          exact J_86 x4_66 x5_66  _ _ _ hm hR hS hl
        · have hm := ss_iff hm c5
          refine lv_iload hx hb dd_M_isSpared_75 (lv_at hl 4 rfl) ?_
          refine ss_aload_n hx hb dd_M_isSpared_77 rfl (lv_at hl 0 rfl) ?_
          obtain ⟨r6, qr6, hm⟩ := ss_bind hm
          refine ss_getr hC hK hR kf_M_39 rfl qr6 dd_M_isSpared_78 ?_
          refine lv_iconst (v := 0) hx hb dd_M_isSpared_81 (by decide) ?_
          obtain ⟨v7, qv7, hm⟩ := ss_bind hm
          refine ss_iald hC hK hR qv7 dd_M_isSpared_82 ?_
          refine lv_iadd hx hb dd_M_isSpared_83 ?_
          obtain ⟨v8, qv8, hm⟩ := ss_bind hm
          refine ss_topi qv8 ?_
          refine lv_istore (lv' := [(4, .int v8), (0, ss_v (ss_b G) this), (1, .int a1), (2, .int a2), (3, .int a3), (5, .int x5_66)]) hx hb dd_M_isSpared_84 hl (by decide) rfl (fun ls hl => ?_)
          exact J_86 v8 x5_66  _ _ _ hm hR hS (lv_sub hl [1, 2, 3, 4, 0, 5] rfl)
      have J_32 : ∀ (x4_32 : Int32) (x5_32 : Int32) (H : Heap) (locs : List Loc) (ls : Array Slot), mm_M_isSpared_j32 N this a1 a2 a3 h x4_32 x5_32 = some z_14 → ss_R G h H → va_S (ss_A G) s.heap H locs → lv_has ls 6 [(0, ss_v (ss_b G) this), (1, .int a1), (2, .int a2), (3, .int a3), (4, .int x4_32), (5, .int x5_32)] → ww_M_isSpared p l e s m below meth c G this a1 a2 a3 h rr  H locs 0 0 (F0 m 32 ls []) := by
        intro x4_32 x5_32 H locs ls hm hR hS hl
        refine ss_aload_n hx hb dd_M_isSpared_32 rfl (lv_at hl 0 rfl) ?_
        refine ss_aload_n hx hb dd_M_isSpared_33 rfl (lv_at hl 0 rfl) ?_
        obtain ⟨r9, qr9, hm⟩ := ss_bind hm
        refine ss_getr hC hK hR kf_M_39 rfl qr9 dd_M_isSpared_34 ?_
        refine lv_bipush (v := 10) hx hb dd_M_isSpared_37 (by decide) ?_
        obtain ⟨v10, qv10, hm⟩ := ss_bind hm
        refine ss_iald hC hK hR qv10 dd_M_isSpared_39 ?_
        refine lv_iload hx hb dd_M_isSpared_40 (lv_at hl 5 rfl) ?_
        refine lv_iadd hx hb dd_M_isSpared_42 ?_
        obtain ⟨v11, qv11, hm⟩ := ss_bind hm
        refine ss_cV 0 0 (As := [.int (v10 + x5_32)]) hC hK hR hS hl.1 (cc_M_neededOn l G N _ _ _ _ qv11) km_M_319 (ck_M_neededOn qv11) ⟨Nat.le_of_ble_eq_true rfl, Nat.le_of_ble_eq_true rfl⟩ ⟨Nat.le_of_ble_eq_true rfl, Nat.le_of_ble_eq_true rfl, Nat.le_of_ble_eq_true rfl, Nat.le_of_ble_eq_true rfl⟩ rfl rfl (Nat.le_of_ble_eq_true rfl) dd_M_isSpared_43 (fun H locs hR hS => ?_)
        refine lv_iload_n hx hb dd_M_isSpared_46 rfl (lv_at hl 1 rfl) ?_
        obtain ⟨v12, qv12, hm⟩ := ss_bind hm
        refine ss_cS 0 0 (As := [.int v11, .int a1]) hC hK hR hS hl.1 (cc_M_isOf l G N _ _ _ _ qv12) km_M_316 ⟨Nat.le_of_ble_eq_true rfl, Nat.le_of_ble_eq_true rfl⟩ ⟨Nat.le_of_ble_eq_true rfl, Nat.le_of_ble_eq_true rfl, Nat.le_of_ble_eq_true rfl, Nat.le_of_ble_eq_true rfl⟩ rfl rfl (Nat.le_of_ble_eq_true rfl) dd_M_isSpared_47 (fun H locs hR hS => ?_)
        refine lv_if_eq (tgt := 66) hx hb dd_M_isSpared_50 (by decide) (fun c13 => ?_) (fun c13 => ?_)
        · have hm := ss_ift hm c13
          exact J_66 x4_32 x5_32  _ _ _ hm hR hS hl
        · have hm := ss_iff hm c13
          refine lv_iload hx hb dd_M_isSpared_53 (lv_at hl 4 rfl) ?_
          refine ss_aload_n hx hb dd_M_isSpared_55 rfl (lv_at hl 0 rfl) ?_
          obtain ⟨r14, qr14, hm⟩ := ss_bind hm
          refine ss_getr hC hK hR kf_M_39 rfl qr14 dd_M_isSpared_56 ?_
          refine lv_iconst (v := 1) hx hb dd_M_isSpared_59 (by decide) ?_
          obtain ⟨v15, qv15, hm⟩ := ss_bind hm
          refine ss_iald hC hK hR qv15 dd_M_isSpared_60 ?_
          refine lv_icmp_lt (tgt := 66) hx hb dd_M_isSpared_61 (by decide) (fun c16 => ?_) (fun c16 => ?_)
          · have hm := ss_ift hm c16
            exact J_66 x4_32 x5_32  _ _ _ hm hR hS hl
          · have hm := ss_iff hm c16
            exact X_14_64  _ _ _ (hz2_14 _ (ss_some hm)) hR hS (lv_sub hl [] rfl)
      refine lv_iload hx hb dd_M_isSpared_14 (lv_at hl 5 rfl) ?_
      refine lv_iload_n hx hb dd_M_isSpared_16 rfl (lv_at hl 2 rfl) ?_
      refine lv_icmp_ge (tgt := 92) hx hb dd_M_isSpared_17 (by decide) (fun c17 => ?_) (fun c17 => ?_)
      · have hm := ss_ift hm c17
        exact X_14_92  _ _ _ (hz2_14 _ (ss_some hm)) hR hS (lv_sub hl [] rfl)
      · have hm := ss_iff hm c17
        refine lv_iload_n hx hb dd_M_isSpared_20 rfl (lv_at hl 3 rfl) ?_
        refine lv_iload hx hb dd_M_isSpared_21 (lv_at hl 5 rfl) ?_
        obtain ⟨v18, qv18, hm⟩ := ss_bind hm
        refine ss_cS 0 0 (As := [.int a3, .int x5_14]) hC hK hR hS hl.1 (cc_M_isOf l G N _ _ _ _ qv18) km_M_316 ⟨Nat.le_of_ble_eq_true rfl, Nat.le_of_ble_eq_true rfl⟩ ⟨Nat.le_of_ble_eq_true rfl, Nat.le_of_ble_eq_true rfl, Nat.le_of_ble_eq_true rfl, Nat.le_of_ble_eq_true rfl⟩ rfl rfl (Nat.le_of_ble_eq_true rfl) dd_M_isSpared_23 (fun H locs hR hS => ?_)
        refine lv_if_eq (tgt := 32) hx hb dd_M_isSpared_26 (by decide) (fun c19 => ?_) (fun c19 => ?_)
        · have hm := ss_ift hm c19
          exact J_32 x4_14 x5_14  _ _ _ hm hR hS hl
        · have hm := ss_iff hm c19
          refine lv_iconst (v := 0) hx hb dd_M_isSpared_29 (by decide) ?_
          refine lv_istore (lv' := [(4, .int (0 : Int32)), (0, ss_v (ss_b G) this), (1, .int a1), (2, .int a2), (3, .int a3), (5, .int x5_14)]) hx hb dd_M_isSpared_30 hl (by decide) rfl (fun ls hl => ?_)
          exact J_32 (0 : Int32) x5_14  _ _ _ hm hR hS (lv_sub hl [1, 2, 3, 4, 0, 5] rfl)
  exact L_14 N v2 (0 : Int32) _ _ _ he_14 hR hS (lv_sub hl [2, 3, 4, 5, 1, 0] rfl)
theorem dd_M_spare_0 : decode bb_M_spare 0 = .ok (.aload_n 0, 1) := by decide +kernel
theorem dd_M_spare_1 : decode bb_M_spare 1 = .ok (.iload_n 1, 1) := by decide +kernel
theorem dd_M_spare_2 : decode bb_M_spare 2 = .ok (.invokevirtual 313, 3) := by decide +kernel
theorem dd_M_spare_5 : decode bb_M_spare 5 = .ok (.ifCond .eq 25, 3) := by decide +kernel
theorem dd_M_spare_8 : decode bb_M_spare 8 = .ok (.iload_n 2, 1) := by decide +kernel
theorem dd_M_spare_9 : decode bb_M_spare 9 = .ok (.i2l, 1) := by decide +kernel
theorem dd_M_spare_10 : decode bb_M_spare 10 = .ok (.lconst 1, 1) := by decide +kernel
theorem dd_M_spare_11 : decode bb_M_spare 11 = .ok (.ldc2_w 396, 3) := by decide +kernel
theorem dd_M_spare_14 : decode bb_M_spare 14 = .ok (.invokestatic 124, 3) := by decide +kernel
theorem dd_M_spare_17 : decode bb_M_spare 17 = .ok (.ifCond .eq 13, 3) := by decide +kernel
theorem dd_M_spare_20 : decode bb_M_spare 20 = .ok (.iload_n 3, 1) := by decide +kernel
theorem dd_M_spare_21 : decode bb_M_spare 21 = .ok (.i2l, 1) := by decide +kernel
theorem dd_M_spare_22 : decode bb_M_spare 22 = .ok (.lconst 0, 1) := by decide +kernel
theorem dd_M_spare_23 : decode bb_M_spare 23 = .ok (.lconst 1, 1) := by decide +kernel
theorem dd_M_spare_24 : decode bb_M_spare 24 = .ok (.invokestatic 124, 3) := by decide +kernel
theorem dd_M_spare_27 : decode bb_M_spare 27 = .ok (.ifCond .ne 5, 3) := by decide +kernel
theorem dd_M_spare_30 : decode bb_M_spare 30 = .ok (.iconst (-1), 1) := by decide +kernel
theorem dd_M_spare_31 : decode bb_M_spare 31 = .ok (.ireturn, 1) := by decide +kernel
theorem dd_M_spare_32 : decode bb_M_spare 32 = .ok (.iconst (-1), 1) := by decide +kernel
theorem dd_M_spare_33 : decode bb_M_spare 33 = .ok (.istore 4, 2) := by decide +kernel
theorem dd_M_spare_35 : decode bb_M_spare 35 = .ok (.iconst 0, 1) := by decide +kernel
theorem dd_M_spare_36 : decode bb_M_spare 36 = .ok (.istore 5, 2) := by decide +kernel
theorem dd_M_spare_38 : decode bb_M_spare 38 = .ok (.iload 5, 2) := by decide +kernel
theorem dd_M_spare_40 : decode bb_M_spare 40 = .ok (.iconst 1, 1) := by decide +kernel
theorem dd_M_spare_41 : decode bb_M_spare 41 = .ok (.iload_n 2, 1) := by decide +kernel
theorem dd_M_spare_42 : decode bb_M_spare 42 = .ok (.ishl, 1) := by decide +kernel
theorem dd_M_spare_43 : decode bb_M_spare 43 = .ok (.if_icmp .ge 42, 3) := by decide +kernel
theorem dd_M_spare_46 : decode bb_M_spare 46 = .ok (.iload 4, 2) := by decide +kernel
theorem dd_M_spare_48 : decode bb_M_spare 48 = .ok (.ifCond .lt 16, 3) := by decide +kernel
theorem dd_M_spare_51 : decode bb_M_spare 51 = .ok (.iload 5, 2) := by decide +kernel
theorem dd_M_spare_53 : decode bb_M_spare 53 = .ok (.invokestatic 343, 3) := by decide +kernel
theorem dd_M_spare_56 : decode bb_M_spare 56 = .ok (.iload 4, 2) := by decide +kernel
theorem dd_M_spare_58 : decode bb_M_spare 58 = .ok (.invokestatic 343, 3) := by decide +kernel
theorem dd_M_spare_61 : decode bb_M_spare 61 = .ok (.if_icmp .ge 18, 3) := by decide +kernel
theorem dd_M_spare_64 : decode bb_M_spare 64 = .ok (.aload_n 0, 1) := by decide +kernel
theorem dd_M_spare_65 : decode bb_M_spare 65 = .ok (.iload_n 1, 1) := by decide +kernel
theorem dd_M_spare_66 : decode bb_M_spare 66 = .ok (.iload_n 2, 1) := by decide +kernel
theorem dd_M_spare_67 : decode bb_M_spare 67 = .ok (.iload 5, 2) := by decide +kernel
theorem dd_M_spare_69 : decode bb_M_spare 69 = .ok (.invokevirtual 398, 3) := by decide +kernel
theorem dd_M_spare_72 : decode bb_M_spare 72 = .ok (.ifCond .eq 7, 3) := by decide +kernel
theorem dd_M_spare_75 : decode bb_M_spare 75 = .ok (.iload 5, 2) := by decide +kernel
theorem dd_M_spare_77 : decode bb_M_spare 77 = .ok (.istore 4, 2) := by decide +kernel
theorem dd_M_spare_79 : decode bb_M_spare 79 = .ok (.iinc 5 1, 3) := by decide +kernel
theorem dd_M_spare_82 : decode bb_M_spare 82 = .ok (.goto (-44), 3) := by decide +kernel
theorem dd_M_spare_85 : decode bb_M_spare 85 = .ok (.iload_n 3, 1) := by decide +kernel
theorem dd_M_spare_86 : decode bb_M_spare 86 = .ok (.ifCond .ne 11, 3) := by decide +kernel
theorem dd_M_spare_89 : decode bb_M_spare 89 = .ok (.iload 4, 2) := by decide +kernel
theorem dd_M_spare_91 : decode bb_M_spare 91 = .ok (.invokestatic 343, 3) := by decide +kernel
theorem dd_M_spare_94 : decode bb_M_spare 94 = .ok (.goto 5, 3) := by decide +kernel
theorem dd_M_spare_97 : decode bb_M_spare 97 = .ok (.iload 4, 2) := by decide +kernel
theorem dd_M_spare_99 : decode bb_M_spare 99 = .ok (.ireturn, 1) := by decide +kernel
def mm_M_spare_j30 (N : Nat) (this : Option Nat) (a1 : Int32) (a2 : Int32) (a3 : Int32) (h : ss_Hp) : Option Int32 :=
  some (-1 : Int32)
def mm_M_spare_j99 (N : Nat) (this : Option Nat) (a1 : Int32) (a2 : Int32) (a3 : Int32) (h : ss_Hp) (s0_99 : Int32) : Option Int32 :=
  some s0_99
def mm_M_spare_j79 (N : Nat) (this : Option Nat) (a1 : Int32) (a2 : Int32) (a3 : Int32) (h : ss_Hp) (x4_79 : Int32) (x5_79 : Int32) : Option ((Int32 × Int32) ⊕ Int32) :=
  (some (x5_79 + (1 : Int32))).bind fun v9 =>
  some (.inl (x4_79, v9))
def mm_M_spare_j64 (N : Nat) (this : Option Nat) (a1 : Int32) (a2 : Int32) (a3 : Int32) (h : ss_Hp) (x4_64 : Int32) (x5_64 : Int32) : Option ((Int32 × Int32) ⊕ Int32) :=
  (mm_M_isSpared N this a1 a2 x5_64 h).bind fun v10 =>
  if v10 = 0 then
    mm_M_spare_j79 N this a1 a2 a3 h x4_64 x5_64
  else
    mm_M_spare_j79 N this a1 a2 a3 h x5_64 x5_64
def mm_M_spare_b38 (N : Nat) (this : Option Nat) (a1 : Int32) (a2 : Int32) (a3 : Int32) (h : ss_Hp) (st : Int32 × Int32) : Option ((Int32 × Int32) ⊕ Int32) :=
  match st with
  | (x4_38, x5_38) =>
    if ((1 : Int32) <<< (a2 &&& 31)) ≤ x5_38 then
      some (.inr x4_38)
    else
      if x4_38 < 0 then
        mm_M_spare_j64 N this a1 a2 a3 h x4_38 x5_38
      else
        (mm_M_bits N x5_38).bind fun v14 =>
        (mm_M_bits N x4_38).bind fun v15 =>
        if v15 ≤ v14 then
          mm_M_spare_j79 N this a1 a2 a3 h x4_38 x5_38
        else
          mm_M_spare_j64 N this a1 a2 a3 h x4_38 x5_38
def mm_M_spare (N : Nat) (this : Option Nat) (a1 : Int32) (a2 : Int32) (a3 : Int32) (h : ss_Hp) : Option Int32 :=
  if ss_is h this 12 = true then
    (mm_M_isStep N this a1 h).bind fun v1 =>
    if v1 = 0 then
      mm_M_spare_j30 N this a1 a2 a3 h
    else
      (mm_M_in N ((a2).toInt64) (1 : Int64) (10 : Int64)).bind fun v3 =>
      if v3 = 0 then
        mm_M_spare_j30 N this a1 a2 a3 h
      else
        (mm_M_in N ((a3).toInt64) (0 : Int64) (1 : Int64)).bind fun v5 =>
        if v5 = 0 then
          mm_M_spare_j30 N this a1 a2 a3 h
        else
          (ss_lp (mm_M_spare_b38 N this a1 a2 a3 h) N ((-1 : Int32), (0 : Int32))).bind fun y4_38_85 =>
          if a3 = 0 then
            (mm_M_bits N y4_38_85).bind fun v8 =>
            mm_M_spare_j99 N this a1 a2 a3 h v8
          else
            mm_M_spare_j99 N this a1 a2 a3 h y4_38_85
  else none
abbrev ww_M_spare (p : Program) (l : Launch) (e : Env) (s : State) (m : MethodId) (below : List Frame) (meth : Method) (c : Code) (G : ss_G) (this : Option Nat) (a1 : Int32) (a2 : Int32) (a3 : Int32) (h : ss_Hp) (rr : Int32) (H : Heap) (locs : List Loc) (k n : Nat) (g : JFrame) : Prop := W p l e (headSpec (ss_w yy_M_spare bb_M_spare 6 (some (.int))) ({ frames := 2, cells := 0, slots := 0, locals := 46 })).room s m ([ss_v (ss_b G) this, .int a1, .int a2, .int a3] : List Value).toArray below meth c H locs k n (MQ below (ss_Qc G (some (.int rr)) h) ([ss_v (ss_b G) this, .int a1, .int a2, .int a3] : List Value).toArray s 0 0 (ss_A G)) g
theorem ck_M_spare {N : Nat} {this : Option Nat} {a1 : Int32} {a2 : Int32} {a3 : Int32} {h : ss_Hp} {res : Int32} (hm : mm_M_spare N this a1 a2 a3 h = some res) : ss_is h this 12 = true := (ss_chk hm).1
set_option maxHeartbeats 4000000 in
set_option maxRecDepth 100000 in
theorem cc_M_spare (l : Launch) (G : ss_G) (N : Nat) (this : Option Nat) (a1 : Int32) (a2 : Int32) (a3 : Int32) (h : ss_Hp) (rr : Int32) (hm : mm_M_spare N this a1 a2 a3 h = some rr) : ss_Ct l G yy_M_spare bb_M_spare 6 (some (.int)) ({ frames := 2, cells := 0, slots := 0, locals := 46 }) [ss_v (ss_b G) this, .int a1, .int a2, .int a3] h (some (.int rr)) h := by
  obtain ⟨hck, hm⟩ := ss_chk hm
  refine Met.ofW (cc := bb_M_spare) (maxL := 6) (ret := (some (.int))) (by decide) rfl ?_
  intro p e s m args below meth c s₁ B hml hv
  obtain ⟨rfl, hR, hK⟩ := hv
  have hC : CallFix p m c bb_M_spare 6 s _ lw_g sR_12 := ⟨B.exec, B.bytes, hml, findClass_of_methodNamed B.named, fun w hw => atoms_spec (ws := ss_w yy_M_spare bb_M_spare 6 (some (.int))) B.pre w (List.mem_cons_of_mem _ hw)⟩
  have hx := hC.1
  have hb := hC.2.1
  have hr := B.returns
  have hlocks := B.notSynchronized
  have hS : va_S (ss_A G) s.heap s.heap [] := va_S.rf
  have hl := lv_entry ([ss_v (ss_b G) this, .int a1, .int a2, .int a3]) (n := 6) (by simp [lg_sl, ss_v_cat, ss_cat_i, ss_cat_l, ss_cat_r])
  rw [lg_entry_eq]
  generalize (lg_sl ([ss_v (ss_b G) this, .int a1, .int a2, .int a3]) ++ List.replicate (6 - (lg_sl ([ss_v (ss_b G) this, .int a1, .int a2, .int a3])).length) Slot.unset).toArray = ls at hl ⊢
  have hl : lv_has ls 6 [(0, ss_v (ss_b G) this), (1, .int a1), (2, .int a2), (3, .int a3)] := by simpa [lv_args, ss_v_cat, ss_cat_i, ss_cat_l, ss_cat_r] using hl
  have J_30 : ∀  (H : Heap) (locs : List Loc) (ls : Array Slot), mm_M_spare_j30 N this a1 a2 a3 h = some rr → ss_R G h H → va_S (ss_A G) s.heap H locs → lv_has ls 6 [] → ww_M_spare p l e s m below meth c G this a1 a2 a3 h rr  H locs 0 0 (F0 m 30 ls []) := by
    intro  H locs ls hm hR hS hl
    refine lv_iconst (v := -1) hx hb dd_M_spare_30 (by decide) ?_
    exact ss_iret hC hr hlocks hR hS (ss_with _ hm) dd_M_spare_31
  have J_99 : ∀ (s0_99 : Int32) (H : Heap) (locs : List Loc) (ls : Array Slot), mm_M_spare_j99 N this a1 a2 a3 h s0_99 = some rr → ss_R G h H → va_S (ss_A G) s.heap H locs → lv_has ls 6 [] → ww_M_spare p l e s m below meth c G this a1 a2 a3 h rr  H locs 0 0 (F0 m 99 ls [.int s0_99]) := by
    intro s0_99 H locs ls hm hR hS hl
    exact ss_iret hC hr hlocks hR hS (ss_with _ hm) dd_M_spare_99
  refine ss_aload_n hx hb dd_M_spare_0 rfl (lv_at hl 0 rfl) ?_
  refine lv_iload_n hx hb dd_M_spare_1 rfl (lv_at hl 1 rfl) ?_
  obtain ⟨v1, qv1, hm⟩ := ss_bind hm
  refine ss_cV 0 0 (As := [.int a1]) hC hK hR hS hl.1 (cc_M_isStep l G N _ _ _ _ qv1) km_M_313 (ck_M_isStep qv1) ⟨Nat.le_of_ble_eq_true rfl, Nat.le_of_ble_eq_true rfl⟩ ⟨Nat.le_of_ble_eq_true rfl, Nat.le_of_ble_eq_true rfl, Nat.le_of_ble_eq_true rfl, Nat.le_of_ble_eq_true rfl⟩ rfl rfl (Nat.le_of_ble_eq_true rfl) dd_M_spare_2 (fun H locs hR hS => ?_)
  refine lv_if_eq (tgt := 30) hx hb dd_M_spare_5 (by decide) (fun c2 => ?_) (fun c2 => ?_)
  · have hm := ss_ift hm c2
    exact J_30  _ _ _ hm hR hS (lv_sub hl [] rfl)
  · have hm := ss_iff hm c2
    refine lv_iload_n hx hb dd_M_spare_8 rfl (lv_at hl 2 rfl) ?_
    refine lv_i2l hx hb dd_M_spare_9 rfl ?_
    refine lv_lconst (v := 1) hx hb dd_M_spare_10 (by decide) ?_
    refine lv_ldc2 (v := 10) hx hb hC.2.2.2.1 (hC.2.2.2.2 _ kl_M_396) dd_M_spare_11 ?_
    obtain ⟨v3, qv3, hm⟩ := ss_bind hm
    refine ss_cS 0 0 (As := [.long ((a2).toInt64), .long (1 : Int64), .long (10 : Int64)]) hC hK hR hS hl.1 (cc_M_in l G N _ _ _ _ _ qv3) km_M_124 ⟨Nat.le_of_ble_eq_true rfl, Nat.le_of_ble_eq_true rfl⟩ ⟨Nat.le_of_ble_eq_true rfl, Nat.le_of_ble_eq_true rfl, Nat.le_of_ble_eq_true rfl, Nat.le_of_ble_eq_true rfl⟩ rfl rfl (Nat.le_of_ble_eq_true rfl) dd_M_spare_14 (fun H locs hR hS => ?_)
    refine lv_if_eq (tgt := 30) hx hb dd_M_spare_17 (by decide) (fun c4 => ?_) (fun c4 => ?_)
    · have hm := ss_ift hm c4
      exact J_30  _ _ _ hm hR hS (lv_sub hl [] rfl)
    · have hm := ss_iff hm c4
      refine lv_iload_n hx hb dd_M_spare_20 rfl (lv_at hl 3 rfl) ?_
      refine lv_i2l hx hb dd_M_spare_21 rfl ?_
      refine lv_lconst (v := 0) hx hb dd_M_spare_22 (by decide) ?_
      refine lv_lconst (v := 1) hx hb dd_M_spare_23 (by decide) ?_
      obtain ⟨v5, qv5, hm⟩ := ss_bind hm
      refine ss_cS 0 0 (As := [.long ((a3).toInt64), .long (0 : Int64), .long (1 : Int64)]) hC hK hR hS hl.1 (cc_M_in l G N _ _ _ _ _ qv5) km_M_124 ⟨Nat.le_of_ble_eq_true rfl, Nat.le_of_ble_eq_true rfl⟩ ⟨Nat.le_of_ble_eq_true rfl, Nat.le_of_ble_eq_true rfl, Nat.le_of_ble_eq_true rfl, Nat.le_of_ble_eq_true rfl⟩ rfl rfl (Nat.le_of_ble_eq_true rfl) dd_M_spare_24 (fun H locs hR hS => ?_)
      refine lv_if_ne (tgt := 32) hx hb dd_M_spare_27 (by decide) (fun c6 => ?_) (fun c6 => ?_)
      · have hm := ss_iff hm c6
        refine lv_iconst (v := -1) hx hb dd_M_spare_32 (by decide) ?_
        refine lv_istore (lv' := [(4, .int (-1 : Int32)), (0, ss_v (ss_b G) this), (1, .int a1), (2, .int a2), (3, .int a3)]) hx hb dd_M_spare_33 hl (by decide) rfl (fun ls hl => ?_)
        refine lv_iconst (v := 0) hx hb dd_M_spare_35 (by decide) ?_
        refine lv_istore (lv' := [(5, .int (0 : Int32)), (4, .int (-1 : Int32)), (0, ss_v (ss_b G) this), (1, .int a1), (2, .int a2), (3, .int a3)]) hx hb dd_M_spare_36 hl (by decide) rfl (fun ls hl => ?_)
        obtain ⟨e_38, he_38, hm⟩ := ss_bind hm
        have X_38_85 : ∀ (y4_38_85 : Int32) (H : Heap) (locs : List Loc) (ls : Array Slot), e_38 = y4_38_85 → ss_R G h H → va_S (ss_A G) s.heap H locs → lv_has ls 6 [(3, .int a3), (4, .int y4_38_85)] → ww_M_spare p l e s m below meth c G this a1 a2 a3 h rr  H locs 0 0 (F0 m 85 ls []) := by
          intro y4_38_85 H locs ls hq hR hS hl
          rw [hq] at hm
          refine lv_iload_n hx hb dd_M_spare_85 rfl (lv_at hl 0 rfl) ?_
          refine lv_if_ne (tgt := 97) hx hb dd_M_spare_86 (by decide) (fun c7 => ?_) (fun c7 => ?_)
          · have hm := ss_iff hm c7
            refine lv_iload hx hb dd_M_spare_97 (lv_at hl 1 rfl) ?_
            exact J_99 y4_38_85  _ _ _ hm hR hS (lv_sub hl [] rfl)
          · have hm := ss_ift hm c7
            refine lv_iload hx hb dd_M_spare_89 (lv_at hl 1 rfl) ?_
            obtain ⟨v8, qv8, hm⟩ := ss_bind hm
            refine ss_cS 0 0 (As := [.int y4_38_85]) hC hK hR hS hl.1 (cc_M_bits l G N _ _ _ qv8) km_M_343 ⟨Nat.le_of_ble_eq_true rfl, Nat.le_of_ble_eq_true rfl⟩ ⟨Nat.le_of_ble_eq_true rfl, Nat.le_of_ble_eq_true rfl, Nat.le_of_ble_eq_true rfl, Nat.le_of_ble_eq_true rfl⟩ rfl rfl (Nat.le_of_ble_eq_true rfl) dd_M_spare_91 (fun H locs hR hS => ?_)
            refine lv_goto (tgt := 99) hx hb dd_M_spare_94 (by decide) ?_
            exact J_99 v8  _ _ _ hm hR hS (lv_sub hl [] rfl)
        have L_38 : ∀ (n : Nat) (x4_38 : Int32) (x5_38 : Int32) (H : Heap) (locs : List Loc) (ls : Array Slot), ss_lp (mm_M_spare_b38 N this a1 a2 a3 h) n (x4_38, x5_38) = some e_38 → ss_R G h H → va_S (ss_A G) s.heap H locs → lv_has ls 6 [(0, ss_v (ss_b G) this), (1, .int a1), (2, .int a2), (3, .int a3), (4, .int x4_38), (5, .int x5_38)] → ww_M_spare p l e s m below meth c G this a1 a2 a3 h rr  H locs 0 0 (F0 m 38 ls []) := by
          intro n
          induction n with
          | zero => intro x4_38 x5_38 H locs ls hm; cases hm
          | succ n ih_38 =>
            intro x4_38 x5_38 H locs ls hm hR hS hl
            obtain ⟨z_38, hm, hz1_38, hz2_38⟩ := ss_lps hm
            have J_79 : ∀ (x4_79 : Int32) (x5_79 : Int32) (H : Heap) (locs : List Loc) (ls : Array Slot), mm_M_spare_j79 N this a1 a2 a3 h x4_79 x5_79 = some z_38 → ss_R G h H → va_S (ss_A G) s.heap H locs → lv_has ls 6 [(0, ss_v (ss_b G) this), (1, .int a1), (2, .int a2), (3, .int a3), (4, .int x4_79), (5, .int x5_79)] → ww_M_spare p l e s m below meth c G this a1 a2 a3 h rr  H locs 0 0 (F0 m 79 ls []) := by
              intro x4_79 x5_79 H locs ls hm hR hS hl
              obtain ⟨v9, qv9, hm⟩ := ss_bind hm
              refine lv_iinc (v := v9) (lv' := [(5, .int v9), (0, ss_v (ss_b G) this), (1, .int a1), (2, .int a2), (3, .int a3), (4, .int x4_79)]) hx hb dd_M_spare_79 hl (k := 5) rfl (ss_inc (by decide) qv9) (by decide) rfl (fun ls hl => ?_)
              refine lv_goto (tgt := 38) hx hb dd_M_spare_82 (by decide) ?_
              exact ih_38 x4_79 v9  _ _ _ (hz1_38 _ (ss_some hm)) hR hS (lv_sub hl [1, 2, 3, 4, 5, 0] rfl)
            have J_64 : ∀ (x4_64 : Int32) (x5_64 : Int32) (H : Heap) (locs : List Loc) (ls : Array Slot), mm_M_spare_j64 N this a1 a2 a3 h x4_64 x5_64 = some z_38 → ss_R G h H → va_S (ss_A G) s.heap H locs → lv_has ls 6 [(0, ss_v (ss_b G) this), (1, .int a1), (2, .int a2), (3, .int a3), (4, .int x4_64), (5, .int x5_64)] → ww_M_spare p l e s m below meth c G this a1 a2 a3 h rr  H locs 0 0 (F0 m 64 ls []) := by
              intro x4_64 x5_64 H locs ls hm hR hS hl
              refine ss_aload_n hx hb dd_M_spare_64 rfl (lv_at hl 0 rfl) ?_
              refine lv_iload_n hx hb dd_M_spare_65 rfl (lv_at hl 1 rfl) ?_
              refine lv_iload_n hx hb dd_M_spare_66 rfl (lv_at hl 2 rfl) ?_
              refine lv_iload hx hb dd_M_spare_67 (lv_at hl 5 rfl) ?_
              obtain ⟨v10, qv10, hm⟩ := ss_bind hm
              refine ss_cV 0 0 (As := [.int a1, .int a2, .int x5_64]) hC hK hR hS hl.1 (cc_M_isSpared l G N _ _ _ _ _ _ qv10) km_M_398 (ck_M_isSpared qv10) ⟨Nat.le_of_ble_eq_true rfl, Nat.le_of_ble_eq_true rfl⟩ ⟨Nat.le_of_ble_eq_true rfl, Nat.le_of_ble_eq_true rfl, Nat.le_of_ble_eq_true rfl, Nat.le_of_ble_eq_true rfl⟩ rfl rfl (Nat.le_of_ble_eq_true rfl) dd_M_spare_69 (fun H locs hR hS => ?_)
              refine lv_if_eq (tgt := 79) hx hb dd_M_spare_72 (by decide) (fun c11 => ?_) (fun c11 => ?_)
              · have hm := ss_ift hm c11
                exact J_79 x4_64 x5_64  _ _ _ hm hR hS hl
              · have hm := ss_iff hm c11
                refine lv_iload hx hb dd_M_spare_75 (lv_at hl 5 rfl) ?_
                refine lv_istore (lv' := [(4, .int x5_64), (0, ss_v (ss_b G) this), (1, .int a1), (2, .int a2), (3, .int a3), (5, .int x5_64)]) hx hb dd_M_spare_77 hl (by decide) rfl (fun ls hl => ?_)
                exact J_79 x5_64 x5_64  _ _ _ hm hR hS (lv_sub hl [1, 2, 3, 4, 0, 5] rfl)
            refine lv_iload hx hb dd_M_spare_38 (lv_at hl 5 rfl) ?_
            refine lv_iconst (v := 1) hx hb dd_M_spare_40 (by decide) ?_
            refine lv_iload_n hx hb dd_M_spare_41 rfl (lv_at hl 2 rfl) ?_
            refine lv_ishl hx hb dd_M_spare_42 ?_
            refine lv_icmp_ge (tgt := 85) hx hb dd_M_spare_43 (by decide) (fun c12 => ?_) (fun c12 => ?_)
            · have hm := ss_ift hm c12
              exact X_38_85 x4_38  _ _ _ (hz2_38 _ (ss_some hm)) hR hS (lv_sub hl [3, 4] rfl)
            · have hm := ss_iff hm c12
              refine lv_iload hx hb dd_M_spare_46 (lv_at hl 4 rfl) ?_
              refine lv_if_lt (tgt := 64) hx hb dd_M_spare_48 (by decide) (fun c13 => ?_) (fun c13 => ?_)
              · have hm := ss_ift hm c13
                exact J_64 x4_38 x5_38  _ _ _ hm hR hS hl
              · have hm := ss_iff hm c13
                refine lv_iload hx hb dd_M_spare_51 (lv_at hl 5 rfl) ?_
                obtain ⟨v14, qv14, hm⟩ := ss_bind hm
                refine ss_cS 0 0 (As := [.int x5_38]) hC hK hR hS hl.1 (cc_M_bits l G N _ _ _ qv14) km_M_343 ⟨Nat.le_of_ble_eq_true rfl, Nat.le_of_ble_eq_true rfl⟩ ⟨Nat.le_of_ble_eq_true rfl, Nat.le_of_ble_eq_true rfl, Nat.le_of_ble_eq_true rfl, Nat.le_of_ble_eq_true rfl⟩ rfl rfl (Nat.le_of_ble_eq_true rfl) dd_M_spare_53 (fun H locs hR hS => ?_)
                refine lv_iload hx hb dd_M_spare_56 (lv_at hl 4 rfl) ?_
                obtain ⟨v15, qv15, hm⟩ := ss_bind hm
                refine ss_cS 0 0 (As := [.int x4_38]) hC hK hR hS hl.1 (cc_M_bits l G N _ _ _ qv15) km_M_343 ⟨Nat.le_of_ble_eq_true rfl, Nat.le_of_ble_eq_true rfl⟩ ⟨Nat.le_of_ble_eq_true rfl, Nat.le_of_ble_eq_true rfl, Nat.le_of_ble_eq_true rfl, Nat.le_of_ble_eq_true rfl⟩ rfl rfl (Nat.le_of_ble_eq_true rfl) dd_M_spare_58 (fun H locs hR hS => ?_)
                refine lv_icmp_ge (tgt := 79) hx hb dd_M_spare_61 (by decide) (fun c16 => ?_) (fun c16 => ?_)
                · have hm := ss_ift hm c16
                  exact J_79 x4_38 x5_38  _ _ _ hm hR hS hl
                · have hm := ss_iff hm c16
                  exact J_64 x4_38 x5_38  _ _ _ hm hR hS hl
        exact L_38 N (-1 : Int32) (0 : Int32) _ _ _ he_38 hR hS (lv_sub hl [2, 3, 4, 5, 1, 0] rfl)
      · have hm := ss_ift hm c6
        exact J_30  _ _ _ hm hR hS (lv_sub hl [] rfl)
theorem dd_M_closedBy_0 : decode bb_M_closedBy 0 = .ok (.iconst 0, 1) := by decide +kernel
theorem dd_M_closedBy_1 : decode bb_M_closedBy 1 = .ok (.istore_n 2, 1) := by decide +kernel
theorem dd_M_closedBy_2 : decode bb_M_closedBy 2 = .ok (.iconst 0, 1) := by decide +kernel
theorem dd_M_closedBy_3 : decode bb_M_closedBy 3 = .ok (.istore_n 3, 1) := by decide +kernel
theorem dd_M_closedBy_4 : decode bb_M_closedBy 4 = .ok (.iload_n 3, 1) := by decide +kernel
theorem dd_M_closedBy_5 : decode bb_M_closedBy 5 = .ok (.aload_n 0, 1) := by decide +kernel
theorem dd_M_closedBy_6 : decode bb_M_closedBy 6 = .ok (.getfield 39, 3) := by decide +kernel
theorem dd_M_closedBy_9 : decode bb_M_closedBy 9 = .ok (.iconst 2, 1) := by decide +kernel
theorem dd_M_closedBy_10 : decode bb_M_closedBy 10 = .ok (.iaload, 1) := by decide +kernel
theorem dd_M_closedBy_11 : decode bb_M_closedBy 11 = .ok (.if_icmp .ge 142, 3) := by decide +kernel
theorem dd_M_closedBy_14 : decode bb_M_closedBy 14 = .ok (.iload_n 1, 1) := by decide +kernel
theorem dd_M_closedBy_15 : decode bb_M_closedBy 15 = .ok (.iload_n 3, 1) := by decide +kernel
theorem dd_M_closedBy_16 : decode bb_M_closedBy 16 = .ok (.invokestatic 316, 3) := by decide +kernel
theorem dd_M_closedBy_19 : decode bb_M_closedBy 19 = .ok (.ifCond .eq 7, 3) := by decide +kernel
theorem dd_M_closedBy_22 : decode bb_M_closedBy 22 = .ok (.iconst 0, 1) := by decide +kernel
theorem dd_M_closedBy_23 : decode bb_M_closedBy 23 = .ok (.goto 12, 3) := by decide +kernel
theorem dd_M_closedBy_26 : decode bb_M_closedBy 26 = .ok (.aload_n 0, 1) := by decide +kernel
theorem dd_M_closedBy_27 : decode bb_M_closedBy 27 = .ok (.getfield 39, 3) := by decide +kernel
theorem dd_M_closedBy_30 : decode bb_M_closedBy 30 = .ok (.bipush 14, 2) := by decide +kernel
theorem dd_M_closedBy_32 : decode bb_M_closedBy 32 = .ok (.iload_n 3, 1) := by decide +kernel
theorem dd_M_closedBy_33 : decode bb_M_closedBy 33 = .ok (.iadd, 1) := by decide +kernel
theorem dd_M_closedBy_34 : decode bb_M_closedBy 34 = .ok (.iaload, 1) := by decide +kernel
theorem dd_M_closedBy_35 : decode bb_M_closedBy 35 = .ok (.istore 4, 2) := by decide +kernel
theorem dd_M_closedBy_37 : decode bb_M_closedBy 37 = .ok (.iconst 0, 1) := by decide +kernel
theorem dd_M_closedBy_38 : decode bb_M_closedBy 38 = .ok (.istore 5, 2) := by decide +kernel
theorem dd_M_closedBy_40 : decode bb_M_closedBy 40 = .ok (.iload 5, 2) := by decide +kernel
theorem dd_M_closedBy_42 : decode bb_M_closedBy 42 = .ok (.aload_n 0, 1) := by decide +kernel
theorem dd_M_closedBy_43 : decode bb_M_closedBy 43 = .ok (.getfield 39, 3) := by decide +kernel
theorem dd_M_closedBy_46 : decode bb_M_closedBy 46 = .ok (.iconst 2, 1) := by decide +kernel
theorem dd_M_closedBy_47 : decode bb_M_closedBy 47 = .ok (.iaload, 1) := by decide +kernel
theorem dd_M_closedBy_48 : decode bb_M_closedBy 48 = .ok (.if_icmp .ge 51, 3) := by decide +kernel
theorem dd_M_closedBy_51 : decode bb_M_closedBy 51 = .ok (.iload 4, 2) := by decide +kernel
theorem dd_M_closedBy_53 : decode bb_M_closedBy 53 = .ok (.iload_n 1, 1) := by decide +kernel
theorem dd_M_closedBy_54 : decode bb_M_closedBy 54 = .ok (.iload 5, 2) := by decide +kernel
theorem dd_M_closedBy_56 : decode bb_M_closedBy 56 = .ok (.invokestatic 316, 3) := by decide +kernel
theorem dd_M_closedBy_59 : decode bb_M_closedBy 59 = .ok (.ifCond .eq 30, 3) := by decide +kernel
theorem dd_M_closedBy_62 : decode bb_M_closedBy 62 = .ok (.aload_n 0, 1) := by decide +kernel
theorem dd_M_closedBy_63 : decode bb_M_closedBy 63 = .ok (.getfield 39, 3) := by decide +kernel
theorem dd_M_closedBy_66 : decode bb_M_closedBy 66 = .ok (.bipush 22, 2) := by decide +kernel
theorem dd_M_closedBy_68 : decode bb_M_closedBy 68 = .ok (.iload 5, 2) := by decide +kernel
theorem dd_M_closedBy_70 : decode bb_M_closedBy 70 = .ok (.iadd, 1) := by decide +kernel
theorem dd_M_closedBy_71 : decode bb_M_closedBy 71 = .ok (.iaload, 1) := by decide +kernel
theorem dd_M_closedBy_72 : decode bb_M_closedBy 72 = .ok (.iload_n 3, 1) := by decide +kernel
theorem dd_M_closedBy_73 : decode bb_M_closedBy 73 = .ok (.if_icmp .ne 16, 3) := by decide +kernel
theorem dd_M_closedBy_76 : decode bb_M_closedBy 76 = .ok (.aload_n 0, 1) := by decide +kernel
theorem dd_M_closedBy_77 : decode bb_M_closedBy 77 = .ok (.getfield 39, 3) := by decide +kernel
theorem dd_M_closedBy_80 : decode bb_M_closedBy 80 = .ok (.bipush 14, 2) := by decide +kernel
theorem dd_M_closedBy_82 : decode bb_M_closedBy 82 = .ok (.iload 5, 2) := by decide +kernel
theorem dd_M_closedBy_84 : decode bb_M_closedBy 84 = .ok (.iadd, 1) := by decide +kernel
theorem dd_M_closedBy_85 : decode bb_M_closedBy 85 = .ok (.iaload, 1) := by decide +kernel
theorem dd_M_closedBy_86 : decode bb_M_closedBy 86 = .ok (.goto 4, 3) := by decide +kernel
theorem dd_M_closedBy_89 : decode bb_M_closedBy 89 = .ok (.iconst 0, 1) := by decide +kernel
theorem dd_M_closedBy_90 : decode bb_M_closedBy 90 = .ok (.iadd, 1) := by decide +kernel
theorem dd_M_closedBy_91 : decode bb_M_closedBy 91 = .ok (.istore 4, 2) := by decide +kernel
theorem dd_M_closedBy_93 : decode bb_M_closedBy 93 = .ok (.iinc 5 1, 3) := by decide +kernel
theorem dd_M_closedBy_96 : decode bb_M_closedBy 96 = .ok (.goto (-56), 3) := by decide +kernel
theorem dd_M_closedBy_99 : decode bb_M_closedBy 99 = .ok (.iload_n 1, 1) := by decide +kernel
theorem dd_M_closedBy_100 : decode bb_M_closedBy 100 = .ok (.aload_n 0, 1) := by decide +kernel
theorem dd_M_closedBy_101 : decode bb_M_closedBy 101 = .ok (.getfield 39, 3) := by decide +kernel
theorem dd_M_closedBy_104 : decode bb_M_closedBy 104 = .ok (.bipush 11, 2) := by decide +kernel
theorem dd_M_closedBy_106 : decode bb_M_closedBy 106 = .ok (.iaload, 1) := by decide +kernel
theorem dd_M_closedBy_107 : decode bb_M_closedBy 107 = .ok (.ior, 1) := by decide +kernel
theorem dd_M_closedBy_108 : decode bb_M_closedBy 108 = .ok (.iload_n 3, 1) := by decide +kernel
theorem dd_M_closedBy_109 : decode bb_M_closedBy 109 = .ok (.invokestatic 316, 3) := by decide +kernel
theorem dd_M_closedBy_112 : decode bb_M_closedBy 112 = .ok (.ifCond .eq 14, 3) := by decide +kernel
theorem dd_M_closedBy_115 : decode bb_M_closedBy 115 = .ok (.iload 4, 2) := by decide +kernel
theorem dd_M_closedBy_117 : decode bb_M_closedBy 117 = .ok (.aload_n 0, 1) := by decide +kernel
theorem dd_M_closedBy_118 : decode bb_M_closedBy 118 = .ok (.getfield 39, 3) := by decide +kernel
theorem dd_M_closedBy_121 : decode bb_M_closedBy 121 = .ok (.iconst 0, 1) := by decide +kernel
theorem dd_M_closedBy_122 : decode bb_M_closedBy 122 = .ok (.iaload, 1) := by decide +kernel
theorem dd_M_closedBy_123 : decode bb_M_closedBy 123 = .ok (.iadd, 1) := by decide +kernel
theorem dd_M_closedBy_124 : decode bb_M_closedBy 124 = .ok (.istore 4, 2) := by decide +kernel
theorem dd_M_closedBy_126 : decode bb_M_closedBy 126 = .ok (.iload_n 2, 1) := by decide +kernel
theorem dd_M_closedBy_127 : decode bb_M_closedBy 127 = .ok (.iload 4, 2) := by decide +kernel
theorem dd_M_closedBy_129 : decode bb_M_closedBy 129 = .ok (.aload_n 0, 1) := by decide +kernel
theorem dd_M_closedBy_130 : decode bb_M_closedBy 130 = .ok (.getfield 39, 3) := by decide +kernel
theorem dd_M_closedBy_133 : decode bb_M_closedBy 133 = .ok (.iconst 1, 1) := by decide +kernel
theorem dd_M_closedBy_134 : decode bb_M_closedBy 134 = .ok (.iaload, 1) := by decide +kernel
theorem dd_M_closedBy_135 : decode bb_M_closedBy 135 = .ok (.if_icmp .lt 9, 3) := by decide +kernel
theorem dd_M_closedBy_138 : decode bb_M_closedBy 138 = .ok (.iconst 1, 1) := by decide +kernel
theorem dd_M_closedBy_139 : decode bb_M_closedBy 139 = .ok (.iload_n 3, 1) := by decide +kernel
theorem dd_M_closedBy_140 : decode bb_M_closedBy 140 = .ok (.ishl, 1) := by decide +kernel
theorem dd_M_closedBy_141 : decode bb_M_closedBy 141 = .ok (.goto 4, 3) := by decide +kernel
theorem dd_M_closedBy_144 : decode bb_M_closedBy 144 = .ok (.iconst 0, 1) := by decide +kernel
theorem dd_M_closedBy_145 : decode bb_M_closedBy 145 = .ok (.ior, 1) := by decide +kernel
theorem dd_M_closedBy_146 : decode bb_M_closedBy 146 = .ok (.istore_n 2, 1) := by decide +kernel
theorem dd_M_closedBy_147 : decode bb_M_closedBy 147 = .ok (.iinc 3 1, 3) := by decide +kernel
theorem dd_M_closedBy_150 : decode bb_M_closedBy 150 = .ok (.goto (-146), 3) := by decide +kernel
theorem dd_M_closedBy_153 : decode bb_M_closedBy 153 = .ok (.iload_n 2, 1) := by decide +kernel
theorem dd_M_closedBy_154 : decode bb_M_closedBy 154 = .ok (.ireturn, 1) := by decide +kernel
def mm_M_closedBy_j145 (N : Nat) (this : Option Nat) (a1 : Int32) (h : ss_Hp) (x3_145 : Int32) (s0_145 : Int32) (s1_145 : Int32) : Option ((Int32 × Int32) ⊕ Int32) :=
  (some (s0_145 ||| s1_145)).bind fun v1 =>
  (some (x3_145 + (1 : Int32))).bind fun v2 =>
  some (.inl (v1, v2))
def mm_M_closedBy_j126 (N : Nat) (this : Option Nat) (a1 : Int32) (h : ss_Hp) (x2_126 : Int32) (x3_126 : Int32) (x4_126 : Int32) : Option ((Int32 × Int32) ⊕ Int32) :=
  (ss_gr h this 12 9).bind fun r3 =>
  (ss_ai h r3 20 (1 : Int32)).bind fun v4 =>
  if x4_126 < v4 then
    mm_M_closedBy_j145 N this a1 h x3_126 x2_126 (0 : Int32)
  else
    mm_M_closedBy_j145 N this a1 h x3_126 x2_126 ((1 : Int32) <<< (x3_126 &&& 31))
def mm_M_closedBy_j90 (N : Nat) (this : Option Nat) (a1 : Int32) (x2_35 : Int32) (x3_35 : Int32) (h : ss_Hp) (x5_90 : Int32) (s0_90 : Int32) (s1_90 : Int32) : Option ((Int32 × Int32) ⊕ Int32) :=
  (some (s0_90 + s1_90)).bind fun v13 =>
  (some (x5_90 + (1 : Int32))).bind fun v14 =>
  some (.inl (v13, v14))
def mm_M_closedBy_j89 (N : Nat) (this : Option Nat) (a1 : Int32) (x2_35 : Int32) (x3_35 : Int32) (h : ss_Hp) (x5_89 : Int32) (s0_89 : Int32) : Option ((Int32 × Int32) ⊕ Int32) :=
  mm_M_closedBy_j90 N this a1 x2_35 x3_35 h x5_89 s0_89 (0 : Int32)
def mm_M_closedBy_b40 (N : Nat) (this : Option Nat) (a1 : Int32) (x2_35 : Int32) (x3_35 : Int32) (h : ss_Hp) (st : Int32 × Int32) : Option ((Int32 × Int32) ⊕ Int32) :=
  match st with
  | (x4_40, x5_40) =>
    (ss_gr h this 12 9).bind fun r15 =>
    (ss_ai h r15 20 (2 : Int32)).bind fun v16 =>
    if v16 ≤ x5_40 then
      some (.inr x4_40)
    else
      (mm_M_isOf N a1 x5_40).bind fun v18 =>
      if v18 = 0 then
        mm_M_closedBy_j89 N this a1 x2_35 x3_35 h x5_40 x4_40
      else
        (ss_gr h this 12 9).bind fun r20 =>
        (ss_ai h r20 20 ((22 : Int32) + x5_40)).bind fun v21 =>
        if v21 = x3_35 then
          (ss_gr h this 12 9).bind fun r23 =>
          (ss_ai h r23 20 ((14 : Int32) + x5_40)).bind fun v24 =>
          mm_M_closedBy_j90 N this a1 x2_35 x3_35 h x5_40 x4_40 v24
        else
          mm_M_closedBy_j89 N this a1 x2_35 x3_35 h x5_40 x4_40
def mm_M_closedBy_j35 (N : Nat) (this : Option Nat) (a1 : Int32) (h : ss_Hp) (x2_35 : Int32) (x3_35 : Int32) (s0_35 : Int32) : Option ((Int32 × Int32) ⊕ Int32) :=
  (ss_lp (mm_M_closedBy_b40 N this a1 x2_35 x3_35 h) N (s0_35, (0 : Int32))).bind fun y4_40_99 =>
  (ss_gr h this 12 9).bind fun r6 =>
  (ss_ai h r6 20 (11 : Int32)).bind fun v7 =>
  (mm_M_isOf N (a1 ||| v7) x3_35).bind fun v8 =>
  if v8 = 0 then
    mm_M_closedBy_j126 N this a1 h x2_35 x3_35 y4_40_99
  else
    (ss_gr h this 12 9).bind fun r10 =>
    (ss_ai h r10 20 (0 : Int32)).bind fun v11 =>
    (some (y4_40_99 + v11)).bind fun v12 =>
    mm_M_closedBy_j126 N this a1 h x2_35 x3_35 v12
def mm_M_closedBy_b4 (N : Nat) (this : Option Nat) (a1 : Int32) (h : ss_Hp) (st : Int32 × Int32) : Option ((Int32 × Int32) ⊕ Int32) :=
  match st with
  | (x2_4, x3_4) =>
    (ss_gr h this 12 9).bind fun r25 =>
    (ss_ai h r25 20 (2 : Int32)).bind fun v26 =>
    if v26 ≤ x3_4 then
      some (.inr x2_4)
    else
      (mm_M_isOf N a1 x3_4).bind fun v28 =>
      if v28 = 0 then
        (ss_gr h this 12 9).bind fun r30 =>
        (ss_ai h r30 20 ((14 : Int32) + x3_4)).bind fun v31 =>
        mm_M_closedBy_j35 N this a1 h x2_4 x3_4 v31
      else
        mm_M_closedBy_j35 N this a1 h x2_4 x3_4 (0 : Int32)
def mm_M_closedBy (N : Nat) (this : Option Nat) (a1 : Int32) (h : ss_Hp) : Option Int32 :=
  if ss_is h this 12 = true then
    (ss_lp (mm_M_closedBy_b4 N this a1 h) N ((0 : Int32), (0 : Int32))).bind fun y2_4_153 =>
    some y2_4_153
  else none
abbrev ww_M_closedBy (p : Program) (l : Launch) (e : Env) (s : State) (m : MethodId) (below : List Frame) (meth : Method) (c : Code) (G : ss_G) (this : Option Nat) (a1 : Int32) (h : ss_Hp) (rr : Int32) (H : Heap) (locs : List Loc) (k n : Nat) (g : JFrame) : Prop := W p l e (headSpec (ss_w yy_M_closedBy bb_M_closedBy 6 (some (.int))) ({ frames := 1, cells := 0, slots := 0, locals := 21 })).room s m ([ss_v (ss_b G) this, .int a1] : List Value).toArray below meth c H locs k n (MQ below (ss_Qc G (some (.int rr)) h) ([ss_v (ss_b G) this, .int a1] : List Value).toArray s 0 0 (ss_A G)) g
theorem ck_M_closedBy {N : Nat} {this : Option Nat} {a1 : Int32} {h : ss_Hp} {res : Int32} (hm : mm_M_closedBy N this a1 h = some res) : ss_is h this 12 = true := (ss_chk hm).1
set_option maxHeartbeats 4000000 in
set_option maxRecDepth 100000 in
theorem cc_M_closedBy (l : Launch) (G : ss_G) (N : Nat) (this : Option Nat) (a1 : Int32) (h : ss_Hp) (rr : Int32) (hm : mm_M_closedBy N this a1 h = some rr) : ss_Ct l G yy_M_closedBy bb_M_closedBy 6 (some (.int)) ({ frames := 1, cells := 0, slots := 0, locals := 21 }) [ss_v (ss_b G) this, .int a1] h (some (.int rr)) h := by
  obtain ⟨hck, hm⟩ := ss_chk hm
  refine Met.ofW (cc := bb_M_closedBy) (maxL := 6) (ret := (some (.int))) (by decide) rfl ?_
  intro p e s m args below meth c s₁ B hml hv
  obtain ⟨rfl, hR, hK⟩ := hv
  have hC : CallFix p m c bb_M_closedBy 6 s _ lw_g sR_12 := ⟨B.exec, B.bytes, hml, findClass_of_methodNamed B.named, fun w hw => atoms_spec (ws := ss_w yy_M_closedBy bb_M_closedBy 6 (some (.int))) B.pre w (List.mem_cons_of_mem _ hw)⟩
  have hx := hC.1
  have hb := hC.2.1
  have hr := B.returns
  have hlocks := B.notSynchronized
  have hS : va_S (ss_A G) s.heap s.heap [] := va_S.rf
  have hl := lv_entry ([ss_v (ss_b G) this, .int a1]) (n := 6) (by simp [lg_sl, ss_v_cat, ss_cat_i, ss_cat_l, ss_cat_r])
  rw [lg_entry_eq]
  generalize (lg_sl ([ss_v (ss_b G) this, .int a1]) ++ List.replicate (6 - (lg_sl ([ss_v (ss_b G) this, .int a1])).length) Slot.unset).toArray = ls at hl ⊢
  have hl : lv_has ls 6 [(0, ss_v (ss_b G) this), (1, .int a1)] := by simpa [lv_args, ss_v_cat, ss_cat_i, ss_cat_l, ss_cat_r] using hl
  refine lv_iconst (v := 0) hx hb dd_M_closedBy_0 (by decide) ?_
  refine lv_istore_n (lv' := [(2, .int (0 : Int32)), (0, ss_v (ss_b G) this), (1, .int a1)]) hx hb dd_M_closedBy_1 rfl hl (by decide) rfl (fun ls hl => ?_)
  refine lv_iconst (v := 0) hx hb dd_M_closedBy_2 (by decide) ?_
  refine lv_istore_n (lv' := [(3, .int (0 : Int32)), (2, .int (0 : Int32)), (0, ss_v (ss_b G) this), (1, .int a1)]) hx hb dd_M_closedBy_3 rfl hl (by decide) rfl (fun ls hl => ?_)
  obtain ⟨e_4, he_4, hm⟩ := ss_bind hm
  have X_4_153 : ∀ (y2_4_153 : Int32) (H : Heap) (locs : List Loc) (ls : Array Slot), e_4 = y2_4_153 → ss_R G h H → va_S (ss_A G) s.heap H locs → lv_has ls 6 [(2, .int y2_4_153)] → ww_M_closedBy p l e s m below meth c G this a1 h rr  H locs 0 0 (F0 m 153 ls []) := by
    intro y2_4_153 H locs ls hq hR hS hl
    rw [hq] at hm
    refine lv_iload_n hx hb dd_M_closedBy_153 rfl (lv_at hl 0 rfl) ?_
    exact ss_iret hC hr hlocks hR hS (ss_with _ hm) dd_M_closedBy_154
  have L_4 : ∀ (n : Nat) (x2_4 : Int32) (x3_4 : Int32) (H : Heap) (locs : List Loc) (ls : Array Slot), ss_lp (mm_M_closedBy_b4 N this a1 h) n (x2_4, x3_4) = some e_4 → ss_R G h H → va_S (ss_A G) s.heap H locs → lv_has ls 6 [(0, ss_v (ss_b G) this), (1, .int a1), (2, .int x2_4), (3, .int x3_4)] → ww_M_closedBy p l e s m below meth c G this a1 h rr  H locs 0 0 (F0 m 4 ls []) := by
    intro n
    induction n with
    | zero => intro x2_4 x3_4 H locs ls hm; cases hm
    | succ n ih_4 =>
      intro x2_4 x3_4 H locs ls hm hR hS hl
      obtain ⟨z_4, hm, hz1_4, hz2_4⟩ := ss_lps hm
      have J_145 : ∀ (x3_145 : Int32) (s0_145 : Int32) (s1_145 : Int32) (H : Heap) (locs : List Loc) (ls : Array Slot), mm_M_closedBy_j145 N this a1 h x3_145 s0_145 s1_145 = some z_4 → ss_R G h H → va_S (ss_A G) s.heap H locs → lv_has ls 6 [(0, ss_v (ss_b G) this), (1, .int a1), (3, .int x3_145)] → ww_M_closedBy p l e s m below meth c G this a1 h rr  H locs 0 0 (F0 m 145 ls [.int s1_145, .int s0_145]) := by
        intro x3_145 s0_145 s1_145 H locs ls hm hR hS hl
        refine lv_ior hx hb dd_M_closedBy_145 ?_
        obtain ⟨v1, qv1, hm⟩ := ss_bind hm
        refine ss_topi qv1 ?_
        refine lv_istore_n (lv' := [(2, .int v1), (0, ss_v (ss_b G) this), (1, .int a1), (3, .int x3_145)]) hx hb dd_M_closedBy_146 rfl hl (by decide) rfl (fun ls hl => ?_)
        obtain ⟨v2, qv2, hm⟩ := ss_bind hm
        refine lv_iinc (v := v2) (lv' := [(3, .int v2), (2, .int v1), (0, ss_v (ss_b G) this), (1, .int a1)]) hx hb dd_M_closedBy_147 hl (k := 3) rfl (ss_inc (by decide) qv2) (by decide) rfl (fun ls hl => ?_)
        refine lv_goto (tgt := 4) hx hb dd_M_closedBy_150 (by decide) ?_
        exact ih_4 v1 v2  _ _ _ (hz1_4 _ (ss_some hm)) hR hS (lv_sub hl [2, 3, 1, 0] rfl)
      have J_126 : ∀ (x2_126 : Int32) (x3_126 : Int32) (x4_126 : Int32) (H : Heap) (locs : List Loc) (ls : Array Slot), mm_M_closedBy_j126 N this a1 h x2_126 x3_126 x4_126 = some z_4 → ss_R G h H → va_S (ss_A G) s.heap H locs → lv_has ls 6 [(0, ss_v (ss_b G) this), (1, .int a1), (2, .int x2_126), (3, .int x3_126), (4, .int x4_126)] → ww_M_closedBy p l e s m below meth c G this a1 h rr  H locs 0 0 (F0 m 126 ls []) := by
        intro x2_126 x3_126 x4_126 H locs ls hm hR hS hl
        refine lv_iload_n hx hb dd_M_closedBy_126 rfl (lv_at hl 2 rfl) ?_
        refine lv_iload hx hb dd_M_closedBy_127 (lv_at hl 4 rfl) ?_
        refine ss_aload_n hx hb dd_M_closedBy_129 rfl (lv_at hl 0 rfl) ?_
        obtain ⟨r3, qr3, hm⟩ := ss_bind hm
        refine ss_getr hC hK hR kf_M_39 rfl qr3 dd_M_closedBy_130 ?_
        refine lv_iconst (v := 1) hx hb dd_M_closedBy_133 (by decide) ?_
        obtain ⟨v4, qv4, hm⟩ := ss_bind hm
        refine ss_iald hC hK hR qv4 dd_M_closedBy_134 ?_
        refine lv_icmp_lt (tgt := 144) hx hb dd_M_closedBy_135 (by decide) (fun c5 => ?_) (fun c5 => ?_)
        · have hm := ss_ift hm c5
          refine lv_iconst (v := 0) hx hb dd_M_closedBy_144 (by decide) ?_
          exact J_145 x3_126 x2_126 (0 : Int32)  _ _ _ hm hR hS (lv_sub hl [0, 1, 3] rfl)
        · have hm := ss_iff hm c5
          refine lv_iconst (v := 1) hx hb dd_M_closedBy_138 (by decide) ?_
          refine lv_iload_n hx hb dd_M_closedBy_139 rfl (lv_at hl 3 rfl) ?_
          refine lv_ishl hx hb dd_M_closedBy_140 ?_
          refine lv_goto (tgt := 145) hx hb dd_M_closedBy_141 (by decide) ?_
          exact J_145 x3_126 x2_126 ((1 : Int32) <<< (x3_126 &&& 31))  _ _ _ hm hR hS (lv_sub hl [0, 1, 3] rfl)
      have J_35 : ∀ (x2_35 : Int32) (x3_35 : Int32) (s0_35 : Int32) (H : Heap) (locs : List Loc) (ls : Array Slot), mm_M_closedBy_j35 N this a1 h x2_35 x3_35 s0_35 = some z_4 → ss_R G h H → va_S (ss_A G) s.heap H locs → lv_has ls 6 [(0, ss_v (ss_b G) this), (1, .int a1), (2, .int x2_35), (3, .int x3_35)] → ww_M_closedBy p l e s m below meth c G this a1 h rr  H locs 0 0 (F0 m 35 ls [.int s0_35]) := by
        intro x2_35 x3_35 s0_35 H locs ls hm hR hS hl
        refine lv_istore (lv' := [(4, .int s0_35), (0, ss_v (ss_b G) this), (1, .int a1), (2, .int x2_35), (3, .int x3_35)]) hx hb dd_M_closedBy_35 hl (by decide) rfl (fun ls hl => ?_)
        refine lv_iconst (v := 0) hx hb dd_M_closedBy_37 (by decide) ?_
        refine lv_istore (lv' := [(5, .int (0 : Int32)), (4, .int s0_35), (0, ss_v (ss_b G) this), (1, .int a1), (2, .int x2_35), (3, .int x3_35)]) hx hb dd_M_closedBy_38 hl (by decide) rfl (fun ls hl => ?_)
        obtain ⟨e_40, he_40, hm⟩ := ss_bind hm
        have X_40_99 : ∀ (y4_40_99 : Int32) (H : Heap) (locs : List Loc) (ls : Array Slot), e_40 = y4_40_99 → ss_R G h H → va_S (ss_A G) s.heap H locs → lv_has ls 6 [(0, ss_v (ss_b G) this), (1, .int a1), (2, .int x2_35), (3, .int x3_35), (4, .int y4_40_99)] → ww_M_closedBy p l e s m below meth c G this a1 h rr  H locs 0 0 (F0 m 99 ls []) := by
          intro y4_40_99 H locs ls hq hR hS hl
          rw [hq] at hm
          refine lv_iload_n hx hb dd_M_closedBy_99 rfl (lv_at hl 1 rfl) ?_
          refine ss_aload_n hx hb dd_M_closedBy_100 rfl (lv_at hl 0 rfl) ?_
          obtain ⟨r6, qr6, hm⟩ := ss_bind hm
          refine ss_getr hC hK hR kf_M_39 rfl qr6 dd_M_closedBy_101 ?_
          refine lv_bipush (v := 11) hx hb dd_M_closedBy_104 (by decide) ?_
          obtain ⟨v7, qv7, hm⟩ := ss_bind hm
          refine ss_iald hC hK hR qv7 dd_M_closedBy_106 ?_
          refine lv_ior hx hb dd_M_closedBy_107 ?_
          refine lv_iload_n hx hb dd_M_closedBy_108 rfl (lv_at hl 3 rfl) ?_
          obtain ⟨v8, qv8, hm⟩ := ss_bind hm
          refine ss_cS 0 0 (As := [.int (a1 ||| v7), .int x3_35]) hC hK hR hS hl.1 (cc_M_isOf l G N _ _ _ _ qv8) km_M_316 ⟨Nat.le_of_ble_eq_true rfl, Nat.le_of_ble_eq_true rfl⟩ ⟨Nat.le_of_ble_eq_true rfl, Nat.le_of_ble_eq_true rfl, Nat.le_of_ble_eq_true rfl, Nat.le_of_ble_eq_true rfl⟩ rfl rfl (Nat.le_of_ble_eq_true rfl) dd_M_closedBy_109 (fun H locs hR hS => ?_)
          refine lv_if_eq (tgt := 126) hx hb dd_M_closedBy_112 (by decide) (fun c9 => ?_) (fun c9 => ?_)
          · have hm := ss_ift hm c9
            exact J_126 x2_35 x3_35 y4_40_99  _ _ _ hm hR hS hl
          · have hm := ss_iff hm c9
            refine lv_iload hx hb dd_M_closedBy_115 (lv_at hl 4 rfl) ?_
            refine ss_aload_n hx hb dd_M_closedBy_117 rfl (lv_at hl 0 rfl) ?_
            obtain ⟨r10, qr10, hm⟩ := ss_bind hm
            refine ss_getr hC hK hR kf_M_39 rfl qr10 dd_M_closedBy_118 ?_
            refine lv_iconst (v := 0) hx hb dd_M_closedBy_121 (by decide) ?_
            obtain ⟨v11, qv11, hm⟩ := ss_bind hm
            refine ss_iald hC hK hR qv11 dd_M_closedBy_122 ?_
            refine lv_iadd hx hb dd_M_closedBy_123 ?_
            obtain ⟨v12, qv12, hm⟩ := ss_bind hm
            refine ss_topi qv12 ?_
            refine lv_istore (lv' := [(4, .int v12), (0, ss_v (ss_b G) this), (1, .int a1), (2, .int x2_35), (3, .int x3_35)]) hx hb dd_M_closedBy_124 hl (by decide) rfl (fun ls hl => ?_)
            exact J_126 x2_35 x3_35 v12  _ _ _ hm hR hS (lv_sub hl [1, 2, 3, 4, 0] rfl)
        have L_40 : ∀ (n : Nat) (x4_40 : Int32) (x5_40 : Int32) (H : Heap) (locs : List Loc) (ls : Array Slot), ss_lp (mm_M_closedBy_b40 N this a1 x2_35 x3_35 h) n (x4_40, x5_40) = some e_40 → ss_R G h H → va_S (ss_A G) s.heap H locs → lv_has ls 6 [(0, ss_v (ss_b G) this), (1, .int a1), (2, .int x2_35), (3, .int x3_35), (4, .int x4_40), (5, .int x5_40)] → ww_M_closedBy p l e s m below meth c G this a1 h rr  H locs 0 0 (F0 m 40 ls []) := by
          intro n
          induction n with
          | zero => intro x4_40 x5_40 H locs ls hm; cases hm
          | succ n ih_40 =>
            intro x4_40 x5_40 H locs ls hm hR hS hl
            obtain ⟨z_40, hm, hz1_40, hz2_40⟩ := ss_lps hm
            have J_90 : ∀ (x5_90 : Int32) (s0_90 : Int32) (s1_90 : Int32) (H : Heap) (locs : List Loc) (ls : Array Slot), mm_M_closedBy_j90 N this a1 x2_35 x3_35 h x5_90 s0_90 s1_90 = some z_40 → ss_R G h H → va_S (ss_A G) s.heap H locs → lv_has ls 6 [(0, ss_v (ss_b G) this), (1, .int a1), (2, .int x2_35), (3, .int x3_35), (5, .int x5_90)] → ww_M_closedBy p l e s m below meth c G this a1 h rr  H locs 0 0 (F0 m 90 ls [.int s1_90, .int s0_90]) := by
              intro x5_90 s0_90 s1_90 H locs ls hm hR hS hl
              refine lv_iadd hx hb dd_M_closedBy_90 ?_
              obtain ⟨v13, qv13, hm⟩ := ss_bind hm
              refine ss_topi qv13 ?_
              refine lv_istore (lv' := [(4, .int v13), (0, ss_v (ss_b G) this), (1, .int a1), (2, .int x2_35), (3, .int x3_35), (5, .int x5_90)]) hx hb dd_M_closedBy_91 hl (by decide) rfl (fun ls hl => ?_)
              obtain ⟨v14, qv14, hm⟩ := ss_bind hm
              refine lv_iinc (v := v14) (lv' := [(5, .int v14), (4, .int v13), (0, ss_v (ss_b G) this), (1, .int a1), (2, .int x2_35), (3, .int x3_35)]) hx hb dd_M_closedBy_93 hl (k := 5) rfl (ss_inc (by decide) qv14) (by decide) rfl (fun ls hl => ?_)
              refine lv_goto (tgt := 40) hx hb dd_M_closedBy_96 (by decide) ?_
              exact ih_40 v13 v14  _ _ _ (hz1_40 _ (ss_some hm)) hR hS (lv_sub hl [2, 3, 4, 5, 1, 0] rfl)
            have J_89 : ∀ (x5_89 : Int32) (s0_89 : Int32) (H : Heap) (locs : List Loc) (ls : Array Slot), mm_M_closedBy_j89 N this a1 x2_35 x3_35 h x5_89 s0_89 = some z_40 → ss_R G h H → va_S (ss_A G) s.heap H locs → lv_has ls 6 [(0, ss_v (ss_b G) this), (1, .int a1), (2, .int x2_35), (3, .int x3_35), (5, .int x5_89)] → ww_M_closedBy p l e s m below meth c G this a1 h rr  H locs 0 0 (F0 m 89 ls [.int s0_89]) := by
              intro x5_89 s0_89 H locs ls hm hR hS hl
              refine lv_iconst (v := 0) hx hb dd_M_closedBy_89 (by decide) ?_
              exact J_90 x5_89 s0_89 (0 : Int32)  _ _ _ hm hR hS hl
            refine lv_iload hx hb dd_M_closedBy_40 (lv_at hl 5 rfl) ?_
            refine ss_aload_n hx hb dd_M_closedBy_42 rfl (lv_at hl 0 rfl) ?_
            obtain ⟨r15, qr15, hm⟩ := ss_bind hm
            refine ss_getr hC hK hR kf_M_39 rfl qr15 dd_M_closedBy_43 ?_
            refine lv_iconst (v := 2) hx hb dd_M_closedBy_46 (by decide) ?_
            obtain ⟨v16, qv16, hm⟩ := ss_bind hm
            refine ss_iald hC hK hR qv16 dd_M_closedBy_47 ?_
            refine lv_icmp_ge (tgt := 99) hx hb dd_M_closedBy_48 (by decide) (fun c17 => ?_) (fun c17 => ?_)
            · have hm := ss_ift hm c17
              exact X_40_99 x4_40  _ _ _ (hz2_40 _ (ss_some hm)) hR hS (lv_sub hl [0, 1, 2, 3, 4] rfl)
            · have hm := ss_iff hm c17
              refine lv_iload hx hb dd_M_closedBy_51 (lv_at hl 4 rfl) ?_
              refine lv_iload_n hx hb dd_M_closedBy_53 rfl (lv_at hl 1 rfl) ?_
              refine lv_iload hx hb dd_M_closedBy_54 (lv_at hl 5 rfl) ?_
              obtain ⟨v18, qv18, hm⟩ := ss_bind hm
              refine ss_cS 0 0 (As := [.int a1, .int x5_40]) hC hK hR hS hl.1 (cc_M_isOf l G N _ _ _ _ qv18) km_M_316 ⟨Nat.le_of_ble_eq_true rfl, Nat.le_of_ble_eq_true rfl⟩ ⟨Nat.le_of_ble_eq_true rfl, Nat.le_of_ble_eq_true rfl, Nat.le_of_ble_eq_true rfl, Nat.le_of_ble_eq_true rfl⟩ rfl rfl (Nat.le_of_ble_eq_true rfl) dd_M_closedBy_56 (fun H locs hR hS => ?_)
              refine lv_if_eq (tgt := 89) hx hb dd_M_closedBy_59 (by decide) (fun c19 => ?_) (fun c19 => ?_)
              · have hm := ss_ift hm c19
                exact J_89 x5_40 x4_40  _ _ _ hm hR hS (lv_sub hl [0, 1, 2, 3, 5] rfl)
              · have hm := ss_iff hm c19
                refine ss_aload_n hx hb dd_M_closedBy_62 rfl (lv_at hl 0 rfl) ?_
                obtain ⟨r20, qr20, hm⟩ := ss_bind hm
                refine ss_getr hC hK hR kf_M_39 rfl qr20 dd_M_closedBy_63 ?_
                refine lv_bipush (v := 22) hx hb dd_M_closedBy_66 (by decide) ?_
                refine lv_iload hx hb dd_M_closedBy_68 (lv_at hl 5 rfl) ?_
                refine lv_iadd hx hb dd_M_closedBy_70 ?_
                obtain ⟨v21, qv21, hm⟩ := ss_bind hm
                refine ss_iald hC hK hR qv21 dd_M_closedBy_71 ?_
                refine lv_iload_n hx hb dd_M_closedBy_72 rfl (lv_at hl 3 rfl) ?_
                refine lv_icmp_ne (tgt := 89) hx hb dd_M_closedBy_73 (by decide) (fun c22 => ?_) (fun c22 => ?_)
                · have hm := ss_iff hm c22
                  exact J_89 x5_40 x4_40  _ _ _ hm hR hS (lv_sub hl [0, 1, 2, 3, 5] rfl)
                · have hm := ss_ift hm c22
                  refine ss_aload_n hx hb dd_M_closedBy_76 rfl (lv_at hl 0 rfl) ?_
                  obtain ⟨r23, qr23, hm⟩ := ss_bind hm
                  refine ss_getr hC hK hR kf_M_39 rfl qr23 dd_M_closedBy_77 ?_
                  refine lv_bipush (v := 14) hx hb dd_M_closedBy_80 (by decide) ?_
                  refine lv_iload hx hb dd_M_closedBy_82 (lv_at hl 5 rfl) ?_
                  refine lv_iadd hx hb dd_M_closedBy_84 ?_
                  obtain ⟨v24, qv24, hm⟩ := ss_bind hm
                  refine ss_iald hC hK hR qv24 dd_M_closedBy_85 ?_
                  refine lv_goto (tgt := 90) hx hb dd_M_closedBy_86 (by decide) ?_
                  exact J_90 x5_40 x4_40 v24  _ _ _ hm hR hS (lv_sub hl [0, 1, 2, 3, 5] rfl)
        exact L_40 N s0_35 (0 : Int32) _ _ _ he_40 hR hS (lv_sub hl [2, 3, 4, 5, 1, 0] rfl)
      refine lv_iload_n hx hb dd_M_closedBy_4 rfl (lv_at hl 3 rfl) ?_
      refine ss_aload_n hx hb dd_M_closedBy_5 rfl (lv_at hl 0 rfl) ?_
      obtain ⟨r25, qr25, hm⟩ := ss_bind hm
      refine ss_getr hC hK hR kf_M_39 rfl qr25 dd_M_closedBy_6 ?_
      refine lv_iconst (v := 2) hx hb dd_M_closedBy_9 (by decide) ?_
      obtain ⟨v26, qv26, hm⟩ := ss_bind hm
      refine ss_iald hC hK hR qv26 dd_M_closedBy_10 ?_
      refine lv_icmp_ge (tgt := 153) hx hb dd_M_closedBy_11 (by decide) (fun c27 => ?_) (fun c27 => ?_)
      · have hm := ss_ift hm c27
        exact X_4_153 x2_4  _ _ _ (hz2_4 _ (ss_some hm)) hR hS (lv_sub hl [2] rfl)
      · have hm := ss_iff hm c27
        refine lv_iload_n hx hb dd_M_closedBy_14 rfl (lv_at hl 1 rfl) ?_
        refine lv_iload_n hx hb dd_M_closedBy_15 rfl (lv_at hl 3 rfl) ?_
        obtain ⟨v28, qv28, hm⟩ := ss_bind hm
        refine ss_cS 0 0 (As := [.int a1, .int x3_4]) hC hK hR hS hl.1 (cc_M_isOf l G N _ _ _ _ qv28) km_M_316 ⟨Nat.le_of_ble_eq_true rfl, Nat.le_of_ble_eq_true rfl⟩ ⟨Nat.le_of_ble_eq_true rfl, Nat.le_of_ble_eq_true rfl, Nat.le_of_ble_eq_true rfl, Nat.le_of_ble_eq_true rfl⟩ rfl rfl (Nat.le_of_ble_eq_true rfl) dd_M_closedBy_16 (fun H locs hR hS => ?_)
        refine lv_if_eq (tgt := 26) hx hb dd_M_closedBy_19 (by decide) (fun c29 => ?_) (fun c29 => ?_)
        · have hm := ss_ift hm c29
          refine ss_aload_n hx hb dd_M_closedBy_26 rfl (lv_at hl 0 rfl) ?_
          obtain ⟨r30, qr30, hm⟩ := ss_bind hm
          refine ss_getr hC hK hR kf_M_39 rfl qr30 dd_M_closedBy_27 ?_
          refine lv_bipush (v := 14) hx hb dd_M_closedBy_30 (by decide) ?_
          refine lv_iload_n hx hb dd_M_closedBy_32 rfl (lv_at hl 3 rfl) ?_
          refine lv_iadd hx hb dd_M_closedBy_33 ?_
          obtain ⟨v31, qv31, hm⟩ := ss_bind hm
          refine ss_iald hC hK hR qv31 dd_M_closedBy_34 ?_
          exact J_35 x2_4 x3_4 v31  _ _ _ hm hR hS hl
        · have hm := ss_iff hm c29
          refine lv_iconst (v := 0) hx hb dd_M_closedBy_22 (by decide) ?_
          refine lv_goto (tgt := 35) hx hb dd_M_closedBy_23 (by decide) ?_
          exact J_35 x2_4 x3_4 (0 : Int32)  _ _ _ hm hR hS hl
  exact L_4 N (0 : Int32) (0 : Int32) _ _ _ he_4 hR hS (lv_sub hl [2, 3, 1, 0] rfl)
theorem dd_M_figure_0 : decode bb_M_figure 0 = .ok (.aload_n 0, 1) := by decide +kernel
theorem dd_M_figure_1 : decode bb_M_figure 1 = .ok (.invokevirtual 366, 3) := by decide +kernel
theorem dd_M_figure_4 : decode bb_M_figure 4 = .ok (.ifCond .eq 29, 3) := by decide +kernel
theorem dd_M_figure_7 : decode bb_M_figure 7 = .ok (.iload_n 1, 1) := by decide +kernel
theorem dd_M_figure_8 : decode bb_M_figure 8 = .ok (.ifCond .lt 25, 3) := by decide +kernel
theorem dd_M_figure_11 : decode bb_M_figure 11 = .ok (.iload_n 1, 1) := by decide +kernel
theorem dd_M_figure_12 : decode bb_M_figure 12 = .ok (.iconst 1, 1) := by decide +kernel
theorem dd_M_figure_13 : decode bb_M_figure 13 = .ok (.aload_n 0, 1) := by decide +kernel
theorem dd_M_figure_14 : decode bb_M_figure 14 = .ok (.getfield 39, 3) := by decide +kernel
theorem dd_M_figure_17 : decode bb_M_figure 17 = .ok (.iconst 2, 1) := by decide +kernel
theorem dd_M_figure_18 : decode bb_M_figure 18 = .ok (.iaload, 1) := by decide +kernel
theorem dd_M_figure_19 : decode bb_M_figure 19 = .ok (.ishl, 1) := by decide +kernel
theorem dd_M_figure_20 : decode bb_M_figure 20 = .ok (.if_icmp .ge 13, 3) := by decide +kernel
theorem dd_M_figure_23 : decode bb_M_figure 23 = .ok (.iload_n 2, 1) := by decide +kernel
theorem dd_M_figure_24 : decode bb_M_figure 24 = .ok (.i2l, 1) := by decide +kernel
theorem dd_M_figure_25 : decode bb_M_figure 25 = .ok (.lconst 0, 1) := by decide +kernel
theorem dd_M_figure_26 : decode bb_M_figure 26 = .ok (.lconst 1, 1) := by decide +kernel
theorem dd_M_figure_27 : decode bb_M_figure 27 = .ok (.invokestatic 124, 3) := by decide +kernel
theorem dd_M_figure_30 : decode bb_M_figure 30 = .ok (.ifCond .ne 5, 3) := by decide +kernel
theorem dd_M_figure_33 : decode bb_M_figure 33 = .ok (.iconst (-1), 1) := by decide +kernel
theorem dd_M_figure_34 : decode bb_M_figure 34 = .ok (.ireturn, 1) := by decide +kernel
theorem dd_M_figure_35 : decode bb_M_figure 35 = .ok (.iconst 0, 1) := by decide +kernel
theorem dd_M_figure_36 : decode bb_M_figure 36 = .ok (.istore_n 3, 1) := by decide +kernel
theorem dd_M_figure_37 : decode bb_M_figure 37 = .ok (.iconst (-1), 1) := by decide +kernel
theorem dd_M_figure_38 : decode bb_M_figure 38 = .ok (.istore 4, 2) := by decide +kernel
theorem dd_M_figure_40 : decode bb_M_figure 40 = .ok (.iconst 0, 1) := by decide +kernel
theorem dd_M_figure_41 : decode bb_M_figure 41 = .ok (.istore 5, 2) := by decide +kernel
theorem dd_M_figure_43 : decode bb_M_figure 43 = .ok (.iload 5, 2) := by decide +kernel
theorem dd_M_figure_45 : decode bb_M_figure 45 = .ok (.aload_n 0, 1) := by decide +kernel
theorem dd_M_figure_46 : decode bb_M_figure 46 = .ok (.getfield 39, 3) := by decide +kernel
theorem dd_M_figure_49 : decode bb_M_figure 49 = .ok (.iconst 2, 1) := by decide +kernel
theorem dd_M_figure_50 : decode bb_M_figure 50 = .ok (.iaload, 1) := by decide +kernel
theorem dd_M_figure_51 : decode bb_M_figure 51 = .ok (.if_icmp .ge 33, 3) := by decide +kernel
theorem dd_M_figure_54 : decode bb_M_figure 54 = .ok (.iload_n 3, 1) := by decide +kernel
theorem dd_M_figure_55 : decode bb_M_figure 55 = .ok (.aload_n 0, 1) := by decide +kernel
theorem dd_M_figure_56 : decode bb_M_figure 56 = .ok (.getfield 39, 3) := by decide +kernel
theorem dd_M_figure_59 : decode bb_M_figure 59 = .ok (.bipush 14, 2) := by decide +kernel
theorem dd_M_figure_61 : decode bb_M_figure 61 = .ok (.iload 5, 2) := by decide +kernel
theorem dd_M_figure_63 : decode bb_M_figure 63 = .ok (.iadd, 1) := by decide +kernel
theorem dd_M_figure_64 : decode bb_M_figure 64 = .ok (.iaload, 1) := by decide +kernel
theorem dd_M_figure_65 : decode bb_M_figure 65 = .ok (.ifCond .le 10, 3) := by decide +kernel
theorem dd_M_figure_68 : decode bb_M_figure 68 = .ok (.iconst 1, 1) := by decide +kernel
theorem dd_M_figure_69 : decode bb_M_figure 69 = .ok (.iload 5, 2) := by decide +kernel
theorem dd_M_figure_71 : decode bb_M_figure 71 = .ok (.ishl, 1) := by decide +kernel
theorem dd_M_figure_72 : decode bb_M_figure 72 = .ok (.goto 4, 3) := by decide +kernel
theorem dd_M_figure_75 : decode bb_M_figure 75 = .ok (.iconst 0, 1) := by decide +kernel
theorem dd_M_figure_76 : decode bb_M_figure 76 = .ok (.ior, 1) := by decide +kernel
theorem dd_M_figure_77 : decode bb_M_figure 77 = .ok (.istore_n 3, 1) := by decide +kernel
theorem dd_M_figure_78 : decode bb_M_figure 78 = .ok (.iinc 5 1, 3) := by decide +kernel
theorem dd_M_figure_81 : decode bb_M_figure 81 = .ok (.goto (-38), 3) := by decide +kernel
theorem dd_M_figure_84 : decode bb_M_figure 84 = .ok (.iconst 0, 1) := by decide +kernel
theorem dd_M_figure_85 : decode bb_M_figure 85 = .ok (.istore 5, 2) := by decide +kernel
theorem dd_M_figure_87 : decode bb_M_figure 87 = .ok (.iload 5, 2) := by decide +kernel
theorem dd_M_figure_89 : decode bb_M_figure 89 = .ok (.iconst 1, 1) := by decide +kernel
theorem dd_M_figure_90 : decode bb_M_figure 90 = .ok (.aload_n 0, 1) := by decide +kernel
theorem dd_M_figure_91 : decode bb_M_figure 91 = .ok (.getfield 39, 3) := by decide +kernel
theorem dd_M_figure_94 : decode bb_M_figure 94 = .ok (.iconst 2, 1) := by decide +kernel
theorem dd_M_figure_95 : decode bb_M_figure 95 = .ok (.iaload, 1) := by decide +kernel
theorem dd_M_figure_96 : decode bb_M_figure 96 = .ok (.ishl, 1) := by decide +kernel
theorem dd_M_figure_97 : decode bb_M_figure 97 = .ok (.if_icmp .ge 53, 3) := by decide +kernel
theorem dd_M_figure_100 : decode bb_M_figure 100 = .ok (.iload 5, 2) := by decide +kernel
theorem dd_M_figure_102 : decode bb_M_figure 102 = .ok (.iload_n 3, 1) := by decide +kernel
theorem dd_M_figure_103 : decode bb_M_figure 103 = .ok (.iconst (-1), 1) := by decide +kernel
theorem dd_M_figure_104 : decode bb_M_figure 104 = .ok (.ixor, 1) := by decide +kernel
theorem dd_M_figure_105 : decode bb_M_figure 105 = .ok (.iand, 1) := by decide +kernel
theorem dd_M_figure_106 : decode bb_M_figure 106 = .ok (.ifCond .ne 38, 3) := by decide +kernel
theorem dd_M_figure_109 : decode bb_M_figure 109 = .ok (.iload 4, 2) := by decide +kernel
theorem dd_M_figure_111 : decode bb_M_figure 111 = .ok (.ifCond .lt 19, 3) := by decide +kernel
theorem dd_M_figure_114 : decode bb_M_figure 114 = .ok (.iload 5, 2) := by decide +kernel
theorem dd_M_figure_116 : decode bb_M_figure 116 = .ok (.invokestatic 343, 3) := by decide +kernel
theorem dd_M_figure_119 : decode bb_M_figure 119 = .ok (.iload 4, 2) := by decide +kernel
theorem dd_M_figure_121 : decode bb_M_figure 121 = .ok (.invokestatic 343, 3) := by decide +kernel
theorem dd_M_figure_124 : decode bb_M_figure 124 = .ok (.if_icmp .lt 6, 3) := by decide +kernel
theorem dd_M_figure_127 : decode bb_M_figure 127 = .ok (.goto 17, 3) := by decide +kernel
theorem dd_M_figure_130 : decode bb_M_figure 130 = .ok (.aload_n 0, 1) := by decide +kernel
theorem dd_M_figure_131 : decode bb_M_figure 131 = .ok (.iload 5, 2) := by decide +kernel
theorem dd_M_figure_133 : decode bb_M_figure 133 = .ok (.invokevirtual 401, 3) := by decide +kernel
theorem dd_M_figure_136 : decode bb_M_figure 136 = .ok (.iload_n 1, 1) := by decide +kernel
theorem dd_M_figure_137 : decode bb_M_figure 137 = .ok (.if_icmp .ne 7, 3) := by decide +kernel
theorem dd_M_figure_140 : decode bb_M_figure 140 = .ok (.iload 5, 2) := by decide +kernel
theorem dd_M_figure_142 : decode bb_M_figure 142 = .ok (.istore 4, 2) := by decide +kernel
theorem dd_M_figure_144 : decode bb_M_figure 144 = .ok (.iinc 5 1, 3) := by decide +kernel
theorem dd_M_figure_147 : decode bb_M_figure 147 = .ok (.goto (-60), 3) := by decide +kernel
theorem dd_M_figure_150 : decode bb_M_figure 150 = .ok (.iload 4, 2) := by decide +kernel
theorem dd_M_figure_152 : decode bb_M_figure 152 = .ok (.ifCond .ge 8, 3) := by decide +kernel
theorem dd_M_figure_155 : decode bb_M_figure 155 = .ok (.bipush (-2), 2) := by decide +kernel
theorem dd_M_figure_157 : decode bb_M_figure 157 = .ok (.goto 17, 3) := by decide +kernel
theorem dd_M_figure_160 : decode bb_M_figure 160 = .ok (.iload_n 2, 1) := by decide +kernel
theorem dd_M_figure_161 : decode bb_M_figure 161 = .ok (.ifCond .ne 11, 3) := by decide +kernel
theorem dd_M_figure_164 : decode bb_M_figure 164 = .ok (.iload 4, 2) := by decide +kernel
theorem dd_M_figure_166 : decode bb_M_figure 166 = .ok (.invokestatic 343, 3) := by decide +kernel
theorem dd_M_figure_169 : decode bb_M_figure 169 = .ok (.goto 5, 3) := by decide +kernel
theorem dd_M_figure_172 : decode bb_M_figure 172 = .ok (.iload 4, 2) := by decide +kernel
theorem dd_M_figure_174 : decode bb_M_figure 174 = .ok (.ireturn, 1) := by decide +kernel
def mm_M_figure_j33 (N : Nat) (this : Option Nat) (a1 : Int32) (a2 : Int32) (h : ss_Hp) : Option Int32 :=
  some (-1 : Int32)
def mm_M_figure_j174 (N : Nat) (this : Option Nat) (a1 : Int32) (a2 : Int32) (h : ss_Hp) (s0_174 : Int32) : Option Int32 :=
  some s0_174
def mm_M_figure_j144 (N : Nat) (this : Option Nat) (a1 : Int32) (a2 : Int32) (y3_43_84 : Int32) (h : ss_Hp) (x4_144 : Int32) (x5_144 : Int32) : Option ((Int32 × Int32) ⊕ Int32) :=
  (some (x5_144 + (1 : Int32))).bind fun v12 =>
  some (.inl (x4_144, v12))
def mm_M_figure_j130 (N : Nat) (this : Option Nat) (a1 : Int32) (a2 : Int32) (y3_43_84 : Int32) (h : ss_Hp) (x4_130 : Int32) (x5_130 : Int32) : Option ((Int32 × Int32) ⊕ Int32) :=
  (mm_M_closedBy N this x5_130 h).bind fun v13 =>
  if v13 = a1 then
    mm_M_figure_j144 N this a1 a2 y3_43_84 h x5_130 x5_130
  else
    mm_M_figure_j144 N this a1 a2 y3_43_84 h x4_130 x5_130
def mm_M_figure_b87 (N : Nat) (this : Option Nat) (a1 : Int32) (a2 : Int32) (y3_43_84 : Int32) (h : ss_Hp) (st : Int32 × Int32) : Option ((Int32 × Int32) ⊕ Int32) :=
  match st with
  | (x4_87, x5_87) =>
    (ss_gr h this 12 9).bind fun r15 =>
    (ss_ai h r15 20 (2 : Int32)).bind fun v16 =>
    if ((1 : Int32) <<< (v16 &&& 31)) ≤ x5_87 then
      some (.inr x4_87)
    else
      if (x5_87 &&& (y3_43_84 ^^^ (-1 : Int32))) = 0 then
        if x4_87 < 0 then
          mm_M_figure_j130 N this a1 a2 y3_43_84 h x4_87 x5_87
        else
          (mm_M_bits N x5_87).bind fun v20 =>
          (mm_M_bits N x4_87).bind fun v21 =>
          if v20 < v21 then
            mm_M_figure_j130 N this a1 a2 y3_43_84 h x4_87 x5_87
          else
            mm_M_figure_j144 N this a1 a2 y3_43_84 h x4_87 x5_87
      else
        mm_M_figure_j144 N this a1 a2 y3_43_84 h x4_87 x5_87
def mm_M_figure_j76 (N : Nat) (this : Option Nat) (a1 : Int32) (a2 : Int32) (h : ss_Hp) (x5_76 : Int32) (s0_76 : Int32) (s1_76 : Int32) : Option ((Int32 × Int32) ⊕ Int32) :=
  (some (s0_76 ||| s1_76)).bind fun v23 =>
  (some (x5_76 + (1 : Int32))).bind fun v24 =>
  some (.inl (v23, v24))
def mm_M_figure_b43 (N : Nat) (this : Option Nat) (a1 : Int32) (a2 : Int32) (h : ss_Hp) (st : Int32 × Int32) : Option ((Int32 × Int32) ⊕ Int32) :=
  match st with
  | (x3_43, x5_43) =>
    (ss_gr h this 12 9).bind fun r25 =>
    (ss_ai h r25 20 (2 : Int32)).bind fun v26 =>
    if v26 ≤ x5_43 then
      some (.inr x3_43)
    else
      (ss_gr h this 12 9).bind fun r28 =>
      (ss_ai h r28 20 ((14 : Int32) + x5_43)).bind fun v29 =>
      if v29 ≤ 0 then
        mm_M_figure_j76 N this a1 a2 h x5_43 x3_43 (0 : Int32)
      else
        mm_M_figure_j76 N this a1 a2 h x5_43 x3_43 ((1 : Int32) <<< (x5_43 &&& 31))
def mm_M_figure (N : Nat) (this : Option Nat) (a1 : Int32) (a2 : Int32) (h : ss_Hp) : Option Int32 :=
  if ss_is h this 12 = true then
    (mm_M_isValley N this h).bind fun v1 =>
    if v1 = 0 then
      mm_M_figure_j33 N this a1 a2 h
    else
      if a1 < 0 then
        mm_M_figure_j33 N this a1 a2 h
      else
        (ss_gr h this 12 9).bind fun r4 =>
        (ss_ai h r4 20 (2 : Int32)).bind fun v5 =>
        if ((1 : Int32) <<< (v5 &&& 31)) ≤ a1 then
          mm_M_figure_j33 N this a1 a2 h
        else
          (mm_M_in N ((a2).toInt64) (0 : Int64) (1 : Int64)).bind fun v7 =>
          if v7 = 0 then
            mm_M_figure_j33 N this a1 a2 h
          else
            (ss_lp (mm_M_figure_b43 N this a1 a2 h) N ((0 : Int32), (0 : Int32))).bind fun y3_43_84 =>
            (ss_lp (mm_M_figure_b87 N this a1 a2 y3_43_84 h) N ((-1 : Int32), (0 : Int32))).bind fun y4_87_150 =>
            if 0 ≤ y4_87_150 then
              if a2 = 0 then
                (mm_M_bits N y4_87_150).bind fun v11 =>
                mm_M_figure_j174 N this a1 a2 h v11
              else
                mm_M_figure_j174 N this a1 a2 h y4_87_150
            else
              mm_M_figure_j174 N this a1 a2 h (-2 : Int32)
  else none
abbrev ww_M_figure (p : Program) (l : Launch) (e : Env) (s : State) (m : MethodId) (below : List Frame) (meth : Method) (c : Code) (G : ss_G) (this : Option Nat) (a1 : Int32) (a2 : Int32) (h : ss_Hp) (rr : Int32) (H : Heap) (locs : List Loc) (k n : Nat) (g : JFrame) : Prop := W p l e (headSpec (ss_w yy_M_figure bb_M_figure 6 (some (.int))) ({ frames := 2, cells := 0, slots := 0, locals := 46 })).room s m ([ss_v (ss_b G) this, .int a1, .int a2] : List Value).toArray below meth c H locs k n (MQ below (ss_Qc G (some (.int rr)) h) ([ss_v (ss_b G) this, .int a1, .int a2] : List Value).toArray s 0 0 (ss_A G)) g
theorem ck_M_figure {N : Nat} {this : Option Nat} {a1 : Int32} {a2 : Int32} {h : ss_Hp} {res : Int32} (hm : mm_M_figure N this a1 a2 h = some res) : ss_is h this 12 = true := (ss_chk hm).1
set_option maxHeartbeats 4000000 in
set_option maxRecDepth 100000 in
theorem cc_M_figure (l : Launch) (G : ss_G) (N : Nat) (this : Option Nat) (a1 : Int32) (a2 : Int32) (h : ss_Hp) (rr : Int32) (hm : mm_M_figure N this a1 a2 h = some rr) : ss_Ct l G yy_M_figure bb_M_figure 6 (some (.int)) ({ frames := 2, cells := 0, slots := 0, locals := 46 }) [ss_v (ss_b G) this, .int a1, .int a2] h (some (.int rr)) h := by
  obtain ⟨hck, hm⟩ := ss_chk hm
  refine Met.ofW (cc := bb_M_figure) (maxL := 6) (ret := (some (.int))) (by decide) rfl ?_
  intro p e s m args below meth c s₁ B hml hv
  obtain ⟨rfl, hR, hK⟩ := hv
  have hC : CallFix p m c bb_M_figure 6 s _ lw_g sR_12 := ⟨B.exec, B.bytes, hml, findClass_of_methodNamed B.named, fun w hw => atoms_spec (ws := ss_w yy_M_figure bb_M_figure 6 (some (.int))) B.pre w (List.mem_cons_of_mem _ hw)⟩
  have hx := hC.1
  have hb := hC.2.1
  have hr := B.returns
  have hlocks := B.notSynchronized
  have hS : va_S (ss_A G) s.heap s.heap [] := va_S.rf
  have hl := lv_entry ([ss_v (ss_b G) this, .int a1, .int a2]) (n := 6) (by simp [lg_sl, ss_v_cat, ss_cat_i, ss_cat_l, ss_cat_r])
  rw [lg_entry_eq]
  generalize (lg_sl ([ss_v (ss_b G) this, .int a1, .int a2]) ++ List.replicate (6 - (lg_sl ([ss_v (ss_b G) this, .int a1, .int a2])).length) Slot.unset).toArray = ls at hl ⊢
  have hl : lv_has ls 6 [(0, ss_v (ss_b G) this), (1, .int a1), (2, .int a2)] := by simpa [lv_args, ss_v_cat, ss_cat_i, ss_cat_l, ss_cat_r] using hl
  have J_33 : ∀  (H : Heap) (locs : List Loc) (ls : Array Slot), mm_M_figure_j33 N this a1 a2 h = some rr → ss_R G h H → va_S (ss_A G) s.heap H locs → lv_has ls 6 [] → ww_M_figure p l e s m below meth c G this a1 a2 h rr  H locs 0 0 (F0 m 33 ls []) := by
    intro  H locs ls hm hR hS hl
    refine lv_iconst (v := -1) hx hb dd_M_figure_33 (by decide) ?_
    exact ss_iret hC hr hlocks hR hS (ss_with _ hm) dd_M_figure_34
  have J_174 : ∀ (s0_174 : Int32) (H : Heap) (locs : List Loc) (ls : Array Slot), mm_M_figure_j174 N this a1 a2 h s0_174 = some rr → ss_R G h H → va_S (ss_A G) s.heap H locs → lv_has ls 6 [] → ww_M_figure p l e s m below meth c G this a1 a2 h rr  H locs 0 0 (F0 m 174 ls [.int s0_174]) := by
    intro s0_174 H locs ls hm hR hS hl
    exact ss_iret hC hr hlocks hR hS (ss_with _ hm) dd_M_figure_174
  refine ss_aload_n hx hb dd_M_figure_0 rfl (lv_at hl 0 rfl) ?_
  obtain ⟨v1, qv1, hm⟩ := ss_bind hm
  refine ss_cV 0 0 (As := []) hC hK hR hS hl.1 (cc_M_isValley l G N _ _ _ qv1) km_M_366 (ck_M_isValley qv1) ⟨Nat.le_of_ble_eq_true rfl, Nat.le_of_ble_eq_true rfl⟩ ⟨Nat.le_of_ble_eq_true rfl, Nat.le_of_ble_eq_true rfl, Nat.le_of_ble_eq_true rfl, Nat.le_of_ble_eq_true rfl⟩ rfl rfl (Nat.le_of_ble_eq_true rfl) dd_M_figure_1 (fun H locs hR hS => ?_)
  refine lv_if_eq (tgt := 33) hx hb dd_M_figure_4 (by decide) (fun c2 => ?_) (fun c2 => ?_)
  · have hm := ss_ift hm c2
    exact J_33  _ _ _ hm hR hS (lv_sub hl [] rfl)
  · have hm := ss_iff hm c2
    refine lv_iload_n hx hb dd_M_figure_7 rfl (lv_at hl 1 rfl) ?_
    refine lv_if_lt (tgt := 33) hx hb dd_M_figure_8 (by decide) (fun c3 => ?_) (fun c3 => ?_)
    · have hm := ss_ift hm c3
      exact J_33  _ _ _ hm hR hS (lv_sub hl [] rfl)
    · have hm := ss_iff hm c3
      refine lv_iload_n hx hb dd_M_figure_11 rfl (lv_at hl 1 rfl) ?_
      refine lv_iconst (v := 1) hx hb dd_M_figure_12 (by decide) ?_
      refine ss_aload_n hx hb dd_M_figure_13 rfl (lv_at hl 0 rfl) ?_
      obtain ⟨r4, qr4, hm⟩ := ss_bind hm
      refine ss_getr hC hK hR kf_M_39 rfl qr4 dd_M_figure_14 ?_
      refine lv_iconst (v := 2) hx hb dd_M_figure_17 (by decide) ?_
      obtain ⟨v5, qv5, hm⟩ := ss_bind hm
      refine ss_iald hC hK hR qv5 dd_M_figure_18 ?_
      refine lv_ishl hx hb dd_M_figure_19 ?_
      refine lv_icmp_ge (tgt := 33) hx hb dd_M_figure_20 (by decide) (fun c6 => ?_) (fun c6 => ?_)
      · have hm := ss_ift hm c6
        exact J_33  _ _ _ hm hR hS (lv_sub hl [] rfl)
      · have hm := ss_iff hm c6
        refine lv_iload_n hx hb dd_M_figure_23 rfl (lv_at hl 2 rfl) ?_
        refine lv_i2l hx hb dd_M_figure_24 rfl ?_
        refine lv_lconst (v := 0) hx hb dd_M_figure_25 (by decide) ?_
        refine lv_lconst (v := 1) hx hb dd_M_figure_26 (by decide) ?_
        obtain ⟨v7, qv7, hm⟩ := ss_bind hm
        refine ss_cS 0 0 (As := [.long ((a2).toInt64), .long (0 : Int64), .long (1 : Int64)]) hC hK hR hS hl.1 (cc_M_in l G N _ _ _ _ _ qv7) km_M_124 ⟨Nat.le_of_ble_eq_true rfl, Nat.le_of_ble_eq_true rfl⟩ ⟨Nat.le_of_ble_eq_true rfl, Nat.le_of_ble_eq_true rfl, Nat.le_of_ble_eq_true rfl, Nat.le_of_ble_eq_true rfl⟩ rfl rfl (Nat.le_of_ble_eq_true rfl) dd_M_figure_27 (fun H locs hR hS => ?_)
        refine lv_if_ne (tgt := 35) hx hb dd_M_figure_30 (by decide) (fun c8 => ?_) (fun c8 => ?_)
        · have hm := ss_iff hm c8
          refine lv_iconst (v := 0) hx hb dd_M_figure_35 (by decide) ?_
          refine lv_istore_n (lv' := [(3, .int (0 : Int32)), (0, ss_v (ss_b G) this), (1, .int a1), (2, .int a2)]) hx hb dd_M_figure_36 rfl hl (by decide) rfl (fun ls hl => ?_)
          refine lv_iconst (v := -1) hx hb dd_M_figure_37 (by decide) ?_
          refine lv_istore (lv' := [(4, .int (-1 : Int32)), (3, .int (0 : Int32)), (0, ss_v (ss_b G) this), (1, .int a1), (2, .int a2)]) hx hb dd_M_figure_38 hl (by decide) rfl (fun ls hl => ?_)
          refine lv_iconst (v := 0) hx hb dd_M_figure_40 (by decide) ?_
          refine lv_istore (lv' := [(5, .int (0 : Int32)), (4, .int (-1 : Int32)), (3, .int (0 : Int32)), (0, ss_v (ss_b G) this), (1, .int a1), (2, .int a2)]) hx hb dd_M_figure_41 hl (by decide) rfl (fun ls hl => ?_)
          obtain ⟨e_43, he_43, hm⟩ := ss_bind hm
          have X_43_84 : ∀ (y3_43_84 : Int32) (H : Heap) (locs : List Loc) (ls : Array Slot), e_43 = y3_43_84 → ss_R G h H → va_S (ss_A G) s.heap H locs → lv_has ls 6 [(0, ss_v (ss_b G) this), (1, .int a1), (2, .int a2), (3, .int y3_43_84), (4, .int (-1 : Int32))] → ww_M_figure p l e s m below meth c G this a1 a2 h rr  H locs 0 0 (F0 m 84 ls []) := by
            intro y3_43_84 H locs ls hq hR hS hl
            rw [hq] at hm
            refine lv_iconst (v := 0) hx hb dd_M_figure_84 (by decide) ?_
            refine lv_istore (lv' := [(5, .int (0 : Int32)), (0, ss_v (ss_b G) this), (1, .int a1), (2, .int a2), (3, .int y3_43_84), (4, .int (-1 : Int32))]) hx hb dd_M_figure_85 hl (by decide) rfl (fun ls hl => ?_)
            obtain ⟨e_87, he_87, hm⟩ := ss_bind hm
            have X_87_150 : ∀ (y4_87_150 : Int32) (H : Heap) (locs : List Loc) (ls : Array Slot), e_87 = y4_87_150 → ss_R G h H → va_S (ss_A G) s.heap H locs → lv_has ls 6 [(2, .int a2), (4, .int y4_87_150)] → ww_M_figure p l e s m below meth c G this a1 a2 h rr  H locs 0 0 (F0 m 150 ls []) := by
              intro y4_87_150 H locs ls hq hR hS hl
              rw [hq] at hm
              refine lv_iload hx hb dd_M_figure_150 (lv_at hl 1 rfl) ?_
              refine lv_if_ge (tgt := 160) hx hb dd_M_figure_152 (by decide) (fun c9 => ?_) (fun c9 => ?_)
              · have hm := ss_ift hm c9
                refine lv_iload_n hx hb dd_M_figure_160 rfl (lv_at hl 0 rfl) ?_
                refine lv_if_ne (tgt := 172) hx hb dd_M_figure_161 (by decide) (fun c10 => ?_) (fun c10 => ?_)
                · have hm := ss_iff hm c10
                  refine lv_iload hx hb dd_M_figure_172 (lv_at hl 1 rfl) ?_
                  exact J_174 y4_87_150  _ _ _ hm hR hS (lv_sub hl [] rfl)
                · have hm := ss_ift hm c10
                  refine lv_iload hx hb dd_M_figure_164 (lv_at hl 1 rfl) ?_
                  obtain ⟨v11, qv11, hm⟩ := ss_bind hm
                  refine ss_cS 0 0 (As := [.int y4_87_150]) hC hK hR hS hl.1 (cc_M_bits l G N _ _ _ qv11) km_M_343 ⟨Nat.le_of_ble_eq_true rfl, Nat.le_of_ble_eq_true rfl⟩ ⟨Nat.le_of_ble_eq_true rfl, Nat.le_of_ble_eq_true rfl, Nat.le_of_ble_eq_true rfl, Nat.le_of_ble_eq_true rfl⟩ rfl rfl (Nat.le_of_ble_eq_true rfl) dd_M_figure_166 (fun H locs hR hS => ?_)
                  refine lv_goto (tgt := 174) hx hb dd_M_figure_169 (by decide) ?_
                  exact J_174 v11  _ _ _ hm hR hS (lv_sub hl [] rfl)
              · have hm := ss_iff hm c9
                refine lv_bipush (v := -2) hx hb dd_M_figure_155 (by decide) ?_
                refine lv_goto (tgt := 174) hx hb dd_M_figure_157 (by decide) ?_
                exact J_174 (-2 : Int32)  _ _ _ hm hR hS (lv_sub hl [] rfl)
            have L_87 : ∀ (n : Nat) (x4_87 : Int32) (x5_87 : Int32) (H : Heap) (locs : List Loc) (ls : Array Slot), ss_lp (mm_M_figure_b87 N this a1 a2 y3_43_84 h) n (x4_87, x5_87) = some e_87 → ss_R G h H → va_S (ss_A G) s.heap H locs → lv_has ls 6 [(0, ss_v (ss_b G) this), (1, .int a1), (2, .int a2), (3, .int y3_43_84), (4, .int x4_87), (5, .int x5_87)] → ww_M_figure p l e s m below meth c G this a1 a2 h rr  H locs 0 0 (F0 m 87 ls []) := by
              intro n
              induction n with
              | zero => intro x4_87 x5_87 H locs ls hm; cases hm
              | succ n ih_87 =>
                intro x4_87 x5_87 H locs ls hm hR hS hl
                obtain ⟨z_87, hm, hz1_87, hz2_87⟩ := ss_lps hm
                have J_144 : ∀ (x4_144 : Int32) (x5_144 : Int32) (H : Heap) (locs : List Loc) (ls : Array Slot), mm_M_figure_j144 N this a1 a2 y3_43_84 h x4_144 x5_144 = some z_87 → ss_R G h H → va_S (ss_A G) s.heap H locs → lv_has ls 6 [(0, ss_v (ss_b G) this), (1, .int a1), (2, .int a2), (3, .int y3_43_84), (4, .int x4_144), (5, .int x5_144)] → ww_M_figure p l e s m below meth c G this a1 a2 h rr  H locs 0 0 (F0 m 144 ls []) := by
                  intro x4_144 x5_144 H locs ls hm hR hS hl
                  obtain ⟨v12, qv12, hm⟩ := ss_bind hm
                  refine lv_iinc (v := v12) (lv' := [(5, .int v12), (0, ss_v (ss_b G) this), (1, .int a1), (2, .int a2), (3, .int y3_43_84), (4, .int x4_144)]) hx hb dd_M_figure_144 hl (k := 5) rfl (ss_inc (by decide) qv12) (by decide) rfl (fun ls hl => ?_)
                  refine lv_goto (tgt := 87) hx hb dd_M_figure_147 (by decide) ?_
                  exact ih_87 x4_144 v12  _ _ _ (hz1_87 _ (ss_some hm)) hR hS (lv_sub hl [1, 2, 3, 4, 5, 0] rfl)
                have J_130 : ∀ (x4_130 : Int32) (x5_130 : Int32) (H : Heap) (locs : List Loc) (ls : Array Slot), mm_M_figure_j130 N this a1 a2 y3_43_84 h x4_130 x5_130 = some z_87 → ss_R G h H → va_S (ss_A G) s.heap H locs → lv_has ls 6 [(0, ss_v (ss_b G) this), (1, .int a1), (2, .int a2), (3, .int y3_43_84), (4, .int x4_130), (5, .int x5_130)] → ww_M_figure p l e s m below meth c G this a1 a2 h rr  H locs 0 0 (F0 m 130 ls []) := by
                  intro x4_130 x5_130 H locs ls hm hR hS hl
                  refine ss_aload_n hx hb dd_M_figure_130 rfl (lv_at hl 0 rfl) ?_
                  refine lv_iload hx hb dd_M_figure_131 (lv_at hl 5 rfl) ?_
                  obtain ⟨v13, qv13, hm⟩ := ss_bind hm
                  refine ss_cV 0 0 (As := [.int x5_130]) hC hK hR hS hl.1 (cc_M_closedBy l G N _ _ _ _ qv13) km_M_401 (ck_M_closedBy qv13) ⟨Nat.le_of_ble_eq_true rfl, Nat.le_of_ble_eq_true rfl⟩ ⟨Nat.le_of_ble_eq_true rfl, Nat.le_of_ble_eq_true rfl, Nat.le_of_ble_eq_true rfl, Nat.le_of_ble_eq_true rfl⟩ rfl rfl (Nat.le_of_ble_eq_true rfl) dd_M_figure_133 (fun H locs hR hS => ?_)
                  refine lv_iload_n hx hb dd_M_figure_136 rfl (lv_at hl 1 rfl) ?_
                  refine lv_icmp_ne (tgt := 144) hx hb dd_M_figure_137 (by decide) (fun c14 => ?_) (fun c14 => ?_)
                  · have hm := ss_iff hm c14
                    exact J_144 x4_130 x5_130  _ _ _ hm hR hS hl
                  · have hm := ss_ift hm c14
                    refine lv_iload hx hb dd_M_figure_140 (lv_at hl 5 rfl) ?_
                    refine lv_istore (lv' := [(4, .int x5_130), (0, ss_v (ss_b G) this), (1, .int a1), (2, .int a2), (3, .int y3_43_84), (5, .int x5_130)]) hx hb dd_M_figure_142 hl (by decide) rfl (fun ls hl => ?_)
                    exact J_144 x5_130 x5_130  _ _ _ hm hR hS (lv_sub hl [1, 2, 3, 4, 0, 5] rfl)
                refine lv_iload hx hb dd_M_figure_87 (lv_at hl 5 rfl) ?_
                refine lv_iconst (v := 1) hx hb dd_M_figure_89 (by decide) ?_
                refine ss_aload_n hx hb dd_M_figure_90 rfl (lv_at hl 0 rfl) ?_
                obtain ⟨r15, qr15, hm⟩ := ss_bind hm
                refine ss_getr hC hK hR kf_M_39 rfl qr15 dd_M_figure_91 ?_
                refine lv_iconst (v := 2) hx hb dd_M_figure_94 (by decide) ?_
                obtain ⟨v16, qv16, hm⟩ := ss_bind hm
                refine ss_iald hC hK hR qv16 dd_M_figure_95 ?_
                refine lv_ishl hx hb dd_M_figure_96 ?_
                refine lv_icmp_ge (tgt := 150) hx hb dd_M_figure_97 (by decide) (fun c17 => ?_) (fun c17 => ?_)
                · have hm := ss_ift hm c17
                  exact X_87_150 x4_87  _ _ _ (hz2_87 _ (ss_some hm)) hR hS (lv_sub hl [2, 4] rfl)
                · have hm := ss_iff hm c17
                  refine lv_iload hx hb dd_M_figure_100 (lv_at hl 5 rfl) ?_
                  refine lv_iload_n hx hb dd_M_figure_102 rfl (lv_at hl 3 rfl) ?_
                  refine lv_iconst (v := -1) hx hb dd_M_figure_103 (by decide) ?_
                  refine lv_ixor hx hb dd_M_figure_104 ?_
                  refine lv_iand hx hb dd_M_figure_105 ?_
                  refine lv_if_ne (tgt := 144) hx hb dd_M_figure_106 (by decide) (fun c18 => ?_) (fun c18 => ?_)
                  · have hm := ss_iff hm c18
                    exact J_144 x4_87 x5_87  _ _ _ hm hR hS hl
                  · have hm := ss_ift hm c18
                    refine lv_iload hx hb dd_M_figure_109 (lv_at hl 4 rfl) ?_
                    refine lv_if_lt (tgt := 130) hx hb dd_M_figure_111 (by decide) (fun c19 => ?_) (fun c19 => ?_)
                    · have hm := ss_ift hm c19
                      exact J_130 x4_87 x5_87  _ _ _ hm hR hS hl
                    · have hm := ss_iff hm c19
                      refine lv_iload hx hb dd_M_figure_114 (lv_at hl 5 rfl) ?_
                      obtain ⟨v20, qv20, hm⟩ := ss_bind hm
                      refine ss_cS 0 0 (As := [.int x5_87]) hC hK hR hS hl.1 (cc_M_bits l G N _ _ _ qv20) km_M_343 ⟨Nat.le_of_ble_eq_true rfl, Nat.le_of_ble_eq_true rfl⟩ ⟨Nat.le_of_ble_eq_true rfl, Nat.le_of_ble_eq_true rfl, Nat.le_of_ble_eq_true rfl, Nat.le_of_ble_eq_true rfl⟩ rfl rfl (Nat.le_of_ble_eq_true rfl) dd_M_figure_116 (fun H locs hR hS => ?_)
                      refine lv_iload hx hb dd_M_figure_119 (lv_at hl 4 rfl) ?_
                      obtain ⟨v21, qv21, hm⟩ := ss_bind hm
                      refine ss_cS 0 0 (As := [.int x4_87]) hC hK hR hS hl.1 (cc_M_bits l G N _ _ _ qv21) km_M_343 ⟨Nat.le_of_ble_eq_true rfl, Nat.le_of_ble_eq_true rfl⟩ ⟨Nat.le_of_ble_eq_true rfl, Nat.le_of_ble_eq_true rfl, Nat.le_of_ble_eq_true rfl, Nat.le_of_ble_eq_true rfl⟩ rfl rfl (Nat.le_of_ble_eq_true rfl) dd_M_figure_121 (fun H locs hR hS => ?_)
                      refine lv_icmp_lt (tgt := 130) hx hb dd_M_figure_124 (by decide) (fun c22 => ?_) (fun c22 => ?_)
                      · have hm := ss_ift hm c22
                        exact J_130 x4_87 x5_87  _ _ _ hm hR hS hl
                      · have hm := ss_iff hm c22
                        refine lv_goto (tgt := 144) hx hb dd_M_figure_127 (by decide) ?_
                        exact J_144 x4_87 x5_87  _ _ _ hm hR hS hl
            exact L_87 N (-1 : Int32) (0 : Int32) _ _ _ he_87 hR hS (lv_sub hl [1, 2, 3, 4, 5, 0] rfl)
          have L_43 : ∀ (n : Nat) (x3_43 : Int32) (x5_43 : Int32) (H : Heap) (locs : List Loc) (ls : Array Slot), ss_lp (mm_M_figure_b43 N this a1 a2 h) n (x3_43, x5_43) = some e_43 → ss_R G h H → va_S (ss_A G) s.heap H locs → lv_has ls 6 [(0, ss_v (ss_b G) this), (1, .int a1), (2, .int a2), (3, .int x3_43), (4, .int (-1 : Int32)), (5, .int x5_43)] → ww_M_figure p l e s m below meth c G this a1 a2 h rr  H locs 0 0 (F0 m 43 ls []) := by
            intro n
            induction n with
            | zero => intro x3_43 x5_43 H locs ls hm; cases hm
            | succ n ih_43 =>
              intro x3_43 x5_43 H locs ls hm hR hS hl
              obtain ⟨z_43, hm, hz1_43, hz2_43⟩ := ss_lps hm
              have J_76 : ∀ (x5_76 : Int32) (s0_76 : Int32) (s1_76 : Int32) (H : Heap) (locs : List Loc) (ls : Array Slot), mm_M_figure_j76 N this a1 a2 h x5_76 s0_76 s1_76 = some z_43 → ss_R G h H → va_S (ss_A G) s.heap H locs → lv_has ls 6 [(0, ss_v (ss_b G) this), (1, .int a1), (2, .int a2), (4, .int (-1 : Int32)), (5, .int x5_76)] → ww_M_figure p l e s m below meth c G this a1 a2 h rr  H locs 0 0 (F0 m 76 ls [.int s1_76, .int s0_76]) := by
                intro x5_76 s0_76 s1_76 H locs ls hm hR hS hl
                refine lv_ior hx hb dd_M_figure_76 ?_
                obtain ⟨v23, qv23, hm⟩ := ss_bind hm
                refine ss_topi qv23 ?_
                refine lv_istore_n (lv' := [(3, .int v23), (0, ss_v (ss_b G) this), (1, .int a1), (2, .int a2), (4, .int (-1 : Int32)), (5, .int x5_76)]) hx hb dd_M_figure_77 rfl hl (by decide) rfl (fun ls hl => ?_)
                obtain ⟨v24, qv24, hm⟩ := ss_bind hm
                refine lv_iinc (v := v24) (lv' := [(5, .int v24), (3, .int v23), (0, ss_v (ss_b G) this), (1, .int a1), (2, .int a2), (4, .int (-1 : Int32))]) hx hb dd_M_figure_78 hl (k := 5) rfl (ss_inc (by decide) qv24) (by decide) rfl (fun ls hl => ?_)
                refine lv_goto (tgt := 43) hx hb dd_M_figure_81 (by decide) ?_
                exact ih_43 v23 v24  _ _ _ (hz1_43 _ (ss_some hm)) hR hS (lv_sub hl [2, 3, 4, 1, 5, 0] rfl)
              refine lv_iload hx hb dd_M_figure_43 (lv_at hl 5 rfl) ?_
              refine ss_aload_n hx hb dd_M_figure_45 rfl (lv_at hl 0 rfl) ?_
              obtain ⟨r25, qr25, hm⟩ := ss_bind hm
              refine ss_getr hC hK hR kf_M_39 rfl qr25 dd_M_figure_46 ?_
              refine lv_iconst (v := 2) hx hb dd_M_figure_49 (by decide) ?_
              obtain ⟨v26, qv26, hm⟩ := ss_bind hm
              refine ss_iald hC hK hR qv26 dd_M_figure_50 ?_
              refine lv_icmp_ge (tgt := 84) hx hb dd_M_figure_51 (by decide) (fun c27 => ?_) (fun c27 => ?_)
              · have hm := ss_ift hm c27
                exact X_43_84 x3_43  _ _ _ (hz2_43 _ (ss_some hm)) hR hS (lv_sub hl [0, 1, 2, 3, 4] rfl)
              · have hm := ss_iff hm c27
                refine lv_iload_n hx hb dd_M_figure_54 rfl (lv_at hl 3 rfl) ?_
                refine ss_aload_n hx hb dd_M_figure_55 rfl (lv_at hl 0 rfl) ?_
                obtain ⟨r28, qr28, hm⟩ := ss_bind hm
                refine ss_getr hC hK hR kf_M_39 rfl qr28 dd_M_figure_56 ?_
                refine lv_bipush (v := 14) hx hb dd_M_figure_59 (by decide) ?_
                refine lv_iload hx hb dd_M_figure_61 (lv_at hl 5 rfl) ?_
                refine lv_iadd hx hb dd_M_figure_63 ?_
                obtain ⟨v29, qv29, hm⟩ := ss_bind hm
                refine ss_iald hC hK hR qv29 dd_M_figure_64 ?_
                refine lv_if_le (tgt := 75) hx hb dd_M_figure_65 (by decide) (fun c30 => ?_) (fun c30 => ?_)
                · have hm := ss_ift hm c30
                  refine lv_iconst (v := 0) hx hb dd_M_figure_75 (by decide) ?_
                  exact J_76 x5_43 x3_43 (0 : Int32)  _ _ _ hm hR hS (lv_sub hl [0, 1, 2, 4, 5] rfl)
                · have hm := ss_iff hm c30
                  refine lv_iconst (v := 1) hx hb dd_M_figure_68 (by decide) ?_
                  refine lv_iload hx hb dd_M_figure_69 (lv_at hl 5 rfl) ?_
                  refine lv_ishl hx hb dd_M_figure_71 ?_
                  refine lv_goto (tgt := 76) hx hb dd_M_figure_72 (by decide) ?_
                  exact J_76 x5_43 x3_43 ((1 : Int32) <<< (x5_43 &&& 31))  _ _ _ hm hR hS (lv_sub hl [0, 1, 2, 4, 5] rfl)
          exact L_43 N (0 : Int32) (0 : Int32) _ _ _ he_43 hR hS (lv_sub hl [3, 4, 5, 2, 1, 0] rfl)
        · have hm := ss_ift hm c8
          exact J_33  _ _ _ hm hR hS (lv_sub hl [] rfl)
theorem dd_M_priceOf_0 : decode bb_M_priceOf 0 = .ok (.aload_n 0, 1) := by decide +kernel
theorem dd_M_priceOf_1 : decode bb_M_priceOf 1 = .ok (.iload_n 1, 1) := by decide +kernel
theorem dd_M_priceOf_2 : decode bb_M_priceOf 2 = .ok (.invokevirtual 307, 3) := by decide +kernel
theorem dd_M_priceOf_5 : decode bb_M_priceOf 5 = .ok (.ifCond .eq 8, 3) := by decide +kernel
theorem dd_M_priceOf_8 : decode bb_M_priceOf 8 = .ok (.bipush 101, 2) := by decide +kernel
theorem dd_M_priceOf_10 : decode bb_M_priceOf 10 = .ok (.goto 4, 3) := by decide +kernel
theorem dd_M_priceOf_13 : decode bb_M_priceOf 13 = .ok (.iconst 1, 1) := by decide +kernel
theorem dd_M_priceOf_14 : decode bb_M_priceOf 14 = .ok (.ireturn, 1) := by decide +kernel
def mm_M_priceOf_j14 (N : Nat) (this : Option Nat) (a1 : Int32) (h : ss_Hp) (s0_14 : Int32) : Option Int32 :=
  some s0_14
def mm_M_priceOf (N : Nat) (this : Option Nat) (a1 : Int32) (h : ss_Hp) : Option Int32 :=
  if ss_is h this 12 = true then
    (mm_M_isClosed N this a1 h).bind fun v1 =>
    if v1 = 0 then
      mm_M_priceOf_j14 N this a1 h (1 : Int32)
    else
      mm_M_priceOf_j14 N this a1 h (101 : Int32)
  else none
abbrev ww_M_priceOf (p : Program) (l : Launch) (e : Env) (s : State) (m : MethodId) (below : List Frame) (meth : Method) (c : Code) (G : ss_G) (this : Option Nat) (a1 : Int32) (h : ss_Hp) (rr : Int32) (H : Heap) (locs : List Loc) (k n : Nat) (g : JFrame) : Prop := W p l e (headSpec (ss_w yy_M_priceOf bb_M_priceOf 2 (some (.int))) ({ frames := 1, cells := 0, slots := 0, locals := 21 })).room s m ([ss_v (ss_b G) this, .int a1] : List Value).toArray below meth c H locs k n (MQ below (ss_Qc G (some (.int rr)) h) ([ss_v (ss_b G) this, .int a1] : List Value).toArray s 0 0 (ss_A G)) g
theorem ck_M_priceOf {N : Nat} {this : Option Nat} {a1 : Int32} {h : ss_Hp} {res : Int32} (hm : mm_M_priceOf N this a1 h = some res) : ss_is h this 12 = true := (ss_chk hm).1
set_option maxHeartbeats 4000000 in
set_option maxRecDepth 100000 in
theorem cc_M_priceOf (l : Launch) (G : ss_G) (N : Nat) (this : Option Nat) (a1 : Int32) (h : ss_Hp) (rr : Int32) (hm : mm_M_priceOf N this a1 h = some rr) : ss_Ct l G yy_M_priceOf bb_M_priceOf 2 (some (.int)) ({ frames := 1, cells := 0, slots := 0, locals := 21 }) [ss_v (ss_b G) this, .int a1] h (some (.int rr)) h := by
  obtain ⟨hck, hm⟩ := ss_chk hm
  refine Met.ofW (cc := bb_M_priceOf) (maxL := 2) (ret := (some (.int))) (by decide) rfl ?_
  intro p e s m args below meth c s₁ B hml hv
  obtain ⟨rfl, hR, hK⟩ := hv
  have hC : CallFix p m c bb_M_priceOf 2 s _ lw_g sR_12 := ⟨B.exec, B.bytes, hml, findClass_of_methodNamed B.named, fun w hw => atoms_spec (ws := ss_w yy_M_priceOf bb_M_priceOf 2 (some (.int))) B.pre w (List.mem_cons_of_mem _ hw)⟩
  have hx := hC.1
  have hb := hC.2.1
  have hr := B.returns
  have hlocks := B.notSynchronized
  have hS : va_S (ss_A G) s.heap s.heap [] := va_S.rf
  have hl := lv_entry ([ss_v (ss_b G) this, .int a1]) (n := 2) (by simp [lg_sl, ss_v_cat, ss_cat_i, ss_cat_l, ss_cat_r])
  rw [lg_entry_eq]
  generalize (lg_sl ([ss_v (ss_b G) this, .int a1]) ++ List.replicate (2 - (lg_sl ([ss_v (ss_b G) this, .int a1])).length) Slot.unset).toArray = ls at hl ⊢
  have hl : lv_has ls 2 [(0, ss_v (ss_b G) this), (1, .int a1)] := by simpa [lv_args, ss_v_cat, ss_cat_i, ss_cat_l, ss_cat_r] using hl
  have J_14 : ∀ (s0_14 : Int32) (H : Heap) (locs : List Loc) (ls : Array Slot), mm_M_priceOf_j14 N this a1 h s0_14 = some rr → ss_R G h H → va_S (ss_A G) s.heap H locs → lv_has ls 2 [] → ww_M_priceOf p l e s m below meth c G this a1 h rr  H locs 0 0 (F0 m 14 ls [.int s0_14]) := by
    intro s0_14 H locs ls hm hR hS hl
    exact ss_iret hC hr hlocks hR hS (ss_with _ hm) dd_M_priceOf_14
  refine ss_aload_n hx hb dd_M_priceOf_0 rfl (lv_at hl 0 rfl) ?_
  refine lv_iload_n hx hb dd_M_priceOf_1 rfl (lv_at hl 1 rfl) ?_
  obtain ⟨v1, qv1, hm⟩ := ss_bind hm
  refine ss_cV 0 0 (As := [.int a1]) hC hK hR hS hl.1 (cc_M_isClosed l G N _ _ _ _ qv1) km_M_307 (ck_M_isClosed qv1) ⟨Nat.le_of_ble_eq_true rfl, Nat.le_of_ble_eq_true rfl⟩ ⟨Nat.le_of_ble_eq_true rfl, Nat.le_of_ble_eq_true rfl, Nat.le_of_ble_eq_true rfl, Nat.le_of_ble_eq_true rfl⟩ rfl rfl (Nat.le_of_ble_eq_true rfl) dd_M_priceOf_2 (fun H locs hR hS => ?_)
  refine lv_if_eq (tgt := 13) hx hb dd_M_priceOf_5 (by decide) (fun c2 => ?_) (fun c2 => ?_)
  · have hm := ss_ift hm c2
    refine lv_iconst (v := 1) hx hb dd_M_priceOf_13 (by decide) ?_
    exact J_14 (1 : Int32)  _ _ _ hm hR hS (lv_sub hl [] rfl)
  · have hm := ss_iff hm c2
    refine lv_bipush (v := 101) hx hb dd_M_priceOf_8 (by decide) ?_
    refine lv_goto (tgt := 14) hx hb dd_M_priceOf_10 (by decide) ?_
    exact J_14 (101 : Int32)  _ _ _ hm hR hS (lv_sub hl [] rfl)
theorem dd_M_nextTo_0 : decode bb_M_nextTo 0 = .ok (.iconst (-1), 1) := by decide +kernel
theorem dd_M_nextTo_1 : decode bb_M_nextTo 1 = .ok (.istore_n 2, 1) := by decide +kernel
theorem dd_M_nextTo_2 : decode bb_M_nextTo 2 = .ok (.iconst 0, 1) := by decide +kernel
theorem dd_M_nextTo_3 : decode bb_M_nextTo 3 = .ok (.istore_n 3, 1) := by decide +kernel
theorem dd_M_nextTo_4 : decode bb_M_nextTo 4 = .ok (.iload_n 3, 1) := by decide +kernel
theorem dd_M_nextTo_5 : decode bb_M_nextTo 5 = .ok (.aload_n 0, 1) := by decide +kernel
theorem dd_M_nextTo_6 : decode bb_M_nextTo 6 = .ok (.getfield 39, 3) := by decide +kernel
theorem dd_M_nextTo_9 : decode bb_M_nextTo 9 = .ok (.iconst 2, 1) := by decide +kernel
theorem dd_M_nextTo_10 : decode bb_M_nextTo 10 = .ok (.iaload, 1) := by decide +kernel
theorem dd_M_nextTo_11 : decode bb_M_nextTo 11 = .ok (.if_icmp .ge 58, 3) := by decide +kernel
theorem dd_M_nextTo_14 : decode bb_M_nextTo 14 = .ok (.aload_n 0, 1) := by decide +kernel
theorem dd_M_nextTo_15 : decode bb_M_nextTo 15 = .ok (.getfield 39, 3) := by decide +kernel
theorem dd_M_nextTo_18 : decode bb_M_nextTo 18 = .ok (.bipush 30, 2) := by decide +kernel
theorem dd_M_nextTo_20 : decode bb_M_nextTo 20 = .ok (.iload_n 1, 1) := by decide +kernel
theorem dd_M_nextTo_21 : decode bb_M_nextTo 21 = .ok (.iadd, 1) := by decide +kernel
theorem dd_M_nextTo_22 : decode bb_M_nextTo 22 = .ok (.iaload, 1) := by decide +kernel
theorem dd_M_nextTo_23 : decode bb_M_nextTo 23 = .ok (.iload_n 3, 1) := by decide +kernel
theorem dd_M_nextTo_24 : decode bb_M_nextTo 24 = .ok (.invokestatic 316, 3) := by decide +kernel
theorem dd_M_nextTo_27 : decode bb_M_nextTo 27 = .ok (.ifCond .eq 36, 3) := by decide +kernel
theorem dd_M_nextTo_30 : decode bb_M_nextTo 30 = .ok (.aload_n 0, 1) := by decide +kernel
theorem dd_M_nextTo_31 : decode bb_M_nextTo 31 = .ok (.getfield 61, 3) := by decide +kernel
theorem dd_M_nextTo_34 : decode bb_M_nextTo 34 = .ok (.iload_n 3, 1) := by decide +kernel
theorem dd_M_nextTo_35 : decode bb_M_nextTo 35 = .ok (.iaload, 1) := by decide +kernel
theorem dd_M_nextTo_36 : decode bb_M_nextTo 36 = .ok (.sipush 9999, 3) := by decide +kernel
theorem dd_M_nextTo_39 : decode bb_M_nextTo 39 = .ok (.if_icmp .ge 24, 3) := by decide +kernel
theorem dd_M_nextTo_42 : decode bb_M_nextTo 42 = .ok (.iload_n 2, 1) := by decide +kernel
theorem dd_M_nextTo_43 : decode bb_M_nextTo 43 = .ok (.ifCond .lt 18, 3) := by decide +kernel
theorem dd_M_nextTo_46 : decode bb_M_nextTo 46 = .ok (.aload_n 0, 1) := by decide +kernel
theorem dd_M_nextTo_47 : decode bb_M_nextTo 47 = .ok (.getfield 61, 3) := by decide +kernel
theorem dd_M_nextTo_50 : decode bb_M_nextTo 50 = .ok (.iload_n 3, 1) := by decide +kernel
theorem dd_M_nextTo_51 : decode bb_M_nextTo 51 = .ok (.iaload, 1) := by decide +kernel
theorem dd_M_nextTo_52 : decode bb_M_nextTo 52 = .ok (.aload_n 0, 1) := by decide +kernel
theorem dd_M_nextTo_53 : decode bb_M_nextTo 53 = .ok (.getfield 61, 3) := by decide +kernel
theorem dd_M_nextTo_56 : decode bb_M_nextTo 56 = .ok (.iload_n 2, 1) := by decide +kernel
theorem dd_M_nextTo_57 : decode bb_M_nextTo 57 = .ok (.iaload, 1) := by decide +kernel
theorem dd_M_nextTo_58 : decode bb_M_nextTo 58 = .ok (.if_icmp .ge 5, 3) := by decide +kernel
theorem dd_M_nextTo_61 : decode bb_M_nextTo 61 = .ok (.iload_n 3, 1) := by decide +kernel
theorem dd_M_nextTo_62 : decode bb_M_nextTo 62 = .ok (.istore_n 2, 1) := by decide +kernel
theorem dd_M_nextTo_63 : decode bb_M_nextTo 63 = .ok (.iinc 3 1, 3) := by decide +kernel
theorem dd_M_nextTo_66 : decode bb_M_nextTo 66 = .ok (.goto (-62), 3) := by decide +kernel
theorem dd_M_nextTo_69 : decode bb_M_nextTo 69 = .ok (.iload_n 2, 1) := by decide +kernel
theorem dd_M_nextTo_70 : decode bb_M_nextTo 70 = .ok (.ireturn, 1) := by decide +kernel
def mm_M_nextTo_j63 (N : Nat) (this : Option Nat) (a1 : Int32) (h : ss_Hp) (x2_63 : Int32) (x3_63 : Int32) : Option ((Int32 × Int32) ⊕ Int32) :=
  (some (x3_63 + (1 : Int32))).bind fun v1 =>
  some (.inl (x2_63, v1))
def mm_M_nextTo_j61 (N : Nat) (this : Option Nat) (a1 : Int32) (h : ss_Hp) (x3_61 : Int32) : Option ((Int32 × Int32) ⊕ Int32) :=
  mm_M_nextTo_j63 N this a1 h x3_61 x3_61
def mm_M_nextTo_b4 (N : Nat) (this : Option Nat) (a1 : Int32) (h : ss_Hp) (st : Int32 × Int32) : Option ((Int32 × Int32) ⊕ Int32) :=
  match st with
  | (x2_4, x3_4) =>
    (ss_gr h this 12 9).bind fun r2 =>
    (ss_ai h r2 20 (2 : Int32)).bind fun v3 =>
    if v3 ≤ x3_4 then
      some (.inr x2_4)
    else
      (ss_gr h this 12 9).bind fun r5 =>
      (ss_ai h r5 20 ((30 : Int32) + a1)).bind fun v6 =>
      (mm_M_isOf N v6 x3_4).bind fun v7 =>
      if v7 = 0 then
        mm_M_nextTo_j63 N this a1 h x2_4 x3_4
      else
        (ss_gr h this 12 15).bind fun r9 =>
        (ss_ai h r9 20 x3_4).bind fun v10 =>
        if (9999 : Int32) ≤ v10 then
          mm_M_nextTo_j63 N this a1 h x2_4 x3_4
        else
          if x2_4 < 0 then
            mm_M_nextTo_j61 N this a1 h x3_4
          else
            (ss_gr h this 12 15).bind fun r13 =>
            (ss_ai h r13 20 x3_4).bind fun v14 =>
            (ss_gr h this 12 15).bind fun r15 =>
            (ss_ai h r15 20 x2_4).bind fun v16 =>
            if v16 ≤ v14 then
              mm_M_nextTo_j63 N this a1 h x2_4 x3_4
            else
              mm_M_nextTo_j61 N this a1 h x3_4
def mm_M_nextTo (N : Nat) (this : Option Nat) (a1 : Int32) (h : ss_Hp) : Option Int32 :=
  if ss_is h this 12 = true then
    (ss_lp (mm_M_nextTo_b4 N this a1 h) N ((-1 : Int32), (0 : Int32))).bind fun y2_4_69 =>
    some y2_4_69
  else none
abbrev ww_M_nextTo (p : Program) (l : Launch) (e : Env) (s : State) (m : MethodId) (below : List Frame) (meth : Method) (c : Code) (G : ss_G) (this : Option Nat) (a1 : Int32) (h : ss_Hp) (rr : Int32) (H : Heap) (locs : List Loc) (k n : Nat) (g : JFrame) : Prop := W p l e (headSpec (ss_w yy_M_nextTo bb_M_nextTo 4 (some (.int))) ({ frames := 1, cells := 0, slots := 0, locals := 21 })).room s m ([ss_v (ss_b G) this, .int a1] : List Value).toArray below meth c H locs k n (MQ below (ss_Qc G (some (.int rr)) h) ([ss_v (ss_b G) this, .int a1] : List Value).toArray s 0 0 (ss_A G)) g
theorem ck_M_nextTo {N : Nat} {this : Option Nat} {a1 : Int32} {h : ss_Hp} {res : Int32} (hm : mm_M_nextTo N this a1 h = some res) : ss_is h this 12 = true := (ss_chk hm).1
set_option maxHeartbeats 4000000 in
set_option maxRecDepth 100000 in
theorem cc_M_nextTo (l : Launch) (G : ss_G) (N : Nat) (this : Option Nat) (a1 : Int32) (h : ss_Hp) (rr : Int32) (hm : mm_M_nextTo N this a1 h = some rr) : ss_Ct l G yy_M_nextTo bb_M_nextTo 4 (some (.int)) ({ frames := 1, cells := 0, slots := 0, locals := 21 }) [ss_v (ss_b G) this, .int a1] h (some (.int rr)) h := by
  obtain ⟨hck, hm⟩ := ss_chk hm
  refine Met.ofW (cc := bb_M_nextTo) (maxL := 4) (ret := (some (.int))) (by decide) rfl ?_
  intro p e s m args below meth c s₁ B hml hv
  obtain ⟨rfl, hR, hK⟩ := hv
  have hC : CallFix p m c bb_M_nextTo 4 s _ lw_g sR_12 := ⟨B.exec, B.bytes, hml, findClass_of_methodNamed B.named, fun w hw => atoms_spec (ws := ss_w yy_M_nextTo bb_M_nextTo 4 (some (.int))) B.pre w (List.mem_cons_of_mem _ hw)⟩
  have hx := hC.1
  have hb := hC.2.1
  have hr := B.returns
  have hlocks := B.notSynchronized
  have hS : va_S (ss_A G) s.heap s.heap [] := va_S.rf
  have hl := lv_entry ([ss_v (ss_b G) this, .int a1]) (n := 4) (by simp [lg_sl, ss_v_cat, ss_cat_i, ss_cat_l, ss_cat_r])
  rw [lg_entry_eq]
  generalize (lg_sl ([ss_v (ss_b G) this, .int a1]) ++ List.replicate (4 - (lg_sl ([ss_v (ss_b G) this, .int a1])).length) Slot.unset).toArray = ls at hl ⊢
  have hl : lv_has ls 4 [(0, ss_v (ss_b G) this), (1, .int a1)] := by simpa [lv_args, ss_v_cat, ss_cat_i, ss_cat_l, ss_cat_r] using hl
  refine lv_iconst (v := -1) hx hb dd_M_nextTo_0 (by decide) ?_
  refine lv_istore_n (lv' := [(2, .int (-1 : Int32)), (0, ss_v (ss_b G) this), (1, .int a1)]) hx hb dd_M_nextTo_1 rfl hl (by decide) rfl (fun ls hl => ?_)
  refine lv_iconst (v := 0) hx hb dd_M_nextTo_2 (by decide) ?_
  refine lv_istore_n (lv' := [(3, .int (0 : Int32)), (2, .int (-1 : Int32)), (0, ss_v (ss_b G) this), (1, .int a1)]) hx hb dd_M_nextTo_3 rfl hl (by decide) rfl (fun ls hl => ?_)
  obtain ⟨e_4, he_4, hm⟩ := ss_bind hm
  have X_4_69 : ∀ (y2_4_69 : Int32) (H : Heap) (locs : List Loc) (ls : Array Slot), e_4 = y2_4_69 → ss_R G h H → va_S (ss_A G) s.heap H locs → lv_has ls 4 [(2, .int y2_4_69)] → ww_M_nextTo p l e s m below meth c G this a1 h rr  H locs 0 0 (F0 m 69 ls []) := by
    intro y2_4_69 H locs ls hq hR hS hl
    rw [hq] at hm
    refine lv_iload_n hx hb dd_M_nextTo_69 rfl (lv_at hl 0 rfl) ?_
    exact ss_iret hC hr hlocks hR hS (ss_with _ hm) dd_M_nextTo_70
  have L_4 : ∀ (n : Nat) (x2_4 : Int32) (x3_4 : Int32) (H : Heap) (locs : List Loc) (ls : Array Slot), ss_lp (mm_M_nextTo_b4 N this a1 h) n (x2_4, x3_4) = some e_4 → ss_R G h H → va_S (ss_A G) s.heap H locs → lv_has ls 4 [(0, ss_v (ss_b G) this), (1, .int a1), (2, .int x2_4), (3, .int x3_4)] → ww_M_nextTo p l e s m below meth c G this a1 h rr  H locs 0 0 (F0 m 4 ls []) := by
    intro n
    induction n with
    | zero => intro x2_4 x3_4 H locs ls hm; cases hm
    | succ n ih_4 =>
      intro x2_4 x3_4 H locs ls hm hR hS hl
      obtain ⟨z_4, hm, hz1_4, hz2_4⟩ := ss_lps hm
      have J_63 : ∀ (x2_63 : Int32) (x3_63 : Int32) (H : Heap) (locs : List Loc) (ls : Array Slot), mm_M_nextTo_j63 N this a1 h x2_63 x3_63 = some z_4 → ss_R G h H → va_S (ss_A G) s.heap H locs → lv_has ls 4 [(0, ss_v (ss_b G) this), (1, .int a1), (2, .int x2_63), (3, .int x3_63)] → ww_M_nextTo p l e s m below meth c G this a1 h rr  H locs 0 0 (F0 m 63 ls []) := by
        intro x2_63 x3_63 H locs ls hm hR hS hl
        obtain ⟨v1, qv1, hm⟩ := ss_bind hm
        refine lv_iinc (v := v1) (lv' := [(3, .int v1), (0, ss_v (ss_b G) this), (1, .int a1), (2, .int x2_63)]) hx hb dd_M_nextTo_63 hl (k := 3) rfl (ss_inc (by decide) qv1) (by decide) rfl (fun ls hl => ?_)
        refine lv_goto (tgt := 4) hx hb dd_M_nextTo_66 (by decide) ?_
        exact ih_4 x2_63 v1  _ _ _ (hz1_4 _ (ss_some hm)) hR hS (lv_sub hl [1, 2, 3, 0] rfl)
      have J_61 : ∀ (x3_61 : Int32) (H : Heap) (locs : List Loc) (ls : Array Slot), mm_M_nextTo_j61 N this a1 h x3_61 = some z_4 → ss_R G h H → va_S (ss_A G) s.heap H locs → lv_has ls 4 [(0, ss_v (ss_b G) this), (1, .int a1), (3, .int x3_61)] → ww_M_nextTo p l e s m below meth c G this a1 h rr  H locs 0 0 (F0 m 61 ls []) := by
        intro x3_61 H locs ls hm hR hS hl
        refine lv_iload_n hx hb dd_M_nextTo_61 rfl (lv_at hl 2 rfl) ?_
        refine lv_istore_n (lv' := [(2, .int x3_61), (0, ss_v (ss_b G) this), (1, .int a1), (3, .int x3_61)]) hx hb dd_M_nextTo_62 rfl hl (by decide) rfl (fun ls hl => ?_)
        exact J_63 x3_61 x3_61  _ _ _ hm hR hS (lv_sub hl [1, 2, 0, 3] rfl)
      refine lv_iload_n hx hb dd_M_nextTo_4 rfl (lv_at hl 3 rfl) ?_
      refine ss_aload_n hx hb dd_M_nextTo_5 rfl (lv_at hl 0 rfl) ?_
      obtain ⟨r2, qr2, hm⟩ := ss_bind hm
      refine ss_getr hC hK hR kf_M_39 rfl qr2 dd_M_nextTo_6 ?_
      refine lv_iconst (v := 2) hx hb dd_M_nextTo_9 (by decide) ?_
      obtain ⟨v3, qv3, hm⟩ := ss_bind hm
      refine ss_iald hC hK hR qv3 dd_M_nextTo_10 ?_
      refine lv_icmp_ge (tgt := 69) hx hb dd_M_nextTo_11 (by decide) (fun c4 => ?_) (fun c4 => ?_)
      · have hm := ss_ift hm c4
        exact X_4_69 x2_4  _ _ _ (hz2_4 _ (ss_some hm)) hR hS (lv_sub hl [2] rfl)
      · have hm := ss_iff hm c4
        refine ss_aload_n hx hb dd_M_nextTo_14 rfl (lv_at hl 0 rfl) ?_
        obtain ⟨r5, qr5, hm⟩ := ss_bind hm
        refine ss_getr hC hK hR kf_M_39 rfl qr5 dd_M_nextTo_15 ?_
        refine lv_bipush (v := 30) hx hb dd_M_nextTo_18 (by decide) ?_
        refine lv_iload_n hx hb dd_M_nextTo_20 rfl (lv_at hl 1 rfl) ?_
        refine lv_iadd hx hb dd_M_nextTo_21 ?_
        obtain ⟨v6, qv6, hm⟩ := ss_bind hm
        refine ss_iald hC hK hR qv6 dd_M_nextTo_22 ?_
        refine lv_iload_n hx hb dd_M_nextTo_23 rfl (lv_at hl 3 rfl) ?_
        obtain ⟨v7, qv7, hm⟩ := ss_bind hm
        refine ss_cS 0 0 (As := [.int v6, .int x3_4]) hC hK hR hS hl.1 (cc_M_isOf l G N _ _ _ _ qv7) km_M_316 ⟨Nat.le_of_ble_eq_true rfl, Nat.le_of_ble_eq_true rfl⟩ ⟨Nat.le_of_ble_eq_true rfl, Nat.le_of_ble_eq_true rfl, Nat.le_of_ble_eq_true rfl, Nat.le_of_ble_eq_true rfl⟩ rfl rfl (Nat.le_of_ble_eq_true rfl) dd_M_nextTo_24 (fun H locs hR hS => ?_)
        refine lv_if_eq (tgt := 63) hx hb dd_M_nextTo_27 (by decide) (fun c8 => ?_) (fun c8 => ?_)
        · have hm := ss_ift hm c8
          exact J_63 x2_4 x3_4  _ _ _ hm hR hS hl
        · have hm := ss_iff hm c8
          refine ss_aload_n hx hb dd_M_nextTo_30 rfl (lv_at hl 0 rfl) ?_
          obtain ⟨r9, qr9, hm⟩ := ss_bind hm
          refine ss_getr hC hK hR kf_M_61 rfl qr9 dd_M_nextTo_31 ?_
          refine lv_iload_n hx hb dd_M_nextTo_34 rfl (lv_at hl 3 rfl) ?_
          obtain ⟨v10, qv10, hm⟩ := ss_bind hm
          refine ss_iald hC hK hR qv10 dd_M_nextTo_35 ?_
          refine lv_sipush (v := 9999) hx hb dd_M_nextTo_36 (by decide) ?_
          refine lv_icmp_ge (tgt := 63) hx hb dd_M_nextTo_39 (by decide) (fun c11 => ?_) (fun c11 => ?_)
          · have hm := ss_ift hm c11
            exact J_63 x2_4 x3_4  _ _ _ hm hR hS hl
          · have hm := ss_iff hm c11
            refine lv_iload_n hx hb dd_M_nextTo_42 rfl (lv_at hl 2 rfl) ?_
            refine lv_if_lt (tgt := 61) hx hb dd_M_nextTo_43 (by decide) (fun c12 => ?_) (fun c12 => ?_)
            · have hm := ss_ift hm c12
              exact J_61 x3_4  _ _ _ hm hR hS (lv_sub hl [0, 1, 3] rfl)
            · have hm := ss_iff hm c12
              refine ss_aload_n hx hb dd_M_nextTo_46 rfl (lv_at hl 0 rfl) ?_
              obtain ⟨r13, qr13, hm⟩ := ss_bind hm
              refine ss_getr hC hK hR kf_M_61 rfl qr13 dd_M_nextTo_47 ?_
              refine lv_iload_n hx hb dd_M_nextTo_50 rfl (lv_at hl 3 rfl) ?_
              obtain ⟨v14, qv14, hm⟩ := ss_bind hm
              refine ss_iald hC hK hR qv14 dd_M_nextTo_51 ?_
              refine ss_aload_n hx hb dd_M_nextTo_52 rfl (lv_at hl 0 rfl) ?_
              obtain ⟨r15, qr15, hm⟩ := ss_bind hm
              refine ss_getr hC hK hR kf_M_61 rfl qr15 dd_M_nextTo_53 ?_
              refine lv_iload_n hx hb dd_M_nextTo_56 rfl (lv_at hl 2 rfl) ?_
              obtain ⟨v16, qv16, hm⟩ := ss_bind hm
              refine ss_iald hC hK hR qv16 dd_M_nextTo_57 ?_
              refine lv_icmp_ge (tgt := 63) hx hb dd_M_nextTo_58 (by decide) (fun c17 => ?_) (fun c17 => ?_)
              · have hm := ss_ift hm c17
                exact J_63 x2_4 x3_4  _ _ _ hm hR hS hl
              · have hm := ss_iff hm c17
                exact J_61 x3_4  _ _ _ hm hR hS (lv_sub hl [0, 1, 3] rfl)
  exact L_4 N (-1 : Int32) (0 : Int32) _ _ _ he_4 hR hS (lv_sub hl [2, 3, 1, 0] rfl)
