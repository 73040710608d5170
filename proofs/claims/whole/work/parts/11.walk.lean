theorem dd_T_open_0 : decode bb_T_open 0 = .ok (.aload_n 0, 1) := by decide +kernel
theorem dd_T_open_1 : decode bb_T_open 1 = .ok (.iconst 0, 1) := by decide +kernel
theorem dd_T_open_2 : decode bb_T_open 2 = .ok (.putfield 19, 3) := by decide +kernel
theorem dd_T_open_5 : decode bb_T_open 5 = .ok (.aload_n 0, 1) := by decide +kernel
theorem dd_T_open_6 : decode bb_T_open 6 = .ok (.iconst 0, 1) := by decide +kernel
theorem dd_T_open_7 : decode bb_T_open 7 = .ok (.putfield 22, 3) := by decide +kernel
theorem dd_T_open_10 : decode bb_T_open 10 = .ok (.aload_n 0, 1) := by decide +kernel
theorem dd_T_open_11 : decode bb_T_open 11 = .ok (.invokevirtual 25, 3) := by decide +kernel
theorem dd_T_open_14 : decode bb_T_open 14 = .ok (.return_, 1) := by decide +kernel
def mm_T_open (N : Nat) (this : Option Nat) (h : ss_Hp) : Option ss_Hp :=
  if ss_is h this 2 = true then
    (ss_pi h this 2 1 (0 : Int32)).bind fun h1 =>
    (ss_pi h1 this 2 4 (0 : Int32)).bind fun h2 =>
    (mm_T_advance N this h2).bind fun h3 =>
    some h3
  else none
abbrev ww_T_open (p : Program) (l : Launch) (e : Env) (s : State) (m : MethodId) (below : List Frame) (meth : Method) (c : Code) (G : ss_G) (this : Option Nat) (h : ss_Hp) (hh : ss_Hp) (H : Heap) (locs : List Loc) (k n : Nat) (g : JFrame) : Prop := W p l e (headSpec (ss_w yy_T_open bb_T_open 1 none) ({ frames := 2, cells := 0, slots := 0, locals := 42 })).room s m ([ss_v (ss_b G) this] : List Value).toArray below meth c H locs k n (MQ below (ss_Qc G none hh) ([ss_v (ss_b G) this] : List Value).toArray s 0 0 (ss_A G)) g
theorem ck_T_open {N : Nat} {this : Option Nat} {h : ss_Hp} {res : ss_Hp} (hm : mm_T_open N this h = some res) : ss_is h this 2 = true := (ss_chk hm).1
set_option maxHeartbeats 4000000 in
set_option maxRecDepth 100000 in
theorem cc_T_open (l : Launch) (G : ss_G) (N : Nat) (this : Option Nat) (h : ss_Hp) (hh : ss_Hp) (hm : mm_T_open N this h = some hh) : ss_Ct l G yy_T_open bb_T_open 1 none ({ frames := 2, cells := 0, slots := 0, locals := 42 }) [ss_v (ss_b G) this] h none hh := by
  obtain ⟨hck, hm⟩ := ss_chk hm
  refine Met.ofW (cc := bb_T_open) (maxL := 1) (ret := none) (by decide) rfl ?_
  intro p e s m args below meth c s₁ B hml hv
  obtain ⟨rfl, hR, hK⟩ := hv
  have hC : CallFix p m c bb_T_open 1 s _ lw_g sR_2 := ⟨B.exec, B.bytes, hml, findClass_of_methodNamed B.named, fun w hw => atoms_spec (ws := ss_w yy_T_open bb_T_open 1 none) B.pre w (List.mem_cons_of_mem _ hw)⟩
  have hx := hC.1
  have hb := hC.2.1
  have hr := B.returns
  have hlocks := B.notSynchronized
  have hS : va_S (ss_A G) s.heap s.heap [] := va_S.rf
  have hl := lv_entry ([ss_v (ss_b G) this]) (n := 1) (by simp [lg_sl, ss_v_cat, ss_cat_i, ss_cat_l, ss_cat_r])
  rw [lg_entry_eq]
  generalize (lg_sl ([ss_v (ss_b G) this]) ++ List.replicate (1 - (lg_sl ([ss_v (ss_b G) this])).length) Slot.unset).toArray = ls at hl ⊢
  have hl : lv_has ls 1 [(0, ss_v (ss_b G) this)] := by simpa [lv_args, ss_v_cat, ss_cat_i, ss_cat_l, ss_cat_r] using hl
  refine ss_aload_n hx hb dd_T_open_0 rfl (lv_at hl 0 rfl) ?_
  refine lv_iconst (v := 0) hx hb dd_T_open_1 (by decide) ?_
  obtain ⟨h1, qh1, hm⟩ := ss_bind hm
  refine ss_puti hC hK hR hS kp_T_19 qh1 dd_T_open_2 (fun H locs hR hS => ?_)
  refine ss_aload_n hx hb dd_T_open_5 rfl (lv_at hl 0 rfl) ?_
  refine lv_iconst (v := 0) hx hb dd_T_open_6 (by decide) ?_
  obtain ⟨h2, qh2, hm⟩ := ss_bind hm
  refine ss_puti hC hK hR hS kp_T_22 qh2 dd_T_open_7 (fun H locs hR hS => ?_)
  refine ss_aload_n hx hb dd_T_open_10 rfl (lv_at hl 0 rfl) ?_
  obtain ⟨h3, qh3, hm⟩ := ss_bind hm
  refine ss_cVv 0 0 (As := []) hC hK hR hS hl.1 (cc_T_advance l G N _ _ _ qh3) km_T_25 (ck_T_advance qh3) ⟨Nat.le_of_ble_eq_true rfl, Nat.le_of_ble_eq_true rfl⟩ ⟨Nat.le_of_ble_eq_true rfl, Nat.le_of_ble_eq_true rfl, Nat.le_of_ble_eq_true rfl, Nat.le_of_ble_eq_true rfl⟩ rfl rfl (Nat.le_of_ble_eq_true rfl) dd_T_open_11 (fun H locs hR hS => ?_)
  exact ss_vret hC hr hlocks hR hS hm dd_T_open_14
theorem dd_T_wordIn_0 : decode bb_T_wordIn 0 = .ok (.iconst 0, 1) := by decide +kernel
theorem dd_T_wordIn_1 : decode bb_T_wordIn 1 = .ok (.istore_n 2, 1) := by decide +kernel
theorem dd_T_wordIn_2 : decode bb_T_wordIn 2 = .ok (.aload_n 0, 1) := by decide +kernel
theorem dd_T_wordIn_3 : decode bb_T_wordIn 3 = .ok (.getfield 28, 3) := by decide +kernel
theorem dd_T_wordIn_6 : decode bb_T_wordIn 6 = .ok (.istore_n 3, 1) := by decide +kernel
theorem dd_T_wordIn_7 : decode bb_T_wordIn 7 = .ok (.iconst 1, 1) := by decide +kernel
theorem dd_T_wordIn_8 : decode bb_T_wordIn 8 = .ok (.istore 4, 2) := by decide +kernel
theorem dd_T_wordIn_10 : decode bb_T_wordIn 10 = .ok (.iconst 0, 1) := by decide +kernel
theorem dd_T_wordIn_11 : decode bb_T_wordIn 11 = .ok (.istore 5, 2) := by decide +kernel
theorem dd_T_wordIn_13 : decode bb_T_wordIn 13 = .ok (.iload 5, 2) := by decide +kernel
theorem dd_T_wordIn_15 : decode bb_T_wordIn 15 = .ok (.aload_n 1, 1) := by decide +kernel
theorem dd_T_wordIn_16 : decode bb_T_wordIn 16 = .ok (.invokevirtual 41, 3) := by decide +kernel
theorem dd_T_wordIn_19 : decode bb_T_wordIn 19 = .ok (.if_icmp .gt 121, 3) := by decide +kernel
theorem dd_T_wordIn_22 : decode bb_T_wordIn 22 = .ok (.aload_n 0, 1) := by decide +kernel
theorem dd_T_wordIn_23 : decode bb_T_wordIn 23 = .ok (.getfield 31, 3) := by decide +kernel
theorem dd_T_wordIn_26 : decode bb_T_wordIn 26 = .ok (.iconst 1, 1) := by decide +kernel
theorem dd_T_wordIn_27 : decode bb_T_wordIn 27 = .ok (.if_icmp .ne 113, 3) := by decide +kernel
theorem dd_T_wordIn_30 : decode bb_T_wordIn 30 = .ok (.iload 5, 2) := by decide +kernel
theorem dd_T_wordIn_32 : decode bb_T_wordIn 32 = .ok (.aload_n 1, 1) := by decide +kernel
theorem dd_T_wordIn_33 : decode bb_T_wordIn 33 = .ok (.invokevirtual 41, 3) := by decide +kernel
theorem dd_T_wordIn_36 : decode bb_T_wordIn 36 = .ok (.if_icmp .eq 14, 3) := by decide +kernel
theorem dd_T_wordIn_39 : decode bb_T_wordIn 39 = .ok (.aload_n 1, 1) := by decide +kernel
theorem dd_T_wordIn_40 : decode bb_T_wordIn 40 = .ok (.iload 5, 2) := by decide +kernel
theorem dd_T_wordIn_42 : decode bb_T_wordIn 42 = .ok (.invokevirtual 46, 3) := by decide +kernel
theorem dd_T_wordIn_45 : decode bb_T_wordIn 45 = .ok (.bipush 32, 2) := by decide +kernel
theorem dd_T_wordIn_47 : decode bb_T_wordIn 47 = .ok (.if_icmp .ne 7, 3) := by decide +kernel
theorem dd_T_wordIn_50 : decode bb_T_wordIn 50 = .ok (.iconst 1, 1) := by decide +kernel
theorem dd_T_wordIn_51 : decode bb_T_wordIn 51 = .ok (.goto 4, 3) := by decide +kernel
theorem dd_T_wordIn_54 : decode bb_T_wordIn 54 = .ok (.iconst 0, 1) := by decide +kernel
theorem dd_T_wordIn_55 : decode bb_T_wordIn 55 = .ok (.istore 6, 2) := by decide +kernel
theorem dd_T_wordIn_57 : decode bb_T_wordIn 57 = .ok (.iload 6, 2) := by decide +kernel
theorem dd_T_wordIn_59 : decode bb_T_wordIn 59 = .ok (.ifCond .eq 18, 3) := by decide +kernel
theorem dd_T_wordIn_62 : decode bb_T_wordIn 62 = .ok (.iload 4, 2) := by decide +kernel
theorem dd_T_wordIn_64 : decode bb_T_wordIn 64 = .ok (.ifCond .eq 13, 3) := by decide +kernel
theorem dd_T_wordIn_67 : decode bb_T_wordIn 67 = .ok (.iload_n 3, 1) := by decide +kernel
theorem dd_T_wordIn_68 : decode bb_T_wordIn 68 = .ok (.aload_n 0, 1) := by decide +kernel
theorem dd_T_wordIn_69 : decode bb_T_wordIn 69 = .ok (.getfield 22, 3) := by decide +kernel
theorem dd_T_wordIn_72 : decode bb_T_wordIn 72 = .ok (.if_icmp .ne 5, 3) := by decide +kernel
theorem dd_T_wordIn_75 : decode bb_T_wordIn 75 = .ok (.iload_n 2, 1) := by decide +kernel
theorem dd_T_wordIn_76 : decode bb_T_wordIn 76 = .ok (.ireturn, 1) := by decide +kernel
theorem dd_T_wordIn_77 : decode bb_T_wordIn 77 = .ok (.iload 6, 2) := by decide +kernel
theorem dd_T_wordIn_79 : decode bb_T_wordIn 79 = .ok (.ifCond .eq 17, 3) := by decide +kernel
theorem dd_T_wordIn_82 : decode bb_T_wordIn 82 = .ok (.iinc 2 1, 3) := by decide +kernel
theorem dd_T_wordIn_85 : decode bb_T_wordIn 85 = .ok (.aload_n 0, 1) := by decide +kernel
theorem dd_T_wordIn_86 : decode bb_T_wordIn 86 = .ok (.getfield 28, 3) := by decide +kernel
theorem dd_T_wordIn_89 : decode bb_T_wordIn 89 = .ok (.istore_n 3, 1) := by decide +kernel
theorem dd_T_wordIn_90 : decode bb_T_wordIn 90 = .ok (.iconst 1, 1) := by decide +kernel
theorem dd_T_wordIn_91 : decode bb_T_wordIn 91 = .ok (.istore 4, 2) := by decide +kernel
theorem dd_T_wordIn_93 : decode bb_T_wordIn 93 = .ok (.goto 41, 3) := by decide +kernel
theorem dd_T_wordIn_96 : decode bb_T_wordIn 96 = .ok (.iload 4, 2) := by decide +kernel
theorem dd_T_wordIn_98 : decode bb_T_wordIn 98 = .ok (.ifCond .eq 30, 3) := by decide +kernel
theorem dd_T_wordIn_101 : decode bb_T_wordIn 101 = .ok (.iload_n 3, 1) := by decide +kernel
theorem dd_T_wordIn_102 : decode bb_T_wordIn 102 = .ok (.aload_n 0, 1) := by decide +kernel
theorem dd_T_wordIn_103 : decode bb_T_wordIn 103 = .ok (.getfield 22, 3) := by decide +kernel
theorem dd_T_wordIn_106 : decode bb_T_wordIn 106 = .ok (.if_icmp .ge 22, 3) := by decide +kernel
theorem dd_T_wordIn_109 : decode bb_T_wordIn 109 = .ok (.aload_n 1, 1) := by decide +kernel
theorem dd_T_wordIn_110 : decode bb_T_wordIn 110 = .ok (.iload 5, 2) := by decide +kernel
theorem dd_T_wordIn_112 : decode bb_T_wordIn 112 = .ok (.invokevirtual 46, 3) := by decide +kernel
theorem dd_T_wordIn_115 : decode bb_T_wordIn 115 = .ok (.aload_n 0, 1) := by decide +kernel
theorem dd_T_wordIn_116 : decode bb_T_wordIn 116 = .ok (.getfield 11, 3) := by decide +kernel
theorem dd_T_wordIn_119 : decode bb_T_wordIn 119 = .ok (.iload_n 3, 1) := by decide +kernel
theorem dd_T_wordIn_120 : decode bb_T_wordIn 120 = .ok (.iaload, 1) := by decide +kernel
theorem dd_T_wordIn_121 : decode bb_T_wordIn 121 = .ok (.if_icmp .ne 7, 3) := by decide +kernel
theorem dd_T_wordIn_124 : decode bb_T_wordIn 124 = .ok (.iconst 1, 1) := by decide +kernel
theorem dd_T_wordIn_125 : decode bb_T_wordIn 125 = .ok (.goto 4, 3) := by decide +kernel
theorem dd_T_wordIn_128 : decode bb_T_wordIn 128 = .ok (.iconst 0, 1) := by decide +kernel
theorem dd_T_wordIn_129 : decode bb_T_wordIn 129 = .ok (.istore 4, 2) := by decide +kernel
theorem dd_T_wordIn_131 : decode bb_T_wordIn 131 = .ok (.iinc 3 1, 3) := by decide +kernel
theorem dd_T_wordIn_134 : decode bb_T_wordIn 134 = .ok (.iinc 5 1, 3) := by decide +kernel
theorem dd_T_wordIn_137 : decode bb_T_wordIn 137 = .ok (.goto (-124), 3) := by decide +kernel
theorem dd_T_wordIn_140 : decode bb_T_wordIn 140 = .ok (.iconst (-1), 1) := by decide +kernel
theorem dd_T_wordIn_141 : decode bb_T_wordIn 141 = .ok (.ireturn, 1) := by decide +kernel
def mm_T_wordIn_j134 (N : Nat) (this : Option Nat) (a1 : Nat) (h : ss_Hp) (x2_134 : Int32) (x3_134 : Int32) (x4_134 : Int32) (x5_134 : Int32) : Option ((Int32 × Int32 × Int32 × Int32) ⊕ (Unit ⊕ Int32)) :=
  (some (x5_134 + (1 : Int32))).bind fun v2 =>
  some (.inl (x2_134, x3_134, x4_134, v2))
def mm_T_wordIn_j129 (N : Nat) (this : Option Nat) (a1 : Nat) (h : ss_Hp) (x2_129 : Int32) (x3_129 : Int32) (x5_129 : Int32) (s0_129 : Int32) : Option ((Int32 × Int32 × Int32 × Int32) ⊕ (Unit ⊕ Int32)) :=
  (some (x3_129 + (1 : Int32))).bind fun v3 =>
  mm_T_wordIn_j134 N this a1 h x2_129 v3 s0_129 x5_129
def mm_T_wordIn_j128 (N : Nat) (this : Option Nat) (a1 : Nat) (h : ss_Hp) (x2_128 : Int32) (x3_128 : Int32) (x5_128 : Int32) : Option ((Int32 × Int32 × Int32 × Int32) ⊕ (Unit ⊕ Int32)) :=
  mm_T_wordIn_j129 N this a1 h x2_128 x3_128 x5_128 (0 : Int32)
def mm_T_wordIn_j77 (N : Nat) (this : Option Nat) (a1 : Nat) (h : ss_Hp) (x2_77 : Int32) (x3_77 : Int32) (x4_77 : Int32) (x5_77 : Int32) (x6_77 : Int32) : Option ((Int32 × Int32 × Int32 × Int32) ⊕ (Unit ⊕ Int32)) :=
  if x6_77 = 0 then
    if x4_77 = 0 then
      mm_T_wordIn_j128 N this a1 h x2_77 x3_77 x5_77
    else
      (ss_gi h this 2 4).bind fun v6 =>
      if v6 ≤ x3_77 then
        mm_T_wordIn_j128 N this a1 h x2_77 x3_77 x5_77
      else
        (ss_sc a1 x5_77).bind fun v8 =>
        (ss_gr h this 2 0).bind fun r9 =>
        (ss_ai h r9 20 x3_77).bind fun v10 =>
        if v8 = v10 then
          mm_T_wordIn_j129 N this a1 h x2_77 x3_77 x5_77 (1 : Int32)
        else
          mm_T_wordIn_j128 N this a1 h x2_77 x3_77 x5_77
  else
    (some (x2_77 + (1 : Int32))).bind fun v12 =>
    (ss_gi h this 2 3).bind fun v13 =>
    mm_T_wordIn_j134 N this a1 h v12 v13 (1 : Int32) x5_77
def mm_T_wordIn_j55 (N : Nat) (this : Option Nat) (a1 : Nat) (h : ss_Hp) (x2_55 : Int32) (x3_55 : Int32) (x4_55 : Int32) (x5_55 : Int32) (s0_55 : Int32) : Option ((Int32 × Int32 × Int32 × Int32) ⊕ (Unit ⊕ Int32)) :=
  if s0_55 = 0 then
    mm_T_wordIn_j77 N this a1 h x2_55 x3_55 x4_55 x5_55 s0_55
  else
    if x4_55 = 0 then
      mm_T_wordIn_j77 N this a1 h x2_55 x3_55 x4_55 x5_55 s0_55
    else
      (ss_gi h this 2 4).bind fun v16 =>
      if x3_55 = v16 then
        some (.inr (.inr x2_55))
      else
        mm_T_wordIn_j77 N this a1 h x2_55 x3_55 x4_55 x5_55 s0_55
def mm_T_wordIn_j50 (N : Nat) (this : Option Nat) (a1 : Nat) (h : ss_Hp) (x2_50 : Int32) (x3_50 : Int32) (x4_50 : Int32) (x5_50 : Int32) : Option ((Int32 × Int32 × Int32 × Int32) ⊕ (Unit ⊕ Int32)) :=
  mm_T_wordIn_j55 N this a1 h x2_50 x3_50 x4_50 x5_50 (1 : Int32)
def mm_T_wordIn_b13 (N : Nat) (this : Option Nat) (a1 : Nat) (h : ss_Hp) (st : Int32 × Int32 × Int32 × Int32) : Option ((Int32 × Int32 × Int32 × Int32) ⊕ (Unit ⊕ Int32)) :=
  match st with
  | (x2_13, x3_13, x4_13, x5_13) =>
    (ss_sl a1).bind fun v18 =>
    if v18 < x5_13 then
      some (.inr (.inl ()))
    else
      (ss_gi h this 2 2).bind fun v20 =>
      if v20 = (1 : Int32) then
        (ss_sl a1).bind fun v22 =>
        if x5_13 = v22 then
          mm_T_wordIn_j50 N this a1 h x2_13 x3_13 x4_13 x5_13
        else
          (ss_sc a1 x5_13).bind fun v24 =>
          if v24 = (32 : Int32) then
            mm_T_wordIn_j50 N this a1 h x2_13 x3_13 x4_13 x5_13
          else
            mm_T_wordIn_j55 N this a1 h x2_13 x3_13 x4_13 x5_13 (0 : Int32)
      else
        some (.inr (.inl ()))
def mm_T_wordIn (N : Nat) (this : Option Nat) (a1 : Nat) (h : ss_Hp) : Option Int32 :=
  if ss_is h this 2 = true then
    (ss_gi h this 2 3).bind fun v1 =>
    (ss_lp (mm_T_wordIn_b13 N this a1 h) N ((0 : Int32), v1, (1 : Int32), (0 : Int32))).bind fun e_13 =>
    match e_13 with
    | (.inl ()) =>
      some (-1 : Int32)
    | (.inr y2_13_75) =>
      some y2_13_75
  else none
abbrev ww_T_wordIn (p : Program) (l : Launch) (e : Env) (s : State) (m : MethodId) (below : List Frame) (meth : Method) (c : Code) (G : ss_G) (this : Option Nat) (a1 : Nat) (h : ss_Hp) (rr : Int32) (H : Heap) (locs : List Loc) (k n : Nat) (g : JFrame) : Prop := W p l e (headSpec (ss_w yy_T_wordIn bb_T_wordIn 7 (some (.int))) ({ frames := 8, cells := 0, slots := 0, locals := 200 })).room s m ([ss_v (ss_b G) this, .ref (G.2.2.2.1 a1)] : List Value).toArray below meth c H locs k n (MQ below (ss_Qc G (some (.int rr)) h) ([ss_v (ss_b G) this, .ref (G.2.2.2.1 a1)] : List Value).toArray s 0 0 (ss_A G)) g
theorem ck_T_wordIn {N : Nat} {this : Option Nat} {a1 : Nat} {h : ss_Hp} {res : Int32} (hm : mm_T_wordIn N this a1 h = some res) : ss_is h this 2 = true := (ss_chk hm).1
set_option maxHeartbeats 4000000 in
set_option maxRecDepth 100000 in
theorem cc_T_wordIn (l : Launch) (G : ss_G) (N : Nat) (this : Option Nat) (a1 : Nat) (h : ss_Hp) (rr : Int32) (hm : mm_T_wordIn N this a1 h = some rr) : ss_Ct l G yy_T_wordIn bb_T_wordIn 7 (some (.int)) ({ frames := 8, cells := 0, slots := 0, locals := 200 }) [ss_v (ss_b G) this, .ref (G.2.2.2.1 a1)] h (some (.int rr)) h := by
  obtain ⟨hck, hm⟩ := ss_chk hm
  refine Met.ofW (cc := bb_T_wordIn) (maxL := 7) (ret := (some (.int))) (by decide) rfl ?_
  intro p e s m args below meth c s₁ B hml hv
  obtain ⟨rfl, hR, hK⟩ := hv
  have hC : CallFix p m c bb_T_wordIn 7 s _ lw_g sR_2 := ⟨B.exec, B.bytes, hml, findClass_of_methodNamed B.named, fun w hw => atoms_spec (ws := ss_w yy_T_wordIn bb_T_wordIn 7 (some (.int))) B.pre w (List.mem_cons_of_mem _ hw)⟩
  have hx := hC.1
  have hb := hC.2.1
  have hr := B.returns
  have hlocks := B.notSynchronized
  have hS : va_S (ss_A G) s.heap s.heap [] := va_S.rf
  have hl := lv_entry ([ss_v (ss_b G) this, .ref (G.2.2.2.1 a1)]) (n := 7) (by simp [lg_sl, ss_v_cat, ss_cat_i, ss_cat_l, ss_cat_r])
  rw [lg_entry_eq]
  generalize (lg_sl ([ss_v (ss_b G) this, .ref (G.2.2.2.1 a1)]) ++ List.replicate (7 - (lg_sl ([ss_v (ss_b G) this, .ref (G.2.2.2.1 a1)])).length) Slot.unset).toArray = ls at hl ⊢
  have hl : lv_has ls 7 [(0, ss_v (ss_b G) this), (1, .ref (G.2.2.2.1 a1))] := by simpa [lv_args, ss_v_cat, ss_cat_i, ss_cat_l, ss_cat_r] using hl
  refine lv_iconst (v := 0) hx hb dd_T_wordIn_0 (by decide) ?_
  refine lv_istore_n (lv' := [(2, .int (0 : Int32)), (0, ss_v (ss_b G) this), (1, .ref (G.2.2.2.1 a1))]) hx hb dd_T_wordIn_1 rfl hl (by decide) rfl (fun ls hl => ?_)
  refine ss_aload_n hx hb dd_T_wordIn_2 rfl (lv_at hl 1 rfl) ?_
  obtain ⟨v1, qv1, hm⟩ := ss_bind hm
  refine ss_geti hC hK hR kf_T_28 qv1 dd_T_wordIn_3 ?_
  refine lv_istore_n (lv' := [(3, .int v1), (2, .int (0 : Int32)), (0, ss_v (ss_b G) this), (1, .ref (G.2.2.2.1 a1))]) hx hb dd_T_wordIn_6 rfl hl (by decide) rfl (fun ls hl => ?_)
  refine lv_iconst (v := 1) hx hb dd_T_wordIn_7 (by decide) ?_
  refine lv_istore (lv' := [(4, .int (1 : Int32)), (3, .int v1), (2, .int (0 : Int32)), (0, ss_v (ss_b G) this), (1, .ref (G.2.2.2.1 a1))]) hx hb dd_T_wordIn_8 hl (by decide) rfl (fun ls hl => ?_)
  refine lv_iconst (v := 0) hx hb dd_T_wordIn_10 (by decide) ?_
  refine lv_istore (lv' := [(5, .int (0 : Int32)), (4, .int (1 : Int32)), (3, .int v1), (2, .int (0 : Int32)), (0, ss_v (ss_b G) this), (1, .ref (G.2.2.2.1 a1))]) hx hb dd_T_wordIn_11 hl (by decide) rfl (fun ls hl => ?_)
  obtain ⟨e_13, he_13, hm⟩ := ss_bind hm
  have X_13_140 : ∀  (H : Heap) (locs : List Loc) (ls : Array Slot), e_13 = (.inl ()) → ss_R G h H → va_S (ss_A G) s.heap H locs → lv_has ls 7 [] → ww_T_wordIn p l e s m below meth c G this a1 h rr  H locs 0 0 (F0 m 140 ls []) := by
    intro  H locs ls hq hR hS hl
    rw [hq] at hm
    refine lv_iconst (v := -1) hx hb dd_T_wordIn_140 (by decide) ?_
    exact ss_iret hC hr hlocks hR hS (ss_with _ hm) dd_T_wordIn_141
  have X_13_75 : ∀ (y2_13_75 : Int32) (H : Heap) (locs : List Loc) (ls : Array Slot), e_13 = (.inr y2_13_75) → ss_R G h H → va_S (ss_A G) s.heap H locs → lv_has ls 7 [(2, .int y2_13_75)] → ww_T_wordIn p l e s m below meth c G this a1 h rr  H locs 0 0 (F0 m 75 ls []) := by
    intro y2_13_75 H locs ls hq hR hS hl
    rw [hq] at hm
    refine lv_iload_n hx hb dd_T_wordIn_75 rfl (lv_at hl 0 rfl) ?_
    exact ss_iret hC hr hlocks hR hS (ss_with _ hm) dd_T_wordIn_76
  have L_13 : ∀ (n : Nat) (x2_13 : Int32) (x3_13 : Int32) (x4_13 : Int32) (x5_13 : Int32) (H : Heap) (locs : List Loc) (ls : Array Slot), ss_lp (mm_T_wordIn_b13 N this a1 h) n (x2_13, x3_13, x4_13, x5_13) = some e_13 → ss_R G h H → va_S (ss_A G) s.heap H locs → lv_has ls 7 [(0, ss_v (ss_b G) this), (1, .ref (G.2.2.2.1 a1)), (2, .int x2_13), (3, .int x3_13), (4, .int x4_13), (5, .int x5_13)] → ww_T_wordIn p l e s m below meth c G this a1 h rr  H locs 0 0 (F0 m 13 ls []) := by
    intro n
    induction n with
    | zero => intro x2_13 x3_13 x4_13 x5_13 H locs ls hm; cases hm
    | succ n ih_13 =>
      intro x2_13 x3_13 x4_13 x5_13 H locs ls hm hR hS hl
      obtain ⟨z_13, hm, hz1_13, hz2_13⟩ := ss_lps hm
      have J_134 : ∀ (x2_134 : Int32) (x3_134 : Int32) (x4_134 : Int32) (x5_134 : Int32) (H : Heap) (locs : List Loc) (ls : Array Slot), mm_T_wordIn_j134 N this a1 h x2_134 x3_134 x4_134 x5_134 = some z_13 → ss_R G h H → va_S (ss_A G) s.heap H locs → lv_has ls 7 [(0, ss_v (ss_b G) this), (1, .ref (G.2.2.2.1 a1)), (2, .int x2_134), (3, .int x3_134), (4, .int x4_134), (5, .int x5_134)] → ww_T_wordIn p l e s m below meth c G this a1 h rr  H locs 0 0 (F0 m 134 ls []) := by
        intro x2_134 x3_134 x4_134 x5_134 H locs ls hm hR hS hl
        obtain ⟨v2, qv2, hm⟩ := ss_bind hm
        refine lv_iinc (v := v2) (lv' := [(5, .int v2), (0, ss_v (ss_b G) this), (1, .ref (G.2.2.2.1 a1)), (2, .int x2_134), (3, .int x3_134), (4, .int x4_134)]) hx hb dd_T_wordIn_134 hl (k := 5) rfl (ss_inc (by decide) qv2) (by decide) rfl (fun ls hl => ?_)
        refine lv_goto (tgt := 13) hx hb dd_T_wordIn_137 (by decide) ?_
        exact ih_13 x2_134 x3_134 x4_134 v2  _ _ _ (hz1_13 _ (ss_some hm)) hR hS (lv_sub hl [1, 2, 3, 4, 5, 0] rfl)
      have J_129 : ∀ (x2_129 : Int32) (x3_129 : Int32) (x5_129 : Int32) (s0_129 : Int32) (H : Heap) (locs : List Loc) (ls : Array Slot), mm_T_wordIn_j129 N this a1 h x2_129 x3_129 x5_129 s0_129 = some z_13 → ss_R G h H → va_S (ss_A G) s.heap H locs → lv_has ls 7 [(0, ss_v (ss_b G) this), (1, .ref (G.2.2.2.1 a1)), (2, .int x2_129), (3, .int x3_129), (5, .int x5_129)] → ww_T_wordIn p l e s m below meth c G this a1 h rr  H locs 0 0 (F0 m 129 ls [.int s0_129]) := by
        intro x2_129 x3_129 x5_129 s0_129 H locs ls hm hR hS hl
        refine lv_istore (lv' := [(4, .int s0_129), (0, ss_v (ss_b G) this), (1, .ref (G.2.2.2.1 a1)), (2, .int x2_129), (3, .int x3_129), (5, .int x5_129)]) hx hb dd_T_wordIn_129 hl (by decide) rfl (fun ls hl => ?_)
        obtain ⟨v3, qv3, hm⟩ := ss_bind hm
        refine lv_iinc (v := v3) (lv' := [(3, .int v3), (4, .int s0_129), (0, ss_v (ss_b G) this), (1, .ref (G.2.2.2.1 a1)), (2, .int x2_129), (5, .int x5_129)]) hx hb dd_T_wordIn_131 hl (k := 4) rfl (ss_inc (by decide) qv3) (by decide) rfl (fun ls hl => ?_)
        exact J_134 x2_129 v3 s0_129 x5_129  _ _ _ hm hR hS (lv_sub hl [2, 3, 4, 0, 1, 5] rfl)
      have J_128 : ∀ (x2_128 : Int32) (x3_128 : Int32) (x5_128 : Int32) (H : Heap) (locs : List Loc) (ls : Array Slot), mm_T_wordIn_j128 N this a1 h x2_128 x3_128 x5_128 = some z_13 → ss_R G h H → va_S (ss_A G) s.heap H locs → lv_has ls 7 [(0, ss_v (ss_b G) this), (1, .ref (G.2.2.2.1 a1)), (2, .int x2_128), (3, .int x3_128), (5, .int x5_128)] → ww_T_wordIn p l e s m below meth c G this a1 h rr  H locs 0 0 (F0 m 128 ls []) := by
        intro x2_128 x3_128 x5_128 H locs ls hm hR hS hl
        refine lv_iconst (v := 0) hx hb dd_T_wordIn_128 (by decide) ?_
        exact J_129 x2_128 x3_128 x5_128 (0 : Int32)  _ _ _ hm hR hS hl
      have J_77 : ∀ (x2_77 : Int32) (x3_77 : Int32) (x4_77 : Int32) (x5_77 : Int32) (x6_77 : Int32) (H : Heap) (locs : List Loc) (ls : Array Slot), mm_T_wordIn_j77 N this a1 h x2_77 x3_77 x4_77 x5_77 x6_77 = some z_13 → ss_R G h H → va_S (ss_A G) s.heap H locs → lv_has ls 7 [(0, ss_v (ss_b G) this), (1, .ref (G.2.2.2.1 a1)), (2, .int x2_77), (3, .int x3_77), (4, .int x4_77), (5, .int x5_77), (6, .int x6_77)] → ww_T_wordIn p l e s m below meth c G this a1 h rr  H locs 0 0 (F0 m 77 ls []) := by
        intro x2_77 x3_77 x4_77 x5_77 x6_77 H locs ls hm hR hS hl
        refine lv_iload hx hb dd_T_wordIn_77 (lv_at hl 6 rfl) ?_
        refine lv_if_eq (tgt := 96) hx hb dd_T_wordIn_79 (by decide) (fun c4 => ?_) (fun c4 => ?_)
        · have hm := ss_ift hm c4
          refine lv_iload hx hb dd_T_wordIn_96 (lv_at hl 4 rfl) ?_
          refine lv_if_eq (tgt := 128) hx hb dd_T_wordIn_98 (by decide) (fun c5 => ?_) (fun c5 => ?_)
          · have hm := ss_ift hm c5
            exact J_128 x2_77 x3_77 x5_77  _ _ _ hm hR hS (lv_sub hl [0, 1, 2, 3, 5] rfl)
          · have hm := ss_iff hm c5
            refine lv_iload_n hx hb dd_T_wordIn_101 rfl (lv_at hl 3 rfl) ?_
            refine ss_aload_n hx hb dd_T_wordIn_102 rfl (lv_at hl 0 rfl) ?_
            obtain ⟨v6, qv6, hm⟩ := ss_bind hm
            refine ss_geti hC hK hR kf_T_22 qv6 dd_T_wordIn_103 ?_
            refine lv_icmp_ge (tgt := 128) hx hb dd_T_wordIn_106 (by decide) (fun c7 => ?_) (fun c7 => ?_)
            · have hm := ss_ift hm c7
              exact J_128 x2_77 x3_77 x5_77  _ _ _ hm hR hS (lv_sub hl [0, 1, 2, 3, 5] rfl)
            · have hm := ss_iff hm c7
              refine lv_aload_n hx hb dd_T_wordIn_109 rfl (lv_at hl 1 rfl) ?_
              refine lv_iload hx hb dd_T_wordIn_110 (lv_at hl 5 rfl) ?_
              obtain ⟨v8, qv8, hm⟩ := ss_bind hm
              refine ss_schr hC hK hR hS hl.1 qv8 ks_T_46 (Nat.le_of_ble_eq_true rfl) (Nat.le_of_ble_eq_true rfl) ⟨Nat.le_of_ble_eq_true rfl, Nat.le_of_ble_eq_true rfl⟩ (Nat.le_of_ble_eq_true rfl) dd_T_wordIn_112 (fun H locs hR hS => ?_)
              refine ss_aload_n hx hb dd_T_wordIn_115 rfl (lv_at hl 0 rfl) ?_
              obtain ⟨r9, qr9, hm⟩ := ss_bind hm
              refine ss_getr hC hK hR kf_T_11 rfl qr9 dd_T_wordIn_116 ?_
              refine lv_iload_n hx hb dd_T_wordIn_119 rfl (lv_at hl 3 rfl) ?_
              obtain ⟨v10, qv10, hm⟩ := ss_bind hm
              refine ss_iald hC hK hR qv10 dd_T_wordIn_120 ?_
              refine lv_icmp_ne (tgt := 128) hx hb dd_T_wordIn_121 (by decide) (fun c11 => ?_) (fun c11 => ?_)
              · have hm := ss_iff hm c11
                exact J_128 x2_77 x3_77 x5_77  _ _ _ hm hR hS (lv_sub hl [0, 1, 2, 3, 5] rfl)
              · have hm := ss_ift hm c11
                refine lv_iconst (v := 1) hx hb dd_T_wordIn_124 (by decide) ?_
                refine lv_goto (tgt := 129) hx hb dd_T_wordIn_125 (by decide) ?_
                exact J_129 x2_77 x3_77 x5_77 (1 : Int32)  _ _ _ hm hR hS (lv_sub hl [0, 1, 2, 3, 5] rfl)
        · have hm := ss_iff hm c4
          obtain ⟨v12, qv12, hm⟩ := ss_bind hm
          refine lv_iinc (v := v12) (lv' := [(2, .int v12), (0, ss_v (ss_b G) this), (1, .ref (G.2.2.2.1 a1)), (3, .int x3_77), (4, .int x4_77), (5, .int x5_77), (6, .int x6_77)]) hx hb dd_T_wordIn_82 hl (k := 2) rfl (ss_inc (by decide) qv12) (by decide) rfl (fun ls hl => ?_)
          refine ss_aload_n hx hb dd_T_wordIn_85 rfl (lv_at hl 1 rfl) ?_
          obtain ⟨v13, qv13, hm⟩ := ss_bind hm
          refine ss_geti hC hK hR kf_T_28 qv13 dd_T_wordIn_86 ?_
          refine lv_istore_n (lv' := [(3, .int v13), (2, .int v12), (0, ss_v (ss_b G) this), (1, .ref (G.2.2.2.1 a1)), (4, .int x4_77), (5, .int x5_77), (6, .int x6_77)]) hx hb dd_T_wordIn_89 rfl hl (by decide) rfl (fun ls hl => ?_)
          refine lv_iconst (v := 1) hx hb dd_T_wordIn_90 (by decide) ?_
          refine lv_istore (lv' := [(4, .int (1 : Int32)), (3, .int v13), (2, .int v12), (0, ss_v (ss_b G) this), (1, .ref (G.2.2.2.1 a1)), (5, .int x5_77), (6, .int x6_77)]) hx hb dd_T_wordIn_91 hl (by decide) rfl (fun ls hl => ?_)
          refine lv_goto (tgt := 134) hx hb dd_T_wordIn_93 (by decide) ?_
          exact J_134 v12 v13 (1 : Int32) x5_77  _ _ _ hm hR hS (lv_sub hl [3, 4, 2, 1, 0, 5] rfl)
      have J_55 : ∀ (x2_55 : Int32) (x3_55 : Int32) (x4_55 : Int32) (x5_55 : Int32) (s0_55 : Int32) (H : Heap) (locs : List Loc) (ls : Array Slot), mm_T_wordIn_j55 N this a1 h x2_55 x3_55 x4_55 x5_55 s0_55 = some z_13 → ss_R G h H → va_S (ss_A G) s.heap H locs → lv_has ls 7 [(0, ss_v (ss_b G) this), (1, .ref (G.2.2.2.1 a1)), (2, .int x2_55), (3, .int x3_55), (4, .int x4_55), (5, .int x5_55)] → ww_T_wordIn p l e s m below meth c G this a1 h rr  H locs 0 0 (F0 m 55 ls [.int s0_55]) := by
        intro x2_55 x3_55 x4_55 x5_55 s0_55 H locs ls hm hR hS hl
        refine lv_istore (lv' := [(6, .int s0_55), (0, ss_v (ss_b G) this), (1, .ref (G.2.2.2.1 a1)), (2, .int x2_55), (3, .int x3_55), (4, .int x4_55), (5, .int x5_55)]) hx hb dd_T_wordIn_55 hl (by decide) rfl (fun ls hl => ?_)
        refine lv_iload hx hb dd_T_wordIn_57 (lv_at hl 0 rfl) ?_
        refine lv_if_eq (tgt := 77) hx hb dd_T_wordIn_59 (by decide) (fun c14 => ?_) (fun c14 => ?_)
        · have hm := ss_ift hm c14
          exact J_77 x2_55 x3_55 x4_55 x5_55 s0_55  _ _ _ hm hR hS (lv_sub hl [1, 2, 3, 4, 5, 6, 0] rfl)
        · have hm := ss_iff hm c14
          refine lv_iload hx hb dd_T_wordIn_62 (lv_at hl 5 rfl) ?_
          refine lv_if_eq (tgt := 77) hx hb dd_T_wordIn_64 (by decide) (fun c15 => ?_) (fun c15 => ?_)
          · have hm := ss_ift hm c15
            exact J_77 x2_55 x3_55 x4_55 x5_55 s0_55  _ _ _ hm hR hS (lv_sub hl [1, 2, 3, 4, 5, 6, 0] rfl)
          · have hm := ss_iff hm c15
            refine lv_iload_n hx hb dd_T_wordIn_67 rfl (lv_at hl 4 rfl) ?_
            refine ss_aload_n hx hb dd_T_wordIn_68 rfl (lv_at hl 1 rfl) ?_
            obtain ⟨v16, qv16, hm⟩ := ss_bind hm
            refine ss_geti hC hK hR kf_T_22 qv16 dd_T_wordIn_69 ?_
            refine lv_icmp_ne (tgt := 77) hx hb dd_T_wordIn_72 (by decide) (fun c17 => ?_) (fun c17 => ?_)
            · have hm := ss_iff hm c17
              exact J_77 x2_55 x3_55 x4_55 x5_55 s0_55  _ _ _ hm hR hS (lv_sub hl [1, 2, 3, 4, 5, 6, 0] rfl)
            · have hm := ss_ift hm c17
              exact X_13_75 x2_55  _ _ _ (hz2_13 _ (ss_some hm)) hR hS (lv_sub hl [3] rfl)
      have J_50 : ∀ (x2_50 : Int32) (x3_50 : Int32) (x4_50 : Int32) (x5_50 : Int32) (H : Heap) (locs : List Loc) (ls : Array Slot), mm_T_wordIn_j50 N this a1 h x2_50 x3_50 x4_50 x5_50 = some z_13 → ss_R G h H → va_S (ss_A G) s.heap H locs → lv_has ls 7 [(0, ss_v (ss_b G) this), (1, .ref (G.2.2.2.1 a1)), (2, .int x2_50), (3, .int x3_50), (4, .int x4_50), (5, .int x5_50)] → ww_T_wordIn p l e s m below meth c G this a1 h rr  H locs 0 0 (F0 m 50 ls []) := by
        intro x2_50 x3_50 x4_50 x5_50 H locs ls hm hR hS hl
        refine lv_iconst (v := 1) hx hb dd_T_wordIn_50 (by decide) ?_
        refine lv_goto (tgt := 55) hx hb dd_T_wordIn_51 (by decide) ?_
        exact J_55 x2_50 x3_50 x4_50 x5_50 (1 : Int32)  _ _ _ hm hR hS hl
      refine lv_iload hx hb dd_T_wordIn_13 (lv_at hl 5 rfl) ?_
      refine lv_aload_n hx hb dd_T_wordIn_15 rfl (lv_at hl 1 rfl) ?_
      obtain ⟨v18, qv18, hm⟩ := ss_bind hm
      refine ss_slen hC hK hR hS hl.1 qv18 ks_T_41 (Nat.le_of_ble_eq_true rfl) (Nat.le_of_ble_eq_true rfl) ⟨Nat.le_of_ble_eq_true rfl, Nat.le_of_ble_eq_true rfl⟩ (Nat.le_of_ble_eq_true rfl) dd_T_wordIn_16 (fun H locs hR hS => ?_)
      refine lv_icmp_gt (tgt := 140) hx hb dd_T_wordIn_19 (by decide) (fun c19 => ?_) (fun c19 => ?_)
      · have hm := ss_ift hm c19
        exact X_13_140  _ _ _ (hz2_13 _ (ss_some hm)) hR hS (lv_sub hl [] rfl)
      · have hm := ss_iff hm c19
        refine ss_aload_n hx hb dd_T_wordIn_22 rfl (lv_at hl 0 rfl) ?_
        obtain ⟨v20, qv20, hm⟩ := ss_bind hm
        refine ss_geti hC hK hR kf_T_31 qv20 dd_T_wordIn_23 ?_
        refine lv_iconst (v := 1) hx hb dd_T_wordIn_26 (by decide) ?_
        refine lv_icmp_ne (tgt := 140) hx hb dd_T_wordIn_27 (by decide) (fun c21 => ?_) (fun c21 => ?_)
        · have hm := ss_iff hm c21
          exact X_13_140  _ _ _ (hz2_13 _ (ss_some hm)) hR hS (lv_sub hl [] rfl)
        · have hm := ss_ift hm c21
          refine lv_iload hx hb dd_T_wordIn_30 (lv_at hl 5 rfl) ?_
          refine lv_aload_n hx hb dd_T_wordIn_32 rfl (lv_at hl 1 rfl) ?_
          obtain ⟨v22, qv22, hm⟩ := ss_bind hm
          refine ss_slen hC hK hR hS hl.1 qv22 ks_T_41 (Nat.le_of_ble_eq_true rfl) (Nat.le_of_ble_eq_true rfl) ⟨Nat.le_of_ble_eq_true rfl, Nat.le_of_ble_eq_true rfl⟩ (Nat.le_of_ble_eq_true rfl) dd_T_wordIn_33 (fun H locs hR hS => ?_)
          refine lv_icmp_eq (tgt := 50) hx hb dd_T_wordIn_36 (by decide) (fun c23 => ?_) (fun c23 => ?_)
          · have hm := ss_ift hm c23
            exact J_50 x2_13 x3_13 x4_13 x5_13  _ _ _ hm hR hS hl
          · have hm := ss_iff hm c23
            refine lv_aload_n hx hb dd_T_wordIn_39 rfl (lv_at hl 1 rfl) ?_
            refine lv_iload hx hb dd_T_wordIn_40 (lv_at hl 5 rfl) ?_
            obtain ⟨v24, qv24, hm⟩ := ss_bind hm
            refine ss_schr hC hK hR hS hl.1 qv24 ks_T_46 (Nat.le_of_ble_eq_true rfl) (Nat.le_of_ble_eq_true rfl) ⟨Nat.le_of_ble_eq_true rfl, Nat.le_of_ble_eq_true rfl⟩ (Nat.le_of_ble_eq_true rfl) dd_T_wordIn_42 (fun H locs hR hS => ?_)
            refine lv_bipush (v := 32) hx hb dd_T_wordIn_45 (by decide) ?_
            refine lv_icmp_ne (tgt := 54) hx hb dd_T_wordIn_47 (by decide) (fun c25 => ?_) (fun c25 => ?_)
            · have hm := ss_iff hm c25
              refine lv_iconst (v := 0) hx hb dd_T_wordIn_54 (by decide) ?_
              exact J_55 x2_13 x3_13 x4_13 x5_13 (0 : Int32)  _ _ _ hm hR hS hl
            · have hm := ss_ift hm c25
              exact J_50 x2_13 x3_13 x4_13 x5_13  _ _ _ hm hR hS hl
  exact L_13 N (0 : Int32) v1 (1 : Int32) (0 : Int32) _ _ _ he_13 hR hS (lv_sub hl [4, 5, 3, 2, 1, 0] rfl)
theorem dd_T_fail_0 : decode bb_T_fail 0 = .ok (.aload_n 0, 1) := by decide +kernel
theorem dd_T_fail_1 : decode bb_T_fail 1 = .ok (.getfield 19, 3) := by decide +kernel
theorem dd_T_fail_4 : decode bb_T_fail 4 = .ok (.ifCond .ne 18, 3) := by decide +kernel
theorem dd_T_fail_7 : decode bb_T_fail 7 = .ok (.aload_n 0, 1) := by decide +kernel
theorem dd_T_fail_8 : decode bb_T_fail 8 = .ok (.iconst 1, 1) := by decide +kernel
theorem dd_T_fail_9 : decode bb_T_fail 9 = .ok (.bipush 8, 2) := by decide +kernel
theorem dd_T_fail_11 : decode bb_T_fail 11 = .ok (.aload_n 0, 1) := by decide +kernel
theorem dd_T_fail_12 : decode bb_T_fail 12 = .ok (.getfield 28, 3) := by decide +kernel
theorem dd_T_fail_15 : decode bb_T_fail 15 = .ok (.imul, 1) := by decide +kernel
theorem dd_T_fail_16 : decode bb_T_fail 16 = .ok (.iadd, 1) := by decide +kernel
theorem dd_T_fail_17 : decode bb_T_fail 17 = .ok (.iload_n 1, 1) := by decide +kernel
theorem dd_T_fail_18 : decode bb_T_fail 18 = .ok (.iadd, 1) := by decide +kernel
theorem dd_T_fail_19 : decode bb_T_fail 19 = .ok (.putfield 19, 3) := by decide +kernel
theorem dd_T_fail_22 : decode bb_T_fail 22 = .ok (.return_, 1) := by decide +kernel
def mm_T_fail_j22 (N : Nat) (this : Option Nat) (a1 : Int32) (h_22 : ss_Hp) : Option ss_Hp :=
  some h_22
def mm_T_fail (N : Nat) (this : Option Nat) (a1 : Int32) (h : ss_Hp) : Option ss_Hp :=
  if ss_is h this 2 = true then
    (ss_gi h this 2 1).bind fun v1 =>
    if v1 = 0 then
      (ss_gi h this 2 3).bind fun v3 =>
      (ss_pi h this 2 1 (((1 : Int32) + ((8 : Int32) * v3)) + a1)).bind fun h4 =>
      mm_T_fail_j22 N this a1 h4
    else
      mm_T_fail_j22 N this a1 h
  else none
abbrev ww_T_fail (p : Program) (l : Launch) (e : Env) (s : State) (m : MethodId) (below : List Frame) (meth : Method) (c : Code) (G : ss_G) (this : Option Nat) (a1 : Int32) (h : ss_Hp) (hh : ss_Hp) (H : Heap) (locs : List Loc) (k n : Nat) (g : JFrame) : Prop := W p l e (headSpec (ss_w yy_T_fail bb_T_fail 2 none) ({ frames := 0, cells := 0, slots := 0, locals := 0 })).room s m ([ss_v (ss_b G) this, .int a1] : List Value).toArray below meth c H locs k n (MQ below (ss_Qc G none hh) ([ss_v (ss_b G) this, .int a1] : List Value).toArray s 0 0 (ss_A G)) g
theorem ck_T_fail {N : Nat} {this : Option Nat} {a1 : Int32} {h : ss_Hp} {res : ss_Hp} (hm : mm_T_fail N this a1 h = some res) : ss_is h this 2 = true := (ss_chk hm).1
set_option maxHeartbeats 4000000 in
set_option maxRecDepth 100000 in
theorem cc_T_fail (l : Launch) (G : ss_G) (N : Nat) (this : Option Nat) (a1 : Int32) (h : ss_Hp) (hh : ss_Hp) (hm : mm_T_fail N this a1 h = some hh) : ss_Ct l G yy_T_fail bb_T_fail 2 none ({ frames := 0, cells := 0, slots := 0, locals := 0 }) [ss_v (ss_b G) this, .int a1] h none hh := by
  obtain ⟨hck, hm⟩ := ss_chk hm
  refine Met.ofW (cc := bb_T_fail) (maxL := 2) (ret := none) (by decide) rfl ?_
  intro p e s m args below meth c s₁ B hml hv
  obtain ⟨rfl, hR, hK⟩ := hv
  have hC : CallFix p m c bb_T_fail 2 s _ lw_g sR_2 := ⟨B.exec, B.bytes, hml, findClass_of_methodNamed B.named, fun w hw => atoms_spec (ws := ss_w yy_T_fail bb_T_fail 2 none) B.pre w (List.mem_cons_of_mem _ hw)⟩
  have hx := hC.1
  have hb := hC.2.1
  have hr := B.returns
  have hlocks := B.notSynchronized
  have hS : va_S (ss_A G) s.heap s.heap [] := va_S.rf
  have hl := lv_entry ([ss_v (ss_b G) this, .int a1]) (n := 2) (by simp [lg_sl, ss_v_cat, ss_cat_i, ss_cat_l, ss_cat_r])
  rw [lg_entry_eq]
  generalize (lg_sl ([ss_v (ss_b G) this, .int a1]) ++ List.replicate (2 - (lg_sl ([ss_v (ss_b G) this, .int a1])).length) Slot.unset).toArray = ls at hl ⊢
  have hl : lv_has ls 2 [(0, ss_v (ss_b G) this), (1, .int a1)] := by simpa [lv_args, ss_v_cat, ss_cat_i, ss_cat_l, ss_cat_r] using hl
  have J_22 : ∀ (h_22 : ss_Hp) (H : Heap) (locs : List Loc) (ls : Array Slot), mm_T_fail_j22 N this a1 h_22 = some hh → ss_R G h_22 H → va_S (ss_A G) s.heap H locs → lv_has ls 2 [] → ww_T_fail p l e s m below meth c G this a1 h hh  H locs 0 0 (F0 m 22 ls []) := by
    intro h_22 H locs ls hm hR hS hl
    exact ss_vret hC hr hlocks hR hS hm dd_T_fail_22
  refine ss_aload_n hx hb dd_T_fail_0 rfl (lv_at hl 0 rfl) ?_
  obtain ⟨v1, qv1, hm⟩ := ss_bind hm
  refine ss_geti hC hK hR kf_T_19 qv1 dd_T_fail_1 ?_
  refine lv_if_ne (tgt := 22) hx hb dd_T_fail_4 (by decide) (fun c2 => ?_) (fun c2 => ?_)
  · have hm := ss_iff hm c2
    exact J_22 h _ _ _ hm hR hS (lv_sub hl [] rfl)
  · have hm := ss_ift hm c2
    refine ss_aload_n hx hb dd_T_fail_7 rfl (lv_at hl 0 rfl) ?_
    refine lv_iconst (v := 1) hx hb dd_T_fail_8 (by decide) ?_
    refine lv_bipush (v := 8) hx hb dd_T_fail_9 (by decide) ?_
    refine ss_aload_n hx hb dd_T_fail_11 rfl (lv_at hl 0 rfl) ?_
    obtain ⟨v3, qv3, hm⟩ := ss_bind hm
    refine ss_geti hC hK hR kf_T_28 qv3 dd_T_fail_12 ?_
    refine lv_imul hx hb dd_T_fail_15 ?_
    refine lv_iadd hx hb dd_T_fail_16 ?_
    refine lv_iload_n hx hb dd_T_fail_17 rfl (lv_at hl 1 rfl) ?_
    refine lv_iadd hx hb dd_T_fail_18 ?_
    obtain ⟨h4, qh4, hm⟩ := ss_bind hm
    refine ss_puti hC hK hR hS kp_T_19 qh4 dd_T_fail_19 (fun H locs hR hS => ?_)
    exact J_22 h4 _ _ _ hm hR hS (lv_sub hl [] rfl)
theorem dd_VR_mayStand_0 : decode bb_VR_mayStand 0 = .ok (.iload_n 2, 1) := by decide +kernel
theorem dd_VR_mayStand_1 : decode bb_VR_mayStand 1 = .ok (.bipush 40, 2) := by decide +kernel
theorem dd_VR_mayStand_3 : decode bb_VR_mayStand 3 = .ok (.if_icmp .ge 24, 3) := by decide +kernel
theorem dd_VR_mayStand_6 : decode bb_VR_mayStand 6 = .ok (.iload_n 1, 1) := by decide +kernel
theorem dd_VR_mayStand_7 : decode bb_VR_mayStand 7 = .ok (.ifCond .ne 7, 3) := by decide +kernel
theorem dd_VR_mayStand_10 : decode bb_VR_mayStand 10 = .ok (.iconst 1, 1) := by decide +kernel
theorem dd_VR_mayStand_11 : decode bb_VR_mayStand 11 = .ok (.goto 4, 3) := by decide +kernel
theorem dd_VR_mayStand_14 : decode bb_VR_mayStand 14 = .ok (.iconst 0, 1) := by decide +kernel
theorem dd_VR_mayStand_15 : decode bb_VR_mayStand 15 = .ok (.iload_n 2, 1) := by decide +kernel
theorem dd_VR_mayStand_16 : decode bb_VR_mayStand 16 = .ok (.ifCond .ne 7, 3) := by decide +kernel
theorem dd_VR_mayStand_19 : decode bb_VR_mayStand 19 = .ok (.iconst 1, 1) := by decide +kernel
theorem dd_VR_mayStand_20 : decode bb_VR_mayStand 20 = .ok (.goto 4, 3) := by decide +kernel
theorem dd_VR_mayStand_23 : decode bb_VR_mayStand 23 = .ok (.iconst 0, 1) := by decide +kernel
theorem dd_VR_mayStand_24 : decode bb_VR_mayStand 24 = .ok (.if_icmp .eq 5, 3) := by decide +kernel
theorem dd_VR_mayStand_27 : decode bb_VR_mayStand 27 = .ok (.iconst 0, 1) := by decide +kernel
theorem dd_VR_mayStand_28 : decode bb_VR_mayStand 28 = .ok (.ireturn, 1) := by decide +kernel
theorem dd_VR_mayStand_29 : decode bb_VR_mayStand 29 = .ok (.iload_n 1, 1) := by decide +kernel
theorem dd_VR_mayStand_30 : decode bb_VR_mayStand 30 = .ok (.iconst 1, 1) := by decide +kernel
theorem dd_VR_mayStand_31 : decode bb_VR_mayStand 31 = .ok (.if_icmp .ne 21, 3) := by decide +kernel
theorem dd_VR_mayStand_34 : decode bb_VR_mayStand 34 = .ok (.aload_n 0, 1) := by decide +kernel
theorem dd_VR_mayStand_35 : decode bb_VR_mayStand 35 = .ok (.getfield 18, 3) := by decide +kernel
theorem dd_VR_mayStand_38 : decode bb_VR_mayStand 38 = .ok (.getfield 75, 3) := by decide +kernel
theorem dd_VR_mayStand_41 : decode bb_VR_mayStand 41 = .ok (.bipush 8, 2) := by decide +kernel
theorem dd_VR_mayStand_43 : decode bb_VR_mayStand 43 = .ok (.if_icmp .ge 7, 3) := by decide +kernel
theorem dd_VR_mayStand_46 : decode bb_VR_mayStand 46 = .ok (.iconst 1, 1) := by decide +kernel
theorem dd_VR_mayStand_47 : decode bb_VR_mayStand 47 = .ok (.goto 4, 3) := by decide +kernel
theorem dd_VR_mayStand_50 : decode bb_VR_mayStand 50 = .ok (.iconst 0, 1) := by decide +kernel
theorem dd_VR_mayStand_51 : decode bb_VR_mayStand 51 = .ok (.ireturn, 1) := by decide +kernel
theorem dd_VR_mayStand_52 : decode bb_VR_mayStand 52 = .ok (.iload_n 1, 1) := by decide +kernel
theorem dd_VR_mayStand_53 : decode bb_VR_mayStand 53 = .ok (.iconst 2, 1) := by decide +kernel
theorem dd_VR_mayStand_54 : decode bb_VR_mayStand 54 = .ok (.if_icmp .ne 14, 3) := by decide +kernel
theorem dd_VR_mayStand_57 : decode bb_VR_mayStand 57 = .ok (.aload_n 0, 1) := by decide +kernel
theorem dd_VR_mayStand_58 : decode bb_VR_mayStand 58 = .ok (.getfield 18, 3) := by decide +kernel
theorem dd_VR_mayStand_61 : decode bb_VR_mayStand 61 = .ok (.getfield 79, 3) := by decide +kernel
theorem dd_VR_mayStand_64 : decode bb_VR_mayStand 64 = .ok (.iconst 4, 1) := by decide +kernel
theorem dd_VR_mayStand_65 : decode bb_VR_mayStand 65 = .ok (.if_icmp .ge 7, 3) := by decide +kernel
theorem dd_VR_mayStand_68 : decode bb_VR_mayStand 68 = .ok (.iconst 1, 1) := by decide +kernel
theorem dd_VR_mayStand_69 : decode bb_VR_mayStand 69 = .ok (.goto 4, 3) := by decide +kernel
theorem dd_VR_mayStand_72 : decode bb_VR_mayStand 72 = .ok (.iconst 0, 1) := by decide +kernel
theorem dd_VR_mayStand_73 : decode bb_VR_mayStand 73 = .ok (.ireturn, 1) := by decide +kernel
def mm_VR_mayStand_j27 (N : Nat) (this : Option Nat) (a1 : Int32) (a2 : Int32) (h : ss_Hp) : Option Int32 :=
  some (0 : Int32)
def mm_VR_mayStand_j51 (N : Nat) (this : Option Nat) (a1 : Int32) (a2 : Int32) (h : ss_Hp) (s0_51 : Int32) : Option Int32 :=
  (ss_bz s0_51).bind fun v1 =>
  some v1
def mm_VR_mayStand_j73 (N : Nat) (this : Option Nat) (a1 : Int32) (a2 : Int32) (h : ss_Hp) (s0_73 : Int32) : Option Int32 :=
  (ss_bz s0_73).bind fun v2 =>
  some v2
def mm_VR_mayStand_j68 (N : Nat) (this : Option Nat) (a1 : Int32) (a2 : Int32) (h : ss_Hp) : Option Int32 :=
  mm_VR_mayStand_j73 N this a1 a2 h (1 : Int32)
def mm_VR_mayStand_j24 (N : Nat) (this : Option Nat) (a1 : Int32) (a2 : Int32) (h : ss_Hp) (s0_24 : Int32) (s1_24 : Int32) : Option Int32 :=
  if s0_24 = s1_24 then
    if a1 = (1 : Int32) then
      (ss_gr h this 6 1).bind fun r9 =>
      (ss_gi h r9 5 3).bind fun v10 =>
      if (8 : Int32) ≤ v10 then
        mm_VR_mayStand_j51 N this a1 a2 h (0 : Int32)
      else
        mm_VR_mayStand_j51 N this a1 a2 h (1 : Int32)
    else
      if a1 = (2 : Int32) then
        (ss_gr h this 6 1).bind fun r6 =>
        (ss_gi h r6 5 4).bind fun v7 =>
        if (4 : Int32) ≤ v7 then
          mm_VR_mayStand_j73 N this a1 a2 h (0 : Int32)
        else
          mm_VR_mayStand_j68 N this a1 a2 h
      else
        mm_VR_mayStand_j68 N this a1 a2 h
  else
    mm_VR_mayStand_j27 N this a1 a2 h
def mm_VR_mayStand_j15 (N : Nat) (this : Option Nat) (a1 : Int32) (a2 : Int32) (h : ss_Hp) (s0_15 : Int32) : Option Int32 :=
  if a2 = 0 then
    mm_VR_mayStand_j24 N this a1 a2 h s0_15 (1 : Int32)
  else
    mm_VR_mayStand_j24 N this a1 a2 h s0_15 (0 : Int32)
def mm_VR_mayStand (N : Nat) (this : Option Nat) (a1 : Int32) (a2 : Int32) (h : ss_Hp) : Option Int32 :=
  if ss_is h this 6 = true then
    if (40 : Int32) ≤ a2 then
      mm_VR_mayStand_j27 N this a1 a2 h
    else
      if a1 = 0 then
        mm_VR_mayStand_j15 N this a1 a2 h (1 : Int32)
      else
        mm_VR_mayStand_j15 N this a1 a2 h (0 : Int32)
  else none
abbrev ww_VR_mayStand (p : Program) (l : Launch) (e : Env) (s : State) (m : MethodId) (below : List Frame) (meth : Method) (c : Code) (G : ss_G) (this : Option Nat) (a1 : Int32) (a2 : Int32) (h : ss_Hp) (rr : Int32) (H : Heap) (locs : List Loc) (k n : Nat) (g : JFrame) : Prop := W p l e (headSpec (ss_w yy_VR_mayStand bb_VR_mayStand 3 (some .boolean)) ({ frames := 0, cells := 0, slots := 0, locals := 0 })).room s m ([ss_v (ss_b G) this, .int a1, .int a2] : List Value).toArray below meth c H locs k n (MQ below (ss_Qc G (some (.int rr)) h) ([ss_v (ss_b G) this, .int a1, .int a2] : List Value).toArray s 0 0 (ss_A G)) g
theorem ck_VR_mayStand {N : Nat} {this : Option Nat} {a1 : Int32} {a2 : Int32} {h : ss_Hp} {res : Int32} (hm : mm_VR_mayStand N this a1 a2 h = some res) : ss_is h this 6 = true := (ss_chk hm).1
set_option maxHeartbeats 4000000 in
set_option maxRecDepth 100000 in
theorem cc_VR_mayStand (l : Launch) (G : ss_G) (N : Nat) (this : Option Nat) (a1 : Int32) (a2 : Int32) (h : ss_Hp) (rr : Int32) (hm : mm_VR_mayStand N this a1 a2 h = some rr) : ss_Ct l G yy_VR_mayStand bb_VR_mayStand 3 (some .boolean) ({ frames := 0, cells := 0, slots := 0, locals := 0 }) [ss_v (ss_b G) this, .int a1, .int a2] h (some (.int rr)) h := by
  obtain ⟨hck, hm⟩ := ss_chk hm
  refine Met.ofW (cc := bb_VR_mayStand) (maxL := 3) (ret := (some .boolean)) (by decide) rfl ?_
  intro p e s m args below meth c s₁ B hml hv
  obtain ⟨rfl, hR, hK⟩ := hv
  have hC : CallFix p m c bb_VR_mayStand 3 s _ lw_g sR_6 := ⟨B.exec, B.bytes, hml, findClass_of_methodNamed B.named, fun w hw => atoms_spec (ws := ss_w yy_VR_mayStand bb_VR_mayStand 3 (some .boolean)) B.pre w (List.mem_cons_of_mem _ hw)⟩
  have hx := hC.1
  have hb := hC.2.1
  have hr := B.returns
  have hlocks := B.notSynchronized
  have hS : va_S (ss_A G) s.heap s.heap [] := va_S.rf
  have hl := lv_entry ([ss_v (ss_b G) this, .int a1, .int a2]) (n := 3) (by simp [lg_sl, ss_v_cat, ss_cat_i, ss_cat_l, ss_cat_r])
  rw [lg_entry_eq]
  generalize (lg_sl ([ss_v (ss_b G) this, .int a1, .int a2]) ++ List.replicate (3 - (lg_sl ([ss_v (ss_b G) this, .int a1, .int a2])).length) Slot.unset).toArray = ls at hl ⊢
  have hl : lv_has ls 3 [(0, ss_v (ss_b G) this), (1, .int a1), (2, .int a2)] := by simpa [lv_args, ss_v_cat, ss_cat_i, ss_cat_l, ss_cat_r] using hl
  have J_27 : ∀  (H : Heap) (locs : List Loc) (ls : Array Slot), mm_VR_mayStand_j27 N this a1 a2 h = some rr → ss_R G h H → va_S (ss_A G) s.heap H locs → lv_has ls 3 [] → ww_VR_mayStand p l e s m below meth c G this a1 a2 h rr  H locs 0 0 (F0 m 27 ls []) := by
    intro  H locs ls hm hR hS hl
    refine lv_iconst (v := 0) hx hb dd_VR_mayStand_27 (by decide) ?_
    exact ss_zret hC hr (by decide) hlocks hR hS (ss_with _ hm) dd_VR_mayStand_28
  have J_51 : ∀ (s0_51 : Int32) (H : Heap) (locs : List Loc) (ls : Array Slot), mm_VR_mayStand_j51 N this a1 a2 h s0_51 = some rr → ss_R G h H → va_S (ss_A G) s.heap H locs → lv_has ls 3 [] → ww_VR_mayStand p l e s m below meth c G this a1 a2 h rr  H locs 0 0 (F0 m 51 ls [.int s0_51]) := by
    intro s0_51 H locs ls hm hR hS hl
    obtain ⟨v1, qv1, hm⟩ := ss_bind hm
    obtain ⟨hnb, rfl⟩ := ss_bzs qv1
    exact ss_zret hC hr hnb hlocks hR hS (ss_with _ hm) dd_VR_mayStand_51
  have J_73 : ∀ (s0_73 : Int32) (H : Heap) (locs : List Loc) (ls : Array Slot), mm_VR_mayStand_j73 N this a1 a2 h s0_73 = some rr → ss_R G h H → va_S (ss_A G) s.heap H locs → lv_has ls 3 [] → ww_VR_mayStand p l e s m below meth c G this a1 a2 h rr  H locs 0 0 (F0 m 73 ls [.int s0_73]) := by
    intro s0_73 H locs ls hm hR hS hl
    obtain ⟨v2, qv2, hm⟩ := ss_bind hm
    obtain ⟨hnb, rfl⟩ := ss_bzs qv2
    exact ss_zret hC hr hnb hlocks hR hS (ss_with _ hm) dd_VR_mayStand_73
  have J_68 : ∀  (H : Heap) (locs : List Loc) (ls : Array Slot), mm_VR_mayStand_j68 N this a1 a2 h = some rr → ss_R G h H → va_S (ss_A G) s.heap H locs → lv_has ls 3 [] → ww_VR_mayStand p l e s m below meth c G this a1 a2 h rr  H locs 0 0 (F0 m 68 ls []) := by
    intro  H locs ls hm hR hS hl
    refine lv_iconst (v := 1) hx hb dd_VR_mayStand_68 (by decide) ?_
    refine lv_goto (tgt := 73) hx hb dd_VR_mayStand_69 (by decide) ?_
    exact J_73 (1 : Int32)  _ _ _ hm hR hS hl
  have J_24 : ∀ (s0_24 : Int32) (s1_24 : Int32) (H : Heap) (locs : List Loc) (ls : Array Slot), mm_VR_mayStand_j24 N this a1 a2 h s0_24 s1_24 = some rr → ss_R G h H → va_S (ss_A G) s.heap H locs → lv_has ls 3 [(0, ss_v (ss_b G) this), (1, .int a1)] → ww_VR_mayStand p l e s m below meth c G this a1 a2 h rr  H locs 0 0 (F0 m 24 ls [.int s1_24, .int s0_24]) := by
    intro s0_24 s1_24 H locs ls hm hR hS hl
    refine lv_icmp_eq (tgt := 29) hx hb dd_VR_mayStand_24 (by decide) (fun c3 => ?_) (fun c3 => ?_)
    · have hm := ss_ift hm c3
      refine lv_iload_n hx hb dd_VR_mayStand_29 rfl (lv_at hl 1 rfl) ?_
      refine lv_iconst (v := 1) hx hb dd_VR_mayStand_30 (by decide) ?_
      refine lv_icmp_ne (tgt := 52) hx hb dd_VR_mayStand_31 (by decide) (fun c4 => ?_) (fun c4 => ?_)
      · have hm := ss_iff hm c4
        refine lv_iload_n hx hb dd_VR_mayStand_52 rfl (lv_at hl 1 rfl) ?_
        refine lv_iconst (v := 2) hx hb dd_VR_mayStand_53 (by decide) ?_
        refine lv_icmp_ne (tgt := 68) hx hb dd_VR_mayStand_54 (by decide) (fun c5 => ?_) (fun c5 => ?_)
        · have hm := ss_iff hm c5
          exact J_68  _ _ _ hm hR hS (lv_sub hl [] rfl)
        · have hm := ss_ift hm c5
          refine ss_aload_n hx hb dd_VR_mayStand_57 rfl (lv_at hl 0 rfl) ?_
          obtain ⟨r6, qr6, hm⟩ := ss_bind hm
          refine ss_getr hC hK hR kf_VR_18 rfl qr6 dd_VR_mayStand_58 ?_
          obtain ⟨v7, qv7, hm⟩ := ss_bind hm
          refine ss_geti hC hK hR kf_VR_79 qv7 dd_VR_mayStand_61 ?_
          refine lv_iconst (v := 4) hx hb dd_VR_mayStand_64 (by decide) ?_
          refine lv_icmp_ge (tgt := 72) hx hb dd_VR_mayStand_65 (by decide) (fun c8 => ?_) (fun c8 => ?_)
          · have hm := ss_ift hm c8
            refine lv_iconst (v := 0) hx hb dd_VR_mayStand_72 (by decide) ?_
            exact J_73 (0 : Int32)  _ _ _ hm hR hS (lv_sub hl [] rfl)
          · have hm := ss_iff hm c8
            exact J_68  _ _ _ hm hR hS (lv_sub hl [] rfl)
      · have hm := ss_ift hm c4
        refine ss_aload_n hx hb dd_VR_mayStand_34 rfl (lv_at hl 0 rfl) ?_
        obtain ⟨r9, qr9, hm⟩ := ss_bind hm
        refine ss_getr hC hK hR kf_VR_18 rfl qr9 dd_VR_mayStand_35 ?_
        obtain ⟨v10, qv10, hm⟩ := ss_bind hm
        refine ss_geti hC hK hR kf_VR_75 qv10 dd_VR_mayStand_38 ?_
        refine lv_bipush (v := 8) hx hb dd_VR_mayStand_41 (by decide) ?_
        refine lv_icmp_ge (tgt := 50) hx hb dd_VR_mayStand_43 (by decide) (fun c11 => ?_) (fun c11 => ?_)
        · have hm := ss_ift hm c11
          refine lv_iconst (v := 0) hx hb dd_VR_mayStand_50 (by decide) ?_
          exact J_51 (0 : Int32)  _ _ _ hm hR hS (lv_sub hl [] rfl)
        · have hm := ss_iff hm c11
          refine lv_iconst (v := 1) hx hb dd_VR_mayStand_46 (by decide) ?_
          refine lv_goto (tgt := 51) hx hb dd_VR_mayStand_47 (by decide) ?_
          exact J_51 (1 : Int32)  _ _ _ hm hR hS (lv_sub hl [] rfl)
    · have hm := ss_iff hm c3
      exact J_27  _ _ _ hm hR hS (lv_sub hl [] rfl)
  have J_15 : ∀ (s0_15 : Int32) (H : Heap) (locs : List Loc) (ls : Array Slot), mm_VR_mayStand_j15 N this a1 a2 h s0_15 = some rr → ss_R G h H → va_S (ss_A G) s.heap H locs → lv_has ls 3 [(0, ss_v (ss_b G) this), (1, .int a1), (2, .int a2)] → ww_VR_mayStand p l e s m below meth c G this a1 a2 h rr  H locs 0 0 (F0 m 15 ls [.int s0_15]) := by
    intro s0_15 H locs ls hm hR hS hl
    refine lv_iload_n hx hb dd_VR_mayStand_15 rfl (lv_at hl 2 rfl) ?_
    refine lv_if_ne (tgt := 23) hx hb dd_VR_mayStand_16 (by decide) (fun c12 => ?_) (fun c12 => ?_)
    · have hm := ss_iff hm c12
      refine lv_iconst (v := 0) hx hb dd_VR_mayStand_23 (by decide) ?_
      exact J_24 s0_15 (0 : Int32)  _ _ _ hm hR hS (lv_sub hl [0, 1] rfl)
    · have hm := ss_ift hm c12
      refine lv_iconst (v := 1) hx hb dd_VR_mayStand_19 (by decide) ?_
      refine lv_goto (tgt := 24) hx hb dd_VR_mayStand_20 (by decide) ?_
      exact J_24 s0_15 (1 : Int32)  _ _ _ hm hR hS (lv_sub hl [0, 1] rfl)
  refine lv_iload_n hx hb dd_VR_mayStand_0 rfl (lv_at hl 2 rfl) ?_
  refine lv_bipush (v := 40) hx hb dd_VR_mayStand_1 (by decide) ?_
  refine lv_icmp_ge (tgt := 27) hx hb dd_VR_mayStand_3 (by decide) (fun c13 => ?_) (fun c13 => ?_)
  · have hm := ss_ift hm c13
    exact J_27  _ _ _ hm hR hS (lv_sub hl [] rfl)
  · have hm := ss_iff hm c13
    refine lv_iload_n hx hb dd_VR_mayStand_6 rfl (lv_at hl 1 rfl) ?_
    refine lv_if_ne (tgt := 14) hx hb dd_VR_mayStand_7 (by decide) (fun c14 => ?_) (fun c14 => ?_)
    · have hm := ss_iff hm c14
      refine lv_iconst (v := 0) hx hb dd_VR_mayStand_14 (by decide) ?_
      exact J_15 (0 : Int32)  _ _ _ hm hR hS hl
    · have hm := ss_ift hm c14
      refine lv_iconst (v := 1) hx hb dd_VR_mayStand_10 (by decide) ?_
      refine lv_goto (tgt := 15) hx hb dd_VR_mayStand_11 (by decide) ?_
      exact J_15 (1 : Int32)  _ _ _ hm hR hS hl
theorem dd_T_isDigits_0 : decode bb_T_isDigits 0 = .ok (.aload_n 0, 1) := by decide +kernel
theorem dd_T_isDigits_1 : decode bb_T_isDigits 1 = .ok (.getfield 31, 3) := by decide +kernel
theorem dd_T_isDigits_4 : decode bb_T_isDigits 4 = .ok (.iconst 2, 1) := by decide +kernel
theorem dd_T_isDigits_5 : decode bb_T_isDigits 5 = .ok (.if_icmp .ne 7, 3) := by decide +kernel
theorem dd_T_isDigits_8 : decode bb_T_isDigits 8 = .ok (.iconst 1, 1) := by decide +kernel
theorem dd_T_isDigits_9 : decode bb_T_isDigits 9 = .ok (.goto 4, 3) := by decide +kernel
theorem dd_T_isDigits_12 : decode bb_T_isDigits 12 = .ok (.iconst 0, 1) := by decide +kernel
theorem dd_T_isDigits_13 : decode bb_T_isDigits 13 = .ok (.ireturn, 1) := by decide +kernel
def mm_T_isDigits_j13 (N : Nat) (this : Option Nat) (h : ss_Hp) (s0_13 : Int32) : Option Int32 :=
  (ss_bz s0_13).bind fun v1 =>
  some v1
def mm_T_isDigits (N : Nat) (this : Option Nat) (h : ss_Hp) : Option Int32 :=
  if ss_is h this 2 = true then
    (ss_gi h this 2 2).bind fun v2 =>
    if v2 = (2 : Int32) then
      mm_T_isDigits_j13 N this h (1 : Int32)
    else
      mm_T_isDigits_j13 N this h (0 : Int32)
  else none
abbrev ww_T_isDigits (p : Program) (l : Launch) (e : Env) (s : State) (m : MethodId) (below : List Frame) (meth : Method) (c : Code) (G : ss_G) (this : Option Nat) (h : ss_Hp) (rr : Int32) (H : Heap) (locs : List Loc) (k n : Nat) (g : JFrame) : Prop := W p l e (headSpec (ss_w yy_T_isDigits bb_T_isDigits 1 (some .boolean)) ({ frames := 0, cells := 0, slots := 0, locals := 0 })).room s m ([ss_v (ss_b G) this] : List Value).toArray below meth c H locs k n (MQ below (ss_Qc G (some (.int rr)) h) ([ss_v (ss_b G) this] : List Value).toArray s 0 0 (ss_A G)) g
theorem ck_T_isDigits {N : Nat} {this : Option Nat} {h : ss_Hp} {res : Int32} (hm : mm_T_isDigits N this h = some res) : ss_is h this 2 = true := (ss_chk hm).1
set_option maxHeartbeats 4000000 in
set_option maxRecDepth 100000 in
theorem cc_T_isDigits (l : Launch) (G : ss_G) (N : Nat) (this : Option Nat) (h : ss_Hp) (rr : Int32) (hm : mm_T_isDigits N this h = some rr) : ss_Ct l G yy_T_isDigits bb_T_isDigits 1 (some .boolean) ({ frames := 0, cells := 0, slots := 0, locals := 0 }) [ss_v (ss_b G) this] h (some (.int rr)) h := by
  obtain ⟨hck, hm⟩ := ss_chk hm
  refine Met.ofW (cc := bb_T_isDigits) (maxL := 1) (ret := (some .boolean)) (by decide) rfl ?_
  intro p e s m args below meth c s₁ B hml hv
  obtain ⟨rfl, hR, hK⟩ := hv
  have hC : CallFix p m c bb_T_isDigits 1 s _ lw_g sR_2 := ⟨B.exec, B.bytes, hml, findClass_of_methodNamed B.named, fun w hw => atoms_spec (ws := ss_w yy_T_isDigits bb_T_isDigits 1 (some .boolean)) B.pre w (List.mem_cons_of_mem _ hw)⟩
  have hx := hC.1
  have hb := hC.2.1
  have hr := B.returns
  have hlocks := B.notSynchronized
  have hS : va_S (ss_A G) s.heap s.heap [] := va_S.rf
  have hl := lv_entry ([ss_v (ss_b G) this]) (n := 1) (by simp [lg_sl, ss_v_cat, ss_cat_i, ss_cat_l, ss_cat_r])
  rw [lg_entry_eq]
  generalize (lg_sl ([ss_v (ss_b G) this]) ++ List.replicate (1 - (lg_sl ([ss_v (ss_b G) this])).length) Slot.unset).toArray = ls at hl ⊢
  have hl : lv_has ls 1 [(0, ss_v (ss_b G) this)] := by simpa [lv_args, ss_v_cat, ss_cat_i, ss_cat_l, ss_cat_r] using hl
  have J_13 : ∀ (s0_13 : Int32) (H : Heap) (locs : List Loc) (ls : Array Slot), mm_T_isDigits_j13 N this h s0_13 = some rr → ss_R G h H → va_S (ss_A G) s.heap H locs → lv_has ls 1 [] → ww_T_isDigits p l e s m below meth c G this h rr  H locs 0 0 (F0 m 13 ls [.int s0_13]) := by
    intro s0_13 H locs ls hm hR hS hl
    obtain ⟨v1, qv1, hm⟩ := ss_bind hm
    obtain ⟨hnb, rfl⟩ := ss_bzs qv1
    exact ss_zret hC hr hnb hlocks hR hS (ss_with _ hm) dd_T_isDigits_13
  refine ss_aload_n hx hb dd_T_isDigits_0 rfl (lv_at hl 0 rfl) ?_
  obtain ⟨v2, qv2, hm⟩ := ss_bind hm
  refine ss_geti hC hK hR kf_T_31 qv2 dd_T_isDigits_1 ?_
  refine lv_iconst (v := 2) hx hb dd_T_isDigits_4 (by decide) ?_
  refine lv_icmp_ne (tgt := 12) hx hb dd_T_isDigits_5 (by decide) (fun c3 => ?_) (fun c3 => ?_)
  · have hm := ss_iff hm c3
    refine lv_iconst (v := 0) hx hb dd_T_isDigits_12 (by decide) ?_
    exact J_13 (0 : Int32)  _ _ _ hm hR hS (lv_sub hl [] rfl)
  · have hm := ss_ift hm c3
    refine lv_iconst (v := 1) hx hb dd_T_isDigits_8 (by decide) ?_
    refine lv_goto (tgt := 13) hx hb dd_T_isDigits_9 (by decide) ?_
    exact J_13 (1 : Int32)  _ _ _ hm hR hS (lv_sub hl [] rfl)
theorem dd_T_digits_0 : decode bb_T_digits 0 = .ok (.aload_n 0, 1) := by decide +kernel
theorem dd_T_digits_1 : decode bb_T_digits 1 = .ok (.getfield 22, 3) := by decide +kernel
theorem dd_T_digits_4 : decode bb_T_digits 4 = .ok (.aload_n 0, 1) := by decide +kernel
theorem dd_T_digits_5 : decode bb_T_digits 5 = .ok (.getfield 28, 3) := by decide +kernel
theorem dd_T_digits_8 : decode bb_T_digits 8 = .ok (.isub, 1) := by decide +kernel
theorem dd_T_digits_9 : decode bb_T_digits 9 = .ok (.iconst 5, 1) := by decide +kernel
theorem dd_T_digits_10 : decode bb_T_digits 10 = .ok (.if_icmp .le 5, 3) := by decide +kernel
theorem dd_T_digits_13 : decode bb_T_digits 13 = .ok (.iconst (-1), 1) := by decide +kernel
theorem dd_T_digits_14 : decode bb_T_digits 14 = .ok (.ireturn, 1) := by decide +kernel
theorem dd_T_digits_15 : decode bb_T_digits 15 = .ok (.iconst 0, 1) := by decide +kernel
theorem dd_T_digits_16 : decode bb_T_digits 16 = .ok (.istore_n 1, 1) := by decide +kernel
theorem dd_T_digits_17 : decode bb_T_digits 17 = .ok (.aload_n 0, 1) := by decide +kernel
theorem dd_T_digits_18 : decode bb_T_digits 18 = .ok (.getfield 28, 3) := by decide +kernel
theorem dd_T_digits_21 : decode bb_T_digits 21 = .ok (.istore_n 2, 1) := by decide +kernel
theorem dd_T_digits_22 : decode bb_T_digits 22 = .ok (.iload_n 2, 1) := by decide +kernel
theorem dd_T_digits_23 : decode bb_T_digits 23 = .ok (.aload_n 0, 1) := by decide +kernel
theorem dd_T_digits_24 : decode bb_T_digits 24 = .ok (.getfield 22, 3) := by decide +kernel
theorem dd_T_digits_27 : decode bb_T_digits 27 = .ok (.if_icmp .ge 24, 3) := by decide +kernel
theorem dd_T_digits_30 : decode bb_T_digits 30 = .ok (.bipush 10, 2) := by decide +kernel
theorem dd_T_digits_32 : decode bb_T_digits 32 = .ok (.iload_n 1, 1) := by decide +kernel
theorem dd_T_digits_33 : decode bb_T_digits 33 = .ok (.imul, 1) := by decide +kernel
theorem dd_T_digits_34 : decode bb_T_digits 34 = .ok (.aload_n 0, 1) := by decide +kernel
theorem dd_T_digits_35 : decode bb_T_digits 35 = .ok (.getfield 11, 3) := by decide +kernel
theorem dd_T_digits_38 : decode bb_T_digits 38 = .ok (.iload_n 2, 1) := by decide +kernel
theorem dd_T_digits_39 : decode bb_T_digits 39 = .ok (.iaload, 1) := by decide +kernel
theorem dd_T_digits_40 : decode bb_T_digits 40 = .ok (.iadd, 1) := by decide +kernel
theorem dd_T_digits_41 : decode bb_T_digits 41 = .ok (.bipush 48, 2) := by decide +kernel
theorem dd_T_digits_43 : decode bb_T_digits 43 = .ok (.isub, 1) := by decide +kernel
theorem dd_T_digits_44 : decode bb_T_digits 44 = .ok (.istore_n 1, 1) := by decide +kernel
theorem dd_T_digits_45 : decode bb_T_digits 45 = .ok (.iinc 2 1, 3) := by decide +kernel
theorem dd_T_digits_48 : decode bb_T_digits 48 = .ok (.goto (-26), 3) := by decide +kernel
theorem dd_T_digits_51 : decode bb_T_digits 51 = .ok (.iload_n 1, 1) := by decide +kernel
theorem dd_T_digits_52 : decode bb_T_digits 52 = .ok (.ireturn, 1) := by decide +kernel
def mm_T_digits_b22 (N : Nat) (this : Option Nat) (h : ss_Hp) (st : Int32 × Int32) : Option ((Int32 × Int32) ⊕ Int32) :=
  match st with
  | (x1_22, x2_22) =>
    (ss_gi h this 2 4).bind fun v5 =>
    if v5 ≤ x2_22 then
      some (.inr x1_22)
    else
      (ss_gr h this 2 0).bind fun r7 =>
      (ss_ai h r7 20 x2_22).bind fun v8 =>
      (some ((((10 : Int32) * x1_22) + v8) - (48 : Int32))).bind fun v9 =>
      (some (x2_22 + (1 : Int32))).bind fun v10 =>
      some (.inl (v9, v10))
def mm_T_digits (N : Nat) (this : Option Nat) (h : ss_Hp) : Option Int32 :=
  if ss_is h this 2 = true then
    (ss_gi h this 2 4).bind fun v1 =>
    (ss_gi h this 2 3).bind fun v2 =>
    if (v1 - v2) ≤ (5 : Int32) then
      (ss_gi h this 2 3).bind fun v4 =>
      (ss_lp (mm_T_digits_b22 N this h) N ((0 : Int32), v4)).bind fun y1_22_51 =>
      some y1_22_51
    else
      some (-1 : Int32)
  else none
abbrev ww_T_digits (p : Program) (l : Launch) (e : Env) (s : State) (m : MethodId) (below : List Frame) (meth : Method) (c : Code) (G : ss_G) (this : Option Nat) (h : ss_Hp) (rr : Int32) (H : Heap) (locs : List Loc) (k n : Nat) (g : JFrame) : Prop := W p l e (headSpec (ss_w yy_T_digits bb_T_digits 3 (some (.int))) ({ frames := 0, cells := 0, slots := 0, locals := 0 })).room s m ([ss_v (ss_b G) this] : List Value).toArray below meth c H locs k n (MQ below (ss_Qc G (some (.int rr)) h) ([ss_v (ss_b G) this] : List Value).toArray s 0 0 (ss_A G)) g
theorem ck_T_digits {N : Nat} {this : Option Nat} {h : ss_Hp} {res : Int32} (hm : mm_T_digits N this h = some res) : ss_is h this 2 = true := (ss_chk hm).1
set_option maxHeartbeats 4000000 in
set_option maxRecDepth 100000 in
theorem cc_T_digits (l : Launch) (G : ss_G) (N : Nat) (this : Option Nat) (h : ss_Hp) (rr : Int32) (hm : mm_T_digits N this h = some rr) : ss_Ct l G yy_T_digits bb_T_digits 3 (some (.int)) ({ frames := 0, cells := 0, slots := 0, locals := 0 }) [ss_v (ss_b G) this] h (some (.int rr)) h := by
  obtain ⟨hck, hm⟩ := ss_chk hm
  refine Met.ofW (cc := bb_T_digits) (maxL := 3) (ret := (some (.int))) (by decide) rfl ?_
  intro p e s m args below meth c s₁ B hml hv
  obtain ⟨rfl, hR, hK⟩ := hv
  have hC : CallFix p m c bb_T_digits 3 s _ lw_g sR_2 := ⟨B.exec, B.bytes, hml, findClass_of_methodNamed B.named, fun w hw => atoms_spec (ws := ss_w yy_T_digits bb_T_digits 3 (some (.int))) B.pre w (List.mem_cons_of_mem _ hw)⟩
  have hx := hC.1
  have hb := hC.2.1
  have hr := B.returns
  have hlocks := B.notSynchronized
  have hS : va_S (ss_A G) s.heap s.heap [] := va_S.rf
  have hl := lv_entry ([ss_v (ss_b G) this]) (n := 3) (by simp [lg_sl, ss_v_cat, ss_cat_i, ss_cat_l, ss_cat_r])
  rw [lg_entry_eq]
  generalize (lg_sl ([ss_v (ss_b G) this]) ++ List.replicate (3 - (lg_sl ([ss_v (ss_b G) this])).length) Slot.unset).toArray = ls at hl ⊢
  have hl : lv_has ls 3 [(0, ss_v (ss_b G) this)] := by simpa [lv_args, ss_v_cat, ss_cat_i, ss_cat_l, ss_cat_r] using hl
  refine ss_aload_n hx hb dd_T_digits_0 rfl (lv_at hl 0 rfl) ?_
  obtain ⟨v1, qv1, hm⟩ := ss_bind hm
  refine ss_geti hC hK hR kf_T_22 qv1 dd_T_digits_1 ?_
  refine ss_aload_n hx hb dd_T_digits_4 rfl (lv_at hl 0 rfl) ?_
  obtain ⟨v2, qv2, hm⟩ := ss_bind hm
  refine ss_geti hC hK hR kf_T_28 qv2 dd_T_digits_5 ?_
  refine lv_isub hx hb dd_T_digits_8 ?_
  refine lv_iconst (v := 5) hx hb dd_T_digits_9 (by decide) ?_
  refine lv_icmp_le (tgt := 15) hx hb dd_T_digits_10 (by decide) (fun c3 => ?_) (fun c3 => ?_)
  · have hm := ss_ift hm c3
    refine lv_iconst (v := 0) hx hb dd_T_digits_15 (by decide) ?_
    refine lv_istore_n (lv' := [(1, .int (0 : Int32)), (0, ss_v (ss_b G) this)]) hx hb dd_T_digits_16 rfl hl (by decide) (by simp only [List.filter_cons, ss_v_cat]; rfl) (fun ls hl => ?_)
    refine ss_aload_n hx hb dd_T_digits_17 rfl (lv_at hl 1 rfl) ?_
    obtain ⟨v4, qv4, hm⟩ := ss_bind hm
    refine ss_geti hC hK hR kf_T_28 qv4 dd_T_digits_18 ?_
    refine lv_istore_n (lv' := [(2, .int v4), (1, .int (0 : Int32)), (0, ss_v (ss_b G) this)]) hx hb dd_T_digits_21 rfl hl (by decide) rfl (fun ls hl => ?_)
    obtain ⟨e_22, he_22, hm⟩ := ss_bind hm
    have X_22_51 : ∀ (y1_22_51 : Int32) (H : Heap) (locs : List Loc) (ls : Array Slot), e_22 = y1_22_51 → ss_R G h H → va_S (ss_A G) s.heap H locs → lv_has ls 3 [(1, .int y1_22_51)] → ww_T_digits p l e s m below meth c G this h rr  H locs 0 0 (F0 m 51 ls []) := by
      intro y1_22_51 H locs ls hq hR hS hl
      rw [hq] at hm
      refine lv_iload_n hx hb dd_T_digits_51 rfl (lv_at hl 0 rfl) ?_
      exact ss_iret hC hr hlocks hR hS (ss_with _ hm) dd_T_digits_52
    have L_22 : ∀ (n : Nat) (x1_22 : Int32) (x2_22 : Int32) (H : Heap) (locs : List Loc) (ls : Array Slot), ss_lp (mm_T_digits_b22 N this h) n (x1_22, x2_22) = some e_22 → ss_R G h H → va_S (ss_A G) s.heap H locs → lv_has ls 3 [(0, ss_v (ss_b G) this), (1, .int x1_22), (2, .int x2_22)] → ww_T_digits p l e s m below meth c G this h rr  H locs 0 0 (F0 m 22 ls []) := by
      intro n
      induction n with
      | zero => intro x1_22 x2_22 H locs ls hm; cases hm
      | succ n ih_22 =>
        intro x1_22 x2_22 H locs ls hm hR hS hl
        obtain ⟨z_22, hm, hz1_22, hz2_22⟩ := ss_lps hm
        refine lv_iload_n hx hb dd_T_digits_22 rfl (lv_at hl 2 rfl) ?_
        refine ss_aload_n hx hb dd_T_digits_23 rfl (lv_at hl 0 rfl) ?_
        obtain ⟨v5, qv5, hm⟩ := ss_bind hm
        refine ss_geti hC hK hR kf_T_22 qv5 dd_T_digits_24 ?_
        refine lv_icmp_ge (tgt := 51) hx hb dd_T_digits_27 (by decide) (fun c6 => ?_) (fun c6 => ?_)
        · have hm := ss_ift hm c6
          exact X_22_51 x1_22  _ _ _ (hz2_22 _ (ss_some hm)) hR hS (lv_sub hl [1] rfl)
        · have hm := ss_iff hm c6
          refine lv_bipush (v := 10) hx hb dd_T_digits_30 (by decide) ?_
          refine lv_iload_n hx hb dd_T_digits_32 rfl (lv_at hl 1 rfl) ?_
          refine lv_imul hx hb dd_T_digits_33 ?_
          refine ss_aload_n hx hb dd_T_digits_34 rfl (lv_at hl 0 rfl) ?_
          obtain ⟨r7, qr7, hm⟩ := ss_bind hm
          refine ss_getr hC hK hR kf_T_11 rfl qr7 dd_T_digits_35 ?_
          refine lv_iload_n hx hb dd_T_digits_38 rfl (lv_at hl 2 rfl) ?_
          obtain ⟨v8, qv8, hm⟩ := ss_bind hm
          refine ss_iald hC hK hR qv8 dd_T_digits_39 ?_
          refine lv_iadd hx hb dd_T_digits_40 ?_
          refine lv_bipush (v := 48) hx hb dd_T_digits_41 (by decide) ?_
          refine lv_isub hx hb dd_T_digits_43 ?_
          obtain ⟨v9, qv9, hm⟩ := ss_bind hm
          refine ss_topi qv9 ?_
          refine lv_istore_n (lv' := [(1, .int v9), (0, ss_v (ss_b G) this), (2, .int x2_22)]) hx hb dd_T_digits_44 rfl hl (by decide) (by simp only [List.filter_cons, ss_v_cat]; rfl) (fun ls hl => ?_)
          obtain ⟨v10, qv10, hm⟩ := ss_bind hm
          refine lv_iinc (v := v10) (lv' := [(2, .int v10), (1, .int v9), (0, ss_v (ss_b G) this)]) hx hb dd_T_digits_45 hl (k := 2) rfl (ss_inc (by decide) qv10) (by decide) rfl (fun ls hl => ?_)
          refine lv_goto (tgt := 22) hx hb dd_T_digits_48 (by decide) ?_
          exact ih_22 v9 v10  _ _ _ (hz1_22 _ (ss_some hm)) hR hS (lv_sub hl [2, 1, 0] rfl)
    exact L_22 N (0 : Int32) v4 _ _ _ he_22 hR hS (lv_sub hl [2, 1, 0] rfl)
  · have hm := ss_iff hm c3
    refine lv_iconst (v := -1) hx hb dd_T_digits_13 (by decide) ?_
    exact ss_iret hC hr hlocks hR hS (ss_with _ hm) dd_T_digits_14
theorem dd_T_number_0 : decode bb_T_number 0 = .ok (.aload_n 0, 1) := by decide +kernel
theorem dd_T_number_1 : decode bb_T_number 1 = .ok (.invokevirtual 63, 3) := by decide +kernel
theorem dd_T_number_4 : decode bb_T_number 4 = .ok (.ifCond .ne 10, 3) := by decide +kernel
theorem dd_T_number_7 : decode bb_T_number 7 = .ok (.aload_n 0, 1) := by decide +kernel
theorem dd_T_number_8 : decode bb_T_number 8 = .ok (.iconst 0, 1) := by decide +kernel
theorem dd_T_number_9 : decode bb_T_number 9 = .ok (.invokevirtual 67, 3) := by decide +kernel
theorem dd_T_number_12 : decode bb_T_number 12 = .ok (.iconst (-1), 1) := by decide +kernel
theorem dd_T_number_13 : decode bb_T_number 13 = .ok (.ireturn, 1) := by decide +kernel
theorem dd_T_number_14 : decode bb_T_number 14 = .ok (.aload_n 0, 1) := by decide +kernel
theorem dd_T_number_15 : decode bb_T_number 15 = .ok (.invokevirtual 71, 3) := by decide +kernel
theorem dd_T_number_18 : decode bb_T_number 18 = .ok (.istore 4, 2) := by decide +kernel
theorem dd_T_number_20 : decode bb_T_number 20 = .ok (.iload 4, 2) := by decide +kernel
theorem dd_T_number_22 : decode bb_T_number 22 = .ok (.iconst (-1), 1) := by decide +kernel
theorem dd_T_number_23 : decode bb_T_number 23 = .ok (.if_icmp .eq 21, 3) := by decide +kernel
theorem dd_T_number_26 : decode bb_T_number 26 = .ok (.iload 4, 2) := by decide +kernel
theorem dd_T_number_28 : decode bb_T_number 28 = .ok (.iload_n 1, 1) := by decide +kernel
theorem dd_T_number_29 : decode bb_T_number 29 = .ok (.if_icmp .lt 15, 3) := by decide +kernel
theorem dd_T_number_32 : decode bb_T_number 32 = .ok (.iload 4, 2) := by decide +kernel
theorem dd_T_number_34 : decode bb_T_number 34 = .ok (.iload_n 2, 1) := by decide +kernel
theorem dd_T_number_35 : decode bb_T_number 35 = .ok (.if_icmp .gt 9, 3) := by decide +kernel
theorem dd_T_number_38 : decode bb_T_number 38 = .ok (.iload 4, 2) := by decide +kernel
theorem dd_T_number_40 : decode bb_T_number 40 = .ok (.iload_n 3, 1) := by decide +kernel
theorem dd_T_number_41 : decode bb_T_number 41 = .ok (.if_icmp .ne 10, 3) := by decide +kernel
theorem dd_T_number_44 : decode bb_T_number 44 = .ok (.aload_n 0, 1) := by decide +kernel
theorem dd_T_number_45 : decode bb_T_number 45 = .ok (.iconst 1, 1) := by decide +kernel
theorem dd_T_number_46 : decode bb_T_number 46 = .ok (.invokevirtual 67, 3) := by decide +kernel
theorem dd_T_number_49 : decode bb_T_number 49 = .ok (.iconst (-1), 1) := by decide +kernel
theorem dd_T_number_50 : decode bb_T_number 50 = .ok (.ireturn, 1) := by decide +kernel
theorem dd_T_number_51 : decode bb_T_number 51 = .ok (.aload_n 0, 1) := by decide +kernel
theorem dd_T_number_52 : decode bb_T_number 52 = .ok (.invokevirtual 25, 3) := by decide +kernel
theorem dd_T_number_55 : decode bb_T_number 55 = .ok (.iload 4, 2) := by decide +kernel
theorem dd_T_number_57 : decode bb_T_number 57 = .ok (.ireturn, 1) := by decide +kernel
def mm_T_number_j44 (N : Nat) (this : Option Nat) (a1 : Int32) (a2 : Int32) (a3 : Int32) (h_44 : ss_Hp) : Option (Int32 × ss_Hp) :=
  (mm_T_fail N this (1 : Int32) h_44).bind fun h1 =>
  some ((-1 : Int32), h1)
def mm_T_number (N : Nat) (this : Option Nat) (a1 : Int32) (a2 : Int32) (a3 : Int32) (h : ss_Hp) : Option (Int32 × ss_Hp) :=
  if ss_is h this 2 = true then
    (mm_T_isDigits N this h).bind fun v2 =>
    if v2 = 0 then
      (mm_T_fail N this (0 : Int32) h).bind fun h10 =>
      some ((-1 : Int32), h10)
    else
      (mm_T_digits N this h).bind fun v4 =>
      if v4 = (-1 : Int32) then
        mm_T_number_j44 N this a1 a2 a3 h
      else
        if v4 < a1 then
          mm_T_number_j44 N this a1 a2 a3 h
        else
          if a2 < v4 then
            mm_T_number_j44 N this a1 a2 a3 h
          else
            if v4 = a3 then
              mm_T_number_j44 N this a1 a2 a3 h
            else
              (mm_T_advance N this h).bind fun h9 =>
              some (v4, h9)
  else none
abbrev ww_T_number (p : Program) (l : Launch) (e : Env) (s : State) (m : MethodId) (below : List Frame) (meth : Method) (c : Code) (G : ss_G) (this : Option Nat) (a1 : Int32) (a2 : Int32) (a3 : Int32) (h : ss_Hp) (rr : Int32) (hh : ss_Hp) (H : Heap) (locs : List Loc) (k n : Nat) (g : JFrame) : Prop := W p l e (headSpec (ss_w yy_T_number bb_T_number 5 (some (.int))) ({ frames := 2, cells := 0, slots := 0, locals := 42 })).room s m ([ss_v (ss_b G) this, .int a1, .int a2, .int a3] : List Value).toArray below meth c H locs k n (MQ below (ss_Qc G (some (.int rr)) hh) ([ss_v (ss_b G) this, .int a1, .int a2, .int a3] : List Value).toArray s 0 0 (ss_A G)) g
theorem ck_T_number {N : Nat} {this : Option Nat} {a1 : Int32} {a2 : Int32} {a3 : Int32} {h : ss_Hp} {res : Int32 × ss_Hp} (hm : mm_T_number N this a1 a2 a3 h = some res) : ss_is h this 2 = true := (ss_chk hm).1
set_option maxHeartbeats 4000000 in
set_option maxRecDepth 100000 in
theorem cc_T_number (l : Launch) (G : ss_G) (N : Nat) (this : Option Nat) (a1 : Int32) (a2 : Int32) (a3 : Int32) (h : ss_Hp) (rr : Int32) (hh : ss_Hp) (hm : mm_T_number N this a1 a2 a3 h = some (rr, hh)) : ss_Ct l G yy_T_number bb_T_number 5 (some (.int)) ({ frames := 2, cells := 0, slots := 0, locals := 42 }) [ss_v (ss_b G) this, .int a1, .int a2, .int a3] h (some (.int rr)) hh := by
  obtain ⟨hck, hm⟩ := ss_chk hm
  refine Met.ofW (cc := bb_T_number) (maxL := 5) (ret := (some (.int))) (by decide) rfl ?_
  intro p e s m args below meth c s₁ B hml hv
  obtain ⟨rfl, hR, hK⟩ := hv
  have hC : CallFix p m c bb_T_number 5 s _ lw_g sR_2 := ⟨B.exec, B.bytes, hml, findClass_of_methodNamed B.named, fun w hw => atoms_spec (ws := ss_w yy_T_number bb_T_number 5 (some (.int))) B.pre w (List.mem_cons_of_mem _ hw)⟩
  have hx := hC.1
  have hb := hC.2.1
  have hr := B.returns
  have hlocks := B.notSynchronized
  have hS : va_S (ss_A G) s.heap s.heap [] := va_S.rf
  have hl := lv_entry ([ss_v (ss_b G) this, .int a1, .int a2, .int a3]) (n := 5) (by simp [lg_sl, ss_v_cat, ss_cat_i, ss_cat_l, ss_cat_r])
  rw [lg_entry_eq]
  generalize (lg_sl ([ss_v (ss_b G) this, .int a1, .int a2, .int a3]) ++ List.replicate (5 - (lg_sl ([ss_v (ss_b G) this, .int a1, .int a2, .int a3])).length) Slot.unset).toArray = ls at hl ⊢
  have hl : lv_has ls 5 [(0, ss_v (ss_b G) this), (1, .int a1), (2, .int a2), (3, .int a3)] := by simpa [lv_args, ss_v_cat, ss_cat_i, ss_cat_l, ss_cat_r] using hl
  have J_44 : ∀ (h_44 : ss_Hp) (H : Heap) (locs : List Loc) (ls : Array Slot), mm_T_number_j44 N this a1 a2 a3 h_44 = some (rr, hh) → ss_R G h_44 H → va_S (ss_A G) s.heap H locs → lv_has ls 5 [(0, ss_v (ss_b G) this)] → ww_T_number p l e s m below meth c G this a1 a2 a3 h rr hh  H locs 0 0 (F0 m 44 ls []) := by
    intro h_44 H locs ls hm hR hS hl
    refine ss_aload_n hx hb dd_T_number_44 rfl (lv_at hl 0 rfl) ?_
    refine lv_iconst (v := 1) hx hb dd_T_number_45 (by decide) ?_
    obtain ⟨h1, qh1, hm⟩ := ss_bind hm
    refine ss_cVv 0 0 (As := [.int (1 : Int32)]) hC hK hR hS hl.1 (cc_T_fail l G N _ _ _ _ qh1) km_T_67 (ck_T_fail qh1) ⟨Nat.le_of_ble_eq_true rfl, Nat.le_of_ble_eq_true rfl⟩ ⟨Nat.le_of_ble_eq_true rfl, Nat.le_of_ble_eq_true rfl, Nat.le_of_ble_eq_true rfl, Nat.le_of_ble_eq_true rfl⟩ rfl rfl (Nat.le_of_ble_eq_true rfl) dd_T_number_46 (fun H locs hR hS => ?_)
    refine lv_iconst (v := -1) hx hb dd_T_number_49 (by decide) ?_
    exact ss_iret hC hr hlocks hR hS hm dd_T_number_50
  refine ss_aload_n hx hb dd_T_number_0 rfl (lv_at hl 0 rfl) ?_
  obtain ⟨v2, qv2, hm⟩ := ss_bind hm
  refine ss_cV 0 0 (As := []) hC hK hR hS hl.1 (cc_T_isDigits l G N _ _ _ qv2) km_T_63 (ck_T_isDigits qv2) ⟨Nat.le_of_ble_eq_true rfl, Nat.le_of_ble_eq_true rfl⟩ ⟨Nat.le_of_ble_eq_true rfl, Nat.le_of_ble_eq_true rfl, Nat.le_of_ble_eq_true rfl, Nat.le_of_ble_eq_true rfl⟩ rfl rfl (Nat.le_of_ble_eq_true rfl) dd_T_number_1 (fun H locs hR hS => ?_)
  refine lv_if_ne (tgt := 14) hx hb dd_T_number_4 (by decide) (fun c3 => ?_) (fun c3 => ?_)
  · have hm := ss_iff hm c3
    refine ss_aload_n hx hb dd_T_number_14 rfl (lv_at hl 0 rfl) ?_
    obtain ⟨v4, qv4, hm⟩ := ss_bind hm
    refine ss_cV 0 0 (As := []) hC hK hR hS hl.1 (cc_T_digits l G N _ _ _ qv4) km_T_71 (ck_T_digits qv4) ⟨Nat.le_of_ble_eq_true rfl, Nat.le_of_ble_eq_true rfl⟩ ⟨Nat.le_of_ble_eq_true rfl, Nat.le_of_ble_eq_true rfl, Nat.le_of_ble_eq_true rfl, Nat.le_of_ble_eq_true rfl⟩ rfl rfl (Nat.le_of_ble_eq_true rfl) dd_T_number_15 (fun H locs hR hS => ?_)
    refine lv_istore (lv' := [(4, .int v4), (0, ss_v (ss_b G) this), (1, .int a1), (2, .int a2), (3, .int a3)]) hx hb dd_T_number_18 hl (by decide) rfl (fun ls hl => ?_)
    refine lv_iload hx hb dd_T_number_20 (lv_at hl 0 rfl) ?_
    refine lv_iconst (v := -1) hx hb dd_T_number_22 (by decide) ?_
    refine lv_icmp_eq (tgt := 44) hx hb dd_T_number_23 (by decide) (fun c5 => ?_) (fun c5 => ?_)
    · have hm := ss_ift hm c5
      exact J_44 h _ _ _ hm hR hS (lv_sub hl [1] rfl)
    · have hm := ss_iff hm c5
      refine lv_iload hx hb dd_T_number_26 (lv_at hl 0 rfl) ?_
      refine lv_iload_n hx hb dd_T_number_28 rfl (lv_at hl 2 rfl) ?_
      refine lv_icmp_lt (tgt := 44) hx hb dd_T_number_29 (by decide) (fun c6 => ?_) (fun c6 => ?_)
      · have hm := ss_ift hm c6
        exact J_44 h _ _ _ hm hR hS (lv_sub hl [1] rfl)
      · have hm := ss_iff hm c6
        refine lv_iload hx hb dd_T_number_32 (lv_at hl 0 rfl) ?_
        refine lv_iload_n hx hb dd_T_number_34 rfl (lv_at hl 3 rfl) ?_
        refine lv_icmp_gt (tgt := 44) hx hb dd_T_number_35 (by decide) (fun c7 => ?_) (fun c7 => ?_)
        · have hm := ss_ift hm c7
          exact J_44 h _ _ _ hm hR hS (lv_sub hl [1] rfl)
        · have hm := ss_iff hm c7
          refine lv_iload hx hb dd_T_number_38 (lv_at hl 0 rfl) ?_
          refine lv_iload_n hx hb dd_T_number_40 rfl (lv_at hl 4 rfl) ?_
          refine lv_icmp_ne (tgt := 51) hx hb dd_T_number_41 (by decide) (fun c8 => ?_) (fun c8 => ?_)
          · have hm := ss_iff hm c8
            refine ss_aload_n hx hb dd_T_number_51 rfl (lv_at hl 1 rfl) ?_
            obtain ⟨h9, qh9, hm⟩ := ss_bind hm
            refine ss_cVv 0 0 (As := []) hC hK hR hS hl.1 (cc_T_advance l G N _ _ _ qh9) km_T_25 (ck_T_advance qh9) ⟨Nat.le_of_ble_eq_true rfl, Nat.le_of_ble_eq_true rfl⟩ ⟨Nat.le_of_ble_eq_true rfl, Nat.le_of_ble_eq_true rfl, Nat.le_of_ble_eq_true rfl, Nat.le_of_ble_eq_true rfl⟩ rfl rfl (Nat.le_of_ble_eq_true rfl) dd_T_number_52 (fun H locs hR hS => ?_)
            refine lv_iload hx hb dd_T_number_55 (lv_at hl 0 rfl) ?_
            exact ss_iret hC hr hlocks hR hS hm dd_T_number_57
          · have hm := ss_ift hm c8
            exact J_44 h _ _ _ hm hR hS (lv_sub hl [1] rfl)
  · have hm := ss_ift hm c3
    refine ss_aload_n hx hb dd_T_number_7 rfl (lv_at hl 0 rfl) ?_
    refine lv_iconst (v := 0) hx hb dd_T_number_8 (by decide) ?_
    obtain ⟨h10, qh10, hm⟩ := ss_bind hm
    refine ss_cVv 0 0 (As := [.int (0 : Int32)]) hC hK hR hS hl.1 (cc_T_fail l G N _ _ _ _ qh10) km_T_67 (ck_T_fail qh10) ⟨Nat.le_of_ble_eq_true rfl, Nat.le_of_ble_eq_true rfl⟩ ⟨Nat.le_of_ble_eq_true rfl, Nat.le_of_ble_eq_true rfl, Nat.le_of_ble_eq_true rfl, Nat.le_of_ble_eq_true rfl⟩ rfl rfl (Nat.le_of_ble_eq_true rfl) dd_T_number_9 (fun H locs hR hS => ?_)
    refine lv_iconst (v := -1) hx hb dd_T_number_12 (by decide) ?_
    exact ss_iret hC hr hlocks hR hS hm dd_T_number_13
theorem dd_T_isWell_0 : decode bb_T_isWell 0 = .ok (.aload_n 0, 1) := by decide +kernel
theorem dd_T_isWell_1 : decode bb_T_isWell 1 = .ok (.getfield 19, 3) := by decide +kernel
theorem dd_T_isWell_4 : decode bb_T_isWell 4 = .ok (.ifCond .ne 7, 3) := by decide +kernel
theorem dd_T_isWell_7 : decode bb_T_isWell 7 = .ok (.iconst 1, 1) := by decide +kernel
theorem dd_T_isWell_8 : decode bb_T_isWell 8 = .ok (.goto 4, 3) := by decide +kernel
theorem dd_T_isWell_11 : decode bb_T_isWell 11 = .ok (.iconst 0, 1) := by decide +kernel
theorem dd_T_isWell_12 : decode bb_T_isWell 12 = .ok (.ireturn, 1) := by decide +kernel
def mm_T_isWell_j12 (N : Nat) (this : Option Nat) (h : ss_Hp) (s0_12 : Int32) : Option Int32 :=
  (ss_bz s0_12).bind fun v1 =>
  some v1
def mm_T_isWell (N : Nat) (this : Option Nat) (h : ss_Hp) : Option Int32 :=
  if ss_is h this 2 = true then
    (ss_gi h this 2 1).bind fun v2 =>
    if v2 = 0 then
      mm_T_isWell_j12 N this h (1 : Int32)
    else
      mm_T_isWell_j12 N this h (0 : Int32)
  else none
abbrev ww_T_isWell (p : Program) (l : Launch) (e : Env) (s : State) (m : MethodId) (below : List Frame) (meth : Method) (c : Code) (G : ss_G) (this : Option Nat) (h : ss_Hp) (rr : Int32) (H : Heap) (locs : List Loc) (k n : Nat) (g : JFrame) : Prop := W p l e (headSpec (ss_w yy_T_isWell bb_T_isWell 1 (some .boolean)) ({ frames := 0, cells := 0, slots := 0, locals := 0 })).room s m ([ss_v (ss_b G) this] : List Value).toArray below meth c H locs k n (MQ below (ss_Qc G (some (.int rr)) h) ([ss_v (ss_b G) this] : List Value).toArray s 0 0 (ss_A G)) g
theorem ck_T_isWell {N : Nat} {this : Option Nat} {h : ss_Hp} {res : Int32} (hm : mm_T_isWell N this h = some res) : ss_is h this 2 = true := (ss_chk hm).1
set_option maxHeartbeats 4000000 in
set_option maxRecDepth 100000 in
theorem cc_T_isWell (l : Launch) (G : ss_G) (N : Nat) (this : Option Nat) (h : ss_Hp) (rr : Int32) (hm : mm_T_isWell N this h = some rr) : ss_Ct l G yy_T_isWell bb_T_isWell 1 (some .boolean) ({ frames := 0, cells := 0, slots := 0, locals := 0 }) [ss_v (ss_b G) this] h (some (.int rr)) h := by
  obtain ⟨hck, hm⟩ := ss_chk hm
  refine Met.ofW (cc := bb_T_isWell) (maxL := 1) (ret := (some .boolean)) (by decide) rfl ?_
  intro p e s m args below meth c s₁ B hml hv
  obtain ⟨rfl, hR, hK⟩ := hv
  have hC : CallFix p m c bb_T_isWell 1 s _ lw_g sR_2 := ⟨B.exec, B.bytes, hml, findClass_of_methodNamed B.named, fun w hw => atoms_spec (ws := ss_w yy_T_isWell bb_T_isWell 1 (some .boolean)) B.pre w (List.mem_cons_of_mem _ hw)⟩
  have hx := hC.1
  have hb := hC.2.1
  have hr := B.returns
  have hlocks := B.notSynchronized
  have hS : va_S (ss_A G) s.heap s.heap [] := va_S.rf
  have hl := lv_entry ([ss_v (ss_b G) this]) (n := 1) (by simp [lg_sl, ss_v_cat, ss_cat_i, ss_cat_l, ss_cat_r])
  rw [lg_entry_eq]
  generalize (lg_sl ([ss_v (ss_b G) this]) ++ List.replicate (1 - (lg_sl ([ss_v (ss_b G) this])).length) Slot.unset).toArray = ls at hl ⊢
  have hl : lv_has ls 1 [(0, ss_v (ss_b G) this)] := by simpa [lv_args, ss_v_cat, ss_cat_i, ss_cat_l, ss_cat_r] using hl
  have J_12 : ∀ (s0_12 : Int32) (H : Heap) (locs : List Loc) (ls : Array Slot), mm_T_isWell_j12 N this h s0_12 = some rr → ss_R G h H → va_S (ss_A G) s.heap H locs → lv_has ls 1 [] → ww_T_isWell p l e s m below meth c G this h rr  H locs 0 0 (F0 m 12 ls [.int s0_12]) := by
    intro s0_12 H locs ls hm hR hS hl
    obtain ⟨v1, qv1, hm⟩ := ss_bind hm
    obtain ⟨hnb, rfl⟩ := ss_bzs qv1
    exact ss_zret hC hr hnb hlocks hR hS (ss_with _ hm) dd_T_isWell_12
  refine ss_aload_n hx hb dd_T_isWell_0 rfl (lv_at hl 0 rfl) ?_
  obtain ⟨v2, qv2, hm⟩ := ss_bind hm
  refine ss_geti hC hK hR kf_T_19 qv2 dd_T_isWell_1 ?_
  refine lv_if_ne (tgt := 11) hx hb dd_T_isWell_4 (by decide) (fun c3 => ?_) (fun c3 => ?_)
  · have hm := ss_iff hm c3
    refine lv_iconst (v := 0) hx hb dd_T_isWell_11 (by decide) ?_
    exact J_12 (0 : Int32)  _ _ _ hm hR hS (lv_sub hl [] rfl)
  · have hm := ss_ift hm c3
    refine lv_iconst (v := 1) hx hb dd_T_isWell_7 (by decide) ?_
    refine lv_goto (tgt := 12) hx hb dd_T_isWell_8 (by decide) ?_
    exact J_12 (1 : Int32)  _ _ _ hm hR hS (lv_sub hl [] rfl)
theorem dd_VR_readMeasures_0 : decode bb_VR_readMeasures 0 = .ok (.aload_n 0, 1) := by decide +kernel
theorem dd_VR_readMeasures_1 : decode bb_VR_readMeasures 1 = .ok (.getfield 18, 3) := by decide +kernel
theorem dd_VR_readMeasures_4 : decode bb_VR_readMeasures 4 = .ok (.aload_n 0, 1) := by decide +kernel
theorem dd_VR_readMeasures_5 : decode bb_VR_readMeasures 5 = .ok (.getfield 9, 3) := by decide +kernel
theorem dd_VR_readMeasures_8 : decode bb_VR_readMeasures 8 = .ok (.iconst 1, 1) := by decide +kernel
theorem dd_VR_readMeasures_9 : decode bb_VR_readMeasures 9 = .ok (.bipush 9, 2) := by decide +kernel
theorem dd_VR_readMeasures_11 : decode bb_VR_readMeasures 11 = .ok (.iconst (-1), 1) := by decide +kernel
theorem dd_VR_readMeasures_12 : decode bb_VR_readMeasures 12 = .ok (.invokevirtual 82, 3) := by decide +kernel
theorem dd_VR_readMeasures_15 : decode bb_VR_readMeasures 15 = .ok (.putfield 86, 3) := by decide +kernel
theorem dd_VR_readMeasures_18 : decode bb_VR_readMeasures 18 = .ok (.aload_n 0, 1) := by decide +kernel
theorem dd_VR_readMeasures_19 : decode bb_VR_readMeasures 19 = .ok (.getfield 9, 3) := by decide +kernel
theorem dd_VR_readMeasures_22 : decode bb_VR_readMeasures 22 = .ok (.invokevirtual 38, 3) := by decide +kernel
theorem dd_VR_readMeasures_25 : decode bb_VR_readMeasures 25 = .ok (.ifCond .eq 21, 3) := by decide +kernel
theorem dd_VR_readMeasures_28 : decode bb_VR_readMeasures 28 = .ok (.aload_n 0, 1) := by decide +kernel
theorem dd_VR_readMeasures_29 : decode bb_VR_readMeasures 29 = .ok (.getfield 18, 3) := by decide +kernel
theorem dd_VR_readMeasures_32 : decode bb_VR_readMeasures 32 = .ok (.aload_n 0, 1) := by decide +kernel
theorem dd_VR_readMeasures_33 : decode bb_VR_readMeasures 33 = .ok (.getfield 9, 3) := by decide +kernel
theorem dd_VR_readMeasures_36 : decode bb_VR_readMeasures 36 = .ok (.iconst 1, 1) := by decide +kernel
theorem dd_VR_readMeasures_37 : decode bb_VR_readMeasures 37 = .ok (.bipush 30, 2) := by decide +kernel
theorem dd_VR_readMeasures_39 : decode bb_VR_readMeasures 39 = .ok (.iconst (-1), 1) := by decide +kernel
theorem dd_VR_readMeasures_40 : decode bb_VR_readMeasures 40 = .ok (.invokevirtual 82, 3) := by decide +kernel
theorem dd_VR_readMeasures_43 : decode bb_VR_readMeasures 43 = .ok (.putfield 89, 3) := by decide +kernel
theorem dd_VR_readMeasures_46 : decode bb_VR_readMeasures 46 = .ok (.return_, 1) := by decide +kernel
def mm_VR_readMeasures_j46 (N : Nat) (this : Option Nat) (h_46 : ss_Hp) : Option ss_Hp :=
  some h_46
def mm_VR_readMeasures (N : Nat) (this : Option Nat) (h : ss_Hp) : Option ss_Hp :=
  if ss_is h this 6 = true then
    (ss_gr h this 6 1).bind fun r1 =>
    (ss_gr h this 6 0).bind fun r2 =>
    ss_b2 (mm_T_number N r2 (1 : Int32) (9 : Int32) (-1 : Int32) h) fun v3 h4 =>
    (ss_pi h4 r1 5 1 v3).bind fun h5 =>
    (ss_gr h5 this 6 0).bind fun r6 =>
    (mm_T_isWell N r6 h5).bind fun v7 =>
    if v7 = 0 then
      mm_VR_readMeasures_j46 N this h5
    else
      (ss_gr h5 this 6 1).bind fun r9 =>
      (ss_gr h5 this 6 0).bind fun r10 =>
      ss_b2 (mm_T_number N r10 (1 : Int32) (30 : Int32) (-1 : Int32) h5) fun v11 h12 =>
      (ss_pi h12 r9 5 2 v11).bind fun h13 =>
      mm_VR_readMeasures_j46 N this h13
  else none
abbrev ww_VR_readMeasures (p : Program) (l : Launch) (e : Env) (s : State) (m : MethodId) (below : List Frame) (meth : Method) (c : Code) (G : ss_G) (this : Option Nat) (h : ss_Hp) (hh : ss_Hp) (H : Heap) (locs : List Loc) (k n : Nat) (g : JFrame) : Prop := W p l e (headSpec (ss_w yy_VR_readMeasures bb_VR_readMeasures 1 none) ({ frames := 3, cells := 0, slots := 0, locals := 66 })).room s m ([ss_v (ss_b G) this] : List Value).toArray below meth c H locs k n (MQ below (ss_Qc G none hh) ([ss_v (ss_b G) this] : List Value).toArray s 0 0 (ss_A G)) g
theorem ck_VR_readMeasures {N : Nat} {this : Option Nat} {h : ss_Hp} {res : ss_Hp} (hm : mm_VR_readMeasures N this h = some res) : ss_is h this 6 = true := (ss_chk hm).1
set_option maxHeartbeats 4000000 in
set_option maxRecDepth 100000 in
theorem cc_VR_readMeasures (l : Launch) (G : ss_G) (N : Nat) (this : Option Nat) (h : ss_Hp) (hh : ss_Hp) (hm : mm_VR_readMeasures N this h = some hh) : ss_Ct l G yy_VR_readMeasures bb_VR_readMeasures 1 none ({ frames := 3, cells := 0, slots := 0, locals := 66 }) [ss_v (ss_b G) this] h none hh := by
  obtain ⟨hck, hm⟩ := ss_chk hm
  refine Met.ofW (cc := bb_VR_readMeasures) (maxL := 1) (ret := none) (by decide) rfl ?_
  intro p e s m args below meth c s₁ B hml hv
  obtain ⟨rfl, hR, hK⟩ := hv
  have hC : CallFix p m c bb_VR_readMeasures 1 s _ lw_g sR_6 := ⟨B.exec, B.bytes, hml, findClass_of_methodNamed B.named, fun w hw => atoms_spec (ws := ss_w yy_VR_readMeasures bb_VR_readMeasures 1 none) B.pre w (List.mem_cons_of_mem _ hw)⟩
  have hx := hC.1
  have hb := hC.2.1
  have hr := B.returns
  have hlocks := B.notSynchronized
  have hS : va_S (ss_A G) s.heap s.heap [] := va_S.rf
  have hl := lv_entry ([ss_v (ss_b G) this]) (n := 1) (by simp [lg_sl, ss_v_cat, ss_cat_i, ss_cat_l, ss_cat_r])
  rw [lg_entry_eq]
  generalize (lg_sl ([ss_v (ss_b G) this]) ++ List.replicate (1 - (lg_sl ([ss_v (ss_b G) this])).length) Slot.unset).toArray = ls at hl ⊢
  have hl : lv_has ls 1 [(0, ss_v (ss_b G) this)] := by simpa [lv_args, ss_v_cat, ss_cat_i, ss_cat_l, ss_cat_r] using hl
  have J_46 : ∀ (h_46 : ss_Hp) (H : Heap) (locs : List Loc) (ls : Array Slot), mm_VR_readMeasures_j46 N this h_46 = some hh → ss_R G h_46 H → va_S (ss_A G) s.heap H locs → lv_has ls 1 [] → ww_VR_readMeasures p l e s m below meth c G this h hh  H locs 0 0 (F0 m 46 ls []) := by
    intro h_46 H locs ls hm hR hS hl
    exact ss_vret hC hr hlocks hR hS hm dd_VR_readMeasures_46
  refine ss_aload_n hx hb dd_VR_readMeasures_0 rfl (lv_at hl 0 rfl) ?_
  obtain ⟨r1, qr1, hm⟩ := ss_bind hm
  refine ss_getr hC hK hR kf_VR_18 rfl qr1 dd_VR_readMeasures_1 ?_
  refine ss_aload_n hx hb dd_VR_readMeasures_4 rfl (lv_at hl 0 rfl) ?_
  obtain ⟨r2, qr2, hm⟩ := ss_bind hm
  refine ss_getr hC hK hR kf_VR_9 rfl qr2 dd_VR_readMeasures_5 ?_
  refine lv_iconst (v := 1) hx hb dd_VR_readMeasures_8 (by decide) ?_
  refine lv_bipush (v := 9) hx hb dd_VR_readMeasures_9 (by decide) ?_
  refine lv_iconst (v := -1) hx hb dd_VR_readMeasures_11 (by decide) ?_
  obtain ⟨v3, h4, qh4, hm⟩ := ss_bind2 hm
  refine ss_cV 0 0 (As := [.int (1 : Int32), .int (9 : Int32), .int (-1 : Int32)]) hC hK hR hS hl.1 (cc_T_number l G N _ _ _ _ _ _ _ qh4) km_VR_82 (ck_T_number qh4) ⟨Nat.le_of_ble_eq_true rfl, Nat.le_of_ble_eq_true rfl⟩ ⟨Nat.le_of_ble_eq_true rfl, Nat.le_of_ble_eq_true rfl, Nat.le_of_ble_eq_true rfl, Nat.le_of_ble_eq_true rfl⟩ rfl rfl (by simp [ss_v_cat, ss_cat_i, ss_cat_l, ss_cat_r]) dd_VR_readMeasures_12 (fun H locs hR hS => ?_)
  obtain ⟨h5, qh5, hm⟩ := ss_bind hm
  refine ss_puti hC hK hR hS kp_VR_86 qh5 dd_VR_readMeasures_15 (fun H locs hR hS => ?_)
  refine ss_aload_n hx hb dd_VR_readMeasures_18 rfl (lv_at hl 0 rfl) ?_
  obtain ⟨r6, qr6, hm⟩ := ss_bind hm
  refine ss_getr hC hK hR kf_VR_9 rfl qr6 dd_VR_readMeasures_19 ?_
  obtain ⟨v7, qv7, hm⟩ := ss_bind hm
  refine ss_cV 0 0 (As := []) hC hK hR hS hl.1 (cc_T_isWell l G N _ _ _ qv7) km_VR_38 (ck_T_isWell qv7) ⟨Nat.le_of_ble_eq_true rfl, Nat.le_of_ble_eq_true rfl⟩ ⟨Nat.le_of_ble_eq_true rfl, Nat.le_of_ble_eq_true rfl, Nat.le_of_ble_eq_true rfl, Nat.le_of_ble_eq_true rfl⟩ rfl rfl (Nat.le_of_ble_eq_true rfl) dd_VR_readMeasures_22 (fun H locs hR hS => ?_)
  refine lv_if_eq (tgt := 46) hx hb dd_VR_readMeasures_25 (by decide) (fun c8 => ?_) (fun c8 => ?_)
  · have hm := ss_ift hm c8
    exact J_46 h5 _ _ _ hm hR hS (lv_sub hl [] rfl)
  · have hm := ss_iff hm c8
    refine ss_aload_n hx hb dd_VR_readMeasures_28 rfl (lv_at hl 0 rfl) ?_
    obtain ⟨r9, qr9, hm⟩ := ss_bind hm
    refine ss_getr hC hK hR kf_VR_18 rfl qr9 dd_VR_readMeasures_29 ?_
    refine ss_aload_n hx hb dd_VR_readMeasures_32 rfl (lv_at hl 0 rfl) ?_
    obtain ⟨r10, qr10, hm⟩ := ss_bind hm
    refine ss_getr hC hK hR kf_VR_9 rfl qr10 dd_VR_readMeasures_33 ?_
    refine lv_iconst (v := 1) hx hb dd_VR_readMeasures_36 (by decide) ?_
    refine lv_bipush (v := 30) hx hb dd_VR_readMeasures_37 (by decide) ?_
    refine lv_iconst (v := -1) hx hb dd_VR_readMeasures_39 (by decide) ?_
    obtain ⟨v11, h12, qh12, hm⟩ := ss_bind2 hm
    refine ss_cV 0 0 (As := [.int (1 : Int32), .int (30 : Int32), .int (-1 : Int32)]) hC hK hR hS hl.1 (cc_T_number l G N _ _ _ _ _ _ _ qh12) km_VR_82 (ck_T_number qh12) ⟨Nat.le_of_ble_eq_true rfl, Nat.le_of_ble_eq_true rfl⟩ ⟨Nat.le_of_ble_eq_true rfl, Nat.le_of_ble_eq_true rfl, Nat.le_of_ble_eq_true rfl, Nat.le_of_ble_eq_true rfl⟩ rfl rfl (by simp [ss_v_cat, ss_cat_i, ss_cat_l, ss_cat_r]) dd_VR_readMeasures_40 (fun H locs hR hS => ?_)
    obtain ⟨h13, qh13, hm⟩ := ss_bind hm
    refine ss_puti hC hK hR hS kp_VR_89 qh13 dd_VR_readMeasures_43 (fun H locs hR hS => ?_)
    exact J_46 h13 _ _ _ hm hR hS (lv_sub hl [] rfl)
theorem dd_VR_readStep_0 : decode bb_VR_readStep 0 = .ok (.aload_n 0, 1) := by decide +kernel
theorem dd_VR_readStep_1 : decode bb_VR_readStep 1 = .ok (.getfield 9, 3) := by decide +kernel
theorem dd_VR_readStep_4 : decode bb_VR_readStep 4 = .ok (.iconst 0, 1) := by decide +kernel
theorem dd_VR_readStep_5 : decode bb_VR_readStep 5 = .ok (.bipush 99, 2) := by decide +kernel
theorem dd_VR_readStep_7 : decode bb_VR_readStep 7 = .ok (.iconst (-1), 1) := by decide +kernel
theorem dd_VR_readStep_8 : decode bb_VR_readStep 8 = .ok (.invokevirtual 82, 3) := by decide +kernel
theorem dd_VR_readStep_11 : decode bb_VR_readStep 11 = .ok (.istore_n 1, 1) := by decide +kernel
theorem dd_VR_readStep_12 : decode bb_VR_readStep 12 = .ok (.aload_n 0, 1) := by decide +kernel
theorem dd_VR_readStep_13 : decode bb_VR_readStep 13 = .ok (.getfield 9, 3) := by decide +kernel
theorem dd_VR_readStep_16 : decode bb_VR_readStep 16 = .ok (.invokevirtual 38, 3) := by decide +kernel
theorem dd_VR_readStep_19 : decode bb_VR_readStep 19 = .ok (.ifCond .eq 47, 3) := by decide +kernel
theorem dd_VR_readStep_22 : decode bb_VR_readStep 22 = .ok (.aload_n 0, 1) := by decide +kernel
theorem dd_VR_readStep_23 : decode bb_VR_readStep 23 = .ok (.getfield 18, 3) := by decide +kernel
theorem dd_VR_readStep_26 : decode bb_VR_readStep 26 = .ok (.getfield 75, 3) := by decide +kernel
theorem dd_VR_readStep_29 : decode bb_VR_readStep 29 = .ok (.bipush 8, 2) := by decide +kernel
theorem dd_VR_readStep_31 : decode bb_VR_readStep 31 = .ok (.if_icmp .ge 35, 3) := by decide +kernel
theorem dd_VR_readStep_34 : decode bb_VR_readStep 34 = .ok (.aload_n 0, 1) := by decide +kernel
theorem dd_VR_readStep_35 : decode bb_VR_readStep 35 = .ok (.getfield 18, 3) := by decide +kernel
theorem dd_VR_readStep_38 : decode bb_VR_readStep 38 = .ok (.getfield 92, 3) := by decide +kernel
theorem dd_VR_readStep_41 : decode bb_VR_readStep 41 = .ok (.getfield 96, 3) := by decide +kernel
theorem dd_VR_readStep_44 : decode bb_VR_readStep 44 = .ok (.aload_n 0, 1) := by decide +kernel
theorem dd_VR_readStep_45 : decode bb_VR_readStep 45 = .ok (.getfield 18, 3) := by decide +kernel
theorem dd_VR_readStep_48 : decode bb_VR_readStep 48 = .ok (.getfield 75, 3) := by decide +kernel
theorem dd_VR_readStep_51 : decode bb_VR_readStep 51 = .ok (.iload_n 1, 1) := by decide +kernel
theorem dd_VR_readStep_52 : decode bb_VR_readStep 52 = .ok (.iastore, 1) := by decide +kernel
theorem dd_VR_readStep_53 : decode bb_VR_readStep 53 = .ok (.aload_n 0, 1) := by decide +kernel
theorem dd_VR_readStep_54 : decode bb_VR_readStep 54 = .ok (.getfield 18, 3) := by decide +kernel
theorem dd_VR_readStep_57 : decode bb_VR_readStep 57 = .ok (.dup, 1) := by decide +kernel
theorem dd_VR_readStep_58 : decode bb_VR_readStep 58 = .ok (.getfield 75, 3) := by decide +kernel
theorem dd_VR_readStep_61 : decode bb_VR_readStep 61 = .ok (.iconst 1, 1) := by decide +kernel
theorem dd_VR_readStep_62 : decode bb_VR_readStep 62 = .ok (.iadd, 1) := by decide +kernel
theorem dd_VR_readStep_63 : decode bb_VR_readStep 63 = .ok (.putfield 75, 3) := by decide +kernel
theorem dd_VR_readStep_66 : decode bb_VR_readStep 66 = .ok (.return_, 1) := by decide +kernel
def mm_VR_readStep_j66 (N : Nat) (this : Option Nat) (h_66 : ss_Hp) : Option ss_Hp :=
  some h_66
def mm_VR_readStep (N : Nat) (this : Option Nat) (h : ss_Hp) : Option ss_Hp :=
  if ss_is h this 6 = true then
    (ss_gr h this 6 0).bind fun r1 =>
    ss_b2 (mm_T_number N r1 (0 : Int32) (99 : Int32) (-1 : Int32) h) fun v2 h3 =>
    (ss_gr h3 this 6 0).bind fun r4 =>
    (mm_T_isWell N r4 h3).bind fun v5 =>
    if v5 = 0 then
      mm_VR_readStep_j66 N this h3
    else
      (ss_gr h3 this 6 1).bind fun r7 =>
      (ss_gi h3 r7 5 3).bind fun v8 =>
      if (8 : Int32) ≤ v8 then
        mm_VR_readStep_j66 N this h3
      else
        (ss_gr h3 this 6 1).bind fun r10 =>
        (ss_gr h3 r10 5 4).bind fun r11 =>
        (ss_gr h3 r11 0 0).bind fun r12 =>
        (ss_gr h3 this 6 1).bind fun r13 =>
        (ss_gi h3 r13 5 3).bind fun v14 =>
        (ss_ui h3 r12 20 v14 v2).bind fun h15 =>
        (ss_gr h15 this 6 1).bind fun r16 =>
        (ss_gi h15 r16 5 3).bind fun v17 =>
        (ss_pi h15 r16 5 3 (v17 + (1 : Int32))).bind fun h18 =>
        mm_VR_readStep_j66 N this h18
  else none
abbrev ww_VR_readStep (p : Program) (l : Launch) (e : Env) (s : State) (m : MethodId) (below : List Frame) (meth : Method) (c : Code) (G : ss_G) (this : Option Nat) (h : ss_Hp) (hh : ss_Hp) (H : Heap) (locs : List Loc) (k n : Nat) (g : JFrame) : Prop := W p l e (headSpec (ss_w yy_VR_readStep bb_VR_readStep 2 none) ({ frames := 3, cells := 0, slots := 0, locals := 66 })).room s m ([ss_v (ss_b G) this] : List Value).toArray below meth c H locs k n (MQ below (ss_Qc G none hh) ([ss_v (ss_b G) this] : List Value).toArray s 0 0 (ss_A G)) g
theorem ck_VR_readStep {N : Nat} {this : Option Nat} {h : ss_Hp} {res : ss_Hp} (hm : mm_VR_readStep N this h = some res) : ss_is h this 6 = true := (ss_chk hm).1
set_option maxHeartbeats 4000000 in
set_option maxRecDepth 100000 in
theorem cc_VR_readStep (l : Launch) (G : ss_G) (N : Nat) (this : Option Nat) (h : ss_Hp) (hh : ss_Hp) (hm : mm_VR_readStep N this h = some hh) : ss_Ct l G yy_VR_readStep bb_VR_readStep 2 none ({ frames := 3, cells := 0, slots := 0, locals := 66 }) [ss_v (ss_b G) this] h none hh := by
  obtain ⟨hck, hm⟩ := ss_chk hm
  refine Met.ofW (cc := bb_VR_readStep) (maxL := 2) (ret := none) (by decide) rfl ?_
  intro p e s m args below meth c s₁ B hml hv
  obtain ⟨rfl, hR, hK⟩ := hv
  have hC : CallFix p m c bb_VR_readStep 2 s _ lw_g sR_6 := ⟨B.exec, B.bytes, hml, findClass_of_methodNamed B.named, fun w hw => atoms_spec (ws := ss_w yy_VR_readStep bb_VR_readStep 2 none) B.pre w (List.mem_cons_of_mem _ hw)⟩
  have hx := hC.1
  have hb := hC.2.1
  have hr := B.returns
  have hlocks := B.notSynchronized
  have hS : va_S (ss_A G) s.heap s.heap [] := va_S.rf
  have hl := lv_entry ([ss_v (ss_b G) this]) (n := 2) (by simp [lg_sl, ss_v_cat, ss_cat_i, ss_cat_l, ss_cat_r])
  rw [lg_entry_eq]
  generalize (lg_sl ([ss_v (ss_b G) this]) ++ List.replicate (2 - (lg_sl ([ss_v (ss_b G) this])).length) Slot.unset).toArray = ls at hl ⊢
  have hl : lv_has ls 2 [(0, ss_v (ss_b G) this)] := by simpa [lv_args, ss_v_cat, ss_cat_i, ss_cat_l, ss_cat_r] using hl
  have J_66 : ∀ (h_66 : ss_Hp) (H : Heap) (locs : List Loc) (ls : Array Slot), mm_VR_readStep_j66 N this h_66 = some hh → ss_R G h_66 H → va_S (ss_A G) s.heap H locs → lv_has ls 2 [] → ww_VR_readStep p l e s m below meth c G this h hh  H locs 0 0 (F0 m 66 ls []) := by
    intro h_66 H locs ls hm hR hS hl
    exact ss_vret hC hr hlocks hR hS hm dd_VR_readStep_66
  refine ss_aload_n hx hb dd_VR_readStep_0 rfl (lv_at hl 0 rfl) ?_
  obtain ⟨r1, qr1, hm⟩ := ss_bind hm
  refine ss_getr hC hK hR kf_VR_9 rfl qr1 dd_VR_readStep_1 ?_
  refine lv_iconst (v := 0) hx hb dd_VR_readStep_4 (by decide) ?_
  refine lv_bipush (v := 99) hx hb dd_VR_readStep_5 (by decide) ?_
  refine lv_iconst (v := -1) hx hb dd_VR_readStep_7 (by decide) ?_
  obtain ⟨v2, h3, qh3, hm⟩ := ss_bind2 hm
  refine ss_cV 0 0 (As := [.int (0 : Int32), .int (99 : Int32), .int (-1 : Int32)]) hC hK hR hS hl.1 (cc_T_number l G N _ _ _ _ _ _ _ qh3) km_VR_82 (ck_T_number qh3) ⟨Nat.le_of_ble_eq_true rfl, Nat.le_of_ble_eq_true rfl⟩ ⟨Nat.le_of_ble_eq_true rfl, Nat.le_of_ble_eq_true rfl, Nat.le_of_ble_eq_true rfl, Nat.le_of_ble_eq_true rfl⟩ rfl rfl (Nat.le_of_ble_eq_true rfl) dd_VR_readStep_8 (fun H locs hR hS => ?_)
  refine lv_istore_n (lv' := [(1, .int v2), (0, ss_v (ss_b G) this)]) hx hb dd_VR_readStep_11 rfl hl (by decide) (by simp only [List.filter_cons, ss_v_cat]; rfl) (fun ls hl => ?_)
  refine ss_aload_n hx hb dd_VR_readStep_12 rfl (lv_at hl 1 rfl) ?_
  obtain ⟨r4, qr4, hm⟩ := ss_bind hm
  refine ss_getr hC hK hR kf_VR_9 rfl qr4 dd_VR_readStep_13 ?_
  obtain ⟨v5, qv5, hm⟩ := ss_bind hm
  refine ss_cV 0 0 (As := []) hC hK hR hS hl.1 (cc_T_isWell l G N _ _ _ qv5) km_VR_38 (ck_T_isWell qv5) ⟨Nat.le_of_ble_eq_true rfl, Nat.le_of_ble_eq_true rfl⟩ ⟨Nat.le_of_ble_eq_true rfl, Nat.le_of_ble_eq_true rfl, Nat.le_of_ble_eq_true rfl, Nat.le_of_ble_eq_true rfl⟩ rfl rfl (Nat.le_of_ble_eq_true rfl) dd_VR_readStep_16 (fun H locs hR hS => ?_)
  refine lv_if_eq (tgt := 66) hx hb dd_VR_readStep_19 (by decide) (fun c6 => ?_) (fun c6 => ?_)
  · have hm := ss_ift hm c6
    exact J_66 h3 _ _ _ hm hR hS (lv_sub hl [] rfl)
  · have hm := ss_iff hm c6
    refine ss_aload_n hx hb dd_VR_readStep_22 rfl (lv_at hl 1 rfl) ?_
    obtain ⟨r7, qr7, hm⟩ := ss_bind hm
    refine ss_getr hC hK hR kf_VR_18 rfl qr7 dd_VR_readStep_23 ?_
    obtain ⟨v8, qv8, hm⟩ := ss_bind hm
    refine ss_geti hC hK hR kf_VR_75 qv8 dd_VR_readStep_26 ?_
    refine lv_bipush (v := 8) hx hb dd_VR_readStep_29 (by decide) ?_
    refine lv_icmp_ge (tgt := 66) hx hb dd_VR_readStep_31 (by decide) (fun c9 => ?_) (fun c9 => ?_)
    · have hm := ss_ift hm c9
      exact J_66 h3 _ _ _ hm hR hS (lv_sub hl [] rfl)
    · have hm := ss_iff hm c9
      refine ss_aload_n hx hb dd_VR_readStep_34 rfl (lv_at hl 1 rfl) ?_
      obtain ⟨r10, qr10, hm⟩ := ss_bind hm
      refine ss_getr hC hK hR kf_VR_18 rfl qr10 dd_VR_readStep_35 ?_
      obtain ⟨r11, qr11, hm⟩ := ss_bind hm
      refine ss_getr hC hK hR kf_VR_92 rfl qr11 dd_VR_readStep_38 ?_
      obtain ⟨r12, qr12, hm⟩ := ss_bind hm
      refine ss_getr hC hK hR kf_VR_96 rfl qr12 dd_VR_readStep_41 ?_
      refine ss_aload_n hx hb dd_VR_readStep_44 rfl (lv_at hl 1 rfl) ?_
      obtain ⟨r13, qr13, hm⟩ := ss_bind hm
      refine ss_getr hC hK hR kf_VR_18 rfl qr13 dd_VR_readStep_45 ?_
      obtain ⟨v14, qv14, hm⟩ := ss_bind hm
      refine ss_geti hC hK hR kf_VR_75 qv14 dd_VR_readStep_48 ?_
      refine lv_iload_n hx hb dd_VR_readStep_51 rfl (lv_at hl 0 rfl) ?_
      obtain ⟨h15, qh15, hm⟩ := ss_bind hm
      refine ss_iast hC hK hR hS qh15 dd_VR_readStep_52 (fun H locs hR hS => ?_)
      refine ss_aload_n hx hb dd_VR_readStep_53 rfl (lv_at hl 1 rfl) ?_
      obtain ⟨r16, qr16, hm⟩ := ss_bind hm
      refine ss_getr hC hK hR kf_VR_18 rfl qr16 dd_VR_readStep_54 ?_
      refine ss_dupr hx hb dd_VR_readStep_57 ?_
      obtain ⟨v17, qv17, hm⟩ := ss_bind hm
      refine ss_geti hC hK hR kf_VR_75 qv17 dd_VR_readStep_58 ?_
      refine lv_iconst (v := 1) hx hb dd_VR_readStep_61 (by decide) ?_
      refine lv_iadd hx hb dd_VR_readStep_62 ?_
      obtain ⟨h18, qh18, hm⟩ := ss_bind hm
      refine ss_puti hC hK hR hS kp_VR_75 qh18 dd_VR_readStep_63 (fun H locs hR hS => ?_)
      exact J_66 h18 _ _ _ hm hR hS (lv_sub hl [] rfl)
theorem dd_VR_readToldStep_0 : decode bb_VR_readToldStep 0 = .ok (.aload_n 0, 1) := by decide +kernel
theorem dd_VR_readToldStep_1 : decode bb_VR_readToldStep 1 = .ok (.getfield 9, 3) := by decide +kernel
theorem dd_VR_readToldStep_4 : decode bb_VR_readToldStep 4 = .ok (.iconst 0, 1) := by decide +kernel
theorem dd_VR_readToldStep_5 : decode bb_VR_readToldStep 5 = .ok (.aload_n 0, 1) := by decide +kernel
theorem dd_VR_readToldStep_6 : decode bb_VR_readToldStep 6 = .ok (.getfield 18, 3) := by decide +kernel
theorem dd_VR_readToldStep_9 : decode bb_VR_readToldStep 9 = .ok (.getfield 75, 3) := by decide +kernel
theorem dd_VR_readToldStep_12 : decode bb_VR_readToldStep 12 = .ok (.iconst 1, 1) := by decide +kernel
theorem dd_VR_readToldStep_13 : decode bb_VR_readToldStep 13 = .ok (.isub, 1) := by decide +kernel
theorem dd_VR_readToldStep_14 : decode bb_VR_readToldStep 14 = .ok (.iload_n 1, 1) := by decide +kernel
theorem dd_VR_readToldStep_15 : decode bb_VR_readToldStep 15 = .ok (.invokevirtual 82, 3) := by decide +kernel
theorem dd_VR_readToldStep_18 : decode bb_VR_readToldStep 18 = .ok (.ireturn, 1) := by decide +kernel
def mm_VR_readToldStep (N : Nat) (this : Option Nat) (a1 : Int32) (h : ss_Hp) : Option (Int32 × ss_Hp) :=
  if ss_is h this 6 = true then
    (ss_gr h this 6 0).bind fun r1 =>
    (ss_gr h this 6 1).bind fun r2 =>
    (ss_gi h r2 5 3).bind fun v3 =>
    ss_b2 (mm_T_number N r1 (0 : Int32) (v3 - (1 : Int32)) a1 h) fun v4 h5 =>
    some (v4, h5)
  else none
abbrev ww_VR_readToldStep (p : Program) (l : Launch) (e : Env) (s : State) (m : MethodId) (below : List Frame) (meth : Method) (c : Code) (G : ss_G) (this : Option Nat) (a1 : Int32) (h : ss_Hp) (rr : Int32) (hh : ss_Hp) (H : Heap) (locs : List Loc) (k n : Nat) (g : JFrame) : Prop := W p l e (headSpec (ss_w yy_VR_readToldStep bb_VR_readToldStep 2 (some (.int))) ({ frames := 3, cells := 0, slots := 0, locals := 66 })).room s m ([ss_v (ss_b G) this, .int a1] : List Value).toArray below meth c H locs k n (MQ below (ss_Qc G (some (.int rr)) hh) ([ss_v (ss_b G) this, .int a1] : List Value).toArray s 0 0 (ss_A G)) g
theorem ck_VR_readToldStep {N : Nat} {this : Option Nat} {a1 : Int32} {h : ss_Hp} {res : Int32 × ss_Hp} (hm : mm_VR_readToldStep N this a1 h = some res) : ss_is h this 6 = true := (ss_chk hm).1
set_option maxHeartbeats 4000000 in
set_option maxRecDepth 100000 in
theorem cc_VR_readToldStep (l : Launch) (G : ss_G) (N : Nat) (this : Option Nat) (a1 : Int32) (h : ss_Hp) (rr : Int32) (hh : ss_Hp) (hm : mm_VR_readToldStep N this a1 h = some (rr, hh)) : ss_Ct l G yy_VR_readToldStep bb_VR_readToldStep 2 (some (.int)) ({ frames := 3, cells := 0, slots := 0, locals := 66 }) [ss_v (ss_b G) this, .int a1] h (some (.int rr)) hh := by
  obtain ⟨hck, hm⟩ := ss_chk hm
  refine Met.ofW (cc := bb_VR_readToldStep) (maxL := 2) (ret := (some (.int))) (by decide) rfl ?_
  intro p e s m args below meth c s₁ B hml hv
  obtain ⟨rfl, hR, hK⟩ := hv
  have hC : CallFix p m c bb_VR_readToldStep 2 s _ lw_g sR_6 := ⟨B.exec, B.bytes, hml, findClass_of_methodNamed B.named, fun w hw => atoms_spec (ws := ss_w yy_VR_readToldStep bb_VR_readToldStep 2 (some (.int))) B.pre w (List.mem_cons_of_mem _ hw)⟩
  have hx := hC.1
  have hb := hC.2.1
  have hr := B.returns
  have hlocks := B.notSynchronized
  have hS : va_S (ss_A G) s.heap s.heap [] := va_S.rf
  have hl := lv_entry ([ss_v (ss_b G) this, .int a1]) (n := 2) (by simp [lg_sl, ss_v_cat, ss_cat_i, ss_cat_l, ss_cat_r])
  rw [lg_entry_eq]
  generalize (lg_sl ([ss_v (ss_b G) this, .int a1]) ++ List.replicate (2 - (lg_sl ([ss_v (ss_b G) this, .int a1])).length) Slot.unset).toArray = ls at hl ⊢
  have hl : lv_has ls 2 [(0, ss_v (ss_b G) this), (1, .int a1)] := by simpa [lv_args, ss_v_cat, ss_cat_i, ss_cat_l, ss_cat_r] using hl
  refine ss_aload_n hx hb dd_VR_readToldStep_0 rfl (lv_at hl 0 rfl) ?_
  obtain ⟨r1, qr1, hm⟩ := ss_bind hm
  refine ss_getr hC hK hR kf_VR_9 rfl qr1 dd_VR_readToldStep_1 ?_
  refine lv_iconst (v := 0) hx hb dd_VR_readToldStep_4 (by decide) ?_
  refine ss_aload_n hx hb dd_VR_readToldStep_5 rfl (lv_at hl 0 rfl) ?_
  obtain ⟨r2, qr2, hm⟩ := ss_bind hm
  refine ss_getr hC hK hR kf_VR_18 rfl qr2 dd_VR_readToldStep_6 ?_
  obtain ⟨v3, qv3, hm⟩ := ss_bind hm
  refine ss_geti hC hK hR kf_VR_75 qv3 dd_VR_readToldStep_9 ?_
  refine lv_iconst (v := 1) hx hb dd_VR_readToldStep_12 (by decide) ?_
  refine lv_isub hx hb dd_VR_readToldStep_13 ?_
  refine lv_iload_n hx hb dd_VR_readToldStep_14 rfl (lv_at hl 1 rfl) ?_
  obtain ⟨v4, h5, qh5, hm⟩ := ss_bind2 hm
  refine ss_cV 0 0 (As := [.int (0 : Int32), .int (v3 - (1 : Int32)), .int a1]) hC hK hR hS hl.1 (cc_T_number l G N _ _ _ _ _ _ _ qh5) km_VR_82 (ck_T_number qh5) ⟨Nat.le_of_ble_eq_true rfl, Nat.le_of_ble_eq_true rfl⟩ ⟨Nat.le_of_ble_eq_true rfl, Nat.le_of_ble_eq_true rfl, Nat.le_of_ble_eq_true rfl, Nat.le_of_ble_eq_true rfl⟩ rfl rfl (Nat.le_of_ble_eq_true rfl) dd_VR_readToldStep_15 (fun H locs hR hS => ?_)
  exact ss_iret hC hr hlocks hR hS hm dd_VR_readToldStep_18
theorem dd_VR_readHouse_0 : decode bb_VR_readHouse 0 = .ok (.aload_n 0, 1) := by decide +kernel
theorem dd_VR_readHouse_1 : decode bb_VR_readHouse 1 = .ok (.iconst (-1), 1) := by decide +kernel
theorem dd_VR_readHouse_2 : decode bb_VR_readHouse 2 = .ok (.invokevirtual 102, 3) := by decide +kernel
theorem dd_VR_readHouse_5 : decode bb_VR_readHouse 5 = .ok (.istore_n 1, 1) := by decide +kernel
theorem dd_VR_readHouse_6 : decode bb_VR_readHouse 6 = .ok (.aload_n 0, 1) := by decide +kernel
theorem dd_VR_readHouse_7 : decode bb_VR_readHouse 7 = .ok (.getfield 9, 3) := by decide +kernel
theorem dd_VR_readHouse_10 : decode bb_VR_readHouse 10 = .ok (.invokevirtual 38, 3) := by decide +kernel
theorem dd_VR_readHouse_13 : decode bb_VR_readHouse 13 = .ok (.ifCond .ne 4, 3) := by decide +kernel
theorem dd_VR_readHouse_16 : decode bb_VR_readHouse 16 = .ok (.return_, 1) := by decide +kernel
theorem dd_VR_readHouse_17 : decode bb_VR_readHouse 17 = .ok (.aload_n 0, 1) := by decide +kernel
theorem dd_VR_readHouse_18 : decode bb_VR_readHouse 18 = .ok (.getfield 9, 3) := by decide +kernel
theorem dd_VR_readHouse_21 : decode bb_VR_readHouse 21 = .ok (.iconst 1, 1) := by decide +kernel
theorem dd_VR_readHouse_22 : decode bb_VR_readHouse 22 = .ok (.bipush 99, 2) := by decide +kernel
theorem dd_VR_readHouse_24 : decode bb_VR_readHouse 24 = .ok (.iconst (-1), 1) := by decide +kernel
theorem dd_VR_readHouse_25 : decode bb_VR_readHouse 25 = .ok (.invokevirtual 82, 3) := by decide +kernel
theorem dd_VR_readHouse_28 : decode bb_VR_readHouse 28 = .ok (.istore_n 2, 1) := by decide +kernel
theorem dd_VR_readHouse_29 : decode bb_VR_readHouse 29 = .ok (.aload_n 0, 1) := by decide +kernel
theorem dd_VR_readHouse_30 : decode bb_VR_readHouse 30 = .ok (.getfield 9, 3) := by decide +kernel
theorem dd_VR_readHouse_33 : decode bb_VR_readHouse 33 = .ok (.invokevirtual 38, 3) := by decide +kernel
theorem dd_VR_readHouse_36 : decode bb_VR_readHouse 36 = .ok (.ifCond .eq 59, 3) := by decide +kernel
theorem dd_VR_readHouse_39 : decode bb_VR_readHouse 39 = .ok (.aload_n 0, 1) := by decide +kernel
theorem dd_VR_readHouse_40 : decode bb_VR_readHouse 40 = .ok (.getfield 18, 3) := by decide +kernel
theorem dd_VR_readHouse_43 : decode bb_VR_readHouse 43 = .ok (.getfield 79, 3) := by decide +kernel
theorem dd_VR_readHouse_46 : decode bb_VR_readHouse 46 = .ok (.iconst 4, 1) := by decide +kernel
theorem dd_VR_readHouse_47 : decode bb_VR_readHouse 47 = .ok (.if_icmp .ge 48, 3) := by decide +kernel
theorem dd_VR_readHouse_50 : decode bb_VR_readHouse 50 = .ok (.aload_n 0, 1) := by decide +kernel
theorem dd_VR_readHouse_51 : decode bb_VR_readHouse 51 = .ok (.getfield 18, 3) := by decide +kernel
theorem dd_VR_readHouse_54 : decode bb_VR_readHouse 54 = .ok (.getfield 106, 3) := by decide +kernel
theorem dd_VR_readHouse_57 : decode bb_VR_readHouse 57 = .ok (.aload_n 0, 1) := by decide +kernel
theorem dd_VR_readHouse_58 : decode bb_VR_readHouse 58 = .ok (.getfield 18, 3) := by decide +kernel
theorem dd_VR_readHouse_61 : decode bb_VR_readHouse 61 = .ok (.getfield 79, 3) := by decide +kernel
theorem dd_VR_readHouse_64 : decode bb_VR_readHouse 64 = .ok (.iload_n 1, 1) := by decide +kernel
theorem dd_VR_readHouse_65 : decode bb_VR_readHouse 65 = .ok (.iastore, 1) := by decide +kernel
theorem dd_VR_readHouse_66 : decode bb_VR_readHouse 66 = .ok (.aload_n 0, 1) := by decide +kernel
theorem dd_VR_readHouse_67 : decode bb_VR_readHouse 67 = .ok (.getfield 18, 3) := by decide +kernel
theorem dd_VR_readHouse_70 : decode bb_VR_readHouse 70 = .ok (.getfield 109, 3) := by decide +kernel
theorem dd_VR_readHouse_73 : decode bb_VR_readHouse 73 = .ok (.aload_n 0, 1) := by decide +kernel
theorem dd_VR_readHouse_74 : decode bb_VR_readHouse 74 = .ok (.getfield 18, 3) := by decide +kernel
theorem dd_VR_readHouse_77 : decode bb_VR_readHouse 77 = .ok (.getfield 79, 3) := by decide +kernel
theorem dd_VR_readHouse_80 : decode bb_VR_readHouse 80 = .ok (.iload_n 2, 1) := by decide +kernel
theorem dd_VR_readHouse_81 : decode bb_VR_readHouse 81 = .ok (.iastore, 1) := by decide +kernel
theorem dd_VR_readHouse_82 : decode bb_VR_readHouse 82 = .ok (.aload_n 0, 1) := by decide +kernel
theorem dd_VR_readHouse_83 : decode bb_VR_readHouse 83 = .ok (.getfield 18, 3) := by decide +kernel
theorem dd_VR_readHouse_86 : decode bb_VR_readHouse 86 = .ok (.dup, 1) := by decide +kernel
theorem dd_VR_readHouse_87 : decode bb_VR_readHouse 87 = .ok (.getfield 79, 3) := by decide +kernel
theorem dd_VR_readHouse_90 : decode bb_VR_readHouse 90 = .ok (.iconst 1, 1) := by decide +kernel
theorem dd_VR_readHouse_91 : decode bb_VR_readHouse 91 = .ok (.iadd, 1) := by decide +kernel
theorem dd_VR_readHouse_92 : decode bb_VR_readHouse 92 = .ok (.putfield 79, 3) := by decide +kernel
theorem dd_VR_readHouse_95 : decode bb_VR_readHouse 95 = .ok (.return_, 1) := by decide +kernel
def mm_VR_readHouse_j95 (N : Nat) (this : Option Nat) (h_95 : ss_Hp) : Option ss_Hp :=
  some h_95
def mm_VR_readHouse (N : Nat) (this : Option Nat) (h : ss_Hp) : Option ss_Hp :=
  if ss_is h this 6 = true then
    ss_b2 (mm_VR_readToldStep N this (-1 : Int32) h) fun v1 h2 =>
    (ss_gr h2 this 6 0).bind fun r3 =>
    (mm_T_isWell N r3 h2).bind fun v4 =>
    if v4 = 0 then
      some h2
    else
      (ss_gr h2 this 6 0).bind fun r6 =>
      ss_b2 (mm_T_number N r6 (1 : Int32) (99 : Int32) (-1 : Int32) h2) fun v7 h8 =>
      (ss_gr h8 this 6 0).bind fun r9 =>
      (mm_T_isWell N r9 h8).bind fun v10 =>
      if v10 = 0 then
        mm_VR_readHouse_j95 N this h8
      else
        (ss_gr h8 this 6 1).bind fun r12 =>
        (ss_gi h8 r12 5 4).bind fun v13 =>
        if (4 : Int32) ≤ v13 then
          mm_VR_readHouse_j95 N this h8
        else
          (ss_gr h8 this 6 1).bind fun r15 =>
          (ss_gr h8 r15 5 0).bind fun r16 =>
          (ss_gr h8 this 6 1).bind fun r17 =>
          (ss_gi h8 r17 5 4).bind fun v18 =>
          (ss_ui h8 r16 20 v18 v1).bind fun h19 =>
          (ss_gr h19 this 6 1).bind fun r20 =>
          (ss_gr h19 r20 5 1).bind fun r21 =>
          (ss_gr h19 this 6 1).bind fun r22 =>
          (ss_gi h19 r22 5 4).bind fun v23 =>
          (ss_ui h19 r21 20 v23 v7).bind fun h24 =>
          (ss_gr h24 this 6 1).bind fun r25 =>
          (ss_gi h24 r25 5 4).bind fun v26 =>
          (ss_pi h24 r25 5 4 (v26 + (1 : Int32))).bind fun h27 =>
          mm_VR_readHouse_j95 N this h27
  else none
abbrev ww_VR_readHouse (p : Program) (l : Launch) (e : Env) (s : State) (m : MethodId) (below : List Frame) (meth : Method) (c : Code) (G : ss_G) (this : Option Nat) (h : ss_Hp) (hh : ss_Hp) (H : Heap) (locs : List Loc) (k n : Nat) (g : JFrame) : Prop := W p l e (headSpec (ss_w yy_VR_readHouse bb_VR_readHouse 3 none) ({ frames := 4, cells := 0, slots := 0, locals := 87 })).room s m ([ss_v (ss_b G) this] : List Value).toArray below meth c H locs k n (MQ below (ss_Qc G none hh) ([ss_v (ss_b G) this] : List Value).toArray s 0 0 (ss_A G)) g
theorem ck_VR_readHouse {N : Nat} {this : Option Nat} {h : ss_Hp} {res : ss_Hp} (hm : mm_VR_readHouse N this h = some res) : ss_is h this 6 = true := (ss_chk hm).1
set_option maxHeartbeats 4000000 in
set_option maxRecDepth 100000 in
theorem cc_VR_readHouse (l : Launch) (G : ss_G) (N : Nat) (this : Option Nat) (h : ss_Hp) (hh : ss_Hp) (hm : mm_VR_readHouse N this h = some hh) : ss_Ct l G yy_VR_readHouse bb_VR_readHouse 3 none ({ frames := 4, cells := 0, slots := 0, locals := 87 }) [ss_v (ss_b G) this] h none hh := by
  obtain ⟨hck, hm⟩ := ss_chk hm
  refine Met.ofW (cc := bb_VR_readHouse) (maxL := 3) (ret := none) (by decide) rfl ?_
  intro p e s m args below meth c s₁ B hml hv
  obtain ⟨rfl, hR, hK⟩ := hv
  have hC : CallFix p m c bb_VR_readHouse 3 s _ lw_g sR_6 := ⟨B.exec, B.bytes, hml, findClass_of_methodNamed B.named, fun w hw => atoms_spec (ws := ss_w yy_VR_readHouse bb_VR_readHouse 3 none) B.pre w (List.mem_cons_of_mem _ hw)⟩
  have hx := hC.1
  have hb := hC.2.1
  have hr := B.returns
  have hlocks := B.notSynchronized
  have hS : va_S (ss_A G) s.heap s.heap [] := va_S.rf
  have hl := lv_entry ([ss_v (ss_b G) this]) (n := 3) (by simp [lg_sl, ss_v_cat, ss_cat_i, ss_cat_l, ss_cat_r])
  rw [lg_entry_eq]
  generalize (lg_sl ([ss_v (ss_b G) this]) ++ List.replicate (3 - (lg_sl ([ss_v (ss_b G) this])).length) Slot.unset).toArray = ls at hl ⊢
  have hl : lv_has ls 3 [(0, ss_v (ss_b G) this)] := by simpa [lv_args, ss_v_cat, ss_cat_i, ss_cat_l, ss_cat_r] using hl
  have J_95 : ∀ (h_95 : ss_Hp) (H : Heap) (locs : List Loc) (ls : Array Slot), mm_VR_readHouse_j95 N this h_95 = some hh → ss_R G h_95 H → va_S (ss_A G) s.heap H locs → lv_has ls 3 [] → ww_VR_readHouse p l e s m below meth c G this h hh  H locs 0 0 (F0 m 95 ls []) := by
    intro h_95 H locs ls hm hR hS hl
    exact ss_vret hC hr hlocks hR hS hm dd_VR_readHouse_95
  refine ss_aload_n hx hb dd_VR_readHouse_0 rfl (lv_at hl 0 rfl) ?_
  refine lv_iconst (v := -1) hx hb dd_VR_readHouse_1 (by decide) ?_
  obtain ⟨v1, h2, qh2, hm⟩ := ss_bind2 hm
  refine ss_cV 0 0 (As := [.int (-1 : Int32)]) hC hK hR hS hl.1 (cc_VR_readToldStep l G N _ _ _ _ _ qh2) km_VR_102 (ck_VR_readToldStep qh2) ⟨Nat.le_of_ble_eq_true rfl, Nat.le_of_ble_eq_true rfl⟩ ⟨Nat.le_of_ble_eq_true rfl, Nat.le_of_ble_eq_true rfl, Nat.le_of_ble_eq_true rfl, Nat.le_of_ble_eq_true rfl⟩ rfl rfl (Nat.le_of_ble_eq_true rfl) dd_VR_readHouse_2 (fun H locs hR hS => ?_)
  refine lv_istore_n (lv' := [(1, .int v1), (0, ss_v (ss_b G) this)]) hx hb dd_VR_readHouse_5 rfl hl (by decide) (by simp only [List.filter_cons, ss_v_cat]; rfl) (fun ls hl => ?_)
  refine ss_aload_n hx hb dd_VR_readHouse_6 rfl (lv_at hl 1 rfl) ?_
  obtain ⟨r3, qr3, hm⟩ := ss_bind hm
  refine ss_getr hC hK hR kf_VR_9 rfl qr3 dd_VR_readHouse_7 ?_
  obtain ⟨v4, qv4, hm⟩ := ss_bind hm
  refine ss_cV 0 0 (As := []) hC hK hR hS hl.1 (cc_T_isWell l G N _ _ _ qv4) km_VR_38 (ck_T_isWell qv4) ⟨Nat.le_of_ble_eq_true rfl, Nat.le_of_ble_eq_true rfl⟩ ⟨Nat.le_of_ble_eq_true rfl, Nat.le_of_ble_eq_true rfl, Nat.le_of_ble_eq_true rfl, Nat.le_of_ble_eq_true rfl⟩ rfl rfl (Nat.le_of_ble_eq_true rfl) dd_VR_readHouse_10 (fun H locs hR hS => ?_)
  refine lv_if_ne (tgt := 17) hx hb dd_VR_readHouse_13 (by decide) (fun c5 => ?_) (fun c5 => ?_)
  · have hm := ss_iff hm c5
    refine ss_aload_n hx hb dd_VR_readHouse_17 rfl (lv_at hl 1 rfl) ?_
    obtain ⟨r6, qr6, hm⟩ := ss_bind hm
    refine ss_getr hC hK hR kf_VR_9 rfl qr6 dd_VR_readHouse_18 ?_
    refine lv_iconst (v := 1) hx hb dd_VR_readHouse_21 (by decide) ?_
    refine lv_bipush (v := 99) hx hb dd_VR_readHouse_22 (by decide) ?_
    refine lv_iconst (v := -1) hx hb dd_VR_readHouse_24 (by decide) ?_
    obtain ⟨v7, h8, qh8, hm⟩ := ss_bind2 hm
    refine ss_cV 0 0 (As := [.int (1 : Int32), .int (99 : Int32), .int (-1 : Int32)]) hC hK hR hS hl.1 (cc_T_number l G N _ _ _ _ _ _ _ qh8) km_VR_82 (ck_T_number qh8) ⟨Nat.le_of_ble_eq_true rfl, Nat.le_of_ble_eq_true rfl⟩ ⟨Nat.le_of_ble_eq_true rfl, Nat.le_of_ble_eq_true rfl, Nat.le_of_ble_eq_true rfl, Nat.le_of_ble_eq_true rfl⟩ rfl rfl (Nat.le_of_ble_eq_true rfl) dd_VR_readHouse_25 (fun H locs hR hS => ?_)
    refine lv_istore_n (lv' := [(2, .int v7), (1, .int v1), (0, ss_v (ss_b G) this)]) hx hb dd_VR_readHouse_28 rfl hl (by decide) rfl (fun ls hl => ?_)
    refine ss_aload_n hx hb dd_VR_readHouse_29 rfl (lv_at hl 2 rfl) ?_
    obtain ⟨r9, qr9, hm⟩ := ss_bind hm
    refine ss_getr hC hK hR kf_VR_9 rfl qr9 dd_VR_readHouse_30 ?_
    obtain ⟨v10, qv10, hm⟩ := ss_bind hm
    refine ss_cV 0 0 (As := []) hC hK hR hS hl.1 (cc_T_isWell l G N _ _ _ qv10) km_VR_38 (ck_T_isWell qv10) ⟨Nat.le_of_ble_eq_true rfl, Nat.le_of_ble_eq_true rfl⟩ ⟨Nat.le_of_ble_eq_true rfl, Nat.le_of_ble_eq_true rfl, Nat.le_of_ble_eq_true rfl, Nat.le_of_ble_eq_true rfl⟩ rfl rfl (Nat.le_of_ble_eq_true rfl) dd_VR_readHouse_33 (fun H locs hR hS => ?_)
    refine lv_if_eq (tgt := 95) hx hb dd_VR_readHouse_36 (by decide) (fun c11 => ?_) (fun c11 => ?_)
    · have hm := ss_ift hm c11
      exact J_95 h8 _ _ _ hm hR hS (lv_sub hl [] rfl)
    · have hm := ss_iff hm c11
      refine ss_aload_n hx hb dd_VR_readHouse_39 rfl (lv_at hl 2 rfl) ?_
      obtain ⟨r12, qr12, hm⟩ := ss_bind hm
      refine ss_getr hC hK hR kf_VR_18 rfl qr12 dd_VR_readHouse_40 ?_
      obtain ⟨v13, qv13, hm⟩ := ss_bind hm
      refine ss_geti hC hK hR kf_VR_79 qv13 dd_VR_readHouse_43 ?_
      refine lv_iconst (v := 4) hx hb dd_VR_readHouse_46 (by decide) ?_
      refine lv_icmp_ge (tgt := 95) hx hb dd_VR_readHouse_47 (by decide) (fun c14 => ?_) (fun c14 => ?_)
      · have hm := ss_ift hm c14
        exact J_95 h8 _ _ _ hm hR hS (lv_sub hl [] rfl)
      · have hm := ss_iff hm c14
        refine ss_aload_n hx hb dd_VR_readHouse_50 rfl (lv_at hl 2 rfl) ?_
        obtain ⟨r15, qr15, hm⟩ := ss_bind hm
        refine ss_getr hC hK hR kf_VR_18 rfl qr15 dd_VR_readHouse_51 ?_
        obtain ⟨r16, qr16, hm⟩ := ss_bind hm
        refine ss_getr hC hK hR kf_VR_106 rfl qr16 dd_VR_readHouse_54 ?_
        refine ss_aload_n hx hb dd_VR_readHouse_57 rfl (lv_at hl 2 rfl) ?_
        obtain ⟨r17, qr17, hm⟩ := ss_bind hm
        refine ss_getr hC hK hR kf_VR_18 rfl qr17 dd_VR_readHouse_58 ?_
        obtain ⟨v18, qv18, hm⟩ := ss_bind hm
        refine ss_geti hC hK hR kf_VR_79 qv18 dd_VR_readHouse_61 ?_
        refine lv_iload_n hx hb dd_VR_readHouse_64 rfl (lv_at hl 1 rfl) ?_
        obtain ⟨h19, qh19, hm⟩ := ss_bind hm
        refine ss_iast hC hK hR hS qh19 dd_VR_readHouse_65 (fun H locs hR hS => ?_)
        refine ss_aload_n hx hb dd_VR_readHouse_66 rfl (lv_at hl 2 rfl) ?_
        obtain ⟨r20, qr20, hm⟩ := ss_bind hm
        refine ss_getr hC hK hR kf_VR_18 rfl qr20 dd_VR_readHouse_67 ?_
        obtain ⟨r21, qr21, hm⟩ := ss_bind hm
        refine ss_getr hC hK hR kf_VR_109 rfl qr21 dd_VR_readHouse_70 ?_
        refine ss_aload_n hx hb dd_VR_readHouse_73 rfl (lv_at hl 2 rfl) ?_
        obtain ⟨r22, qr22, hm⟩ := ss_bind hm
        refine ss_getr hC hK hR kf_VR_18 rfl qr22 dd_VR_readHouse_74 ?_
        obtain ⟨v23, qv23, hm⟩ := ss_bind hm
        refine ss_geti hC hK hR kf_VR_79 qv23 dd_VR_readHouse_77 ?_
        refine lv_iload_n hx hb dd_VR_readHouse_80 rfl (lv_at hl 0 rfl) ?_
        obtain ⟨h24, qh24, hm⟩ := ss_bind hm
        refine ss_iast hC hK hR hS qh24 dd_VR_readHouse_81 (fun H locs hR hS => ?_)
        refine ss_aload_n hx hb dd_VR_readHouse_82 rfl (lv_at hl 2 rfl) ?_
        obtain ⟨r25, qr25, hm⟩ := ss_bind hm
        refine ss_getr hC hK hR kf_VR_18 rfl qr25 dd_VR_readHouse_83 ?_
        refine ss_dupr hx hb dd_VR_readHouse_86 ?_
        obtain ⟨v26, qv26, hm⟩ := ss_bind hm
        refine ss_geti hC hK hR kf_VR_79 qv26 dd_VR_readHouse_87 ?_
        refine lv_iconst (v := 1) hx hb dd_VR_readHouse_90 (by decide) ?_
        refine lv_iadd hx hb dd_VR_readHouse_91 ?_
        obtain ⟨h27, qh27, hm⟩ := ss_bind hm
        refine ss_puti hC hK hR hS kp_VR_79 qh27 dd_VR_readHouse_92 (fun H locs hR hS => ?_)
        exact J_95 h27 _ _ _ hm hR hS (lv_sub hl [] rfl)
  · have hm := ss_ift hm c5
    exact ss_vret hC hr hlocks hR hS hm dd_VR_readHouse_16
theorem dd_VR_readPath_0 : decode bb_VR_readPath 0 = .ok (.aload_n 0, 1) := by decide +kernel
theorem dd_VR_readPath_1 : decode bb_VR_readPath 1 = .ok (.iconst (-1), 1) := by decide +kernel
theorem dd_VR_readPath_2 : decode bb_VR_readPath 2 = .ok (.invokevirtual 102, 3) := by decide +kernel
theorem dd_VR_readPath_5 : decode bb_VR_readPath 5 = .ok (.istore_n 1, 1) := by decide +kernel
theorem dd_VR_readPath_6 : decode bb_VR_readPath 6 = .ok (.aload_n 0, 1) := by decide +kernel
theorem dd_VR_readPath_7 : decode bb_VR_readPath 7 = .ok (.getfield 9, 3) := by decide +kernel
theorem dd_VR_readPath_10 : decode bb_VR_readPath 10 = .ok (.invokevirtual 38, 3) := by decide +kernel
theorem dd_VR_readPath_13 : decode bb_VR_readPath 13 = .ok (.ifCond .ne 4, 3) := by decide +kernel
theorem dd_VR_readPath_16 : decode bb_VR_readPath 16 = .ok (.return_, 1) := by decide +kernel
theorem dd_VR_readPath_17 : decode bb_VR_readPath 17 = .ok (.aload_n 0, 1) := by decide +kernel
theorem dd_VR_readPath_18 : decode bb_VR_readPath 18 = .ok (.iload_n 1, 1) := by decide +kernel
theorem dd_VR_readPath_19 : decode bb_VR_readPath 19 = .ok (.invokevirtual 102, 3) := by decide +kernel
theorem dd_VR_readPath_22 : decode bb_VR_readPath 22 = .ok (.istore_n 2, 1) := by decide +kernel
theorem dd_VR_readPath_23 : decode bb_VR_readPath 23 = .ok (.aload_n 0, 1) := by decide +kernel
theorem dd_VR_readPath_24 : decode bb_VR_readPath 24 = .ok (.getfield 9, 3) := by decide +kernel
theorem dd_VR_readPath_27 : decode bb_VR_readPath 27 = .ok (.invokevirtual 38, 3) := by decide +kernel
theorem dd_VR_readPath_30 : decode bb_VR_readPath 30 = .ok (.ifCond .eq 33, 3) := by decide +kernel
theorem dd_VR_readPath_33 : decode bb_VR_readPath 33 = .ok (.aload_n 0, 1) := by decide +kernel
theorem dd_VR_readPath_34 : decode bb_VR_readPath 34 = .ok (.getfield 18, 3) := by decide +kernel
theorem dd_VR_readPath_37 : decode bb_VR_readPath 37 = .ok (.getfield 112, 3) := by decide +kernel
theorem dd_VR_readPath_40 : decode bb_VR_readPath 40 = .ok (.iload_n 1, 1) := by decide +kernel
theorem dd_VR_readPath_41 : decode bb_VR_readPath 41 = .ok (.dup2, 1) := by decide +kernel
theorem dd_VR_readPath_42 : decode bb_VR_readPath 42 = .ok (.iaload, 1) := by decide +kernel
theorem dd_VR_readPath_43 : decode bb_VR_readPath 43 = .ok (.iconst 1, 1) := by decide +kernel
theorem dd_VR_readPath_44 : decode bb_VR_readPath 44 = .ok (.iload_n 2, 1) := by decide +kernel
theorem dd_VR_readPath_45 : decode bb_VR_readPath 45 = .ok (.ishl, 1) := by decide +kernel
theorem dd_VR_readPath_46 : decode bb_VR_readPath 46 = .ok (.ior, 1) := by decide +kernel
theorem dd_VR_readPath_47 : decode bb_VR_readPath 47 = .ok (.iastore, 1) := by decide +kernel
theorem dd_VR_readPath_48 : decode bb_VR_readPath 48 = .ok (.aload_n 0, 1) := by decide +kernel
theorem dd_VR_readPath_49 : decode bb_VR_readPath 49 = .ok (.getfield 18, 3) := by decide +kernel
theorem dd_VR_readPath_52 : decode bb_VR_readPath 52 = .ok (.getfield 112, 3) := by decide +kernel
theorem dd_VR_readPath_55 : decode bb_VR_readPath 55 = .ok (.iload_n 2, 1) := by decide +kernel
theorem dd_VR_readPath_56 : decode bb_VR_readPath 56 = .ok (.dup2, 1) := by decide +kernel
theorem dd_VR_readPath_57 : decode bb_VR_readPath 57 = .ok (.iaload, 1) := by decide +kernel
theorem dd_VR_readPath_58 : decode bb_VR_readPath 58 = .ok (.iconst 1, 1) := by decide +kernel
theorem dd_VR_readPath_59 : decode bb_VR_readPath 59 = .ok (.iload_n 1, 1) := by decide +kernel
theorem dd_VR_readPath_60 : decode bb_VR_readPath 60 = .ok (.ishl, 1) := by decide +kernel
theorem dd_VR_readPath_61 : decode bb_VR_readPath 61 = .ok (.ior, 1) := by decide +kernel
theorem dd_VR_readPath_62 : decode bb_VR_readPath 62 = .ok (.iastore, 1) := by decide +kernel
theorem dd_VR_readPath_63 : decode bb_VR_readPath 63 = .ok (.return_, 1) := by decide +kernel
def mm_VR_readPath_j63 (N : Nat) (this : Option Nat) (h_63 : ss_Hp) : Option ss_Hp :=
  some h_63
def mm_VR_readPath (N : Nat) (this : Option Nat) (h : ss_Hp) : Option ss_Hp :=
  if ss_is h this 6 = true then
    ss_b2 (mm_VR_readToldStep N this (-1 : Int32) h) fun v1 h2 =>
    (ss_gr h2 this 6 0).bind fun r3 =>
    (mm_T_isWell N r3 h2).bind fun v4 =>
    if v4 = 0 then
      some h2
    else
      ss_b2 (mm_VR_readToldStep N this v1 h2) fun v6 h7 =>
      (ss_gr h7 this 6 0).bind fun r8 =>
      (mm_T_isWell N r8 h7).bind fun v9 =>
      if v9 = 0 then
        mm_VR_readPath_j63 N this h7
      else
        (ss_gr h7 this 6 1).bind fun r11 =>
        (ss_gr h7 r11 5 2).bind fun r12 =>
        (ss_ai h7 r12 20 v1).bind fun v13 =>
        (ss_ui h7 r12 20 v1 (v13 ||| ((1 : Int32) <<< (v6 &&& 31)))).bind fun h14 =>
        (ss_gr h14 this 6 1).bind fun r15 =>
        (ss_gr h14 r15 5 2).bind fun r16 =>
        (ss_ai h14 r16 20 v6).bind fun v17 =>
        (ss_ui h14 r16 20 v6 (v17 ||| ((1 : Int32) <<< (v1 &&& 31)))).bind fun h18 =>
        mm_VR_readPath_j63 N this h18
  else none
abbrev ww_VR_readPath (p : Program) (l : Launch) (e : Env) (s : State) (m : MethodId) (below : List Frame) (meth : Method) (c : Code) (G : ss_G) (this : Option Nat) (h : ss_Hp) (hh : ss_Hp) (H : Heap) (locs : List Loc) (k n : Nat) (g : JFrame) : Prop := W p l e (headSpec (ss_w yy_VR_readPath bb_VR_readPath 3 none) ({ frames := 4, cells := 0, slots := 0, locals := 87 })).room s m ([ss_v (ss_b G) this] : List Value).toArray below meth c H locs k n (MQ below (ss_Qc G none hh) ([ss_v (ss_b G) this] : List Value).toArray s 0 0 (ss_A G)) g
theorem ck_VR_readPath {N : Nat} {this : Option Nat} {h : ss_Hp} {res : ss_Hp} (hm : mm_VR_readPath N this h = some res) : ss_is h this 6 = true := (ss_chk hm).1
set_option maxHeartbeats 4000000 in
set_option maxRecDepth 100000 in
theorem cc_VR_readPath (l : Launch) (G : ss_G) (N : Nat) (this : Option Nat) (h : ss_Hp) (hh : ss_Hp) (hm : mm_VR_readPath N this h = some hh) : ss_Ct l G yy_VR_readPath bb_VR_readPath 3 none ({ frames := 4, cells := 0, slots := 0, locals := 87 }) [ss_v (ss_b G) this] h none hh := by
  obtain ⟨hck, hm⟩ := ss_chk hm
  refine Met.ofW (cc := bb_VR_readPath) (maxL := 3) (ret := none) (by decide) rfl ?_
  intro p e s m args below meth c s₁ B hml hv
  obtain ⟨rfl, hR, hK⟩ := hv
  have hC : CallFix p m c bb_VR_readPath 3 s _ lw_g sR_6 := ⟨B.exec, B.bytes, hml, findClass_of_methodNamed B.named, fun w hw => atoms_spec (ws := ss_w yy_VR_readPath bb_VR_readPath 3 none) B.pre w (List.mem_cons_of_mem _ hw)⟩
  have hx := hC.1
  have hb := hC.2.1
  have hr := B.returns
  have hlocks := B.notSynchronized
  have hS : va_S (ss_A G) s.heap s.heap [] := va_S.rf
  have hl := lv_entry ([ss_v (ss_b G) this]) (n := 3) (by simp [lg_sl, ss_v_cat, ss_cat_i, ss_cat_l, ss_cat_r])
  rw [lg_entry_eq]
  generalize (lg_sl ([ss_v (ss_b G) this]) ++ List.replicate (3 - (lg_sl ([ss_v (ss_b G) this])).length) Slot.unset).toArray = ls at hl ⊢
  have hl : lv_has ls 3 [(0, ss_v (ss_b G) this)] := by simpa [lv_args, ss_v_cat, ss_cat_i, ss_cat_l, ss_cat_r] using hl
  have J_63 : ∀ (h_63 : ss_Hp) (H : Heap) (locs : List Loc) (ls : Array Slot), mm_VR_readPath_j63 N this h_63 = some hh → ss_R G h_63 H → va_S (ss_A G) s.heap H locs → lv_has ls 3 [] → ww_VR_readPath p l e s m below meth c G this h hh  H locs 0 0 (F0 m 63 ls []) := by
    intro h_63 H locs ls hm hR hS hl
    exact ss_vret hC hr hlocks hR hS hm dd_VR_readPath_63
  refine ss_aload_n hx hb dd_VR_readPath_0 rfl (lv_at hl 0 rfl) ?_
  refine lv_iconst (v := -1) hx hb dd_VR_readPath_1 (by decide) ?_
  obtain ⟨v1, h2, qh2, hm⟩ := ss_bind2 hm
  refine ss_cV 0 0 (As := [.int (-1 : Int32)]) hC hK hR hS hl.1 (cc_VR_readToldStep l G N _ _ _ _ _ qh2) km_VR_102 (ck_VR_readToldStep qh2) ⟨Nat.le_of_ble_eq_true rfl, Nat.le_of_ble_eq_true rfl⟩ ⟨Nat.le_of_ble_eq_true rfl, Nat.le_of_ble_eq_true rfl, Nat.le_of_ble_eq_true rfl, Nat.le_of_ble_eq_true rfl⟩ rfl rfl (Nat.le_of_ble_eq_true rfl) dd_VR_readPath_2 (fun H locs hR hS => ?_)
  refine lv_istore_n (lv' := [(1, .int v1), (0, ss_v (ss_b G) this)]) hx hb dd_VR_readPath_5 rfl hl (by decide) (by simp only [List.filter_cons, ss_v_cat]; rfl) (fun ls hl => ?_)
  refine ss_aload_n hx hb dd_VR_readPath_6 rfl (lv_at hl 1 rfl) ?_
  obtain ⟨r3, qr3, hm⟩ := ss_bind hm
  refine ss_getr hC hK hR kf_VR_9 rfl qr3 dd_VR_readPath_7 ?_
  obtain ⟨v4, qv4, hm⟩ := ss_bind hm
  refine ss_cV 0 0 (As := []) hC hK hR hS hl.1 (cc_T_isWell l G N _ _ _ qv4) km_VR_38 (ck_T_isWell qv4) ⟨Nat.le_of_ble_eq_true rfl, Nat.le_of_ble_eq_true rfl⟩ ⟨Nat.le_of_ble_eq_true rfl, Nat.le_of_ble_eq_true rfl, Nat.le_of_ble_eq_true rfl, Nat.le_of_ble_eq_true rfl⟩ rfl rfl (Nat.le_of_ble_eq_true rfl) dd_VR_readPath_10 (fun H locs hR hS => ?_)
  refine lv_if_ne (tgt := 17) hx hb dd_VR_readPath_13 (by decide) (fun c5 => ?_) (fun c5 => ?_)
  · have hm := ss_iff hm c5
    refine ss_aload_n hx hb dd_VR_readPath_17 rfl (lv_at hl 1 rfl) ?_
    refine lv_iload_n hx hb dd_VR_readPath_18 rfl (lv_at hl 0 rfl) ?_
    obtain ⟨v6, h7, qh7, hm⟩ := ss_bind2 hm
    refine ss_cV 0 0 (As := [.int v1]) hC hK hR hS hl.1 (cc_VR_readToldStep l G N _ _ _ _ _ qh7) km_VR_102 (ck_VR_readToldStep qh7) ⟨Nat.le_of_ble_eq_true rfl, Nat.le_of_ble_eq_true rfl⟩ ⟨Nat.le_of_ble_eq_true rfl, Nat.le_of_ble_eq_true rfl, Nat.le_of_ble_eq_true rfl, Nat.le_of_ble_eq_true rfl⟩ rfl rfl (Nat.le_of_ble_eq_true rfl) dd_VR_readPath_19 (fun H locs hR hS => ?_)
    refine lv_istore_n (lv' := [(2, .int v6), (1, .int v1), (0, ss_v (ss_b G) this)]) hx hb dd_VR_readPath_22 rfl hl (by decide) rfl (fun ls hl => ?_)
    refine ss_aload_n hx hb dd_VR_readPath_23 rfl (lv_at hl 2 rfl) ?_
    obtain ⟨r8, qr8, hm⟩ := ss_bind hm
    refine ss_getr hC hK hR kf_VR_9 rfl qr8 dd_VR_readPath_24 ?_
    obtain ⟨v9, qv9, hm⟩ := ss_bind hm
    refine ss_cV 0 0 (As := []) hC hK hR hS hl.1 (cc_T_isWell l G N _ _ _ qv9) km_VR_38 (ck_T_isWell qv9) ⟨Nat.le_of_ble_eq_true rfl, Nat.le_of_ble_eq_true rfl⟩ ⟨Nat.le_of_ble_eq_true rfl, Nat.le_of_ble_eq_true rfl, Nat.le_of_ble_eq_true rfl, Nat.le_of_ble_eq_true rfl⟩ rfl rfl (Nat.le_of_ble_eq_true rfl) dd_VR_readPath_27 (fun H locs hR hS => ?_)
    refine lv_if_eq (tgt := 63) hx hb dd_VR_readPath_30 (by decide) (fun c10 => ?_) (fun c10 => ?_)
    · have hm := ss_ift hm c10
      exact J_63 h7 _ _ _ hm hR hS (lv_sub hl [] rfl)
    · have hm := ss_iff hm c10
      refine ss_aload_n hx hb dd_VR_readPath_33 rfl (lv_at hl 2 rfl) ?_
      obtain ⟨r11, qr11, hm⟩ := ss_bind hm
      refine ss_getr hC hK hR kf_VR_18 rfl qr11 dd_VR_readPath_34 ?_
      obtain ⟨r12, qr12, hm⟩ := ss_bind hm
      refine ss_getr hC hK hR kf_VR_112 rfl qr12 dd_VR_readPath_37 ?_
      refine lv_iload_n hx hb dd_VR_readPath_40 rfl (lv_at hl 1 rfl) ?_
      refine ss_dup2ir hx hb dd_VR_readPath_41 ?_
      obtain ⟨v13, qv13, hm⟩ := ss_bind hm
      refine ss_iald hC hK hR qv13 dd_VR_readPath_42 ?_
      refine lv_iconst (v := 1) hx hb dd_VR_readPath_43 (by decide) ?_
      refine lv_iload_n hx hb dd_VR_readPath_44 rfl (lv_at hl 0 rfl) ?_
      refine lv_ishl hx hb dd_VR_readPath_45 ?_
      refine lv_ior hx hb dd_VR_readPath_46 ?_
      obtain ⟨h14, qh14, hm⟩ := ss_bind hm
      refine ss_iast hC hK hR hS qh14 dd_VR_readPath_47 (fun H locs hR hS => ?_)
      refine ss_aload_n hx hb dd_VR_readPath_48 rfl (lv_at hl 2 rfl) ?_
      obtain ⟨r15, qr15, hm⟩ := ss_bind hm
      refine ss_getr hC hK hR kf_VR_18 rfl qr15 dd_VR_readPath_49 ?_
      obtain ⟨r16, qr16, hm⟩ := ss_bind hm
      refine ss_getr hC hK hR kf_VR_112 rfl qr16 dd_VR_readPath_52 ?_
      refine lv_iload_n hx hb dd_VR_readPath_55 rfl (lv_at hl 0 rfl) ?_
      refine ss_dup2ir hx hb dd_VR_readPath_56 ?_
      obtain ⟨v17, qv17, hm⟩ := ss_bind hm
      refine ss_iald hC hK hR qv17 dd_VR_readPath_57 ?_
      refine lv_iconst (v := 1) hx hb dd_VR_readPath_58 (by decide) ?_
      refine lv_iload_n hx hb dd_VR_readPath_59 rfl (lv_at hl 1 rfl) ?_
      refine lv_ishl hx hb dd_VR_readPath_60 ?_
      refine lv_ior hx hb dd_VR_readPath_61 ?_
      obtain ⟨h18, qh18, hm⟩ := ss_bind hm
      refine ss_iast hC hK hR hS qh18 dd_VR_readPath_62 (fun H locs hR hS => ?_)
      exact J_63 h18 _ _ _ hm hR hS (lv_sub hl [] rfl)
  · have hm := ss_ift hm c5
    exact ss_vret hC hr hlocks hR hS hm dd_VR_readPath_16
theorem dd_VR_readWall_0 : decode bb_VR_readWall 0 = .ok (.aload_n 0, 1) := by decide +kernel
theorem dd_VR_readWall_1 : decode bb_VR_readWall 1 = .ok (.iconst (-1), 1) := by decide +kernel
theorem dd_VR_readWall_2 : decode bb_VR_readWall 2 = .ok (.invokevirtual 102, 3) := by decide +kernel
theorem dd_VR_readWall_5 : decode bb_VR_readWall 5 = .ok (.istore_n 1, 1) := by decide +kernel
theorem dd_VR_readWall_6 : decode bb_VR_readWall 6 = .ok (.aload_n 0, 1) := by decide +kernel
theorem dd_VR_readWall_7 : decode bb_VR_readWall 7 = .ok (.getfield 9, 3) := by decide +kernel
theorem dd_VR_readWall_10 : decode bb_VR_readWall 10 = .ok (.invokevirtual 38, 3) := by decide +kernel
theorem dd_VR_readWall_13 : decode bb_VR_readWall 13 = .ok (.ifCond .ne 4, 3) := by decide +kernel
theorem dd_VR_readWall_16 : decode bb_VR_readWall 16 = .ok (.return_, 1) := by decide +kernel
theorem dd_VR_readWall_17 : decode bb_VR_readWall 17 = .ok (.aload_n 0, 1) := by decide +kernel
theorem dd_VR_readWall_18 : decode bb_VR_readWall 18 = .ok (.iload_n 1, 1) := by decide +kernel
theorem dd_VR_readWall_19 : decode bb_VR_readWall 19 = .ok (.invokevirtual 102, 3) := by decide +kernel
theorem dd_VR_readWall_22 : decode bb_VR_readWall 22 = .ok (.istore_n 2, 1) := by decide +kernel
theorem dd_VR_readWall_23 : decode bb_VR_readWall 23 = .ok (.aload_n 0, 1) := by decide +kernel
theorem dd_VR_readWall_24 : decode bb_VR_readWall 24 = .ok (.getfield 9, 3) := by decide +kernel
theorem dd_VR_readWall_27 : decode bb_VR_readWall 27 = .ok (.invokevirtual 38, 3) := by decide +kernel
theorem dd_VR_readWall_30 : decode bb_VR_readWall 30 = .ok (.ifCond .eq 16, 3) := by decide +kernel
theorem dd_VR_readWall_33 : decode bb_VR_readWall 33 = .ok (.aload_n 0, 1) := by decide +kernel
theorem dd_VR_readWall_34 : decode bb_VR_readWall 34 = .ok (.getfield 18, 3) := by decide +kernel
theorem dd_VR_readWall_37 : decode bb_VR_readWall 37 = .ok (.getfield 92, 3) := by decide +kernel
theorem dd_VR_readWall_40 : decode bb_VR_readWall 40 = .ok (.getfield 115, 3) := by decide +kernel
theorem dd_VR_readWall_43 : decode bb_VR_readWall 43 = .ok (.iload_n 1, 1) := by decide +kernel
theorem dd_VR_readWall_44 : decode bb_VR_readWall 44 = .ok (.iload_n 2, 1) := by decide +kernel
theorem dd_VR_readWall_45 : decode bb_VR_readWall 45 = .ok (.iastore, 1) := by decide +kernel
theorem dd_VR_readWall_46 : decode bb_VR_readWall 46 = .ok (.return_, 1) := by decide +kernel
def mm_VR_readWall_j46 (N : Nat) (this : Option Nat) (h_46 : ss_Hp) : Option ss_Hp :=
  some h_46
def mm_VR_readWall (N : Nat) (this : Option Nat) (h : ss_Hp) : Option ss_Hp :=
  if ss_is h this 6 = true then
    ss_b2 (mm_VR_readToldStep N this (-1 : Int32) h) fun v1 h2 =>
    (ss_gr h2 this 6 0).bind fun r3 =>
    (mm_T_isWell N r3 h2).bind fun v4 =>
    if v4 = 0 then
      some h2
    else
      ss_b2 (mm_VR_readToldStep N this v1 h2) fun v6 h7 =>
      (ss_gr h7 this 6 0).bind fun r8 =>
      (mm_T_isWell N r8 h7).bind fun v9 =>
      if v9 = 0 then
        mm_VR_readWall_j46 N this h7
      else
        (ss_gr h7 this 6 1).bind fun r11 =>
        (ss_gr h7 r11 5 4).bind fun r12 =>
        (ss_gr h7 r12 0 1).bind fun r13 =>
        (ss_ui h7 r13 20 v1 v6).bind fun h14 =>
        mm_VR_readWall_j46 N this h14
  else none
abbrev ww_VR_readWall (p : Program) (l : Launch) (e : Env) (s : State) (m : MethodId) (below : List Frame) (meth : Method) (c : Code) (G : ss_G) (this : Option Nat) (h : ss_Hp) (hh : ss_Hp) (H : Heap) (locs : List Loc) (k n : Nat) (g : JFrame) : Prop := W p l e (headSpec (ss_w yy_VR_readWall bb_VR_readWall 3 none) ({ frames := 4, cells := 0, slots := 0, locals := 87 })).room s m ([ss_v (ss_b G) this] : List Value).toArray below meth c H locs k n (MQ below (ss_Qc G none hh) ([ss_v (ss_b G) this] : List Value).toArray s 0 0 (ss_A G)) g
theorem ck_VR_readWall {N : Nat} {this : Option Nat} {h : ss_Hp} {res : ss_Hp} (hm : mm_VR_readWall N this h = some res) : ss_is h this 6 = true := (ss_chk hm).1
set_option maxHeartbeats 4000000 in
set_option maxRecDepth 100000 in
theorem cc_VR_readWall (l : Launch) (G : ss_G) (N : Nat) (this : Option Nat) (h : ss_Hp) (hh : ss_Hp) (hm : mm_VR_readWall N this h = some hh) : ss_Ct l G yy_VR_readWall bb_VR_readWall 3 none ({ frames := 4, cells := 0, slots := 0, locals := 87 }) [ss_v (ss_b G) this] h none hh := by
  obtain ⟨hck, hm⟩ := ss_chk hm
  refine Met.ofW (cc := bb_VR_readWall) (maxL := 3) (ret := none) (by decide) rfl ?_
  intro p e s m args below meth c s₁ B hml hv
  obtain ⟨rfl, hR, hK⟩ := hv
  have hC : CallFix p m c bb_VR_readWall 3 s _ lw_g sR_6 := ⟨B.exec, B.bytes, hml, findClass_of_methodNamed B.named, fun w hw => atoms_spec (ws := ss_w yy_VR_readWall bb_VR_readWall 3 none) B.pre w (List.mem_cons_of_mem _ hw)⟩
  have hx := hC.1
  have hb := hC.2.1
  have hr := B.returns
  have hlocks := B.notSynchronized
  have hS : va_S (ss_A G) s.heap s.heap [] := va_S.rf
  have hl := lv_entry ([ss_v (ss_b G) this]) (n := 3) (by simp [lg_sl, ss_v_cat, ss_cat_i, ss_cat_l, ss_cat_r])
  rw [lg_entry_eq]
  generalize (lg_sl ([ss_v (ss_b G) this]) ++ List.replicate (3 - (lg_sl ([ss_v (ss_b G) this])).length) Slot.unset).toArray = ls at hl ⊢
  have hl : lv_has ls 3 [(0, ss_v (ss_b G) this)] := by simpa [lv_args, ss_v_cat, ss_cat_i, ss_cat_l, ss_cat_r] using hl
  have J_46 : ∀ (h_46 : ss_Hp) (H : Heap) (locs : List Loc) (ls : Array Slot), mm_VR_readWall_j46 N this h_46 = some hh → ss_R G h_46 H → va_S (ss_A G) s.heap H locs → lv_has ls 3 [] → ww_VR_readWall p l e s m below meth c G this h hh  H locs 0 0 (F0 m 46 ls []) := by
    intro h_46 H locs ls hm hR hS hl
    exact ss_vret hC hr hlocks hR hS hm dd_VR_readWall_46
  refine ss_aload_n hx hb dd_VR_readWall_0 rfl (lv_at hl 0 rfl) ?_
  refine lv_iconst (v := -1) hx hb dd_VR_readWall_1 (by decide) ?_
  obtain ⟨v1, h2, qh2, hm⟩ := ss_bind2 hm
  refine ss_cV 0 0 (As := [.int (-1 : Int32)]) hC hK hR hS hl.1 (cc_VR_readToldStep l G N _ _ _ _ _ qh2) km_VR_102 (ck_VR_readToldStep qh2) ⟨Nat.le_of_ble_eq_true rfl, Nat.le_of_ble_eq_true rfl⟩ ⟨Nat.le_of_ble_eq_true rfl, Nat.le_of_ble_eq_true rfl, Nat.le_of_ble_eq_true rfl, Nat.le_of_ble_eq_true rfl⟩ rfl rfl (Nat.le_of_ble_eq_true rfl) dd_VR_readWall_2 (fun H locs hR hS => ?_)
  refine lv_istore_n (lv' := [(1, .int v1), (0, ss_v (ss_b G) this)]) hx hb dd_VR_readWall_5 rfl hl (by decide) (by simp only [List.filter_cons, ss_v_cat]; rfl) (fun ls hl => ?_)
  refine ss_aload_n hx hb dd_VR_readWall_6 rfl (lv_at hl 1 rfl) ?_
  obtain ⟨r3, qr3, hm⟩ := ss_bind hm
  refine ss_getr hC hK hR kf_VR_9 rfl qr3 dd_VR_readWall_7 ?_
  obtain ⟨v4, qv4, hm⟩ := ss_bind hm
  refine ss_cV 0 0 (As := []) hC hK hR hS hl.1 (cc_T_isWell l G N _ _ _ qv4) km_VR_38 (ck_T_isWell qv4) ⟨Nat.le_of_ble_eq_true rfl, Nat.le_of_ble_eq_true rfl⟩ ⟨Nat.le_of_ble_eq_true rfl, Nat.le_of_ble_eq_true rfl, Nat.le_of_ble_eq_true rfl, Nat.le_of_ble_eq_true rfl⟩ rfl rfl (Nat.le_of_ble_eq_true rfl) dd_VR_readWall_10 (fun H locs hR hS => ?_)
  refine lv_if_ne (tgt := 17) hx hb dd_VR_readWall_13 (by decide) (fun c5 => ?_) (fun c5 => ?_)
  · have hm := ss_iff hm c5
    refine ss_aload_n hx hb dd_VR_readWall_17 rfl (lv_at hl 1 rfl) ?_
    refine lv_iload_n hx hb dd_VR_readWall_18 rfl (lv_at hl 0 rfl) ?_
    obtain ⟨v6, h7, qh7, hm⟩ := ss_bind2 hm
    refine ss_cV 0 0 (As := [.int v1]) hC hK hR hS hl.1 (cc_VR_readToldStep l G N _ _ _ _ _ qh7) km_VR_102 (ck_VR_readToldStep qh7) ⟨Nat.le_of_ble_eq_true rfl, Nat.le_of_ble_eq_true rfl⟩ ⟨Nat.le_of_ble_eq_true rfl, Nat.le_of_ble_eq_true rfl, Nat.le_of_ble_eq_true rfl, Nat.le_of_ble_eq_true rfl⟩ rfl rfl (Nat.le_of_ble_eq_true rfl) dd_VR_readWall_19 (fun H locs hR hS => ?_)
    refine lv_istore_n (lv' := [(2, .int v6), (1, .int v1), (0, ss_v (ss_b G) this)]) hx hb dd_VR_readWall_22 rfl hl (by decide) rfl (fun ls hl => ?_)
    refine ss_aload_n hx hb dd_VR_readWall_23 rfl (lv_at hl 2 rfl) ?_
    obtain ⟨r8, qr8, hm⟩ := ss_bind hm
    refine ss_getr hC hK hR kf_VR_9 rfl qr8 dd_VR_readWall_24 ?_
    obtain ⟨v9, qv9, hm⟩ := ss_bind hm
    refine ss_cV 0 0 (As := []) hC hK hR hS hl.1 (cc_T_isWell l G N _ _ _ qv9) km_VR_38 (ck_T_isWell qv9) ⟨Nat.le_of_ble_eq_true rfl, Nat.le_of_ble_eq_true rfl⟩ ⟨Nat.le_of_ble_eq_true rfl, Nat.le_of_ble_eq_true rfl, Nat.le_of_ble_eq_true rfl, Nat.le_of_ble_eq_true rfl⟩ rfl rfl (Nat.le_of_ble_eq_true rfl) dd_VR_readWall_27 (fun H locs hR hS => ?_)
    refine lv_if_eq (tgt := 46) hx hb dd_VR_readWall_30 (by decide) (fun c10 => ?_) (fun c10 => ?_)
    · have hm := ss_ift hm c10
      exact J_46 h7 _ _ _ hm hR hS (lv_sub hl [] rfl)
    · have hm := ss_iff hm c10
      refine ss_aload_n hx hb dd_VR_readWall_33 rfl (lv_at hl 2 rfl) ?_
      obtain ⟨r11, qr11, hm⟩ := ss_bind hm
      refine ss_getr hC hK hR kf_VR_18 rfl qr11 dd_VR_readWall_34 ?_
      obtain ⟨r12, qr12, hm⟩ := ss_bind hm
      refine ss_getr hC hK hR kf_VR_92 rfl qr12 dd_VR_readWall_37 ?_
      obtain ⟨r13, qr13, hm⟩ := ss_bind hm
      refine ss_getr hC hK hR kf_VR_115 rfl qr13 dd_VR_readWall_40 ?_
      refine lv_iload_n hx hb dd_VR_readWall_43 rfl (lv_at hl 1 rfl) ?_
      refine lv_iload_n hx hb dd_VR_readWall_44 rfl (lv_at hl 0 rfl) ?_
      obtain ⟨h14, qh14, hm⟩ := ss_bind hm
      refine ss_iast hC hK hR hS qh14 dd_VR_readWall_45 (fun H locs hR hS => ?_)
      exact J_46 h14 _ _ _ hm hR hS (lv_sub hl [] rfl)
  · have hm := ss_ift hm c5
    exact ss_vret hC hr hlocks hR hS hm dd_VR_readWall_16
theorem dd_VR_readNeed_0 : decode bb_VR_readNeed 0 = .ok (.aload_n 0, 1) := by decide +kernel
theorem dd_VR_readNeed_1 : decode bb_VR_readNeed 1 = .ok (.getfield 9, 3) := by decide +kernel
theorem dd_VR_readNeed_4 : decode bb_VR_readNeed 4 = .ok (.iconst 0, 1) := by decide +kernel
theorem dd_VR_readNeed_5 : decode bb_VR_readNeed 5 = .ok (.bipush 30, 2) := by decide +kernel
theorem dd_VR_readNeed_7 : decode bb_VR_readNeed 7 = .ok (.iconst (-1), 1) := by decide +kernel
theorem dd_VR_readNeed_8 : decode bb_VR_readNeed 8 = .ok (.invokevirtual 82, 3) := by decide +kernel
theorem dd_VR_readNeed_11 : decode bb_VR_readNeed 11 = .ok (.istore_n 1, 1) := by decide +kernel
theorem dd_VR_readNeed_12 : decode bb_VR_readNeed 12 = .ok (.aload_n 0, 1) := by decide +kernel
theorem dd_VR_readNeed_13 : decode bb_VR_readNeed 13 = .ok (.getfield 9, 3) := by decide +kernel
theorem dd_VR_readNeed_16 : decode bb_VR_readNeed 16 = .ok (.invokevirtual 38, 3) := by decide +kernel
theorem dd_VR_readNeed_19 : decode bb_VR_readNeed 19 = .ok (.ifCond .ne 4, 3) := by decide +kernel
theorem dd_VR_readNeed_22 : decode bb_VR_readNeed 22 = .ok (.return_, 1) := by decide +kernel
theorem dd_VR_readNeed_23 : decode bb_VR_readNeed 23 = .ok (.aload_n 0, 1) := by decide +kernel
theorem dd_VR_readNeed_24 : decode bb_VR_readNeed 24 = .ok (.iconst (-1), 1) := by decide +kernel
theorem dd_VR_readNeed_25 : decode bb_VR_readNeed 25 = .ok (.invokevirtual 102, 3) := by decide +kernel
theorem dd_VR_readNeed_28 : decode bb_VR_readNeed 28 = .ok (.istore_n 2, 1) := by decide +kernel
theorem dd_VR_readNeed_29 : decode bb_VR_readNeed 29 = .ok (.aload_n 0, 1) := by decide +kernel
theorem dd_VR_readNeed_30 : decode bb_VR_readNeed 30 = .ok (.getfield 9, 3) := by decide +kernel
theorem dd_VR_readNeed_33 : decode bb_VR_readNeed 33 = .ok (.invokevirtual 38, 3) := by decide +kernel
theorem dd_VR_readNeed_36 : decode bb_VR_readNeed 36 = .ok (.ifCond .eq 18, 3) := by decide +kernel
theorem dd_VR_readNeed_39 : decode bb_VR_readNeed 39 = .ok (.aload_n 0, 1) := by decide +kernel
theorem dd_VR_readNeed_40 : decode bb_VR_readNeed 40 = .ok (.getfield 18, 3) := by decide +kernel
theorem dd_VR_readNeed_43 : decode bb_VR_readNeed 43 = .ok (.getfield 118, 3) := by decide +kernel
theorem dd_VR_readNeed_46 : decode bb_VR_readNeed 46 = .ok (.iload_n 2, 1) := by decide +kernel
theorem dd_VR_readNeed_47 : decode bb_VR_readNeed 47 = .ok (.dup2, 1) := by decide +kernel
theorem dd_VR_readNeed_48 : decode bb_VR_readNeed 48 = .ok (.iaload, 1) := by decide +kernel
theorem dd_VR_readNeed_49 : decode bb_VR_readNeed 49 = .ok (.iconst 1, 1) := by decide +kernel
theorem dd_VR_readNeed_50 : decode bb_VR_readNeed 50 = .ok (.iload_n 1, 1) := by decide +kernel
theorem dd_VR_readNeed_51 : decode bb_VR_readNeed 51 = .ok (.ishl, 1) := by decide +kernel
theorem dd_VR_readNeed_52 : decode bb_VR_readNeed 52 = .ok (.ior, 1) := by decide +kernel
theorem dd_VR_readNeed_53 : decode bb_VR_readNeed 53 = .ok (.iastore, 1) := by decide +kernel
theorem dd_VR_readNeed_54 : decode bb_VR_readNeed 54 = .ok (.return_, 1) := by decide +kernel
def mm_VR_readNeed_j54 (N : Nat) (this : Option Nat) (h_54 : ss_Hp) : Option ss_Hp :=
  some h_54
def mm_VR_readNeed (N : Nat) (this : Option Nat) (h : ss_Hp) : Option ss_Hp :=
  if ss_is h this 6 = true then
    (ss_gr h this 6 0).bind fun r1 =>
    ss_b2 (mm_T_number N r1 (0 : Int32) (30 : Int32) (-1 : Int32) h) fun v2 h3 =>
    (ss_gr h3 this 6 0).bind fun r4 =>
    (mm_T_isWell N r4 h3).bind fun v5 =>
    if v5 = 0 then
      some h3
    else
      ss_b2 (mm_VR_readToldStep N this (-1 : Int32) h3) fun v7 h8 =>
      (ss_gr h8 this 6 0).bind fun r9 =>
      (mm_T_isWell N r9 h8).bind fun v10 =>
      if v10 = 0 then
        mm_VR_readNeed_j54 N this h8
      else
        (ss_gr h8 this 6 1).bind fun r12 =>
        (ss_gr h8 r12 5 3).bind fun r13 =>
        (ss_ai h8 r13 20 v7).bind fun v14 =>
        (ss_ui h8 r13 20 v7 (v14 ||| ((1 : Int32) <<< (v2 &&& 31)))).bind fun h15 =>
        mm_VR_readNeed_j54 N this h15
  else none
abbrev ww_VR_readNeed (p : Program) (l : Launch) (e : Env) (s : State) (m : MethodId) (below : List Frame) (meth : Method) (c : Code) (G : ss_G) (this : Option Nat) (h : ss_Hp) (hh : ss_Hp) (H : Heap) (locs : List Loc) (k n : Nat) (g : JFrame) : Prop := W p l e (headSpec (ss_w yy_VR_readNeed bb_VR_readNeed 3 none) ({ frames := 4, cells := 0, slots := 0, locals := 87 })).room s m ([ss_v (ss_b G) this] : List Value).toArray below meth c H locs k n (MQ below (ss_Qc G none hh) ([ss_v (ss_b G) this] : List Value).toArray s 0 0 (ss_A G)) g
theorem ck_VR_readNeed {N : Nat} {this : Option Nat} {h : ss_Hp} {res : ss_Hp} (hm : mm_VR_readNeed N this h = some res) : ss_is h this 6 = true := (ss_chk hm).1
set_option maxHeartbeats 4000000 in
set_option maxRecDepth 100000 in
theorem cc_VR_readNeed (l : Launch) (G : ss_G) (N : Nat) (this : Option Nat) (h : ss_Hp) (hh : ss_Hp) (hm : mm_VR_readNeed N this h = some hh) : ss_Ct l G yy_VR_readNeed bb_VR_readNeed 3 none ({ frames := 4, cells := 0, slots := 0, locals := 87 }) [ss_v (ss_b G) this] h none hh := by
  obtain ⟨hck, hm⟩ := ss_chk hm
  refine Met.ofW (cc := bb_VR_readNeed) (maxL := 3) (ret := none) (by decide) rfl ?_
  intro p e s m args below meth c s₁ B hml hv
  obtain ⟨rfl, hR, hK⟩ := hv
  have hC : CallFix p m c bb_VR_readNeed 3 s _ lw_g sR_6 := ⟨B.exec, B.bytes, hml, findClass_of_methodNamed B.named, fun w hw => atoms_spec (ws := ss_w yy_VR_readNeed bb_VR_readNeed 3 none) B.pre w (List.mem_cons_of_mem _ hw)⟩
  have hx := hC.1
  have hb := hC.2.1
  have hr := B.returns
  have hlocks := B.notSynchronized
  have hS : va_S (ss_A G) s.heap s.heap [] := va_S.rf
  have hl := lv_entry ([ss_v (ss_b G) this]) (n := 3) (by simp [lg_sl, ss_v_cat, ss_cat_i, ss_cat_l, ss_cat_r])
  rw [lg_entry_eq]
  generalize (lg_sl ([ss_v (ss_b G) this]) ++ List.replicate (3 - (lg_sl ([ss_v (ss_b G) this])).length) Slot.unset).toArray = ls at hl ⊢
  have hl : lv_has ls 3 [(0, ss_v (ss_b G) this)] := by simpa [lv_args, ss_v_cat, ss_cat_i, ss_cat_l, ss_cat_r] using hl
  have J_54 : ∀ (h_54 : ss_Hp) (H : Heap) (locs : List Loc) (ls : Array Slot), mm_VR_readNeed_j54 N this h_54 = some hh → ss_R G h_54 H → va_S (ss_A G) s.heap H locs → lv_has ls 3 [] → ww_VR_readNeed p l e s m below meth c G this h hh  H locs 0 0 (F0 m 54 ls []) := by
    intro h_54 H locs ls hm hR hS hl
    exact ss_vret hC hr hlocks hR hS hm dd_VR_readNeed_54
  refine ss_aload_n hx hb dd_VR_readNeed_0 rfl (lv_at hl 0 rfl) ?_
  obtain ⟨r1, qr1, hm⟩ := ss_bind hm
  refine ss_getr hC hK hR kf_VR_9 rfl qr1 dd_VR_readNeed_1 ?_
  refine lv_iconst (v := 0) hx hb dd_VR_readNeed_4 (by decide) ?_
  refine lv_bipush (v := 30) hx hb dd_VR_readNeed_5 (by decide) ?_
  refine lv_iconst (v := -1) hx hb dd_VR_readNeed_7 (by decide) ?_
  obtain ⟨v2, h3, qh3, hm⟩ := ss_bind2 hm
  refine ss_cV 0 0 (As := [.int (0 : Int32), .int (30 : Int32), .int (-1 : Int32)]) hC hK hR hS hl.1 (cc_T_number l G N _ _ _ _ _ _ _ qh3) km_VR_82 (ck_T_number qh3) ⟨Nat.le_of_ble_eq_true rfl, Nat.le_of_ble_eq_true rfl⟩ ⟨Nat.le_of_ble_eq_true rfl, Nat.le_of_ble_eq_true rfl, Nat.le_of_ble_eq_true rfl, Nat.le_of_ble_eq_true rfl⟩ rfl rfl (Nat.le_of_ble_eq_true rfl) dd_VR_readNeed_8 (fun H locs hR hS => ?_)
  refine lv_istore_n (lv' := [(1, .int v2), (0, ss_v (ss_b G) this)]) hx hb dd_VR_readNeed_11 rfl hl (by decide) (by simp only [List.filter_cons, ss_v_cat]; rfl) (fun ls hl => ?_)
  refine ss_aload_n hx hb dd_VR_readNeed_12 rfl (lv_at hl 1 rfl) ?_
  obtain ⟨r4, qr4, hm⟩ := ss_bind hm
  refine ss_getr hC hK hR kf_VR_9 rfl qr4 dd_VR_readNeed_13 ?_
  obtain ⟨v5, qv5, hm⟩ := ss_bind hm
  refine ss_cV 0 0 (As := []) hC hK hR hS hl.1 (cc_T_isWell l G N _ _ _ qv5) km_VR_38 (ck_T_isWell qv5) ⟨Nat.le_of_ble_eq_true rfl, Nat.le_of_ble_eq_true rfl⟩ ⟨Nat.le_of_ble_eq_true rfl, Nat.le_of_ble_eq_true rfl, Nat.le_of_ble_eq_true rfl, Nat.le_of_ble_eq_true rfl⟩ rfl rfl (Nat.le_of_ble_eq_true rfl) dd_VR_readNeed_16 (fun H locs hR hS => ?_)
  refine lv_if_ne (tgt := 23) hx hb dd_VR_readNeed_19 (by decide) (fun c6 => ?_) (fun c6 => ?_)
  · have hm := ss_iff hm c6
    refine ss_aload_n hx hb dd_VR_readNeed_23 rfl (lv_at hl 1 rfl) ?_
    refine lv_iconst (v := -1) hx hb dd_VR_readNeed_24 (by decide) ?_
    obtain ⟨v7, h8, qh8, hm⟩ := ss_bind2 hm
    refine ss_cV 0 0 (As := [.int (-1 : Int32)]) hC hK hR hS hl.1 (cc_VR_readToldStep l G N _ _ _ _ _ qh8) km_VR_102 (ck_VR_readToldStep qh8) ⟨Nat.le_of_ble_eq_true rfl, Nat.le_of_ble_eq_true rfl⟩ ⟨Nat.le_of_ble_eq_true rfl, Nat.le_of_ble_eq_true rfl, Nat.le_of_ble_eq_true rfl, Nat.le_of_ble_eq_true rfl⟩ rfl rfl (Nat.le_of_ble_eq_true rfl) dd_VR_readNeed_25 (fun H locs hR hS => ?_)
    refine lv_istore_n (lv' := [(2, .int v7), (1, .int v2), (0, ss_v (ss_b G) this)]) hx hb dd_VR_readNeed_28 rfl hl (by decide) rfl (fun ls hl => ?_)
    refine ss_aload_n hx hb dd_VR_readNeed_29 rfl (lv_at hl 2 rfl) ?_
    obtain ⟨r9, qr9, hm⟩ := ss_bind hm
    refine ss_getr hC hK hR kf_VR_9 rfl qr9 dd_VR_readNeed_30 ?_
    obtain ⟨v10, qv10, hm⟩ := ss_bind hm
    refine ss_cV 0 0 (As := []) hC hK hR hS hl.1 (cc_T_isWell l G N _ _ _ qv10) km_VR_38 (ck_T_isWell qv10) ⟨Nat.le_of_ble_eq_true rfl, Nat.le_of_ble_eq_true rfl⟩ ⟨Nat.le_of_ble_eq_true rfl, Nat.le_of_ble_eq_true rfl, Nat.le_of_ble_eq_true rfl, Nat.le_of_ble_eq_true rfl⟩ rfl rfl (Nat.le_of_ble_eq_true rfl) dd_VR_readNeed_33 (fun H locs hR hS => ?_)
    refine lv_if_eq (tgt := 54) hx hb dd_VR_readNeed_36 (by decide) (fun c11 => ?_) (fun c11 => ?_)
    · have hm := ss_ift hm c11
      exact J_54 h8 _ _ _ hm hR hS (lv_sub hl [] rfl)
    · have hm := ss_iff hm c11
      refine ss_aload_n hx hb dd_VR_readNeed_39 rfl (lv_at hl 2 rfl) ?_
      obtain ⟨r12, qr12, hm⟩ := ss_bind hm
      refine ss_getr hC hK hR kf_VR_18 rfl qr12 dd_VR_readNeed_40 ?_
      obtain ⟨r13, qr13, hm⟩ := ss_bind hm
      refine ss_getr hC hK hR kf_VR_118 rfl qr13 dd_VR_readNeed_43 ?_
      refine lv_iload_n hx hb dd_VR_readNeed_46 rfl (lv_at hl 0 rfl) ?_
      refine ss_dup2ir hx hb dd_VR_readNeed_47 ?_
      obtain ⟨v14, qv14, hm⟩ := ss_bind hm
      refine ss_iald hC hK hR qv14 dd_VR_readNeed_48 ?_
      refine lv_iconst (v := 1) hx hb dd_VR_readNeed_49 (by decide) ?_
      refine lv_iload_n hx hb dd_VR_readNeed_50 rfl (lv_at hl 1 rfl) ?_
      refine lv_ishl hx hb dd_VR_readNeed_51 ?_
      refine lv_ior hx hb dd_VR_readNeed_52 ?_
      obtain ⟨h15, qh15, hm⟩ := ss_bind hm
      refine ss_iast hC hK hR hS qh15 dd_VR_readNeed_53 (fun H locs hR hS => ?_)
      exact J_54 h15 _ _ _ hm hR hS (lv_sub hl [] rfl)
  · have hm := ss_ift hm c6
    exact ss_vret hC hr hlocks hR hS hm dd_VR_readNeed_22
