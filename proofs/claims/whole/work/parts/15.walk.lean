theorem dd_Ru_run_0 : decode bb_Ru_run 0 = .ok (.iconst 0, 1) := by decide +kernel
theorem dd_Ru_run_1 : decode bb_Ru_run 1 = .ok (.istore 5, 2) := by decide +kernel
theorem dd_Ru_run_3 : decode bb_Ru_run 3 = .ok (.iload_n 1, 1) := by decide +kernel
theorem dd_Ru_run_4 : decode bb_Ru_run 4 = .ok (.istore 6, 2) := by decide +kernel
theorem dd_Ru_run_6 : decode bb_Ru_run 6 = .ok (.iload 6, 2) := by decide +kernel
theorem dd_Ru_run_8 : decode bb_Ru_run 8 = .ok (.iload_n 2, 1) := by decide +kernel
theorem dd_Ru_run_9 : decode bb_Ru_run 9 = .ok (.if_icmp .ge 142, 3) := by decide +kernel
theorem dd_Ru_run_12 : decode bb_Ru_run 12 = .ok (.aload_n 0, 1) := by decide +kernel
theorem dd_Ru_run_13 : decode bb_Ru_run 13 = .ok (.getfield 7, 3) := by decide +kernel
theorem dd_Ru_run_16 : decode bb_Ru_run 16 = .ok (.iload 6, 2) := by decide +kernel
theorem dd_Ru_run_18 : decode bb_Ru_run 18 = .ok (.iaload, 1) := by decide +kernel
theorem dd_Ru_run_19 : decode bb_Ru_run 19 = .ok (.istore 7, 2) := by decide +kernel
theorem dd_Ru_run_21 : decode bb_Ru_run 21 = .ok (.iload 7, 2) := by decide +kernel
theorem dd_Ru_run_23 : decode bb_Ru_run 23 = .ok (.ifCond .ge 10, 3) := by decide +kernel
theorem dd_Ru_run_26 : decode bb_Ru_run 26 = .ok (.iload 7, 2) := by decide +kernel
theorem dd_Ru_run_28 : decode bb_Ru_run 28 = .ok (.bipush (-14), 2) := by decide +kernel
theorem dd_Ru_run_30 : decode bb_Ru_run 30 = .ok (.if_icmp .gt 51, 3) := by decide +kernel
theorem dd_Ru_run_33 : decode bb_Ru_run 33 = .ok (.bipush (-14), 2) := by decide +kernel
theorem dd_Ru_run_35 : decode bb_Ru_run 35 = .ok (.iload 7, 2) := by decide +kernel
theorem dd_Ru_run_37 : decode bb_Ru_run 37 = .ok (.isub, 1) := by decide +kernel
theorem dd_Ru_run_38 : decode bb_Ru_run 38 = .ok (.istore 8, 2) := by decide +kernel
theorem dd_Ru_run_40 : decode bb_Ru_run 40 = .ok (.iload 5, 2) := by decide +kernel
theorem dd_Ru_run_42 : decode bb_Ru_run 42 = .ok (.aload 4, 2) := by decide +kernel
theorem dd_Ru_run_44 : decode bb_Ru_run 44 = .ok (.arraylength, 1) := by decide +kernel
theorem dd_Ru_run_45 : decode bb_Ru_run 45 = .ok (.if_icmp .ge 33, 3) := by decide +kernel
theorem dd_Ru_run_48 : decode bb_Ru_run 48 = .ok (.iload 8, 2) := by decide +kernel
theorem dd_Ru_run_50 : decode bb_Ru_run 50 = .ok (.aload_n 3, 1) := by decide +kernel
theorem dd_Ru_run_51 : decode bb_Ru_run 51 = .ok (.arraylength, 1) := by decide +kernel
theorem dd_Ru_run_52 : decode bb_Ru_run 52 = .ok (.if_icmp .ge 26, 3) := by decide +kernel
theorem dd_Ru_run_55 : decode bb_Ru_run 55 = .ok (.aload 4, 2) := by decide +kernel
theorem dd_Ru_run_57 : decode bb_Ru_run 57 = .ok (.iload 5, 2) := by decide +kernel
theorem dd_Ru_run_59 : decode bb_Ru_run 59 = .ok (.iload 7, 2) := by decide +kernel
theorem dd_Ru_run_61 : decode bb_Ru_run 61 = .ok (.ifCond .lt 9, 3) := by decide +kernel
theorem dd_Ru_run_64 : decode bb_Ru_run 64 = .ok (.iload 7, 2) := by decide +kernel
theorem dd_Ru_run_66 : decode bb_Ru_run 66 = .ok (.i2l, 1) := by decide +kernel
theorem dd_Ru_run_67 : decode bb_Ru_run 67 = .ok (.goto 7, 3) := by decide +kernel
theorem dd_Ru_run_70 : decode bb_Ru_run 70 = .ok (.aload_n 3, 1) := by decide +kernel
theorem dd_Ru_run_71 : decode bb_Ru_run 71 = .ok (.iload 8, 2) := by decide +kernel
theorem dd_Ru_run_73 : decode bb_Ru_run 73 = .ok (.laload, 1) := by decide +kernel
theorem dd_Ru_run_74 : decode bb_Ru_run 74 = .ok (.lastore, 1) := by decide +kernel
theorem dd_Ru_run_75 : decode bb_Ru_run 75 = .ok (.iinc 5 1, 3) := by decide +kernel
theorem dd_Ru_run_78 : decode bb_Ru_run 78 = .ok (.goto 67, 3) := by decide +kernel
theorem dd_Ru_run_81 : decode bb_Ru_run 81 = .ok (.iload 7, 2) := by decide +kernel
theorem dd_Ru_run_83 : decode bb_Ru_run 83 = .ok (.bipush (-13), 2) := by decide +kernel
theorem dd_Ru_run_85 : decode bb_Ru_run 85 = .ok (.if_icmp .ne 27, 3) := by decide +kernel
theorem dd_Ru_run_88 : decode bb_Ru_run 88 = .ok (.iload 5, 2) := by decide +kernel
theorem dd_Ru_run_90 : decode bb_Ru_run 90 = .ok (.ifCond .le 55, 3) := by decide +kernel
theorem dd_Ru_run_93 : decode bb_Ru_run 93 = .ok (.aload 4, 2) := by decide +kernel
theorem dd_Ru_run_95 : decode bb_Ru_run 95 = .ok (.iload 5, 2) := by decide +kernel
theorem dd_Ru_run_97 : decode bb_Ru_run 97 = .ok (.iconst 1, 1) := by decide +kernel
theorem dd_Ru_run_98 : decode bb_Ru_run 98 = .ok (.isub, 1) := by decide +kernel
theorem dd_Ru_run_99 : decode bb_Ru_run 99 = .ok (.lconst 1, 1) := by decide +kernel
theorem dd_Ru_run_100 : decode bb_Ru_run 100 = .ok (.aload 4, 2) := by decide +kernel
theorem dd_Ru_run_102 : decode bb_Ru_run 102 = .ok (.iload 5, 2) := by decide +kernel
theorem dd_Ru_run_104 : decode bb_Ru_run 104 = .ok (.iconst 1, 1) := by decide +kernel
theorem dd_Ru_run_105 : decode bb_Ru_run 105 = .ok (.isub, 1) := by decide +kernel
theorem dd_Ru_run_106 : decode bb_Ru_run 106 = .ok (.laload, 1) := by decide +kernel
theorem dd_Ru_run_107 : decode bb_Ru_run 107 = .ok (.lsub, 1) := by decide +kernel
theorem dd_Ru_run_108 : decode bb_Ru_run 108 = .ok (.lastore, 1) := by decide +kernel
theorem dd_Ru_run_109 : decode bb_Ru_run 109 = .ok (.goto 36, 3) := by decide +kernel
theorem dd_Ru_run_112 : decode bb_Ru_run 112 = .ok (.iload 5, 2) := by decide +kernel
theorem dd_Ru_run_114 : decode bb_Ru_run 114 = .ok (.iconst 1, 1) := by decide +kernel
theorem dd_Ru_run_115 : decode bb_Ru_run 115 = .ok (.if_icmp .le 30, 3) := by decide +kernel
theorem dd_Ru_run_118 : decode bb_Ru_run 118 = .ok (.iinc 5 (-1), 3) := by decide +kernel
theorem dd_Ru_run_121 : decode bb_Ru_run 121 = .ok (.aload 4, 2) := by decide +kernel
theorem dd_Ru_run_123 : decode bb_Ru_run 123 = .ok (.iload 5, 2) := by decide +kernel
theorem dd_Ru_run_125 : decode bb_Ru_run 125 = .ok (.iconst 1, 1) := by decide +kernel
theorem dd_Ru_run_126 : decode bb_Ru_run 126 = .ok (.isub, 1) := by decide +kernel
theorem dd_Ru_run_127 : decode bb_Ru_run 127 = .ok (.iload 7, 2) := by decide +kernel
theorem dd_Ru_run_129 : decode bb_Ru_run 129 = .ok (.aload 4, 2) := by decide +kernel
theorem dd_Ru_run_131 : decode bb_Ru_run 131 = .ok (.iload 5, 2) := by decide +kernel
theorem dd_Ru_run_133 : decode bb_Ru_run 133 = .ok (.iconst 1, 1) := by decide +kernel
theorem dd_Ru_run_134 : decode bb_Ru_run 134 = .ok (.isub, 1) := by decide +kernel
theorem dd_Ru_run_135 : decode bb_Ru_run 135 = .ok (.laload, 1) := by decide +kernel
theorem dd_Ru_run_136 : decode bb_Ru_run 136 = .ok (.aload 4, 2) := by decide +kernel
theorem dd_Ru_run_138 : decode bb_Ru_run 138 = .ok (.iload 5, 2) := by decide +kernel
theorem dd_Ru_run_140 : decode bb_Ru_run 140 = .ok (.laload, 1) := by decide +kernel
theorem dd_Ru_run_141 : decode bb_Ru_run 141 = .ok (.invokestatic 30, 3) := by decide +kernel
theorem dd_Ru_run_144 : decode bb_Ru_run 144 = .ok (.lastore, 1) := by decide +kernel
theorem dd_Ru_run_145 : decode bb_Ru_run 145 = .ok (.iinc 6 1, 3) := by decide +kernel
theorem dd_Ru_run_148 : decode bb_Ru_run 148 = .ok (.goto (-142), 3) := by decide +kernel
theorem dd_Ru_run_151 : decode bb_Ru_run 151 = .ok (.iload 5, 2) := by decide +kernel
theorem dd_Ru_run_153 : decode bb_Ru_run 153 = .ok (.ifCond .le 10, 3) := by decide +kernel
theorem dd_Ru_run_156 : decode bb_Ru_run 156 = .ok (.aload 4, 2) := by decide +kernel
theorem dd_Ru_run_158 : decode bb_Ru_run 158 = .ok (.iconst 0, 1) := by decide +kernel
theorem dd_Ru_run_159 : decode bb_Ru_run 159 = .ok (.laload, 1) := by decide +kernel
theorem dd_Ru_run_160 : decode bb_Ru_run 160 = .ok (.goto 4, 3) := by decide +kernel
theorem dd_Ru_run_163 : decode bb_Ru_run 163 = .ok (.lconst 0, 1) := by decide +kernel
theorem dd_Ru_run_164 : decode bb_Ru_run 164 = .ok (.lreturn, 1) := by decide +kernel
def mm_Ru_run_j164 (N : Nat) (this : Option Nat) (a1 : Int32) (a2 : Int32) (a3 : Option Nat) (a4 : Option Nat) (s0_164 : Int64) (h_164 : ss_Hp) : Option (Int64 × ss_Hp) :=
  some (s0_164, h_164)
def mm_Ru_run_j145 (N : Nat) (this : Option Nat) (a2 : Int32) (a3 : Option Nat) (a4 : Option Nat) (x5_145 : Int32) (x6_145 : Int32) (h_145 : ss_Hp) : Option ((Int32 × Int32 × ss_Hp) ⊕ (Int32 × ss_Hp)) :=
  (some (x6_145 + (1 : Int32))).bind fun v3 =>
  some (.inl (x5_145, v3, h_145))
def mm_Ru_run_j78 (N : Nat) (this : Option Nat) (a2 : Int32) (a3 : Option Nat) (a4 : Option Nat) (x5_78 : Int32) (x6_78 : Int32) (h_78 : ss_Hp) : Option ((Int32 × Int32 × ss_Hp) ⊕ (Int32 × ss_Hp)) :=
  mm_Ru_run_j145 N this a2 a3 a4 x5_78 x6_78 h_78
def mm_Ru_run_j74 (N : Nat) (this : Option Nat) (a2 : Int32) (a3 : Option Nat) (a4 : Option Nat) (x5_74 : Int32) (x6_74 : Int32) (s0_74 : Option Nat) (s1_74 : Int32) (s2_74 : Int64) (h_74 : ss_Hp) : Option ((Int32 × Int32 × ss_Hp) ⊕ (Int32 × ss_Hp)) :=
  (ss_ul h_74 s0_74 23 s1_74 s2_74).bind fun h4 =>
  (some (x5_74 + (1 : Int32))).bind fun v5 =>
  mm_Ru_run_j78 N this a2 a3 a4 v5 x6_74 h4
def mm_Ru_run_j33 (N : Nat) (this : Option Nat) (a2 : Int32) (a3 : Option Nat) (a4 : Option Nat) (x5_33 : Int32) (x6_33 : Int32) (x7_33 : Int32) (h_33 : ss_Hp) : Option ((Int32 × Int32 × ss_Hp) ⊕ (Int32 × ss_Hp)) :=
  (some ((-14 : Int32) - x7_33)).bind fun v6 =>
  (ss_len h_33 a4 23).bind fun v7 =>
  if v7 ≤ x5_33 then
    mm_Ru_run_j78 N this a2 a3 a4 x5_33 x6_33 h_33
  else
    (ss_len h_33 a3 23).bind fun v9 =>
    if v9 ≤ v6 then
      mm_Ru_run_j78 N this a2 a3 a4 x5_33 x6_33 h_33
    else
      if x7_33 < 0 then
        (ss_al h_33 a3 23 v6).bind fun v12 =>
        mm_Ru_run_j74 N this a2 a3 a4 x5_33 x6_33 a4 x5_33 v12 h_33
      else
        mm_Ru_run_j74 N this a2 a3 a4 x5_33 x6_33 a4 x5_33 ((x7_33).toInt64) h_33
def mm_Ru_run_b6 (N : Nat) (this : Option Nat) (a2 : Int32) (a3 : Option Nat) (a4 : Option Nat) (st : Int32 × Int32 × ss_Hp) : Option ((Int32 × Int32 × ss_Hp) ⊕ (Int32 × ss_Hp)) :=
  match st with
  | (x5_6, x6_6, h_6) =>
    if a2 ≤ x6_6 then
      some (.inr (x5_6, h_6))
    else
      (ss_gr h_6 this 1 0).bind fun r14 =>
      (ss_ai h_6 r14 20 x6_6).bind fun v15 =>
      if 0 ≤ v15 then
        mm_Ru_run_j33 N this a2 a3 a4 x5_6 x6_6 v15 h_6
      else
        if (-14 : Int32) < v15 then
          if v15 = (-13 : Int32) then
            if x5_6 ≤ 0 then
              mm_Ru_run_j145 N this a2 a3 a4 x5_6 x6_6 h_6
            else
              (ss_al h_6 a4 23 (x5_6 - (1 : Int32))).bind fun v26 =>
              (ss_ul h_6 a4 23 (x5_6 - (1 : Int32)) ((1 : Int64) - v26)).bind fun h27 =>
              mm_Ru_run_j145 N this a2 a3 a4 x5_6 x6_6 h27
          else
            if x5_6 ≤ (1 : Int32) then
              mm_Ru_run_j145 N this a2 a3 a4 x5_6 x6_6 h_6
            else
              (some (x5_6 + (-1 : Int32))).bind fun v20 =>
              (ss_al h_6 a4 23 (v20 - (1 : Int32))).bind fun v21 =>
              (ss_al h_6 a4 23 v20).bind fun v22 =>
              (mm_Ru_join N v15 v21 v22).bind fun v23 =>
              (ss_ul h_6 a4 23 (v20 - (1 : Int32)) v23).bind fun h24 =>
              mm_Ru_run_j145 N this a2 a3 a4 v20 x6_6 h24
        else
          mm_Ru_run_j33 N this a2 a3 a4 x5_6 x6_6 v15 h_6
def mm_Ru_run (N : Nat) (this : Option Nat) (a1 : Int32) (a2 : Int32) (a3 : Option Nat) (a4 : Option Nat) (h : ss_Hp) : Option (Int64 × ss_Hp) :=
  if ss_is h this 1 = true then
    (ss_lp (mm_Ru_run_b6 N this a2 a3 a4) N ((0 : Int32), a1, h)).bind fun e_6 =>
    match e_6 with
    | (y5_6_151, h_6_151) =>
      if y5_6_151 ≤ 0 then
        mm_Ru_run_j164 N this a1 a2 a3 a4 (0 : Int64) h_6_151
      else
        (ss_al h_6_151 a4 23 (0 : Int32)).bind fun v2 =>
        mm_Ru_run_j164 N this a1 a2 a3 a4 v2 h_6_151
  else none
abbrev ww_Ru_run (p : Program) (l : Launch) (e : Env) (s : State) (m : MethodId) (below : List Frame) (meth : Method) (c : Code) (G : ss_G) (this : Option Nat) (a1 : Int32) (a2 : Int32) (a3 : Option Nat) (a4 : Option Nat) (h : ss_Hp) (rr : Int64) (hh : ss_Hp) (H : Heap) (locs : List Loc) (k n : Nat) (g : JFrame) : Prop := W p l e (headSpec (ss_w yy_Ru_run bb_Ru_run 9 (some .long)) ({ frames := 1, cells := 0, slots := 0, locals := 24 })).room s m ([ss_v (ss_b G) this, .int a1, .int a2, ss_v (ss_b G) a3, ss_v (ss_b G) a4] : List Value).toArray below meth c H locs k n (MQ below (ss_Qc G (some (.long rr)) hh) ([ss_v (ss_b G) this, .int a1, .int a2, ss_v (ss_b G) a3, ss_v (ss_b G) a4] : List Value).toArray s 0 0 (ss_A G)) g
theorem ck_Ru_run {N : Nat} {this : Option Nat} {a1 : Int32} {a2 : Int32} {a3 : Option Nat} {a4 : Option Nat} {h : ss_Hp} {res : Int64 × ss_Hp} (hm : mm_Ru_run N this a1 a2 a3 a4 h = some res) : ss_is h this 1 = true := (ss_chk hm).1
set_option maxHeartbeats 4000000 in
set_option maxRecDepth 100000 in
theorem cc_Ru_run (l : Launch) (G : ss_G) (N : Nat) (this : Option Nat) (a1 : Int32) (a2 : Int32) (a3 : Option Nat) (a4 : Option Nat) (h : ss_Hp) (rr : Int64) (hh : ss_Hp) (hm : mm_Ru_run N this a1 a2 a3 a4 h = some (rr, hh)) : ss_Ct l G yy_Ru_run bb_Ru_run 9 (some .long) ({ frames := 1, cells := 0, slots := 0, locals := 24 }) [ss_v (ss_b G) this, .int a1, .int a2, ss_v (ss_b G) a3, ss_v (ss_b G) a4] h (some (.long rr)) hh := by
  obtain ⟨hck, hm⟩ := ss_chk hm
  refine Met.ofW (cc := bb_Ru_run) (maxL := 9) (ret := (some .long)) (by decide) rfl ?_
  intro p e s m args below meth c s₁ B hml hv
  obtain ⟨rfl, hR, hK⟩ := hv
  have hC : CallFix p m c bb_Ru_run 9 s _ lw_g sR_1 := ⟨B.exec, B.bytes, hml, findClass_of_methodNamed B.named, fun w hw => atoms_spec (ws := ss_w yy_Ru_run bb_Ru_run 9 (some .long)) B.pre w (List.mem_cons_of_mem _ hw)⟩
  have hx := hC.1
  have hb := hC.2.1
  have hr := B.returns
  have hlocks := B.notSynchronized
  have hS : va_S (ss_A G) s.heap s.heap [] := va_S.rf
  have hl := lv_entry ([ss_v (ss_b G) this, .int a1, .int a2, ss_v (ss_b G) a3, ss_v (ss_b G) a4]) (n := 9) (by simp [lg_sl, ss_v_cat, ss_cat_i, ss_cat_l, ss_cat_r])
  rw [lg_entry_eq]
  generalize (lg_sl ([ss_v (ss_b G) this, .int a1, .int a2, ss_v (ss_b G) a3, ss_v (ss_b G) a4]) ++ List.replicate (9 - (lg_sl ([ss_v (ss_b G) this, .int a1, .int a2, ss_v (ss_b G) a3, ss_v (ss_b G) a4])).length) Slot.unset).toArray = ls at hl ⊢
  have hl : lv_has ls 9 [(0, ss_v (ss_b G) this), (1, .int a1), (2, .int a2), (3, ss_v (ss_b G) a3), (4, ss_v (ss_b G) a4)] := by simpa [lv_args, ss_v_cat, ss_cat_i, ss_cat_l, ss_cat_r] using hl
  have J_164 : ∀ (s0_164 : Int64) (h_164 : ss_Hp) (H : Heap) (locs : List Loc) (ls : Array Slot), mm_Ru_run_j164 N this a1 a2 a3 a4 s0_164 h_164 = some (rr, hh) → ss_R G h_164 H → va_S (ss_A G) s.heap H locs → lv_has ls 9 [] → ww_Ru_run p l e s m below meth c G this a1 a2 a3 a4 h rr hh  H locs 0 0 (F0 m 164 ls [.long s0_164]) := by
    intro s0_164 h_164 H locs ls hm hR hS hl
    exact ss_lret hC hr hlocks hR hS hm dd_Ru_run_164
  refine lv_iconst (v := 0) hx hb dd_Ru_run_0 (by decide) ?_
  refine lv_istore (lv' := [(5, .int (0 : Int32)), (0, ss_v (ss_b G) this), (1, .int a1), (2, .int a2), (3, ss_v (ss_b G) a3), (4, ss_v (ss_b G) a4)]) hx hb dd_Ru_run_1 hl (by decide) (by simp only [List.filter_cons, ss_v_cat]; rfl) (fun ls hl => ?_)
  refine lv_iload_n hx hb dd_Ru_run_3 rfl (lv_at hl 2 rfl) ?_
  refine lv_istore (lv' := [(6, .int a1), (5, .int (0 : Int32)), (0, ss_v (ss_b G) this), (1, .int a1), (2, .int a2), (3, ss_v (ss_b G) a3), (4, ss_v (ss_b G) a4)]) hx hb dd_Ru_run_4 hl (by decide) rfl (fun ls hl => ?_)
  obtain ⟨e_6, he_6, hm⟩ := ss_bind hm
  have X_6_151 : ∀ (y5_6_151 : Int32) (h_6_151 : ss_Hp) (H : Heap) (locs : List Loc) (ls : Array Slot), e_6 = (y5_6_151, h_6_151) → ss_R G h_6_151 H → va_S (ss_A G) s.heap H locs → lv_has ls 9 [(4, ss_v (ss_b G) a4), (5, .int y5_6_151)] → ww_Ru_run p l e s m below meth c G this a1 a2 a3 a4 h rr hh  H locs 0 0 (F0 m 151 ls []) := by
    intro y5_6_151 h_6_151 H locs ls hq hR hS hl
    rw [hq] at hm
    refine lv_iload hx hb dd_Ru_run_151 (lv_at hl 1 rfl) ?_
    refine lv_if_le (tgt := 163) hx hb dd_Ru_run_153 (by decide) (fun c1 => ?_) (fun c1 => ?_)
    · have hm := ss_ift hm c1
      refine lv_lconst (v := 0) hx hb dd_Ru_run_163 (by decide) ?_
      exact J_164 (0 : Int64) h_6_151 _ _ _ hm hR hS (lv_sub hl [] rfl)
    · have hm := ss_iff hm c1
      refine ss_aload hx hb dd_Ru_run_156 (lv_at hl 0 rfl) ?_
      refine lv_iconst (v := 0) hx hb dd_Ru_run_158 (by decide) ?_
      obtain ⟨v2, qv2, hm⟩ := ss_bind hm
      refine ss_lald hC hK hR qv2 dd_Ru_run_159 ?_
      refine lv_goto (tgt := 164) hx hb dd_Ru_run_160 (by decide) ?_
      exact J_164 v2 h_6_151 _ _ _ hm hR hS (lv_sub hl [] rfl)
  have L_6 : ∀ (n : Nat) (x5_6 : Int32) (x6_6 : Int32) (h_6 : ss_Hp) (H : Heap) (locs : List Loc) (ls : Array Slot), ss_lp (mm_Ru_run_b6 N this a2 a3 a4) n (x5_6, x6_6, h_6) = some e_6 → ss_R G h_6 H → va_S (ss_A G) s.heap H locs → lv_has ls 9 [(0, ss_v (ss_b G) this), (2, .int a2), (3, ss_v (ss_b G) a3), (4, ss_v (ss_b G) a4), (5, .int x5_6), (6, .int x6_6)] → ww_Ru_run p l e s m below meth c G this a1 a2 a3 a4 h rr hh  H locs 0 0 (F0 m 6 ls []) := by
    intro n
    induction n with
    | zero => intro x5_6 x6_6 h_6 H locs ls hm; cases hm
    | succ n ih_6 =>
      intro x5_6 x6_6 h_6 H locs ls hm hR hS hl
      obtain ⟨z_6, hm, hz1_6, hz2_6⟩ := ss_lps hm
      have J_145 : ∀ (x5_145 : Int32) (x6_145 : Int32) (h_145 : ss_Hp) (H : Heap) (locs : List Loc) (ls : Array Slot), mm_Ru_run_j145 N this a2 a3 a4 x5_145 x6_145 h_145 = some z_6 → ss_R G h_145 H → va_S (ss_A G) s.heap H locs → lv_has ls 9 [(0, ss_v (ss_b G) this), (2, .int a2), (3, ss_v (ss_b G) a3), (4, ss_v (ss_b G) a4), (5, .int x5_145), (6, .int x6_145)] → ww_Ru_run p l e s m below meth c G this a1 a2 a3 a4 h rr hh  H locs 0 0 (F0 m 145 ls []) := by
        intro x5_145 x6_145 h_145 H locs ls hm hR hS hl
        obtain ⟨v3, qv3, hm⟩ := ss_bind hm
        refine lv_iinc (v := v3) (lv' := [(6, .int v3), (0, ss_v (ss_b G) this), (2, .int a2), (3, ss_v (ss_b G) a3), (4, ss_v (ss_b G) a4), (5, .int x5_145)]) hx hb dd_Ru_run_145 hl (k := 5) rfl (ss_inc (by decide) qv3) (by decide) rfl (fun ls hl => ?_)
        refine lv_goto (tgt := 6) hx hb dd_Ru_run_148 (by decide) ?_
        exact ih_6 x5_145 v3 h_145 _ _ _ (hz1_6 _ (ss_some hm)) hR hS (lv_sub hl [1, 2, 3, 4, 5, 0] rfl)
      have J_78 : ∀ (x5_78 : Int32) (x6_78 : Int32) (h_78 : ss_Hp) (H : Heap) (locs : List Loc) (ls : Array Slot), mm_Ru_run_j78 N this a2 a3 a4 x5_78 x6_78 h_78 = some z_6 → ss_R G h_78 H → va_S (ss_A G) s.heap H locs → lv_has ls 9 [(0, ss_v (ss_b G) this), (2, .int a2), (3, ss_v (ss_b G) a3), (4, ss_v (ss_b G) a4), (5, .int x5_78), (6, .int x6_78)] → ww_Ru_run p l e s m below meth c G this a1 a2 a3 a4 h rr hh  H locs 0 0 (F0 m 78 ls []) := by
        intro x5_78 x6_78 h_78 H locs ls hm hR hS hl
        refine lv_goto (tgt := 145) hx hb dd_Ru_run_78 (by decide) ?_
        exact J_145 x5_78 x6_78 h_78 _ _ _ hm hR hS hl
      have J_74 : ∀ (x5_74 : Int32) (x6_74 : Int32) (s0_74 : Option Nat) (s1_74 : Int32) (s2_74 : Int64) (h_74 : ss_Hp) (H : Heap) (locs : List Loc) (ls : Array Slot), mm_Ru_run_j74 N this a2 a3 a4 x5_74 x6_74 s0_74 s1_74 s2_74 h_74 = some z_6 → ss_R G h_74 H → va_S (ss_A G) s.heap H locs → lv_has ls 9 [(0, ss_v (ss_b G) this), (2, .int a2), (3, ss_v (ss_b G) a3), (4, ss_v (ss_b G) a4), (5, .int x5_74), (6, .int x6_74)] → ww_Ru_run p l e s m below meth c G this a1 a2 a3 a4 h rr hh  H locs 0 0 (F0 m 74 ls [.long s2_74, .int s1_74, ss_v (ss_b G) s0_74]) := by
        intro x5_74 x6_74 s0_74 s1_74 s2_74 h_74 H locs ls hm hR hS hl
        obtain ⟨h4, qh4, hm⟩ := ss_bind hm
        refine ss_last hC hK hR hS qh4 dd_Ru_run_74 (fun H locs hR hS => ?_)
        obtain ⟨v5, qv5, hm⟩ := ss_bind hm
        refine lv_iinc (v := v5) (lv' := [(5, .int v5), (0, ss_v (ss_b G) this), (2, .int a2), (3, ss_v (ss_b G) a3), (4, ss_v (ss_b G) a4), (6, .int x6_74)]) hx hb dd_Ru_run_75 hl (k := 4) rfl (ss_inc (by decide) qv5) (by decide) (by simp only [List.filter_cons, ss_v_cat]; rfl) (fun ls hl => ?_)
        exact J_78 v5 x6_74 h4 _ _ _ hm hR hS (lv_sub hl [1, 2, 3, 4, 0, 5] rfl)
      have J_33 : ∀ (x5_33 : Int32) (x6_33 : Int32) (x7_33 : Int32) (h_33 : ss_Hp) (H : Heap) (locs : List Loc) (ls : Array Slot), mm_Ru_run_j33 N this a2 a3 a4 x5_33 x6_33 x7_33 h_33 = some z_6 → ss_R G h_33 H → va_S (ss_A G) s.heap H locs → lv_has ls 9 [(0, ss_v (ss_b G) this), (2, .int a2), (3, ss_v (ss_b G) a3), (4, ss_v (ss_b G) a4), (5, .int x5_33), (6, .int x6_33), (7, .int x7_33)] → ww_Ru_run p l e s m below meth c G this a1 a2 a3 a4 h rr hh  H locs 0 0 (F0 m 33 ls []) := by
        intro x5_33 x6_33 x7_33 h_33 H locs ls hm hR hS hl
        refine lv_bipush (v := -14) hx hb dd_Ru_run_33 (by decide) ?_
        refine lv_iload hx hb dd_Ru_run_35 (lv_at hl 6 rfl) ?_
        refine lv_isub hx hb dd_Ru_run_37 ?_
        obtain ⟨v6, qv6, hm⟩ := ss_bind hm
        refine ss_topi qv6 ?_
        refine lv_istore (lv' := [(8, .int v6), (0, ss_v (ss_b G) this), (2, .int a2), (3, ss_v (ss_b G) a3), (4, ss_v (ss_b G) a4), (5, .int x5_33), (6, .int x6_33), (7, .int x7_33)]) hx hb dd_Ru_run_38 hl (by decide) rfl (fun ls hl => ?_)
        refine lv_iload hx hb dd_Ru_run_40 (lv_at hl 5 rfl) ?_
        refine ss_aload hx hb dd_Ru_run_42 (lv_at hl 4 rfl) ?_
        obtain ⟨v7, qv7, hm⟩ := ss_bind hm
        refine ss_alenL hC hK hR qv7 dd_Ru_run_44 ?_
        refine lv_icmp_ge (tgt := 78) hx hb dd_Ru_run_45 (by decide) (fun c8 => ?_) (fun c8 => ?_)
        · have hm := ss_ift hm c8
          exact J_78 x5_33 x6_33 h_33 _ _ _ hm hR hS (lv_sub hl [1, 2, 3, 4, 5, 6] rfl)
        · have hm := ss_iff hm c8
          refine lv_iload hx hb dd_Ru_run_48 (lv_at hl 0 rfl) ?_
          refine ss_aload_n hx hb dd_Ru_run_50 rfl (lv_at hl 3 rfl) ?_
          obtain ⟨v9, qv9, hm⟩ := ss_bind hm
          refine ss_alenL hC hK hR qv9 dd_Ru_run_51 ?_
          refine lv_icmp_ge (tgt := 78) hx hb dd_Ru_run_52 (by decide) (fun c10 => ?_) (fun c10 => ?_)
          · have hm := ss_ift hm c10
            exact J_78 x5_33 x6_33 h_33 _ _ _ hm hR hS (lv_sub hl [1, 2, 3, 4, 5, 6] rfl)
          · have hm := ss_iff hm c10
            refine ss_aload hx hb dd_Ru_run_55 (lv_at hl 4 rfl) ?_
            refine lv_iload hx hb dd_Ru_run_57 (lv_at hl 5 rfl) ?_
            refine lv_iload hx hb dd_Ru_run_59 (lv_at hl 7 rfl) ?_
            refine lv_if_lt (tgt := 70) hx hb dd_Ru_run_61 (by decide) (fun c11 => ?_) (fun c11 => ?_)
            · have hm := ss_ift hm c11
              refine ss_aload_n hx hb dd_Ru_run_70 rfl (lv_at hl 3 rfl) ?_
              refine lv_iload hx hb dd_Ru_run_71 (lv_at hl 0 rfl) ?_
              obtain ⟨v12, qv12, hm⟩ := ss_bind hm
              refine ss_lald hC hK hR qv12 dd_Ru_run_73 ?_
              exact J_74 x5_33 x6_33 a4 x5_33 v12 h_33 _ _ _ hm hR hS (lv_sub hl [1, 2, 3, 4, 5, 6] rfl)
            · have hm := ss_iff hm c11
              refine lv_iload hx hb dd_Ru_run_64 (lv_at hl 7 rfl) ?_
              refine lv_i2l hx hb dd_Ru_run_66 rfl ?_
              refine lv_goto (tgt := 74) hx hb dd_Ru_run_67 (by decide) ?_
              exact J_74 x5_33 x6_33 a4 x5_33 ((x7_33).toInt64) h_33 _ _ _ hm hR hS (lv_sub hl [1, 2, 3, 4, 5, 6] rfl)
      refine lv_iload hx hb dd_Ru_run_6 (lv_at hl 5 rfl) ?_
      refine lv_iload_n hx hb dd_Ru_run_8 rfl (lv_at hl 1 rfl) ?_
      refine lv_icmp_ge (tgt := 151) hx hb dd_Ru_run_9 (by decide) (fun c13 => ?_) (fun c13 => ?_)
      · have hm := ss_ift hm c13
        exact X_6_151 x5_6 h_6 _ _ _ (hz2_6 _ (ss_some hm)) hR hS (lv_sub hl [3, 4] rfl)
      · have hm := ss_iff hm c13
        refine ss_aload_n hx hb dd_Ru_run_12 rfl (lv_at hl 0 rfl) ?_
        obtain ⟨r14, qr14, hm⟩ := ss_bind hm
        refine ss_getr hC hK hR kf_Ru_7 rfl qr14 dd_Ru_run_13 ?_
        refine lv_iload hx hb dd_Ru_run_16 (lv_at hl 5 rfl) ?_
        obtain ⟨v15, qv15, hm⟩ := ss_bind hm
        refine ss_iald hC hK hR qv15 dd_Ru_run_18 ?_
        refine lv_istore (lv' := [(7, .int v15), (0, ss_v (ss_b G) this), (2, .int a2), (3, ss_v (ss_b G) a3), (4, ss_v (ss_b G) a4), (5, .int x5_6), (6, .int x6_6)]) hx hb dd_Ru_run_19 hl (by decide) rfl (fun ls hl => ?_)
        refine lv_iload hx hb dd_Ru_run_21 (lv_at hl 0 rfl) ?_
        refine lv_if_ge (tgt := 33) hx hb dd_Ru_run_23 (by decide) (fun c16 => ?_) (fun c16 => ?_)
        · have hm := ss_ift hm c16
          exact J_33 x5_6 x6_6 v15 h_6 _ _ _ hm hR hS (lv_sub hl [1, 2, 3, 4, 5, 6, 0] rfl)
        · have hm := ss_iff hm c16
          refine lv_iload hx hb dd_Ru_run_26 (lv_at hl 0 rfl) ?_
          refine lv_bipush (v := -14) hx hb dd_Ru_run_28 (by decide) ?_
          refine lv_icmp_gt (tgt := 81) hx hb dd_Ru_run_30 (by decide) (fun c17 => ?_) (fun c17 => ?_)
          · have hm := ss_ift hm c17
            refine lv_iload hx hb dd_Ru_run_81 (lv_at hl 0 rfl) ?_
            refine lv_bipush (v := -13) hx hb dd_Ru_run_83 (by decide) ?_
            refine lv_icmp_ne (tgt := 112) hx hb dd_Ru_run_85 (by decide) (fun c18 => ?_) (fun c18 => ?_)
            · have hm := ss_iff hm c18
              refine lv_iload hx hb dd_Ru_run_112 (lv_at hl 5 rfl) ?_
              refine lv_iconst (v := 1) hx hb dd_Ru_run_114 (by decide) ?_
              refine lv_icmp_le (tgt := 145) hx hb dd_Ru_run_115 (by decide) (fun c19 => ?_) (fun c19 => ?_)
              · have hm := ss_ift hm c19
                exact J_145 x5_6 x6_6 h_6 _ _ _ hm hR hS (lv_sub hl [1, 2, 3, 4, 5, 6] rfl)
              · have hm := ss_iff hm c19
                obtain ⟨v20, qv20, hm⟩ := ss_bind hm
                refine lv_iinc (v := v20) (lv' := [(5, .int v20), (7, .int v15), (0, ss_v (ss_b G) this), (2, .int a2), (3, ss_v (ss_b G) a3), (4, ss_v (ss_b G) a4), (6, .int x6_6)]) hx hb dd_Ru_run_118 hl (k := 5) rfl (ss_inc (by decide) qv20) (by decide) (by simp only [List.filter_cons, ss_v_cat]; rfl) (fun ls hl => ?_)
                refine ss_aload hx hb dd_Ru_run_121 (lv_at hl 5 rfl) ?_
                refine lv_iload hx hb dd_Ru_run_123 (lv_at hl 0 rfl) ?_
                refine lv_iconst (v := 1) hx hb dd_Ru_run_125 (by decide) ?_
                refine lv_isub hx hb dd_Ru_run_126 ?_
                refine lv_iload hx hb dd_Ru_run_127 (lv_at hl 1 rfl) ?_
                refine ss_aload hx hb dd_Ru_run_129 (lv_at hl 5 rfl) ?_
                refine lv_iload hx hb dd_Ru_run_131 (lv_at hl 0 rfl) ?_
                refine lv_iconst (v := 1) hx hb dd_Ru_run_133 (by decide) ?_
                refine lv_isub hx hb dd_Ru_run_134 ?_
                obtain ⟨v21, qv21, hm⟩ := ss_bind hm
                refine ss_lald hC hK hR qv21 dd_Ru_run_135 ?_
                refine ss_aload hx hb dd_Ru_run_136 (lv_at hl 5 rfl) ?_
                refine lv_iload hx hb dd_Ru_run_138 (lv_at hl 0 rfl) ?_
                obtain ⟨v22, qv22, hm⟩ := ss_bind hm
                refine ss_lald hC hK hR qv22 dd_Ru_run_140 ?_
                obtain ⟨v23, qv23, hm⟩ := ss_bind hm
                refine ss_cS 0 0 (As := [.int v15, .long v21, .long v22]) hC hK hR hS hl.1 (cc_Ru_join l G N _ _ _ _ _ qv23) km_Ru_30 ⟨Nat.le_of_ble_eq_true rfl, Nat.le_of_ble_eq_true rfl⟩ ⟨Nat.le_of_ble_eq_true rfl, Nat.le_of_ble_eq_true rfl, Nat.le_of_ble_eq_true rfl, Nat.le_of_ble_eq_true rfl⟩ rfl rfl (by simp [ss_v_cat, ss_cat_i, ss_cat_l, ss_cat_r]) dd_Ru_run_141 (fun H locs hR hS => ?_)
                obtain ⟨h24, qh24, hm⟩ := ss_bind hm
                refine ss_last hC hK hR hS qh24 dd_Ru_run_144 (fun H locs hR hS => ?_)
                exact J_145 v20 x6_6 h24 _ _ _ hm hR hS (lv_sub hl [2, 3, 4, 5, 0, 6] rfl)
            · have hm := ss_ift hm c18
              refine lv_iload hx hb dd_Ru_run_88 (lv_at hl 5 rfl) ?_
              refine lv_if_le (tgt := 145) hx hb dd_Ru_run_90 (by decide) (fun c25 => ?_) (fun c25 => ?_)
              · have hm := ss_ift hm c25
                exact J_145 x5_6 x6_6 h_6 _ _ _ hm hR hS (lv_sub hl [1, 2, 3, 4, 5, 6] rfl)
              · have hm := ss_iff hm c25
                refine ss_aload hx hb dd_Ru_run_93 (lv_at hl 4 rfl) ?_
                refine lv_iload hx hb dd_Ru_run_95 (lv_at hl 5 rfl) ?_
                refine lv_iconst (v := 1) hx hb dd_Ru_run_97 (by decide) ?_
                refine lv_isub hx hb dd_Ru_run_98 ?_
                refine lv_lconst (v := 1) hx hb dd_Ru_run_99 (by decide) ?_
                refine ss_aload hx hb dd_Ru_run_100 (lv_at hl 4 rfl) ?_
                refine lv_iload hx hb dd_Ru_run_102 (lv_at hl 5 rfl) ?_
                refine lv_iconst (v := 1) hx hb dd_Ru_run_104 (by decide) ?_
                refine lv_isub hx hb dd_Ru_run_105 ?_
                obtain ⟨v26, qv26, hm⟩ := ss_bind hm
                refine ss_lald hC hK hR qv26 dd_Ru_run_106 ?_
                refine lv_lsub hx hb dd_Ru_run_107 ?_
                obtain ⟨h27, qh27, hm⟩ := ss_bind hm
                refine ss_last hC hK hR hS qh27 dd_Ru_run_108 (fun H locs hR hS => ?_)
                refine lv_goto (tgt := 145) hx hb dd_Ru_run_109 (by decide) ?_
                exact J_145 x5_6 x6_6 h27 _ _ _ hm hR hS (lv_sub hl [1, 2, 3, 4, 5, 6] rfl)
          · have hm := ss_iff hm c17
            exact J_33 x5_6 x6_6 v15 h_6 _ _ _ hm hR hS (lv_sub hl [1, 2, 3, 4, 5, 6, 0] rfl)
  exact L_6 N (0 : Int32) a1 h _ _ _ he_6 hR hS (lv_sub hl [2, 4, 5, 6, 1, 0] rfl)
theorem dd_Ru_worth_0 : decode bb_Ru_worth 0 = .ok (.iconst 0, 1) := by decide +kernel
theorem dd_Ru_worth_1 : decode bb_Ru_worth 1 = .ok (.istore_n 3, 1) := by decide +kernel
theorem dd_Ru_worth_2 : decode bb_Ru_worth 2 = .ok (.iload_n 3, 1) := by decide +kernel
theorem dd_Ru_worth_3 : decode bb_Ru_worth 3 = .ok (.aload_n 0, 1) := by decide +kernel
theorem dd_Ru_worth_4 : decode bb_Ru_worth 4 = .ok (.getfield 16, 3) := by decide +kernel
theorem dd_Ru_worth_7 : decode bb_Ru_worth 7 = .ok (.if_icmp .ge 76, 3) := by decide +kernel
theorem dd_Ru_worth_10 : decode bb_Ru_worth 10 = .ok (.aload_n 0, 1) := by decide +kernel
theorem dd_Ru_worth_11 : decode bb_Ru_worth 11 = .ok (.getfield 13, 3) := by decide +kernel
theorem dd_Ru_worth_14 : decode bb_Ru_worth 14 = .ok (.iconst 2, 1) := by decide +kernel
theorem dd_Ru_worth_15 : decode bb_Ru_worth 15 = .ok (.iload_n 3, 1) := by decide +kernel
theorem dd_Ru_worth_16 : decode bb_Ru_worth 16 = .ok (.imul, 1) := by decide +kernel
theorem dd_Ru_worth_17 : decode bb_Ru_worth 17 = .ok (.iaload, 1) := by decide +kernel
theorem dd_Ru_worth_18 : decode bb_Ru_worth 18 = .ok (.istore 4, 2) := by decide +kernel
theorem dd_Ru_worth_20 : decode bb_Ru_worth 20 = .ok (.aload_n 0, 1) := by decide +kernel
theorem dd_Ru_worth_21 : decode bb_Ru_worth 21 = .ok (.getfield 13, 3) := by decide +kernel
theorem dd_Ru_worth_24 : decode bb_Ru_worth 24 = .ok (.iconst 2, 1) := by decide +kernel
theorem dd_Ru_worth_25 : decode bb_Ru_worth 25 = .ok (.iload_n 3, 1) := by decide +kernel
theorem dd_Ru_worth_26 : decode bb_Ru_worth 26 = .ok (.imul, 1) := by decide +kernel
theorem dd_Ru_worth_27 : decode bb_Ru_worth 27 = .ok (.iconst 1, 1) := by decide +kernel
theorem dd_Ru_worth_28 : decode bb_Ru_worth 28 = .ok (.iadd, 1) := by decide +kernel
theorem dd_Ru_worth_29 : decode bb_Ru_worth 29 = .ok (.iaload, 1) := by decide +kernel
theorem dd_Ru_worth_30 : decode bb_Ru_worth 30 = .ok (.istore 5, 2) := by decide +kernel
theorem dd_Ru_worth_32 : decode bb_Ru_worth 32 = .ok (.aload_n 0, 1) := by decide +kernel
theorem dd_Ru_worth_33 : decode bb_Ru_worth 33 = .ok (.getfield 13, 3) := by decide +kernel
theorem dd_Ru_worth_36 : decode bb_Ru_worth 36 = .ok (.iconst 2, 1) := by decide +kernel
theorem dd_Ru_worth_37 : decode bb_Ru_worth 37 = .ok (.iload_n 3, 1) := by decide +kernel
theorem dd_Ru_worth_38 : decode bb_Ru_worth 38 = .ok (.imul, 1) := by decide +kernel
theorem dd_Ru_worth_39 : decode bb_Ru_worth 39 = .ok (.iconst 2, 1) := by decide +kernel
theorem dd_Ru_worth_40 : decode bb_Ru_worth 40 = .ok (.iadd, 1) := by decide +kernel
theorem dd_Ru_worth_41 : decode bb_Ru_worth 41 = .ok (.iaload, 1) := by decide +kernel
theorem dd_Ru_worth_42 : decode bb_Ru_worth 42 = .ok (.istore 6, 2) := by decide +kernel
theorem dd_Ru_worth_44 : decode bb_Ru_worth 44 = .ok (.iload 5, 2) := by decide +kernel
theorem dd_Ru_worth_46 : decode bb_Ru_worth 46 = .ok (.iload 6, 2) := by decide +kernel
theorem dd_Ru_worth_48 : decode bb_Ru_worth 48 = .ok (.if_icmp .eq 18, 3) := by decide +kernel
theorem dd_Ru_worth_51 : decode bb_Ru_worth 51 = .ok (.aload_n 0, 1) := by decide +kernel
theorem dd_Ru_worth_52 : decode bb_Ru_worth 52 = .ok (.iload 5, 2) := by decide +kernel
theorem dd_Ru_worth_54 : decode bb_Ru_worth 54 = .ok (.iload 6, 2) := by decide +kernel
theorem dd_Ru_worth_56 : decode bb_Ru_worth 56 = .ok (.aload_n 1, 1) := by decide +kernel
theorem dd_Ru_worth_57 : decode bb_Ru_worth 57 = .ok (.aload_n 2, 1) := by decide +kernel
theorem dd_Ru_worth_58 : decode bb_Ru_worth 58 = .ok (.invokevirtual 26, 3) := by decide +kernel
theorem dd_Ru_worth_61 : decode bb_Ru_worth 61 = .ok (.lconst 0, 1) := by decide +kernel
theorem dd_Ru_worth_62 : decode bb_Ru_worth 62 = .ok (.lcmp, 1) := by decide +kernel
theorem dd_Ru_worth_63 : decode bb_Ru_worth 63 = .ok (.ifCond .eq 14, 3) := by decide +kernel
theorem dd_Ru_worth_66 : decode bb_Ru_worth 66 = .ok (.aload_n 0, 1) := by decide +kernel
theorem dd_Ru_worth_67 : decode bb_Ru_worth 67 = .ok (.iload 4, 2) := by decide +kernel
theorem dd_Ru_worth_69 : decode bb_Ru_worth 69 = .ok (.iload 5, 2) := by decide +kernel
theorem dd_Ru_worth_71 : decode bb_Ru_worth 71 = .ok (.aload_n 1, 1) := by decide +kernel
theorem dd_Ru_worth_72 : decode bb_Ru_worth 72 = .ok (.aload_n 2, 1) := by decide +kernel
theorem dd_Ru_worth_73 : decode bb_Ru_worth 73 = .ok (.invokevirtual 26, 3) := by decide +kernel
theorem dd_Ru_worth_76 : decode bb_Ru_worth 76 = .ok (.lreturn, 1) := by decide +kernel
theorem dd_Ru_worth_77 : decode bb_Ru_worth 77 = .ok (.iinc 3 1, 3) := by decide +kernel
theorem dd_Ru_worth_80 : decode bb_Ru_worth 80 = .ok (.goto (-78), 3) := by decide +kernel
theorem dd_Ru_worth_83 : decode bb_Ru_worth 83 = .ok (.lconst 0, 1) := by decide +kernel
theorem dd_Ru_worth_84 : decode bb_Ru_worth 84 = .ok (.lreturn, 1) := by decide +kernel
def mm_Ru_worth_b2 (N : Nat) (this : Option Nat) (a1 : Option Nat) (a2 : Option Nat) (st : Int32 × ss_Hp) : Option ((Int32 × ss_Hp) ⊕ (ss_Hp ⊕ (Int32 × Int32 × ss_Hp))) :=
  match st with
  | (x3_2, h_2) =>
    (ss_gi h_2 this 1 0).bind fun v3 =>
    if v3 ≤ x3_2 then
      some (.inr (.inl h_2))
    else
      (ss_gr h_2 this 1 1).bind fun r5 =>
      (ss_ai h_2 r5 20 ((2 : Int32) * x3_2)).bind fun v6 =>
      (ss_gr h_2 this 1 1).bind fun r7 =>
      (ss_ai h_2 r7 20 (((2 : Int32) * x3_2) + (1 : Int32))).bind fun v8 =>
      (ss_gr h_2 this 1 1).bind fun r9 =>
      (ss_ai h_2 r9 20 (((2 : Int32) * x3_2) + (2 : Int32))).bind fun v10 =>
      if v8 = v10 then
        some (.inr (.inr (v6, v8, h_2)))
      else
        ss_b2 (mm_Ru_run N this v8 v10 a1 a2 h_2) fun v12 h13 =>
        if (lg_cmp v12 (0 : Int64)) = 0 then
          (some (x3_2 + (1 : Int32))).bind fun v15 =>
          some (.inl (v15, h13))
        else
          some (.inr (.inr (v6, v8, h13)))
def mm_Ru_worth (N : Nat) (this : Option Nat) (a1 : Option Nat) (a2 : Option Nat) (h : ss_Hp) : Option (Int64 × ss_Hp) :=
  if ss_is h this 1 = true then
    (ss_lp (mm_Ru_worth_b2 N this a1 a2) N ((0 : Int32), h)).bind fun e_2 =>
    match e_2 with
    | (.inl h_2_83) =>
      some ((0 : Int64), h_2_83)
    | (.inr (y4_2_66, y5_2_66, h_2_66)) =>
      ss_b2 (mm_Ru_run N this y4_2_66 y5_2_66 a1 a2 h_2_66) fun v1 h2 =>
      some (v1, h2)
  else none
abbrev ww_Ru_worth (p : Program) (l : Launch) (e : Env) (s : State) (m : MethodId) (below : List Frame) (meth : Method) (c : Code) (G : ss_G) (this : Option Nat) (a1 : Option Nat) (a2 : Option Nat) (h : ss_Hp) (rr : Int64) (hh : ss_Hp) (H : Heap) (locs : List Loc) (k n : Nat) (g : JFrame) : Prop := W p l e (headSpec (ss_w yy_Ru_worth bb_Ru_worth 7 (some .long)) ({ frames := 2, cells := 0, slots := 0, locals := 52 })).room s m ([ss_v (ss_b G) this, ss_v (ss_b G) a1, ss_v (ss_b G) a2] : List Value).toArray below meth c H locs k n (MQ below (ss_Qc G (some (.long rr)) hh) ([ss_v (ss_b G) this, ss_v (ss_b G) a1, ss_v (ss_b G) a2] : List Value).toArray s 0 0 (ss_A G)) g
theorem ck_Ru_worth {N : Nat} {this : Option Nat} {a1 : Option Nat} {a2 : Option Nat} {h : ss_Hp} {res : Int64 × ss_Hp} (hm : mm_Ru_worth N this a1 a2 h = some res) : ss_is h this 1 = true := (ss_chk hm).1
set_option maxHeartbeats 4000000 in
set_option maxRecDepth 100000 in
theorem cc_Ru_worth (l : Launch) (G : ss_G) (N : Nat) (this : Option Nat) (a1 : Option Nat) (a2 : Option Nat) (h : ss_Hp) (rr : Int64) (hh : ss_Hp) (hm : mm_Ru_worth N this a1 a2 h = some (rr, hh)) : ss_Ct l G yy_Ru_worth bb_Ru_worth 7 (some .long) ({ frames := 2, cells := 0, slots := 0, locals := 52 }) [ss_v (ss_b G) this, ss_v (ss_b G) a1, ss_v (ss_b G) a2] h (some (.long rr)) hh := by
  obtain ⟨hck, hm⟩ := ss_chk hm
  refine Met.ofW (cc := bb_Ru_worth) (maxL := 7) (ret := (some .long)) (by decide) rfl ?_
  intro p e s m args below meth c s₁ B hml hv
  obtain ⟨rfl, hR, hK⟩ := hv
  have hC : CallFix p m c bb_Ru_worth 7 s _ lw_g sR_1 := ⟨B.exec, B.bytes, hml, findClass_of_methodNamed B.named, fun w hw => atoms_spec (ws := ss_w yy_Ru_worth bb_Ru_worth 7 (some .long)) B.pre w (List.mem_cons_of_mem _ hw)⟩
  have hx := hC.1
  have hb := hC.2.1
  have hr := B.returns
  have hlocks := B.notSynchronized
  have hS : va_S (ss_A G) s.heap s.heap [] := va_S.rf
  have hl := lv_entry ([ss_v (ss_b G) this, ss_v (ss_b G) a1, ss_v (ss_b G) a2]) (n := 7) (by simp [lg_sl, ss_v_cat, ss_cat_i, ss_cat_l, ss_cat_r])
  rw [lg_entry_eq]
  generalize (lg_sl ([ss_v (ss_b G) this, ss_v (ss_b G) a1, ss_v (ss_b G) a2]) ++ List.replicate (7 - (lg_sl ([ss_v (ss_b G) this, ss_v (ss_b G) a1, ss_v (ss_b G) a2])).length) Slot.unset).toArray = ls at hl ⊢
  have hl : lv_has ls 7 [(0, ss_v (ss_b G) this), (1, ss_v (ss_b G) a1), (2, ss_v (ss_b G) a2)] := by simpa [lv_args, ss_v_cat, ss_cat_i, ss_cat_l, ss_cat_r] using hl
  refine lv_iconst (v := 0) hx hb dd_Ru_worth_0 (by decide) ?_
  refine lv_istore_n (lv' := [(3, .int (0 : Int32)), (0, ss_v (ss_b G) this), (1, ss_v (ss_b G) a1), (2, ss_v (ss_b G) a2)]) hx hb dd_Ru_worth_1 rfl hl (by decide) (by simp only [List.filter_cons, ss_v_cat]; rfl) (fun ls hl => ?_)
  obtain ⟨e_2, he_2, hm⟩ := ss_bind hm
  have X_2_83 : ∀  (h_2_83 : ss_Hp) (H : Heap) (locs : List Loc) (ls : Array Slot), e_2 = (.inl h_2_83) → ss_R G h_2_83 H → va_S (ss_A G) s.heap H locs → lv_has ls 7 [] → ww_Ru_worth p l e s m below meth c G this a1 a2 h rr hh  H locs 0 0 (F0 m 83 ls []) := by
    intro h_2_83 H locs ls hq hR hS hl
    rw [hq] at hm
    refine lv_lconst (v := 0) hx hb dd_Ru_worth_83 (by decide) ?_
    exact ss_lret hC hr hlocks hR hS hm dd_Ru_worth_84
  have X_2_66 : ∀ (y4_2_66 : Int32) (y5_2_66 : Int32) (h_2_66 : ss_Hp) (H : Heap) (locs : List Loc) (ls : Array Slot), e_2 = (.inr (y4_2_66, y5_2_66, h_2_66)) → ss_R G h_2_66 H → va_S (ss_A G) s.heap H locs → lv_has ls 7 [(0, ss_v (ss_b G) this), (1, ss_v (ss_b G) a1), (2, ss_v (ss_b G) a2), (4, .int y4_2_66), (5, .int y5_2_66)] → ww_Ru_worth p l e s m below meth c G this a1 a2 h rr hh  H locs 0 0 (F0 m 66 ls []) := by
    intro y4_2_66 y5_2_66 h_2_66 H locs ls hq hR hS hl
    rw [hq] at hm
    refine ss_aload_n hx hb dd_Ru_worth_66 rfl (lv_at hl 0 rfl) ?_
    refine lv_iload hx hb dd_Ru_worth_67 (lv_at hl 3 rfl) ?_
    refine lv_iload hx hb dd_Ru_worth_69 (lv_at hl 4 rfl) ?_
    refine ss_aload_n hx hb dd_Ru_worth_71 rfl (lv_at hl 1 rfl) ?_
    refine ss_aload_n hx hb dd_Ru_worth_72 rfl (lv_at hl 2 rfl) ?_
    obtain ⟨v1, h2, qh2, hm⟩ := ss_bind2 hm
    refine ss_cV 0 0 (As := [.int y4_2_66, .int y5_2_66, ss_v (ss_b G) a1, ss_v (ss_b G) a2]) hC hK hR hS hl.1 (cc_Ru_run l G N _ _ _ _ _ _ _ _ qh2) km_Ru_26 (ck_Ru_run qh2) ⟨Nat.le_of_ble_eq_true rfl, Nat.le_of_ble_eq_true rfl⟩ ⟨Nat.le_of_ble_eq_true rfl, Nat.le_of_ble_eq_true rfl, Nat.le_of_ble_eq_true rfl, Nat.le_of_ble_eq_true rfl⟩ rfl rfl (Nat.le_of_ble_eq_true rfl) dd_Ru_worth_73 (fun H locs hR hS => ?_)
    exact ss_lret hC hr hlocks hR hS hm dd_Ru_worth_76
  have L_2 : ∀ (n : Nat) (x3_2 : Int32) (h_2 : ss_Hp) (H : Heap) (locs : List Loc) (ls : Array Slot), ss_lp (mm_Ru_worth_b2 N this a1 a2) n (x3_2, h_2) = some e_2 → ss_R G h_2 H → va_S (ss_A G) s.heap H locs → lv_has ls 7 [(0, ss_v (ss_b G) this), (1, ss_v (ss_b G) a1), (2, ss_v (ss_b G) a2), (3, .int x3_2)] → ww_Ru_worth p l e s m below meth c G this a1 a2 h rr hh  H locs 0 0 (F0 m 2 ls []) := by
    intro n
    induction n with
    | zero => intro x3_2 h_2 H locs ls hm; cases hm
    | succ n ih_2 =>
      intro x3_2 h_2 H locs ls hm hR hS hl
      obtain ⟨z_2, hm, hz1_2, hz2_2⟩ := ss_lps hm
      refine lv_iload_n hx hb dd_Ru_worth_2 rfl (lv_at hl 3 rfl) ?_
      refine ss_aload_n hx hb dd_Ru_worth_3 rfl (lv_at hl 0 rfl) ?_
      obtain ⟨v3, qv3, hm⟩ := ss_bind hm
      refine ss_geti hC hK hR kf_Ru_16 qv3 dd_Ru_worth_4 ?_
      refine lv_icmp_ge (tgt := 83) hx hb dd_Ru_worth_7 (by decide) (fun c4 => ?_) (fun c4 => ?_)
      · have hm := ss_ift hm c4
        exact X_2_83 h_2 _ _ _ (hz2_2 _ (ss_some hm)) hR hS (lv_sub hl [] rfl)
      · have hm := ss_iff hm c4
        refine ss_aload_n hx hb dd_Ru_worth_10 rfl (lv_at hl 0 rfl) ?_
        obtain ⟨r5, qr5, hm⟩ := ss_bind hm
        refine ss_getr hC hK hR kf_Ru_13 rfl qr5 dd_Ru_worth_11 ?_
        refine lv_iconst (v := 2) hx hb dd_Ru_worth_14 (by decide) ?_
        refine lv_iload_n hx hb dd_Ru_worth_15 rfl (lv_at hl 3 rfl) ?_
        refine lv_imul hx hb dd_Ru_worth_16 ?_
        obtain ⟨v6, qv6, hm⟩ := ss_bind hm
        refine ss_iald hC hK hR qv6 dd_Ru_worth_17 ?_
        refine lv_istore (lv' := [(4, .int v6), (0, ss_v (ss_b G) this), (1, ss_v (ss_b G) a1), (2, ss_v (ss_b G) a2), (3, .int x3_2)]) hx hb dd_Ru_worth_18 hl (by decide) rfl (fun ls hl => ?_)
        refine ss_aload_n hx hb dd_Ru_worth_20 rfl (lv_at hl 1 rfl) ?_
        obtain ⟨r7, qr7, hm⟩ := ss_bind hm
        refine ss_getr hC hK hR kf_Ru_13 rfl qr7 dd_Ru_worth_21 ?_
        refine lv_iconst (v := 2) hx hb dd_Ru_worth_24 (by decide) ?_
        refine lv_iload_n hx hb dd_Ru_worth_25 rfl (lv_at hl 4 rfl) ?_
        refine lv_imul hx hb dd_Ru_worth_26 ?_
        refine lv_iconst (v := 1) hx hb dd_Ru_worth_27 (by decide) ?_
        refine lv_iadd hx hb dd_Ru_worth_28 ?_
        obtain ⟨v8, qv8, hm⟩ := ss_bind hm
        refine ss_iald hC hK hR qv8 dd_Ru_worth_29 ?_
        refine lv_istore (lv' := [(5, .int v8), (4, .int v6), (0, ss_v (ss_b G) this), (1, ss_v (ss_b G) a1), (2, ss_v (ss_b G) a2), (3, .int x3_2)]) hx hb dd_Ru_worth_30 hl (by decide) rfl (fun ls hl => ?_)
        refine ss_aload_n hx hb dd_Ru_worth_32 rfl (lv_at hl 2 rfl) ?_
        obtain ⟨r9, qr9, hm⟩ := ss_bind hm
        refine ss_getr hC hK hR kf_Ru_13 rfl qr9 dd_Ru_worth_33 ?_
        refine lv_iconst (v := 2) hx hb dd_Ru_worth_36 (by decide) ?_
        refine lv_iload_n hx hb dd_Ru_worth_37 rfl (lv_at hl 5 rfl) ?_
        refine lv_imul hx hb dd_Ru_worth_38 ?_
        refine lv_iconst (v := 2) hx hb dd_Ru_worth_39 (by decide) ?_
        refine lv_iadd hx hb dd_Ru_worth_40 ?_
        obtain ⟨v10, qv10, hm⟩ := ss_bind hm
        refine ss_iald hC hK hR qv10 dd_Ru_worth_41 ?_
        refine lv_istore (lv' := [(6, .int v10), (5, .int v8), (4, .int v6), (0, ss_v (ss_b G) this), (1, ss_v (ss_b G) a1), (2, ss_v (ss_b G) a2), (3, .int x3_2)]) hx hb dd_Ru_worth_42 hl (by decide) rfl (fun ls hl => ?_)
        refine lv_iload hx hb dd_Ru_worth_44 (lv_at hl 1 rfl) ?_
        refine lv_iload hx hb dd_Ru_worth_46 (lv_at hl 0 rfl) ?_
        refine lv_icmp_eq (tgt := 66) hx hb dd_Ru_worth_48 (by decide) (fun c11 => ?_) (fun c11 => ?_)
        · have hm := ss_ift hm c11
          exact X_2_66 v6 v8 h_2 _ _ _ (hz2_2 _ (ss_some hm)) hR hS (lv_sub hl [3, 4, 5, 2, 1] rfl)
        · have hm := ss_iff hm c11
          refine ss_aload_n hx hb dd_Ru_worth_51 rfl (lv_at hl 3 rfl) ?_
          refine lv_iload hx hb dd_Ru_worth_52 (lv_at hl 1 rfl) ?_
          refine lv_iload hx hb dd_Ru_worth_54 (lv_at hl 0 rfl) ?_
          refine ss_aload_n hx hb dd_Ru_worth_56 rfl (lv_at hl 4 rfl) ?_
          refine ss_aload_n hx hb dd_Ru_worth_57 rfl (lv_at hl 5 rfl) ?_
          obtain ⟨v12, h13, qh13, hm⟩ := ss_bind2 hm
          refine ss_cV 0 0 (As := [.int v8, .int v10, ss_v (ss_b G) a1, ss_v (ss_b G) a2]) hC hK hR hS hl.1 (cc_Ru_run l G N _ _ _ _ _ _ _ _ qh13) km_Ru_26 (ck_Ru_run qh13) ⟨Nat.le_of_ble_eq_true rfl, Nat.le_of_ble_eq_true rfl⟩ ⟨Nat.le_of_ble_eq_true rfl, Nat.le_of_ble_eq_true rfl, Nat.le_of_ble_eq_true rfl, Nat.le_of_ble_eq_true rfl⟩ rfl rfl (Nat.le_of_ble_eq_true rfl) dd_Ru_worth_58 (fun H locs hR hS => ?_)
          refine lv_lconst (v := 0) hx hb dd_Ru_worth_61 (by decide) ?_
          refine W.lcmp hx hb dd_Ru_worth_62 ?_
          refine lv_if_eq (tgt := 77) hx hb dd_Ru_worth_63 (by decide) (fun c14 => ?_) (fun c14 => ?_)
          · have hm := ss_ift hm c14
            obtain ⟨v15, qv15, hm⟩ := ss_bind hm
            refine lv_iinc (v := v15) (lv' := [(3, .int v15), (6, .int v10), (5, .int v8), (4, .int v6), (0, ss_v (ss_b G) this), (1, ss_v (ss_b G) a1), (2, ss_v (ss_b G) a2)]) hx hb dd_Ru_worth_77 hl (k := 6) rfl (ss_inc (by decide) qv15) (by decide) (by simp only [List.filter_cons, ss_v_cat]; rfl) (fun ls hl => ?_)
            refine lv_goto (tgt := 2) hx hb dd_Ru_worth_80 (by decide) ?_
            exact ih_2 v15 h13 _ _ _ (hz1_2 _ (ss_some hm)) hR hS (lv_sub hl [4, 5, 6, 0] rfl)
          · have hm := ss_iff hm c14
            exact X_2_66 v6 v8 h13 _ _ _ (hz2_2 _ (ss_some hm)) hR hS (lv_sub hl [3, 4, 5, 2, 1] rfl)
  exact L_2 N (0 : Int32) h _ _ _ he_2 hR hS (lv_sub hl [1, 2, 3, 0] rfl)
theorem dd_Wi_choice_0 : decode bb_Wi_choice 0 = .ok (.aload_n 0, 1) := by decide +kernel
theorem dd_Wi_choice_1 : decode bb_Wi_choice 1 = .ok (.invokevirtual 111, 3) := by decide +kernel
theorem dd_Wi_choice_4 : decode bb_Wi_choice 4 = .ok (.istore_n 2, 1) := by decide +kernel
theorem dd_Wi_choice_5 : decode bb_Wi_choice 5 = .ok (.aload_n 0, 1) := by decide +kernel
theorem dd_Wi_choice_6 : decode bb_Wi_choice 6 = .ok (.getfield 41, 3) := by decide +kernel
theorem dd_Wi_choice_9 : decode bb_Wi_choice 9 = .ok (.ifnonnull 28, 3) := by decide +kernel
theorem dd_Wi_choice_12 : decode bb_Wi_choice 12 = .ok (.aload_n 0, 1) := by decide +kernel
theorem dd_Wi_choice_13 : decode bb_Wi_choice 13 = .ok (.getfield 37, 3) := by decide +kernel
theorem dd_Wi_choice_16 : decode bb_Wi_choice 16 = .ok (.getfield 113, 3) := by decide +kernel
theorem dd_Wi_choice_19 : decode bb_Wi_choice 19 = .ok (.iload_n 1, 1) := by decide +kernel
theorem dd_Wi_choice_20 : decode bb_Wi_choice 20 = .ok (.iaload, 1) := by decide +kernel
theorem dd_Wi_choice_21 : decode bb_Wi_choice 21 = .ok (.istore_n 3, 1) := by decide +kernel
theorem dd_Wi_choice_22 : decode bb_Wi_choice 22 = .ok (.iload_n 2, 1) := by decide +kernel
theorem dd_Wi_choice_23 : decode bb_Wi_choice 23 = .ok (.iload_n 3, 1) := by decide +kernel
theorem dd_Wi_choice_24 : decode bb_Wi_choice 24 = .ok (.ishr, 1) := by decide +kernel
theorem dd_Wi_choice_25 : decode bb_Wi_choice 25 = .ok (.iconst 1, 1) := by decide +kernel
theorem dd_Wi_choice_26 : decode bb_Wi_choice 26 = .ok (.iand, 1) := by decide +kernel
theorem dd_Wi_choice_27 : decode bb_Wi_choice 27 = .ok (.iconst 1, 1) := by decide +kernel
theorem dd_Wi_choice_28 : decode bb_Wi_choice 28 = .ok (.if_icmp .ne 7, 3) := by decide +kernel
theorem dd_Wi_choice_31 : decode bb_Wi_choice 31 = .ok (.iload_n 3, 1) := by decide +kernel
theorem dd_Wi_choice_32 : decode bb_Wi_choice 32 = .ok (.goto 4, 3) := by decide +kernel
theorem dd_Wi_choice_35 : decode bb_Wi_choice 35 = .ok (.iconst (-1), 1) := by decide +kernel
theorem dd_Wi_choice_36 : decode bb_Wi_choice 36 = .ok (.ireturn, 1) := by decide +kernel
theorem dd_Wi_choice_37 : decode bb_Wi_choice 37 = .ok (.iconst (-1), 1) := by decide +kernel
theorem dd_Wi_choice_38 : decode bb_Wi_choice 38 = .ok (.istore_n 3, 1) := by decide +kernel
theorem dd_Wi_choice_39 : decode bb_Wi_choice 39 = .ok (.lconst 0, 1) := by decide +kernel
theorem dd_Wi_choice_40 : decode bb_Wi_choice 40 = .ok (.lstore 4, 2) := by decide +kernel
theorem dd_Wi_choice_42 : decode bb_Wi_choice 42 = .ok (.iconst 0, 1) := by decide +kernel
theorem dd_Wi_choice_43 : decode bb_Wi_choice 43 = .ok (.istore 6, 2) := by decide +kernel
theorem dd_Wi_choice_45 : decode bb_Wi_choice 45 = .ok (.iload 6, 2) := by decide +kernel
theorem dd_Wi_choice_47 : decode bb_Wi_choice 47 = .ok (.aload_n 0, 1) := by decide +kernel
theorem dd_Wi_choice_48 : decode bb_Wi_choice 48 = .ok (.getfield 37, 3) := by decide +kernel
theorem dd_Wi_choice_51 : decode bb_Wi_choice 51 = .ok (.getfield 99, 3) := by decide +kernel
theorem dd_Wi_choice_54 : decode bb_Wi_choice 54 = .ok (.if_icmp .ge 62, 3) := by decide +kernel
theorem dd_Wi_choice_57 : decode bb_Wi_choice 57 = .ok (.aload_n 0, 1) := by decide +kernel
theorem dd_Wi_choice_58 : decode bb_Wi_choice 58 = .ok (.getfield 12, 3) := by decide +kernel
theorem dd_Wi_choice_61 : decode bb_Wi_choice 61 = .ok (.getfield 62, 3) := by decide +kernel
theorem dd_Wi_choice_64 : decode bb_Wi_choice 64 = .ok (.iload 6, 2) := by decide +kernel
theorem dd_Wi_choice_66 : decode bb_Wi_choice 66 = .ok (.iaload, 1) := by decide +kernel
theorem dd_Wi_choice_67 : decode bb_Wi_choice 67 = .ok (.ifCond .le 43, 3) := by decide +kernel
theorem dd_Wi_choice_70 : decode bb_Wi_choice 70 = .ok (.aload_n 0, 1) := by decide +kernel
theorem dd_Wi_choice_71 : decode bb_Wi_choice 71 = .ok (.iload_n 1, 1) := by decide +kernel
theorem dd_Wi_choice_72 : decode bb_Wi_choice 72 = .ok (.iload 6, 2) := by decide +kernel
theorem dd_Wi_choice_74 : decode bb_Wi_choice 74 = .ok (.iload_n 2, 1) := by decide +kernel
theorem dd_Wi_choice_75 : decode bb_Wi_choice 75 = .ok (.invokevirtual 116, 3) := by decide +kernel
theorem dd_Wi_choice_78 : decode bb_Wi_choice 78 = .ok (.aload_n 0, 1) := by decide +kernel
theorem dd_Wi_choice_79 : decode bb_Wi_choice 79 = .ok (.getfield 41, 3) := by decide +kernel
theorem dd_Wi_choice_82 : decode bb_Wi_choice 82 = .ok (.aload_n 0, 1) := by decide +kernel
theorem dd_Wi_choice_83 : decode bb_Wi_choice 83 = .ok (.getfield 30, 3) := by decide +kernel
theorem dd_Wi_choice_86 : decode bb_Wi_choice 86 = .ok (.aload_n 0, 1) := by decide +kernel
theorem dd_Wi_choice_87 : decode bb_Wi_choice 87 = .ok (.getfield 34, 3) := by decide +kernel
theorem dd_Wi_choice_90 : decode bb_Wi_choice 90 = .ok (.invokevirtual 120, 3) := by decide +kernel
theorem dd_Wi_choice_93 : decode bb_Wi_choice 93 = .ok (.lstore 7, 2) := by decide +kernel
theorem dd_Wi_choice_95 : decode bb_Wi_choice 95 = .ok (.lload 7, 2) := by decide +kernel
theorem dd_Wi_choice_97 : decode bb_Wi_choice 97 = .ok (.lload 4, 2) := by decide +kernel
theorem dd_Wi_choice_99 : decode bb_Wi_choice 99 = .ok (.lcmp, 1) := by decide +kernel
theorem dd_Wi_choice_100 : decode bb_Wi_choice 100 = .ok (.ifCond .le 10, 3) := by decide +kernel
theorem dd_Wi_choice_103 : decode bb_Wi_choice 103 = .ok (.lload 7, 2) := by decide +kernel
theorem dd_Wi_choice_105 : decode bb_Wi_choice 105 = .ok (.lstore 4, 2) := by decide +kernel
theorem dd_Wi_choice_107 : decode bb_Wi_choice 107 = .ok (.iload 6, 2) := by decide +kernel
theorem dd_Wi_choice_109 : decode bb_Wi_choice 109 = .ok (.istore_n 3, 1) := by decide +kernel
theorem dd_Wi_choice_110 : decode bb_Wi_choice 110 = .ok (.iinc 6 1, 3) := by decide +kernel
theorem dd_Wi_choice_113 : decode bb_Wi_choice 113 = .ok (.goto (-68), 3) := by decide +kernel
theorem dd_Wi_choice_116 : decode bb_Wi_choice 116 = .ok (.iload_n 3, 1) := by decide +kernel
theorem dd_Wi_choice_117 : decode bb_Wi_choice 117 = .ok (.ireturn, 1) := by decide +kernel
def mm_Wi_choice_j36 (N : Nat) (this : Option Nat) (a1 : Int32) (s0_36 : Int32) (h_36 : ss_Hp) : Option (Int32 × ss_Hp) :=
  some (s0_36, h_36)
def mm_Wi_choice_j110 (N : Nat) (this : Option Nat) (a1 : Int32) (v1 : Int32) (x3_110 : Int32) (x4_110 : Int64) (x6_110 : Int32) (h_110 : ss_Hp) : Option ((Int32 × Int64 × Int32 × ss_Hp) ⊕ (Int32 × ss_Hp)) :=
  (some (x6_110 + (1 : Int32))).bind fun v4 =>
  some (.inl (x3_110, x4_110, v4, h_110))
def mm_Wi_choice_b45 (N : Nat) (this : Option Nat) (a1 : Int32) (v1 : Int32) (st : Int32 × Int64 × Int32 × ss_Hp) : Option ((Int32 × Int64 × Int32 × ss_Hp) ⊕ (Int32 × ss_Hp)) :=
  match st with
  | (x3_45, x4_45, x6_45, h_45) =>
    (ss_gr h_45 this 7 6).bind fun r5 =>
    (ss_gi h_45 r5 5 3).bind fun v6 =>
    if v6 ≤ x6_45 then
      some (.inr (x3_45, h_45))
    else
      (ss_gr h_45 this 7 0).bind fun r8 =>
      (ss_gr h_45 r8 0 0).bind fun r9 =>
      (ss_ai h_45 r9 20 x6_45).bind fun v10 =>
      if v10 ≤ 0 then
        mm_Wi_choice_j110 N this a1 v1 x3_45 x4_45 x6_45 h_45
      else
        (mm_Wi_lookAt N this a1 x6_45 v1 h_45).bind fun h12 =>
        (ss_gr h12 this 7 7).bind fun r13 =>
        (ss_gr h12 this 7 4).bind fun r14 =>
        (ss_gr h12 this 7 5).bind fun r15 =>
        ss_b2 (mm_Ru_worth N r13 r14 r15 h12) fun v16 h17 =>
        if (lg_cmp v16 x4_45) ≤ 0 then
          mm_Wi_choice_j110 N this a1 v1 x3_45 x4_45 x6_45 h17
        else
          mm_Wi_choice_j110 N this a1 v1 x6_45 v16 x6_45 h17
def mm_Wi_choice (N : Nat) (this : Option Nat) (a1 : Int32) (h : ss_Hp) : Option (Int32 × ss_Hp) :=
  if ss_is h this 7 = true then
    (mm_Wi_closedBits N this h).bind fun v1 =>
    (ss_gr h this 7 7).bind fun r2 =>
    if r2.isSome = true then
      (ss_lp (mm_Wi_choice_b45 N this a1 v1) N ((-1 : Int32), (0 : Int64), (0 : Int32), h)).bind fun e_45 =>
      match e_45 with
      | (y3_45_116, h_45_116) =>
        some (y3_45_116, h_45_116)
    else
      (ss_gr h this 7 6).bind fun r19 =>
      (ss_gr h r19 5 0).bind fun r20 =>
      (ss_ai h r20 20 a1).bind fun v21 =>
      if ((v1 >>> (v21 &&& 31)) &&& (1 : Int32)) = (1 : Int32) then
        mm_Wi_choice_j36 N this a1 v21 h
      else
        mm_Wi_choice_j36 N this a1 (-1 : Int32) h
  else none
abbrev ww_Wi_choice (p : Program) (l : Launch) (e : Env) (s : State) (m : MethodId) (below : List Frame) (meth : Method) (c : Code) (G : ss_G) (this : Option Nat) (a1 : Int32) (h : ss_Hp) (rr : Int32) (hh : ss_Hp) (H : Heap) (locs : List Loc) (k n : Nat) (g : JFrame) : Prop := W p l e (headSpec (ss_w yy_Wi_choice bb_Wi_choice 9 (some (.int))) ({ frames := 3, cells := 0, slots := 0, locals := 78 })).room s m ([ss_v (ss_b G) this, .int a1] : List Value).toArray below meth c H locs k n (MQ below (ss_Qc G (some (.int rr)) hh) ([ss_v (ss_b G) this, .int a1] : List Value).toArray s 0 0 (ss_A G)) g
theorem ck_Wi_choice {N : Nat} {this : Option Nat} {a1 : Int32} {h : ss_Hp} {res : Int32 × ss_Hp} (hm : mm_Wi_choice N this a1 h = some res) : ss_is h this 7 = true := (ss_chk hm).1
set_option maxHeartbeats 4000000 in
set_option maxRecDepth 100000 in
theorem cc_Wi_choice (l : Launch) (G : ss_G) (N : Nat) (this : Option Nat) (a1 : Int32) (h : ss_Hp) (rr : Int32) (hh : ss_Hp) (hm : mm_Wi_choice N this a1 h = some (rr, hh)) : ss_Ct l G yy_Wi_choice bb_Wi_choice 9 (some (.int)) ({ frames := 3, cells := 0, slots := 0, locals := 78 }) [ss_v (ss_b G) this, .int a1] h (some (.int rr)) hh := by
  obtain ⟨hck, hm⟩ := ss_chk hm
  refine Met.ofW (cc := bb_Wi_choice) (maxL := 9) (ret := (some (.int))) (by decide) rfl ?_
  intro p e s m args below meth c s₁ B hml hv
  obtain ⟨rfl, hR, hK⟩ := hv
  have hC : CallFix p m c bb_Wi_choice 9 s _ lw_g sR_7 := ⟨B.exec, B.bytes, hml, findClass_of_methodNamed B.named, fun w hw => atoms_spec (ws := ss_w yy_Wi_choice bb_Wi_choice 9 (some (.int))) B.pre w (List.mem_cons_of_mem _ hw)⟩
  have hx := hC.1
  have hb := hC.2.1
  have hr := B.returns
  have hlocks := B.notSynchronized
  have hS : va_S (ss_A G) s.heap s.heap [] := va_S.rf
  have hl := lv_entry ([ss_v (ss_b G) this, .int a1]) (n := 9) (by simp [lg_sl, ss_v_cat, ss_cat_i, ss_cat_l, ss_cat_r])
  rw [lg_entry_eq]
  generalize (lg_sl ([ss_v (ss_b G) this, .int a1]) ++ List.replicate (9 - (lg_sl ([ss_v (ss_b G) this, .int a1])).length) Slot.unset).toArray = ls at hl ⊢
  have hl : lv_has ls 9 [(0, ss_v (ss_b G) this), (1, .int a1)] := by simpa [lv_args, ss_v_cat, ss_cat_i, ss_cat_l, ss_cat_r] using hl
  have J_36 : ∀ (s0_36 : Int32) (h_36 : ss_Hp) (H : Heap) (locs : List Loc) (ls : Array Slot), mm_Wi_choice_j36 N this a1 s0_36 h_36 = some (rr, hh) → ss_R G h_36 H → va_S (ss_A G) s.heap H locs → lv_has ls 9 [] → ww_Wi_choice p l e s m below meth c G this a1 h rr hh  H locs 0 0 (F0 m 36 ls [.int s0_36]) := by
    intro s0_36 h_36 H locs ls hm hR hS hl
    exact ss_iret hC hr hlocks hR hS hm dd_Wi_choice_36
  refine ss_aload_n hx hb dd_Wi_choice_0 rfl (lv_at hl 0 rfl) ?_
  obtain ⟨v1, qv1, hm⟩ := ss_bind hm
  refine ss_cV 0 0 (As := []) hC hK hR hS hl.1 (cc_Wi_closedBits l G N _ _ _ qv1) km_Wi_111 (ck_Wi_closedBits qv1) ⟨Nat.le_of_ble_eq_true rfl, Nat.le_of_ble_eq_true rfl⟩ ⟨Nat.le_of_ble_eq_true rfl, Nat.le_of_ble_eq_true rfl, Nat.le_of_ble_eq_true rfl, Nat.le_of_ble_eq_true rfl⟩ rfl rfl (Nat.le_of_ble_eq_true rfl) dd_Wi_choice_1 (fun H locs hR hS => ?_)
  refine lv_istore_n (lv' := [(2, .int v1), (0, ss_v (ss_b G) this), (1, .int a1)]) hx hb dd_Wi_choice_4 rfl hl (by decide) rfl (fun ls hl => ?_)
  refine ss_aload_n hx hb dd_Wi_choice_5 rfl (lv_at hl 1 rfl) ?_
  obtain ⟨r2, qr2, hm⟩ := ss_bind hm
  refine ss_getr hC hK hR kf_Wi_41 rfl qr2 dd_Wi_choice_6 ?_
  refine ss_ifnonnull (tgt := 37) hx hb dd_Wi_choice_9 (by decide) (fun c3 => ?_) (fun c3 => ?_)
  · have hm := ss_ift hm c3
    refine lv_iconst (v := -1) hx hb dd_Wi_choice_37 (by decide) ?_
    refine lv_istore_n (lv' := [(3, .int (-1 : Int32)), (2, .int v1), (0, ss_v (ss_b G) this), (1, .int a1)]) hx hb dd_Wi_choice_38 rfl hl (by decide) rfl (fun ls hl => ?_)
    refine lv_lconst (v := 0) hx hb dd_Wi_choice_39 (by decide) ?_
    refine lv_lstore (lv' := [(4, .long (0 : Int64)), (3, .int (-1 : Int32)), (2, .int v1), (0, ss_v (ss_b G) this), (1, .int a1)]) hx hb dd_Wi_choice_40 hl (by decide) rfl (fun ls hl => ?_)
    refine lv_iconst (v := 0) hx hb dd_Wi_choice_42 (by decide) ?_
    refine lv_istore (lv' := [(6, .int (0 : Int32)), (4, .long (0 : Int64)), (3, .int (-1 : Int32)), (2, .int v1), (0, ss_v (ss_b G) this), (1, .int a1)]) hx hb dd_Wi_choice_43 hl (by decide) rfl (fun ls hl => ?_)
    obtain ⟨e_45, he_45, hm⟩ := ss_bind hm
    have X_45_116 : ∀ (y3_45_116 : Int32) (h_45_116 : ss_Hp) (H : Heap) (locs : List Loc) (ls : Array Slot), e_45 = (y3_45_116, h_45_116) → ss_R G h_45_116 H → va_S (ss_A G) s.heap H locs → lv_has ls 9 [(3, .int y3_45_116)] → ww_Wi_choice p l e s m below meth c G this a1 h rr hh  H locs 0 0 (F0 m 116 ls []) := by
      intro y3_45_116 h_45_116 H locs ls hq hR hS hl
      rw [hq] at hm
      refine lv_iload_n hx hb dd_Wi_choice_116 rfl (lv_at hl 0 rfl) ?_
      exact ss_iret hC hr hlocks hR hS hm dd_Wi_choice_117
    have L_45 : ∀ (n : Nat) (x3_45 : Int32) (x4_45 : Int64) (x6_45 : Int32) (h_45 : ss_Hp) (H : Heap) (locs : List Loc) (ls : Array Slot), ss_lp (mm_Wi_choice_b45 N this a1 v1) n (x3_45, x4_45, x6_45, h_45) = some e_45 → ss_R G h_45 H → va_S (ss_A G) s.heap H locs → lv_has ls 9 [(0, ss_v (ss_b G) this), (1, .int a1), (2, .int v1), (3, .int x3_45), (4, .long x4_45), (6, .int x6_45)] → ww_Wi_choice p l e s m below meth c G this a1 h rr hh  H locs 0 0 (F0 m 45 ls []) := by
      intro n
      induction n with
      | zero => intro x3_45 x4_45 x6_45 h_45 H locs ls hm; cases hm
      | succ n ih_45 =>
        intro x3_45 x4_45 x6_45 h_45 H locs ls hm hR hS hl
        obtain ⟨z_45, hm, hz1_45, hz2_45⟩ := ss_lps hm
        have J_110 : ∀ (x3_110 : Int32) (x4_110 : Int64) (x6_110 : Int32) (h_110 : ss_Hp) (H : Heap) (locs : List Loc) (ls : Array Slot), mm_Wi_choice_j110 N this a1 v1 x3_110 x4_110 x6_110 h_110 = some z_45 → ss_R G h_110 H → va_S (ss_A G) s.heap H locs → lv_has ls 9 [(0, ss_v (ss_b G) this), (1, .int a1), (2, .int v1), (3, .int x3_110), (4, .long x4_110), (6, .int x6_110)] → ww_Wi_choice p l e s m below meth c G this a1 h rr hh  H locs 0 0 (F0 m 110 ls []) := by
          intro x3_110 x4_110 x6_110 h_110 H locs ls hm hR hS hl
          obtain ⟨v4, qv4, hm⟩ := ss_bind hm
          refine lv_iinc (v := v4) (lv' := [(6, .int v4), (0, ss_v (ss_b G) this), (1, .int a1), (2, .int v1), (3, .int x3_110), (4, .long x4_110)]) hx hb dd_Wi_choice_110 hl (k := 5) rfl (ss_inc (by decide) qv4) (by decide) rfl (fun ls hl => ?_)
          refine lv_goto (tgt := 45) hx hb dd_Wi_choice_113 (by decide) ?_
          exact ih_45 x3_110 x4_110 v4 h_110 _ _ _ (hz1_45 _ (ss_some hm)) hR hS (lv_sub hl [1, 2, 3, 4, 5, 0] rfl)
        refine lv_iload hx hb dd_Wi_choice_45 (lv_at hl 5 rfl) ?_
        refine ss_aload_n hx hb dd_Wi_choice_47 rfl (lv_at hl 0 rfl) ?_
        obtain ⟨r5, qr5, hm⟩ := ss_bind hm
        refine ss_getr hC hK hR kf_Wi_37 rfl qr5 dd_Wi_choice_48 ?_
        obtain ⟨v6, qv6, hm⟩ := ss_bind hm
        refine ss_geti hC hK hR kf_Wi_99 qv6 dd_Wi_choice_51 ?_
        refine lv_icmp_ge (tgt := 116) hx hb dd_Wi_choice_54 (by decide) (fun c7 => ?_) (fun c7 => ?_)
        · have hm := ss_ift hm c7
          exact X_45_116 x3_45 h_45 _ _ _ (hz2_45 _ (ss_some hm)) hR hS (lv_sub hl [3] rfl)
        · have hm := ss_iff hm c7
          refine ss_aload_n hx hb dd_Wi_choice_57 rfl (lv_at hl 0 rfl) ?_
          obtain ⟨r8, qr8, hm⟩ := ss_bind hm
          refine ss_getr hC hK hR kf_Wi_12 rfl qr8 dd_Wi_choice_58 ?_
          obtain ⟨r9, qr9, hm⟩ := ss_bind hm
          refine ss_getr hC hK hR kf_Wi_62 rfl qr9 dd_Wi_choice_61 ?_
          refine lv_iload hx hb dd_Wi_choice_64 (lv_at hl 5 rfl) ?_
          obtain ⟨v10, qv10, hm⟩ := ss_bind hm
          refine ss_iald hC hK hR qv10 dd_Wi_choice_66 ?_
          refine lv_if_le (tgt := 110) hx hb dd_Wi_choice_67 (by decide) (fun c11 => ?_) (fun c11 => ?_)
          · have hm := ss_ift hm c11
            exact J_110 x3_45 x4_45 x6_45 h_45 _ _ _ hm hR hS hl
          · have hm := ss_iff hm c11
            refine ss_aload_n hx hb dd_Wi_choice_70 rfl (lv_at hl 0 rfl) ?_
            refine lv_iload_n hx hb dd_Wi_choice_71 rfl (lv_at hl 1 rfl) ?_
            refine lv_iload hx hb dd_Wi_choice_72 (lv_at hl 5 rfl) ?_
            refine lv_iload_n hx hb dd_Wi_choice_74 rfl (lv_at hl 2 rfl) ?_
            obtain ⟨h12, qh12, hm⟩ := ss_bind hm
            refine ss_cVv 0 0 (As := [.int a1, .int x6_45, .int v1]) hC hK hR hS hl.1 (cc_Wi_lookAt l G N _ _ _ _ _ _ qh12) km_Wi_116 (ck_Wi_lookAt qh12) ⟨Nat.le_of_ble_eq_true rfl, Nat.le_of_ble_eq_true rfl⟩ ⟨Nat.le_of_ble_eq_true rfl, Nat.le_of_ble_eq_true rfl, Nat.le_of_ble_eq_true rfl, Nat.le_of_ble_eq_true rfl⟩ rfl rfl (Nat.le_of_ble_eq_true rfl) dd_Wi_choice_75 (fun H locs hR hS => ?_)
            refine ss_aload_n hx hb dd_Wi_choice_78 rfl (lv_at hl 0 rfl) ?_
            obtain ⟨r13, qr13, hm⟩ := ss_bind hm
            refine ss_getr hC hK hR kf_Wi_41 rfl qr13 dd_Wi_choice_79 ?_
            refine ss_aload_n hx hb dd_Wi_choice_82 rfl (lv_at hl 0 rfl) ?_
            obtain ⟨r14, qr14, hm⟩ := ss_bind hm
            refine ss_getr hC hK hR kf_Wi_30 rfl qr14 dd_Wi_choice_83 ?_
            refine ss_aload_n hx hb dd_Wi_choice_86 rfl (lv_at hl 0 rfl) ?_
            obtain ⟨r15, qr15, hm⟩ := ss_bind hm
            refine ss_getr hC hK hR kf_Wi_34 rfl qr15 dd_Wi_choice_87 ?_
            obtain ⟨v16, h17, qh17, hm⟩ := ss_bind2 hm
            refine ss_cV 0 0 (As := [ss_v (ss_b G) r14, ss_v (ss_b G) r15]) hC hK hR hS hl.1 (cc_Ru_worth l G N _ _ _ _ _ _ qh17) km_Wi_120 (ck_Ru_worth qh17) ⟨Nat.le_of_ble_eq_true rfl, Nat.le_of_ble_eq_true rfl⟩ ⟨Nat.le_of_ble_eq_true rfl, Nat.le_of_ble_eq_true rfl, Nat.le_of_ble_eq_true rfl, Nat.le_of_ble_eq_true rfl⟩ rfl rfl (Nat.le_of_ble_eq_true rfl) dd_Wi_choice_90 (fun H locs hR hS => ?_)
            refine lv_lstore (lv' := [(7, .long v16), (0, ss_v (ss_b G) this), (1, .int a1), (2, .int v1), (3, .int x3_45), (4, .long x4_45), (6, .int x6_45)]) hx hb dd_Wi_choice_93 hl (by decide) rfl (fun ls hl => ?_)
            refine lv_lload hx hb dd_Wi_choice_95 (lv_at hl 0 rfl) ?_
            refine lv_lload hx hb dd_Wi_choice_97 (lv_at hl 5 rfl) ?_
            refine W.lcmp hx hb dd_Wi_choice_99 ?_
            refine lv_if_le (tgt := 110) hx hb dd_Wi_choice_100 (by decide) (fun c18 => ?_) (fun c18 => ?_)
            · have hm := ss_ift hm c18
              exact J_110 x3_45 x4_45 x6_45 h17 _ _ _ hm hR hS (lv_sub hl [1, 2, 3, 4, 5, 6] rfl)
            · have hm := ss_iff hm c18
              refine lv_lload hx hb dd_Wi_choice_103 (lv_at hl 0 rfl) ?_
              refine lv_lstore (lv' := [(4, .long v16), (7, .long v16), (0, ss_v (ss_b G) this), (1, .int a1), (2, .int v1), (3, .int x3_45), (6, .int x6_45)]) hx hb dd_Wi_choice_105 hl (by decide) rfl (fun ls hl => ?_)
              refine lv_iload hx hb dd_Wi_choice_107 (lv_at hl 6 rfl) ?_
              refine lv_istore_n (lv' := [(3, .int x6_45), (4, .long v16), (7, .long v16), (0, ss_v (ss_b G) this), (1, .int a1), (2, .int v1), (6, .int x6_45)]) hx hb dd_Wi_choice_109 rfl hl (by decide) rfl (fun ls hl => ?_)
              exact J_110 x6_45 v16 x6_45 h17 _ _ _ hm hR hS (lv_sub hl [3, 4, 5, 0, 1, 6] rfl)
    exact L_45 N (-1 : Int32) (0 : Int64) (0 : Int32) h _ _ _ he_45 hR hS (lv_sub hl [4, 5, 3, 2, 1, 0] rfl)
  · have hm := ss_iff hm c3
    refine ss_aload_n hx hb dd_Wi_choice_12 rfl (lv_at hl 1 rfl) ?_
    obtain ⟨r19, qr19, hm⟩ := ss_bind hm
    refine ss_getr hC hK hR kf_Wi_37 rfl qr19 dd_Wi_choice_13 ?_
    obtain ⟨r20, qr20, hm⟩ := ss_bind hm
    refine ss_getr hC hK hR kf_Wi_113 rfl qr20 dd_Wi_choice_16 ?_
    refine lv_iload_n hx hb dd_Wi_choice_19 rfl (lv_at hl 2 rfl) ?_
    obtain ⟨v21, qv21, hm⟩ := ss_bind hm
    refine ss_iald hC hK hR qv21 dd_Wi_choice_20 ?_
    refine lv_istore_n (lv' := [(3, .int v21), (2, .int v1), (0, ss_v (ss_b G) this), (1, .int a1)]) hx hb dd_Wi_choice_21 rfl hl (by decide) rfl (fun ls hl => ?_)
    refine lv_iload_n hx hb dd_Wi_choice_22 rfl (lv_at hl 1 rfl) ?_
    refine lv_iload_n hx hb dd_Wi_choice_23 rfl (lv_at hl 0 rfl) ?_
    refine lv_ishr hx hb dd_Wi_choice_24 ?_
    refine lv_iconst (v := 1) hx hb dd_Wi_choice_25 (by decide) ?_
    refine lv_iand hx hb dd_Wi_choice_26 ?_
    refine lv_iconst (v := 1) hx hb dd_Wi_choice_27 (by decide) ?_
    refine lv_icmp_ne (tgt := 35) hx hb dd_Wi_choice_28 (by decide) (fun c22 => ?_) (fun c22 => ?_)
    · have hm := ss_iff hm c22
      refine lv_iconst (v := -1) hx hb dd_Wi_choice_35 (by decide) ?_
      exact J_36 (-1 : Int32) h _ _ _ hm hR hS (lv_sub hl [] rfl)
    · have hm := ss_ift hm c22
      refine lv_iload_n hx hb dd_Wi_choice_31 rfl (lv_at hl 0 rfl) ?_
      refine lv_goto (tgt := 36) hx hb dd_Wi_choice_32 (by decide) ?_
      exact J_36 v21 h _ _ _ hm hR hS (lv_sub hl [] rfl)
theorem dd_G_lay_0 : decode bb_G_lay 0 = .ok (.aload_n 0, 1) := by decide +kernel
theorem dd_G_lay_1 : decode bb_G_lay 1 = .ok (.getfield 9, 3) := by decide +kernel
theorem dd_G_lay_4 : decode bb_G_lay 4 = .ok (.iload_n 1, 1) := by decide +kernel
theorem dd_G_lay_5 : decode bb_G_lay 5 = .ok (.sipush 999, 3) := by decide +kernel
theorem dd_G_lay_8 : decode bb_G_lay 8 = .ok (.aload_n 0, 1) := by decide +kernel
theorem dd_G_lay_9 : decode bb_G_lay 9 = .ok (.getfield 9, 3) := by decide +kernel
theorem dd_G_lay_12 : decode bb_G_lay 12 = .ok (.iload_n 1, 1) := by decide +kernel
theorem dd_G_lay_13 : decode bb_G_lay 13 = .ok (.iaload, 1) := by decide +kernel
theorem dd_G_lay_14 : decode bb_G_lay 14 = .ok (.iload_n 2, 1) := by decide +kernel
theorem dd_G_lay_15 : decode bb_G_lay 15 = .ok (.iadd, 1) := by decide +kernel
theorem dd_G_lay_16 : decode bb_G_lay 16 = .ok (.invokestatic 37, 3) := by decide +kernel
theorem dd_G_lay_19 : decode bb_G_lay 19 = .ok (.iastore, 1) := by decide +kernel
theorem dd_G_lay_20 : decode bb_G_lay 20 = .ok (.return_, 1) := by decide +kernel
def mm_G_lay (N : Nat) (this : Option Nat) (a1 : Int32) (a2 : Int32) (h : ss_Hp) : Option ss_Hp :=
  if ss_is h this 0 = true then
    (ss_gr h this 0 0).bind fun r1 =>
    (ss_gr h this 0 0).bind fun r2 =>
    (ss_ai h r2 20 a1).bind fun v3 =>
    (ss_ui h r1 20 a1 (if (v3 + a2) < (999 : Int32) then (v3 + a2) else (999 : Int32))).bind fun h4 =>
    some h4
  else none
abbrev ww_G_lay (p : Program) (l : Launch) (e : Env) (s : State) (m : MethodId) (below : List Frame) (meth : Method) (c : Code) (G : ss_G) (this : Option Nat) (a1 : Int32) (a2 : Int32) (h : ss_Hp) (hh : ss_Hp) (H : Heap) (locs : List Loc) (k n : Nat) (g : JFrame) : Prop := W p l e (headSpec (ss_w yy_G_lay bb_G_lay 3 none) ({ frames := 1, cells := 0, slots := 0, locals := 80 })).room s m ([ss_v (ss_b G) this, .int a1, .int a2] : List Value).toArray below meth c H locs k n (MQ below (ss_Qc G none hh) ([ss_v (ss_b G) this, .int a1, .int a2] : List Value).toArray s 0 0 (ss_A G)) g
theorem ck_G_lay {N : Nat} {this : Option Nat} {a1 : Int32} {a2 : Int32} {h : ss_Hp} {res : ss_Hp} (hm : mm_G_lay N this a1 a2 h = some res) : ss_is h this 0 = true := (ss_chk hm).1
set_option maxHeartbeats 4000000 in
set_option maxRecDepth 100000 in
theorem cc_G_lay (l : Launch) (G : ss_G) (N : Nat) (this : Option Nat) (a1 : Int32) (a2 : Int32) (h : ss_Hp) (hh : ss_Hp) (hm : mm_G_lay N this a1 a2 h = some hh) : ss_Ct l G yy_G_lay bb_G_lay 3 none ({ frames := 1, cells := 0, slots := 0, locals := 80 }) [ss_v (ss_b G) this, .int a1, .int a2] h none hh := by
  obtain ⟨hck, hm⟩ := ss_chk hm
  refine Met.ofW (cc := bb_G_lay) (maxL := 3) (ret := none) (by decide) rfl ?_
  intro p e s m args below meth c s₁ B hml hv
  obtain ⟨rfl, hR, hK⟩ := hv
  have hC : CallFix p m c bb_G_lay 3 s _ lw_g sR_0 := ⟨B.exec, B.bytes, hml, findClass_of_methodNamed B.named, fun w hw => atoms_spec (ws := ss_w yy_G_lay bb_G_lay 3 none) B.pre w (List.mem_cons_of_mem _ hw)⟩
  have hx := hC.1
  have hb := hC.2.1
  have hr := B.returns
  have hlocks := B.notSynchronized
  have hS : va_S (ss_A G) s.heap s.heap [] := va_S.rf
  have hl := lv_entry ([ss_v (ss_b G) this, .int a1, .int a2]) (n := 3) (by simp [lg_sl, ss_v_cat, ss_cat_i, ss_cat_l, ss_cat_r])
  rw [lg_entry_eq]
  generalize (lg_sl ([ss_v (ss_b G) this, .int a1, .int a2]) ++ List.replicate (3 - (lg_sl ([ss_v (ss_b G) this, .int a1, .int a2])).length) Slot.unset).toArray = ls at hl ⊢
  have hl : lv_has ls 3 [(0, ss_v (ss_b G) this), (1, .int a1), (2, .int a2)] := by simpa [lv_args, ss_v_cat, ss_cat_i, ss_cat_l, ss_cat_r] using hl
  refine ss_aload_n hx hb dd_G_lay_0 rfl (lv_at hl 0 rfl) ?_
  obtain ⟨r1, qr1, hm⟩ := ss_bind hm
  refine ss_getr hC hK hR kf_G_9 rfl qr1 dd_G_lay_1 ?_
  refine lv_iload_n hx hb dd_G_lay_4 rfl (lv_at hl 1 rfl) ?_
  refine lv_sipush (v := 999) hx hb dd_G_lay_5 (by decide) ?_
  refine ss_aload_n hx hb dd_G_lay_8 rfl (lv_at hl 0 rfl) ?_
  obtain ⟨r2, qr2, hm⟩ := ss_bind hm
  refine ss_getr hC hK hR kf_G_9 rfl qr2 dd_G_lay_9 ?_
  refine lv_iload_n hx hb dd_G_lay_12 rfl (lv_at hl 1 rfl) ?_
  obtain ⟨v3, qv3, hm⟩ := ss_bind hm
  refine ss_iald hC hK hR qv3 dd_G_lay_13 ?_
  refine lv_iload_n hx hb dd_G_lay_14 rfl (lv_at hl 2 rfl) ?_
  refine lv_iadd hx hb dd_G_lay_15 ?_
  refine ss_min hC hl.1 kj_G_37 kj_min_s kj_math kj_min_c (Nat.le_of_ble_eq_true rfl) (by simp [ss_v_cat, ss_cat_i, ss_cat_l, ss_cat_r]) (Nat.le_of_ble_eq_true rfl) ⟨Nat.le_of_ble_eq_true rfl, Nat.le_of_ble_eq_true rfl⟩ dd_G_lay_16 ?_
  obtain ⟨h4, qh4, hm⟩ := ss_bind hm
  refine ss_iast hC hK hR hS qh4 dd_G_lay_19 (fun H locs hR hS => ?_)
  exact ss_vret hC hr hlocks hR hS hm dd_G_lay_20
theorem dd_Wi_sweepBy_0 : decode bb_Wi_sweepBy 0 = .ok (.aload_n 0, 1) := by decide +kernel
theorem dd_Wi_sweepBy_1 : decode bb_Wi_sweepBy 1 = .ok (.getfield 18, 3) := by decide +kernel
theorem dd_Wi_sweepBy_4 : decode bb_Wi_sweepBy 4 = .ok (.iload_n 1, 1) := by decide +kernel
theorem dd_Wi_sweepBy_5 : decode bb_Wi_sweepBy 5 = .ok (.iaload, 1) := by decide +kernel
theorem dd_Wi_sweepBy_6 : decode bb_Wi_sweepBy 6 = .ok (.aload_n 0, 1) := by decide +kernel
theorem dd_Wi_sweepBy_7 : decode bb_Wi_sweepBy 7 = .ok (.getfield 12, 3) := by decide +kernel
theorem dd_Wi_sweepBy_10 : decode bb_Wi_sweepBy 10 = .ok (.getfield 62, 3) := by decide +kernel
theorem dd_Wi_sweepBy_13 : decode bb_Wi_sweepBy 13 = .ok (.iload_n 2, 1) := by decide +kernel
theorem dd_Wi_sweepBy_14 : decode bb_Wi_sweepBy 14 = .ok (.iaload, 1) := by decide +kernel
theorem dd_Wi_sweepBy_15 : decode bb_Wi_sweepBy 15 = .ok (.invokestatic 65, 3) := by decide +kernel
theorem dd_Wi_sweepBy_18 : decode bb_Wi_sweepBy 18 = .ok (.istore_n 3, 1) := by decide +kernel
theorem dd_Wi_sweepBy_19 : decode bb_Wi_sweepBy 19 = .ok (.aload_n 0, 1) := by decide +kernel
theorem dd_Wi_sweepBy_20 : decode bb_Wi_sweepBy 20 = .ok (.getfield 12, 3) := by decide +kernel
theorem dd_Wi_sweepBy_23 : decode bb_Wi_sweepBy 23 = .ok (.getfield 62, 3) := by decide +kernel
theorem dd_Wi_sweepBy_26 : decode bb_Wi_sweepBy 26 = .ok (.iload_n 2, 1) := by decide +kernel
theorem dd_Wi_sweepBy_27 : decode bb_Wi_sweepBy 27 = .ok (.dup2, 1) := by decide +kernel
theorem dd_Wi_sweepBy_28 : decode bb_Wi_sweepBy 28 = .ok (.iaload, 1) := by decide +kernel
theorem dd_Wi_sweepBy_29 : decode bb_Wi_sweepBy 29 = .ok (.iload_n 3, 1) := by decide +kernel
theorem dd_Wi_sweepBy_30 : decode bb_Wi_sweepBy 30 = .ok (.isub, 1) := by decide +kernel
theorem dd_Wi_sweepBy_31 : decode bb_Wi_sweepBy 31 = .ok (.iastore, 1) := by decide +kernel
theorem dd_Wi_sweepBy_32 : decode bb_Wi_sweepBy 32 = .ok (.aload_n 0, 1) := by decide +kernel
theorem dd_Wi_sweepBy_33 : decode bb_Wi_sweepBy 33 = .ok (.getfield 12, 3) := by decide +kernel
theorem dd_Wi_sweepBy_36 : decode bb_Wi_sweepBy 36 = .ok (.dup, 1) := by decide +kernel
theorem dd_Wi_sweepBy_37 : decode bb_Wi_sweepBy 37 = .ok (.getfield 71, 3) := by decide +kernel
theorem dd_Wi_sweepBy_40 : decode bb_Wi_sweepBy 40 = .ok (.iconst 1, 1) := by decide +kernel
theorem dd_Wi_sweepBy_41 : decode bb_Wi_sweepBy 41 = .ok (.iload_n 2, 1) := by decide +kernel
theorem dd_Wi_sweepBy_42 : decode bb_Wi_sweepBy 42 = .ok (.ishl, 1) := by decide +kernel
theorem dd_Wi_sweepBy_43 : decode bb_Wi_sweepBy 43 = .ok (.ior, 1) := by decide +kernel
theorem dd_Wi_sweepBy_44 : decode bb_Wi_sweepBy 44 = .ok (.putfield 71, 3) := by decide +kernel
theorem dd_Wi_sweepBy_47 : decode bb_Wi_sweepBy 47 = .ok (.aload_n 0, 1) := by decide +kernel
theorem dd_Wi_sweepBy_48 : decode bb_Wi_sweepBy 48 = .ok (.getfield 12, 3) := by decide +kernel
theorem dd_Wi_sweepBy_51 : decode bb_Wi_sweepBy 51 = .ok (.dup, 1) := by decide +kernel
theorem dd_Wi_sweepBy_52 : decode bb_Wi_sweepBy 52 = .ok (.getfield 75, 3) := by decide +kernel
theorem dd_Wi_sweepBy_55 : decode bb_Wi_sweepBy 55 = .ok (.iconst 1, 1) := by decide +kernel
theorem dd_Wi_sweepBy_56 : decode bb_Wi_sweepBy 56 = .ok (.iload_n 1, 1) := by decide +kernel
theorem dd_Wi_sweepBy_57 : decode bb_Wi_sweepBy 57 = .ok (.ishl, 1) := by decide +kernel
theorem dd_Wi_sweepBy_58 : decode bb_Wi_sweepBy 58 = .ok (.ior, 1) := by decide +kernel
theorem dd_Wi_sweepBy_59 : decode bb_Wi_sweepBy 59 = .ok (.putfield 75, 3) := by decide +kernel
theorem dd_Wi_sweepBy_62 : decode bb_Wi_sweepBy 62 = .ok (.aload_n 0, 1) := by decide +kernel
theorem dd_Wi_sweepBy_63 : decode bb_Wi_sweepBy 63 = .ok (.getfield 12, 3) := by decide +kernel
theorem dd_Wi_sweepBy_66 : decode bb_Wi_sweepBy 66 = .ok (.getfield 78, 3) := by decide +kernel
theorem dd_Wi_sweepBy_69 : decode bb_Wi_sweepBy 69 = .ok (.iload_n 2, 1) := by decide +kernel
theorem dd_Wi_sweepBy_70 : decode bb_Wi_sweepBy 70 = .ok (.iaload, 1) := by decide +kernel
theorem dd_Wi_sweepBy_71 : decode bb_Wi_sweepBy 71 = .ok (.istore 4, 2) := by decide +kernel
theorem dd_Wi_sweepBy_73 : decode bb_Wi_sweepBy 73 = .ok (.iload 4, 2) := by decide +kernel
theorem dd_Wi_sweepBy_75 : decode bb_Wi_sweepBy 75 = .ok (.ifCond .lt 31, 3) := by decide +kernel
theorem dd_Wi_sweepBy_78 : decode bb_Wi_sweepBy 78 = .ok (.iload 4, 2) := by decide +kernel
theorem dd_Wi_sweepBy_80 : decode bb_Wi_sweepBy 80 = .ok (.bipush 8, 2) := by decide +kernel
theorem dd_Wi_sweepBy_82 : decode bb_Wi_sweepBy 82 = .ok (.if_icmp .ge 24, 3) := by decide +kernel
theorem dd_Wi_sweepBy_85 : decode bb_Wi_sweepBy 85 = .ok (.aload_n 0, 1) := by decide +kernel
theorem dd_Wi_sweepBy_86 : decode bb_Wi_sweepBy 86 = .ok (.getfield 22, 3) := by decide +kernel
theorem dd_Wi_sweepBy_89 : decode bb_Wi_sweepBy 89 = .ok (.iload 4, 2) := by decide +kernel
theorem dd_Wi_sweepBy_91 : decode bb_Wi_sweepBy 91 = .ok (.dup2, 1) := by decide +kernel
theorem dd_Wi_sweepBy_92 : decode bb_Wi_sweepBy 92 = .ok (.iaload, 1) := by decide +kernel
theorem dd_Wi_sweepBy_93 : decode bb_Wi_sweepBy 93 = .ok (.iload_n 3, 1) := by decide +kernel
theorem dd_Wi_sweepBy_94 : decode bb_Wi_sweepBy 94 = .ok (.iadd, 1) := by decide +kernel
theorem dd_Wi_sweepBy_95 : decode bb_Wi_sweepBy 95 = .ok (.iastore, 1) := by decide +kernel
theorem dd_Wi_sweepBy_96 : decode bb_Wi_sweepBy 96 = .ok (.aload_n 0, 1) := by decide +kernel
theorem dd_Wi_sweepBy_97 : decode bb_Wi_sweepBy 97 = .ok (.getfield 12, 3) := by decide +kernel
theorem dd_Wi_sweepBy_100 : decode bb_Wi_sweepBy 100 = .ok (.iload 4, 2) := by decide +kernel
theorem dd_Wi_sweepBy_102 : decode bb_Wi_sweepBy 102 = .ok (.iload_n 3, 1) := by decide +kernel
theorem dd_Wi_sweepBy_103 : decode bb_Wi_sweepBy 103 = .ok (.invokevirtual 81, 3) := by decide +kernel
theorem dd_Wi_sweepBy_106 : decode bb_Wi_sweepBy 106 = .ok (.iload_n 3, 1) := by decide +kernel
theorem dd_Wi_sweepBy_107 : decode bb_Wi_sweepBy 107 = .ok (.ireturn, 1) := by decide +kernel
def mm_Wi_sweepBy_j106 (N : Nat) (this : Option Nat) (a1 : Int32) (a2 : Int32) (x3_106 : Int32) (h_106 : ss_Hp) : Option (Int32 × ss_Hp) :=
  some (x3_106, h_106)
def mm_Wi_sweepBy (N : Nat) (this : Option Nat) (a1 : Int32) (a2 : Int32) (h : ss_Hp) : Option (Int32 × ss_Hp) :=
  if ss_is h this 7 = true then
    (ss_gr h this 7 1).bind fun r1 =>
    (ss_ai h r1 20 a1).bind fun v2 =>
    (ss_gr h this 7 0).bind fun r3 =>
    (ss_gr h r3 0 0).bind fun r4 =>
    (ss_ai h r4 20 a2).bind fun v5 =>
    (some (if v5 < v2 then v5 else v2)).bind fun v6 =>
    (ss_gr h this 7 0).bind fun r7 =>
    (ss_gr h r7 0 0).bind fun r8 =>
    (ss_ai h r8 20 a2).bind fun v9 =>
    (ss_ui h r8 20 a2 (v9 - v6)).bind fun h10 =>
    (ss_gr h10 this 7 0).bind fun r11 =>
    (ss_gi h10 r11 0 0).bind fun v12 =>
    (ss_pi h10 r11 0 0 (v12 ||| ((1 : Int32) <<< (a2 &&& 31)))).bind fun h13 =>
    (ss_gr h13 this 7 0).bind fun r14 =>
    (ss_gi h13 r14 0 2).bind fun v15 =>
    (ss_pi h13 r14 0 2 (v15 ||| ((1 : Int32) <<< (a1 &&& 31)))).bind fun h16 =>
    (ss_gr h16 this 7 0).bind fun r17 =>
    (ss_gr h16 r17 0 1).bind fun r18 =>
    (ss_ai h16 r18 20 a2).bind fun v19 =>
    if v19 < 0 then
      mm_Wi_sweepBy_j106 N this a1 a2 v6 h16
    else
      if (8 : Int32) ≤ v19 then
        mm_Wi_sweepBy_j106 N this a1 a2 v6 h16
      else
        (ss_gr h16 this 7 2).bind fun r22 =>
        (ss_ai h16 r22 20 v19).bind fun v23 =>
        (ss_ui h16 r22 20 v19 (v23 + v6)).bind fun h24 =>
        (ss_gr h24 this 7 0).bind fun r25 =>
        (mm_G_lay N r25 v19 v6 h24).bind fun h26 =>
        mm_Wi_sweepBy_j106 N this a1 a2 v6 h26
  else none
abbrev ww_Wi_sweepBy (p : Program) (l : Launch) (e : Env) (s : State) (m : MethodId) (below : List Frame) (meth : Method) (c : Code) (G : ss_G) (this : Option Nat) (a1 : Int32) (a2 : Int32) (h : ss_Hp) (rr : Int32) (hh : ss_Hp) (H : Heap) (locs : List Loc) (k n : Nat) (g : JFrame) : Prop := W p l e (headSpec (ss_w yy_Wi_sweepBy bb_Wi_sweepBy 5 (some (.int))) ({ frames := 2, cells := 0, slots := 0, locals := 102 })).room s m ([ss_v (ss_b G) this, .int a1, .int a2] : List Value).toArray below meth c H locs k n (MQ below (ss_Qc G (some (.int rr)) hh) ([ss_v (ss_b G) this, .int a1, .int a2] : List Value).toArray s 0 0 (ss_A G)) g
theorem ck_Wi_sweepBy {N : Nat} {this : Option Nat} {a1 : Int32} {a2 : Int32} {h : ss_Hp} {res : Int32 × ss_Hp} (hm : mm_Wi_sweepBy N this a1 a2 h = some res) : ss_is h this 7 = true := (ss_chk hm).1
set_option maxHeartbeats 4000000 in
set_option maxRecDepth 100000 in
theorem cc_Wi_sweepBy (l : Launch) (G : ss_G) (N : Nat) (this : Option Nat) (a1 : Int32) (a2 : Int32) (h : ss_Hp) (rr : Int32) (hh : ss_Hp) (hm : mm_Wi_sweepBy N this a1 a2 h = some (rr, hh)) : ss_Ct l G yy_Wi_sweepBy bb_Wi_sweepBy 5 (some (.int)) ({ frames := 2, cells := 0, slots := 0, locals := 102 }) [ss_v (ss_b G) this, .int a1, .int a2] h (some (.int rr)) hh := by
  obtain ⟨hck, hm⟩ := ss_chk hm
  refine Met.ofW (cc := bb_Wi_sweepBy) (maxL := 5) (ret := (some (.int))) (by decide) rfl ?_
  intro p e s m args below meth c s₁ B hml hv
  obtain ⟨rfl, hR, hK⟩ := hv
  have hC : CallFix p m c bb_Wi_sweepBy 5 s _ lw_g sR_7 := ⟨B.exec, B.bytes, hml, findClass_of_methodNamed B.named, fun w hw => atoms_spec (ws := ss_w yy_Wi_sweepBy bb_Wi_sweepBy 5 (some (.int))) B.pre w (List.mem_cons_of_mem _ hw)⟩
  have hx := hC.1
  have hb := hC.2.1
  have hr := B.returns
  have hlocks := B.notSynchronized
  have hS : va_S (ss_A G) s.heap s.heap [] := va_S.rf
  have hl := lv_entry ([ss_v (ss_b G) this, .int a1, .int a2]) (n := 5) (by simp [lg_sl, ss_v_cat, ss_cat_i, ss_cat_l, ss_cat_r])
  rw [lg_entry_eq]
  generalize (lg_sl ([ss_v (ss_b G) this, .int a1, .int a2]) ++ List.replicate (5 - (lg_sl ([ss_v (ss_b G) this, .int a1, .int a2])).length) Slot.unset).toArray = ls at hl ⊢
  have hl : lv_has ls 5 [(0, ss_v (ss_b G) this), (1, .int a1), (2, .int a2)] := by simpa [lv_args, ss_v_cat, ss_cat_i, ss_cat_l, ss_cat_r] using hl
  have J_106 : ∀ (x3_106 : Int32) (h_106 : ss_Hp) (H : Heap) (locs : List Loc) (ls : Array Slot), mm_Wi_sweepBy_j106 N this a1 a2 x3_106 h_106 = some (rr, hh) → ss_R G h_106 H → va_S (ss_A G) s.heap H locs → lv_has ls 5 [(3, .int x3_106)] → ww_Wi_sweepBy p l e s m below meth c G this a1 a2 h rr hh  H locs 0 0 (F0 m 106 ls []) := by
    intro x3_106 h_106 H locs ls hm hR hS hl
    refine lv_iload_n hx hb dd_Wi_sweepBy_106 rfl (lv_at hl 0 rfl) ?_
    exact ss_iret hC hr hlocks hR hS hm dd_Wi_sweepBy_107
  refine ss_aload_n hx hb dd_Wi_sweepBy_0 rfl (lv_at hl 0 rfl) ?_
  obtain ⟨r1, qr1, hm⟩ := ss_bind hm
  refine ss_getr hC hK hR kf_Wi_18 rfl qr1 dd_Wi_sweepBy_1 ?_
  refine lv_iload_n hx hb dd_Wi_sweepBy_4 rfl (lv_at hl 1 rfl) ?_
  obtain ⟨v2, qv2, hm⟩ := ss_bind hm
  refine ss_iald hC hK hR qv2 dd_Wi_sweepBy_5 ?_
  refine ss_aload_n hx hb dd_Wi_sweepBy_6 rfl (lv_at hl 0 rfl) ?_
  obtain ⟨r3, qr3, hm⟩ := ss_bind hm
  refine ss_getr hC hK hR kf_Wi_12 rfl qr3 dd_Wi_sweepBy_7 ?_
  obtain ⟨r4, qr4, hm⟩ := ss_bind hm
  refine ss_getr hC hK hR kf_Wi_62 rfl qr4 dd_Wi_sweepBy_10 ?_
  refine lv_iload_n hx hb dd_Wi_sweepBy_13 rfl (lv_at hl 2 rfl) ?_
  obtain ⟨v5, qv5, hm⟩ := ss_bind hm
  refine ss_iald hC hK hR qv5 dd_Wi_sweepBy_14 ?_
  refine ss_min hC hl.1 kj_Wi_65 kj_min_s kj_math kj_min_c (Nat.le_of_ble_eq_true rfl) (Nat.le_of_ble_eq_true rfl) (Nat.le_of_ble_eq_true rfl) ⟨Nat.le_of_ble_eq_true rfl, Nat.le_of_ble_eq_true rfl⟩ dd_Wi_sweepBy_15 ?_
  obtain ⟨v6, qv6, hm⟩ := ss_bind hm
  refine ss_topi qv6 ?_
  refine lv_istore_n (lv' := [(3, .int v6), (0, ss_v (ss_b G) this), (1, .int a1), (2, .int a2)]) hx hb dd_Wi_sweepBy_18 rfl hl (by decide) rfl (fun ls hl => ?_)
  refine ss_aload_n hx hb dd_Wi_sweepBy_19 rfl (lv_at hl 1 rfl) ?_
  obtain ⟨r7, qr7, hm⟩ := ss_bind hm
  refine ss_getr hC hK hR kf_Wi_12 rfl qr7 dd_Wi_sweepBy_20 ?_
  obtain ⟨r8, qr8, hm⟩ := ss_bind hm
  refine ss_getr hC hK hR kf_Wi_62 rfl qr8 dd_Wi_sweepBy_23 ?_
  refine lv_iload_n hx hb dd_Wi_sweepBy_26 rfl (lv_at hl 3 rfl) ?_
  refine ss_dup2ir hx hb dd_Wi_sweepBy_27 ?_
  obtain ⟨v9, qv9, hm⟩ := ss_bind hm
  refine ss_iald hC hK hR qv9 dd_Wi_sweepBy_28 ?_
  refine lv_iload_n hx hb dd_Wi_sweepBy_29 rfl (lv_at hl 0 rfl) ?_
  refine lv_isub hx hb dd_Wi_sweepBy_30 ?_
  obtain ⟨h10, qh10, hm⟩ := ss_bind hm
  refine ss_iast hC hK hR hS qh10 dd_Wi_sweepBy_31 (fun H locs hR hS => ?_)
  refine ss_aload_n hx hb dd_Wi_sweepBy_32 rfl (lv_at hl 1 rfl) ?_
  obtain ⟨r11, qr11, hm⟩ := ss_bind hm
  refine ss_getr hC hK hR kf_Wi_12 rfl qr11 dd_Wi_sweepBy_33 ?_
  refine ss_dupr hx hb dd_Wi_sweepBy_36 ?_
  obtain ⟨v12, qv12, hm⟩ := ss_bind hm
  refine ss_geti hC hK hR kf_Wi_71 qv12 dd_Wi_sweepBy_37 ?_
  refine lv_iconst (v := 1) hx hb dd_Wi_sweepBy_40 (by decide) ?_
  refine lv_iload_n hx hb dd_Wi_sweepBy_41 rfl (lv_at hl 3 rfl) ?_
  refine lv_ishl hx hb dd_Wi_sweepBy_42 ?_
  refine lv_ior hx hb dd_Wi_sweepBy_43 ?_
  obtain ⟨h13, qh13, hm⟩ := ss_bind hm
  refine ss_puti hC hK hR hS kp_Wi_71 qh13 dd_Wi_sweepBy_44 (fun H locs hR hS => ?_)
  refine ss_aload_n hx hb dd_Wi_sweepBy_47 rfl (lv_at hl 1 rfl) ?_
  obtain ⟨r14, qr14, hm⟩ := ss_bind hm
  refine ss_getr hC hK hR kf_Wi_12 rfl qr14 dd_Wi_sweepBy_48 ?_
  refine ss_dupr hx hb dd_Wi_sweepBy_51 ?_
  obtain ⟨v15, qv15, hm⟩ := ss_bind hm
  refine ss_geti hC hK hR kf_Wi_75 qv15 dd_Wi_sweepBy_52 ?_
  refine lv_iconst (v := 1) hx hb dd_Wi_sweepBy_55 (by decide) ?_
  refine lv_iload_n hx hb dd_Wi_sweepBy_56 rfl (lv_at hl 2 rfl) ?_
  refine lv_ishl hx hb dd_Wi_sweepBy_57 ?_
  refine lv_ior hx hb dd_Wi_sweepBy_58 ?_
  obtain ⟨h16, qh16, hm⟩ := ss_bind hm
  refine ss_puti hC hK hR hS kp_Wi_75 qh16 dd_Wi_sweepBy_59 (fun H locs hR hS => ?_)
  refine ss_aload_n hx hb dd_Wi_sweepBy_62 rfl (lv_at hl 1 rfl) ?_
  obtain ⟨r17, qr17, hm⟩ := ss_bind hm
  refine ss_getr hC hK hR kf_Wi_12 rfl qr17 dd_Wi_sweepBy_63 ?_
  obtain ⟨r18, qr18, hm⟩ := ss_bind hm
  refine ss_getr hC hK hR kf_Wi_78 rfl qr18 dd_Wi_sweepBy_66 ?_
  refine lv_iload_n hx hb dd_Wi_sweepBy_69 rfl (lv_at hl 3 rfl) ?_
  obtain ⟨v19, qv19, hm⟩ := ss_bind hm
  refine ss_iald hC hK hR qv19 dd_Wi_sweepBy_70 ?_
  refine lv_istore (lv' := [(4, .int v19), (3, .int v6), (0, ss_v (ss_b G) this), (1, .int a1), (2, .int a2)]) hx hb dd_Wi_sweepBy_71 hl (by decide) rfl (fun ls hl => ?_)
  refine lv_iload hx hb dd_Wi_sweepBy_73 (lv_at hl 0 rfl) ?_
  refine lv_if_lt (tgt := 106) hx hb dd_Wi_sweepBy_75 (by decide) (fun c20 => ?_) (fun c20 => ?_)
  · have hm := ss_ift hm c20
    exact J_106 v6 h16 _ _ _ hm hR hS (lv_sub hl [1] rfl)
  · have hm := ss_iff hm c20
    refine lv_iload hx hb dd_Wi_sweepBy_78 (lv_at hl 0 rfl) ?_
    refine lv_bipush (v := 8) hx hb dd_Wi_sweepBy_80 (by decide) ?_
    refine lv_icmp_ge (tgt := 106) hx hb dd_Wi_sweepBy_82 (by decide) (fun c21 => ?_) (fun c21 => ?_)
    · have hm := ss_ift hm c21
      exact J_106 v6 h16 _ _ _ hm hR hS (lv_sub hl [1] rfl)
    · have hm := ss_iff hm c21
      refine ss_aload_n hx hb dd_Wi_sweepBy_85 rfl (lv_at hl 2 rfl) ?_
      obtain ⟨r22, qr22, hm⟩ := ss_bind hm
      refine ss_getr hC hK hR kf_Wi_22 rfl qr22 dd_Wi_sweepBy_86 ?_
      refine lv_iload hx hb dd_Wi_sweepBy_89 (lv_at hl 0 rfl) ?_
      refine ss_dup2ir hx hb dd_Wi_sweepBy_91 ?_
      obtain ⟨v23, qv23, hm⟩ := ss_bind hm
      refine ss_iald hC hK hR qv23 dd_Wi_sweepBy_92 ?_
      refine lv_iload_n hx hb dd_Wi_sweepBy_93 rfl (lv_at hl 1 rfl) ?_
      refine lv_iadd hx hb dd_Wi_sweepBy_94 ?_
      obtain ⟨h24, qh24, hm⟩ := ss_bind hm
      refine ss_iast hC hK hR hS qh24 dd_Wi_sweepBy_95 (fun H locs hR hS => ?_)
      refine ss_aload_n hx hb dd_Wi_sweepBy_96 rfl (lv_at hl 2 rfl) ?_
      obtain ⟨r25, qr25, hm⟩ := ss_bind hm
      refine ss_getr hC hK hR kf_Wi_12 rfl qr25 dd_Wi_sweepBy_97 ?_
      refine lv_iload hx hb dd_Wi_sweepBy_100 (lv_at hl 0 rfl) ?_
      refine lv_iload_n hx hb dd_Wi_sweepBy_102 rfl (lv_at hl 1 rfl) ?_
      obtain ⟨h26, qh26, hm⟩ := ss_bind hm
      refine ss_cVv 0 0 (As := [.int v19, .int v6]) hC hK hR hS hl.1 (cc_G_lay l G N _ _ _ _ _ qh26) km_Wi_81 (ck_G_lay qh26) ⟨Nat.le_of_ble_eq_true rfl, Nat.le_of_ble_eq_true rfl⟩ ⟨Nat.le_of_ble_eq_true rfl, Nat.le_of_ble_eq_true rfl, Nat.le_of_ble_eq_true rfl, Nat.le_of_ble_eq_true rfl⟩ rfl rfl (Nat.le_of_ble_eq_true rfl) dd_Wi_sweepBy_103 (fun H locs hR hS => ?_)
      exact J_106 v6 h26 _ _ _ hm hR hS (lv_sub hl [1] rfl)
theorem dd_Wi_passNight_0 : decode bb_Wi_passNight 0 = .ok (.aload_n 0, 1) := by decide +kernel
theorem dd_Wi_passNight_1 : decode bb_Wi_passNight 1 = .ok (.getfield 12, 3) := by decide +kernel
theorem dd_Wi_passNight_4 : decode bb_Wi_passNight 4 = .ok (.getfield 71, 3) := by decide +kernel
theorem dd_Wi_passNight_7 : decode bb_Wi_passNight 7 = .ok (.istore_n 1, 1) := by decide +kernel
theorem dd_Wi_passNight_8 : decode bb_Wi_passNight 8 = .ok (.iconst 0, 1) := by decide +kernel
theorem dd_Wi_passNight_9 : decode bb_Wi_passNight 9 = .ok (.istore_n 2, 1) := by decide +kernel
theorem dd_Wi_passNight_10 : decode bb_Wi_passNight 10 = .ok (.iload_n 2, 1) := by decide +kernel
theorem dd_Wi_passNight_11 : decode bb_Wi_passNight 11 = .ok (.aload_n 0, 1) := by decide +kernel
theorem dd_Wi_passNight_12 : decode bb_Wi_passNight 12 = .ok (.getfield 37, 3) := by decide +kernel
theorem dd_Wi_passNight_15 : decode bb_Wi_passNight 15 = .ok (.getfield 99, 3) := by decide +kernel
theorem dd_Wi_passNight_18 : decode bb_Wi_passNight 18 = .ok (.if_icmp .ge 49, 3) := by decide +kernel
theorem dd_Wi_passNight_21 : decode bb_Wi_passNight 21 = .ok (.iload_n 1, 1) := by decide +kernel
theorem dd_Wi_passNight_22 : decode bb_Wi_passNight 22 = .ok (.iload_n 2, 1) := by decide +kernel
theorem dd_Wi_passNight_23 : decode bb_Wi_passNight 23 = .ok (.ishr, 1) := by decide +kernel
theorem dd_Wi_passNight_24 : decode bb_Wi_passNight 24 = .ok (.iconst 1, 1) := by decide +kernel
theorem dd_Wi_passNight_25 : decode bb_Wi_passNight 25 = .ok (.iand, 1) := by decide +kernel
theorem dd_Wi_passNight_26 : decode bb_Wi_passNight 26 = .ok (.iconst 1, 1) := by decide +kernel
theorem dd_Wi_passNight_27 : decode bb_Wi_passNight 27 = .ok (.if_icmp .ne 34, 3) := by decide +kernel
theorem dd_Wi_passNight_30 : decode bb_Wi_passNight 30 = .ok (.aload_n 0, 1) := by decide +kernel
theorem dd_Wi_passNight_31 : decode bb_Wi_passNight 31 = .ok (.getfield 25, 3) := by decide +kernel
theorem dd_Wi_passNight_34 : decode bb_Wi_passNight 34 = .ok (.iload_n 2, 1) := by decide +kernel
theorem dd_Wi_passNight_35 : decode bb_Wi_passNight 35 = .ok (.dup2, 1) := by decide +kernel
theorem dd_Wi_passNight_36 : decode bb_Wi_passNight 36 = .ok (.iaload, 1) := by decide +kernel
theorem dd_Wi_passNight_37 : decode bb_Wi_passNight 37 = .ok (.aload_n 0, 1) := by decide +kernel
theorem dd_Wi_passNight_38 : decode bb_Wi_passNight 38 = .ok (.getfield 37, 3) := by decide +kernel
theorem dd_Wi_passNight_41 : decode bb_Wi_passNight 41 = .ok (.getfield 102, 3) := by decide +kernel
theorem dd_Wi_passNight_44 : decode bb_Wi_passNight 44 = .ok (.iadd, 1) := by decide +kernel
theorem dd_Wi_passNight_45 : decode bb_Wi_passNight 45 = .ok (.iastore, 1) := by decide +kernel
theorem dd_Wi_passNight_46 : decode bb_Wi_passNight 46 = .ok (.aload_n 0, 1) := by decide +kernel
theorem dd_Wi_passNight_47 : decode bb_Wi_passNight 47 = .ok (.getfield 12, 3) := by decide +kernel
theorem dd_Wi_passNight_50 : decode bb_Wi_passNight 50 = .ok (.iload_n 2, 1) := by decide +kernel
theorem dd_Wi_passNight_51 : decode bb_Wi_passNight 51 = .ok (.aload_n 0, 1) := by decide +kernel
theorem dd_Wi_passNight_52 : decode bb_Wi_passNight 52 = .ok (.getfield 37, 3) := by decide +kernel
theorem dd_Wi_passNight_55 : decode bb_Wi_passNight 55 = .ok (.getfield 102, 3) := by decide +kernel
theorem dd_Wi_passNight_58 : decode bb_Wi_passNight 58 = .ok (.invokevirtual 81, 3) := by decide +kernel
theorem dd_Wi_passNight_61 : decode bb_Wi_passNight 61 = .ok (.iinc 2 1, 3) := by decide +kernel
theorem dd_Wi_passNight_64 : decode bb_Wi_passNight 64 = .ok (.goto (-54), 3) := by decide +kernel
theorem dd_Wi_passNight_67 : decode bb_Wi_passNight 67 = .ok (.aload_n 0, 1) := by decide +kernel
theorem dd_Wi_passNight_68 : decode bb_Wi_passNight 68 = .ok (.getfield 12, 3) := by decide +kernel
theorem dd_Wi_passNight_71 : decode bb_Wi_passNight 71 = .ok (.iload_n 1, 1) := by decide +kernel
theorem dd_Wi_passNight_72 : decode bb_Wi_passNight 72 = .ok (.putfield 105, 3) := by decide +kernel
theorem dd_Wi_passNight_75 : decode bb_Wi_passNight 75 = .ok (.aload_n 0, 1) := by decide +kernel
theorem dd_Wi_passNight_76 : decode bb_Wi_passNight 76 = .ok (.getfield 12, 3) := by decide +kernel
theorem dd_Wi_passNight_79 : decode bb_Wi_passNight 79 = .ok (.iconst 0, 1) := by decide +kernel
theorem dd_Wi_passNight_80 : decode bb_Wi_passNight 80 = .ok (.putfield 71, 3) := by decide +kernel
theorem dd_Wi_passNight_83 : decode bb_Wi_passNight 83 = .ok (.aload_n 0, 1) := by decide +kernel
theorem dd_Wi_passNight_84 : decode bb_Wi_passNight 84 = .ok (.getfield 12, 3) := by decide +kernel
theorem dd_Wi_passNight_87 : decode bb_Wi_passNight 87 = .ok (.iconst 0, 1) := by decide +kernel
theorem dd_Wi_passNight_88 : decode bb_Wi_passNight 88 = .ok (.putfield 75, 3) := by decide +kernel
theorem dd_Wi_passNight_91 : decode bb_Wi_passNight 91 = .ok (.aload_n 0, 1) := by decide +kernel
theorem dd_Wi_passNight_92 : decode bb_Wi_passNight 92 = .ok (.getfield 12, 3) := by decide +kernel
theorem dd_Wi_passNight_95 : decode bb_Wi_passNight 95 = .ok (.dup, 1) := by decide +kernel
theorem dd_Wi_passNight_96 : decode bb_Wi_passNight 96 = .ok (.getfield 108, 3) := by decide +kernel
theorem dd_Wi_passNight_99 : decode bb_Wi_passNight 99 = .ok (.iconst 1, 1) := by decide +kernel
theorem dd_Wi_passNight_100 : decode bb_Wi_passNight 100 = .ok (.iadd, 1) := by decide +kernel
theorem dd_Wi_passNight_101 : decode bb_Wi_passNight 101 = .ok (.putfield 108, 3) := by decide +kernel
theorem dd_Wi_passNight_104 : decode bb_Wi_passNight 104 = .ok (.iload_n 1, 1) := by decide +kernel
theorem dd_Wi_passNight_105 : decode bb_Wi_passNight 105 = .ok (.ireturn, 1) := by decide +kernel
def mm_Wi_passNight_j61 (N : Nat) (this : Option Nat) (v2 : Int32) (x2_61 : Int32) (h_61 : ss_Hp) : Option ((Int32 × ss_Hp) ⊕ ss_Hp) :=
  (some (x2_61 + (1 : Int32))).bind fun v12 =>
  some (.inl (v12, h_61))
def mm_Wi_passNight_b10 (N : Nat) (this : Option Nat) (v2 : Int32) (st : Int32 × ss_Hp) : Option ((Int32 × ss_Hp) ⊕ ss_Hp) :=
  match st with
  | (x2_10, h_10) =>
    (ss_gr h_10 this 7 6).bind fun r13 =>
    (ss_gi h_10 r13 5 3).bind fun v14 =>
    if v14 ≤ x2_10 then
      some (.inr h_10)
    else
      if ((v2 >>> (x2_10 &&& 31)) &&& (1 : Int32)) = (1 : Int32) then
        (ss_gr h_10 this 7 3).bind fun r17 =>
        (ss_ai h_10 r17 20 x2_10).bind fun v18 =>
        (ss_gr h_10 this 7 6).bind fun r19 =>
        (ss_gi h_10 r19 5 1).bind fun v20 =>
        (ss_ui h_10 r17 20 x2_10 (v18 + v20)).bind fun h21 =>
        (ss_gr h21 this 7 0).bind fun r22 =>
        (ss_gr h21 this 7 6).bind fun r23 =>
        (ss_gi h21 r23 5 1).bind fun v24 =>
        (mm_G_lay N r22 x2_10 v24 h21).bind fun h25 =>
        mm_Wi_passNight_j61 N this v2 x2_10 h25
      else
        mm_Wi_passNight_j61 N this v2 x2_10 h_10
def mm_Wi_passNight (N : Nat) (this : Option Nat) (h : ss_Hp) : Option (Int32 × ss_Hp) :=
  if ss_is h this 7 = true then
    (ss_gr h this 7 0).bind fun r1 =>
    (ss_gi h r1 0 0).bind fun v2 =>
    (ss_lp (mm_Wi_passNight_b10 N this v2) N ((0 : Int32), h)).bind fun h_10_67 =>
    (ss_gr h_10_67 this 7 0).bind fun r3 =>
    (ss_pi h_10_67 r3 0 1 v2).bind fun h4 =>
    (ss_gr h4 this 7 0).bind fun r5 =>
    (ss_pi h4 r5 0 0 (0 : Int32)).bind fun h6 =>
    (ss_gr h6 this 7 0).bind fun r7 =>
    (ss_pi h6 r7 0 2 (0 : Int32)).bind fun h8 =>
    (ss_gr h8 this 7 0).bind fun r9 =>
    (ss_gi h8 r9 0 3).bind fun v10 =>
    (ss_pi h8 r9 0 3 (v10 + (1 : Int32))).bind fun h11 =>
    some (v2, h11)
  else none
abbrev ww_Wi_passNight (p : Program) (l : Launch) (e : Env) (s : State) (m : MethodId) (below : List Frame) (meth : Method) (c : Code) (G : ss_G) (this : Option Nat) (h : ss_Hp) (rr : Int32) (hh : ss_Hp) (H : Heap) (locs : List Loc) (k n : Nat) (g : JFrame) : Prop := W p l e (headSpec (ss_w yy_Wi_passNight bb_Wi_passNight 3 (some (.int))) ({ frames := 2, cells := 0, slots := 0, locals := 102 })).room s m ([ss_v (ss_b G) this] : List Value).toArray below meth c H locs k n (MQ below (ss_Qc G (some (.int rr)) hh) ([ss_v (ss_b G) this] : List Value).toArray s 0 0 (ss_A G)) g
theorem ck_Wi_passNight {N : Nat} {this : Option Nat} {h : ss_Hp} {res : Int32 × ss_Hp} (hm : mm_Wi_passNight N this h = some res) : ss_is h this 7 = true := (ss_chk hm).1
set_option maxHeartbeats 4000000 in
set_option maxRecDepth 100000 in
theorem cc_Wi_passNight (l : Launch) (G : ss_G) (N : Nat) (this : Option Nat) (h : ss_Hp) (rr : Int32) (hh : ss_Hp) (hm : mm_Wi_passNight N this h = some (rr, hh)) : ss_Ct l G yy_Wi_passNight bb_Wi_passNight 3 (some (.int)) ({ frames := 2, cells := 0, slots := 0, locals := 102 }) [ss_v (ss_b G) this] h (some (.int rr)) hh := by
  obtain ⟨hck, hm⟩ := ss_chk hm
  refine Met.ofW (cc := bb_Wi_passNight) (maxL := 3) (ret := (some (.int))) (by decide) rfl ?_
  intro p e s m args below meth c s₁ B hml hv
  obtain ⟨rfl, hR, hK⟩ := hv
  have hC : CallFix p m c bb_Wi_passNight 3 s _ lw_g sR_7 := ⟨B.exec, B.bytes, hml, findClass_of_methodNamed B.named, fun w hw => atoms_spec (ws := ss_w yy_Wi_passNight bb_Wi_passNight 3 (some (.int))) B.pre w (List.mem_cons_of_mem _ hw)⟩
  have hx := hC.1
  have hb := hC.2.1
  have hr := B.returns
  have hlocks := B.notSynchronized
  have hS : va_S (ss_A G) s.heap s.heap [] := va_S.rf
  have hl := lv_entry ([ss_v (ss_b G) this]) (n := 3) (by simp [lg_sl, ss_v_cat, ss_cat_i, ss_cat_l, ss_cat_r])
  rw [lg_entry_eq]
  generalize (lg_sl ([ss_v (ss_b G) this]) ++ List.replicate (3 - (lg_sl ([ss_v (ss_b G) this])).length) Slot.unset).toArray = ls at hl ⊢
  have hl : lv_has ls 3 [(0, ss_v (ss_b G) this)] := by simpa [lv_args, ss_v_cat, ss_cat_i, ss_cat_l, ss_cat_r] using hl
  refine ss_aload_n hx hb dd_Wi_passNight_0 rfl (lv_at hl 0 rfl) ?_
  obtain ⟨r1, qr1, hm⟩ := ss_bind hm
  refine ss_getr hC hK hR kf_Wi_12 rfl qr1 dd_Wi_passNight_1 ?_
  obtain ⟨v2, qv2, hm⟩ := ss_bind hm
  refine ss_geti hC hK hR kf_Wi_71 qv2 dd_Wi_passNight_4 ?_
  refine lv_istore_n (lv' := [(1, .int v2), (0, ss_v (ss_b G) this)]) hx hb dd_Wi_passNight_7 rfl hl (by decide) (by simp only [List.filter_cons, ss_v_cat]; rfl) (fun ls hl => ?_)
  refine lv_iconst (v := 0) hx hb dd_Wi_passNight_8 (by decide) ?_
  refine lv_istore_n (lv' := [(2, .int (0 : Int32)), (1, .int v2), (0, ss_v (ss_b G) this)]) hx hb dd_Wi_passNight_9 rfl hl (by decide) rfl (fun ls hl => ?_)
  obtain ⟨e_10, he_10, hm⟩ := ss_bind hm
  have X_10_67 : ∀  (h_10_67 : ss_Hp) (H : Heap) (locs : List Loc) (ls : Array Slot), e_10 = h_10_67 → ss_R G h_10_67 H → va_S (ss_A G) s.heap H locs → lv_has ls 3 [(0, ss_v (ss_b G) this), (1, .int v2)] → ww_Wi_passNight p l e s m below meth c G this h rr hh  H locs 0 0 (F0 m 67 ls []) := by
    intro h_10_67 H locs ls hq hR hS hl
    rw [hq] at hm
    refine ss_aload_n hx hb dd_Wi_passNight_67 rfl (lv_at hl 0 rfl) ?_
    obtain ⟨r3, qr3, hm⟩ := ss_bind hm
    refine ss_getr hC hK hR kf_Wi_12 rfl qr3 dd_Wi_passNight_68 ?_
    refine lv_iload_n hx hb dd_Wi_passNight_71 rfl (lv_at hl 1 rfl) ?_
    obtain ⟨h4, qh4, hm⟩ := ss_bind hm
    refine ss_puti hC hK hR hS kp_Wi_105 qh4 dd_Wi_passNight_72 (fun H locs hR hS => ?_)
    refine ss_aload_n hx hb dd_Wi_passNight_75 rfl (lv_at hl 0 rfl) ?_
    obtain ⟨r5, qr5, hm⟩ := ss_bind hm
    refine ss_getr hC hK hR kf_Wi_12 rfl qr5 dd_Wi_passNight_76 ?_
    refine lv_iconst (v := 0) hx hb dd_Wi_passNight_79 (by decide) ?_
    obtain ⟨h6, qh6, hm⟩ := ss_bind hm
    refine ss_puti hC hK hR hS kp_Wi_71 qh6 dd_Wi_passNight_80 (fun H locs hR hS => ?_)
    refine ss_aload_n hx hb dd_Wi_passNight_83 rfl (lv_at hl 0 rfl) ?_
    obtain ⟨r7, qr7, hm⟩ := ss_bind hm
    refine ss_getr hC hK hR kf_Wi_12 rfl qr7 dd_Wi_passNight_84 ?_
    refine lv_iconst (v := 0) hx hb dd_Wi_passNight_87 (by decide) ?_
    obtain ⟨h8, qh8, hm⟩ := ss_bind hm
    refine ss_puti hC hK hR hS kp_Wi_75 qh8 dd_Wi_passNight_88 (fun H locs hR hS => ?_)
    refine ss_aload_n hx hb dd_Wi_passNight_91 rfl (lv_at hl 0 rfl) ?_
    obtain ⟨r9, qr9, hm⟩ := ss_bind hm
    refine ss_getr hC hK hR kf_Wi_12 rfl qr9 dd_Wi_passNight_92 ?_
    refine ss_dupr hx hb dd_Wi_passNight_95 ?_
    obtain ⟨v10, qv10, hm⟩ := ss_bind hm
    refine ss_geti hC hK hR kf_Wi_108 qv10 dd_Wi_passNight_96 ?_
    refine lv_iconst (v := 1) hx hb dd_Wi_passNight_99 (by decide) ?_
    refine lv_iadd hx hb dd_Wi_passNight_100 ?_
    obtain ⟨h11, qh11, hm⟩ := ss_bind hm
    refine ss_puti hC hK hR hS kp_Wi_108 qh11 dd_Wi_passNight_101 (fun H locs hR hS => ?_)
    refine lv_iload_n hx hb dd_Wi_passNight_104 rfl (lv_at hl 1 rfl) ?_
    exact ss_iret hC hr hlocks hR hS hm dd_Wi_passNight_105
  have L_10 : ∀ (n : Nat) (x2_10 : Int32) (h_10 : ss_Hp) (H : Heap) (locs : List Loc) (ls : Array Slot), ss_lp (mm_Wi_passNight_b10 N this v2) n (x2_10, h_10) = some e_10 → ss_R G h_10 H → va_S (ss_A G) s.heap H locs → lv_has ls 3 [(0, ss_v (ss_b G) this), (1, .int v2), (2, .int x2_10)] → ww_Wi_passNight p l e s m below meth c G this h rr hh  H locs 0 0 (F0 m 10 ls []) := by
    intro n
    induction n with
    | zero => intro x2_10 h_10 H locs ls hm; cases hm
    | succ n ih_10 =>
      intro x2_10 h_10 H locs ls hm hR hS hl
      obtain ⟨z_10, hm, hz1_10, hz2_10⟩ := ss_lps hm
      have J_61 : ∀ (x2_61 : Int32) (h_61 : ss_Hp) (H : Heap) (locs : List Loc) (ls : Array Slot), mm_Wi_passNight_j61 N this v2 x2_61 h_61 = some z_10 → ss_R G h_61 H → va_S (ss_A G) s.heap H locs → lv_has ls 3 [(0, ss_v (ss_b G) this), (1, .int v2), (2, .int x2_61)] → ww_Wi_passNight p l e s m below meth c G this h rr hh  H locs 0 0 (F0 m 61 ls []) := by
        intro x2_61 h_61 H locs ls hm hR hS hl
        obtain ⟨v12, qv12, hm⟩ := ss_bind hm
        refine lv_iinc (v := v12) (lv' := [(2, .int v12), (0, ss_v (ss_b G) this), (1, .int v2)]) hx hb dd_Wi_passNight_61 hl (k := 2) rfl (ss_inc (by decide) qv12) (by decide) rfl (fun ls hl => ?_)
        refine lv_goto (tgt := 10) hx hb dd_Wi_passNight_64 (by decide) ?_
        exact ih_10 v12 h_61 _ _ _ (hz1_10 _ (ss_some hm)) hR hS (lv_sub hl [1, 2, 0] rfl)
      refine lv_iload_n hx hb dd_Wi_passNight_10 rfl (lv_at hl 2 rfl) ?_
      refine ss_aload_n hx hb dd_Wi_passNight_11 rfl (lv_at hl 0 rfl) ?_
      obtain ⟨r13, qr13, hm⟩ := ss_bind hm
      refine ss_getr hC hK hR kf_Wi_37 rfl qr13 dd_Wi_passNight_12 ?_
      obtain ⟨v14, qv14, hm⟩ := ss_bind hm
      refine ss_geti hC hK hR kf_Wi_99 qv14 dd_Wi_passNight_15 ?_
      refine lv_icmp_ge (tgt := 67) hx hb dd_Wi_passNight_18 (by decide) (fun c15 => ?_) (fun c15 => ?_)
      · have hm := ss_ift hm c15
        exact X_10_67 h_10 _ _ _ (hz2_10 _ (ss_some hm)) hR hS (lv_sub hl [0, 1] rfl)
      · have hm := ss_iff hm c15
        refine lv_iload_n hx hb dd_Wi_passNight_21 rfl (lv_at hl 1 rfl) ?_
        refine lv_iload_n hx hb dd_Wi_passNight_22 rfl (lv_at hl 2 rfl) ?_
        refine lv_ishr hx hb dd_Wi_passNight_23 ?_
        refine lv_iconst (v := 1) hx hb dd_Wi_passNight_24 (by decide) ?_
        refine lv_iand hx hb dd_Wi_passNight_25 ?_
        refine lv_iconst (v := 1) hx hb dd_Wi_passNight_26 (by decide) ?_
        refine lv_icmp_ne (tgt := 61) hx hb dd_Wi_passNight_27 (by decide) (fun c16 => ?_) (fun c16 => ?_)
        · have hm := ss_iff hm c16
          exact J_61 x2_10 h_10 _ _ _ hm hR hS hl
        · have hm := ss_ift hm c16
          refine ss_aload_n hx hb dd_Wi_passNight_30 rfl (lv_at hl 0 rfl) ?_
          obtain ⟨r17, qr17, hm⟩ := ss_bind hm
          refine ss_getr hC hK hR kf_Wi_25 rfl qr17 dd_Wi_passNight_31 ?_
          refine lv_iload_n hx hb dd_Wi_passNight_34 rfl (lv_at hl 2 rfl) ?_
          refine ss_dup2ir hx hb dd_Wi_passNight_35 ?_
          obtain ⟨v18, qv18, hm⟩ := ss_bind hm
          refine ss_iald hC hK hR qv18 dd_Wi_passNight_36 ?_
          refine ss_aload_n hx hb dd_Wi_passNight_37 rfl (lv_at hl 0 rfl) ?_
          obtain ⟨r19, qr19, hm⟩ := ss_bind hm
          refine ss_getr hC hK hR kf_Wi_37 rfl qr19 dd_Wi_passNight_38 ?_
          obtain ⟨v20, qv20, hm⟩ := ss_bind hm
          refine ss_geti hC hK hR kf_Wi_102 qv20 dd_Wi_passNight_41 ?_
          refine lv_iadd hx hb dd_Wi_passNight_44 ?_
          obtain ⟨h21, qh21, hm⟩ := ss_bind hm
          refine ss_iast hC hK hR hS qh21 dd_Wi_passNight_45 (fun H locs hR hS => ?_)
          refine ss_aload_n hx hb dd_Wi_passNight_46 rfl (lv_at hl 0 rfl) ?_
          obtain ⟨r22, qr22, hm⟩ := ss_bind hm
          refine ss_getr hC hK hR kf_Wi_12 rfl qr22 dd_Wi_passNight_47 ?_
          refine lv_iload_n hx hb dd_Wi_passNight_50 rfl (lv_at hl 2 rfl) ?_
          refine ss_aload_n hx hb dd_Wi_passNight_51 rfl (lv_at hl 0 rfl) ?_
          obtain ⟨r23, qr23, hm⟩ := ss_bind hm
          refine ss_getr hC hK hR kf_Wi_37 rfl qr23 dd_Wi_passNight_52 ?_
          obtain ⟨v24, qv24, hm⟩ := ss_bind hm
          refine ss_geti hC hK hR kf_Wi_102 qv24 dd_Wi_passNight_55 ?_
          obtain ⟨h25, qh25, hm⟩ := ss_bind hm
          refine ss_cVv 0 0 (As := [.int x2_10, .int v24]) hC hK hR hS hl.1 (cc_G_lay l G N _ _ _ _ _ qh25) km_Wi_81 (ck_G_lay qh25) ⟨Nat.le_of_ble_eq_true rfl, Nat.le_of_ble_eq_true rfl⟩ ⟨Nat.le_of_ble_eq_true rfl, Nat.le_of_ble_eq_true rfl, Nat.le_of_ble_eq_true rfl, Nat.le_of_ble_eq_true rfl⟩ rfl rfl (Nat.le_of_ble_eq_true rfl) dd_Wi_passNight_58 (fun H locs hR hS => ?_)
          exact J_61 x2_10 h25 _ _ _ hm hR hS hl
  exact L_10 N (0 : Int32) h _ _ _ he_10 hR hS (lv_sub hl [2, 1, 0] rfl)
theorem dd_Wi_passDay_0 : decode bb_Wi_passDay 0 = .ok (.iconst 0, 1) := by decide +kernel
theorem dd_Wi_passDay_1 : decode bb_Wi_passDay 1 = .ok (.istore_n 1, 1) := by decide +kernel
theorem dd_Wi_passDay_2 : decode bb_Wi_passDay 2 = .ok (.iload_n 1, 1) := by decide +kernel
theorem dd_Wi_passDay_3 : decode bb_Wi_passDay 3 = .ok (.aload_n 0, 1) := by decide +kernel
theorem dd_Wi_passDay_4 : decode bb_Wi_passDay 4 = .ok (.getfield 37, 3) := by decide +kernel
theorem dd_Wi_passDay_7 : decode bb_Wi_passDay 7 = .ok (.getfield 85, 3) := by decide +kernel
theorem dd_Wi_passDay_10 : decode bb_Wi_passDay 10 = .ok (.if_icmp .ge 41, 3) := by decide +kernel
theorem dd_Wi_passDay_13 : decode bb_Wi_passDay 13 = .ok (.aload_n 0, 1) := by decide +kernel
theorem dd_Wi_passDay_14 : decode bb_Wi_passDay 14 = .ok (.getfield 12, 3) := by decide +kernel
theorem dd_Wi_passDay_17 : decode bb_Wi_passDay 17 = .ok (.getfield 75, 3) := by decide +kernel
theorem dd_Wi_passDay_20 : decode bb_Wi_passDay 20 = .ok (.iload_n 1, 1) := by decide +kernel
theorem dd_Wi_passDay_21 : decode bb_Wi_passDay 21 = .ok (.ishr, 1) := by decide +kernel
theorem dd_Wi_passDay_22 : decode bb_Wi_passDay 22 = .ok (.iconst 1, 1) := by decide +kernel
theorem dd_Wi_passDay_23 : decode bb_Wi_passDay 23 = .ok (.iand, 1) := by decide +kernel
theorem dd_Wi_passDay_24 : decode bb_Wi_passDay 24 = .ok (.ifCond .ne 21, 3) := by decide +kernel
theorem dd_Wi_passDay_27 : decode bb_Wi_passDay 27 = .ok (.aload_n 0, 1) := by decide +kernel
theorem dd_Wi_passDay_28 : decode bb_Wi_passDay 28 = .ok (.iload_n 1, 1) := by decide +kernel
theorem dd_Wi_passDay_29 : decode bb_Wi_passDay 29 = .ok (.invokevirtual 88, 3) := by decide +kernel
theorem dd_Wi_passDay_32 : decode bb_Wi_passDay 32 = .ok (.istore_n 2, 1) := by decide +kernel
theorem dd_Wi_passDay_33 : decode bb_Wi_passDay 33 = .ok (.iload_n 2, 1) := by decide +kernel
theorem dd_Wi_passDay_34 : decode bb_Wi_passDay 34 = .ok (.iconst (-1), 1) := by decide +kernel
theorem dd_Wi_passDay_35 : decode bb_Wi_passDay 35 = .ok (.if_icmp .eq 10, 3) := by decide +kernel
theorem dd_Wi_passDay_38 : decode bb_Wi_passDay 38 = .ok (.aload_n 0, 1) := by decide +kernel
theorem dd_Wi_passDay_39 : decode bb_Wi_passDay 39 = .ok (.iload_n 1, 1) := by decide +kernel
theorem dd_Wi_passDay_40 : decode bb_Wi_passDay 40 = .ok (.iload_n 2, 1) := by decide +kernel
theorem dd_Wi_passDay_41 : decode bb_Wi_passDay 41 = .ok (.invokevirtual 92, 3) := by decide +kernel
theorem dd_Wi_passDay_44 : decode bb_Wi_passDay 44 = .ok (.pop, 1) := by decide +kernel
theorem dd_Wi_passDay_45 : decode bb_Wi_passDay 45 = .ok (.iinc 1 1, 3) := by decide +kernel
theorem dd_Wi_passDay_48 : decode bb_Wi_passDay 48 = .ok (.goto (-46), 3) := by decide +kernel
theorem dd_Wi_passDay_51 : decode bb_Wi_passDay 51 = .ok (.aload_n 0, 1) := by decide +kernel
theorem dd_Wi_passDay_52 : decode bb_Wi_passDay 52 = .ok (.invokevirtual 95, 3) := by decide +kernel
theorem dd_Wi_passDay_55 : decode bb_Wi_passDay 55 = .ok (.ireturn, 1) := by decide +kernel
def mm_Wi_passDay_j45 (N : Nat) (this : Option Nat) (x1_45 : Int32) (h_45 : ss_Hp) : Option ((Int32 × ss_Hp) ⊕ ss_Hp) :=
  (some (x1_45 + (1 : Int32))).bind fun v3 =>
  some (.inl (v3, h_45))
def mm_Wi_passDay_b2 (N : Nat) (this : Option Nat) (st : Int32 × ss_Hp) : Option ((Int32 × ss_Hp) ⊕ ss_Hp) :=
  match st with
  | (x1_2, h_2) =>
    (ss_gr h_2 this 7 6).bind fun r4 =>
    (ss_gi h_2 r4 5 4).bind fun v5 =>
    if v5 ≤ x1_2 then
      some (.inr h_2)
    else
      (ss_gr h_2 this 7 0).bind fun r7 =>
      (ss_gi h_2 r7 0 2).bind fun v8 =>
      if ((v8 >>> (x1_2 &&& 31)) &&& (1 : Int32)) = 0 then
        ss_b2 (mm_Wi_choice N this x1_2 h_2) fun v10 h11 =>
        if v10 = (-1 : Int32) then
          mm_Wi_passDay_j45 N this x1_2 h11
        else
          ss_b2 (mm_Wi_sweepBy N this x1_2 v10 h11) fun v13 h14 =>
          mm_Wi_passDay_j45 N this x1_2 h14
      else
        mm_Wi_passDay_j45 N this x1_2 h_2
def mm_Wi_passDay (N : Nat) (this : Option Nat) (h : ss_Hp) : Option (Int32 × ss_Hp) :=
  if ss_is h this 7 = true then
    (ss_lp (mm_Wi_passDay_b2 N this) N ((0 : Int32), h)).bind fun h_2_51 =>
    ss_b2 (mm_Wi_passNight N this h_2_51) fun v1 h2 =>
    some (v1, h2)
  else none
abbrev ww_Wi_passDay (p : Program) (l : Launch) (e : Env) (s : State) (m : MethodId) (below : List Frame) (meth : Method) (c : Code) (G : ss_G) (this : Option Nat) (h : ss_Hp) (rr : Int32) (hh : ss_Hp) (H : Heap) (locs : List Loc) (k n : Nat) (g : JFrame) : Prop := W p l e (headSpec (ss_w yy_Wi_passDay bb_Wi_passDay 3 (some (.int))) ({ frames := 4, cells := 0, slots := 0, locals := 126 })).room s m ([ss_v (ss_b G) this] : List Value).toArray below meth c H locs k n (MQ below (ss_Qc G (some (.int rr)) hh) ([ss_v (ss_b G) this] : List Value).toArray s 0 0 (ss_A G)) g
theorem ck_Wi_passDay {N : Nat} {this : Option Nat} {h : ss_Hp} {res : Int32 × ss_Hp} (hm : mm_Wi_passDay N this h = some res) : ss_is h this 7 = true := (ss_chk hm).1
set_option maxHeartbeats 4000000 in
set_option maxRecDepth 100000 in
theorem cc_Wi_passDay (l : Launch) (G : ss_G) (N : Nat) (this : Option Nat) (h : ss_Hp) (rr : Int32) (hh : ss_Hp) (hm : mm_Wi_passDay N this h = some (rr, hh)) : ss_Ct l G yy_Wi_passDay bb_Wi_passDay 3 (some (.int)) ({ frames := 4, cells := 0, slots := 0, locals := 126 }) [ss_v (ss_b G) this] h (some (.int rr)) hh := by
  obtain ⟨hck, hm⟩ := ss_chk hm
  refine Met.ofW (cc := bb_Wi_passDay) (maxL := 3) (ret := (some (.int))) (by decide) rfl ?_
  intro p e s m args below meth c s₁ B hml hv
  obtain ⟨rfl, hR, hK⟩ := hv
  have hC : CallFix p m c bb_Wi_passDay 3 s _ lw_g sR_7 := ⟨B.exec, B.bytes, hml, findClass_of_methodNamed B.named, fun w hw => atoms_spec (ws := ss_w yy_Wi_passDay bb_Wi_passDay 3 (some (.int))) B.pre w (List.mem_cons_of_mem _ hw)⟩
  have hx := hC.1
  have hb := hC.2.1
  have hr := B.returns
  have hlocks := B.notSynchronized
  have hS : va_S (ss_A G) s.heap s.heap [] := va_S.rf
  have hl := lv_entry ([ss_v (ss_b G) this]) (n := 3) (by simp [lg_sl, ss_v_cat, ss_cat_i, ss_cat_l, ss_cat_r])
  rw [lg_entry_eq]
  generalize (lg_sl ([ss_v (ss_b G) this]) ++ List.replicate (3 - (lg_sl ([ss_v (ss_b G) this])).length) Slot.unset).toArray = ls at hl ⊢
  have hl : lv_has ls 3 [(0, ss_v (ss_b G) this)] := by simpa [lv_args, ss_v_cat, ss_cat_i, ss_cat_l, ss_cat_r] using hl
  refine lv_iconst (v := 0) hx hb dd_Wi_passDay_0 (by decide) ?_
  refine lv_istore_n (lv' := [(1, .int (0 : Int32)), (0, ss_v (ss_b G) this)]) hx hb dd_Wi_passDay_1 rfl hl (by decide) (by simp only [List.filter_cons, ss_v_cat]; rfl) (fun ls hl => ?_)
  obtain ⟨e_2, he_2, hm⟩ := ss_bind hm
  have X_2_51 : ∀  (h_2_51 : ss_Hp) (H : Heap) (locs : List Loc) (ls : Array Slot), e_2 = h_2_51 → ss_R G h_2_51 H → va_S (ss_A G) s.heap H locs → lv_has ls 3 [(0, ss_v (ss_b G) this)] → ww_Wi_passDay p l e s m below meth c G this h rr hh  H locs 0 0 (F0 m 51 ls []) := by
    intro h_2_51 H locs ls hq hR hS hl
    rw [hq] at hm
    refine ss_aload_n hx hb dd_Wi_passDay_51 rfl (lv_at hl 0 rfl) ?_
    obtain ⟨v1, h2, qh2, hm⟩ := ss_bind2 hm
    refine ss_cV 0 0 (As := []) hC hK hR hS hl.1 (cc_Wi_passNight l G N _ _ _ _ qh2) km_Wi_95 (ck_Wi_passNight qh2) ⟨Nat.le_of_ble_eq_true rfl, Nat.le_of_ble_eq_true rfl⟩ ⟨Nat.le_of_ble_eq_true rfl, Nat.le_of_ble_eq_true rfl, Nat.le_of_ble_eq_true rfl, Nat.le_of_ble_eq_true rfl⟩ rfl rfl (Nat.le_of_ble_eq_true rfl) dd_Wi_passDay_52 (fun H locs hR hS => ?_)
    exact ss_iret hC hr hlocks hR hS hm dd_Wi_passDay_55
  have L_2 : ∀ (n : Nat) (x1_2 : Int32) (h_2 : ss_Hp) (H : Heap) (locs : List Loc) (ls : Array Slot), ss_lp (mm_Wi_passDay_b2 N this) n (x1_2, h_2) = some e_2 → ss_R G h_2 H → va_S (ss_A G) s.heap H locs → lv_has ls 3 [(0, ss_v (ss_b G) this), (1, .int x1_2)] → ww_Wi_passDay p l e s m below meth c G this h rr hh  H locs 0 0 (F0 m 2 ls []) := by
    intro n
    induction n with
    | zero => intro x1_2 h_2 H locs ls hm; cases hm
    | succ n ih_2 =>
      intro x1_2 h_2 H locs ls hm hR hS hl
      obtain ⟨z_2, hm, hz1_2, hz2_2⟩ := ss_lps hm
      have J_45 : ∀ (x1_45 : Int32) (h_45 : ss_Hp) (H : Heap) (locs : List Loc) (ls : Array Slot), mm_Wi_passDay_j45 N this x1_45 h_45 = some z_2 → ss_R G h_45 H → va_S (ss_A G) s.heap H locs → lv_has ls 3 [(0, ss_v (ss_b G) this), (1, .int x1_45)] → ww_Wi_passDay p l e s m below meth c G this h rr hh  H locs 0 0 (F0 m 45 ls []) := by
        intro x1_45 h_45 H locs ls hm hR hS hl
        obtain ⟨v3, qv3, hm⟩ := ss_bind hm
        refine lv_iinc (v := v3) (lv' := [(1, .int v3), (0, ss_v (ss_b G) this)]) hx hb dd_Wi_passDay_45 hl (k := 1) rfl (ss_inc (by decide) qv3) (by decide) (by simp only [List.filter_cons, ss_v_cat]; rfl) (fun ls hl => ?_)
        refine lv_goto (tgt := 2) hx hb dd_Wi_passDay_48 (by decide) ?_
        exact ih_2 v3 h_45 _ _ _ (hz1_2 _ (ss_some hm)) hR hS (lv_sub hl [1, 0] rfl)
      refine lv_iload_n hx hb dd_Wi_passDay_2 rfl (lv_at hl 1 rfl) ?_
      refine ss_aload_n hx hb dd_Wi_passDay_3 rfl (lv_at hl 0 rfl) ?_
      obtain ⟨r4, qr4, hm⟩ := ss_bind hm
      refine ss_getr hC hK hR kf_Wi_37 rfl qr4 dd_Wi_passDay_4 ?_
      obtain ⟨v5, qv5, hm⟩ := ss_bind hm
      refine ss_geti hC hK hR kf_Wi_85 qv5 dd_Wi_passDay_7 ?_
      refine lv_icmp_ge (tgt := 51) hx hb dd_Wi_passDay_10 (by decide) (fun c6 => ?_) (fun c6 => ?_)
      · have hm := ss_ift hm c6
        exact X_2_51 h_2 _ _ _ (hz2_2 _ (ss_some hm)) hR hS (lv_sub hl [0] rfl)
      · have hm := ss_iff hm c6
        refine ss_aload_n hx hb dd_Wi_passDay_13 rfl (lv_at hl 0 rfl) ?_
        obtain ⟨r7, qr7, hm⟩ := ss_bind hm
        refine ss_getr hC hK hR kf_Wi_12 rfl qr7 dd_Wi_passDay_14 ?_
        obtain ⟨v8, qv8, hm⟩ := ss_bind hm
        refine ss_geti hC hK hR kf_Wi_75 qv8 dd_Wi_passDay_17 ?_
        refine lv_iload_n hx hb dd_Wi_passDay_20 rfl (lv_at hl 1 rfl) ?_
        refine lv_ishr hx hb dd_Wi_passDay_21 ?_
        refine lv_iconst (v := 1) hx hb dd_Wi_passDay_22 (by decide) ?_
        refine lv_iand hx hb dd_Wi_passDay_23 ?_
        refine lv_if_ne (tgt := 45) hx hb dd_Wi_passDay_24 (by decide) (fun c9 => ?_) (fun c9 => ?_)
        · have hm := ss_iff hm c9
          exact J_45 x1_2 h_2 _ _ _ hm hR hS hl
        · have hm := ss_ift hm c9
          refine ss_aload_n hx hb dd_Wi_passDay_27 rfl (lv_at hl 0 rfl) ?_
          refine lv_iload_n hx hb dd_Wi_passDay_28 rfl (lv_at hl 1 rfl) ?_
          obtain ⟨v10, h11, qh11, hm⟩ := ss_bind2 hm
          refine ss_cV 0 0 (As := [.int x1_2]) hC hK hR hS hl.1 (cc_Wi_choice l G N _ _ _ _ _ qh11) km_Wi_88 (ck_Wi_choice qh11) ⟨Nat.le_of_ble_eq_true rfl, Nat.le_of_ble_eq_true rfl⟩ ⟨Nat.le_of_ble_eq_true rfl, Nat.le_of_ble_eq_true rfl, Nat.le_of_ble_eq_true rfl, Nat.le_of_ble_eq_true rfl⟩ rfl rfl (Nat.le_of_ble_eq_true rfl) dd_Wi_passDay_29 (fun H locs hR hS => ?_)
          refine lv_istore_n (lv' := [(2, .int v10), (0, ss_v (ss_b G) this), (1, .int x1_2)]) hx hb dd_Wi_passDay_32 rfl hl (by decide) rfl (fun ls hl => ?_)
          refine lv_iload_n hx hb dd_Wi_passDay_33 rfl (lv_at hl 0 rfl) ?_
          refine lv_iconst (v := -1) hx hb dd_Wi_passDay_34 (by decide) ?_
          refine lv_icmp_eq (tgt := 45) hx hb dd_Wi_passDay_35 (by decide) (fun c12 => ?_) (fun c12 => ?_)
          · have hm := ss_ift hm c12
            exact J_45 x1_2 h11 _ _ _ hm hR hS (lv_sub hl [1, 2] rfl)
          · have hm := ss_iff hm c12
            refine ss_aload_n hx hb dd_Wi_passDay_38 rfl (lv_at hl 1 rfl) ?_
            refine lv_iload_n hx hb dd_Wi_passDay_39 rfl (lv_at hl 2 rfl) ?_
            refine lv_iload_n hx hb dd_Wi_passDay_40 rfl (lv_at hl 0 rfl) ?_
            obtain ⟨v13, h14, qh14, hm⟩ := ss_bind2 hm
            refine ss_cV 0 0 (As := [.int x1_2, .int v10]) hC hK hR hS hl.1 (cc_Wi_sweepBy l G N _ _ _ _ _ _ qh14) km_Wi_92 (ck_Wi_sweepBy qh14) ⟨Nat.le_of_ble_eq_true rfl, Nat.le_of_ble_eq_true rfl⟩ ⟨Nat.le_of_ble_eq_true rfl, Nat.le_of_ble_eq_true rfl, Nat.le_of_ble_eq_true rfl, Nat.le_of_ble_eq_true rfl⟩ rfl rfl (Nat.le_of_ble_eq_true rfl) dd_Wi_passDay_41 (fun H locs hR hS => ?_)
            refine lv_pop hx hb dd_Wi_passDay_44 rfl ?_
            exact J_45 x1_2 h14 _ _ _ hm hR hS (lv_sub hl [1, 2] rfl)
  exact L_2 N (0 : Int32) h _ _ _ he_2 hR hS (lv_sub hl [1, 0] rfl)
theorem dd_S_day_0 : decode bb_S_day 0 = .ok (.aload_n 0, 1) := by decide +kernel
theorem dd_S_day_1 : decode bb_S_day 1 = .ok (.getfield 46, 3) := by decide +kernel
theorem dd_S_day_4 : decode bb_S_day 4 = .ok (.getfield 63, 3) := by decide +kernel
theorem dd_S_day_7 : decode bb_S_day 7 = .ok (.getfield 170, 3) := by decide +kernel
theorem dd_S_day_10 : decode bb_S_day 10 = .ok (.ifCond .eq 19, 3) := by decide +kernel
theorem dd_S_day_13 : decode bb_S_day 13 = .ok (.aload_n 0, 1) := by decide +kernel
theorem dd_S_day_14 : decode bb_S_day 14 = .ok (.getfield 46, 3) := by decide +kernel
theorem dd_S_day_17 : decode bb_S_day 17 = .ok (.getfield 128, 3) := by decide +kernel
theorem dd_S_day_20 : decode bb_S_day 20 = .ok (.getfield 151, 3) := by decide +kernel
theorem dd_S_day_23 : decode bb_S_day 23 = .ok (.sipush 999, 3) := by decide +kernel
theorem dd_S_day_26 : decode bb_S_day 26 = .ok (.if_icmp .lt 5, 3) := by decide +kernel
theorem dd_S_day_29 : decode bb_S_day 29 = .ok (.iconst (-1), 1) := by decide +kernel
theorem dd_S_day_30 : decode bb_S_day 30 = .ok (.ireturn, 1) := by decide +kernel
theorem dd_S_day_31 : decode bb_S_day 31 = .ok (.aload_n 0, 1) := by decide +kernel
theorem dd_S_day_32 : decode bb_S_day 32 = .ok (.getfield 57, 3) := by decide +kernel
theorem dd_S_day_35 : decode bb_S_day 35 = .ok (.aload_n 0, 1) := by decide +kernel
theorem dd_S_day_36 : decode bb_S_day 36 = .ok (.getfield 46, 3) := by decide +kernel
theorem dd_S_day_39 : decode bb_S_day 39 = .ok (.getfield 128, 3) := by decide +kernel
theorem dd_S_day_42 : decode bb_S_day 42 = .ok (.invokevirtual 174, 3) := by decide +kernel
theorem dd_S_day_45 : decode bb_S_day 45 = .ok (.aload_n 0, 1) := by decide +kernel
theorem dd_S_day_46 : decode bb_S_day 46 = .ok (.getfield 77, 3) := by decide +kernel
theorem dd_S_day_49 : decode bb_S_day 49 = .ok (.invokevirtual 178, 3) := by decide +kernel
theorem dd_S_day_52 : decode bb_S_day 52 = .ok (.aload_n 0, 1) := by decide +kernel
theorem dd_S_day_53 : decode bb_S_day 53 = .ok (.getfield 68, 3) := by decide +kernel
theorem dd_S_day_56 : decode bb_S_day 56 = .ok (.invokevirtual 181, 3) := by decide +kernel
theorem dd_S_day_59 : decode bb_S_day 59 = .ok (.istore_n 1, 1) := by decide +kernel
theorem dd_S_day_60 : decode bb_S_day 60 = .ok (.aload_n 0, 1) := by decide +kernel
theorem dd_S_day_61 : decode bb_S_day 61 = .ok (.getfield 46, 3) := by decide +kernel
theorem dd_S_day_64 : decode bb_S_day 64 = .ok (.getfield 128, 3) := by decide +kernel
theorem dd_S_day_67 : decode bb_S_day 67 = .ok (.aload_n 0, 1) := by decide +kernel
theorem dd_S_day_68 : decode bb_S_day 68 = .ok (.getfield 68, 3) := by decide +kernel
theorem dd_S_day_71 : decode bb_S_day 71 = .ok (.getfield 184, 3) := by decide +kernel
theorem dd_S_day_74 : decode bb_S_day 74 = .ok (.invokevirtual 185, 3) := by decide +kernel
theorem dd_S_day_77 : decode bb_S_day 77 = .ok (.iload_n 1, 1) := by decide +kernel
theorem dd_S_day_78 : decode bb_S_day 78 = .ok (.ireturn, 1) := by decide +kernel
def mm_S_day_j29 (N : Nat) (this : Option Nat) (h_29 : ss_Hp) : Option (Int32 × ss_Hp) :=
  some ((-1 : Int32), h_29)
def mm_S_day (N : Nat) (this : Option Nat) (h : ss_Hp) : Option (Int32 × ss_Hp) :=
  if ss_is h this 11 = true then
    (ss_gr h this 11 4).bind fun r1 =>
    (ss_gr h r1 8 0).bind fun r2 =>
    (ss_gi h r2 5 0).bind fun v3 =>
    if v3 = 0 then
      mm_S_day_j29 N this h
    else
      (ss_gr h this 11 4).bind fun r5 =>
      (ss_gr h r5 8 1).bind fun r6 =>
      (ss_gi h r6 0 3).bind fun v7 =>
      if v7 < (999 : Int32) then
        (ss_gr h this 11 6).bind fun r9 =>
        (ss_gr h this 11 4).bind fun r10 =>
        (ss_gr h r10 8 1).bind fun r11 =>
        (mm_A_keep N r9 r11 h).bind fun h12 =>
        (ss_gr h12 this 11 8).bind fun r13 =>
        (mm_F_start N r13 h12).bind fun h14 =>
        (ss_gr h14 this 11 7).bind fun r15 =>
        ss_b2 (mm_Wi_passDay N r15 h14) fun v16 h17 =>
        (ss_gr h17 this 11 4).bind fun r18 =>
        (ss_gr h17 r18 8 1).bind fun r19 =>
        (ss_gr h17 this 11 7).bind fun r20 =>
        (ss_gr h17 r20 7 0).bind fun r21 =>
        (mm_G_copyFrom N r19 r21 h17).bind fun h22 =>
        some (v16, h22)
      else
        mm_S_day_j29 N this h
  else none
abbrev ww_S_day (p : Program) (l : Launch) (e : Env) (s : State) (m : MethodId) (below : List Frame) (meth : Method) (c : Code) (G : ss_G) (this : Option Nat) (h : ss_Hp) (rr : Int32) (hh : ss_Hp) (H : Heap) (locs : List Loc) (k n : Nat) (g : JFrame) : Prop := W p l e (headSpec (ss_w yy_S_day bb_S_day 2 (some (.int))) ({ frames := 5, cells := 0, slots := 0, locals := 148 })).room s m ([ss_v (ss_b G) this] : List Value).toArray below meth c H locs k n (MQ below (ss_Qc G (some (.int rr)) hh) ([ss_v (ss_b G) this] : List Value).toArray s 0 0 (ss_A G)) g
theorem ck_S_day {N : Nat} {this : Option Nat} {h : ss_Hp} {res : Int32 × ss_Hp} (hm : mm_S_day N this h = some res) : ss_is h this 11 = true := (ss_chk hm).1
set_option maxHeartbeats 4000000 in
set_option maxRecDepth 100000 in
theorem cc_S_day (l : Launch) (G : ss_G) (N : Nat) (this : Option Nat) (h : ss_Hp) (rr : Int32) (hh : ss_Hp) (hm : mm_S_day N this h = some (rr, hh)) : ss_Ct l G yy_S_day bb_S_day 2 (some (.int)) ({ frames := 5, cells := 0, slots := 0, locals := 148 }) [ss_v (ss_b G) this] h (some (.int rr)) hh := by
  obtain ⟨hck, hm⟩ := ss_chk hm
  refine Met.ofW (cc := bb_S_day) (maxL := 2) (ret := (some (.int))) (by decide) rfl ?_
  intro p e s m args below meth c s₁ B hml hv
  obtain ⟨rfl, hR, hK⟩ := hv
  have hC : CallFix p m c bb_S_day 2 s _ lw_g sR_11 := ⟨B.exec, B.bytes, hml, findClass_of_methodNamed B.named, fun w hw => atoms_spec (ws := ss_w yy_S_day bb_S_day 2 (some (.int))) B.pre w (List.mem_cons_of_mem _ hw)⟩
  have hx := hC.1
  have hb := hC.2.1
  have hr := B.returns
  have hlocks := B.notSynchronized
  have hS : va_S (ss_A G) s.heap s.heap [] := va_S.rf
  have hl := lv_entry ([ss_v (ss_b G) this]) (n := 2) (by simp [lg_sl, ss_v_cat, ss_cat_i, ss_cat_l, ss_cat_r])
  rw [lg_entry_eq]
  generalize (lg_sl ([ss_v (ss_b G) this]) ++ List.replicate (2 - (lg_sl ([ss_v (ss_b G) this])).length) Slot.unset).toArray = ls at hl ⊢
  have hl : lv_has ls 2 [(0, ss_v (ss_b G) this)] := by simpa [lv_args, ss_v_cat, ss_cat_i, ss_cat_l, ss_cat_r] using hl
  have J_29 : ∀ (h_29 : ss_Hp) (H : Heap) (locs : List Loc) (ls : Array Slot), mm_S_day_j29 N this h_29 = some (rr, hh) → ss_R G h_29 H → va_S (ss_A G) s.heap H locs → lv_has ls 2 [] → ww_S_day p l e s m below meth c G this h rr hh  H locs 0 0 (F0 m 29 ls []) := by
    intro h_29 H locs ls hm hR hS hl
    refine lv_iconst (v := -1) hx hb dd_S_day_29 (by decide) ?_
    exact ss_iret hC hr hlocks hR hS hm dd_S_day_30
  refine ss_aload_n hx hb dd_S_day_0 rfl (lv_at hl 0 rfl) ?_
  obtain ⟨r1, qr1, hm⟩ := ss_bind hm
  refine ss_getr hC hK hR kf_S_46 rfl qr1 dd_S_day_1 ?_
  obtain ⟨r2, qr2, hm⟩ := ss_bind hm
  refine ss_getr hC hK hR kf_S_63 rfl qr2 dd_S_day_4 ?_
  obtain ⟨v3, qv3, hm⟩ := ss_bind hm
  refine ss_geti hC hK hR kf_S_170 qv3 dd_S_day_7 ?_
  refine lv_if_eq (tgt := 29) hx hb dd_S_day_10 (by decide) (fun c4 => ?_) (fun c4 => ?_)
  · have hm := ss_ift hm c4
    exact J_29 h _ _ _ hm hR hS (lv_sub hl [] rfl)
  · have hm := ss_iff hm c4
    refine ss_aload_n hx hb dd_S_day_13 rfl (lv_at hl 0 rfl) ?_
    obtain ⟨r5, qr5, hm⟩ := ss_bind hm
    refine ss_getr hC hK hR kf_S_46 rfl qr5 dd_S_day_14 ?_
    obtain ⟨r6, qr6, hm⟩ := ss_bind hm
    refine ss_getr hC hK hR kf_S_128 rfl qr6 dd_S_day_17 ?_
    obtain ⟨v7, qv7, hm⟩ := ss_bind hm
    refine ss_geti hC hK hR kf_S_151 qv7 dd_S_day_20 ?_
    refine lv_sipush (v := 999) hx hb dd_S_day_23 (by decide) ?_
    refine lv_icmp_lt (tgt := 31) hx hb dd_S_day_26 (by decide) (fun c8 => ?_) (fun c8 => ?_)
    · have hm := ss_ift hm c8
      refine ss_aload_n hx hb dd_S_day_31 rfl (lv_at hl 0 rfl) ?_
      obtain ⟨r9, qr9, hm⟩ := ss_bind hm
      refine ss_getr hC hK hR kf_S_57 rfl qr9 dd_S_day_32 ?_
      refine ss_aload_n hx hb dd_S_day_35 rfl (lv_at hl 0 rfl) ?_
      obtain ⟨r10, qr10, hm⟩ := ss_bind hm
      refine ss_getr hC hK hR kf_S_46 rfl qr10 dd_S_day_36 ?_
      obtain ⟨r11, qr11, hm⟩ := ss_bind hm
      refine ss_getr hC hK hR kf_S_128 rfl qr11 dd_S_day_39 ?_
      obtain ⟨h12, qh12, hm⟩ := ss_bind hm
      refine ss_cVv 0 0 (As := [ss_v (ss_b G) r11]) hC hK hR hS hl.1 (cc_A_keep l G N _ _ _ _ qh12) km_S_174 (ck_A_keep qh12) ⟨Nat.le_of_ble_eq_true rfl, Nat.le_of_ble_eq_true rfl⟩ ⟨Nat.le_of_ble_eq_true rfl, Nat.le_of_ble_eq_true rfl, Nat.le_of_ble_eq_true rfl, Nat.le_of_ble_eq_true rfl⟩ rfl rfl (Nat.le_of_ble_eq_true rfl) dd_S_day_42 (fun H locs hR hS => ?_)
      refine ss_aload_n hx hb dd_S_day_45 rfl (lv_at hl 0 rfl) ?_
      obtain ⟨r13, qr13, hm⟩ := ss_bind hm
      refine ss_getr hC hK hR kf_S_77 rfl qr13 dd_S_day_46 ?_
      obtain ⟨h14, qh14, hm⟩ := ss_bind hm
      refine ss_cVv 0 0 (As := []) hC hK hR hS hl.1 (cc_F_start l G N _ _ _ qh14) km_S_178 (ck_F_start qh14) ⟨Nat.le_of_ble_eq_true rfl, Nat.le_of_ble_eq_true rfl⟩ ⟨Nat.le_of_ble_eq_true rfl, Nat.le_of_ble_eq_true rfl, Nat.le_of_ble_eq_true rfl, Nat.le_of_ble_eq_true rfl⟩ rfl rfl (Nat.le_of_ble_eq_true rfl) dd_S_day_49 (fun H locs hR hS => ?_)
      refine ss_aload_n hx hb dd_S_day_52 rfl (lv_at hl 0 rfl) ?_
      obtain ⟨r15, qr15, hm⟩ := ss_bind hm
      refine ss_getr hC hK hR kf_S_68 rfl qr15 dd_S_day_53 ?_
      obtain ⟨v16, h17, qh17, hm⟩ := ss_bind2 hm
      refine ss_cV 0 0 (As := []) hC hK hR hS hl.1 (cc_Wi_passDay l G N _ _ _ _ qh17) km_S_181 (ck_Wi_passDay qh17) ⟨Nat.le_of_ble_eq_true rfl, Nat.le_of_ble_eq_true rfl⟩ ⟨Nat.le_of_ble_eq_true rfl, Nat.le_of_ble_eq_true rfl, Nat.le_of_ble_eq_true rfl, Nat.le_of_ble_eq_true rfl⟩ rfl rfl (Nat.le_of_ble_eq_true rfl) dd_S_day_56 (fun H locs hR hS => ?_)
      refine lv_istore_n (lv' := [(1, .int v16), (0, ss_v (ss_b G) this)]) hx hb dd_S_day_59 rfl hl (by decide) (by simp only [List.filter_cons, ss_v_cat]; rfl) (fun ls hl => ?_)
      refine ss_aload_n hx hb dd_S_day_60 rfl (lv_at hl 1 rfl) ?_
      obtain ⟨r18, qr18, hm⟩ := ss_bind hm
      refine ss_getr hC hK hR kf_S_46 rfl qr18 dd_S_day_61 ?_
      obtain ⟨r19, qr19, hm⟩ := ss_bind hm
      refine ss_getr hC hK hR kf_S_128 rfl qr19 dd_S_day_64 ?_
      refine ss_aload_n hx hb dd_S_day_67 rfl (lv_at hl 1 rfl) ?_
      obtain ⟨r20, qr20, hm⟩ := ss_bind hm
      refine ss_getr hC hK hR kf_S_68 rfl qr20 dd_S_day_68 ?_
      obtain ⟨r21, qr21, hm⟩ := ss_bind hm
      refine ss_getr hC hK hR kf_S_184 rfl qr21 dd_S_day_71 ?_
      obtain ⟨h22, qh22, hm⟩ := ss_bind hm
      refine ss_cVv 0 0 (As := [ss_v (ss_b G) r21]) hC hK hR hS hl.1 (cc_G_copyFrom l G N _ _ _ _ qh22) km_S_185 (ck_G_copyFrom qh22) ⟨Nat.le_of_ble_eq_true rfl, Nat.le_of_ble_eq_true rfl⟩ ⟨Nat.le_of_ble_eq_true rfl, Nat.le_of_ble_eq_true rfl, Nat.le_of_ble_eq_true rfl, Nat.le_of_ble_eq_true rfl⟩ rfl rfl (Nat.le_of_ble_eq_true rfl) dd_S_day_74 (fun H locs hR hS => ?_)
      refine lv_iload_n hx hb dd_S_day_77 rfl (lv_at hl 0 rfl) ?_
      exact ss_iret hC hr hlocks hR hS hm dd_S_day_78
    · have hm := ss_iff hm c8
      exact J_29 h _ _ _ hm hR hS (lv_sub hl [] rfl)
