theorem dd_Wi_lookAt_0 : decode bb_Wi_lookAt 0 = .ok (.aload_n 0, 1) := by decide +kernel
theorem dd_Wi_lookAt_1 : decode bb_Wi_lookAt 1 = .ok (.getfield 30, 3) := by decide +kernel
theorem dd_Wi_lookAt_4 : decode bb_Wi_lookAt 4 = .ok (.iconst 0, 1) := by decide +kernel
theorem dd_Wi_lookAt_5 : decode bb_Wi_lookAt 5 = .ok (.iload_n 1, 1) := by decide +kernel
theorem dd_Wi_lookAt_6 : decode bb_Wi_lookAt 6 = .ok (.i2l, 1) := by decide +kernel
theorem dd_Wi_lookAt_7 : decode bb_Wi_lookAt 7 = .ok (.lastore, 1) := by decide +kernel
theorem dd_Wi_lookAt_8 : decode bb_Wi_lookAt 8 = .ok (.aload_n 0, 1) := by decide +kernel
theorem dd_Wi_lookAt_9 : decode bb_Wi_lookAt 9 = .ok (.getfield 30, 3) := by decide +kernel
theorem dd_Wi_lookAt_12 : decode bb_Wi_lookAt 12 = .ok (.iconst 1, 1) := by decide +kernel
theorem dd_Wi_lookAt_13 : decode bb_Wi_lookAt 13 = .ok (.iload_n 2, 1) := by decide +kernel
theorem dd_Wi_lookAt_14 : decode bb_Wi_lookAt 14 = .ok (.i2l, 1) := by decide +kernel
theorem dd_Wi_lookAt_15 : decode bb_Wi_lookAt 15 = .ok (.lastore, 1) := by decide +kernel
theorem dd_Wi_lookAt_16 : decode bb_Wi_lookAt 16 = .ok (.aload_n 0, 1) := by decide +kernel
theorem dd_Wi_lookAt_17 : decode bb_Wi_lookAt 17 = .ok (.getfield 30, 3) := by decide +kernel
theorem dd_Wi_lookAt_20 : decode bb_Wi_lookAt 20 = .ok (.iconst 2, 1) := by decide +kernel
theorem dd_Wi_lookAt_21 : decode bb_Wi_lookAt 21 = .ok (.aload_n 0, 1) := by decide +kernel
theorem dd_Wi_lookAt_22 : decode bb_Wi_lookAt 22 = .ok (.getfield 37, 3) := by decide +kernel
theorem dd_Wi_lookAt_25 : decode bb_Wi_lookAt 25 = .ok (.getfield 113, 3) := by decide +kernel
theorem dd_Wi_lookAt_28 : decode bb_Wi_lookAt 28 = .ok (.iload_n 1, 1) := by decide +kernel
theorem dd_Wi_lookAt_29 : decode bb_Wi_lookAt 29 = .ok (.iaload, 1) := by decide +kernel
theorem dd_Wi_lookAt_30 : decode bb_Wi_lookAt 30 = .ok (.iload_n 2, 1) := by decide +kernel
theorem dd_Wi_lookAt_31 : decode bb_Wi_lookAt 31 = .ok (.if_icmp .ne 7, 3) := by decide +kernel
theorem dd_Wi_lookAt_34 : decode bb_Wi_lookAt 34 = .ok (.lconst 1, 1) := by decide +kernel
theorem dd_Wi_lookAt_35 : decode bb_Wi_lookAt 35 = .ok (.goto 4, 3) := by decide +kernel
theorem dd_Wi_lookAt_38 : decode bb_Wi_lookAt 38 = .ok (.lconst 0, 1) := by decide +kernel
theorem dd_Wi_lookAt_39 : decode bb_Wi_lookAt 39 = .ok (.lastore, 1) := by decide +kernel
theorem dd_Wi_lookAt_40 : decode bb_Wi_lookAt 40 = .ok (.aload_n 0, 1) := by decide +kernel
theorem dd_Wi_lookAt_41 : decode bb_Wi_lookAt 41 = .ok (.getfield 30, 3) := by decide +kernel
theorem dd_Wi_lookAt_44 : decode bb_Wi_lookAt 44 = .ok (.iconst 3, 1) := by decide +kernel
theorem dd_Wi_lookAt_45 : decode bb_Wi_lookAt 45 = .ok (.aload_n 0, 1) := by decide +kernel
theorem dd_Wi_lookAt_46 : decode bb_Wi_lookAt 46 = .ok (.getfield 12, 3) := by decide +kernel
theorem dd_Wi_lookAt_49 : decode bb_Wi_lookAt 49 = .ok (.getfield 62, 3) := by decide +kernel
theorem dd_Wi_lookAt_52 : decode bb_Wi_lookAt 52 = .ok (.iload_n 2, 1) := by decide +kernel
theorem dd_Wi_lookAt_53 : decode bb_Wi_lookAt 53 = .ok (.iaload, 1) := by decide +kernel
theorem dd_Wi_lookAt_54 : decode bb_Wi_lookAt 54 = .ok (.i2l, 1) := by decide +kernel
theorem dd_Wi_lookAt_55 : decode bb_Wi_lookAt 55 = .ok (.lastore, 1) := by decide +kernel
theorem dd_Wi_lookAt_56 : decode bb_Wi_lookAt 56 = .ok (.aload_n 0, 1) := by decide +kernel
theorem dd_Wi_lookAt_57 : decode bb_Wi_lookAt 57 = .ok (.getfield 30, 3) := by decide +kernel
theorem dd_Wi_lookAt_60 : decode bb_Wi_lookAt 60 = .ok (.iconst 4, 1) := by decide +kernel
theorem dd_Wi_lookAt_61 : decode bb_Wi_lookAt 61 = .ok (.aload_n 0, 1) := by decide +kernel
theorem dd_Wi_lookAt_62 : decode bb_Wi_lookAt 62 = .ok (.getfield 18, 3) := by decide +kernel
theorem dd_Wi_lookAt_65 : decode bb_Wi_lookAt 65 = .ok (.iload_n 1, 1) := by decide +kernel
theorem dd_Wi_lookAt_66 : decode bb_Wi_lookAt 66 = .ok (.iaload, 1) := by decide +kernel
theorem dd_Wi_lookAt_67 : decode bb_Wi_lookAt 67 = .ok (.i2l, 1) := by decide +kernel
theorem dd_Wi_lookAt_68 : decode bb_Wi_lookAt 68 = .ok (.lastore, 1) := by decide +kernel
theorem dd_Wi_lookAt_69 : decode bb_Wi_lookAt 69 = .ok (.aload_n 0, 1) := by decide +kernel
theorem dd_Wi_lookAt_70 : decode bb_Wi_lookAt 70 = .ok (.getfield 30, 3) := by decide +kernel
theorem dd_Wi_lookAt_73 : decode bb_Wi_lookAt 73 = .ok (.iconst 5, 1) := by decide +kernel
theorem dd_Wi_lookAt_74 : decode bb_Wi_lookAt 74 = .ok (.aload_n 0, 1) := by decide +kernel
theorem dd_Wi_lookAt_75 : decode bb_Wi_lookAt 75 = .ok (.getfield 12, 3) := by decide +kernel
theorem dd_Wi_lookAt_78 : decode bb_Wi_lookAt 78 = .ok (.getfield 71, 3) := by decide +kernel
theorem dd_Wi_lookAt_81 : decode bb_Wi_lookAt 81 = .ok (.iload_n 2, 1) := by decide +kernel
theorem dd_Wi_lookAt_82 : decode bb_Wi_lookAt 82 = .ok (.ishr, 1) := by decide +kernel
theorem dd_Wi_lookAt_83 : decode bb_Wi_lookAt 83 = .ok (.iconst 1, 1) := by decide +kernel
theorem dd_Wi_lookAt_84 : decode bb_Wi_lookAt 84 = .ok (.iand, 1) := by decide +kernel
theorem dd_Wi_lookAt_85 : decode bb_Wi_lookAt 85 = .ok (.i2l, 1) := by decide +kernel
theorem dd_Wi_lookAt_86 : decode bb_Wi_lookAt 86 = .ok (.lastore, 1) := by decide +kernel
theorem dd_Wi_lookAt_87 : decode bb_Wi_lookAt 87 = .ok (.aload_n 0, 1) := by decide +kernel
theorem dd_Wi_lookAt_88 : decode bb_Wi_lookAt 88 = .ok (.getfield 30, 3) := by decide +kernel
theorem dd_Wi_lookAt_91 : decode bb_Wi_lookAt 91 = .ok (.bipush 6, 2) := by decide +kernel
theorem dd_Wi_lookAt_93 : decode bb_Wi_lookAt 93 = .ok (.aload_n 0, 1) := by decide +kernel
theorem dd_Wi_lookAt_94 : decode bb_Wi_lookAt 94 = .ok (.getfield 12, 3) := by decide +kernel
theorem dd_Wi_lookAt_97 : decode bb_Wi_lookAt 97 = .ok (.getfield 105, 3) := by decide +kernel
theorem dd_Wi_lookAt_100 : decode bb_Wi_lookAt 100 = .ok (.iload_n 2, 1) := by decide +kernel
theorem dd_Wi_lookAt_101 : decode bb_Wi_lookAt 101 = .ok (.ishr, 1) := by decide +kernel
theorem dd_Wi_lookAt_102 : decode bb_Wi_lookAt 102 = .ok (.iconst 1, 1) := by decide +kernel
theorem dd_Wi_lookAt_103 : decode bb_Wi_lookAt 103 = .ok (.iand, 1) := by decide +kernel
theorem dd_Wi_lookAt_104 : decode bb_Wi_lookAt 104 = .ok (.i2l, 1) := by decide +kernel
theorem dd_Wi_lookAt_105 : decode bb_Wi_lookAt 105 = .ok (.lastore, 1) := by decide +kernel
theorem dd_Wi_lookAt_106 : decode bb_Wi_lookAt 106 = .ok (.aload_n 0, 1) := by decide +kernel
theorem dd_Wi_lookAt_107 : decode bb_Wi_lookAt 107 = .ok (.getfield 30, 3) := by decide +kernel
theorem dd_Wi_lookAt_110 : decode bb_Wi_lookAt 110 = .ok (.bipush 7, 2) := by decide +kernel
theorem dd_Wi_lookAt_112 : decode bb_Wi_lookAt 112 = .ok (.iload_n 3, 1) := by decide +kernel
theorem dd_Wi_lookAt_113 : decode bb_Wi_lookAt 113 = .ok (.invokestatic 124, 3) := by decide +kernel
theorem dd_Wi_lookAt_116 : decode bb_Wi_lookAt 116 = .ok (.i2l, 1) := by decide +kernel
theorem dd_Wi_lookAt_117 : decode bb_Wi_lookAt 117 = .ok (.lastore, 1) := by decide +kernel
theorem dd_Wi_lookAt_118 : decode bb_Wi_lookAt 118 = .ok (.aload_n 0, 1) := by decide +kernel
theorem dd_Wi_lookAt_119 : decode bb_Wi_lookAt 119 = .ok (.getfield 30, 3) := by decide +kernel
theorem dd_Wi_lookAt_122 : decode bb_Wi_lookAt 122 = .ok (.bipush 8, 2) := by decide +kernel
theorem dd_Wi_lookAt_124 : decode bb_Wi_lookAt 124 = .ok (.aload_n 0, 1) := by decide +kernel
theorem dd_Wi_lookAt_125 : decode bb_Wi_lookAt 125 = .ok (.getfield 37, 3) := by decide +kernel
theorem dd_Wi_lookAt_128 : decode bb_Wi_lookAt 128 = .ok (.iload_n 2, 1) := by decide +kernel
theorem dd_Wi_lookAt_129 : decode bb_Wi_lookAt 129 = .ok (.aload_n 0, 1) := by decide +kernel
theorem dd_Wi_lookAt_130 : decode bb_Wi_lookAt 130 = .ok (.getfield 12, 3) := by decide +kernel
theorem dd_Wi_lookAt_133 : decode bb_Wi_lookAt 133 = .ok (.getfield 108, 3) := by decide +kernel
theorem dd_Wi_lookAt_136 : decode bb_Wi_lookAt 136 = .ok (.invokevirtual 129, 3) := by decide +kernel
theorem dd_Wi_lookAt_139 : decode bb_Wi_lookAt 139 = .ok (.ifCond .eq 7, 3) := by decide +kernel
theorem dd_Wi_lookAt_142 : decode bb_Wi_lookAt 142 = .ok (.lconst 1, 1) := by decide +kernel
theorem dd_Wi_lookAt_143 : decode bb_Wi_lookAt 143 = .ok (.goto 4, 3) := by decide +kernel
theorem dd_Wi_lookAt_146 : decode bb_Wi_lookAt 146 = .ok (.lconst 0, 1) := by decide +kernel
theorem dd_Wi_lookAt_147 : decode bb_Wi_lookAt 147 = .ok (.lastore, 1) := by decide +kernel
theorem dd_Wi_lookAt_148 : decode bb_Wi_lookAt 148 = .ok (.aload_n 0, 1) := by decide +kernel
theorem dd_Wi_lookAt_149 : decode bb_Wi_lookAt 149 = .ok (.getfield 30, 3) := by decide +kernel
theorem dd_Wi_lookAt_152 : decode bb_Wi_lookAt 152 = .ok (.bipush 9, 2) := by decide +kernel
theorem dd_Wi_lookAt_154 : decode bb_Wi_lookAt 154 = .ok (.aload_n 0, 1) := by decide +kernel
theorem dd_Wi_lookAt_155 : decode bb_Wi_lookAt 155 = .ok (.getfield 37, 3) := by decide +kernel
theorem dd_Wi_lookAt_158 : decode bb_Wi_lookAt 158 = .ok (.iload_n 2, 1) := by decide +kernel
theorem dd_Wi_lookAt_159 : decode bb_Wi_lookAt 159 = .ok (.aload_n 0, 1) := by decide +kernel
theorem dd_Wi_lookAt_160 : decode bb_Wi_lookAt 160 = .ok (.getfield 12, 3) := by decide +kernel
theorem dd_Wi_lookAt_163 : decode bb_Wi_lookAt 163 = .ok (.getfield 108, 3) := by decide +kernel
theorem dd_Wi_lookAt_166 : decode bb_Wi_lookAt 166 = .ok (.invokevirtual 133, 3) := by decide +kernel
theorem dd_Wi_lookAt_169 : decode bb_Wi_lookAt 169 = .ok (.i2l, 1) := by decide +kernel
theorem dd_Wi_lookAt_170 : decode bb_Wi_lookAt 170 = .ok (.lastore, 1) := by decide +kernel
theorem dd_Wi_lookAt_171 : decode bb_Wi_lookAt 171 = .ok (.aload_n 0, 1) := by decide +kernel
theorem dd_Wi_lookAt_172 : decode bb_Wi_lookAt 172 = .ok (.getfield 30, 3) := by decide +kernel
theorem dd_Wi_lookAt_175 : decode bb_Wi_lookAt 175 = .ok (.bipush 10, 2) := by decide +kernel
theorem dd_Wi_lookAt_177 : decode bb_Wi_lookAt 177 = .ok (.iload_n 3, 1) := by decide +kernel
theorem dd_Wi_lookAt_178 : decode bb_Wi_lookAt 178 = .ok (.aload_n 0, 1) := by decide +kernel
theorem dd_Wi_lookAt_179 : decode bb_Wi_lookAt 179 = .ok (.getfield 37, 3) := by decide +kernel
theorem dd_Wi_lookAt_182 : decode bb_Wi_lookAt 182 = .ok (.getfield 136, 3) := by decide +kernel
theorem dd_Wi_lookAt_185 : decode bb_Wi_lookAt 185 = .ok (.iload_n 2, 1) := by decide +kernel
theorem dd_Wi_lookAt_186 : decode bb_Wi_lookAt 186 = .ok (.iaload, 1) := by decide +kernel
theorem dd_Wi_lookAt_187 : decode bb_Wi_lookAt 187 = .ok (.iand, 1) := by decide +kernel
theorem dd_Wi_lookAt_188 : decode bb_Wi_lookAt 188 = .ok (.invokestatic 124, 3) := by decide +kernel
theorem dd_Wi_lookAt_191 : decode bb_Wi_lookAt 191 = .ok (.i2l, 1) := by decide +kernel
theorem dd_Wi_lookAt_192 : decode bb_Wi_lookAt 192 = .ok (.lastore, 1) := by decide +kernel
theorem dd_Wi_lookAt_193 : decode bb_Wi_lookAt 193 = .ok (.aload_n 0, 1) := by decide +kernel
theorem dd_Wi_lookAt_194 : decode bb_Wi_lookAt 194 = .ok (.getfield 30, 3) := by decide +kernel
theorem dd_Wi_lookAt_197 : decode bb_Wi_lookAt 197 = .ok (.bipush 11, 2) := by decide +kernel
theorem dd_Wi_lookAt_199 : decode bb_Wi_lookAt 199 = .ok (.aload_n 0, 1) := by decide +kernel
theorem dd_Wi_lookAt_200 : decode bb_Wi_lookAt 200 = .ok (.getfield 12, 3) := by decide +kernel
theorem dd_Wi_lookAt_203 : decode bb_Wi_lookAt 203 = .ok (.getfield 108, 3) := by decide +kernel
theorem dd_Wi_lookAt_206 : decode bb_Wi_lookAt 206 = .ok (.i2l, 1) := by decide +kernel
theorem dd_Wi_lookAt_207 : decode bb_Wi_lookAt 207 = .ok (.lastore, 1) := by decide +kernel
theorem dd_Wi_lookAt_208 : decode bb_Wi_lookAt 208 = .ok (.return_, 1) := by decide +kernel
def mm_Wi_lookAt_j147 (N : Nat) (this : Option Nat) (a1 : Int32) (a2 : Int32) (a3 : Int32) (s0_147 : Option Nat) (s1_147 : Int32) (s2_147 : Int64) (h_147 : ss_Hp) : Option ss_Hp :=
  (ss_ul h_147 s0_147 23 s1_147 s2_147).bind fun h1 =>
  (ss_gr h1 this 7 4).bind fun r2 =>
  (ss_gr h1 this 7 6).bind fun r3 =>
  (ss_gr h1 this 7 0).bind fun r4 =>
  (ss_gi h1 r4 0 3).bind fun v5 =>
  (mm_V_daysToNeed N r3 a2 v5 h1).bind fun v6 =>
  (ss_ul h1 r2 23 (9 : Int32) ((v6).toInt64)).bind fun h7 =>
  (ss_gr h7 this 7 4).bind fun r8 =>
  (ss_gr h7 this 7 6).bind fun r9 =>
  (ss_gr h7 r9 5 2).bind fun r10 =>
  (ss_ai h7 r10 20 a2).bind fun v11 =>
  (mm_JI_bitCount N (a3 &&& v11)).bind fun v12 =>
  (ss_ul h7 r8 23 (10 : Int32) ((v12).toInt64)).bind fun h13 =>
  (ss_gr h13 this 7 4).bind fun r14 =>
  (ss_gr h13 this 7 0).bind fun r15 =>
  (ss_gi h13 r15 0 3).bind fun v16 =>
  (ss_ul h13 r14 23 (11 : Int32) ((v16).toInt64)).bind fun h17 =>
  some h17
def mm_Wi_lookAt_j39 (N : Nat) (this : Option Nat) (a1 : Int32) (a2 : Int32) (a3 : Int32) (s0_39 : Option Nat) (s1_39 : Int32) (s2_39 : Int64) (h_39 : ss_Hp) : Option ss_Hp :=
  (ss_ul h_39 s0_39 23 s1_39 s2_39).bind fun h18 =>
  (ss_gr h18 this 7 4).bind fun r19 =>
  (ss_gr h18 this 7 0).bind fun r20 =>
  (ss_gr h18 r20 0 0).bind fun r21 =>
  (ss_ai h18 r21 20 a2).bind fun v22 =>
  (ss_ul h18 r19 23 (3 : Int32) ((v22).toInt64)).bind fun h23 =>
  (ss_gr h23 this 7 4).bind fun r24 =>
  (ss_gr h23 this 7 1).bind fun r25 =>
  (ss_ai h23 r25 20 a1).bind fun v26 =>
  (ss_ul h23 r24 23 (4 : Int32) ((v26).toInt64)).bind fun h27 =>
  (ss_gr h27 this 7 4).bind fun r28 =>
  (ss_gr h27 this 7 0).bind fun r29 =>
  (ss_gi h27 r29 0 0).bind fun v30 =>
  (ss_ul h27 r28 23 (5 : Int32) ((((v30 >>> (a2 &&& 31)) &&& (1 : Int32))).toInt64)).bind fun h31 =>
  (ss_gr h31 this 7 4).bind fun r32 =>
  (ss_gr h31 this 7 0).bind fun r33 =>
  (ss_gi h31 r33 0 1).bind fun v34 =>
  (ss_ul h31 r32 23 (6 : Int32) ((((v34 >>> (a2 &&& 31)) &&& (1 : Int32))).toInt64)).bind fun h35 =>
  (ss_gr h35 this 7 4).bind fun r36 =>
  (mm_JI_bitCount N a3).bind fun v37 =>
  (ss_ul h35 r36 23 (7 : Int32) ((v37).toInt64)).bind fun h38 =>
  (ss_gr h38 this 7 4).bind fun r39 =>
  (ss_gr h38 this 7 6).bind fun r40 =>
  (ss_gr h38 this 7 0).bind fun r41 =>
  (ss_gi h38 r41 0 3).bind fun v42 =>
  (mm_V_isNeeded N r40 a2 v42 h38).bind fun v43 =>
  if v43 = 0 then
    mm_Wi_lookAt_j147 N this a1 a2 a3 r39 (8 : Int32) (0 : Int64) h38
  else
    mm_Wi_lookAt_j147 N this a1 a2 a3 r39 (8 : Int32) (1 : Int64) h38
def mm_Wi_lookAt (N : Nat) (this : Option Nat) (a1 : Int32) (a2 : Int32) (a3 : Int32) (h : ss_Hp) : Option ss_Hp :=
  if ss_is h this 7 = true then
    (ss_gr h this 7 4).bind fun r45 =>
    (ss_ul h r45 23 (0 : Int32) ((a1).toInt64)).bind fun h46 =>
    (ss_gr h46 this 7 4).bind fun r47 =>
    (ss_ul h46 r47 23 (1 : Int32) ((a2).toInt64)).bind fun h48 =>
    (ss_gr h48 this 7 4).bind fun r49 =>
    (ss_gr h48 this 7 6).bind fun r50 =>
    (ss_gr h48 r50 5 0).bind fun r51 =>
    (ss_ai h48 r51 20 a1).bind fun v52 =>
    if v52 = a2 then
      mm_Wi_lookAt_j39 N this a1 a2 a3 r49 (2 : Int32) (1 : Int64) h48
    else
      mm_Wi_lookAt_j39 N this a1 a2 a3 r49 (2 : Int32) (0 : Int64) h48
  else none
abbrev ww_Wi_lookAt (p : Program) (l : Launch) (e : Env) (s : State) (m : MethodId) (below : List Frame) (meth : Method) (c : Code) (G : ss_G) (this : Option Nat) (a1 : Int32) (a2 : Int32) (a3 : Int32) (h : ss_Hp) (hh : ss_Hp) (H : Heap) (locs : List Loc) (k n : Nat) (g : JFrame) : Prop := W p l e (headSpec (ss_w yy_Wi_lookAt bb_Wi_lookAt 4 none) ({ frames := 2, cells := 0, slots := 0, locals := 43 })).room s m ([ss_v (ss_b G) this, .int a1, .int a2, .int a3] : List Value).toArray below meth c H locs k n (MQ below (ss_Qc G none hh) ([ss_v (ss_b G) this, .int a1, .int a2, .int a3] : List Value).toArray s 0 0 (ss_A G)) g
theorem ck_Wi_lookAt {N : Nat} {this : Option Nat} {a1 : Int32} {a2 : Int32} {a3 : Int32} {h : ss_Hp} {res : ss_Hp} (hm : mm_Wi_lookAt N this a1 a2 a3 h = some res) : ss_is h this 7 = true := (ss_chk hm).1
set_option maxHeartbeats 4000000 in
set_option maxRecDepth 100000 in
theorem cc_Wi_lookAt (l : Launch) (G : ss_G) (N : Nat) (this : Option Nat) (a1 : Int32) (a2 : Int32) (a3 : Int32) (h : ss_Hp) (hh : ss_Hp) (hm : mm_Wi_lookAt N this a1 a2 a3 h = some hh) : ss_Ct l G yy_Wi_lookAt bb_Wi_lookAt 4 none ({ frames := 2, cells := 0, slots := 0, locals := 43 }) [ss_v (ss_b G) this, .int a1, .int a2, .int a3] h none hh := by
  obtain ⟨hck, hm⟩ := ss_chk hm
  refine Met.ofW (cc := bb_Wi_lookAt) (maxL := 4) (ret := none) (by decide) rfl ?_
  intro p e s m args below meth c s₁ B hml hv
  obtain ⟨rfl, hR, hK⟩ := hv
  have hC : CallFix p m c bb_Wi_lookAt 4 s _ lw_g sR_7 := ⟨B.exec, B.bytes, hml, findClass_of_methodNamed B.named, fun w hw => atoms_spec (ws := ss_w yy_Wi_lookAt bb_Wi_lookAt 4 none) B.pre w (List.mem_cons_of_mem _ hw)⟩
  have hx := hC.1
  have hb := hC.2.1
  have hr := B.returns
  have hlocks := B.notSynchronized
  have hS : va_S (ss_A G) s.heap s.heap [] := va_S.rf
  have hl := lv_entry ([ss_v (ss_b G) this, .int a1, .int a2, .int a3]) (n := 4) (by simp [lg_sl, ss_v_cat, ss_cat_i, ss_cat_l, ss_cat_r])
  rw [lg_entry_eq]
  generalize (lg_sl ([ss_v (ss_b G) this, .int a1, .int a2, .int a3]) ++ List.replicate (4 - (lg_sl ([ss_v (ss_b G) this, .int a1, .int a2, .int a3])).length) Slot.unset).toArray = ls at hl ⊢
  have hl : lv_has ls 4 [(0, ss_v (ss_b G) this), (1, .int a1), (2, .int a2), (3, .int a3)] := by simpa [lv_args, ss_v_cat, ss_cat_i, ss_cat_l, ss_cat_r] using hl
  have J_147 : ∀ (s0_147 : Option Nat) (s1_147 : Int32) (s2_147 : Int64) (h_147 : ss_Hp) (H : Heap) (locs : List Loc) (ls : Array Slot), mm_Wi_lookAt_j147 N this a1 a2 a3 s0_147 s1_147 s2_147 h_147 = some hh → ss_R G h_147 H → va_S (ss_A G) s.heap H locs → lv_has ls 4 [(0, ss_v (ss_b G) this), (2, .int a2), (3, .int a3)] → ww_Wi_lookAt p l e s m below meth c G this a1 a2 a3 h hh  H locs 0 0 (F0 m 147 ls [.long s2_147, .int s1_147, ss_v (ss_b G) s0_147]) := by
    intro s0_147 s1_147 s2_147 h_147 H locs ls hm hR hS hl
    obtain ⟨h1, qh1, hm⟩ := ss_bind hm
    refine ss_last hC hK hR hS qh1 dd_Wi_lookAt_147 (fun H locs hR hS => ?_)
    refine ss_aload_n hx hb dd_Wi_lookAt_148 rfl (lv_at hl 0 rfl) ?_
    obtain ⟨r2, qr2, hm⟩ := ss_bind hm
    refine ss_getr hC hK hR kf_Wi_30 rfl qr2 dd_Wi_lookAt_149 ?_
    refine lv_bipush (v := 9) hx hb dd_Wi_lookAt_152 (by decide) ?_
    refine ss_aload_n hx hb dd_Wi_lookAt_154 rfl (lv_at hl 0 rfl) ?_
    obtain ⟨r3, qr3, hm⟩ := ss_bind hm
    refine ss_getr hC hK hR kf_Wi_37 rfl qr3 dd_Wi_lookAt_155 ?_
    refine lv_iload_n hx hb dd_Wi_lookAt_158 rfl (lv_at hl 1 rfl) ?_
    refine ss_aload_n hx hb dd_Wi_lookAt_159 rfl (lv_at hl 0 rfl) ?_
    obtain ⟨r4, qr4, hm⟩ := ss_bind hm
    refine ss_getr hC hK hR kf_Wi_12 rfl qr4 dd_Wi_lookAt_160 ?_
    obtain ⟨v5, qv5, hm⟩ := ss_bind hm
    refine ss_geti hC hK hR kf_Wi_108 qv5 dd_Wi_lookAt_163 ?_
    obtain ⟨v6, qv6, hm⟩ := ss_bind hm
    refine ss_cV 0 0 (As := [.int a2, .int v5]) hC hK hR hS hl.1 (cc_V_daysToNeed l G N _ _ _ _ _ qv6) km_Wi_133 (ck_V_daysToNeed qv6) ⟨Nat.le_of_ble_eq_true rfl, Nat.le_of_ble_eq_true rfl⟩ ⟨Nat.le_of_ble_eq_true rfl, Nat.le_of_ble_eq_true rfl, Nat.le_of_ble_eq_true rfl, Nat.le_of_ble_eq_true rfl⟩ rfl rfl (by simp [ss_v_cat, ss_cat_i, ss_cat_l, ss_cat_r]) dd_Wi_lookAt_166 (fun H locs hR hS => ?_)
    refine lv_i2l hx hb dd_Wi_lookAt_169 rfl ?_
    obtain ⟨h7, qh7, hm⟩ := ss_bind hm
    refine ss_last hC hK hR hS qh7 dd_Wi_lookAt_170 (fun H locs hR hS => ?_)
    refine ss_aload_n hx hb dd_Wi_lookAt_171 rfl (lv_at hl 0 rfl) ?_
    obtain ⟨r8, qr8, hm⟩ := ss_bind hm
    refine ss_getr hC hK hR kf_Wi_30 rfl qr8 dd_Wi_lookAt_172 ?_
    refine lv_bipush (v := 10) hx hb dd_Wi_lookAt_175 (by decide) ?_
    refine lv_iload_n hx hb dd_Wi_lookAt_177 rfl (lv_at hl 2 rfl) ?_
    refine ss_aload_n hx hb dd_Wi_lookAt_178 rfl (lv_at hl 0 rfl) ?_
    obtain ⟨r9, qr9, hm⟩ := ss_bind hm
    refine ss_getr hC hK hR kf_Wi_37 rfl qr9 dd_Wi_lookAt_179 ?_
    obtain ⟨r10, qr10, hm⟩ := ss_bind hm
    refine ss_getr hC hK hR kf_Wi_136 rfl qr10 dd_Wi_lookAt_182 ?_
    refine lv_iload_n hx hb dd_Wi_lookAt_185 rfl (lv_at hl 1 rfl) ?_
    obtain ⟨v11, qv11, hm⟩ := ss_bind hm
    refine ss_iald hC hK hR qv11 dd_Wi_lookAt_186 ?_
    refine lv_iand hx hb dd_Wi_lookAt_187 ?_
    obtain ⟨v12, qv12, hm⟩ := ss_bind hm
    refine ss_cS 0 0 (As := [.int (a3 &&& v11)]) hC hK hR hS hl.1 (cc_JI_bitCount l G N _ _ _ qv12) km_Wi_124 ⟨Nat.le_of_ble_eq_true rfl, Nat.le_of_ble_eq_true rfl⟩ ⟨Nat.le_of_ble_eq_true rfl, Nat.le_of_ble_eq_true rfl, Nat.le_of_ble_eq_true rfl, Nat.le_of_ble_eq_true rfl⟩ rfl rfl (by simp [ss_v_cat, ss_cat_i, ss_cat_l, ss_cat_r]) dd_Wi_lookAt_188 (fun H locs hR hS => ?_)
    refine lv_i2l hx hb dd_Wi_lookAt_191 rfl ?_
    obtain ⟨h13, qh13, hm⟩ := ss_bind hm
    refine ss_last hC hK hR hS qh13 dd_Wi_lookAt_192 (fun H locs hR hS => ?_)
    refine ss_aload_n hx hb dd_Wi_lookAt_193 rfl (lv_at hl 0 rfl) ?_
    obtain ⟨r14, qr14, hm⟩ := ss_bind hm
    refine ss_getr hC hK hR kf_Wi_30 rfl qr14 dd_Wi_lookAt_194 ?_
    refine lv_bipush (v := 11) hx hb dd_Wi_lookAt_197 (by decide) ?_
    refine ss_aload_n hx hb dd_Wi_lookAt_199 rfl (lv_at hl 0 rfl) ?_
    obtain ⟨r15, qr15, hm⟩ := ss_bind hm
    refine ss_getr hC hK hR kf_Wi_12 rfl qr15 dd_Wi_lookAt_200 ?_
    obtain ⟨v16, qv16, hm⟩ := ss_bind hm
    refine ss_geti hC hK hR kf_Wi_108 qv16 dd_Wi_lookAt_203 ?_
    refine lv_i2l hx hb dd_Wi_lookAt_206 rfl ?_
    obtain ⟨h17, qh17, hm⟩ := ss_bind hm
    refine ss_last hC hK hR hS qh17 dd_Wi_lookAt_207 (fun H locs hR hS => ?_)
    exact ss_vret hC hr hlocks hR hS hm dd_Wi_lookAt_208
  have J_39 : ∀ (s0_39 : Option Nat) (s1_39 : Int32) (s2_39 : Int64) (h_39 : ss_Hp) (H : Heap) (locs : List Loc) (ls : Array Slot), mm_Wi_lookAt_j39 N this a1 a2 a3 s0_39 s1_39 s2_39 h_39 = some hh → ss_R G h_39 H → va_S (ss_A G) s.heap H locs → lv_has ls 4 [(0, ss_v (ss_b G) this), (1, .int a1), (2, .int a2), (3, .int a3)] → ww_Wi_lookAt p l e s m below meth c G this a1 a2 a3 h hh  H locs 0 0 (F0 m 39 ls [.long s2_39, .int s1_39, ss_v (ss_b G) s0_39]) := by
    intro s0_39 s1_39 s2_39 h_39 H locs ls hm hR hS hl
    obtain ⟨h18, qh18, hm⟩ := ss_bind hm
    refine ss_last hC hK hR hS qh18 dd_Wi_lookAt_39 (fun H locs hR hS => ?_)
    refine ss_aload_n hx hb dd_Wi_lookAt_40 rfl (lv_at hl 0 rfl) ?_
    obtain ⟨r19, qr19, hm⟩ := ss_bind hm
    refine ss_getr hC hK hR kf_Wi_30 rfl qr19 dd_Wi_lookAt_41 ?_
    refine lv_iconst (v := 3) hx hb dd_Wi_lookAt_44 (by decide) ?_
    refine ss_aload_n hx hb dd_Wi_lookAt_45 rfl (lv_at hl 0 rfl) ?_
    obtain ⟨r20, qr20, hm⟩ := ss_bind hm
    refine ss_getr hC hK hR kf_Wi_12 rfl qr20 dd_Wi_lookAt_46 ?_
    obtain ⟨r21, qr21, hm⟩ := ss_bind hm
    refine ss_getr hC hK hR kf_Wi_62 rfl qr21 dd_Wi_lookAt_49 ?_
    refine lv_iload_n hx hb dd_Wi_lookAt_52 rfl (lv_at hl 2 rfl) ?_
    obtain ⟨v22, qv22, hm⟩ := ss_bind hm
    refine ss_iald hC hK hR qv22 dd_Wi_lookAt_53 ?_
    refine lv_i2l hx hb dd_Wi_lookAt_54 rfl ?_
    obtain ⟨h23, qh23, hm⟩ := ss_bind hm
    refine ss_last hC hK hR hS qh23 dd_Wi_lookAt_55 (fun H locs hR hS => ?_)
    refine ss_aload_n hx hb dd_Wi_lookAt_56 rfl (lv_at hl 0 rfl) ?_
    obtain ⟨r24, qr24, hm⟩ := ss_bind hm
    refine ss_getr hC hK hR kf_Wi_30 rfl qr24 dd_Wi_lookAt_57 ?_
    refine lv_iconst (v := 4) hx hb dd_Wi_lookAt_60 (by decide) ?_
    refine ss_aload_n hx hb dd_Wi_lookAt_61 rfl (lv_at hl 0 rfl) ?_
    obtain ⟨r25, qr25, hm⟩ := ss_bind hm
    refine ss_getr hC hK hR kf_Wi_18 rfl qr25 dd_Wi_lookAt_62 ?_
    refine lv_iload_n hx hb dd_Wi_lookAt_65 rfl (lv_at hl 1 rfl) ?_
    obtain ⟨v26, qv26, hm⟩ := ss_bind hm
    refine ss_iald hC hK hR qv26 dd_Wi_lookAt_66 ?_
    refine lv_i2l hx hb dd_Wi_lookAt_67 rfl ?_
    obtain ⟨h27, qh27, hm⟩ := ss_bind hm
    refine ss_last hC hK hR hS qh27 dd_Wi_lookAt_68 (fun H locs hR hS => ?_)
    refine ss_aload_n hx hb dd_Wi_lookAt_69 rfl (lv_at hl 0 rfl) ?_
    obtain ⟨r28, qr28, hm⟩ := ss_bind hm
    refine ss_getr hC hK hR kf_Wi_30 rfl qr28 dd_Wi_lookAt_70 ?_
    refine lv_iconst (v := 5) hx hb dd_Wi_lookAt_73 (by decide) ?_
    refine ss_aload_n hx hb dd_Wi_lookAt_74 rfl (lv_at hl 0 rfl) ?_
    obtain ⟨r29, qr29, hm⟩ := ss_bind hm
    refine ss_getr hC hK hR kf_Wi_12 rfl qr29 dd_Wi_lookAt_75 ?_
    obtain ⟨v30, qv30, hm⟩ := ss_bind hm
    refine ss_geti hC hK hR kf_Wi_71 qv30 dd_Wi_lookAt_78 ?_
    refine lv_iload_n hx hb dd_Wi_lookAt_81 rfl (lv_at hl 2 rfl) ?_
    refine lv_ishr hx hb dd_Wi_lookAt_82 ?_
    refine lv_iconst (v := 1) hx hb dd_Wi_lookAt_83 (by decide) ?_
    refine lv_iand hx hb dd_Wi_lookAt_84 ?_
    refine lv_i2l hx hb dd_Wi_lookAt_85 rfl ?_
    obtain ⟨h31, qh31, hm⟩ := ss_bind hm
    refine ss_last hC hK hR hS qh31 dd_Wi_lookAt_86 (fun H locs hR hS => ?_)
    refine ss_aload_n hx hb dd_Wi_lookAt_87 rfl (lv_at hl 0 rfl) ?_
    obtain ⟨r32, qr32, hm⟩ := ss_bind hm
    refine ss_getr hC hK hR kf_Wi_30 rfl qr32 dd_Wi_lookAt_88 ?_
    refine lv_bipush (v := 6) hx hb dd_Wi_lookAt_91 (by decide) ?_
    refine ss_aload_n hx hb dd_Wi_lookAt_93 rfl (lv_at hl 0 rfl) ?_
    obtain ⟨r33, qr33, hm⟩ := ss_bind hm
    refine ss_getr hC hK hR kf_Wi_12 rfl qr33 dd_Wi_lookAt_94 ?_
    obtain ⟨v34, qv34, hm⟩ := ss_bind hm
    refine ss_geti hC hK hR kf_Wi_105 qv34 dd_Wi_lookAt_97 ?_
    refine lv_iload_n hx hb dd_Wi_lookAt_100 rfl (lv_at hl 2 rfl) ?_
    refine lv_ishr hx hb dd_Wi_lookAt_101 ?_
    refine lv_iconst (v := 1) hx hb dd_Wi_lookAt_102 (by decide) ?_
    refine lv_iand hx hb dd_Wi_lookAt_103 ?_
    refine lv_i2l hx hb dd_Wi_lookAt_104 rfl ?_
    obtain ⟨h35, qh35, hm⟩ := ss_bind hm
    refine ss_last hC hK hR hS qh35 dd_Wi_lookAt_105 (fun H locs hR hS => ?_)
    refine ss_aload_n hx hb dd_Wi_lookAt_106 rfl (lv_at hl 0 rfl) ?_
    obtain ⟨r36, qr36, hm⟩ := ss_bind hm
    refine ss_getr hC hK hR kf_Wi_30 rfl qr36 dd_Wi_lookAt_107 ?_
    refine lv_bipush (v := 7) hx hb dd_Wi_lookAt_110 (by decide) ?_
    refine lv_iload_n hx hb dd_Wi_lookAt_112 rfl (lv_at hl 3 rfl) ?_
    obtain ⟨v37, qv37, hm⟩ := ss_bind hm
    refine ss_cS 0 0 (As := [.int a3]) hC hK hR hS hl.1 (cc_JI_bitCount l G N _ _ _ qv37) km_Wi_124 ⟨Nat.le_of_ble_eq_true rfl, Nat.le_of_ble_eq_true rfl⟩ ⟨Nat.le_of_ble_eq_true rfl, Nat.le_of_ble_eq_true rfl, Nat.le_of_ble_eq_true rfl, Nat.le_of_ble_eq_true rfl⟩ rfl rfl (by simp [ss_v_cat, ss_cat_i, ss_cat_l, ss_cat_r]) dd_Wi_lookAt_113 (fun H locs hR hS => ?_)
    refine lv_i2l hx hb dd_Wi_lookAt_116 rfl ?_
    obtain ⟨h38, qh38, hm⟩ := ss_bind hm
    refine ss_last hC hK hR hS qh38 dd_Wi_lookAt_117 (fun H locs hR hS => ?_)
    refine ss_aload_n hx hb dd_Wi_lookAt_118 rfl (lv_at hl 0 rfl) ?_
    obtain ⟨r39, qr39, hm⟩ := ss_bind hm
    refine ss_getr hC hK hR kf_Wi_30 rfl qr39 dd_Wi_lookAt_119 ?_
    refine lv_bipush (v := 8) hx hb dd_Wi_lookAt_122 (by decide) ?_
    refine ss_aload_n hx hb dd_Wi_lookAt_124 rfl (lv_at hl 0 rfl) ?_
    obtain ⟨r40, qr40, hm⟩ := ss_bind hm
    refine ss_getr hC hK hR kf_Wi_37 rfl qr40 dd_Wi_lookAt_125 ?_
    refine lv_iload_n hx hb dd_Wi_lookAt_128 rfl (lv_at hl 2 rfl) ?_
    refine ss_aload_n hx hb dd_Wi_lookAt_129 rfl (lv_at hl 0 rfl) ?_
    obtain ⟨r41, qr41, hm⟩ := ss_bind hm
    refine ss_getr hC hK hR kf_Wi_12 rfl qr41 dd_Wi_lookAt_130 ?_
    obtain ⟨v42, qv42, hm⟩ := ss_bind hm
    refine ss_geti hC hK hR kf_Wi_108 qv42 dd_Wi_lookAt_133 ?_
    obtain ⟨v43, qv43, hm⟩ := ss_bind hm
    refine ss_cV 0 0 (As := [.int a2, .int v42]) hC hK hR hS hl.1 (cc_V_isNeeded l G N _ _ _ _ _ qv43) km_Wi_129 (ck_V_isNeeded qv43) ⟨Nat.le_of_ble_eq_true rfl, Nat.le_of_ble_eq_true rfl⟩ ⟨Nat.le_of_ble_eq_true rfl, Nat.le_of_ble_eq_true rfl, Nat.le_of_ble_eq_true rfl, Nat.le_of_ble_eq_true rfl⟩ rfl rfl (by simp [ss_v_cat, ss_cat_i, ss_cat_l, ss_cat_r]) dd_Wi_lookAt_136 (fun H locs hR hS => ?_)
    refine lv_if_eq (tgt := 146) hx hb dd_Wi_lookAt_139 (by decide) (fun c44 => ?_) (fun c44 => ?_)
    · have hm := ss_ift hm c44
      refine lv_lconst (v := 0) hx hb dd_Wi_lookAt_146 (by decide) ?_
      exact J_147 r39 (8 : Int32) (0 : Int64) h38 _ _ _ hm hR hS (lv_sub hl [0, 2, 3] rfl)
    · have hm := ss_iff hm c44
      refine lv_lconst (v := 1) hx hb dd_Wi_lookAt_142 (by decide) ?_
      refine lv_goto (tgt := 147) hx hb dd_Wi_lookAt_143 (by decide) ?_
      exact J_147 r39 (8 : Int32) (1 : Int64) h38 _ _ _ hm hR hS (lv_sub hl [0, 2, 3] rfl)
  refine ss_aload_n hx hb dd_Wi_lookAt_0 rfl (lv_at hl 0 rfl) ?_
  obtain ⟨r45, qr45, hm⟩ := ss_bind hm
  refine ss_getr hC hK hR kf_Wi_30 rfl qr45 dd_Wi_lookAt_1 ?_
  refine lv_iconst (v := 0) hx hb dd_Wi_lookAt_4 (by decide) ?_
  refine lv_iload_n hx hb dd_Wi_lookAt_5 rfl (lv_at hl 1 rfl) ?_
  refine lv_i2l hx hb dd_Wi_lookAt_6 rfl ?_
  obtain ⟨h46, qh46, hm⟩ := ss_bind hm
  refine ss_last hC hK hR hS qh46 dd_Wi_lookAt_7 (fun H locs hR hS => ?_)
  refine ss_aload_n hx hb dd_Wi_lookAt_8 rfl (lv_at hl 0 rfl) ?_
  obtain ⟨r47, qr47, hm⟩ := ss_bind hm
  refine ss_getr hC hK hR kf_Wi_30 rfl qr47 dd_Wi_lookAt_9 ?_
  refine lv_iconst (v := 1) hx hb dd_Wi_lookAt_12 (by decide) ?_
  refine lv_iload_n hx hb dd_Wi_lookAt_13 rfl (lv_at hl 2 rfl) ?_
  refine lv_i2l hx hb dd_Wi_lookAt_14 rfl ?_
  obtain ⟨h48, qh48, hm⟩ := ss_bind hm
  refine ss_last hC hK hR hS qh48 dd_Wi_lookAt_15 (fun H locs hR hS => ?_)
  refine ss_aload_n hx hb dd_Wi_lookAt_16 rfl (lv_at hl 0 rfl) ?_
  obtain ⟨r49, qr49, hm⟩ := ss_bind hm
  refine ss_getr hC hK hR kf_Wi_30 rfl qr49 dd_Wi_lookAt_17 ?_
  refine lv_iconst (v := 2) hx hb dd_Wi_lookAt_20 (by decide) ?_
  refine ss_aload_n hx hb dd_Wi_lookAt_21 rfl (lv_at hl 0 rfl) ?_
  obtain ⟨r50, qr50, hm⟩ := ss_bind hm
  refine ss_getr hC hK hR kf_Wi_37 rfl qr50 dd_Wi_lookAt_22 ?_
  obtain ⟨r51, qr51, hm⟩ := ss_bind hm
  refine ss_getr hC hK hR kf_Wi_113 rfl qr51 dd_Wi_lookAt_25 ?_
  refine lv_iload_n hx hb dd_Wi_lookAt_28 rfl (lv_at hl 1 rfl) ?_
  obtain ⟨v52, qv52, hm⟩ := ss_bind hm
  refine ss_iald hC hK hR qv52 dd_Wi_lookAt_29 ?_
  refine lv_iload_n hx hb dd_Wi_lookAt_30 rfl (lv_at hl 2 rfl) ?_
  refine lv_icmp_ne (tgt := 38) hx hb dd_Wi_lookAt_31 (by decide) (fun c53 => ?_) (fun c53 => ?_)
  · have hm := ss_iff hm c53
    refine lv_lconst (v := 0) hx hb dd_Wi_lookAt_38 (by decide) ?_
    exact J_39 r49 (2 : Int32) (0 : Int64) h48 _ _ _ hm hR hS hl
  · have hm := ss_ift hm c53
    refine lv_lconst (v := 1) hx hb dd_Wi_lookAt_34 (by decide) ?_
    refine lv_goto (tgt := 39) hx hb dd_Wi_lookAt_35 (by decide) ?_
    exact J_39 r49 (2 : Int32) (1 : Int64) h48 _ _ _ hm hR hS hl
theorem dd_Ru_join_0 : decode bb_Ru_join 0 = .ok (.iload_n 0, 1) := by decide +kernel
theorem dd_Ru_join_1 : decode bb_Ru_join 1 = .ok (.tableswitch 163 (-11) (-1) #[159, 147, 135, 123, 111, 99, 85, 71, 67, 63, 59], 59) := by decide +kernel
theorem dd_Ru_join_60 : decode bb_Ru_join 60 = .ok (.lload_n 1, 1) := by decide +kernel
theorem dd_Ru_join_61 : decode bb_Ru_join 61 = .ok (.lload_n 3, 1) := by decide +kernel
theorem dd_Ru_join_62 : decode bb_Ru_join 62 = .ok (.ladd, 1) := by decide +kernel
theorem dd_Ru_join_63 : decode bb_Ru_join 63 = .ok (.lreturn, 1) := by decide +kernel
theorem dd_Ru_join_64 : decode bb_Ru_join 64 = .ok (.lload_n 1, 1) := by decide +kernel
theorem dd_Ru_join_65 : decode bb_Ru_join 65 = .ok (.lload_n 3, 1) := by decide +kernel
theorem dd_Ru_join_66 : decode bb_Ru_join 66 = .ok (.lsub, 1) := by decide +kernel
theorem dd_Ru_join_67 : decode bb_Ru_join 67 = .ok (.lreturn, 1) := by decide +kernel
theorem dd_Ru_join_68 : decode bb_Ru_join 68 = .ok (.lload_n 1, 1) := by decide +kernel
theorem dd_Ru_join_69 : decode bb_Ru_join 69 = .ok (.lload_n 3, 1) := by decide +kernel
theorem dd_Ru_join_70 : decode bb_Ru_join 70 = .ok (.lmul, 1) := by decide +kernel
theorem dd_Ru_join_71 : decode bb_Ru_join 71 = .ok (.lreturn, 1) := by decide +kernel
theorem dd_Ru_join_72 : decode bb_Ru_join 72 = .ok (.lload_n 3, 1) := by decide +kernel
theorem dd_Ru_join_73 : decode bb_Ru_join 73 = .ok (.lconst 0, 1) := by decide +kernel
theorem dd_Ru_join_74 : decode bb_Ru_join 74 = .ok (.lcmp, 1) := by decide +kernel
theorem dd_Ru_join_75 : decode bb_Ru_join 75 = .ok (.ifCond .ne 7, 3) := by decide +kernel
theorem dd_Ru_join_78 : decode bb_Ru_join 78 = .ok (.lconst 0, 1) := by decide +kernel
theorem dd_Ru_join_79 : decode bb_Ru_join 79 = .ok (.goto 6, 3) := by decide +kernel
theorem dd_Ru_join_82 : decode bb_Ru_join 82 = .ok (.lload_n 1, 1) := by decide +kernel
theorem dd_Ru_join_83 : decode bb_Ru_join 83 = .ok (.lload_n 3, 1) := by decide +kernel
theorem dd_Ru_join_84 : decode bb_Ru_join 84 = .ok (.ldiv, 1) := by decide +kernel
theorem dd_Ru_join_85 : decode bb_Ru_join 85 = .ok (.lreturn, 1) := by decide +kernel
theorem dd_Ru_join_86 : decode bb_Ru_join 86 = .ok (.lload_n 3, 1) := by decide +kernel
theorem dd_Ru_join_87 : decode bb_Ru_join 87 = .ok (.lconst 0, 1) := by decide +kernel
theorem dd_Ru_join_88 : decode bb_Ru_join 88 = .ok (.lcmp, 1) := by decide +kernel
theorem dd_Ru_join_89 : decode bb_Ru_join 89 = .ok (.ifCond .ne 7, 3) := by decide +kernel
theorem dd_Ru_join_92 : decode bb_Ru_join 92 = .ok (.lconst 0, 1) := by decide +kernel
theorem dd_Ru_join_93 : decode bb_Ru_join 93 = .ok (.goto 6, 3) := by decide +kernel
theorem dd_Ru_join_96 : decode bb_Ru_join 96 = .ok (.lload_n 1, 1) := by decide +kernel
theorem dd_Ru_join_97 : decode bb_Ru_join 97 = .ok (.lload_n 3, 1) := by decide +kernel
theorem dd_Ru_join_98 : decode bb_Ru_join 98 = .ok (.lrem, 1) := by decide +kernel
theorem dd_Ru_join_99 : decode bb_Ru_join 99 = .ok (.lreturn, 1) := by decide +kernel
theorem dd_Ru_join_100 : decode bb_Ru_join 100 = .ok (.lload_n 1, 1) := by decide +kernel
theorem dd_Ru_join_101 : decode bb_Ru_join 101 = .ok (.lload_n 3, 1) := by decide +kernel
theorem dd_Ru_join_102 : decode bb_Ru_join 102 = .ok (.lcmp, 1) := by decide +kernel
theorem dd_Ru_join_103 : decode bb_Ru_join 103 = .ok (.ifCond .ge 7, 3) := by decide +kernel
theorem dd_Ru_join_106 : decode bb_Ru_join 106 = .ok (.lconst 1, 1) := by decide +kernel
theorem dd_Ru_join_107 : decode bb_Ru_join 107 = .ok (.goto 4, 3) := by decide +kernel
theorem dd_Ru_join_110 : decode bb_Ru_join 110 = .ok (.lconst 0, 1) := by decide +kernel
theorem dd_Ru_join_111 : decode bb_Ru_join 111 = .ok (.lreturn, 1) := by decide +kernel
theorem dd_Ru_join_112 : decode bb_Ru_join 112 = .ok (.lload_n 1, 1) := by decide +kernel
theorem dd_Ru_join_113 : decode bb_Ru_join 113 = .ok (.lload_n 3, 1) := by decide +kernel
theorem dd_Ru_join_114 : decode bb_Ru_join 114 = .ok (.lcmp, 1) := by decide +kernel
theorem dd_Ru_join_115 : decode bb_Ru_join 115 = .ok (.ifCond .gt 7, 3) := by decide +kernel
theorem dd_Ru_join_118 : decode bb_Ru_join 118 = .ok (.lconst 1, 1) := by decide +kernel
theorem dd_Ru_join_119 : decode bb_Ru_join 119 = .ok (.goto 4, 3) := by decide +kernel
theorem dd_Ru_join_122 : decode bb_Ru_join 122 = .ok (.lconst 0, 1) := by decide +kernel
theorem dd_Ru_join_123 : decode bb_Ru_join 123 = .ok (.lreturn, 1) := by decide +kernel
theorem dd_Ru_join_124 : decode bb_Ru_join 124 = .ok (.lload_n 1, 1) := by decide +kernel
theorem dd_Ru_join_125 : decode bb_Ru_join 125 = .ok (.lload_n 3, 1) := by decide +kernel
theorem dd_Ru_join_126 : decode bb_Ru_join 126 = .ok (.lcmp, 1) := by decide +kernel
theorem dd_Ru_join_127 : decode bb_Ru_join 127 = .ok (.ifCond .ne 7, 3) := by decide +kernel
theorem dd_Ru_join_130 : decode bb_Ru_join 130 = .ok (.lconst 1, 1) := by decide +kernel
theorem dd_Ru_join_131 : decode bb_Ru_join 131 = .ok (.goto 4, 3) := by decide +kernel
theorem dd_Ru_join_134 : decode bb_Ru_join 134 = .ok (.lconst 0, 1) := by decide +kernel
theorem dd_Ru_join_135 : decode bb_Ru_join 135 = .ok (.lreturn, 1) := by decide +kernel
theorem dd_Ru_join_136 : decode bb_Ru_join 136 = .ok (.lload_n 1, 1) := by decide +kernel
theorem dd_Ru_join_137 : decode bb_Ru_join 137 = .ok (.lload_n 3, 1) := by decide +kernel
theorem dd_Ru_join_138 : decode bb_Ru_join 138 = .ok (.lcmp, 1) := by decide +kernel
theorem dd_Ru_join_139 : decode bb_Ru_join 139 = .ok (.ifCond .lt 7, 3) := by decide +kernel
theorem dd_Ru_join_142 : decode bb_Ru_join 142 = .ok (.lconst 1, 1) := by decide +kernel
theorem dd_Ru_join_143 : decode bb_Ru_join 143 = .ok (.goto 4, 3) := by decide +kernel
theorem dd_Ru_join_146 : decode bb_Ru_join 146 = .ok (.lconst 0, 1) := by decide +kernel
theorem dd_Ru_join_147 : decode bb_Ru_join 147 = .ok (.lreturn, 1) := by decide +kernel
theorem dd_Ru_join_148 : decode bb_Ru_join 148 = .ok (.lload_n 1, 1) := by decide +kernel
theorem dd_Ru_join_149 : decode bb_Ru_join 149 = .ok (.lload_n 3, 1) := by decide +kernel
theorem dd_Ru_join_150 : decode bb_Ru_join 150 = .ok (.lcmp, 1) := by decide +kernel
theorem dd_Ru_join_151 : decode bb_Ru_join 151 = .ok (.ifCond .le 7, 3) := by decide +kernel
theorem dd_Ru_join_154 : decode bb_Ru_join 154 = .ok (.lconst 1, 1) := by decide +kernel
theorem dd_Ru_join_155 : decode bb_Ru_join 155 = .ok (.goto 4, 3) := by decide +kernel
theorem dd_Ru_join_158 : decode bb_Ru_join 158 = .ok (.lconst 0, 1) := by decide +kernel
theorem dd_Ru_join_159 : decode bb_Ru_join 159 = .ok (.lreturn, 1) := by decide +kernel
theorem dd_Ru_join_160 : decode bb_Ru_join 160 = .ok (.lload_n 1, 1) := by decide +kernel
theorem dd_Ru_join_161 : decode bb_Ru_join 161 = .ok (.lload_n 3, 1) := by decide +kernel
theorem dd_Ru_join_162 : decode bb_Ru_join 162 = .ok (.land, 1) := by decide +kernel
theorem dd_Ru_join_163 : decode bb_Ru_join 163 = .ok (.lreturn, 1) := by decide +kernel
theorem dd_Ru_join_164 : decode bb_Ru_join 164 = .ok (.lload_n 1, 1) := by decide +kernel
theorem dd_Ru_join_165 : decode bb_Ru_join 165 = .ok (.lload_n 3, 1) := by decide +kernel
theorem dd_Ru_join_166 : decode bb_Ru_join 166 = .ok (.lor, 1) := by decide +kernel
theorem dd_Ru_join_167 : decode bb_Ru_join 167 = .ok (.lreturn, 1) := by decide +kernel
def mm_Ru_join_j85 (N : Nat) (a1 : Int32) (a2 : Int64) (a3 : Int64) (s0_85 : Int64) : Option Int64 :=
  some s0_85
def mm_Ru_join_j99 (N : Nat) (a1 : Int32) (a2 : Int64) (a3 : Int64) (s0_99 : Int64) : Option Int64 :=
  some s0_99
def mm_Ru_join_j111 (N : Nat) (a1 : Int32) (a2 : Int64) (a3 : Int64) (s0_111 : Int64) : Option Int64 :=
  some s0_111
def mm_Ru_join_j123 (N : Nat) (a1 : Int32) (a2 : Int64) (a3 : Int64) (s0_123 : Int64) : Option Int64 :=
  some s0_123
def mm_Ru_join_j135 (N : Nat) (a1 : Int32) (a2 : Int64) (a3 : Int64) (s0_135 : Int64) : Option Int64 :=
  some s0_135
def mm_Ru_join_j147 (N : Nat) (a1 : Int32) (a2 : Int64) (a3 : Int64) (s0_147 : Int64) : Option Int64 :=
  some s0_147
def mm_Ru_join_j159 (N : Nat) (a1 : Int32) (a2 : Int64) (a3 : Int64) (s0_159 : Int64) : Option Int64 :=
  some s0_159
def mm_Ru_join (N : Nat) (a1 : Int32) (a2 : Int64) (a3 : Int64) : Option Int64 :=
  if a1 = (-11 : Int32) then
    some (a2 &&& a3)
  else
  if a1 = (-10 : Int32) then
    if (lg_cmp a2 a3) ≤ 0 then
      mm_Ru_join_j159 N a1 a2 a3 (0 : Int64)
    else
      mm_Ru_join_j159 N a1 a2 a3 (1 : Int64)
  else
  if a1 = (-9 : Int32) then
    if (lg_cmp a2 a3) < 0 then
      mm_Ru_join_j147 N a1 a2 a3 (0 : Int64)
    else
      mm_Ru_join_j147 N a1 a2 a3 (1 : Int64)
  else
  if a1 = (-8 : Int32) then
    if (lg_cmp a2 a3) = 0 then
      mm_Ru_join_j135 N a1 a2 a3 (1 : Int64)
    else
      mm_Ru_join_j135 N a1 a2 a3 (0 : Int64)
  else
  if a1 = (-7 : Int32) then
    if 0 < (lg_cmp a2 a3) then
      mm_Ru_join_j123 N a1 a2 a3 (0 : Int64)
    else
      mm_Ru_join_j123 N a1 a2 a3 (1 : Int64)
  else
  if a1 = (-6 : Int32) then
    if 0 ≤ (lg_cmp a2 a3) then
      mm_Ru_join_j111 N a1 a2 a3 (0 : Int64)
    else
      mm_Ru_join_j111 N a1 a2 a3 (1 : Int64)
  else
  if a1 = (-5 : Int32) then
    if (lg_cmp a3 (0 : Int64)) = 0 then
      mm_Ru_join_j99 N a1 a2 a3 (0 : Int64)
    else
      (ss_lrem a2 a3).bind fun v14 =>
      mm_Ru_join_j99 N a1 a2 a3 v14
  else
  if a1 = (-4 : Int32) then
    if (lg_cmp a3 (0 : Int64)) = 0 then
      mm_Ru_join_j85 N a1 a2 a3 (0 : Int64)
    else
      (ss_ldiv a2 a3).bind fun v17 =>
      mm_Ru_join_j85 N a1 a2 a3 v17
  else
  if a1 = (-3 : Int32) then
    some (a2 * a3)
  else
  if a1 = (-2 : Int32) then
    some (a2 - a3)
  else
  if a1 = (-1 : Int32) then
    some (a2 + a3)
  else
  some (a2 ||| a3)
abbrev ww_Ru_join (p : Program) (l : Launch) (e : Env) (s : State) (m : MethodId) (below : List Frame) (meth : Method) (c : Code) (G : ss_G) (a1 : Int32) (a2 : Int64) (a3 : Int64) (h : ss_Hp) (rr : Int64) (H : Heap) (locs : List Loc) (k n : Nat) (g : JFrame) : Prop := W p l e (headSpec (ss_w yy_Ru_join bb_Ru_join 5 (some .long)) ({ frames := 0, cells := 0, slots := 0, locals := 0 })).room s m ([.int a1, .long a2, .long a3] : List Value).toArray below meth c H locs k n (MQ below (ss_Qc G (some (.long rr)) h) ([.int a1, .long a2, .long a3] : List Value).toArray s 0 0 (ss_A G)) g
set_option maxHeartbeats 4000000 in
set_option maxRecDepth 100000 in
theorem cc_Ru_join (l : Launch) (G : ss_G) (N : Nat) (a1 : Int32) (a2 : Int64) (a3 : Int64) (h : ss_Hp) (rr : Int64) (hm : mm_Ru_join N a1 a2 a3 = some rr) : ss_Ct l G yy_Ru_join bb_Ru_join 5 (some .long) ({ frames := 0, cells := 0, slots := 0, locals := 0 }) [.int a1, .long a2, .long a3] h (some (.long rr)) h := by
  refine Met.ofW (cc := bb_Ru_join) (maxL := 5) (ret := (some .long)) (by decide) rfl ?_
  intro p e s m args below meth c s₁ B hml hv
  obtain ⟨rfl, hR, hK⟩ := hv
  have hC : CallFix p m c bb_Ru_join 5 s _ lw_g sR_1 := ⟨B.exec, B.bytes, hml, findClass_of_methodNamed B.named, fun w hw => atoms_spec (ws := ss_w yy_Ru_join bb_Ru_join 5 (some .long)) B.pre w (List.mem_cons_of_mem _ hw)⟩
  have hx := hC.1
  have hb := hC.2.1
  have hr := B.returns
  have hlocks := B.notSynchronized
  have hS : va_S (ss_A G) s.heap s.heap [] := va_S.rf
  have hl := lv_entry ([.int a1, .long a2, .long a3]) (n := 5) (Nat.le_of_ble_eq_true rfl)
  rw [lg_entry_eq]
  generalize (lg_sl ([.int a1, .long a2, .long a3]) ++ List.replicate (5 - (lg_sl ([.int a1, .long a2, .long a3])).length) Slot.unset).toArray = ls at hl ⊢
  have hl : lv_has ls 5 [(0, .int a1), (1, .long a2), (3, .long a3)] := hl
  have J_85 : ∀ (s0_85 : Int64) (H : Heap) (locs : List Loc) (ls : Array Slot), mm_Ru_join_j85 N a1 a2 a3 s0_85 = some rr → ss_R G h H → va_S (ss_A G) s.heap H locs → lv_has ls 5 [] → ww_Ru_join p l e s m below meth c G a1 a2 a3 h rr  H locs 0 0 (F0 m 85 ls [.long s0_85]) := by
    intro s0_85 H locs ls hm hR hS hl
    exact ss_lret hC hr hlocks hR hS (ss_withl _ hm) dd_Ru_join_85
  have J_99 : ∀ (s0_99 : Int64) (H : Heap) (locs : List Loc) (ls : Array Slot), mm_Ru_join_j99 N a1 a2 a3 s0_99 = some rr → ss_R G h H → va_S (ss_A G) s.heap H locs → lv_has ls 5 [] → ww_Ru_join p l e s m below meth c G a1 a2 a3 h rr  H locs 0 0 (F0 m 99 ls [.long s0_99]) := by
    intro s0_99 H locs ls hm hR hS hl
    exact ss_lret hC hr hlocks hR hS (ss_withl _ hm) dd_Ru_join_99
  have J_111 : ∀ (s0_111 : Int64) (H : Heap) (locs : List Loc) (ls : Array Slot), mm_Ru_join_j111 N a1 a2 a3 s0_111 = some rr → ss_R G h H → va_S (ss_A G) s.heap H locs → lv_has ls 5 [] → ww_Ru_join p l e s m below meth c G a1 a2 a3 h rr  H locs 0 0 (F0 m 111 ls [.long s0_111]) := by
    intro s0_111 H locs ls hm hR hS hl
    exact ss_lret hC hr hlocks hR hS (ss_withl _ hm) dd_Ru_join_111
  have J_123 : ∀ (s0_123 : Int64) (H : Heap) (locs : List Loc) (ls : Array Slot), mm_Ru_join_j123 N a1 a2 a3 s0_123 = some rr → ss_R G h H → va_S (ss_A G) s.heap H locs → lv_has ls 5 [] → ww_Ru_join p l e s m below meth c G a1 a2 a3 h rr  H locs 0 0 (F0 m 123 ls [.long s0_123]) := by
    intro s0_123 H locs ls hm hR hS hl
    exact ss_lret hC hr hlocks hR hS (ss_withl _ hm) dd_Ru_join_123
  have J_135 : ∀ (s0_135 : Int64) (H : Heap) (locs : List Loc) (ls : Array Slot), mm_Ru_join_j135 N a1 a2 a3 s0_135 = some rr → ss_R G h H → va_S (ss_A G) s.heap H locs → lv_has ls 5 [] → ww_Ru_join p l e s m below meth c G a1 a2 a3 h rr  H locs 0 0 (F0 m 135 ls [.long s0_135]) := by
    intro s0_135 H locs ls hm hR hS hl
    exact ss_lret hC hr hlocks hR hS (ss_withl _ hm) dd_Ru_join_135
  have J_147 : ∀ (s0_147 : Int64) (H : Heap) (locs : List Loc) (ls : Array Slot), mm_Ru_join_j147 N a1 a2 a3 s0_147 = some rr → ss_R G h H → va_S (ss_A G) s.heap H locs → lv_has ls 5 [] → ww_Ru_join p l e s m below meth c G a1 a2 a3 h rr  H locs 0 0 (F0 m 147 ls [.long s0_147]) := by
    intro s0_147 H locs ls hm hR hS hl
    exact ss_lret hC hr hlocks hR hS (ss_withl _ hm) dd_Ru_join_147
  have J_159 : ∀ (s0_159 : Int64) (H : Heap) (locs : List Loc) (ls : Array Slot), mm_Ru_join_j159 N a1 a2 a3 s0_159 = some rr → ss_R G h H → va_S (ss_A G) s.heap H locs → lv_has ls 5 [] → ww_Ru_join p l e s m below meth c G a1 a2 a3 h rr  H locs 0 0 (F0 m 159 ls [.long s0_159]) := by
    intro s0_159 H locs ls hm hR hS hl
    exact ss_lret hC hr hlocks hR hS (ss_withl _ hm) dd_Ru_join_159
  refine lv_iload_n hx hb dd_Ru_join_0 rfl (lv_at hl 0 rfl) ?_
  by_cases c1 : a1 = (-11 : Int32)
  · have hm := ss_ift hm c1
    refine lv_tableIn (tgt := 160) hx hb dd_Ru_join_1 (by rw [c1]; decide) (by rw [c1]; decide) (by rw [c1]; rfl) (by decide) ?_
    refine lv_lload_n hx hb dd_Ru_join_160 rfl (lv_at hl 1 rfl) ?_
    refine lv_lload_n hx hb dd_Ru_join_161 rfl (lv_at hl 2 rfl) ?_
    refine lv_land hx hb dd_Ru_join_162 ?_
    exact ss_lret hC hr hlocks hR hS (ss_withl _ hm) dd_Ru_join_163
  have hm := ss_iff hm c1
  by_cases c2 : a1 = (-10 : Int32)
  · have hm := ss_ift hm c2
    refine lv_tableIn (tgt := 148) hx hb dd_Ru_join_1 (by rw [c2]; decide) (by rw [c2]; decide) (by rw [c2]; rfl) (by decide) ?_
    refine lv_lload_n hx hb dd_Ru_join_148 rfl (lv_at hl 1 rfl) ?_
    refine lv_lload_n hx hb dd_Ru_join_149 rfl (lv_at hl 2 rfl) ?_
    refine W.lcmp hx hb dd_Ru_join_150 ?_
    refine lv_if_le (tgt := 158) hx hb dd_Ru_join_151 (by decide) (fun c3 => ?_) (fun c3 => ?_)
    · have hm := ss_ift hm c3
      refine lv_lconst (v := 0) hx hb dd_Ru_join_158 (by decide) ?_
      exact J_159 (0 : Int64)  _ _ _ hm hR hS (lv_sub hl [] rfl)
    · have hm := ss_iff hm c3
      refine lv_lconst (v := 1) hx hb dd_Ru_join_154 (by decide) ?_
      refine lv_goto (tgt := 159) hx hb dd_Ru_join_155 (by decide) ?_
      exact J_159 (1 : Int64)  _ _ _ hm hR hS (lv_sub hl [] rfl)
  have hm := ss_iff hm c2
  by_cases c4 : a1 = (-9 : Int32)
  · have hm := ss_ift hm c4
    refine lv_tableIn (tgt := 136) hx hb dd_Ru_join_1 (by rw [c4]; decide) (by rw [c4]; decide) (by rw [c4]; rfl) (by decide) ?_
    refine lv_lload_n hx hb dd_Ru_join_136 rfl (lv_at hl 1 rfl) ?_
    refine lv_lload_n hx hb dd_Ru_join_137 rfl (lv_at hl 2 rfl) ?_
    refine W.lcmp hx hb dd_Ru_join_138 ?_
    refine lv_if_lt (tgt := 146) hx hb dd_Ru_join_139 (by decide) (fun c5 => ?_) (fun c5 => ?_)
    · have hm := ss_ift hm c5
      refine lv_lconst (v := 0) hx hb dd_Ru_join_146 (by decide) ?_
      exact J_147 (0 : Int64)  _ _ _ hm hR hS (lv_sub hl [] rfl)
    · have hm := ss_iff hm c5
      refine lv_lconst (v := 1) hx hb dd_Ru_join_142 (by decide) ?_
      refine lv_goto (tgt := 147) hx hb dd_Ru_join_143 (by decide) ?_
      exact J_147 (1 : Int64)  _ _ _ hm hR hS (lv_sub hl [] rfl)
  have hm := ss_iff hm c4
  by_cases c6 : a1 = (-8 : Int32)
  · have hm := ss_ift hm c6
    refine lv_tableIn (tgt := 124) hx hb dd_Ru_join_1 (by rw [c6]; decide) (by rw [c6]; decide) (by rw [c6]; rfl) (by decide) ?_
    refine lv_lload_n hx hb dd_Ru_join_124 rfl (lv_at hl 1 rfl) ?_
    refine lv_lload_n hx hb dd_Ru_join_125 rfl (lv_at hl 2 rfl) ?_
    refine W.lcmp hx hb dd_Ru_join_126 ?_
    refine lv_if_ne (tgt := 134) hx hb dd_Ru_join_127 (by decide) (fun c7 => ?_) (fun c7 => ?_)
    · have hm := ss_iff hm c7
      refine lv_lconst (v := 0) hx hb dd_Ru_join_134 (by decide) ?_
      exact J_135 (0 : Int64)  _ _ _ hm hR hS (lv_sub hl [] rfl)
    · have hm := ss_ift hm c7
      refine lv_lconst (v := 1) hx hb dd_Ru_join_130 (by decide) ?_
      refine lv_goto (tgt := 135) hx hb dd_Ru_join_131 (by decide) ?_
      exact J_135 (1 : Int64)  _ _ _ hm hR hS (lv_sub hl [] rfl)
  have hm := ss_iff hm c6
  by_cases c8 : a1 = (-7 : Int32)
  · have hm := ss_ift hm c8
    refine lv_tableIn (tgt := 112) hx hb dd_Ru_join_1 (by rw [c8]; decide) (by rw [c8]; decide) (by rw [c8]; rfl) (by decide) ?_
    refine lv_lload_n hx hb dd_Ru_join_112 rfl (lv_at hl 1 rfl) ?_
    refine lv_lload_n hx hb dd_Ru_join_113 rfl (lv_at hl 2 rfl) ?_
    refine W.lcmp hx hb dd_Ru_join_114 ?_
    refine lv_if_gt (tgt := 122) hx hb dd_Ru_join_115 (by decide) (fun c9 => ?_) (fun c9 => ?_)
    · have hm := ss_ift hm c9
      refine lv_lconst (v := 0) hx hb dd_Ru_join_122 (by decide) ?_
      exact J_123 (0 : Int64)  _ _ _ hm hR hS (lv_sub hl [] rfl)
    · have hm := ss_iff hm c9
      refine lv_lconst (v := 1) hx hb dd_Ru_join_118 (by decide) ?_
      refine lv_goto (tgt := 123) hx hb dd_Ru_join_119 (by decide) ?_
      exact J_123 (1 : Int64)  _ _ _ hm hR hS (lv_sub hl [] rfl)
  have hm := ss_iff hm c8
  by_cases c10 : a1 = (-6 : Int32)
  · have hm := ss_ift hm c10
    refine lv_tableIn (tgt := 100) hx hb dd_Ru_join_1 (by rw [c10]; decide) (by rw [c10]; decide) (by rw [c10]; rfl) (by decide) ?_
    refine lv_lload_n hx hb dd_Ru_join_100 rfl (lv_at hl 1 rfl) ?_
    refine lv_lload_n hx hb dd_Ru_join_101 rfl (lv_at hl 2 rfl) ?_
    refine W.lcmp hx hb dd_Ru_join_102 ?_
    refine lv_if_ge (tgt := 110) hx hb dd_Ru_join_103 (by decide) (fun c11 => ?_) (fun c11 => ?_)
    · have hm := ss_ift hm c11
      refine lv_lconst (v := 0) hx hb dd_Ru_join_110 (by decide) ?_
      exact J_111 (0 : Int64)  _ _ _ hm hR hS (lv_sub hl [] rfl)
    · have hm := ss_iff hm c11
      refine lv_lconst (v := 1) hx hb dd_Ru_join_106 (by decide) ?_
      refine lv_goto (tgt := 111) hx hb dd_Ru_join_107 (by decide) ?_
      exact J_111 (1 : Int64)  _ _ _ hm hR hS (lv_sub hl [] rfl)
  have hm := ss_iff hm c10
  by_cases c12 : a1 = (-5 : Int32)
  · have hm := ss_ift hm c12
    refine lv_tableIn (tgt := 86) hx hb dd_Ru_join_1 (by rw [c12]; decide) (by rw [c12]; decide) (by rw [c12]; rfl) (by decide) ?_
    refine lv_lload_n hx hb dd_Ru_join_86 rfl (lv_at hl 2 rfl) ?_
    refine lv_lconst (v := 0) hx hb dd_Ru_join_87 (by decide) ?_
    refine W.lcmp hx hb dd_Ru_join_88 ?_
    refine lv_if_ne (tgt := 96) hx hb dd_Ru_join_89 (by decide) (fun c13 => ?_) (fun c13 => ?_)
    · have hm := ss_iff hm c13
      refine lv_lload_n hx hb dd_Ru_join_96 rfl (lv_at hl 1 rfl) ?_
      refine lv_lload_n hx hb dd_Ru_join_97 rfl (lv_at hl 2 rfl) ?_
      obtain ⟨v14, qv14, hm⟩ := ss_bind hm
      refine ss_lrm hx hb qv14 dd_Ru_join_98 ?_
      exact J_99 v14  _ _ _ hm hR hS (lv_sub hl [] rfl)
    · have hm := ss_ift hm c13
      refine lv_lconst (v := 0) hx hb dd_Ru_join_92 (by decide) ?_
      refine lv_goto (tgt := 99) hx hb dd_Ru_join_93 (by decide) ?_
      exact J_99 (0 : Int64)  _ _ _ hm hR hS (lv_sub hl [] rfl)
  have hm := ss_iff hm c12
  by_cases c15 : a1 = (-4 : Int32)
  · have hm := ss_ift hm c15
    refine lv_tableIn (tgt := 72) hx hb dd_Ru_join_1 (by rw [c15]; decide) (by rw [c15]; decide) (by rw [c15]; rfl) (by decide) ?_
    refine lv_lload_n hx hb dd_Ru_join_72 rfl (lv_at hl 2 rfl) ?_
    refine lv_lconst (v := 0) hx hb dd_Ru_join_73 (by decide) ?_
    refine W.lcmp hx hb dd_Ru_join_74 ?_
    refine lv_if_ne (tgt := 82) hx hb dd_Ru_join_75 (by decide) (fun c16 => ?_) (fun c16 => ?_)
    · have hm := ss_iff hm c16
      refine lv_lload_n hx hb dd_Ru_join_82 rfl (lv_at hl 1 rfl) ?_
      refine lv_lload_n hx hb dd_Ru_join_83 rfl (lv_at hl 2 rfl) ?_
      obtain ⟨v17, qv17, hm⟩ := ss_bind hm
      refine ss_ldv hx hb qv17 dd_Ru_join_84 ?_
      exact J_85 v17  _ _ _ hm hR hS (lv_sub hl [] rfl)
    · have hm := ss_ift hm c16
      refine lv_lconst (v := 0) hx hb dd_Ru_join_78 (by decide) ?_
      refine lv_goto (tgt := 85) hx hb dd_Ru_join_79 (by decide) ?_
      exact J_85 (0 : Int64)  _ _ _ hm hR hS (lv_sub hl [] rfl)
  have hm := ss_iff hm c15
  by_cases c18 : a1 = (-3 : Int32)
  · have hm := ss_ift hm c18
    refine lv_tableIn (tgt := 68) hx hb dd_Ru_join_1 (by rw [c18]; decide) (by rw [c18]; decide) (by rw [c18]; rfl) (by decide) ?_
    refine lv_lload_n hx hb dd_Ru_join_68 rfl (lv_at hl 1 rfl) ?_
    refine lv_lload_n hx hb dd_Ru_join_69 rfl (lv_at hl 2 rfl) ?_
    refine lv_lmul hx hb dd_Ru_join_70 ?_
    exact ss_lret hC hr hlocks hR hS (ss_withl _ hm) dd_Ru_join_71
  have hm := ss_iff hm c18
  by_cases c19 : a1 = (-2 : Int32)
  · have hm := ss_ift hm c19
    refine lv_tableIn (tgt := 64) hx hb dd_Ru_join_1 (by rw [c19]; decide) (by rw [c19]; decide) (by rw [c19]; rfl) (by decide) ?_
    refine lv_lload_n hx hb dd_Ru_join_64 rfl (lv_at hl 1 rfl) ?_
    refine lv_lload_n hx hb dd_Ru_join_65 rfl (lv_at hl 2 rfl) ?_
    refine lv_lsub hx hb dd_Ru_join_66 ?_
    exact ss_lret hC hr hlocks hR hS (ss_withl _ hm) dd_Ru_join_67
  have hm := ss_iff hm c19
  by_cases c20 : a1 = (-1 : Int32)
  · have hm := ss_ift hm c20
    refine lv_tableIn (tgt := 60) hx hb dd_Ru_join_1 (by rw [c20]; decide) (by rw [c20]; decide) (by rw [c20]; rfl) (by decide) ?_
    refine lv_lload_n hx hb dd_Ru_join_60 rfl (lv_at hl 1 rfl) ?_
    refine lv_lload_n hx hb dd_Ru_join_61 rfl (lv_at hl 2 rfl) ?_
    refine lv_ladd hx hb dd_Ru_join_62 ?_
    exact ss_lret hC hr hlocks hR hS (ss_withl _ hm) dd_Ru_join_63
  have hm := ss_iff hm c20
  have nc1 := lv_neT (a := (-11)) c1 (by decide)
  have nc2 := lv_neT (a := (-10)) c2 (by decide)
  have nc4 := lv_neT (a := (-9)) c4 (by decide)
  have nc6 := lv_neT (a := (-8)) c6 (by decide)
  have nc8 := lv_neT (a := (-7)) c8 (by decide)
  have nc10 := lv_neT (a := (-6)) c10 (by decide)
  have nc12 := lv_neT (a := (-5)) c12 (by decide)
  have nc15 := lv_neT (a := (-4)) c15 (by decide)
  have nc18 := lv_neT (a := (-3)) c18 (by decide)
  have nc19 := lv_neT (a := (-2)) c19 (by decide)
  have nc20 := lv_neT (a := (-1)) c20 (by decide)
  refine lv_tableOut (tgt := 164) hx hb dd_Ru_join_1 (by omega) (by decide) ?_
  refine lv_lload_n hx hb dd_Ru_join_164 rfl (lv_at hl 1 rfl) ?_
  refine lv_lload_n hx hb dd_Ru_join_165 rfl (lv_at hl 2 rfl) ?_
  refine lv_lor hx hb dd_Ru_join_166 ?_
  exact ss_lret hC hr hlocks hR hS (ss_withl _ hm) dd_Ru_join_167
theorem dd_Ru_run_0 : decode bb_Ru_run 0 = .ok (.iconst 0, 1) := by decide +kernel
theorem dd_Ru_run_1 : decode bb_Ru_run 1 = .ok (.istore 5, 2) := by decide +kernel
theorem dd_Ru_run_3 : decode bb_Ru_run 3 = .ok (.iload_n 1, 1) := by decide +kernel
theorem dd_Ru_run_4 : decode bb_Ru_run 4 = .ok (.istore 6, 2) := by decide +kernel
theorem dd_Ru_run_6 : decode bb_Ru_run 6 = .ok (.iload 6, 2) := by decide +kernel
theorem dd_Ru_run_8 : decode bb_Ru_run 8 = .ok (.iload_n 2, 1) := by decide +kernel
theorem dd_Ru_run_9 : decode bb_Ru_run 9 = .ok (.if_icmp .ge 142, 3) := by decide +kernel
theorem dd_Ru_run_12 : decode bb_Ru_run 12 = .ok (.aload_n 0, 1) := by decide +kernel
theorem dd_Ru_run_13 : decode bb_Ru_run 13 = .ok (.getfield 7, 3) := by decide +kernel
theorem dd_Ru_run_16 : decode bb_Ru_run 16 = .ok (.iload 6, 2) := by decide +kernel
theorem dd_Ru_run_18 : decode bb_Ru_run 18 = .ok (.iaload, 1) := by decide +kernel
theorem dd_Ru_run_19 : decode bb_Ru_run 19 = .ok (.istore 7, 2) := by decide +kernel
theorem dd_Ru_run_21 : decode bb_Ru_run 21 = .ok (.iload 7, 2) := by decide +kernel
theorem dd_Ru_run_23 : decode bb_Ru_run 23 = .ok (.ifCond .ge 10, 3) := by decide +kernel
theorem dd_Ru_run_26 : decode bb_Ru_run 26 = .ok (.iload 7, 2) := by decide +kernel
theorem dd_Ru_run_28 : decode bb_Ru_run 28 = .ok (.bipush (-14), 2) := by decide +kernel
theorem dd_Ru_run_30 : decode bb_Ru_run 30 = .ok (.if_icmp .gt 51, 3) := by decide +kernel
theorem dd_Ru_run_33 : decode bb_Ru_run 33 = .ok (.bipush (-14), 2) := by decide +kernel
theorem dd_Ru_run_35 : decode bb_Ru_run 35 = .ok (.iload 7, 2) := by decide +kernel
theorem dd_Ru_run_37 : decode bb_Ru_run 37 = .ok (.isub, 1) := by decide +kernel
theorem dd_Ru_run_38 : decode bb_Ru_run 38 = .ok (.istore 8, 2) := by decide +kernel
theorem dd_Ru_run_40 : decode bb_Ru_run 40 = .ok (.iload 5, 2) := by decide +kernel
theorem dd_Ru_run_42 : decode bb_Ru_run 42 = .ok (.aload 4, 2) := by decide +kernel
theorem dd_Ru_run_44 : decode bb_Ru_run 44 = .ok (.arraylength, 1) := by decide +kernel
theorem dd_Ru_run_45 : decode bb_Ru_run 45 = .ok (.if_icmp .ge 33, 3) := by decide +kernel
theorem dd_Ru_run_48 : decode bb_Ru_run 48 = .ok (.iload 8, 2) := by decide +kernel
theorem dd_Ru_run_50 : decode bb_Ru_run 50 = .ok (.aload_n 3, 1) := by decide +kernel
theorem dd_Ru_run_51 : decode bb_Ru_run 51 = .ok (.arraylength, 1) := by decide +kernel
theorem dd_Ru_run_52 : decode bb_Ru_run 52 = .ok (.if_icmp .ge 26, 3) := by decide +kernel
theorem dd_Ru_run_55 : decode bb_Ru_run 55 = .ok (.aload 4, 2) := by decide +kernel
theorem dd_Ru_run_57 : decode bb_Ru_run 57 = .ok (.iload 5, 2) := by decide +kernel
theorem dd_Ru_run_59 : decode bb_Ru_run 59 = .ok (.iload 7, 2) := by decide +kernel
theorem dd_Ru_run_61 : decode bb_Ru_run 61 = .ok (.ifCond .lt 9, 3) := by decide +kernel
theorem dd_Ru_run_64 : decode bb_Ru_run 64 = .ok (.iload 7, 2) := by decide +kernel
theorem dd_Ru_run_66 : decode bb_Ru_run 66 = .ok (.i2l, 1) := by decide +kernel
theorem dd_Ru_run_67 : decode bb_Ru_run 67 = .ok (.goto 7, 3) := by decide +kernel
theorem dd_Ru_run_70 : decode bb_Ru_run 70 = .ok (.aload_n 3, 1) := by decide +kernel
theorem dd_Ru_run_71 : decode bb_Ru_run 71 = .ok (.iload 8, 2) := by decide +kernel
theorem dd_Ru_run_73 : decode bb_Ru_run 73 = .ok (.laload, 1) := by decide +kernel
theorem dd_Ru_run_74 : decode bb_Ru_run 74 = .ok (.lastore, 1) := by decide +kernel
theorem dd_Ru_run_75 : decode bb_Ru_run 75 = .ok (.iinc 5 1, 3) := by decide +kernel
theorem dd_Ru_run_78 : decode bb_Ru_run 78 = .ok (.goto 67, 3) := by decide +kernel
theorem dd_Ru_run_81 : decode bb_Ru_run 81 = .ok (.iload 7, 2) := by decide +kernel
theorem dd_Ru_run_83 : decode bb_Ru_run 83 = .ok (.bipush (-13), 2) := by decide +kernel
theorem dd_Ru_run_85 : decode bb_Ru_run 85 = .ok (.if_icmp .ne 27, 3) := by decide +kernel
theorem dd_Ru_run_88 : decode bb_Ru_run 88 = .ok (.iload 5, 2) := by decide +kernel
theorem dd_Ru_run_90 : decode bb_Ru_run 90 = .ok (.ifCond .le 55, 3) := by decide +kernel
theorem dd_Ru_run_93 : decode bb_Ru_run 93 = .ok (.aload 4, 2) := by decide +kernel
theorem dd_Ru_run_95 : decode bb_Ru_run 95 = .ok (.iload 5, 2) := by decide +kernel
theorem dd_Ru_run_97 : decode bb_Ru_run 97 = .ok (.iconst 1, 1) := by decide +kernel
theorem dd_Ru_run_98 : decode bb_Ru_run 98 = .ok (.isub, 1) := by decide +kernel
theorem dd_Ru_run_99 : decode bb_Ru_run 99 = .ok (.lconst 1, 1) := by decide +kernel
theorem dd_Ru_run_100 : decode bb_Ru_run 100 = .ok (.aload 4, 2) := by decide +kernel
theorem dd_Ru_run_102 : decode bb_Ru_run 102 = .ok (.iload 5, 2) := by decide +kernel
theorem dd_Ru_run_104 : decode bb_Ru_run 104 = .ok (.iconst 1, 1) := by decide +kernel
theorem dd_Ru_run_105 : decode bb_Ru_run 105 = .ok (.isub, 1) := by decide +kernel
theorem dd_Ru_run_106 : decode bb_Ru_run 106 = .ok (.laload, 1) := by decide +kernel
theorem dd_Ru_run_107 : decode bb_Ru_run 107 = .ok (.lsub, 1) := by decide +kernel
theorem dd_Ru_run_108 : decode bb_Ru_run 108 = .ok (.lastore, 1) := by decide +kernel
theorem dd_Ru_run_109 : decode bb_Ru_run 109 = .ok (.goto 36, 3) := by decide +kernel
theorem dd_Ru_run_112 : decode bb_Ru_run 112 = .ok (.iload 5, 2) := by decide +kernel
theorem dd_Ru_run_114 : decode bb_Ru_run 114 = .ok (.iconst 1, 1) := by decide +kernel
theorem dd_Ru_run_115 : decode bb_Ru_run 115 = .ok (.if_icmp .le 30, 3) := by decide +kernel
theorem dd_Ru_run_118 : decode bb_Ru_run 118 = .ok (.iinc 5 (-1), 3) := by decide +kernel
theorem dd_Ru_run_121 : decode bb_Ru_run 121 = .ok (.aload 4, 2) := by decide +kernel
theorem dd_Ru_run_123 : decode bb_Ru_run 123 = .ok (.iload 5, 2) := by decide +kernel
theorem dd_Ru_run_125 : decode bb_Ru_run 125 = .ok (.iconst 1, 1) := by decide +kernel
theorem dd_Ru_run_126 : decode bb_Ru_run 126 = .ok (.isub, 1) := by decide +kernel
theorem dd_Ru_run_127 : decode bb_Ru_run 127 = .ok (.iload 7, 2) := by decide +kernel
theorem dd_Ru_run_129 : decode bb_Ru_run 129 = .ok (.aload 4, 2) := by decide +kernel
theorem dd_Ru_run_131 : decode bb_Ru_run 131 = .ok (.iload 5, 2) := by decide +kernel
theorem dd_Ru_run_133 : decode bb_Ru_run 133 = .ok (.iconst 1, 1) := by decide +kernel
theorem dd_Ru_run_134 : decode bb_Ru_run 134 = .ok (.isub, 1) := by decide +kernel
theorem dd_Ru_run_135 : decode bb_Ru_run 135 = .ok (.laload, 1) := by decide +kernel
theorem dd_Ru_run_136 : decode bb_Ru_run 136 = .ok (.aload 4, 2) := by decide +kernel
theorem dd_Ru_run_138 : decode bb_Ru_run 138 = .ok (.iload 5, 2) := by decide +kernel
theorem dd_Ru_run_140 : decode bb_Ru_run 140 = .ok (.laload, 1) := by decide +kernel
theorem dd_Ru_run_141 : decode bb_Ru_run 141 = .ok (.invokestatic 30, 3) := by decide +kernel
theorem dd_Ru_run_144 : decode bb_Ru_run 144 = .ok (.lastore, 1) := by decide +kernel
theorem dd_Ru_run_145 : decode bb_Ru_run 145 = .ok (.iinc 6 1, 3) := by decide +kernel
theorem dd_Ru_run_148 : decode bb_Ru_run 148 = .ok (.goto (-142), 3) := by decide +kernel
theorem dd_Ru_run_151 : decode bb_Ru_run 151 = .ok (.iload 5, 2) := by decide +kernel
theorem dd_Ru_run_153 : decode bb_Ru_run 153 = .ok (.ifCond .le 10, 3) := by decide +kernel
theorem dd_Ru_run_156 : decode bb_Ru_run 156 = .ok (.aload 4, 2) := by decide +kernel
theorem dd_Ru_run_158 : decode bb_Ru_run 158 = .ok (.iconst 0, 1) := by decide +kernel
theorem dd_Ru_run_159 : decode bb_Ru_run 159 = .ok (.laload, 1) := by decide +kernel
theorem dd_Ru_run_160 : decode bb_Ru_run 160 = .ok (.goto 4, 3) := by decide +kernel
theorem dd_Ru_run_163 : decode bb_Ru_run 163 = .ok (.lconst 0, 1) := by decide +kernel
theorem dd_Ru_run_164 : decode bb_Ru_run 164 = .ok (.lreturn, 1) := by decide +kernel
def mm_Ru_run_j164 (N : Nat) (this : Option Nat) (a1 : Int32) (a2 : Int32) (a3 : Option Nat) (a4 : Option Nat) (s0_164 : Int64) (h_164 : ss_Hp) : Option (Int64 × ss_Hp) :=
  some (s0_164, h_164)
def mm_Ru_run_j145 (N : Nat) (this : Option Nat) (a2 : Int32) (a3 : Option Nat) (a4 : Option Nat) (x5_145 : Int32) (x6_145 : Int32) (h_145 : ss_Hp) : Option ((Int32 × Int32 × ss_Hp) ⊕ (Int32 × ss_Hp)) :=
  (some (x6_145 + (1 : Int32))).bind fun v3 =>
  some (.inl (x5_145, v3, h_145))
def mm_Ru_run_j78 (N : Nat) (this : Option Nat) (a2 : Int32) (a3 : Option Nat) (a4 : Option Nat) (x5_78 : Int32) (x6_78 : Int32) (h_78 : ss_Hp) : Option ((Int32 × Int32 × ss_Hp) ⊕ (Int32 × ss_Hp)) :=
  mm_Ru_run_j145 N this a2 a3 a4 x5_78 x6_78 h_78
def mm_Ru_run_j74 (N : Nat) (this : Option Nat) (a2 : Int32) (a3 : Option Nat) (a4 : Option Nat) (x5_74 : Int32) (x6_74 : Int32) (s0_74 : Option Nat) (s1_74 : Int32) (s2_74 : Int64) (h_74 : ss_Hp) : Option ((Int32 × Int32 × ss_Hp) ⊕ (Int32 × ss_Hp)) :=
  (ss_ul h_74 s0_74 23 s1_74 s2_74).bind fun h4 =>
  (some (x5_74 + (1 : Int32))).bind fun v5 =>
  mm_Ru_run_j78 N this a2 a3 a4 v5 x6_74 h4
def mm_Ru_run_j33 (N : Nat) (this : Option Nat) (a2 : Int32) (a3 : Option Nat) (a4 : Option Nat) (x5_33 : Int32) (x6_33 : Int32) (x7_33 : Int32) (h_33 : ss_Hp) : Option ((Int32 × Int32 × ss_Hp) ⊕ (Int32 × ss_Hp)) :=
  (some ((-14 : Int32) - x7_33)).bind fun v6 =>
  (ss_len h_33 a4 23).bind fun v7 =>
  if v7 ≤ x5_33 then
    mm_Ru_run_j78 N this a2 a3 a4 x5_33 x6_33 h_33
  else
    (ss_len h_33 a3 23).bind fun v9 =>
    if v9 ≤ v6 then
      mm_Ru_run_j78 N this a2 a3 a4 x5_33 x6_33 h_33
    else
      if x7_33 < 0 then
        (ss_al h_33 a3 23 v6).bind fun v12 =>
        mm_Ru_run_j74 N this a2 a3 a4 x5_33 x6_33 a4 x5_33 v12 h_33
      else
        mm_Ru_run_j74 N this a2 a3 a4 x5_33 x6_33 a4 x5_33 ((x7_33).toInt64) h_33
def mm_Ru_run_b6 (N : Nat) (this : Option Nat) (a2 : Int32) (a3 : Option Nat) (a4 : Option Nat) (st : Int32 × Int32 × ss_Hp) : Option ((Int32 × Int32 × ss_Hp) ⊕ (Int32 × ss_Hp)) :=
  match st with
  | (x5_6, x6_6, h_6) =>
    if a2 ≤ x6_6 then
      some (.inr (x5_6, h_6))
    else
      (ss_gr h_6 this 1 0).bind fun r14 =>
      (ss_ai h_6 r14 20 x6_6).bind fun v15 =>
      if 0 ≤ v15 then
        mm_Ru_run_j33 N this a2 a3 a4 x5_6 x6_6 v15 h_6
      else
        if (-14 : Int32) < v15 then
          if v15 = (-13 : Int32) then
            if x5_6 ≤ 0 then
              mm_Ru_run_j145 N this a2 a3 a4 x5_6 x6_6 h_6
            else
              (ss_al h_6 a4 23 (x5_6 - (1 : Int32))).bind fun v26 =>
              (ss_ul h_6 a4 23 (x5_6 - (1 : Int32)) ((1 : Int64) - v26)).bind fun h27 =>
              mm_Ru_run_j145 N this a2 a3 a4 x5_6 x6_6 h27
          else
            if x5_6 ≤ (1 : Int32) then
              mm_Ru_run_j145 N this a2 a3 a4 x5_6 x6_6 h_6
            else
              (some (x5_6 + (-1 : Int32))).bind fun v20 =>
              (ss_al h_6 a4 23 (v20 - (1 : Int32))).bind fun v21 =>
              (ss_al h_6 a4 23 v20).bind fun v22 =>
              (mm_Ru_join N v15 v21 v22).bind fun v23 =>
              (ss_ul h_6 a4 23 (v20 - (1 : Int32)) v23).bind fun h24 =>
              mm_Ru_run_j145 N this a2 a3 a4 v20 x6_6 h24
        else
          mm_Ru_run_j33 N this a2 a3 a4 x5_6 x6_6 v15 h_6
def mm_Ru_run (N : Nat) (this : Option Nat) (a1 : Int32) (a2 : Int32) (a3 : Option Nat) (a4 : Option Nat) (h : ss_Hp) : Option (Int64 × ss_Hp) :=
  if ss_is h this 1 = true then
    (ss_lp (mm_Ru_run_b6 N this a2 a3 a4) N ((0 : Int32), a1, h)).bind fun e_6 =>
    match e_6 with
    | (y5_6_151, h_6_151) =>
      if y5_6_151 ≤ 0 then
        mm_Ru_run_j164 N this a1 a2 a3 a4 (0 : Int64) h_6_151
      else
        (ss_al h_6_151 a4 23 (0 : Int32)).bind fun v2 =>
        mm_Ru_run_j164 N this a1 a2 a3 a4 v2 h_6_151
  else none
abbrev ww_Ru_run (p : Program) (l : Launch) (e : Env) (s : State) (m : MethodId) (below : List Frame) (meth : Method) (c : Code) (G : ss_G) (this : Option Nat) (a1 : Int32) (a2 : Int32) (a3 : Option Nat) (a4 : Option Nat) (h : ss_Hp) (rr : Int64) (hh : ss_Hp) (H : Heap) (locs : List Loc) (k n : Nat) (g : JFrame) : Prop := W p l e (headSpec (ss_w yy_Ru_run bb_Ru_run 9 (some .long)) ({ frames := 1, cells := 0, slots := 0, locals := 24 })).room s m ([ss_v (ss_b G) this, .int a1, .int a2, ss_v (ss_b G) a3, ss_v (ss_b G) a4] : List Value).toArray below meth c H locs k n (MQ below (ss_Qc G (some (.long rr)) hh) ([ss_v (ss_b G) this, .int a1, .int a2, ss_v (ss_b G) a3, ss_v (ss_b G) a4] : List Value).toArray s 0 0 (ss_A G)) g
theorem ck_Ru_run {N : Nat} {this : Option Nat} {a1 : Int32} {a2 : Int32} {a3 : Option Nat} {a4 : Option Nat} {h : ss_Hp} {res : Int64 × ss_Hp} (hm : mm_Ru_run N this a1 a2 a3 a4 h = some res) : ss_is h this 1 = true := (ss_chk hm).1
set_option maxHeartbeats 4000000 in
set_option maxRecDepth 100000 in
theorem cc_Ru_run (l : Launch) (G : ss_G) (N : Nat) (this : Option Nat) (a1 : Int32) (a2 : Int32) (a3 : Option Nat) (a4 : Option Nat) (h : ss_Hp) (rr : Int64) (hh : ss_Hp) (hm : mm_Ru_run N this a1 a2 a3 a4 h = some (rr, hh)) : ss_Ct l G yy_Ru_run bb_Ru_run 9 (some .long) ({ frames := 1, cells := 0, slots := 0, locals := 24 }) [ss_v (ss_b G) this, .int a1, .int a2, ss_v (ss_b G) a3, ss_v (ss_b G) a4] h (some (.long rr)) hh := by
  obtain ⟨hck, hm⟩ := ss_chk hm
  refine Met.ofW (cc := bb_Ru_run) (maxL := 9) (ret := (some .long)) (by decide) rfl ?_
  intro p e s m args below meth c s₁ B hml hv
  obtain ⟨rfl, hR, hK⟩ := hv
  have hC : CallFix p m c bb_Ru_run 9 s _ lw_g sR_1 := ⟨B.exec, B.bytes, hml, findClass_of_methodNamed B.named, fun w hw => atoms_spec (ws := ss_w yy_Ru_run bb_Ru_run 9 (some .long)) B.pre w (List.mem_cons_of_mem _ hw)⟩
  have hx := hC.1
  have hb := hC.2.1
  have hr := B.returns
  have hlocks := B.notSynchronized
  have hS : va_S (ss_A G) s.heap s.heap [] := va_S.rf
  have hl := lv_entry ([ss_v (ss_b G) this, .int a1, .int a2, ss_v (ss_b G) a3, ss_v (ss_b G) a4]) (n := 9) (by simp [lg_sl, ss_v_cat, ss_cat_i, ss_cat_l, ss_cat_r])
  rw [lg_entry_eq]
  generalize (lg_sl ([ss_v (ss_b G) this, .int a1, .int a2, ss_v (ss_b G) a3, ss_v (ss_b G) a4]) ++ List.replicate (9 - (lg_sl ([ss_v (ss_b G) this, .int a1, .int a2, ss_v (ss_b G) a3, ss_v (ss_b G) a4])).length) Slot.unset).toArray = ls at hl ⊢
  have hl : lv_has ls 9 [(0, ss_v (ss_b G) this), (1, .int a1), (2, .int a2), (3, ss_v (ss_b G) a3), (4, ss_v (ss_b G) a4)] := by simpa [lv_args, ss_v_cat, ss_cat_i, ss_cat_l, ss_cat_r] using hl
  have J_164 : ∀ (s0_164 : Int64) (h_164 : ss_Hp) (H : Heap) (locs : List Loc) (ls : Array Slot), mm_Ru_run_j164 N this a1 a2 a3 a4 s0_164 h_164 = some (rr, hh) → ss_R G h_164 H → va_S (ss_A G) s.heap H locs → lv_has ls 9 [] → ww_Ru_run p l e s m below meth c G this a1 a2 a3 a4 h rr hh  H locs 0 0 (F0 m 164 ls [.long s0_164]) := by
    intro s0_164 h_164 H locs ls hm hR hS hl
    exact ss_lret hC hr hlocks hR hS hm dd_Ru_run_164
  refine lv_iconst (v := 0) hx hb dd_Ru_run_0 (by decide) ?_
  refine lv_istore (lv' := [(5, .int (0 : Int32)), (0, ss_v (ss_b G) this), (1, .int a1), (2, .int a2), (3, ss_v (ss_b G) a3), (4, ss_v (ss_b G) a4)]) hx hb dd_Ru_run_1 hl (by decide) (by simp only [List.filter_cons, ss_v_cat]; rfl) (fun ls hl => ?_)
  refine lv_iload_n hx hb dd_Ru_run_3 rfl (lv_at hl 2 rfl) ?_
  refine lv_istore (lv' := [(6, .int a1), (5, .int (0 : Int32)), (0, ss_v (ss_b G) this), (1, .int a1), (2, .int a2), (3, ss_v (ss_b G) a3), (4, ss_v (ss_b G) a4)]) hx hb dd_Ru_run_4 hl (by decide) rfl (fun ls hl => ?_)
  obtain ⟨e_6, he_6, hm⟩ := ss_bind hm
  have X_6_151 : ∀ (y5_6_151 : Int32) (h_6_151 : ss_Hp) (H : Heap) (locs : List Loc) (ls : Array Slot), e_6 = (y5_6_151, h_6_151) → ss_R G h_6_151 H → va_S (ss_A G) s.heap H locs → lv_has ls 9 [(4, ss_v (ss_b G) a4), (5, .int y5_6_151)] → ww_Ru_run p l e s m below meth c G this a1 a2 a3 a4 h rr hh  H locs 0 0 (F0 m 151 ls []) := by
    intro y5_6_151 h_6_151 H locs ls hq hR hS hl
    rw [hq] at hm
    refine lv_iload hx hb dd_Ru_run_151 (lv_at hl 1 rfl) ?_
    refine lv_if_le (tgt := 163) hx hb dd_Ru_run_153 (by decide) (fun c1 => ?_) (fun c1 => ?_)
    · have hm := ss_ift hm c1
      refine lv_lconst (v := 0) hx hb dd_Ru_run_163 (by decide) ?_
      exact J_164 (0 : Int64) h_6_151 _ _ _ hm hR hS (lv_sub hl [] rfl)
    · have hm := ss_iff hm c1
      refine ss_aload hx hb dd_Ru_run_156 (lv_at hl 0 rfl) ?_
      refine lv_iconst (v := 0) hx hb dd_Ru_run_158 (by decide) ?_
      obtain ⟨v2, qv2, hm⟩ := ss_bind hm
      refine ss_lald hC hK hR qv2 dd_Ru_run_159 ?_
      refine lv_goto (tgt := 164) hx hb dd_Ru_run_160 (by decide) ?_
      exact J_164 v2 h_6_151 _ _ _ hm hR hS (lv_sub hl [] rfl)
  have L_6 : ∀ (n : Nat) (x5_6 : Int32) (x6_6 : Int32) (h_6 : ss_Hp) (H : Heap) (locs : List Loc) (ls : Array Slot), ss_lp (mm_Ru_run_b6 N this a2 a3 a4) n (x5_6, x6_6, h_6) = some e_6 → ss_R G h_6 H → va_S (ss_A G) s.heap H locs → lv_has ls 9 [(0, ss_v (ss_b G) this), (2, .int a2), (3, ss_v (ss_b G) a3), (4, ss_v (ss_b G) a4), (5, .int x5_6), (6, .int x6_6)] → ww_Ru_run p l e s m below meth c G this a1 a2 a3 a4 h rr hh  H locs 0 0 (F0 m 6 ls []) := by
    intro n
    induction n with
    | zero => intro x5_6 x6_6 h_6 H locs ls hm; cases hm
    | succ n ih_6 =>
      intro x5_6 x6_6 h_6 H locs ls hm hR hS hl
      obtain ⟨z_6, hm, hz1_6, hz2_6⟩ := ss_lps hm
      have J_145 : ∀ (x5_145 : Int32) (x6_145 : Int32) (h_145 : ss_Hp) (H : Heap) (locs : List Loc) (ls : Array Slot), mm_Ru_run_j145 N this a2 a3 a4 x5_145 x6_145 h_145 = some z_6 → ss_R G h_145 H → va_S (ss_A G) s.heap H locs → lv_has ls 9 [(0, ss_v (ss_b G) this), (2, .int a2), (3, ss_v (ss_b G) a3), (4, ss_v (ss_b G) a4), (5, .int x5_145), (6, .int x6_145)] → ww_Ru_run p l e s m below meth c G this a1 a2 a3 a4 h rr hh  H locs 0 0 (F0 m 145 ls []) := by
        intro x5_145 x6_145 h_145 H locs ls hm hR hS hl
        obtain ⟨v3, qv3, hm⟩ := ss_bind hm
        refine lv_iinc (v := v3) (lv' := [(6, .int v3), (0, ss_v (ss_b G) this), (2, .int a2), (3, ss_v (ss_b G) a3), (4, ss_v (ss_b G) a4), (5, .int x5_145)]) hx hb dd_Ru_run_145 hl (k := 5) rfl (ss_inc (by decide) qv3) (by decide) rfl (fun ls hl => ?_)
        refine lv_goto (tgt := 6) hx hb dd_Ru_run_148 (by decide) ?_
        exact ih_6 x5_145 v3 h_145 _ _ _ (hz1_6 _ (ss_some hm)) hR hS (lv_sub hl [1, 2, 3, 4, 5, 0] rfl)
      have J_78 : ∀ (x5_78 : Int32) (x6_78 : Int32) (h_78 : ss_Hp) (H : Heap) (locs : List Loc) (ls : Array Slot), mm_Ru_run_j78 N this a2 a3 a4 x5_78 x6_78 h_78 = some z_6 → ss_R G h_78 H → va_S (ss_A G) s.heap H locs → lv_has ls 9 [(0, ss_v (ss_b G) this), (2, .int a2), (3, ss_v (ss_b G) a3), (4, ss_v (ss_b G) a4), (5, .int x5_78), (6, .int x6_78)] → ww_Ru_run p l e s m below meth c G this a1 a2 a3 a4 h rr hh  H locs 0 0 (F0 m 78 ls []) := by
        intro x5_78 x6_78 h_78 H locs ls hm hR hS hl
        refine lv_goto (tgt := 145) hx hb dd_Ru_run_78 (by decide) ?_
        exact J_145 x5_78 x6_78 h_78 _ _ _ hm hR hS hl
      have J_74 : ∀ (x5_74 : Int32) (x6_74 : Int32) (s0_74 : Option Nat) (s1_74 : Int32) (s2_74 : Int64) (h_74 : ss_Hp) (H : Heap) (locs : List Loc) (ls : Array Slot), mm_Ru_run_j74 N this a2 a3 a4 x5_74 x6_74 s0_74 s1_74 s2_74 h_74 = some z_6 → ss_R G h_74 H → va_S (ss_A G) s.heap H locs → lv_has ls 9 [(0, ss_v (ss_b G) this), (2, .int a2), (3, ss_v (ss_b G) a3), (4, ss_v (ss_b G) a4), (5, .int x5_74), (6, .int x6_74)] → ww_Ru_run p l e s m below meth c G this a1 a2 a3 a4 h rr hh  H locs 0 0 (F0 m 74 ls [.long s2_74, .int s1_74, ss_v (ss_b G) s0_74]) := by
        intro x5_74 x6_74 s0_74 s1_74 s2_74 h_74 H locs ls hm hR hS hl
        obtain ⟨h4, qh4, hm⟩ := ss_bind hm
        refine ss_last hC hK hR hS qh4 dd_Ru_run_74 (fun H locs hR hS => ?_)
        obtain ⟨v5, qv5, hm⟩ := ss_bind hm
        refine lv_iinc (v := v5) (lv' := [(5, .int v5), (0, ss_v (ss_b G) this), (2, .int a2), (3, ss_v (ss_b G) a3), (4, ss_v (ss_b G) a4), (6, .int x6_74)]) hx hb dd_Ru_run_75 hl (k := 4) rfl (ss_inc (by decide) qv5) (by decide) (by simp only [List.filter_cons, ss_v_cat]; rfl) (fun ls hl => ?_)
        exact J_78 v5 x6_74 h4 _ _ _ hm hR hS (lv_sub hl [1, 2, 3, 4, 0, 5] rfl)
      have J_33 : ∀ (x5_33 : Int32) (x6_33 : Int32) (x7_33 : Int32) (h_33 : ss_Hp) (H : Heap) (locs : List Loc) (ls : Array Slot), mm_Ru_run_j33 N this a2 a3 a4 x5_33 x6_33 x7_33 h_33 = some z_6 → ss_R G h_33 H → va_S (ss_A G) s.heap H locs → lv_has ls 9 [(0, ss_v (ss_b G) this), (2, .int a2), (3, ss_v (ss_b G) a3), (4, ss_v (ss_b G) a4), (5, .int x5_33), (6, .int x6_33), (7, .int x7_33)] → ww_Ru_run p l e s m below meth c G this a1 a2 a3 a4 h rr hh  H locs 0 0 (F0 m 33 ls []) := by
        intro x5_33 x6_33 x7_33 h_33 H locs ls hm hR hS hl
        refine lv_bipush (v := -14) hx hb dd_Ru_run_33 (by decide) ?_
        refine lv_iload hx hb dd_Ru_run_35 (lv_at hl 6 rfl) ?_
        refine lv_isub hx hb dd_Ru_run_37 ?_
        obtain ⟨v6, qv6, hm⟩ := ss_bind hm
        refine ss_topi qv6 ?_
        refine lv_istore (lv' := [(8, .int v6), (0, ss_v (ss_b G) this), (2, .int a2), (3, ss_v (ss_b G) a3), (4, ss_v (ss_b G) a4), (5, .int x5_33), (6, .int x6_33), (7, .int x7_33)]) hx hb dd_Ru_run_38 hl (by decide) rfl (fun ls hl => ?_)
        refine lv_iload hx hb dd_Ru_run_40 (lv_at hl 5 rfl) ?_
        refine ss_aload hx hb dd_Ru_run_42 (lv_at hl 4 rfl) ?_
        obtain ⟨v7, qv7, hm⟩ := ss_bind hm
        refine ss_alenL hC hK hR qv7 dd_Ru_run_44 ?_
        refine lv_icmp_ge (tgt := 78) hx hb dd_Ru_run_45 (by decide) (fun c8 => ?_) (fun c8 => ?_)
        · have hm := ss_ift hm c8
          exact J_78 x5_33 x6_33 h_33 _ _ _ hm hR hS (lv_sub hl [1, 2, 3, 4, 5, 6] rfl)
        · have hm := ss_iff hm c8
          refine lv_iload hx hb dd_Ru_run_48 (lv_at hl 0 rfl) ?_
          refine ss_aload_n hx hb dd_Ru_run_50 rfl (lv_at hl 3 rfl) ?_
          obtain ⟨v9, qv9, hm⟩ := ss_bind hm
          refine ss_alenL hC hK hR qv9 dd_Ru_run_51 ?_
          refine lv_icmp_ge (tgt := 78) hx hb dd_Ru_run_52 (by decide) (fun c10 => ?_) (fun c10 => ?_)
          · have hm := ss_ift hm c10
            exact J_78 x5_33 x6_33 h_33 _ _ _ hm hR hS (lv_sub hl [1, 2, 3, 4, 5, 6] rfl)
          · have hm := ss_iff hm c10
            refine ss_aload hx hb dd_Ru_run_55 (lv_at hl 4 rfl) ?_
            refine lv_iload hx hb dd_Ru_run_57 (lv_at hl 5 rfl) ?_
            refine lv_iload hx hb dd_Ru_run_59 (lv_at hl 7 rfl) ?_
            refine lv_if_lt (tgt := 70) hx hb dd_Ru_run_61 (by decide) (fun c11 => ?_) (fun c11 => ?_)
            · have hm := ss_ift hm c11
              refine ss_aload_n hx hb dd_Ru_run_70 rfl (lv_at hl 3 rfl) ?_
              refine lv_iload hx hb dd_Ru_run_71 (lv_at hl 0 rfl) ?_
              obtain ⟨v12, qv12, hm⟩ := ss_bind hm
              refine ss_lald hC hK hR qv12 dd_Ru_run_73 ?_
              exact J_74 x5_33 x6_33 a4 x5_33 v12 h_33 _ _ _ hm hR hS (lv_sub hl [1, 2, 3, 4, 5, 6] rfl)
            · have hm := ss_iff hm c11
              refine lv_iload hx hb dd_Ru_run_64 (lv_at hl 7 rfl) ?_
              refine lv_i2l hx hb dd_Ru_run_66 rfl ?_
              refine lv_goto (tgt := 74) hx hb dd_Ru_run_67 (by decide) ?_
              exact J_74 x5_33 x6_33 a4 x5_33 ((x7_33).toInt64) h_33 _ _ _ hm hR hS (lv_sub hl [1, 2, 3, 4, 5, 6] rfl)
      refine lv_iload hx hb dd_Ru_run_6 (lv_at hl 5 rfl) ?_
      refine lv_iload_n hx hb dd_Ru_run_8 rfl (lv_at hl 1 rfl) ?_
      refine lv_icmp_ge (tgt := 151) hx hb dd_Ru_run_9 (by decide) (fun c13 => ?_) (fun c13 => ?_)
      · have hm := ss_ift hm c13
        exact X_6_151 x5_6 h_6 _ _ _ (hz2_6 _ (ss_some hm)) hR hS (lv_sub hl [3, 4] rfl)
      · have hm := ss_iff hm c13
        refine ss_aload_n hx hb dd_Ru_run_12 rfl (lv_at hl 0 rfl) ?_
        obtain ⟨r14, qr14, hm⟩ := ss_bind hm
        refine ss_getr hC hK hR kf_Ru_7 rfl qr14 dd_Ru_run_13 ?_
        refine lv_iload hx hb dd_Ru_run_16 (lv_at hl 5 rfl) ?_
        obtain ⟨v15, qv15, hm⟩ := ss_bind hm
        refine ss_iald hC hK hR qv15 dd_Ru_run_18 ?_
        refine lv_istore (lv' := [(7, .int v15), (0, ss_v (ss_b G) this), (2, .int a2), (3, ss_v (ss_b G) a3), (4, ss_v (ss_b G) a4), (5, .int x5_6), (6, .int x6_6)]) hx hb dd_Ru_run_19 hl (by decide) rfl (fun ls hl => ?_)
        refine lv_iload hx hb dd_Ru_run_21 (lv_at hl 0 rfl) ?_
        refine lv_if_ge (tgt := 33) hx hb dd_Ru_run_23 (by decide) (fun c16 => ?_) (fun c16 => ?_)
        · have hm := ss_ift hm c16
          exact J_33 x5_6 x6_6 v15 h_6 _ _ _ hm hR hS (lv_sub hl [1, 2, 3, 4, 5, 6, 0] rfl)
        · have hm := ss_iff hm c16
          refine lv_iload hx hb dd_Ru_run_26 (lv_at hl 0 rfl) ?_
          refine lv_bipush (v := -14) hx hb dd_Ru_run_28 (by decide) ?_
          refine lv_icmp_gt (tgt := 81) hx hb dd_Ru_run_30 (by decide) (fun c17 => ?_) (fun c17 => ?_)
          · have hm := ss_ift hm c17
            refine lv_iload hx hb dd_Ru_run_81 (lv_at hl 0 rfl) ?_
            refine lv_bipush (v := -13) hx hb dd_Ru_run_83 (by decide) ?_
            refine lv_icmp_ne (tgt := 112) hx hb dd_Ru_run_85 (by decide) (fun c18 => ?_) (fun c18 => ?_)
            · have hm := ss_iff hm c18
              refine lv_iload hx hb dd_Ru_run_112 (lv_at hl 5 rfl) ?_
              refine lv_iconst (v := 1) hx hb dd_Ru_run_114 (by decide) ?_
              refine lv_icmp_le (tgt := 145) hx hb dd_Ru_run_115 (by decide) (fun c19 => ?_) (fun c19 => ?_)
              · have hm := ss_ift hm c19
                exact J_145 x5_6 x6_6 h_6 _ _ _ hm hR hS (lv_sub hl [1, 2, 3, 4, 5, 6] rfl)
              · have hm := ss_iff hm c19
                obtain ⟨v20, qv20, hm⟩ := ss_bind hm
                refine lv_iinc (v := v20) (lv' := [(5, .int v20), (7, .int v15), (0, ss_v (ss_b G) this), (2, .int a2), (3, ss_v (ss_b G) a3), (4, ss_v (ss_b G) a4), (6, .int x6_6)]) hx hb dd_Ru_run_118 hl (k := 5) rfl (ss_inc (by decide) qv20) (by decide) (by simp only [List.filter_cons, ss_v_cat]; rfl) (fun ls hl => ?_)
                refine ss_aload hx hb dd_Ru_run_121 (lv_at hl 5 rfl) ?_
                refine lv_iload hx hb dd_Ru_run_123 (lv_at hl 0 rfl) ?_
                refine lv_iconst (v := 1) hx hb dd_Ru_run_125 (by decide) ?_
                refine lv_isub hx hb dd_Ru_run_126 ?_
                refine lv_iload hx hb dd_Ru_run_127 (lv_at hl 1 rfl) ?_
                refine ss_aload hx hb dd_Ru_run_129 (lv_at hl 5 rfl) ?_
                refine lv_iload hx hb dd_Ru_run_131 (lv_at hl 0 rfl) ?_
                refine lv_iconst (v := 1) hx hb dd_Ru_run_133 (by decide) ?_
                refine lv_isub hx hb dd_Ru_run_134 ?_
                obtain ⟨v21, qv21, hm⟩ := ss_bind hm
                refine ss_lald hC hK hR qv21 dd_Ru_run_135 ?_
                refine ss_aload hx hb dd_Ru_run_136 (lv_at hl 5 rfl) ?_
                refine lv_iload hx hb dd_Ru_run_138 (lv_at hl 0 rfl) ?_
                obtain ⟨v22, qv22, hm⟩ := ss_bind hm
                refine ss_lald hC hK hR qv22 dd_Ru_run_140 ?_
                obtain ⟨v23, qv23, hm⟩ := ss_bind hm
                refine ss_cS 0 0 (As := [.int v15, .long v21, .long v22]) hC hK hR hS hl.1 (cc_Ru_join l G N _ _ _ _ _ qv23) km_Ru_30 ⟨Nat.le_of_ble_eq_true rfl, Nat.le_of_ble_eq_true rfl⟩ ⟨Nat.le_of_ble_eq_true rfl, Nat.le_of_ble_eq_true rfl, Nat.le_of_ble_eq_true rfl, Nat.le_of_ble_eq_true rfl⟩ rfl rfl (by simp [ss_v_cat, ss_cat_i, ss_cat_l, ss_cat_r]) dd_Ru_run_141 (fun H locs hR hS => ?_)
                obtain ⟨h24, qh24, hm⟩ := ss_bind hm
                refine ss_last hC hK hR hS qh24 dd_Ru_run_144 (fun H locs hR hS => ?_)
                exact J_145 v20 x6_6 h24 _ _ _ hm hR hS (lv_sub hl [2, 3, 4, 5, 0, 6] rfl)
            · have hm := ss_ift hm c18
              refine lv_iload hx hb dd_Ru_run_88 (lv_at hl 5 rfl) ?_
              refine lv_if_le (tgt := 145) hx hb dd_Ru_run_90 (by decide) (fun c25 => ?_) (fun c25 => ?_)
              · have hm := ss_ift hm c25
                exact J_145 x5_6 x6_6 h_6 _ _ _ hm hR hS (lv_sub hl [1, 2, 3, 4, 5, 6] rfl)
              · have hm := ss_iff hm c25
                refine ss_aload hx hb dd_Ru_run_93 (lv_at hl 4 rfl) ?_
                refine lv_iload hx hb dd_Ru_run_95 (lv_at hl 5 rfl) ?_
                refine lv_iconst (v := 1) hx hb dd_Ru_run_97 (by decide) ?_
                refine lv_isub hx hb dd_Ru_run_98 ?_
                refine lv_lconst (v := 1) hx hb dd_Ru_run_99 (by decide) ?_
                refine ss_aload hx hb dd_Ru_run_100 (lv_at hl 4 rfl) ?_
                refine lv_iload hx hb dd_Ru_run_102 (lv_at hl 5 rfl) ?_
                refine lv_iconst (v := 1) hx hb dd_Ru_run_104 (by decide) ?_
                refine lv_isub hx hb dd_Ru_run_105 ?_
                obtain ⟨v26, qv26, hm⟩ := ss_bind hm
                refine ss_lald hC hK hR qv26 dd_Ru_run_106 ?_
                refine lv_lsub hx hb dd_Ru_run_107 ?_
                obtain ⟨h27, qh27, hm⟩ := ss_bind hm
                refine ss_last hC hK hR hS qh27 dd_Ru_run_108 (fun H locs hR hS => ?_)
                refine lv_goto (tgt := 145) hx hb dd_Ru_run_109 (by decide) ?_
                exact J_145 x5_6 x6_6 h27 _ _ _ hm hR hS (lv_sub hl [1, 2, 3, 4, 5, 6] rfl)
          · have hm := ss_iff hm c17
            exact J_33 x5_6 x6_6 v15 h_6 _ _ _ hm hR hS (lv_sub hl [1, 2, 3, 4, 5, 6, 0] rfl)
  exact L_6 N (0 : Int32) a1 h _ _ _ he_6 hR hS (lv_sub hl [2, 4, 5, 6, 1, 0] rfl)
theorem dd_Ru_worth_0 : decode bb_Ru_worth 0 = .ok (.iconst 0, 1) := by decide +kernel
theorem dd_Ru_worth_1 : decode bb_Ru_worth 1 = .ok (.istore_n 3, 1) := by decide +kernel
theorem dd_Ru_worth_2 : decode bb_Ru_worth 2 = .ok (.iload_n 3, 1) := by decide +kernel
theorem dd_Ru_worth_3 : decode bb_Ru_worth 3 = .ok (.aload_n 0, 1) := by decide +kernel
theorem dd_Ru_worth_4 : decode bb_Ru_worth 4 = .ok (.getfield 16, 3) := by decide +kernel
theorem dd_Ru_worth_7 : decode bb_Ru_worth 7 = .ok (.if_icmp .ge 76, 3) := by decide +kernel
theorem dd_Ru_worth_10 : decode bb_Ru_worth 10 = .ok (.aload_n 0, 1) := by decide +kernel
theorem dd_Ru_worth_11 : decode bb_Ru_worth 11 = .ok (.getfield 13, 3) := by decide +kernel
theorem dd_Ru_worth_14 : decode bb_Ru_worth 14 = .ok (.iconst 2, 1) := by decide +kernel
theorem dd_Ru_worth_15 : decode bb_Ru_worth 15 = .ok (.iload_n 3, 1) := by decide +kernel
theorem dd_Ru_worth_16 : decode bb_Ru_worth 16 = .ok (.imul, 1) := by decide +kernel
theorem dd_Ru_worth_17 : decode bb_Ru_worth 17 = .ok (.iaload, 1) := by decide +kernel
theorem dd_Ru_worth_18 : decode bb_Ru_worth 18 = .ok (.istore 4, 2) := by decide +kernel
theorem dd_Ru_worth_20 : decode bb_Ru_worth 20 = .ok (.aload_n 0, 1) := by decide +kernel
theorem dd_Ru_worth_21 : decode bb_Ru_worth 21 = .ok (.getfield 13, 3) := by decide +kernel
theorem dd_Ru_worth_24 : decode bb_Ru_worth 24 = .ok (.iconst 2, 1) := by decide +kernel
theorem dd_Ru_worth_25 : decode bb_Ru_worth 25 = .ok (.iload_n 3, 1) := by decide +kernel
theorem dd_Ru_worth_26 : decode bb_Ru_worth 26 = .ok (.imul, 1) := by decide +kernel
theorem dd_Ru_worth_27 : decode bb_Ru_worth 27 = .ok (.iconst 1, 1) := by decide +kernel
theorem dd_Ru_worth_28 : decode bb_Ru_worth 28 = .ok (.iadd, 1) := by decide +kernel
theorem dd_Ru_worth_29 : decode bb_Ru_worth 29 = .ok (.iaload, 1) := by decide +kernel
theorem dd_Ru_worth_30 : decode bb_Ru_worth 30 = .ok (.istore 5, 2) := by decide +kernel
theorem dd_Ru_worth_32 : decode bb_Ru_worth 32 = .ok (.aload_n 0, 1) := by decide +kernel
theorem dd_Ru_worth_33 : decode bb_Ru_worth 33 = .ok (.getfield 13, 3) := by decide +kernel
theorem dd_Ru_worth_36 : decode bb_Ru_worth 36 = .ok (.iconst 2, 1) := by decide +kernel
theorem dd_Ru_worth_37 : decode bb_Ru_worth 37 = .ok (.iload_n 3, 1) := by decide +kernel
theorem dd_Ru_worth_38 : decode bb_Ru_worth 38 = .ok (.imul, 1) := by decide +kernel
theorem dd_Ru_worth_39 : decode bb_Ru_worth 39 = .ok (.iconst 2, 1) := by decide +kernel
theorem dd_Ru_worth_40 : decode bb_Ru_worth 40 = .ok (.iadd, 1) := by decide +kernel
theorem dd_Ru_worth_41 : decode bb_Ru_worth 41 = .ok (.iaload, 1) := by decide +kernel
theorem dd_Ru_worth_42 : decode bb_Ru_worth 42 = .ok (.istore 6, 2) := by decide +kernel
theorem dd_Ru_worth_44 : decode bb_Ru_worth 44 = .ok (.iload 5, 2) := by decide +kernel
theorem dd_Ru_worth_46 : decode bb_Ru_worth 46 = .ok (.iload 6, 2) := by decide +kernel
theorem dd_Ru_worth_48 : decode bb_Ru_worth 48 = .ok (.if_icmp .eq 18, 3) := by decide +kernel
theorem dd_Ru_worth_51 : decode bb_Ru_worth 51 = .ok (.aload_n 0, 1) := by decide +kernel
theorem dd_Ru_worth_52 : decode bb_Ru_worth 52 = .ok (.iload 5, 2) := by decide +kernel
theorem dd_Ru_worth_54 : decode bb_Ru_worth 54 = .ok (.iload 6, 2) := by decide +kernel
theorem dd_Ru_worth_56 : decode bb_Ru_worth 56 = .ok (.aload_n 1, 1) := by decide +kernel
theorem dd_Ru_worth_57 : decode bb_Ru_worth 57 = .ok (.aload_n 2, 1) := by decide +kernel
theorem dd_Ru_worth_58 : decode bb_Ru_worth 58 = .ok (.invokevirtual 26, 3) := by decide +kernel
theorem dd_Ru_worth_61 : decode bb_Ru_worth 61 = .ok (.lconst 0, 1) := by decide +kernel
theorem dd_Ru_worth_62 : decode bb_Ru_worth 62 = .ok (.lcmp, 1) := by decide +kernel
theorem dd_Ru_worth_63 : decode bb_Ru_worth 63 = .ok (.ifCond .eq 14, 3) := by decide +kernel
theorem dd_Ru_worth_66 : decode bb_Ru_worth 66 = .ok (.aload_n 0, 1) := by decide +kernel
theorem dd_Ru_worth_67 : decode bb_Ru_worth 67 = .ok (.iload 4, 2) := by decide +kernel
theorem dd_Ru_worth_69 : decode bb_Ru_worth 69 = .ok (.iload 5, 2) := by decide +kernel
theorem dd_Ru_worth_71 : decode bb_Ru_worth 71 = .ok (.aload_n 1, 1) := by decide +kernel
theorem dd_Ru_worth_72 : decode bb_Ru_worth 72 = .ok (.aload_n 2, 1) := by decide +kernel
theorem dd_Ru_worth_73 : decode bb_Ru_worth 73 = .ok (.invokevirtual 26, 3) := by decide +kernel
theorem dd_Ru_worth_76 : decode bb_Ru_worth 76 = .ok (.lreturn, 1) := by decide +kernel
theorem dd_Ru_worth_77 : decode bb_Ru_worth 77 = .ok (.iinc 3 1, 3) := by decide +kernel
theorem dd_Ru_worth_80 : decode bb_Ru_worth 80 = .ok (.goto (-78), 3) := by decide +kernel
theorem dd_Ru_worth_83 : decode bb_Ru_worth 83 = .ok (.lconst 0, 1) := by decide +kernel
theorem dd_Ru_worth_84 : decode bb_Ru_worth 84 = .ok (.lreturn, 1) := by decide +kernel
def mm_Ru_worth_b2 (N : Nat) (this : Option Nat) (a1 : Option Nat) (a2 : Option Nat) (st : Int32 × ss_Hp) : Option ((Int32 × ss_Hp) ⊕ (ss_Hp ⊕ (Int32 × Int32 × ss_Hp))) :=
  match st with
  | (x3_2, h_2) =>
    (ss_gi h_2 this 1 0).bind fun v3 =>
    if v3 ≤ x3_2 then
      some (.inr (.inl h_2))
    else
      (ss_gr h_2 this 1 1).bind fun r5 =>
      (ss_ai h_2 r5 20 ((2 : Int32) * x3_2)).bind fun v6 =>
      (ss_gr h_2 this 1 1).bind fun r7 =>
      (ss_ai h_2 r7 20 (((2 : Int32) * x3_2) + (1 : Int32))).bind fun v8 =>
      (ss_gr h_2 this 1 1).bind fun r9 =>
      (ss_ai h_2 r9 20 (((2 : Int32) * x3_2) + (2 : Int32))).bind fun v10 =>
      if v8 = v10 then
        some (.inr (.inr (v6, v8, h_2)))
      else
        ss_b2 (mm_Ru_run N this v8 v10 a1 a2 h_2) fun v12 h13 =>
        if (lg_cmp v12 (0 : Int64)) = 0 then
          (some (x3_2 + (1 : Int32))).bind fun v15 =>
          some (.inl (v15, h13))
        else
          some (.inr (.inr (v6, v8, h13)))
def mm_Ru_worth (N : Nat) (this : Option Nat) (a1 : Option Nat) (a2 : Option Nat) (h : ss_Hp) : Option (Int64 × ss_Hp) :=
  if ss_is h this 1 = true then
    (ss_lp (mm_Ru_worth_b2 N this a1 a2) N ((0 : Int32), h)).bind fun e_2 =>
    match e_2 with
    | (.inl h_2_83) =>
      some ((0 : Int64), h_2_83)
    | (.inr (y4_2_66, y5_2_66, h_2_66)) =>
      ss_b2 (mm_Ru_run N this y4_2_66 y5_2_66 a1 a2 h_2_66) fun v1 h2 =>
      some (v1, h2)
  else none
abbrev ww_Ru_worth (p : Program) (l : Launch) (e : Env) (s : State) (m : MethodId) (below : List Frame) (meth : Method) (c : Code) (G : ss_G) (this : Option Nat) (a1 : Option Nat) (a2 : Option Nat) (h : ss_Hp) (rr : Int64) (hh : ss_Hp) (H : Heap) (locs : List Loc) (k n : Nat) (g : JFrame) : Prop := W p l e (headSpec (ss_w yy_Ru_worth bb_Ru_worth 7 (some .long)) ({ frames := 2, cells := 0, slots := 0, locals := 52 })).room s m ([ss_v (ss_b G) this, ss_v (ss_b G) a1, ss_v (ss_b G) a2] : List Value).toArray below meth c H locs k n (MQ below (ss_Qc G (some (.long rr)) hh) ([ss_v (ss_b G) this, ss_v (ss_b G) a1, ss_v (ss_b G) a2] : List Value).toArray s 0 0 (ss_A G)) g
theorem ck_Ru_worth {N : Nat} {this : Option Nat} {a1 : Option Nat} {a2 : Option Nat} {h : ss_Hp} {res : Int64 × ss_Hp} (hm : mm_Ru_worth N this a1 a2 h = some res) : ss_is h this 1 = true := (ss_chk hm).1
set_option maxHeartbeats 4000000 in
set_option maxRecDepth 100000 in
theorem cc_Ru_worth (l : Launch) (G : ss_G) (N : Nat) (this : Option Nat) (a1 : Option Nat) (a2 : Option Nat) (h : ss_Hp) (rr : Int64) (hh : ss_Hp) (hm : mm_Ru_worth N this a1 a2 h = some (rr, hh)) : ss_Ct l G yy_Ru_worth bb_Ru_worth 7 (some .long) ({ frames := 2, cells := 0, slots := 0, locals := 52 }) [ss_v (ss_b G) this, ss_v (ss_b G) a1, ss_v (ss_b G) a2] h (some (.long rr)) hh := by
  obtain ⟨hck, hm⟩ := ss_chk hm
  refine Met.ofW (cc := bb_Ru_worth) (maxL := 7) (ret := (some .long)) (by decide) rfl ?_
  intro p e s m args below meth c s₁ B hml hv
  obtain ⟨rfl, hR, hK⟩ := hv
  have hC : CallFix p m c bb_Ru_worth 7 s _ lw_g sR_1 := ⟨B.exec, B.bytes, hml, findClass_of_methodNamed B.named, fun w hw => atoms_spec (ws := ss_w yy_Ru_worth bb_Ru_worth 7 (some .long)) B.pre w (List.mem_cons_of_mem _ hw)⟩
  have hx := hC.1
  have hb := hC.2.1
  have hr := B.returns
  have hlocks := B.notSynchronized
  have hS : va_S (ss_A G) s.heap s.heap [] := va_S.rf
  have hl := lv_entry ([ss_v (ss_b G) this, ss_v (ss_b G) a1, ss_v (ss_b G) a2]) (n := 7) (by simp [lg_sl, ss_v_cat, ss_cat_i, ss_cat_l, ss_cat_r])
  rw [lg_entry_eq]
  generalize (lg_sl ([ss_v (ss_b G) this, ss_v (ss_b G) a1, ss_v (ss_b G) a2]) ++ List.replicate (7 - (lg_sl ([ss_v (ss_b G) this, ss_v (ss_b G) a1, ss_v (ss_b G) a2])).length) Slot.unset).toArray = ls at hl ⊢
  have hl : lv_has ls 7 [(0, ss_v (ss_b G) this), (1, ss_v (ss_b G) a1), (2, ss_v (ss_b G) a2)] := by simpa [lv_args, ss_v_cat, ss_cat_i, ss_cat_l, ss_cat_r] using hl
  refine lv_iconst (v := 0) hx hb dd_Ru_worth_0 (by decide) ?_
  refine lv_istore_n (lv' := [(3, .int (0 : Int32)), (0, ss_v (ss_b G) this), (1, ss_v (ss_b G) a1), (2, ss_v (ss_b G) a2)]) hx hb dd_Ru_worth_1 rfl hl (by decide) (by simp only [List.filter_cons, ss_v_cat]; rfl) (fun ls hl => ?_)
  obtain ⟨e_2, he_2, hm⟩ := ss_bind hm
  have X_2_83 : ∀  (h_2_83 : ss_Hp) (H : Heap) (locs : List Loc) (ls : Array Slot), e_2 = (.inl h_2_83) → ss_R G h_2_83 H → va_S (ss_A G) s.heap H locs → lv_has ls 7 [] → ww_Ru_worth p l e s m below meth c G this a1 a2 h rr hh  H locs 0 0 (F0 m 83 ls []) := by
    intro h_2_83 H locs ls hq hR hS hl
    rw [hq] at hm
    refine lv_lconst (v := 0) hx hb dd_Ru_worth_83 (by decide) ?_
    exact ss_lret hC hr hlocks hR hS hm dd_Ru_worth_84
  have X_2_66 : ∀ (y4_2_66 : Int32) (y5_2_66 : Int32) (h_2_66 : ss_Hp) (H : Heap) (locs : List Loc) (ls : Array Slot), e_2 = (.inr (y4_2_66, y5_2_66, h_2_66)) → ss_R G h_2_66 H → va_S (ss_A G) s.heap H locs → lv_has ls 7 [(0, ss_v (ss_b G) this), (1, ss_v (ss_b G) a1), (2, ss_v (ss_b G) a2), (4, .int y4_2_66), (5, .int y5_2_66)] → ww_Ru_worth p l e s m below meth c G this a1 a2 h rr hh  H locs 0 0 (F0 m 66 ls []) := by
    intro y4_2_66 y5_2_66 h_2_66 H locs ls hq hR hS hl
    rw [hq] at hm
    refine ss_aload_n hx hb dd_Ru_worth_66 rfl (lv_at hl 0 rfl) ?_
    refine lv_iload hx hb dd_Ru_worth_67 (lv_at hl 3 rfl) ?_
    refine lv_iload hx hb dd_Ru_worth_69 (lv_at hl 4 rfl) ?_
    refine ss_aload_n hx hb dd_Ru_worth_71 rfl (lv_at hl 1 rfl) ?_
    refine ss_aload_n hx hb dd_Ru_worth_72 rfl (lv_at hl 2 rfl) ?_
    obtain ⟨v1, h2, qh2, hm⟩ := ss_bind2 hm
    refine ss_cV 0 0 (As := [.int y4_2_66, .int y5_2_66, ss_v (ss_b G) a1, ss_v (ss_b G) a2]) hC hK hR hS hl.1 (cc_Ru_run l G N _ _ _ _ _ _ _ _ qh2) km_Ru_26 (ck_Ru_run qh2) ⟨Nat.le_of_ble_eq_true rfl, Nat.le_of_ble_eq_true rfl⟩ ⟨Nat.le_of_ble_eq_true rfl, Nat.le_of_ble_eq_true rfl, Nat.le_of_ble_eq_true rfl, Nat.le_of_ble_eq_true rfl⟩ rfl rfl (Nat.le_of_ble_eq_true rfl) dd_Ru_worth_73 (fun H locs hR hS => ?_)
    exact ss_lret hC hr hlocks hR hS hm dd_Ru_worth_76
  have L_2 : ∀ (n : Nat) (x3_2 : Int32) (h_2 : ss_Hp) (H : Heap) (locs : List Loc) (ls : Array Slot), ss_lp (mm_Ru_worth_b2 N this a1 a2) n (x3_2, h_2) = some e_2 → ss_R G h_2 H → va_S (ss_A G) s.heap H locs → lv_has ls 7 [(0, ss_v (ss_b G) this), (1, ss_v (ss_b G) a1), (2, ss_v (ss_b G) a2), (3, .int x3_2)] → ww_Ru_worth p l e s m below meth c G this a1 a2 h rr hh  H locs 0 0 (F0 m 2 ls []) := by
    intro n
    induction n with
    | zero => intro x3_2 h_2 H locs ls hm; cases hm
    | succ n ih_2 =>
      intro x3_2 h_2 H locs ls hm hR hS hl
      obtain ⟨z_2, hm, hz1_2, hz2_2⟩ := ss_lps hm
      refine lv_iload_n hx hb dd_Ru_worth_2 rfl (lv_at hl 3 rfl) ?_
      refine ss_aload_n hx hb dd_Ru_worth_3 rfl (lv_at hl 0 rfl) ?_
      obtain ⟨v3, qv3, hm⟩ := ss_bind hm
      refine ss_geti hC hK hR kf_Ru_16 qv3 dd_Ru_worth_4 ?_
      refine lv_icmp_ge (tgt := 83) hx hb dd_Ru_worth_7 (by decide) (fun c4 => ?_) (fun c4 => ?_)
      · have hm := ss_ift hm c4
        exact X_2_83 h_2 _ _ _ (hz2_2 _ (ss_some hm)) hR hS (lv_sub hl [] rfl)
      · have hm := ss_iff hm c4
        refine ss_aload_n hx hb dd_Ru_worth_10 rfl (lv_at hl 0 rfl) ?_
        obtain ⟨r5, qr5, hm⟩ := ss_bind hm
        refine ss_getr hC hK hR kf_Ru_13 rfl qr5 dd_Ru_worth_11 ?_
        refine lv_iconst (v := 2) hx hb dd_Ru_worth_14 (by decide) ?_
        refine lv_iload_n hx hb dd_Ru_worth_15 rfl (lv_at hl 3 rfl) ?_
        refine lv_imul hx hb dd_Ru_worth_16 ?_
        obtain ⟨v6, qv6, hm⟩ := ss_bind hm
        refine ss_iald hC hK hR qv6 dd_Ru_worth_17 ?_
        refine lv_istore (lv' := [(4, .int v6), (0, ss_v (ss_b G) this), (1, ss_v (ss_b G) a1), (2, ss_v (ss_b G) a2), (3, .int x3_2)]) hx hb dd_Ru_worth_18 hl (by decide) rfl (fun ls hl => ?_)
        refine ss_aload_n hx hb dd_Ru_worth_20 rfl (lv_at hl 1 rfl) ?_
        obtain ⟨r7, qr7, hm⟩ := ss_bind hm
        refine ss_getr hC hK hR kf_Ru_13 rfl qr7 dd_Ru_worth_21 ?_
        refine lv_iconst (v := 2) hx hb dd_Ru_worth_24 (by decide) ?_
        refine lv_iload_n hx hb dd_Ru_worth_25 rfl (lv_at hl 4 rfl) ?_
        refine lv_imul hx hb dd_Ru_worth_26 ?_
        refine lv_iconst (v := 1) hx hb dd_Ru_worth_27 (by decide) ?_
        refine lv_iadd hx hb dd_Ru_worth_28 ?_
        obtain ⟨v8, qv8, hm⟩ := ss_bind hm
        refine ss_iald hC hK hR qv8 dd_Ru_worth_29 ?_
        refine lv_istore (lv' := [(5, .int v8), (4, .int v6), (0, ss_v (ss_b G) this), (1, ss_v (ss_b G) a1), (2, ss_v (ss_b G) a2), (3, .int x3_2)]) hx hb dd_Ru_worth_30 hl (by decide) rfl (fun ls hl => ?_)
        refine ss_aload_n hx hb dd_Ru_worth_32 rfl (lv_at hl 2 rfl) ?_
        obtain ⟨r9, qr9, hm⟩ := ss_bind hm
        refine ss_getr hC hK hR kf_Ru_13 rfl qr9 dd_Ru_worth_33 ?_
        refine lv_iconst (v := 2) hx hb dd_Ru_worth_36 (by decide) ?_
        refine lv_iload_n hx hb dd_Ru_worth_37 rfl (lv_at hl 5 rfl) ?_
        refine lv_imul hx hb dd_Ru_worth_38 ?_
        refine lv_iconst (v := 2) hx hb dd_Ru_worth_39 (by decide) ?_
        refine lv_iadd hx hb dd_Ru_worth_40 ?_
        obtain ⟨v10, qv10, hm⟩ := ss_bind hm
        refine ss_iald hC hK hR qv10 dd_Ru_worth_41 ?_
        refine lv_istore (lv' := [(6, .int v10), (5, .int v8), (4, .int v6), (0, ss_v (ss_b G) this), (1, ss_v (ss_b G) a1), (2, ss_v (ss_b G) a2), (3, .int x3_2)]) hx hb dd_Ru_worth_42 hl (by decide) rfl (fun ls hl => ?_)
        refine lv_iload hx hb dd_Ru_worth_44 (lv_at hl 1 rfl) ?_
        refine lv_iload hx hb dd_Ru_worth_46 (lv_at hl 0 rfl) ?_
        refine lv_icmp_eq (tgt := 66) hx hb dd_Ru_worth_48 (by decide) (fun c11 => ?_) (fun c11 => ?_)
        · have hm := ss_ift hm c11
          exact X_2_66 v6 v8 h_2 _ _ _ (hz2_2 _ (ss_some hm)) hR hS (lv_sub hl [3, 4, 5, 2, 1] rfl)
        · have hm := ss_iff hm c11
          refine ss_aload_n hx hb dd_Ru_worth_51 rfl (lv_at hl 3 rfl) ?_
          refine lv_iload hx hb dd_Ru_worth_52 (lv_at hl 1 rfl) ?_
          refine lv_iload hx hb dd_Ru_worth_54 (lv_at hl 0 rfl) ?_
          refine ss_aload_n hx hb dd_Ru_worth_56 rfl (lv_at hl 4 rfl) ?_
          refine ss_aload_n hx hb dd_Ru_worth_57 rfl (lv_at hl 5 rfl) ?_
          obtain ⟨v12, h13, qh13, hm⟩ := ss_bind2 hm
          refine ss_cV 0 0 (As := [.int v8, .int v10, ss_v (ss_b G) a1, ss_v (ss_b G) a2]) hC hK hR hS hl.1 (cc_Ru_run l G N _ _ _ _ _ _ _ _ qh13) km_Ru_26 (ck_Ru_run qh13) ⟨Nat.le_of_ble_eq_true rfl, Nat.le_of_ble_eq_true rfl⟩ ⟨Nat.le_of_ble_eq_true rfl, Nat.le_of_ble_eq_true rfl, Nat.le_of_ble_eq_true rfl, Nat.le_of_ble_eq_true rfl⟩ rfl rfl (Nat.le_of_ble_eq_true rfl) dd_Ru_worth_58 (fun H locs hR hS => ?_)
          refine lv_lconst (v := 0) hx hb dd_Ru_worth_61 (by decide) ?_
          refine W.lcmp hx hb dd_Ru_worth_62 ?_
          refine lv_if_eq (tgt := 77) hx hb dd_Ru_worth_63 (by decide) (fun c14 => ?_) (fun c14 => ?_)
          · have hm := ss_ift hm c14
            obtain ⟨v15, qv15, hm⟩ := ss_bind hm
            refine lv_iinc (v := v15) (lv' := [(3, .int v15), (6, .int v10), (5, .int v8), (4, .int v6), (0, ss_v (ss_b G) this), (1, ss_v (ss_b G) a1), (2, ss_v (ss_b G) a2)]) hx hb dd_Ru_worth_77 hl (k := 6) rfl (ss_inc (by decide) qv15) (by decide) (by simp only [List.filter_cons, ss_v_cat]; rfl) (fun ls hl => ?_)
            refine lv_goto (tgt := 2) hx hb dd_Ru_worth_80 (by decide) ?_
            exact ih_2 v15 h13 _ _ _ (hz1_2 _ (ss_some hm)) hR hS (lv_sub hl [4, 5, 6, 0] rfl)
          · have hm := ss_iff hm c14
            exact X_2_66 v6 v8 h13 _ _ _ (hz2_2 _ (ss_some hm)) hR hS (lv_sub hl [3, 4, 5, 2, 1] rfl)
  exact L_2 N (0 : Int32) h _ _ _ he_2 hR hS (lv_sub hl [1, 2, 3, 0] rfl)
theorem dd_Wi_choice_0 : decode bb_Wi_choice 0 = .ok (.aload_n 0, 1) := by decide +kernel
theorem dd_Wi_choice_1 : decode bb_Wi_choice 1 = .ok (.invokevirtual 111, 3) := by decide +kernel
theorem dd_Wi_choice_4 : decode bb_Wi_choice 4 = .ok (.istore_n 2, 1) := by decide +kernel
theorem dd_Wi_choice_5 : decode bb_Wi_choice 5 = .ok (.aload_n 0, 1) := by decide +kernel
theorem dd_Wi_choice_6 : decode bb_Wi_choice 6 = .ok (.getfield 41, 3) := by decide +kernel
theorem dd_Wi_choice_9 : decode bb_Wi_choice 9 = .ok (.ifnonnull 28, 3) := by decide +kernel
theorem dd_Wi_choice_12 : decode bb_Wi_choice 12 = .ok (.aload_n 0, 1) := by decide +kernel
theorem dd_Wi_choice_13 : decode bb_Wi_choice 13 = .ok (.getfield 37, 3) := by decide +kernel
theorem dd_Wi_choice_16 : decode bb_Wi_choice 16 = .ok (.getfield 113, 3) := by decide +kernel
theorem dd_Wi_choice_19 : decode bb_Wi_choice 19 = .ok (.iload_n 1, 1) := by decide +kernel
theorem dd_Wi_choice_20 : decode bb_Wi_choice 20 = .ok (.iaload, 1) := by decide +kernel
theorem dd_Wi_choice_21 : decode bb_Wi_choice 21 = .ok (.istore_n 3, 1) := by decide +kernel
theorem dd_Wi_choice_22 : decode bb_Wi_choice 22 = .ok (.iload_n 2, 1) := by decide +kernel
theorem dd_Wi_choice_23 : decode bb_Wi_choice 23 = .ok (.iload_n 3, 1) := by decide +kernel
theorem dd_Wi_choice_24 : decode bb_Wi_choice 24 = .ok (.ishr, 1) := by decide +kernel
theorem dd_Wi_choice_25 : decode bb_Wi_choice 25 = .ok (.iconst 1, 1) := by decide +kernel
theorem dd_Wi_choice_26 : decode bb_Wi_choice 26 = .ok (.iand, 1) := by decide +kernel
theorem dd_Wi_choice_27 : decode bb_Wi_choice 27 = .ok (.iconst 1, 1) := by decide +kernel
theorem dd_Wi_choice_28 : decode bb_Wi_choice 28 = .ok (.if_icmp .ne 7, 3) := by decide +kernel
theorem dd_Wi_choice_31 : decode bb_Wi_choice 31 = .ok (.iload_n 3, 1) := by decide +kernel
theorem dd_Wi_choice_32 : decode bb_Wi_choice 32 = .ok (.goto 4, 3) := by decide +kernel
theorem dd_Wi_choice_35 : decode bb_Wi_choice 35 = .ok (.iconst (-1), 1) := by decide +kernel
theorem dd_Wi_choice_36 : decode bb_Wi_choice 36 = .ok (.ireturn, 1) := by decide +kernel
theorem dd_Wi_choice_37 : decode bb_Wi_choice 37 = .ok (.iconst (-1), 1) := by decide +kernel
theorem dd_Wi_choice_38 : decode bb_Wi_choice 38 = .ok (.istore_n 3, 1) := by decide +kernel
theorem dd_Wi_choice_39 : decode bb_Wi_choice 39 = .ok (.lconst 0, 1) := by decide +kernel
theorem dd_Wi_choice_40 : decode bb_Wi_choice 40 = .ok (.lstore 4, 2) := by decide +kernel
theorem dd_Wi_choice_42 : decode bb_Wi_choice 42 = .ok (.iconst 0, 1) := by decide +kernel
theorem dd_Wi_choice_43 : decode bb_Wi_choice 43 = .ok (.istore 6, 2) := by decide +kernel
theorem dd_Wi_choice_45 : decode bb_Wi_choice 45 = .ok (.iload 6, 2) := by decide +kernel
theorem dd_Wi_choice_47 : decode bb_Wi_choice 47 = .ok (.aload_n 0, 1) := by decide +kernel
theorem dd_Wi_choice_48 : decode bb_Wi_choice 48 = .ok (.getfield 37, 3) := by decide +kernel
theorem dd_Wi_choice_51 : decode bb_Wi_choice 51 = .ok (.getfield 99, 3) := by decide +kernel
theorem dd_Wi_choice_54 : decode bb_Wi_choice 54 = .ok (.if_icmp .ge 62, 3) := by decide +kernel
theorem dd_Wi_choice_57 : decode bb_Wi_choice 57 = .ok (.aload_n 0, 1) := by decide +kernel
theorem dd_Wi_choice_58 : decode bb_Wi_choice 58 = .ok (.getfield 12, 3) := by decide +kernel
theorem dd_Wi_choice_61 : decode bb_Wi_choice 61 = .ok (.getfield 62, 3) := by decide +kernel
theorem dd_Wi_choice_64 : decode bb_Wi_choice 64 = .ok (.iload 6, 2) := by decide +kernel
theorem dd_Wi_choice_66 : decode bb_Wi_choice 66 = .ok (.iaload, 1) := by decide +kernel
theorem dd_Wi_choice_67 : decode bb_Wi_choice 67 = .ok (.ifCond .le 43, 3) := by decide +kernel
theorem dd_Wi_choice_70 : decode bb_Wi_choice 70 = .ok (.aload_n 0, 1) := by decide +kernel
theorem dd_Wi_choice_71 : decode bb_Wi_choice 71 = .ok (.iload_n 1, 1) := by decide +kernel
theorem dd_Wi_choice_72 : decode bb_Wi_choice 72 = .ok (.iload 6, 2) := by decide +kernel
theorem dd_Wi_choice_74 : decode bb_Wi_choice 74 = .ok (.iload_n 2, 1) := by decide +kernel
theorem dd_Wi_choice_75 : decode bb_Wi_choice 75 = .ok (.invokevirtual 116, 3) := by decide +kernel
theorem dd_Wi_choice_78 : decode bb_Wi_choice 78 = .ok (.aload_n 0, 1) := by decide +kernel
theorem dd_Wi_choice_79 : decode bb_Wi_choice 79 = .ok (.getfield 41, 3) := by decide +kernel
theorem dd_Wi_choice_82 : decode bb_Wi_choice 82 = .ok (.aload_n 0, 1) := by decide +kernel
theorem dd_Wi_choice_83 : decode bb_Wi_choice 83 = .ok (.getfield 30, 3) := by decide +kernel
theorem dd_Wi_choice_86 : decode bb_Wi_choice 86 = .ok (.aload_n 0, 1) := by decide +kernel
theorem dd_Wi_choice_87 : decode bb_Wi_choice 87 = .ok (.getfield 34, 3) := by decide +kernel
theorem dd_Wi_choice_90 : decode bb_Wi_choice 90 = .ok (.invokevirtual 120, 3) := by decide +kernel
theorem dd_Wi_choice_93 : decode bb_Wi_choice 93 = .ok (.lstore 7, 2) := by decide +kernel
theorem dd_Wi_choice_95 : decode bb_Wi_choice 95 = .ok (.lload 7, 2) := by decide +kernel
theorem dd_Wi_choice_97 : decode bb_Wi_choice 97 = .ok (.lload 4, 2) := by decide +kernel
theorem dd_Wi_choice_99 : decode bb_Wi_choice 99 = .ok (.lcmp, 1) := by decide +kernel
theorem dd_Wi_choice_100 : decode bb_Wi_choice 100 = .ok (.ifCond .le 10, 3) := by decide +kernel
theorem dd_Wi_choice_103 : decode bb_Wi_choice 103 = .ok (.lload 7, 2) := by decide +kernel
theorem dd_Wi_choice_105 : decode bb_Wi_choice 105 = .ok (.lstore 4, 2) := by decide +kernel
theorem dd_Wi_choice_107 : decode bb_Wi_choice 107 = .ok (.iload 6, 2) := by decide +kernel
theorem dd_Wi_choice_109 : decode bb_Wi_choice 109 = .ok (.istore_n 3, 1) := by decide +kernel
theorem dd_Wi_choice_110 : decode bb_Wi_choice 110 = .ok (.iinc 6 1, 3) := by decide +kernel
theorem dd_Wi_choice_113 : decode bb_Wi_choice 113 = .ok (.goto (-68), 3) := by decide +kernel
theorem dd_Wi_choice_116 : decode bb_Wi_choice 116 = .ok (.iload_n 3, 1) := by decide +kernel
theorem dd_Wi_choice_117 : decode bb_Wi_choice 117 = .ok (.ireturn, 1) := by decide +kernel
def mm_Wi_choice_j36 (N : Nat) (this : Option Nat) (a1 : Int32) (s0_36 : Int32) (h_36 : ss_Hp) : Option (Int32 × ss_Hp) :=
  some (s0_36, h_36)
def mm_Wi_choice_j110 (N : Nat) (this : Option Nat) (a1 : Int32) (v1 : Int32) (x3_110 : Int32) (x4_110 : Int64) (x6_110 : Int32) (h_110 : ss_Hp) : Option ((Int32 × Int64 × Int32 × ss_Hp) ⊕ (Int32 × ss_Hp)) :=
  (some (x6_110 + (1 : Int32))).bind fun v4 =>
  some (.inl (x3_110, x4_110, v4, h_110))
def mm_Wi_choice_b45 (N : Nat) (this : Option Nat) (a1 : Int32) (v1 : Int32) (st : Int32 × Int64 × Int32 × ss_Hp) : Option ((Int32 × Int64 × Int32 × ss_Hp) ⊕ (Int32 × ss_Hp)) :=
  match st with
  | (x3_45, x4_45, x6_45, h_45) =>
    (ss_gr h_45 this 7 6).bind fun r5 =>
    (ss_gi h_45 r5 5 3).bind fun v6 =>
    if v6 ≤ x6_45 then
      some (.inr (x3_45, h_45))
    else
      (ss_gr h_45 this 7 0).bind fun r8 =>
      (ss_gr h_45 r8 0 0).bind fun r9 =>
      (ss_ai h_45 r9 20 x6_45).bind fun v10 =>
      if v10 ≤ 0 then
        mm_Wi_choice_j110 N this a1 v1 x3_45 x4_45 x6_45 h_45
      else
        (mm_Wi_lookAt N this a1 x6_45 v1 h_45).bind fun h12 =>
        (ss_gr h12 this 7 7).bind fun r13 =>
        (ss_gr h12 this 7 4).bind fun r14 =>
        (ss_gr h12 this 7 5).bind fun r15 =>
        ss_b2 (mm_Ru_worth N r13 r14 r15 h12) fun v16 h17 =>
        if (lg_cmp v16 x4_45) ≤ 0 then
          mm_Wi_choice_j110 N this a1 v1 x3_45 x4_45 x6_45 h17
        else
          mm_Wi_choice_j110 N this a1 v1 x6_45 v16 x6_45 h17
def mm_Wi_choice (N : Nat) (this : Option Nat) (a1 : Int32) (h : ss_Hp) : Option (Int32 × ss_Hp) :=
  if ss_is h this 7 = true then
    (mm_Wi_closedBits N this h).bind fun v1 =>
    (ss_gr h this 7 7).bind fun r2 =>
    if r2.isSome = true then
      (ss_lp (mm_Wi_choice_b45 N this a1 v1) N ((-1 : Int32), (0 : Int64), (0 : Int32), h)).bind fun e_45 =>
      match e_45 with
      | (y3_45_116, h_45_116) =>
        some (y3_45_116, h_45_116)
    else
      (ss_gr h this 7 6).bind fun r19 =>
      (ss_gr h r19 5 0).bind fun r20 =>
      (ss_ai h r20 20 a1).bind fun v21 =>
      if ((v1 >>> (v21 &&& 31)) &&& (1 : Int32)) = (1 : Int32) then
        mm_Wi_choice_j36 N this a1 v21 h
      else
        mm_Wi_choice_j36 N this a1 (-1 : Int32) h
  else none
abbrev ww_Wi_choice (p : Program) (l : Launch) (e : Env) (s : State) (m : MethodId) (below : List Frame) (meth : Method) (c : Code) (G : ss_G) (this : Option Nat) (a1 : Int32) (h : ss_Hp) (rr : Int32) (hh : ss_Hp) (H : Heap) (locs : List Loc) (k n : Nat) (g : JFrame) : Prop := W p l e (headSpec (ss_w yy_Wi_choice bb_Wi_choice 9 (some (.int))) ({ frames := 3, cells := 0, slots := 0, locals := 78 })).room s m ([ss_v (ss_b G) this, .int a1] : List Value).toArray below meth c H locs k n (MQ below (ss_Qc G (some (.int rr)) hh) ([ss_v (ss_b G) this, .int a1] : List Value).toArray s 0 0 (ss_A G)) g
theorem ck_Wi_choice {N : Nat} {this : Option Nat} {a1 : Int32} {h : ss_Hp} {res : Int32 × ss_Hp} (hm : mm_Wi_choice N this a1 h = some res) : ss_is h this 7 = true := (ss_chk hm).1
set_option maxHeartbeats 4000000 in
set_option maxRecDepth 100000 in
theorem cc_Wi_choice (l : Launch) (G : ss_G) (N : Nat) (this : Option Nat) (a1 : Int32) (h : ss_Hp) (rr : Int32) (hh : ss_Hp) (hm : mm_Wi_choice N this a1 h = some (rr, hh)) : ss_Ct l G yy_Wi_choice bb_Wi_choice 9 (some (.int)) ({ frames := 3, cells := 0, slots := 0, locals := 78 }) [ss_v (ss_b G) this, .int a1] h (some (.int rr)) hh := by
  obtain ⟨hck, hm⟩ := ss_chk hm
  refine Met.ofW (cc := bb_Wi_choice) (maxL := 9) (ret := (some (.int))) (by decide) rfl ?_
  intro p e s m args below meth c s₁ B hml hv
  obtain ⟨rfl, hR, hK⟩ := hv
  have hC : CallFix p m c bb_Wi_choice 9 s _ lw_g sR_7 := ⟨B.exec, B.bytes, hml, findClass_of_methodNamed B.named, fun w hw => atoms_spec (ws := ss_w yy_Wi_choice bb_Wi_choice 9 (some (.int))) B.pre w (List.mem_cons_of_mem _ hw)⟩
  have hx := hC.1
  have hb := hC.2.1
  have hr := B.returns
  have hlocks := B.notSynchronized
  have hS : va_S (ss_A G) s.heap s.heap [] := va_S.rf
  have hl := lv_entry ([ss_v (ss_b G) this, .int a1]) (n := 9) (by simp [lg_sl, ss_v_cat, ss_cat_i, ss_cat_l, ss_cat_r])
  rw [lg_entry_eq]
  generalize (lg_sl ([ss_v (ss_b G) this, .int a1]) ++ List.replicate (9 - (lg_sl ([ss_v (ss_b G) this, .int a1])).length) Slot.unset).toArray = ls at hl ⊢
  have hl : lv_has ls 9 [(0, ss_v (ss_b G) this), (1, .int a1)] := by simpa [lv_args, ss_v_cat, ss_cat_i, ss_cat_l, ss_cat_r] using hl
  have J_36 : ∀ (s0_36 : Int32) (h_36 : ss_Hp) (H : Heap) (locs : List Loc) (ls : Array Slot), mm_Wi_choice_j36 N this a1 s0_36 h_36 = some (rr, hh) → ss_R G h_36 H → va_S (ss_A G) s.heap H locs → lv_has ls 9 [] → ww_Wi_choice p l e s m below meth c G this a1 h rr hh  H locs 0 0 (F0 m 36 ls [.int s0_36]) := by
    intro s0_36 h_36 H locs ls hm hR hS hl
    exact ss_iret hC hr hlocks hR hS hm dd_Wi_choice_36
  refine ss_aload_n hx hb dd_Wi_choice_0 rfl (lv_at hl 0 rfl) ?_
  obtain ⟨v1, qv1, hm⟩ := ss_bind hm
  refine ss_cV 0 0 (As := []) hC hK hR hS hl.1 (cc_Wi_closedBits l G N _ _ _ qv1) km_Wi_111 (ck_Wi_closedBits qv1) ⟨Nat.le_of_ble_eq_true rfl, Nat.le_of_ble_eq_true rfl⟩ ⟨Nat.le_of_ble_eq_true rfl, Nat.le_of_ble_eq_true rfl, Nat.le_of_ble_eq_true rfl, Nat.le_of_ble_eq_true rfl⟩ rfl rfl (Nat.le_of_ble_eq_true rfl) dd_Wi_choice_1 (fun H locs hR hS => ?_)
  refine lv_istore_n (lv' := [(2, .int v1), (0, ss_v (ss_b G) this), (1, .int a1)]) hx hb dd_Wi_choice_4 rfl hl (by decide) rfl (fun ls hl => ?_)
  refine ss_aload_n hx hb dd_Wi_choice_5 rfl (lv_at hl 1 rfl) ?_
  obtain ⟨r2, qr2, hm⟩ := ss_bind hm
  refine ss_getr hC hK hR kf_Wi_41 rfl qr2 dd_Wi_choice_6 ?_
  refine ss_ifnonnull (tgt := 37) hx hb dd_Wi_choice_9 (by decide) (fun c3 => ?_) (fun c3 => ?_)
  · have hm := ss_ift hm c3
    refine lv_iconst (v := -1) hx hb dd_Wi_choice_37 (by decide) ?_
    refine lv_istore_n (lv' := [(3, .int (-1 : Int32)), (2, .int v1), (0, ss_v (ss_b G) this), (1, .int a1)]) hx hb dd_Wi_choice_38 rfl hl (by decide) rfl (fun ls hl => ?_)
    refine lv_lconst (v := 0) hx hb dd_Wi_choice_39 (by decide) ?_
    refine lv_lstore (lv' := [(4, .long (0 : Int64)), (3, .int (-1 : Int32)), (2, .int v1), (0, ss_v (ss_b G) this), (1, .int a1)]) hx hb dd_Wi_choice_40 hl (by decide) rfl (fun ls hl => ?_)
    refine lv_iconst (v := 0) hx hb dd_Wi_choice_42 (by decide) ?_
    refine lv_istore (lv' := [(6, .int (0 : Int32)), (4, .long (0 : Int64)), (3, .int (-1 : Int32)), (2, .int v1), (0, ss_v (ss_b G) this), (1, .int a1)]) hx hb dd_Wi_choice_43 hl (by decide) rfl (fun ls hl => ?_)
    obtain ⟨e_45, he_45, hm⟩ := ss_bind hm
    have X_45_116 : ∀ (y3_45_116 : Int32) (h_45_116 : ss_Hp) (H : Heap) (locs : List Loc) (ls : Array Slot), e_45 = (y3_45_116, h_45_116) → ss_R G h_45_116 H → va_S (ss_A G) s.heap H locs → lv_has ls 9 [(3, .int y3_45_116)] → ww_Wi_choice p l e s m below meth c G this a1 h rr hh  H locs 0 0 (F0 m 116 ls []) := by
      intro y3_45_116 h_45_116 H locs ls hq hR hS hl
      rw [hq] at hm
      refine lv_iload_n hx hb dd_Wi_choice_116 rfl (lv_at hl 0 rfl) ?_
      exact ss_iret hC hr hlocks hR hS hm dd_Wi_choice_117
    have L_45 : ∀ (n : Nat) (x3_45 : Int32) (x4_45 : Int64) (x6_45 : Int32) (h_45 : ss_Hp) (H : Heap) (locs : List Loc) (ls : Array Slot), ss_lp (mm_Wi_choice_b45 N this a1 v1) n (x3_45, x4_45, x6_45, h_45) = some e_45 → ss_R G h_45 H → va_S (ss_A G) s.heap H locs → lv_has ls 9 [(0, ss_v (ss_b G) this), (1, .int a1), (2, .int v1), (3, .int x3_45), (4, .long x4_45), (6, .int x6_45)] → ww_Wi_choice p l e s m below meth c G this a1 h rr hh  H locs 0 0 (F0 m 45 ls []) := by
      intro n
      induction n with
      | zero => intro x3_45 x4_45 x6_45 h_45 H locs ls hm; cases hm
      | succ n ih_45 =>
        intro x3_45 x4_45 x6_45 h_45 H locs ls hm hR hS hl
        obtain ⟨z_45, hm, hz1_45, hz2_45⟩ := ss_lps hm
        have J_110 : ∀ (x3_110 : Int32) (x4_110 : Int64) (x6_110 : Int32) (h_110 : ss_Hp) (H : Heap) (locs : List Loc) (ls : Array Slot), mm_Wi_choice_j110 N this a1 v1 x3_110 x4_110 x6_110 h_110 = some z_45 → ss_R G h_110 H → va_S (ss_A G) s.heap H locs → lv_has ls 9 [(0, ss_v (ss_b G) this), (1, .int a1), (2, .int v1), (3, .int x3_110), (4, .long x4_110), (6, .int x6_110)] → ww_Wi_choice p l e s m below meth c G this a1 h rr hh  H locs 0 0 (F0 m 110 ls []) := by
          intro x3_110 x4_110 x6_110 h_110 H locs ls hm hR hS hl
          obtain ⟨v4, qv4, hm⟩ := ss_bind hm
          refine lv_iinc (v := v4) (lv' := [(6, .int v4), (0, ss_v (ss_b G) this), (1, .int a1), (2, .int v1), (3, .int x3_110), (4, .long x4_110)]) hx hb dd_Wi_choice_110 hl (k := 5) rfl (ss_inc (by decide) qv4) (by decide) rfl (fun ls hl => ?_)
          refine lv_goto (tgt := 45) hx hb dd_Wi_choice_113 (by decide) ?_
          exact ih_45 x3_110 x4_110 v4 h_110 _ _ _ (hz1_45 _ (ss_some hm)) hR hS (lv_sub hl [1, 2, 3, 4, 5, 0] rfl)
        refine lv_iload hx hb dd_Wi_choice_45 (lv_at hl 5 rfl) ?_
        refine ss_aload_n hx hb dd_Wi_choice_47 rfl (lv_at hl 0 rfl) ?_
        obtain ⟨r5, qr5, hm⟩ := ss_bind hm
        refine ss_getr hC hK hR kf_Wi_37 rfl qr5 dd_Wi_choice_48 ?_
        obtain ⟨v6, qv6, hm⟩ := ss_bind hm
        refine ss_geti hC hK hR kf_Wi_99 qv6 dd_Wi_choice_51 ?_
        refine lv_icmp_ge (tgt := 116) hx hb dd_Wi_choice_54 (by decide) (fun c7 => ?_) (fun c7 => ?_)
        · have hm := ss_ift hm c7
          exact X_45_116 x3_45 h_45 _ _ _ (hz2_45 _ (ss_some hm)) hR hS (lv_sub hl [3] rfl)
        · have hm := ss_iff hm c7
          refine ss_aload_n hx hb dd_Wi_choice_57 rfl (lv_at hl 0 rfl) ?_
          obtain ⟨r8, qr8, hm⟩ := ss_bind hm
          refine ss_getr hC hK hR kf_Wi_12 rfl qr8 dd_Wi_choice_58 ?_
          obtain ⟨r9, qr9, hm⟩ := ss_bind hm
          refine ss_getr hC hK hR kf_Wi_62 rfl qr9 dd_Wi_choice_61 ?_
          refine lv_iload hx hb dd_Wi_choice_64 (lv_at hl 5 rfl) ?_
          obtain ⟨v10, qv10, hm⟩ := ss_bind hm
          refine ss_iald hC hK hR qv10 dd_Wi_choice_66 ?_
          refine lv_if_le (tgt := 110) hx hb dd_Wi_choice_67 (by decide) (fun c11 => ?_) (fun c11 => ?_)
          · have hm := ss_ift hm c11
            exact J_110 x3_45 x4_45 x6_45 h_45 _ _ _ hm hR hS hl
          · have hm := ss_iff hm c11
            refine ss_aload_n hx hb dd_Wi_choice_70 rfl (lv_at hl 0 rfl) ?_
            refine lv_iload_n hx hb dd_Wi_choice_71 rfl (lv_at hl 1 rfl) ?_
            refine lv_iload hx hb dd_Wi_choice_72 (lv_at hl 5 rfl) ?_
            refine lv_iload_n hx hb dd_Wi_choice_74 rfl (lv_at hl 2 rfl) ?_
            obtain ⟨h12, qh12, hm⟩ := ss_bind hm
            refine ss_cVv 0 0 (As := [.int a1, .int x6_45, .int v1]) hC hK hR hS hl.1 (cc_Wi_lookAt l G N _ _ _ _ _ _ qh12) km_Wi_116 (ck_Wi_lookAt qh12) ⟨Nat.le_of_ble_eq_true rfl, Nat.le_of_ble_eq_true rfl⟩ ⟨Nat.le_of_ble_eq_true rfl, Nat.le_of_ble_eq_true rfl, Nat.le_of_ble_eq_true rfl, Nat.le_of_ble_eq_true rfl⟩ rfl rfl (Nat.le_of_ble_eq_true rfl) dd_Wi_choice_75 (fun H locs hR hS => ?_)
            refine ss_aload_n hx hb dd_Wi_choice_78 rfl (lv_at hl 0 rfl) ?_
            obtain ⟨r13, qr13, hm⟩ := ss_bind hm
            refine ss_getr hC hK hR kf_Wi_41 rfl qr13 dd_Wi_choice_79 ?_
            refine ss_aload_n hx hb dd_Wi_choice_82 rfl (lv_at hl 0 rfl) ?_
            obtain ⟨r14, qr14, hm⟩ := ss_bind hm
            refine ss_getr hC hK hR kf_Wi_30 rfl qr14 dd_Wi_choice_83 ?_
            refine ss_aload_n hx hb dd_Wi_choice_86 rfl (lv_at hl 0 rfl) ?_
            obtain ⟨r15, qr15, hm⟩ := ss_bind hm
            refine ss_getr hC hK hR kf_Wi_34 rfl qr15 dd_Wi_choice_87 ?_
            obtain ⟨v16, h17, qh17, hm⟩ := ss_bind2 hm
            refine ss_cV 0 0 (As := [ss_v (ss_b G) r14, ss_v (ss_b G) r15]) hC hK hR hS hl.1 (cc_Ru_worth l G N _ _ _ _ _ _ qh17) km_Wi_120 (ck_Ru_worth qh17) ⟨Nat.le_of_ble_eq_true rfl, Nat.le_of_ble_eq_true rfl⟩ ⟨Nat.le_of_ble_eq_true rfl, Nat.le_of_ble_eq_true rfl, Nat.le_of_ble_eq_true rfl, Nat.le_of_ble_eq_true rfl⟩ rfl rfl (Nat.le_of_ble_eq_true rfl) dd_Wi_choice_90 (fun H locs hR hS => ?_)
            refine lv_lstore (lv' := [(7, .long v16), (0, ss_v (ss_b G) this), (1, .int a1), (2, .int v1), (3, .int x3_45), (4, .long x4_45), (6, .int x6_45)]) hx hb dd_Wi_choice_93 hl (by decide) rfl (fun ls hl => ?_)
            refine lv_lload hx hb dd_Wi_choice_95 (lv_at hl 0 rfl) ?_
            refine lv_lload hx hb dd_Wi_choice_97 (lv_at hl 5 rfl) ?_
            refine W.lcmp hx hb dd_Wi_choice_99 ?_
            refine lv_if_le (tgt := 110) hx hb dd_Wi_choice_100 (by decide) (fun c18 => ?_) (fun c18 => ?_)
            · have hm := ss_ift hm c18
              exact J_110 x3_45 x4_45 x6_45 h17 _ _ _ hm hR hS (lv_sub hl [1, 2, 3, 4, 5, 6] rfl)
            · have hm := ss_iff hm c18
              refine lv_lload hx hb dd_Wi_choice_103 (lv_at hl 0 rfl) ?_
              refine lv_lstore (lv' := [(4, .long v16), (7, .long v16), (0, ss_v (ss_b G) this), (1, .int a1), (2, .int v1), (3, .int x3_45), (6, .int x6_45)]) hx hb dd_Wi_choice_105 hl (by decide) rfl (fun ls hl => ?_)
              refine lv_iload hx hb dd_Wi_choice_107 (lv_at hl 6 rfl) ?_
              refine lv_istore_n (lv' := [(3, .int x6_45), (4, .long v16), (7, .long v16), (0, ss_v (ss_b G) this), (1, .int a1), (2, .int v1), (6, .int x6_45)]) hx hb dd_Wi_choice_109 rfl hl (by decide) rfl (fun ls hl => ?_)
              exact J_110 x6_45 v16 x6_45 h17 _ _ _ hm hR hS (lv_sub hl [3, 4, 5, 0, 1, 6] rfl)
    exact L_45 N (-1 : Int32) (0 : Int64) (0 : Int32) h _ _ _ he_45 hR hS (lv_sub hl [4, 5, 3, 2, 1, 0] rfl)
  · have hm := ss_iff hm c3
    refine ss_aload_n hx hb dd_Wi_choice_12 rfl (lv_at hl 1 rfl) ?_
    obtain ⟨r19, qr19, hm⟩ := ss_bind hm
    refine ss_getr hC hK hR kf_Wi_37 rfl qr19 dd_Wi_choice_13 ?_
    obtain ⟨r20, qr20, hm⟩ := ss_bind hm
    refine ss_getr hC hK hR kf_Wi_113 rfl qr20 dd_Wi_choice_16 ?_
    refine lv_iload_n hx hb dd_Wi_choice_19 rfl (lv_at hl 2 rfl) ?_
    obtain ⟨v21, qv21, hm⟩ := ss_bind hm
    refine ss_iald hC hK hR qv21 dd_Wi_choice_20 ?_
    refine lv_istore_n (lv' := [(3, .int v21), (2, .int v1), (0, ss_v (ss_b G) this), (1, .int a1)]) hx hb dd_Wi_choice_21 rfl hl (by decide) rfl (fun ls hl => ?_)
    refine lv_iload_n hx hb dd_Wi_choice_22 rfl (lv_at hl 1 rfl) ?_
    refine lv_iload_n hx hb dd_Wi_choice_23 rfl (lv_at hl 0 rfl) ?_
    refine lv_ishr hx hb dd_Wi_choice_24 ?_
    refine lv_iconst (v := 1) hx hb dd_Wi_choice_25 (by decide) ?_
    refine lv_iand hx hb dd_Wi_choice_26 ?_
    refine lv_iconst (v := 1) hx hb dd_Wi_choice_27 (by decide) ?_
    refine lv_icmp_ne (tgt := 35) hx hb dd_Wi_choice_28 (by decide) (fun c22 => ?_) (fun c22 => ?_)
    · have hm := ss_iff hm c22
      refine lv_iconst (v := -1) hx hb dd_Wi_choice_35 (by decide) ?_
      exact J_36 (-1 : Int32) h _ _ _ hm hR hS (lv_sub hl [] rfl)
    · have hm := ss_ift hm c22
      refine lv_iload_n hx hb dd_Wi_choice_31 rfl (lv_at hl 0 rfl) ?_
      refine lv_goto (tgt := 36) hx hb dd_Wi_choice_32 (by decide) ?_
      exact J_36 v21 h _ _ _ hm hR hS (lv_sub hl [] rfl)
