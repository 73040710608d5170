theorem dd_M_push_0 : decode bb_M_push 0 = .ok (.aload_n 0, 1) := by decide +kernel
theorem dd_M_push_1 : decode bb_M_push 1 = .ok (.getfield 32, 3) := by decide +kernel
theorem dd_M_push_4 : decode bb_M_push 4 = .ok (.aload_n 0, 1) := by decide +kernel
theorem dd_M_push_5 : decode bb_M_push 5 = .ok (.getfield 292, 3) := by decide +kernel
theorem dd_M_push_8 : decode bb_M_push 8 = .ok (.lload_n 1, 1) := by decide +kernel
theorem dd_M_push_9 : decode bb_M_push 9 = .ok (.lastore, 1) := by decide +kernel
theorem dd_M_push_10 : decode bb_M_push 10 = .ok (.aload_n 0, 1) := by decide +kernel
theorem dd_M_push_11 : decode bb_M_push 11 = .ok (.dup, 1) := by decide +kernel
theorem dd_M_push_12 : decode bb_M_push 12 = .ok (.getfield 292, 3) := by decide +kernel
theorem dd_M_push_15 : decode bb_M_push 15 = .ok (.iconst 1, 1) := by decide +kernel
theorem dd_M_push_16 : decode bb_M_push 16 = .ok (.iadd, 1) := by decide +kernel
theorem dd_M_push_17 : decode bb_M_push 17 = .ok (.putfield 292, 3) := by decide +kernel
theorem dd_M_push_20 : decode bb_M_push 20 = .ok (.return_, 1) := by decide +kernel
def mm_M_push (N : Nat) (this : Option Nat) (a1 : Int64) (h : ss_Hp) : Option ss_Hp :=
  if ss_is h this 12 = true then
    (ss_gr h this 12 7).bind fun r1 =>
    (ss_gi h this 12 12).bind fun v2 =>
    (ss_ul h r1 23 v2 a1).bind fun h3 =>
    (ss_gi h3 this 12 12).bind fun v4 =>
    (ss_pi h3 this 12 12 (v4 + (1 : Int32))).bind fun h5 =>
    some h5
  else none
abbrev ww_M_push (p : Program) (l : Launch) (e : Env) (s : State) (m : MethodId) (below : List Frame) (meth : Method) (c : Code) (G : ss_G) (this : Option Nat) (a1 : Int64) (h : ss_Hp) (hh : ss_Hp) (H : Heap) (locs : List Loc) (k n : Nat) (g : JFrame) : Prop := W p l e (headSpec (ss_w yy_M_push bb_M_push 3 none) ({ frames := 0, cells := 0, slots := 0, locals := 0 })).room s m ([ss_v (ss_b G) this, .long a1] : List Value).toArray below meth c H locs k n (MQ below (ss_Qc G none hh) ([ss_v (ss_b G) this, .long a1] : List Value).toArray s 0 0 (ss_A G)) g
theorem ck_M_push {N : Nat} {this : Option Nat} {a1 : Int64} {h : ss_Hp} {res : ss_Hp} (hm : mm_M_push N this a1 h = some res) : ss_is h this 12 = true := (ss_chk hm).1
set_option maxHeartbeats 4000000 in
set_option maxRecDepth 100000 in
theorem cc_M_push (l : Launch) (G : ss_G) (N : Nat) (this : Option Nat) (a1 : Int64) (h : ss_Hp) (hh : ss_Hp) (hm : mm_M_push N this a1 h = some hh) : ss_Ct l G yy_M_push bb_M_push 3 none ({ frames := 0, cells := 0, slots := 0, locals := 0 }) [ss_v (ss_b G) this, .long a1] h none hh := by
  obtain ⟨hck, hm⟩ := ss_chk hm
  refine Met.ofW (cc := bb_M_push) (maxL := 3) (ret := none) (by decide) rfl ?_
  intro p e s m args below meth c s₁ B hml hv
  obtain ⟨rfl, hR, hK⟩ := hv
  have hC : CallFix p m c bb_M_push 3 s _ lw_g sR_12 := ⟨B.exec, B.bytes, hml, findClass_of_methodNamed B.named, fun w hw => atoms_spec (ws := ss_w yy_M_push bb_M_push 3 none) B.pre w (List.mem_cons_of_mem _ hw)⟩
  have hx := hC.1
  have hb := hC.2.1
  have hr := B.returns
  have hlocks := B.notSynchronized
  have hS : va_S (ss_A G) s.heap s.heap [] := va_S.rf
  have hl := lv_entry ([ss_v (ss_b G) this, .long a1]) (n := 3) (by simp [lg_sl, ss_v_cat, ss_cat_i, ss_cat_l, ss_cat_r])
  rw [lg_entry_eq]
  generalize (lg_sl ([ss_v (ss_b G) this, .long a1]) ++ List.replicate (3 - (lg_sl ([ss_v (ss_b G) this, .long a1])).length) Slot.unset).toArray = ls at hl ⊢
  have hl : lv_has ls 3 [(0, ss_v (ss_b G) this), (1, .long a1)] := by simpa [lv_args, ss_v_cat, ss_cat_i, ss_cat_l, ss_cat_r] using hl
  refine ss_aload_n hx hb dd_M_push_0 rfl (lv_at hl 0 rfl) ?_
  obtain ⟨r1, qr1, hm⟩ := ss_bind hm
  refine ss_getr hC hK hR kf_M_32 rfl qr1 dd_M_push_1 ?_
  refine ss_aload_n hx hb dd_M_push_4 rfl (lv_at hl 0 rfl) ?_
  obtain ⟨v2, qv2, hm⟩ := ss_bind hm
  refine ss_geti hC hK hR kf_M_292 qv2 dd_M_push_5 ?_
  refine lv_lload_n hx hb dd_M_push_8 rfl (lv_at hl 1 rfl) ?_
  obtain ⟨h3, qh3, hm⟩ := ss_bind hm
  refine ss_last hC hK hR hS qh3 dd_M_push_9 (fun H locs hR hS => ?_)
  refine ss_aload_n hx hb dd_M_push_10 rfl (lv_at hl 0 rfl) ?_
  refine ss_dupr hx hb dd_M_push_11 ?_
  obtain ⟨v4, qv4, hm⟩ := ss_bind hm
  refine ss_geti hC hK hR kf_M_292 qv4 dd_M_push_12 ?_
  refine lv_iconst (v := 1) hx hb dd_M_push_15 (by decide) ?_
  refine lv_iadd hx hb dd_M_push_16 ?_
  obtain ⟨h5, qh5, hm⟩ := ss_bind hm
  refine ss_puti hC hK hR hS kp_M_292 qh5 dd_M_push_17 (fun H locs hR hS => ?_)
  exact ss_vret hC hr hlocks hR hS hm dd_M_push_20
theorem dd_M_pop_0 : decode bb_M_pop 0 = .ok (.aload_n 0, 1) := by decide +kernel
theorem dd_M_pop_1 : decode bb_M_pop 1 = .ok (.dup, 1) := by decide +kernel
theorem dd_M_pop_2 : decode bb_M_pop 2 = .ok (.getfield 292, 3) := by decide +kernel
theorem dd_M_pop_5 : decode bb_M_pop 5 = .ok (.iconst 1, 1) := by decide +kernel
theorem dd_M_pop_6 : decode bb_M_pop 6 = .ok (.isub, 1) := by decide +kernel
theorem dd_M_pop_7 : decode bb_M_pop 7 = .ok (.putfield 292, 3) := by decide +kernel
theorem dd_M_pop_10 : decode bb_M_pop 10 = .ok (.aload_n 0, 1) := by decide +kernel
theorem dd_M_pop_11 : decode bb_M_pop 11 = .ok (.getfield 32, 3) := by decide +kernel
theorem dd_M_pop_14 : decode bb_M_pop 14 = .ok (.aload_n 0, 1) := by decide +kernel
theorem dd_M_pop_15 : decode bb_M_pop 15 = .ok (.getfield 292, 3) := by decide +kernel
theorem dd_M_pop_18 : decode bb_M_pop 18 = .ok (.laload, 1) := by decide +kernel
theorem dd_M_pop_19 : decode bb_M_pop 19 = .ok (.lreturn, 1) := by decide +kernel
def mm_M_pop (N : Nat) (this : Option Nat) (h : ss_Hp) : Option (Int64 × ss_Hp) :=
  if ss_is h this 12 = true then
    (ss_gi h this 12 12).bind fun v1 =>
    (ss_pi h this 12 12 (v1 - (1 : Int32))).bind fun h2 =>
    (ss_gr h2 this 12 7).bind fun r3 =>
    (ss_gi h2 this 12 12).bind fun v4 =>
    (ss_al h2 r3 23 v4).bind fun v5 =>
    some (v5, h2)
  else none
abbrev ww_M_pop (p : Program) (l : Launch) (e : Env) (s : State) (m : MethodId) (below : List Frame) (meth : Method) (c : Code) (G : ss_G) (this : Option Nat) (h : ss_Hp) (rr : Int64) (hh : ss_Hp) (H : Heap) (locs : List Loc) (k n : Nat) (g : JFrame) : Prop := W p l e (headSpec (ss_w yy_M_pop bb_M_pop 1 (some .long)) ({ frames := 0, cells := 0, slots := 0, locals := 0 })).room s m ([ss_v (ss_b G) this] : List Value).toArray below meth c H locs k n (MQ below (ss_Qc G (some (.long rr)) hh) ([ss_v (ss_b G) this] : List Value).toArray s 0 0 (ss_A G)) g
theorem ck_M_pop {N : Nat} {this : Option Nat} {h : ss_Hp} {res : Int64 × ss_Hp} (hm : mm_M_pop N this h = some res) : ss_is h this 12 = true := (ss_chk hm).1
set_option maxHeartbeats 4000000 in
set_option maxRecDepth 100000 in
theorem cc_M_pop (l : Launch) (G : ss_G) (N : Nat) (this : Option Nat) (h : ss_Hp) (rr : Int64) (hh : ss_Hp) (hm : mm_M_pop N this h = some (rr, hh)) : ss_Ct l G yy_M_pop bb_M_pop 1 (some .long) ({ frames := 0, cells := 0, slots := 0, locals := 0 }) [ss_v (ss_b G) this] h (some (.long rr)) hh := by
  obtain ⟨hck, hm⟩ := ss_chk hm
  refine Met.ofW (cc := bb_M_pop) (maxL := 1) (ret := (some .long)) (by decide) rfl ?_
  intro p e s m args below meth c s₁ B hml hv
  obtain ⟨rfl, hR, hK⟩ := hv
  have hC : CallFix p m c bb_M_pop 1 s _ lw_g sR_12 := ⟨B.exec, B.bytes, hml, findClass_of_methodNamed B.named, fun w hw => atoms_spec (ws := ss_w yy_M_pop bb_M_pop 1 (some .long)) B.pre w (List.mem_cons_of_mem _ hw)⟩
  have hx := hC.1
  have hb := hC.2.1
  have hr := B.returns
  have hlocks := B.notSynchronized
  have hS : va_S (ss_A G) s.heap s.heap [] := va_S.rf
  have hl := lv_entry ([ss_v (ss_b G) this]) (n := 1) (by simp [lg_sl, ss_v_cat, ss_cat_i, ss_cat_l, ss_cat_r])
  rw [lg_entry_eq]
  generalize (lg_sl ([ss_v (ss_b G) this]) ++ List.replicate (1 - (lg_sl ([ss_v (ss_b G) this])).length) Slot.unset).toArray = ls at hl ⊢
  have hl : lv_has ls 1 [(0, ss_v (ss_b G) this)] := by simpa [lv_args, ss_v_cat, ss_cat_i, ss_cat_l, ss_cat_r] using hl
  refine ss_aload_n hx hb dd_M_pop_0 rfl (lv_at hl 0 rfl) ?_
  refine ss_dupr hx hb dd_M_pop_1 ?_
  obtain ⟨v1, qv1, hm⟩ := ss_bind hm
  refine ss_geti hC hK hR kf_M_292 qv1 dd_M_pop_2 ?_
  refine lv_iconst (v := 1) hx hb dd_M_pop_5 (by decide) ?_
  refine lv_isub hx hb dd_M_pop_6 ?_
  obtain ⟨h2, qh2, hm⟩ := ss_bind hm
  refine ss_puti hC hK hR hS kp_M_292 qh2 dd_M_pop_7 (fun H locs hR hS => ?_)
  refine ss_aload_n hx hb dd_M_pop_10 rfl (lv_at hl 0 rfl) ?_
  obtain ⟨r3, qr3, hm⟩ := ss_bind hm
  refine ss_getr hC hK hR kf_M_32 rfl qr3 dd_M_pop_11 ?_
  refine ss_aload_n hx hb dd_M_pop_14 rfl (lv_at hl 0 rfl) ?_
  obtain ⟨v4, qv4, hm⟩ := ss_bind hm
  refine ss_geti hC hK hR kf_M_292 qv4 dd_M_pop_15 ?_
  obtain ⟨v5, qv5, hm⟩ := ss_bind hm
  refine ss_lald hC hK hR qv5 dd_M_pop_18 ?_
  exact ss_lret hC hr hlocks hR hS hm dd_M_pop_19
theorem dd_M_one_0 : decode bb_M_one 0 = .ok (.iload_n 0, 1) := by decide +kernel
theorem dd_M_one_1 : decode bb_M_one 1 = .ok (.tableswitch 171 2 14 #[67, 71, 75, 79, 107, 119, 131, 143, 155, 171, 167, 171, 93], 67) := by decide +kernel
theorem dd_M_one_68 : decode bb_M_one 68 = .ok (.lload_n 1, 1) := by decide +kernel
theorem dd_M_one_69 : decode bb_M_one 69 = .ok (.lload_n 3, 1) := by decide +kernel
theorem dd_M_one_70 : decode bb_M_one 70 = .ok (.ladd, 1) := by decide +kernel
theorem dd_M_one_71 : decode bb_M_one 71 = .ok (.lreturn, 1) := by decide +kernel
theorem dd_M_one_72 : decode bb_M_one 72 = .ok (.lload_n 1, 1) := by decide +kernel
theorem dd_M_one_73 : decode bb_M_one 73 = .ok (.lload_n 3, 1) := by decide +kernel
theorem dd_M_one_74 : decode bb_M_one 74 = .ok (.lsub, 1) := by decide +kernel
theorem dd_M_one_75 : decode bb_M_one 75 = .ok (.lreturn, 1) := by decide +kernel
theorem dd_M_one_76 : decode bb_M_one 76 = .ok (.lload_n 1, 1) := by decide +kernel
theorem dd_M_one_77 : decode bb_M_one 77 = .ok (.lload_n 3, 1) := by decide +kernel
theorem dd_M_one_78 : decode bb_M_one 78 = .ok (.lmul, 1) := by decide +kernel
theorem dd_M_one_79 : decode bb_M_one 79 = .ok (.lreturn, 1) := by decide +kernel
theorem dd_M_one_80 : decode bb_M_one 80 = .ok (.lload_n 3, 1) := by decide +kernel
theorem dd_M_one_81 : decode bb_M_one 81 = .ok (.lconst 0, 1) := by decide +kernel
theorem dd_M_one_82 : decode bb_M_one 82 = .ok (.lcmp, 1) := by decide +kernel
theorem dd_M_one_83 : decode bb_M_one 83 = .ok (.ifCond .ne 7, 3) := by decide +kernel
theorem dd_M_one_86 : decode bb_M_one 86 = .ok (.lconst 0, 1) := by decide +kernel
theorem dd_M_one_87 : decode bb_M_one 87 = .ok (.goto 6, 3) := by decide +kernel
theorem dd_M_one_90 : decode bb_M_one 90 = .ok (.lload_n 1, 1) := by decide +kernel
theorem dd_M_one_91 : decode bb_M_one 91 = .ok (.lload_n 3, 1) := by decide +kernel
theorem dd_M_one_92 : decode bb_M_one 92 = .ok (.ldiv, 1) := by decide +kernel
theorem dd_M_one_93 : decode bb_M_one 93 = .ok (.lreturn, 1) := by decide +kernel
theorem dd_M_one_94 : decode bb_M_one 94 = .ok (.lload_n 3, 1) := by decide +kernel
theorem dd_M_one_95 : decode bb_M_one 95 = .ok (.lconst 0, 1) := by decide +kernel
theorem dd_M_one_96 : decode bb_M_one 96 = .ok (.lcmp, 1) := by decide +kernel
theorem dd_M_one_97 : decode bb_M_one 97 = .ok (.ifCond .ne 7, 3) := by decide +kernel
theorem dd_M_one_100 : decode bb_M_one 100 = .ok (.lconst 0, 1) := by decide +kernel
theorem dd_M_one_101 : decode bb_M_one 101 = .ok (.goto 6, 3) := by decide +kernel
theorem dd_M_one_104 : decode bb_M_one 104 = .ok (.lload_n 1, 1) := by decide +kernel
theorem dd_M_one_105 : decode bb_M_one 105 = .ok (.lload_n 3, 1) := by decide +kernel
theorem dd_M_one_106 : decode bb_M_one 106 = .ok (.lrem, 1) := by decide +kernel
theorem dd_M_one_107 : decode bb_M_one 107 = .ok (.lreturn, 1) := by decide +kernel
theorem dd_M_one_108 : decode bb_M_one 108 = .ok (.lload_n 1, 1) := by decide +kernel
theorem dd_M_one_109 : decode bb_M_one 109 = .ok (.lload_n 3, 1) := by decide +kernel
theorem dd_M_one_110 : decode bb_M_one 110 = .ok (.lcmp, 1) := by decide +kernel
theorem dd_M_one_111 : decode bb_M_one 111 = .ok (.ifCond .ge 7, 3) := by decide +kernel
theorem dd_M_one_114 : decode bb_M_one 114 = .ok (.lconst 1, 1) := by decide +kernel
theorem dd_M_one_115 : decode bb_M_one 115 = .ok (.goto 4, 3) := by decide +kernel
theorem dd_M_one_118 : decode bb_M_one 118 = .ok (.lconst 0, 1) := by decide +kernel
theorem dd_M_one_119 : decode bb_M_one 119 = .ok (.lreturn, 1) := by decide +kernel
theorem dd_M_one_120 : decode bb_M_one 120 = .ok (.lload_n 1, 1) := by decide +kernel
theorem dd_M_one_121 : decode bb_M_one 121 = .ok (.lload_n 3, 1) := by decide +kernel
theorem dd_M_one_122 : decode bb_M_one 122 = .ok (.lcmp, 1) := by decide +kernel
theorem dd_M_one_123 : decode bb_M_one 123 = .ok (.ifCond .gt 7, 3) := by decide +kernel
theorem dd_M_one_126 : decode bb_M_one 126 = .ok (.lconst 1, 1) := by decide +kernel
theorem dd_M_one_127 : decode bb_M_one 127 = .ok (.goto 4, 3) := by decide +kernel
theorem dd_M_one_130 : decode bb_M_one 130 = .ok (.lconst 0, 1) := by decide +kernel
theorem dd_M_one_131 : decode bb_M_one 131 = .ok (.lreturn, 1) := by decide +kernel
theorem dd_M_one_132 : decode bb_M_one 132 = .ok (.lload_n 1, 1) := by decide +kernel
theorem dd_M_one_133 : decode bb_M_one 133 = .ok (.lload_n 3, 1) := by decide +kernel
theorem dd_M_one_134 : decode bb_M_one 134 = .ok (.lcmp, 1) := by decide +kernel
theorem dd_M_one_135 : decode bb_M_one 135 = .ok (.ifCond .ne 7, 3) := by decide +kernel
theorem dd_M_one_138 : decode bb_M_one 138 = .ok (.lconst 1, 1) := by decide +kernel
theorem dd_M_one_139 : decode bb_M_one 139 = .ok (.goto 4, 3) := by decide +kernel
theorem dd_M_one_142 : decode bb_M_one 142 = .ok (.lconst 0, 1) := by decide +kernel
theorem dd_M_one_143 : decode bb_M_one 143 = .ok (.lreturn, 1) := by decide +kernel
theorem dd_M_one_144 : decode bb_M_one 144 = .ok (.lload_n 1, 1) := by decide +kernel
theorem dd_M_one_145 : decode bb_M_one 145 = .ok (.lload_n 3, 1) := by decide +kernel
theorem dd_M_one_146 : decode bb_M_one 146 = .ok (.lcmp, 1) := by decide +kernel
theorem dd_M_one_147 : decode bb_M_one 147 = .ok (.ifCond .lt 7, 3) := by decide +kernel
theorem dd_M_one_150 : decode bb_M_one 150 = .ok (.lconst 1, 1) := by decide +kernel
theorem dd_M_one_151 : decode bb_M_one 151 = .ok (.goto 4, 3) := by decide +kernel
theorem dd_M_one_154 : decode bb_M_one 154 = .ok (.lconst 0, 1) := by decide +kernel
theorem dd_M_one_155 : decode bb_M_one 155 = .ok (.lreturn, 1) := by decide +kernel
theorem dd_M_one_156 : decode bb_M_one 156 = .ok (.lload_n 1, 1) := by decide +kernel
theorem dd_M_one_157 : decode bb_M_one 157 = .ok (.lload_n 3, 1) := by decide +kernel
theorem dd_M_one_158 : decode bb_M_one 158 = .ok (.lcmp, 1) := by decide +kernel
theorem dd_M_one_159 : decode bb_M_one 159 = .ok (.ifCond .le 7, 3) := by decide +kernel
theorem dd_M_one_162 : decode bb_M_one 162 = .ok (.lconst 1, 1) := by decide +kernel
theorem dd_M_one_163 : decode bb_M_one 163 = .ok (.goto 4, 3) := by decide +kernel
theorem dd_M_one_166 : decode bb_M_one 166 = .ok (.lconst 0, 1) := by decide +kernel
theorem dd_M_one_167 : decode bb_M_one 167 = .ok (.lreturn, 1) := by decide +kernel
theorem dd_M_one_168 : decode bb_M_one 168 = .ok (.lload_n 1, 1) := by decide +kernel
theorem dd_M_one_169 : decode bb_M_one 169 = .ok (.lload_n 3, 1) := by decide +kernel
theorem dd_M_one_170 : decode bb_M_one 170 = .ok (.land, 1) := by decide +kernel
theorem dd_M_one_171 : decode bb_M_one 171 = .ok (.lreturn, 1) := by decide +kernel
theorem dd_M_one_172 : decode bb_M_one 172 = .ok (.lload_n 1, 1) := by decide +kernel
theorem dd_M_one_173 : decode bb_M_one 173 = .ok (.lload_n 3, 1) := by decide +kernel
theorem dd_M_one_174 : decode bb_M_one 174 = .ok (.lor, 1) := by decide +kernel
theorem dd_M_one_175 : decode bb_M_one 175 = .ok (.lreturn, 1) := by decide +kernel
def mm_M_one_j93 (N : Nat) (a1 : Int32) (a2 : Int64) (a3 : Int64) (s0_93 : Int64) : Option Int64 :=
  some s0_93
def mm_M_one_j107 (N : Nat) (a1 : Int32) (a2 : Int64) (a3 : Int64) (s0_107 : Int64) : Option Int64 :=
  some s0_107
def mm_M_one_j119 (N : Nat) (a1 : Int32) (a2 : Int64) (a3 : Int64) (s0_119 : Int64) : Option Int64 :=
  some s0_119
def mm_M_one_j131 (N : Nat) (a1 : Int32) (a2 : Int64) (a3 : Int64) (s0_131 : Int64) : Option Int64 :=
  some s0_131
def mm_M_one_j143 (N : Nat) (a1 : Int32) (a2 : Int64) (a3 : Int64) (s0_143 : Int64) : Option Int64 :=
  some s0_143
def mm_M_one_j155 (N : Nat) (a1 : Int32) (a2 : Int64) (a3 : Int64) (s0_155 : Int64) : Option Int64 :=
  some s0_155
def mm_M_one_j167 (N : Nat) (a1 : Int32) (a2 : Int64) (a3 : Int64) (s0_167 : Int64) : Option Int64 :=
  some s0_167
def mm_M_one_j172 (N : Nat) (a1 : Int32) (a2 : Int64) (a3 : Int64) : Option Int64 :=
  some (a2 ||| a3)
def mm_M_one (N : Nat) (a1 : Int32) (a2 : Int64) (a3 : Int64) : Option Int64 :=
  if a1 = (2 : Int32) then
    some (a2 + a3)
  else
  if a1 = (3 : Int32) then
    some (a2 - a3)
  else
  if a1 = (4 : Int32) then
    some (a2 * a3)
  else
  if a1 = (5 : Int32) then
    if (lg_cmp a3 (0 : Int64)) = 0 then
      mm_M_one_j93 N a1 a2 a3 (0 : Int64)
    else
      (ss_ldiv a2 a3).bind fun v6 =>
      mm_M_one_j93 N a1 a2 a3 v6
  else
  if a1 = (6 : Int32) then
    if 0 ≤ (lg_cmp a2 a3) then
      mm_M_one_j119 N a1 a2 a3 (0 : Int64)
    else
      mm_M_one_j119 N a1 a2 a3 (1 : Int64)
  else
  if a1 = (7 : Int32) then
    if 0 < (lg_cmp a2 a3) then
      mm_M_one_j131 N a1 a2 a3 (0 : Int64)
    else
      mm_M_one_j131 N a1 a2 a3 (1 : Int64)
  else
  if a1 = (8 : Int32) then
    if (lg_cmp a2 a3) = 0 then
      mm_M_one_j143 N a1 a2 a3 (1 : Int64)
    else
      mm_M_one_j143 N a1 a2 a3 (0 : Int64)
  else
  if a1 = (9 : Int32) then
    if (lg_cmp a2 a3) < 0 then
      mm_M_one_j155 N a1 a2 a3 (0 : Int64)
    else
      mm_M_one_j155 N a1 a2 a3 (1 : Int64)
  else
  if a1 = (10 : Int32) then
    if (lg_cmp a2 a3) ≤ 0 then
      mm_M_one_j167 N a1 a2 a3 (0 : Int64)
    else
      mm_M_one_j167 N a1 a2 a3 (1 : Int64)
  else
  if a1 = (11 : Int32) then
    mm_M_one_j172 N a1 a2 a3
  else
  if a1 = (12 : Int32) then
    some (a2 &&& a3)
  else
  if a1 = (13 : Int32) then
    mm_M_one_j172 N a1 a2 a3
  else
  if a1 = (14 : Int32) then
    if (lg_cmp a3 (0 : Int64)) = 0 then
      mm_M_one_j107 N a1 a2 a3 (0 : Int64)
    else
      (ss_lrem a2 a3).bind fun v22 =>
      mm_M_one_j107 N a1 a2 a3 v22
  else
  mm_M_one_j172 N a1 a2 a3
abbrev ww_M_one (p : Program) (l : Launch) (e : Env) (s : State) (m : MethodId) (below : List Frame) (meth : Method) (c : Code) (G : ss_G) (a1 : Int32) (a2 : Int64) (a3 : Int64) (h : ss_Hp) (rr : Int64) (H : Heap) (locs : List Loc) (k n : Nat) (g : JFrame) : Prop := W p l e (headSpec (ss_w yy_M_one bb_M_one 5 (some .long)) ({ frames := 0, cells := 0, slots := 0, locals := 0 })).room s m ([.int a1, .long a2, .long a3] : List Value).toArray below meth c H locs k n (MQ below (ss_Qc G (some (.long rr)) h) ([.int a1, .long a2, .long a3] : List Value).toArray s 0 0 (ss_A G)) g
set_option maxHeartbeats 4000000 in
set_option maxRecDepth 100000 in
theorem cc_M_one (l : Launch) (G : ss_G) (N : Nat) (a1 : Int32) (a2 : Int64) (a3 : Int64) (h : ss_Hp) (rr : Int64) (hm : mm_M_one N a1 a2 a3 = some rr) : ss_Ct l G yy_M_one bb_M_one 5 (some .long) ({ frames := 0, cells := 0, slots := 0, locals := 0 }) [.int a1, .long a2, .long a3] h (some (.long rr)) h := by
  refine Met.ofW (cc := bb_M_one) (maxL := 5) (ret := (some .long)) (by decide) rfl ?_
  intro p e s m args below meth c s₁ B hml hv
  obtain ⟨rfl, hR, hK⟩ := hv
  have hC : CallFix p m c bb_M_one 5 s _ lw_g sR_12 := ⟨B.exec, B.bytes, hml, findClass_of_methodNamed B.named, fun w hw => atoms_spec (ws := ss_w yy_M_one bb_M_one 5 (some .long)) B.pre w (List.mem_cons_of_mem _ hw)⟩
  have hx := hC.1
  have hb := hC.2.1
  have hr := B.returns
  have hlocks := B.notSynchronized
  have hS : va_S (ss_A G) s.heap s.heap [] := va_S.rf
  have hl := lv_entry ([.int a1, .long a2, .long a3]) (n := 5) (Nat.le_of_ble_eq_true rfl)
  rw [lg_entry_eq]
  generalize (lg_sl ([.int a1, .long a2, .long a3]) ++ List.replicate (5 - (lg_sl ([.int a1, .long a2, .long a3])).length) Slot.unset).toArray = ls at hl ⊢
  have hl : lv_has ls 5 [(0, .int a1), (1, .long a2), (3, .long a3)] := hl
  have J_93 : ∀ (s0_93 : Int64) (H : Heap) (locs : List Loc) (ls : Array Slot), mm_M_one_j93 N a1 a2 a3 s0_93 = some rr → ss_R G h H → va_S (ss_A G) s.heap H locs → lv_has ls 5 [] → ww_M_one p l e s m below meth c G a1 a2 a3 h rr  H locs 0 0 (F0 m 93 ls [.long s0_93]) := by
    intro s0_93 H locs ls hm hR hS hl
    exact ss_lret hC hr hlocks hR hS (ss_withl _ hm) dd_M_one_93
  have J_107 : ∀ (s0_107 : Int64) (H : Heap) (locs : List Loc) (ls : Array Slot), mm_M_one_j107 N a1 a2 a3 s0_107 = some rr → ss_R G h H → va_S (ss_A G) s.heap H locs → lv_has ls 5 [] → ww_M_one p l e s m below meth c G a1 a2 a3 h rr  H locs 0 0 (F0 m 107 ls [.long s0_107]) := by
    intro s0_107 H locs ls hm hR hS hl
    exact ss_lret hC hr hlocks hR hS (ss_withl _ hm) dd_M_one_107
  have J_119 : ∀ (s0_119 : Int64) (H : Heap) (locs : List Loc) (ls : Array Slot), mm_M_one_j119 N a1 a2 a3 s0_119 = some rr → ss_R G h H → va_S (ss_A G) s.heap H locs → lv_has ls 5 [] → ww_M_one p l e s m below meth c G a1 a2 a3 h rr  H locs 0 0 (F0 m 119 ls [.long s0_119]) := by
    intro s0_119 H locs ls hm hR hS hl
    exact ss_lret hC hr hlocks hR hS (ss_withl _ hm) dd_M_one_119
  have J_131 : ∀ (s0_131 : Int64) (H : Heap) (locs : List Loc) (ls : Array Slot), mm_M_one_j131 N a1 a2 a3 s0_131 = some rr → ss_R G h H → va_S (ss_A G) s.heap H locs → lv_has ls 5 [] → ww_M_one p l e s m below meth c G a1 a2 a3 h rr  H locs 0 0 (F0 m 131 ls [.long s0_131]) := by
    intro s0_131 H locs ls hm hR hS hl
    exact ss_lret hC hr hlocks hR hS (ss_withl _ hm) dd_M_one_131
  have J_143 : ∀ (s0_143 : Int64) (H : Heap) (locs : List Loc) (ls : Array Slot), mm_M_one_j143 N a1 a2 a3 s0_143 = some rr → ss_R G h H → va_S (ss_A G) s.heap H locs → lv_has ls 5 [] → ww_M_one p l e s m below meth c G a1 a2 a3 h rr  H locs 0 0 (F0 m 143 ls [.long s0_143]) := by
    intro s0_143 H locs ls hm hR hS hl
    exact ss_lret hC hr hlocks hR hS (ss_withl _ hm) dd_M_one_143
  have J_155 : ∀ (s0_155 : Int64) (H : Heap) (locs : List Loc) (ls : Array Slot), mm_M_one_j155 N a1 a2 a3 s0_155 = some rr → ss_R G h H → va_S (ss_A G) s.heap H locs → lv_has ls 5 [] → ww_M_one p l e s m below meth c G a1 a2 a3 h rr  H locs 0 0 (F0 m 155 ls [.long s0_155]) := by
    intro s0_155 H locs ls hm hR hS hl
    exact ss_lret hC hr hlocks hR hS (ss_withl _ hm) dd_M_one_155
  have J_167 : ∀ (s0_167 : Int64) (H : Heap) (locs : List Loc) (ls : Array Slot), mm_M_one_j167 N a1 a2 a3 s0_167 = some rr → ss_R G h H → va_S (ss_A G) s.heap H locs → lv_has ls 5 [] → ww_M_one p l e s m below meth c G a1 a2 a3 h rr  H locs 0 0 (F0 m 167 ls [.long s0_167]) := by
    intro s0_167 H locs ls hm hR hS hl
    exact ss_lret hC hr hlocks hR hS (ss_withl _ hm) dd_M_one_167
  have J_172 : ∀  (H : Heap) (locs : List Loc) (ls : Array Slot), mm_M_one_j172 N a1 a2 a3 = some rr → ss_R G h H → va_S (ss_A G) s.heap H locs → lv_has ls 5 [(1, .long a2), (3, .long a3)] → ww_M_one p l e s m below meth c G a1 a2 a3 h rr  H locs 0 0 (F0 m 172 ls []) := by
    intro  H locs ls hm hR hS hl
    refine lv_lload_n hx hb dd_M_one_172 rfl (lv_at hl 0 rfl) ?_
    refine lv_lload_n hx hb dd_M_one_173 rfl (lv_at hl 1 rfl) ?_
    refine lv_lor hx hb dd_M_one_174 ?_
    exact ss_lret hC hr hlocks hR hS (ss_withl _ hm) dd_M_one_175
  refine lv_iload_n hx hb dd_M_one_0 rfl (lv_at hl 0 rfl) ?_
  by_cases c1 : a1 = (2 : Int32)
  · have hm := ss_ift hm c1
    refine lv_tableIn (tgt := 68) hx hb dd_M_one_1 (by rw [c1]; decide) (by rw [c1]; decide) (by rw [c1]; rfl) (by decide) ?_
    refine lv_lload_n hx hb dd_M_one_68 rfl (lv_at hl 1 rfl) ?_
    refine lv_lload_n hx hb dd_M_one_69 rfl (lv_at hl 2 rfl) ?_
    refine lv_ladd hx hb dd_M_one_70 ?_
    exact ss_lret hC hr hlocks hR hS (ss_withl _ hm) dd_M_one_71
  have hm := ss_iff hm c1
  by_cases c2 : a1 = (3 : Int32)
  · have hm := ss_ift hm c2
    refine lv_tableIn (tgt := 72) hx hb dd_M_one_1 (by rw [c2]; decide) (by rw [c2]; decide) (by rw [c2]; rfl) (by decide) ?_
    refine lv_lload_n hx hb dd_M_one_72 rfl (lv_at hl 1 rfl) ?_
    refine lv_lload_n hx hb dd_M_one_73 rfl (lv_at hl 2 rfl) ?_
    refine lv_lsub hx hb dd_M_one_74 ?_
    exact ss_lret hC hr hlocks hR hS (ss_withl _ hm) dd_M_one_75
  have hm := ss_iff hm c2
  by_cases c3 : a1 = (4 : Int32)
  · have hm := ss_ift hm c3
    refine lv_tableIn (tgt := 76) hx hb dd_M_one_1 (by rw [c3]; decide) (by rw [c3]; decide) (by rw [c3]; rfl) (by decide) ?_
    refine lv_lload_n hx hb dd_M_one_76 rfl (lv_at hl 1 rfl) ?_
    refine lv_lload_n hx hb dd_M_one_77 rfl (lv_at hl 2 rfl) ?_
    refine lv_lmul hx hb dd_M_one_78 ?_
    exact ss_lret hC hr hlocks hR hS (ss_withl _ hm) dd_M_one_79
  have hm := ss_iff hm c3
  by_cases c4 : a1 = (5 : Int32)
  · have hm := ss_ift hm c4
    refine lv_tableIn (tgt := 80) hx hb dd_M_one_1 (by rw [c4]; decide) (by rw [c4]; decide) (by rw [c4]; rfl) (by decide) ?_
    refine lv_lload_n hx hb dd_M_one_80 rfl (lv_at hl 2 rfl) ?_
    refine lv_lconst (v := 0) hx hb dd_M_one_81 (by decide) ?_
    refine W.lcmp hx hb dd_M_one_82 ?_
    refine lv_if_ne (tgt := 90) hx hb dd_M_one_83 (by decide) (fun c5 => ?_) (fun c5 => ?_)
    · have hm := ss_iff hm c5
      refine lv_lload_n hx hb dd_M_one_90 rfl (lv_at hl 1 rfl) ?_
      refine lv_lload_n hx hb dd_M_one_91 rfl (lv_at hl 2 rfl) ?_
      obtain ⟨v6, qv6, hm⟩ := ss_bind hm
      refine ss_ldv hx hb qv6 dd_M_one_92 ?_
      exact J_93 v6  _ _ _ hm hR hS (lv_sub hl [] rfl)
    · have hm := ss_ift hm c5
      refine lv_lconst (v := 0) hx hb dd_M_one_86 (by decide) ?_
      refine lv_goto (tgt := 93) hx hb dd_M_one_87 (by decide) ?_
      exact J_93 (0 : Int64)  _ _ _ hm hR hS (lv_sub hl [] rfl)
  have hm := ss_iff hm c4
  by_cases c7 : a1 = (6 : Int32)
  · have hm := ss_ift hm c7
    refine lv_tableIn (tgt := 108) hx hb dd_M_one_1 (by rw [c7]; decide) (by rw [c7]; decide) (by rw [c7]; rfl) (by decide) ?_
    refine lv_lload_n hx hb dd_M_one_108 rfl (lv_at hl 1 rfl) ?_
    refine lv_lload_n hx hb dd_M_one_109 rfl (lv_at hl 2 rfl) ?_
    refine W.lcmp hx hb dd_M_one_110 ?_
    refine lv_if_ge (tgt := 118) hx hb dd_M_one_111 (by decide) (fun c8 => ?_) (fun c8 => ?_)
    · have hm := ss_ift hm c8
      refine lv_lconst (v := 0) hx hb dd_M_one_118 (by decide) ?_
      exact J_119 (0 : Int64)  _ _ _ hm hR hS (lv_sub hl [] rfl)
    · have hm := ss_iff hm c8
      refine lv_lconst (v := 1) hx hb dd_M_one_114 (by decide) ?_
      refine lv_goto (tgt := 119) hx hb dd_M_one_115 (by decide) ?_
      exact J_119 (1 : Int64)  _ _ _ hm hR hS (lv_sub hl [] rfl)
  have hm := ss_iff hm c7
  by_cases c9 : a1 = (7 : Int32)
  · have hm := ss_ift hm c9
    refine lv_tableIn (tgt := 120) hx hb dd_M_one_1 (by rw [c9]; decide) (by rw [c9]; decide) (by rw [c9]; rfl) (by decide) ?_
    refine lv_lload_n hx hb dd_M_one_120 rfl (lv_at hl 1 rfl) ?_
    refine lv_lload_n hx hb dd_M_one_121 rfl (lv_at hl 2 rfl) ?_
    refine W.lcmp hx hb dd_M_one_122 ?_
    refine lv_if_gt (tgt := 130) hx hb dd_M_one_123 (by decide) (fun c10 => ?_) (fun c10 => ?_)
    · have hm := ss_ift hm c10
      refine lv_lconst (v := 0) hx hb dd_M_one_130 (by decide) ?_
      exact J_131 (0 : Int64)  _ _ _ hm hR hS (lv_sub hl [] rfl)
    · have hm := ss_iff hm c10
      refine lv_lconst (v := 1) hx hb dd_M_one_126 (by decide) ?_
      refine lv_goto (tgt := 131) hx hb dd_M_one_127 (by decide) ?_
      exact J_131 (1 : Int64)  _ _ _ hm hR hS (lv_sub hl [] rfl)
  have hm := ss_iff hm c9
  by_cases c11 : a1 = (8 : Int32)
  · have hm := ss_ift hm c11
    refine lv_tableIn (tgt := 132) hx hb dd_M_one_1 (by rw [c11]; decide) (by rw [c11]; decide) (by rw [c11]; rfl) (by decide) ?_
    refine lv_lload_n hx hb dd_M_one_132 rfl (lv_at hl 1 rfl) ?_
    refine lv_lload_n hx hb dd_M_one_133 rfl (lv_at hl 2 rfl) ?_
    refine W.lcmp hx hb dd_M_one_134 ?_
    refine lv_if_ne (tgt := 142) hx hb dd_M_one_135 (by decide) (fun c12 => ?_) (fun c12 => ?_)
    · have hm := ss_iff hm c12
      refine lv_lconst (v := 0) hx hb dd_M_one_142 (by decide) ?_
      exact J_143 (0 : Int64)  _ _ _ hm hR hS (lv_sub hl [] rfl)
    · have hm := ss_ift hm c12
      refine lv_lconst (v := 1) hx hb dd_M_one_138 (by decide) ?_
      refine lv_goto (tgt := 143) hx hb dd_M_one_139 (by decide) ?_
      exact J_143 (1 : Int64)  _ _ _ hm hR hS (lv_sub hl [] rfl)
  have hm := ss_iff hm c11
  by_cases c13 : a1 = (9 : Int32)
  · have hm := ss_ift hm c13
    refine lv_tableIn (tgt := 144) hx hb dd_M_one_1 (by rw [c13]; decide) (by rw [c13]; decide) (by rw [c13]; rfl) (by decide) ?_
    refine lv_lload_n hx hb dd_M_one_144 rfl (lv_at hl 1 rfl) ?_
    refine lv_lload_n hx hb dd_M_one_145 rfl (lv_at hl 2 rfl) ?_
    refine W.lcmp hx hb dd_M_one_146 ?_
    refine lv_if_lt (tgt := 154) hx hb dd_M_one_147 (by decide) (fun c14 => ?_) (fun c14 => ?_)
    · have hm := ss_ift hm c14
      refine lv_lconst (v := 0) hx hb dd_M_one_154 (by decide) ?_
      exact J_155 (0 : Int64)  _ _ _ hm hR hS (lv_sub hl [] rfl)
    · have hm := ss_iff hm c14
      refine lv_lconst (v := 1) hx hb dd_M_one_150 (by decide) ?_
      refine lv_goto (tgt := 155) hx hb dd_M_one_151 (by decide) ?_
      exact J_155 (1 : Int64)  _ _ _ hm hR hS (lv_sub hl [] rfl)
  have hm := ss_iff hm c13
  by_cases c15 : a1 = (10 : Int32)
  · have hm := ss_ift hm c15
    refine lv_tableIn (tgt := 156) hx hb dd_M_one_1 (by rw [c15]; decide) (by rw [c15]; decide) (by rw [c15]; rfl) (by decide) ?_
    refine lv_lload_n hx hb dd_M_one_156 rfl (lv_at hl 1 rfl) ?_
    refine lv_lload_n hx hb dd_M_one_157 rfl (lv_at hl 2 rfl) ?_
    refine W.lcmp hx hb dd_M_one_158 ?_
    refine lv_if_le (tgt := 166) hx hb dd_M_one_159 (by decide) (fun c16 => ?_) (fun c16 => ?_)
    · have hm := ss_ift hm c16
      refine lv_lconst (v := 0) hx hb dd_M_one_166 (by decide) ?_
      exact J_167 (0 : Int64)  _ _ _ hm hR hS (lv_sub hl [] rfl)
    · have hm := ss_iff hm c16
      refine lv_lconst (v := 1) hx hb dd_M_one_162 (by decide) ?_
      refine lv_goto (tgt := 167) hx hb dd_M_one_163 (by decide) ?_
      exact J_167 (1 : Int64)  _ _ _ hm hR hS (lv_sub hl [] rfl)
  have hm := ss_iff hm c15
  by_cases c17 : a1 = (11 : Int32)
  · have hm := ss_ift hm c17
    refine lv_tableIn (tgt := 172) hx hb dd_M_one_1 (by rw [c17]; decide) (by rw [c17]; decide) (by rw [c17]; rfl) (by decide) ?_
    exact J_172  _ _ _ hm hR hS (lv_sub hl [1, 2] rfl)
  have hm := ss_iff hm c17
  by_cases c18 : a1 = (12 : Int32)
  · have hm := ss_ift hm c18
    refine lv_tableIn (tgt := 168) hx hb dd_M_one_1 (by rw [c18]; decide) (by rw [c18]; decide) (by rw [c18]; rfl) (by decide) ?_
    refine lv_lload_n hx hb dd_M_one_168 rfl (lv_at hl 1 rfl) ?_
    refine lv_lload_n hx hb dd_M_one_169 rfl (lv_at hl 2 rfl) ?_
    refine lv_land hx hb dd_M_one_170 ?_
    exact ss_lret hC hr hlocks hR hS (ss_withl _ hm) dd_M_one_171
  have hm := ss_iff hm c18
  by_cases c19 : a1 = (13 : Int32)
  · have hm := ss_ift hm c19
    refine lv_tableIn (tgt := 172) hx hb dd_M_one_1 (by rw [c19]; decide) (by rw [c19]; decide) (by rw [c19]; rfl) (by decide) ?_
    exact J_172  _ _ _ hm hR hS (lv_sub hl [1, 2] rfl)
  have hm := ss_iff hm c19
  by_cases c20 : a1 = (14 : Int32)
  · have hm := ss_ift hm c20
    refine lv_tableIn (tgt := 94) hx hb dd_M_one_1 (by rw [c20]; decide) (by rw [c20]; decide) (by rw [c20]; rfl) (by decide) ?_
    refine lv_lload_n hx hb dd_M_one_94 rfl (lv_at hl 2 rfl) ?_
    refine lv_lconst (v := 0) hx hb dd_M_one_95 (by decide) ?_
    refine W.lcmp hx hb dd_M_one_96 ?_
    refine lv_if_ne (tgt := 104) hx hb dd_M_one_97 (by decide) (fun c21 => ?_) (fun c21 => ?_)
    · have hm := ss_iff hm c21
      refine lv_lload_n hx hb dd_M_one_104 rfl (lv_at hl 1 rfl) ?_
      refine lv_lload_n hx hb dd_M_one_105 rfl (lv_at hl 2 rfl) ?_
      obtain ⟨v22, qv22, hm⟩ := ss_bind hm
      refine ss_lrm hx hb qv22 dd_M_one_106 ?_
      exact J_107 v22  _ _ _ hm hR hS (lv_sub hl [] rfl)
    · have hm := ss_ift hm c21
      refine lv_lconst (v := 0) hx hb dd_M_one_100 (by decide) ?_
      refine lv_goto (tgt := 107) hx hb dd_M_one_101 (by decide) ?_
      exact J_107 (0 : Int64)  _ _ _ hm hR hS (lv_sub hl [] rfl)
  have hm := ss_iff hm c20
  have nc1 := lv_neT (a := 2) c1 (by decide)
  have nc2 := lv_neT (a := 3) c2 (by decide)
  have nc3 := lv_neT (a := 4) c3 (by decide)
  have nc4 := lv_neT (a := 5) c4 (by decide)
  have nc7 := lv_neT (a := 6) c7 (by decide)
  have nc9 := lv_neT (a := 7) c9 (by decide)
  have nc11 := lv_neT (a := 8) c11 (by decide)
  have nc13 := lv_neT (a := 9) c13 (by decide)
  have nc15 := lv_neT (a := 10) c15 (by decide)
  have nc17 := lv_neT (a := 11) c17 (by decide)
  have nc18 := lv_neT (a := 12) c18 (by decide)
  have nc19 := lv_neT (a := 13) c19 (by decide)
  have nc20 := lv_neT (a := 14) c20 (by decide)
  refine lv_tableOut (tgt := 172) hx hb dd_M_one_1 (by omega) (by decide) ?_
  exact J_172  _ _ _ hm hR hS (lv_sub hl [1, 2] rfl)
theorem dd_M_reckons_0 : decode bb_M_reckons 0 = .ok (.aload_n 0, 1) := by decide +kernel
theorem dd_M_reckons_1 : decode bb_M_reckons 1 = .ok (.iconst 0, 1) := by decide +kernel
theorem dd_M_reckons_2 : decode bb_M_reckons 2 = .ok (.putfield 292, 3) := by decide +kernel
theorem dd_M_reckons_5 : decode bb_M_reckons 5 = .ok (.iload_n 2, 1) := by decide +kernel
theorem dd_M_reckons_6 : decode bb_M_reckons 6 = .ok (.istore 4, 2) := by decide +kernel
theorem dd_M_reckons_8 : decode bb_M_reckons 8 = .ok (.iload 4, 2) := by decide +kernel
theorem dd_M_reckons_10 : decode bb_M_reckons 10 = .ok (.iload_n 3, 1) := by decide +kernel
theorem dd_M_reckons_11 : decode bb_M_reckons 11 = .ok (.if_icmp .ge 124, 3) := by decide +kernel
theorem dd_M_reckons_14 : decode bb_M_reckons 14 = .ok (.aload_n 0, 1) := by decide +kernel
theorem dd_M_reckons_15 : decode bb_M_reckons 15 = .ok (.getfield 13, 3) := by decide +kernel
theorem dd_M_reckons_18 : decode bb_M_reckons 18 = .ok (.sipush 400, 3) := by decide +kernel
theorem dd_M_reckons_21 : decode bb_M_reckons 21 = .ok (.iload_n 1, 1) := by decide +kernel
theorem dd_M_reckons_22 : decode bb_M_reckons 22 = .ok (.imul, 1) := by decide +kernel
theorem dd_M_reckons_23 : decode bb_M_reckons 23 = .ok (.iload 4, 2) := by decide +kernel
theorem dd_M_reckons_25 : decode bb_M_reckons 25 = .ok (.iadd, 1) := by decide +kernel
theorem dd_M_reckons_26 : decode bb_M_reckons 26 = .ok (.iaload, 1) := by decide +kernel
theorem dd_M_reckons_27 : decode bb_M_reckons 27 = .ok (.bipush 15, 2) := by decide +kernel
theorem dd_M_reckons_29 : decode bb_M_reckons 29 = .ok (.iand, 1) := by decide +kernel
theorem dd_M_reckons_30 : decode bb_M_reckons 30 = .ok (.istore 5, 2) := by decide +kernel
theorem dd_M_reckons_32 : decode bb_M_reckons 32 = .ok (.aload_n 0, 1) := by decide +kernel
theorem dd_M_reckons_33 : decode bb_M_reckons 33 = .ok (.getfield 13, 3) := by decide +kernel
theorem dd_M_reckons_36 : decode bb_M_reckons 36 = .ok (.sipush 400, 3) := by decide +kernel
theorem dd_M_reckons_39 : decode bb_M_reckons 39 = .ok (.iload_n 1, 1) := by decide +kernel
theorem dd_M_reckons_40 : decode bb_M_reckons 40 = .ok (.imul, 1) := by decide +kernel
theorem dd_M_reckons_41 : decode bb_M_reckons 41 = .ok (.iload 4, 2) := by decide +kernel
theorem dd_M_reckons_43 : decode bb_M_reckons 43 = .ok (.iadd, 1) := by decide +kernel
theorem dd_M_reckons_44 : decode bb_M_reckons 44 = .ok (.iaload, 1) := by decide +kernel
theorem dd_M_reckons_45 : decode bb_M_reckons 45 = .ok (.iconst 4, 1) := by decide +kernel
theorem dd_M_reckons_46 : decode bb_M_reckons 46 = .ok (.ishr, 1) := by decide +kernel
theorem dd_M_reckons_47 : decode bb_M_reckons 47 = .ok (.istore 6, 2) := by decide +kernel
theorem dd_M_reckons_49 : decode bb_M_reckons 49 = .ok (.iload 5, 2) := by decide +kernel
theorem dd_M_reckons_51 : decode bb_M_reckons 51 = .ok (.ifCond .ne 13, 3) := by decide +kernel
theorem dd_M_reckons_54 : decode bb_M_reckons 54 = .ok (.aload_n 0, 1) := by decide +kernel
theorem dd_M_reckons_55 : decode bb_M_reckons 55 = .ok (.iload 6, 2) := by decide +kernel
theorem dd_M_reckons_57 : decode bb_M_reckons 57 = .ok (.i2l, 1) := by decide +kernel
theorem dd_M_reckons_58 : decode bb_M_reckons 58 = .ok (.invokevirtual 295, 3) := by decide +kernel
theorem dd_M_reckons_61 : decode bb_M_reckons 61 = .ok (.goto 68, 3) := by decide +kernel
theorem dd_M_reckons_64 : decode bb_M_reckons 64 = .ok (.iload 5, 2) := by decide +kernel
theorem dd_M_reckons_66 : decode bb_M_reckons 66 = .ok (.iconst 1, 1) := by decide +kernel
theorem dd_M_reckons_67 : decode bb_M_reckons 67 = .ok (.if_icmp .ne 17, 3) := by decide +kernel
theorem dd_M_reckons_70 : decode bb_M_reckons 70 = .ok (.aload_n 0, 1) := by decide +kernel
theorem dd_M_reckons_71 : decode bb_M_reckons 71 = .ok (.aload_n 0, 1) := by decide +kernel
theorem dd_M_reckons_72 : decode bb_M_reckons 72 = .ok (.getfield 36, 3) := by decide +kernel
theorem dd_M_reckons_75 : decode bb_M_reckons 75 = .ok (.iload 6, 2) := by decide +kernel
theorem dd_M_reckons_77 : decode bb_M_reckons 77 = .ok (.laload, 1) := by decide +kernel
theorem dd_M_reckons_78 : decode bb_M_reckons 78 = .ok (.invokevirtual 295, 3) := by decide +kernel
theorem dd_M_reckons_81 : decode bb_M_reckons 81 = .ok (.goto 48, 3) := by decide +kernel
theorem dd_M_reckons_84 : decode bb_M_reckons 84 = .ok (.iload 5, 2) := by decide +kernel
theorem dd_M_reckons_86 : decode bb_M_reckons 86 = .ok (.bipush 11, 2) := by decide +kernel
theorem dd_M_reckons_88 : decode bb_M_reckons 88 = .ok (.if_icmp .ne 16, 3) := by decide +kernel
theorem dd_M_reckons_91 : decode bb_M_reckons 91 = .ok (.aload_n 0, 1) := by decide +kernel
theorem dd_M_reckons_92 : decode bb_M_reckons 92 = .ok (.lconst 1, 1) := by decide +kernel
theorem dd_M_reckons_93 : decode bb_M_reckons 93 = .ok (.aload_n 0, 1) := by decide +kernel
theorem dd_M_reckons_94 : decode bb_M_reckons 94 = .ok (.invokevirtual 299, 3) := by decide +kernel
theorem dd_M_reckons_97 : decode bb_M_reckons 97 = .ok (.lsub, 1) := by decide +kernel
theorem dd_M_reckons_98 : decode bb_M_reckons 98 = .ok (.invokevirtual 295, 3) := by decide +kernel
theorem dd_M_reckons_101 : decode bb_M_reckons 101 = .ok (.goto 28, 3) := by decide +kernel
theorem dd_M_reckons_104 : decode bb_M_reckons 104 = .ok (.aload_n 0, 1) := by decide +kernel
theorem dd_M_reckons_105 : decode bb_M_reckons 105 = .ok (.invokevirtual 299, 3) := by decide +kernel
theorem dd_M_reckons_108 : decode bb_M_reckons 108 = .ok (.lstore 7, 2) := by decide +kernel
theorem dd_M_reckons_110 : decode bb_M_reckons 110 = .ok (.aload_n 0, 1) := by decide +kernel
theorem dd_M_reckons_111 : decode bb_M_reckons 111 = .ok (.invokevirtual 299, 3) := by decide +kernel
theorem dd_M_reckons_114 : decode bb_M_reckons 114 = .ok (.lstore 9, 2) := by decide +kernel
theorem dd_M_reckons_116 : decode bb_M_reckons 116 = .ok (.aload_n 0, 1) := by decide +kernel
theorem dd_M_reckons_117 : decode bb_M_reckons 117 = .ok (.iload 5, 2) := by decide +kernel
theorem dd_M_reckons_119 : decode bb_M_reckons 119 = .ok (.lload 9, 2) := by decide +kernel
theorem dd_M_reckons_121 : decode bb_M_reckons 121 = .ok (.lload 7, 2) := by decide +kernel
theorem dd_M_reckons_123 : decode bb_M_reckons 123 = .ok (.invokestatic 303, 3) := by decide +kernel
theorem dd_M_reckons_126 : decode bb_M_reckons 126 = .ok (.invokevirtual 295, 3) := by decide +kernel
theorem dd_M_reckons_129 : decode bb_M_reckons 129 = .ok (.iinc 4 1, 3) := by decide +kernel
theorem dd_M_reckons_132 : decode bb_M_reckons 132 = .ok (.goto (-124), 3) := by decide +kernel
theorem dd_M_reckons_135 : decode bb_M_reckons 135 = .ok (.aload_n 0, 1) := by decide +kernel
theorem dd_M_reckons_136 : decode bb_M_reckons 136 = .ok (.invokevirtual 299, 3) := by decide +kernel
theorem dd_M_reckons_139 : decode bb_M_reckons 139 = .ok (.lreturn, 1) := by decide +kernel
def mm_M_reckons_j129 (N : Nat) (this : Option Nat) (a1 : Int32) (a3 : Int32) (x4_129 : Int32) (h_129 : ss_Hp) : Option ((Int32 × ss_Hp) ⊕ ss_Hp) :=
  (some (x4_129 + (1 : Int32))).bind fun v4 =>
  some (.inl (v4, h_129))
def mm_M_reckons_b8 (N : Nat) (this : Option Nat) (a1 : Int32) (a3 : Int32) (st : Int32 × ss_Hp) : Option ((Int32 × ss_Hp) ⊕ ss_Hp) :=
  match st with
  | (x4_8, h_8) =>
    if a3 ≤ x4_8 then
      some (.inr h_8)
    else
      (ss_gr h_8 this 12 1).bind fun r6 =>
      (ss_ai h_8 r6 20 (((400 : Int32) * a1) + x4_8)).bind fun v7 =>
      (some (v7 &&& (15 : Int32))).bind fun v8 =>
      (ss_gr h_8 this 12 1).bind fun r9 =>
      (ss_ai h_8 r9 20 (((400 : Int32) * a1) + x4_8)).bind fun v10 =>
      (some (v10 >>> ((4 : Int32) &&& 31))).bind fun v11 =>
      if v8 = 0 then
        (mm_M_push N this ((v11).toInt64) h_8).bind fun h27 =>
        mm_M_reckons_j129 N this a1 a3 x4_8 h27
      else
        if v8 = (1 : Int32) then
          (ss_gr h_8 this 12 8).bind fun r24 =>
          (ss_al h_8 r24 23 v11).bind fun v25 =>
          (mm_M_push N this v25 h_8).bind fun h26 =>
          mm_M_reckons_j129 N this a1 a3 x4_8 h26
        else
          if v8 = (11 : Int32) then
            ss_b2 (mm_M_pop N this h_8) fun v21 h22 =>
            (mm_M_push N this ((1 : Int64) - v21) h22).bind fun h23 =>
            mm_M_reckons_j129 N this a1 a3 x4_8 h23
          else
            ss_b2 (mm_M_pop N this h_8) fun v15 h16 =>
            ss_b2 (mm_M_pop N this h16) fun v17 h18 =>
            (mm_M_one N v8 v17 v15).bind fun v19 =>
            (mm_M_push N this v19 h18).bind fun h20 =>
            mm_M_reckons_j129 N this a1 a3 x4_8 h20
def mm_M_reckons (N : Nat) (this : Option Nat) (a1 : Int32) (a2 : Int32) (a3 : Int32) (h : ss_Hp) : Option (Int64 × ss_Hp) :=
  if ss_is h this 12 = true then
    (ss_pi h this 12 12 (0 : Int32)).bind fun h1 =>
    (ss_lp (mm_M_reckons_b8 N this a1 a3) N (a2, h1)).bind fun h_8_135 =>
    ss_b2 (mm_M_pop N this h_8_135) fun v2 h3 =>
    some (v2, h3)
  else none
abbrev ww_M_reckons (p : Program) (l : Launch) (e : Env) (s : State) (m : MethodId) (below : List Frame) (meth : Method) (c : Code) (G : ss_G) (this : Option Nat) (a1 : Int32) (a2 : Int32) (a3 : Int32) (h : ss_Hp) (rr : Int64) (hh : ss_Hp) (H : Heap) (locs : List Loc) (k n : Nat) (g : JFrame) : Prop := W p l e (headSpec (ss_w yy_M_reckons bb_M_reckons 11 (some .long)) ({ frames := 1, cells := 0, slots := 0, locals := 24 })).room s m ([ss_v (ss_b G) this, .int a1, .int a2, .int a3] : List Value).toArray below meth c H locs k n (MQ below (ss_Qc G (some (.long rr)) hh) ([ss_v (ss_b G) this, .int a1, .int a2, .int a3] : List Value).toArray s 0 0 (ss_A G)) g
theorem ck_M_reckons {N : Nat} {this : Option Nat} {a1 : Int32} {a2 : Int32} {a3 : Int32} {h : ss_Hp} {res : Int64 × ss_Hp} (hm : mm_M_reckons N this a1 a2 a3 h = some res) : ss_is h this 12 = true := (ss_chk hm).1
set_option maxHeartbeats 4000000 in
set_option maxRecDepth 100000 in
theorem cc_M_reckons (l : Launch) (G : ss_G) (N : Nat) (this : Option Nat) (a1 : Int32) (a2 : Int32) (a3 : Int32) (h : ss_Hp) (rr : Int64) (hh : ss_Hp) (hm : mm_M_reckons N this a1 a2 a3 h = some (rr, hh)) : ss_Ct l G yy_M_reckons bb_M_reckons 11 (some .long) ({ frames := 1, cells := 0, slots := 0, locals := 24 }) [ss_v (ss_b G) this, .int a1, .int a2, .int a3] h (some (.long rr)) hh := by
  obtain ⟨hck, hm⟩ := ss_chk hm
  refine Met.ofW (cc := bb_M_reckons) (maxL := 11) (ret := (some .long)) (by decide) rfl ?_
  intro p e s m args below meth c s₁ B hml hv
  obtain ⟨rfl, hR, hK⟩ := hv
  have hC : CallFix p m c bb_M_reckons 11 s _ lw_g sR_12 := ⟨B.exec, B.bytes, hml, findClass_of_methodNamed B.named, fun w hw => atoms_spec (ws := ss_w yy_M_reckons bb_M_reckons 11 (some .long)) B.pre w (List.mem_cons_of_mem _ hw)⟩
  have hx := hC.1
  have hb := hC.2.1
  have hr := B.returns
  have hlocks := B.notSynchronized
  have hS : va_S (ss_A G) s.heap s.heap [] := va_S.rf
  have hl := lv_entry ([ss_v (ss_b G) this, .int a1, .int a2, .int a3]) (n := 11) (by simp [lg_sl, ss_v_cat, ss_cat_i, ss_cat_l, ss_cat_r])
  rw [lg_entry_eq]
  generalize (lg_sl ([ss_v (ss_b G) this, .int a1, .int a2, .int a3]) ++ List.replicate (11 - (lg_sl ([ss_v (ss_b G) this, .int a1, .int a2, .int a3])).length) Slot.unset).toArray = ls at hl ⊢
  have hl : lv_has ls 11 [(0, ss_v (ss_b G) this), (1, .int a1), (2, .int a2), (3, .int a3)] := by simpa [lv_args, ss_v_cat, ss_cat_i, ss_cat_l, ss_cat_r] using hl
  refine ss_aload_n hx hb dd_M_reckons_0 rfl (lv_at hl 0 rfl) ?_
  refine lv_iconst (v := 0) hx hb dd_M_reckons_1 (by decide) ?_
  obtain ⟨h1, qh1, hm⟩ := ss_bind hm
  refine ss_puti hC hK hR hS kp_M_292 qh1 dd_M_reckons_2 (fun H locs hR hS => ?_)
  refine lv_iload_n hx hb dd_M_reckons_5 rfl (lv_at hl 2 rfl) ?_
  refine lv_istore (lv' := [(4, .int a2), (0, ss_v (ss_b G) this), (1, .int a1), (2, .int a2), (3, .int a3)]) hx hb dd_M_reckons_6 hl (by decide) rfl (fun ls hl => ?_)
  obtain ⟨e_8, he_8, hm⟩ := ss_bind hm
  have X_8_135 : ∀  (h_8_135 : ss_Hp) (H : Heap) (locs : List Loc) (ls : Array Slot), e_8 = h_8_135 → ss_R G h_8_135 H → va_S (ss_A G) s.heap H locs → lv_has ls 11 [(0, ss_v (ss_b G) this)] → ww_M_reckons p l e s m below meth c G this a1 a2 a3 h rr hh  H locs 0 0 (F0 m 135 ls []) := by
    intro h_8_135 H locs ls hq hR hS hl
    rw [hq] at hm
    refine ss_aload_n hx hb dd_M_reckons_135 rfl (lv_at hl 0 rfl) ?_
    obtain ⟨v2, h3, qh3, hm⟩ := ss_bind2 hm
    refine ss_cV 0 0 (As := []) hC hK hR hS hl.1 (cc_M_pop l G N _ _ _ _ qh3) km_M_299 (ck_M_pop qh3) ⟨Nat.le_of_ble_eq_true rfl, Nat.le_of_ble_eq_true rfl⟩ ⟨Nat.le_of_ble_eq_true rfl, Nat.le_of_ble_eq_true rfl, Nat.le_of_ble_eq_true rfl, Nat.le_of_ble_eq_true rfl⟩ rfl rfl (Nat.le_of_ble_eq_true rfl) dd_M_reckons_136 (fun H locs hR hS => ?_)
    exact ss_lret hC hr hlocks hR hS hm dd_M_reckons_139
  have L_8 : ∀ (n : Nat) (x4_8 : Int32) (h_8 : ss_Hp) (H : Heap) (locs : List Loc) (ls : Array Slot), ss_lp (mm_M_reckons_b8 N this a1 a3) n (x4_8, h_8) = some e_8 → ss_R G h_8 H → va_S (ss_A G) s.heap H locs → lv_has ls 11 [(0, ss_v (ss_b G) this), (1, .int a1), (3, .int a3), (4, .int x4_8)] → ww_M_reckons p l e s m below meth c G this a1 a2 a3 h rr hh  H locs 0 0 (F0 m 8 ls []) := by
    intro n
    induction n with
    | zero => intro x4_8 h_8 H locs ls hm; cases hm
    | succ n ih_8 =>
      intro x4_8 h_8 H locs ls hm hR hS hl
      obtain ⟨z_8, hm, hz1_8, hz2_8⟩ := ss_lps hm
      have J_129 : ∀ (x4_129 : Int32) (h_129 : ss_Hp) (H : Heap) (locs : List Loc) (ls : Array Slot), mm_M_reckons_j129 N this a1 a3 x4_129 h_129 = some z_8 → ss_R G h_129 H → va_S (ss_A G) s.heap H locs → lv_has ls 11 [(0, ss_v (ss_b G) this), (1, .int a1), (3, .int a3), (4, .int x4_129)] → ww_M_reckons p l e s m below meth c G this a1 a2 a3 h rr hh  H locs 0 0 (F0 m 129 ls []) := by
        intro x4_129 h_129 H locs ls hm hR hS hl
        obtain ⟨v4, qv4, hm⟩ := ss_bind hm
        refine lv_iinc (v := v4) (lv' := [(4, .int v4), (0, ss_v (ss_b G) this), (1, .int a1), (3, .int a3)]) hx hb dd_M_reckons_129 hl (k := 3) rfl (ss_inc (by decide) qv4) (by decide) rfl (fun ls hl => ?_)
        refine lv_goto (tgt := 8) hx hb dd_M_reckons_132 (by decide) ?_
        exact ih_8 v4 h_129 _ _ _ (hz1_8 _ (ss_some hm)) hR hS (lv_sub hl [1, 2, 3, 0] rfl)
      refine lv_iload hx hb dd_M_reckons_8 (lv_at hl 3 rfl) ?_
      refine lv_iload_n hx hb dd_M_reckons_10 rfl (lv_at hl 2 rfl) ?_
      refine lv_icmp_ge (tgt := 135) hx hb dd_M_reckons_11 (by decide) (fun c5 => ?_) (fun c5 => ?_)
      · have hm := ss_ift hm c5
        exact X_8_135 h_8 _ _ _ (hz2_8 _ (ss_some hm)) hR hS (lv_sub hl [0] rfl)
      · have hm := ss_iff hm c5
        refine ss_aload_n hx hb dd_M_reckons_14 rfl (lv_at hl 0 rfl) ?_
        obtain ⟨r6, qr6, hm⟩ := ss_bind hm
        refine ss_getr hC hK hR kf_M_13 rfl qr6 dd_M_reckons_15 ?_
        refine lv_sipush (v := 400) hx hb dd_M_reckons_18 (by decide) ?_
        refine lv_iload_n hx hb dd_M_reckons_21 rfl (lv_at hl 1 rfl) ?_
        refine lv_imul hx hb dd_M_reckons_22 ?_
        refine lv_iload hx hb dd_M_reckons_23 (lv_at hl 3 rfl) ?_
        refine lv_iadd hx hb dd_M_reckons_25 ?_
        obtain ⟨v7, qv7, hm⟩ := ss_bind hm
        refine ss_iald hC hK hR qv7 dd_M_reckons_26 ?_
        refine lv_bipush (v := 15) hx hb dd_M_reckons_27 (by decide) ?_
        refine lv_iand hx hb dd_M_reckons_29 ?_
        obtain ⟨v8, qv8, hm⟩ := ss_bind hm
        refine ss_topi qv8 ?_
        refine lv_istore (lv' := [(5, .int v8), (0, ss_v (ss_b G) this), (1, .int a1), (3, .int a3), (4, .int x4_8)]) hx hb dd_M_reckons_30 hl (by decide) rfl (fun ls hl => ?_)
        refine ss_aload_n hx hb dd_M_reckons_32 rfl (lv_at hl 1 rfl) ?_
        obtain ⟨r9, qr9, hm⟩ := ss_bind hm
        refine ss_getr hC hK hR kf_M_13 rfl qr9 dd_M_reckons_33 ?_
        refine lv_sipush (v := 400) hx hb dd_M_reckons_36 (by decide) ?_
        refine lv_iload_n hx hb dd_M_reckons_39 rfl (lv_at hl 2 rfl) ?_
        refine lv_imul hx hb dd_M_reckons_40 ?_
        refine lv_iload hx hb dd_M_reckons_41 (lv_at hl 4 rfl) ?_
        refine lv_iadd hx hb dd_M_reckons_43 ?_
        obtain ⟨v10, qv10, hm⟩ := ss_bind hm
        refine ss_iald hC hK hR qv10 dd_M_reckons_44 ?_
        refine lv_iconst (v := 4) hx hb dd_M_reckons_45 (by decide) ?_
        refine lv_ishr hx hb dd_M_reckons_46 ?_
        obtain ⟨v11, qv11, hm⟩ := ss_bind hm
        refine ss_topi qv11 ?_
        refine lv_istore (lv' := [(6, .int v11), (5, .int v8), (0, ss_v (ss_b G) this), (1, .int a1), (3, .int a3), (4, .int x4_8)]) hx hb dd_M_reckons_47 hl (by decide) rfl (fun ls hl => ?_)
        refine lv_iload hx hb dd_M_reckons_49 (lv_at hl 1 rfl) ?_
        refine lv_if_ne (tgt := 64) hx hb dd_M_reckons_51 (by decide) (fun c12 => ?_) (fun c12 => ?_)
        · have hm := ss_iff hm c12
          refine lv_iload hx hb dd_M_reckons_64 (lv_at hl 1 rfl) ?_
          refine lv_iconst (v := 1) hx hb dd_M_reckons_66 (by decide) ?_
          refine lv_icmp_ne (tgt := 84) hx hb dd_M_reckons_67 (by decide) (fun c13 => ?_) (fun c13 => ?_)
          · have hm := ss_iff hm c13
            refine lv_iload hx hb dd_M_reckons_84 (lv_at hl 1 rfl) ?_
            refine lv_bipush (v := 11) hx hb dd_M_reckons_86 (by decide) ?_
            refine lv_icmp_ne (tgt := 104) hx hb dd_M_reckons_88 (by decide) (fun c14 => ?_) (fun c14 => ?_)
            · have hm := ss_iff hm c14
              refine ss_aload_n hx hb dd_M_reckons_104 rfl (lv_at hl 2 rfl) ?_
              obtain ⟨v15, h16, qh16, hm⟩ := ss_bind2 hm
              refine ss_cV 0 0 (As := []) hC hK hR hS hl.1 (cc_M_pop l G N _ _ _ _ qh16) km_M_299 (ck_M_pop qh16) ⟨Nat.le_of_ble_eq_true rfl, Nat.le_of_ble_eq_true rfl⟩ ⟨Nat.le_of_ble_eq_true rfl, Nat.le_of_ble_eq_true rfl, Nat.le_of_ble_eq_true rfl, Nat.le_of_ble_eq_true rfl⟩ rfl rfl (Nat.le_of_ble_eq_true rfl) dd_M_reckons_105 (fun H locs hR hS => ?_)
              refine lv_lstore (lv' := [(7, .long v15), (6, .int v11), (5, .int v8), (0, ss_v (ss_b G) this), (1, .int a1), (3, .int a3), (4, .int x4_8)]) hx hb dd_M_reckons_108 hl (by decide) rfl (fun ls hl => ?_)
              refine ss_aload_n hx hb dd_M_reckons_110 rfl (lv_at hl 3 rfl) ?_
              obtain ⟨v17, h18, qh18, hm⟩ := ss_bind2 hm
              refine ss_cV 0 0 (As := []) hC hK hR hS hl.1 (cc_M_pop l G N _ _ _ _ qh18) km_M_299 (ck_M_pop qh18) ⟨Nat.le_of_ble_eq_true rfl, Nat.le_of_ble_eq_true rfl⟩ ⟨Nat.le_of_ble_eq_true rfl, Nat.le_of_ble_eq_true rfl, Nat.le_of_ble_eq_true rfl, Nat.le_of_ble_eq_true rfl⟩ rfl rfl (Nat.le_of_ble_eq_true rfl) dd_M_reckons_111 (fun H locs hR hS => ?_)
              refine lv_lstore (lv' := [(9, .long v17), (7, .long v15), (6, .int v11), (5, .int v8), (0, ss_v (ss_b G) this), (1, .int a1), (3, .int a3), (4, .int x4_8)]) hx hb dd_M_reckons_114 hl (by decide) rfl (fun ls hl => ?_)
              refine ss_aload_n hx hb dd_M_reckons_116 rfl (lv_at hl 4 rfl) ?_
              refine lv_iload hx hb dd_M_reckons_117 (lv_at hl 3 rfl) ?_
              refine lv_lload hx hb dd_M_reckons_119 (lv_at hl 0 rfl) ?_
              refine lv_lload hx hb dd_M_reckons_121 (lv_at hl 1 rfl) ?_
              obtain ⟨v19, qv19, hm⟩ := ss_bind hm
              refine ss_cS 0 0 (As := [.int v8, .long v17, .long v15]) hC hK hR hS hl.1 (cc_M_one l G N _ _ _ _ _ qv19) km_M_303 ⟨Nat.le_of_ble_eq_true rfl, Nat.le_of_ble_eq_true rfl⟩ ⟨Nat.le_of_ble_eq_true rfl, Nat.le_of_ble_eq_true rfl, Nat.le_of_ble_eq_true rfl, Nat.le_of_ble_eq_true rfl⟩ rfl rfl (by simp [ss_v_cat, ss_cat_i, ss_cat_l, ss_cat_r]) dd_M_reckons_123 (fun H locs hR hS => ?_)
              obtain ⟨h20, qh20, hm⟩ := ss_bind hm
              refine ss_cVv 0 0 (As := [.long v19]) hC hK hR hS hl.1 (cc_M_push l G N _ _ _ _ qh20) km_M_295 (ck_M_push qh20) ⟨Nat.le_of_ble_eq_true rfl, Nat.le_of_ble_eq_true rfl⟩ ⟨Nat.le_of_ble_eq_true rfl, Nat.le_of_ble_eq_true rfl, Nat.le_of_ble_eq_true rfl, Nat.le_of_ble_eq_true rfl⟩ rfl rfl (Nat.le_of_ble_eq_true rfl) dd_M_reckons_126 (fun H locs hR hS => ?_)
              exact J_129 x4_8 h20 _ _ _ hm hR hS (lv_sub hl [4, 5, 6, 7] rfl)
            · have hm := ss_ift hm c14
              refine ss_aload_n hx hb dd_M_reckons_91 rfl (lv_at hl 2 rfl) ?_
              refine lv_lconst (v := 1) hx hb dd_M_reckons_92 (by decide) ?_
              refine ss_aload_n hx hb dd_M_reckons_93 rfl (lv_at hl 2 rfl) ?_
              obtain ⟨v21, h22, qh22, hm⟩ := ss_bind2 hm
              refine ss_cV 0 0 (As := []) hC hK hR hS hl.1 (cc_M_pop l G N _ _ _ _ qh22) km_M_299 (ck_M_pop qh22) ⟨Nat.le_of_ble_eq_true rfl, Nat.le_of_ble_eq_true rfl⟩ ⟨Nat.le_of_ble_eq_true rfl, Nat.le_of_ble_eq_true rfl, Nat.le_of_ble_eq_true rfl, Nat.le_of_ble_eq_true rfl⟩ rfl rfl (by simp [ss_v_cat, ss_cat_i, ss_cat_l, ss_cat_r]) dd_M_reckons_94 (fun H locs hR hS => ?_)
              refine lv_lsub hx hb dd_M_reckons_97 ?_
              obtain ⟨h23, qh23, hm⟩ := ss_bind hm
              refine ss_cVv 0 0 (As := [.long ((1 : Int64) - v21)]) hC hK hR hS hl.1 (cc_M_push l G N _ _ _ _ qh23) km_M_295 (ck_M_push qh23) ⟨Nat.le_of_ble_eq_true rfl, Nat.le_of_ble_eq_true rfl⟩ ⟨Nat.le_of_ble_eq_true rfl, Nat.le_of_ble_eq_true rfl, Nat.le_of_ble_eq_true rfl, Nat.le_of_ble_eq_true rfl⟩ rfl rfl (Nat.le_of_ble_eq_true rfl) dd_M_reckons_98 (fun H locs hR hS => ?_)
              refine lv_goto (tgt := 129) hx hb dd_M_reckons_101 (by decide) ?_
              exact J_129 x4_8 h23 _ _ _ hm hR hS (lv_sub hl [2, 3, 4, 5] rfl)
          · have hm := ss_ift hm c13
            refine ss_aload_n hx hb dd_M_reckons_70 rfl (lv_at hl 2 rfl) ?_
            refine ss_aload_n hx hb dd_M_reckons_71 rfl (lv_at hl 2 rfl) ?_
            obtain ⟨r24, qr24, hm⟩ := ss_bind hm
            refine ss_getr hC hK hR kf_M_36 rfl qr24 dd_M_reckons_72 ?_
            refine lv_iload hx hb dd_M_reckons_75 (lv_at hl 0 rfl) ?_
            obtain ⟨v25, qv25, hm⟩ := ss_bind hm
            refine ss_lald hC hK hR qv25 dd_M_reckons_77 ?_
            obtain ⟨h26, qh26, hm⟩ := ss_bind hm
            refine ss_cVv 0 0 (As := [.long v25]) hC hK hR hS hl.1 (cc_M_push l G N _ _ _ _ qh26) km_M_295 (ck_M_push qh26) ⟨Nat.le_of_ble_eq_true rfl, Nat.le_of_ble_eq_true rfl⟩ ⟨Nat.le_of_ble_eq_true rfl, Nat.le_of_ble_eq_true rfl, Nat.le_of_ble_eq_true rfl, Nat.le_of_ble_eq_true rfl⟩ rfl rfl (Nat.le_of_ble_eq_true rfl) dd_M_reckons_78 (fun H locs hR hS => ?_)
            refine lv_goto (tgt := 129) hx hb dd_M_reckons_81 (by decide) ?_
            exact J_129 x4_8 h26 _ _ _ hm hR hS (lv_sub hl [2, 3, 4, 5] rfl)
        · have hm := ss_ift hm c12
          refine ss_aload_n hx hb dd_M_reckons_54 rfl (lv_at hl 2 rfl) ?_
          refine lv_iload hx hb dd_M_reckons_55 (lv_at hl 0 rfl) ?_
          refine lv_i2l hx hb dd_M_reckons_57 rfl ?_
          obtain ⟨h27, qh27, hm⟩ := ss_bind hm
          refine ss_cVv 0 0 (As := [.long ((v11).toInt64)]) hC hK hR hS hl.1 (cc_M_push l G N _ _ _ _ qh27) km_M_295 (ck_M_push qh27) ⟨Nat.le_of_ble_eq_true rfl, Nat.le_of_ble_eq_true rfl⟩ ⟨Nat.le_of_ble_eq_true rfl, Nat.le_of_ble_eq_true rfl, Nat.le_of_ble_eq_true rfl, Nat.le_of_ble_eq_true rfl⟩ rfl rfl (Nat.le_of_ble_eq_true rfl) dd_M_reckons_58 (fun H locs hR hS => ?_)
          refine lv_goto (tgt := 129) hx hb dd_M_reckons_61 (by decide) ?_
          exact J_129 x4_8 h27 _ _ _ hm hR hS (lv_sub hl [2, 3, 4, 5] rfl)
  exact L_8 N a2 h1 _ _ _ he_8 hR hS (lv_sub hl [1, 2, 4, 0] rfl)
theorem dd_M_summedBy_0 : decode bb_M_summedBy 0 = .ok (.iconst 0, 1) := by decide +kernel
theorem dd_M_summedBy_1 : decode bb_M_summedBy 1 = .ok (.istore_n 2, 1) := by decide +kernel
theorem dd_M_summedBy_2 : decode bb_M_summedBy 2 = .ok (.iload_n 2, 1) := by decide +kernel
theorem dd_M_summedBy_3 : decode bb_M_summedBy 3 = .ok (.aload_n 0, 1) := by decide +kernel
theorem dd_M_summedBy_4 : decode bb_M_summedBy 4 = .ok (.getfield 23, 3) := by decide +kernel
theorem dd_M_summedBy_7 : decode bb_M_summedBy 7 = .ok (.iload_n 1, 1) := by decide +kernel
theorem dd_M_summedBy_8 : decode bb_M_summedBy 8 = .ok (.iaload, 1) := by decide +kernel
theorem dd_M_summedBy_9 : decode bb_M_summedBy 9 = .ok (.if_icmp .ge 75, 3) := by decide +kernel
theorem dd_M_summedBy_12 : decode bb_M_summedBy 12 = .ok (.bipush 48, 2) := by decide +kernel
theorem dd_M_summedBy_14 : decode bb_M_summedBy 14 = .ok (.iload_n 1, 1) := by decide +kernel
theorem dd_M_summedBy_15 : decode bb_M_summedBy 15 = .ok (.imul, 1) := by decide +kernel
theorem dd_M_summedBy_16 : decode bb_M_summedBy 16 = .ok (.iconst 4, 1) := by decide +kernel
theorem dd_M_summedBy_17 : decode bb_M_summedBy 17 = .ok (.iload_n 2, 1) := by decide +kernel
theorem dd_M_summedBy_18 : decode bb_M_summedBy 18 = .ok (.imul, 1) := by decide +kernel
theorem dd_M_summedBy_19 : decode bb_M_summedBy 19 = .ok (.iadd, 1) := by decide +kernel
theorem dd_M_summedBy_20 : decode bb_M_summedBy 20 = .ok (.istore_n 3, 1) := by decide +kernel
theorem dd_M_summedBy_21 : decode bb_M_summedBy 21 = .ok (.aload_n 0, 1) := by decide +kernel
theorem dd_M_summedBy_22 : decode bb_M_summedBy 22 = .ok (.getfield 20, 3) := by decide +kernel
theorem dd_M_summedBy_25 : decode bb_M_summedBy 25 = .ok (.iload_n 3, 1) := by decide +kernel
theorem dd_M_summedBy_26 : decode bb_M_summedBy 26 = .ok (.iconst 2, 1) := by decide +kernel
theorem dd_M_summedBy_27 : decode bb_M_summedBy 27 = .ok (.iadd, 1) := by decide +kernel
theorem dd_M_summedBy_28 : decode bb_M_summedBy 28 = .ok (.iaload, 1) := by decide +kernel
theorem dd_M_summedBy_29 : decode bb_M_summedBy 29 = .ok (.ifCond .lt 29, 3) := by decide +kernel
theorem dd_M_summedBy_32 : decode bb_M_summedBy 32 = .ok (.aload_n 0, 1) := by decide +kernel
theorem dd_M_summedBy_33 : decode bb_M_summedBy 33 = .ok (.iload_n 1, 1) := by decide +kernel
theorem dd_M_summedBy_34 : decode bb_M_summedBy 34 = .ok (.aload_n 0, 1) := by decide +kernel
theorem dd_M_summedBy_35 : decode bb_M_summedBy 35 = .ok (.getfield 20, 3) := by decide +kernel
theorem dd_M_summedBy_38 : decode bb_M_summedBy 38 = .ok (.iload_n 3, 1) := by decide +kernel
theorem dd_M_summedBy_39 : decode bb_M_summedBy 39 = .ok (.iconst 2, 1) := by decide +kernel
theorem dd_M_summedBy_40 : decode bb_M_summedBy 40 = .ok (.iadd, 1) := by decide +kernel
theorem dd_M_summedBy_41 : decode bb_M_summedBy 41 = .ok (.iaload, 1) := by decide +kernel
theorem dd_M_summedBy_42 : decode bb_M_summedBy 42 = .ok (.aload_n 0, 1) := by decide +kernel
theorem dd_M_summedBy_43 : decode bb_M_summedBy 43 = .ok (.getfield 20, 3) := by decide +kernel
theorem dd_M_summedBy_46 : decode bb_M_summedBy 46 = .ok (.iload_n 3, 1) := by decide +kernel
theorem dd_M_summedBy_47 : decode bb_M_summedBy 47 = .ok (.iconst 3, 1) := by decide +kernel
theorem dd_M_summedBy_48 : decode bb_M_summedBy 48 = .ok (.iadd, 1) := by decide +kernel
theorem dd_M_summedBy_49 : decode bb_M_summedBy 49 = .ok (.iaload, 1) := by decide +kernel
theorem dd_M_summedBy_50 : decode bb_M_summedBy 50 = .ok (.invokevirtual 336, 3) := by decide +kernel
theorem dd_M_summedBy_53 : decode bb_M_summedBy 53 = .ok (.lconst 1, 1) := by decide +kernel
theorem dd_M_summedBy_54 : decode bb_M_summedBy 54 = .ok (.lcmp, 1) := by decide +kernel
theorem dd_M_summedBy_55 : decode bb_M_summedBy 55 = .ok (.ifCond .ne 23, 3) := by decide +kernel
theorem dd_M_summedBy_58 : decode bb_M_summedBy 58 = .ok (.aload_n 0, 1) := by decide +kernel
theorem dd_M_summedBy_59 : decode bb_M_summedBy 59 = .ok (.iload_n 1, 1) := by decide +kernel
theorem dd_M_summedBy_60 : decode bb_M_summedBy 60 = .ok (.aload_n 0, 1) := by decide +kernel
theorem dd_M_summedBy_61 : decode bb_M_summedBy 61 = .ok (.getfield 20, 3) := by decide +kernel
theorem dd_M_summedBy_64 : decode bb_M_summedBy 64 = .ok (.iload_n 3, 1) := by decide +kernel
theorem dd_M_summedBy_65 : decode bb_M_summedBy 65 = .ok (.iaload, 1) := by decide +kernel
theorem dd_M_summedBy_66 : decode bb_M_summedBy 66 = .ok (.aload_n 0, 1) := by decide +kernel
theorem dd_M_summedBy_67 : decode bb_M_summedBy 67 = .ok (.getfield 20, 3) := by decide +kernel
theorem dd_M_summedBy_70 : decode bb_M_summedBy 70 = .ok (.iload_n 3, 1) := by decide +kernel
theorem dd_M_summedBy_71 : decode bb_M_summedBy 71 = .ok (.iconst 1, 1) := by decide +kernel
theorem dd_M_summedBy_72 : decode bb_M_summedBy 72 = .ok (.iadd, 1) := by decide +kernel
theorem dd_M_summedBy_73 : decode bb_M_summedBy 73 = .ok (.iaload, 1) := by decide +kernel
theorem dd_M_summedBy_74 : decode bb_M_summedBy 74 = .ok (.invokevirtual 336, 3) := by decide +kernel
theorem dd_M_summedBy_77 : decode bb_M_summedBy 77 = .ok (.lreturn, 1) := by decide +kernel
theorem dd_M_summedBy_78 : decode bb_M_summedBy 78 = .ok (.iinc 2 1, 3) := by decide +kernel
theorem dd_M_summedBy_81 : decode bb_M_summedBy 81 = .ok (.goto (-79), 3) := by decide +kernel
theorem dd_M_summedBy_84 : decode bb_M_summedBy 84 = .ok (.lconst 0, 1) := by decide +kernel
theorem dd_M_summedBy_85 : decode bb_M_summedBy 85 = .ok (.lreturn, 1) := by decide +kernel
def mm_M_summedBy_b2 (N : Nat) (this : Option Nat) (a1 : Int32) (st : Int32 × ss_Hp) : Option ((Int32 × ss_Hp) ⊕ (ss_Hp ⊕ (Int32 × ss_Hp))) :=
  match st with
  | (x2_2, h_2) =>
    (ss_gr h_2 this 12 4).bind fun r7 =>
    (ss_ai h_2 r7 20 a1).bind fun v8 =>
    if v8 ≤ x2_2 then
      some (.inr (.inl h_2))
    else
      (some (((48 : Int32) * a1) + ((4 : Int32) * x2_2))).bind fun v10 =>
      (ss_gr h_2 this 12 3).bind fun r11 =>
      (ss_ai h_2 r11 20 (v10 + (2 : Int32))).bind fun v12 =>
      if v12 < 0 then
        some (.inr (.inr (v10, h_2)))
      else
        (ss_gr h_2 this 12 3).bind fun r14 =>
        (ss_ai h_2 r14 20 (v10 + (2 : Int32))).bind fun v15 =>
        (ss_gr h_2 this 12 3).bind fun r16 =>
        (ss_ai h_2 r16 20 (v10 + (3 : Int32))).bind fun v17 =>
        ss_b2 (mm_M_reckons N this a1 v15 v17 h_2) fun v18 h19 =>
        if (lg_cmp v18 (1 : Int64)) = 0 then
          some (.inr (.inr (v10, h19)))
        else
          (some (x2_2 + (1 : Int32))).bind fun v21 =>
          some (.inl (v21, h19))
def mm_M_summedBy (N : Nat) (this : Option Nat) (a1 : Int32) (h : ss_Hp) : Option (Int64 × ss_Hp) :=
  if ss_is h this 12 = true then
    (ss_lp (mm_M_summedBy_b2 N this a1) N ((0 : Int32), h)).bind fun e_2 =>
    match e_2 with
    | (.inl h_2_84) =>
      some ((0 : Int64), h_2_84)
    | (.inr (y3_2_58, h_2_58)) =>
      (ss_gr h_2_58 this 12 3).bind fun r1 =>
      (ss_ai h_2_58 r1 20 y3_2_58).bind fun v2 =>
      (ss_gr h_2_58 this 12 3).bind fun r3 =>
      (ss_ai h_2_58 r3 20 (y3_2_58 + (1 : Int32))).bind fun v4 =>
      ss_b2 (mm_M_reckons N this a1 v2 v4 h_2_58) fun v5 h6 =>
      some (v5, h6)
  else none
abbrev ww_M_summedBy (p : Program) (l : Launch) (e : Env) (s : State) (m : MethodId) (below : List Frame) (meth : Method) (c : Code) (G : ss_G) (this : Option Nat) (a1 : Int32) (h : ss_Hp) (rr : Int64) (hh : ss_Hp) (H : Heap) (locs : List Loc) (k n : Nat) (g : JFrame) : Prop := W p l e (headSpec (ss_w yy_M_summedBy bb_M_summedBy 4 (some .long)) ({ frames := 2, cells := 0, slots := 0, locals := 54 })).room s m ([ss_v (ss_b G) this, .int a1] : List Value).toArray below meth c H locs k n (MQ below (ss_Qc G (some (.long rr)) hh) ([ss_v (ss_b G) this, .int a1] : List Value).toArray s 0 0 (ss_A G)) g
theorem ck_M_summedBy {N : Nat} {this : Option Nat} {a1 : Int32} {h : ss_Hp} {res : Int64 × ss_Hp} (hm : mm_M_summedBy N this a1 h = some res) : ss_is h this 12 = true := (ss_chk hm).1
set_option maxHeartbeats 4000000 in
set_option maxRecDepth 100000 in
theorem cc_M_summedBy (l : Launch) (G : ss_G) (N : Nat) (this : Option Nat) (a1 : Int32) (h : ss_Hp) (rr : Int64) (hh : ss_Hp) (hm : mm_M_summedBy N this a1 h = some (rr, hh)) : ss_Ct l G yy_M_summedBy bb_M_summedBy 4 (some .long) ({ frames := 2, cells := 0, slots := 0, locals := 54 }) [ss_v (ss_b G) this, .int a1] h (some (.long rr)) hh := by
  obtain ⟨hck, hm⟩ := ss_chk hm
  refine Met.ofW (cc := bb_M_summedBy) (maxL := 4) (ret := (some .long)) (by decide) rfl ?_
  intro p e s m args below meth c s₁ B hml hv
  obtain ⟨rfl, hR, hK⟩ := hv
  have hC : CallFix p m c bb_M_summedBy 4 s _ lw_g sR_12 := ⟨B.exec, B.bytes, hml, findClass_of_methodNamed B.named, fun w hw => atoms_spec (ws := ss_w yy_M_summedBy bb_M_summedBy 4 (some .long)) B.pre w (List.mem_cons_of_mem _ hw)⟩
  have hx := hC.1
  have hb := hC.2.1
  have hr := B.returns
  have hlocks := B.notSynchronized
  have hS : va_S (ss_A G) s.heap s.heap [] := va_S.rf
  have hl := lv_entry ([ss_v (ss_b G) this, .int a1]) (n := 4) (by simp [lg_sl, ss_v_cat, ss_cat_i, ss_cat_l, ss_cat_r])
  rw [lg_entry_eq]
  generalize (lg_sl ([ss_v (ss_b G) this, .int a1]) ++ List.replicate (4 - (lg_sl ([ss_v (ss_b G) this, .int a1])).length) Slot.unset).toArray = ls at hl ⊢
  have hl : lv_has ls 4 [(0, ss_v (ss_b G) this), (1, .int a1)] := by simpa [lv_args, ss_v_cat, ss_cat_i, ss_cat_l, ss_cat_r] using hl
  refine lv_iconst (v := 0) hx hb dd_M_summedBy_0 (by decide) ?_
  refine lv_istore_n (lv' := [(2, .int (0 : Int32)), (0, ss_v (ss_b G) this), (1, .int a1)]) hx hb dd_M_summedBy_1 rfl hl (by decide) rfl (fun ls hl => ?_)
  obtain ⟨e_2, he_2, hm⟩ := ss_bind hm
  have X_2_84 : ∀  (h_2_84 : ss_Hp) (H : Heap) (locs : List Loc) (ls : Array Slot), e_2 = (.inl h_2_84) → ss_R G h_2_84 H → va_S (ss_A G) s.heap H locs → lv_has ls 4 [] → ww_M_summedBy p l e s m below meth c G this a1 h rr hh  H locs 0 0 (F0 m 84 ls []) := by
    intro h_2_84 H locs ls hq hR hS hl
    rw [hq] at hm
    refine lv_lconst (v := 0) hx hb dd_M_summedBy_84 (by decide) ?_
    exact ss_lret hC hr hlocks hR hS hm dd_M_summedBy_85
  have X_2_58 : ∀ (y3_2_58 : Int32) (h_2_58 : ss_Hp) (H : Heap) (locs : List Loc) (ls : Array Slot), e_2 = (.inr (y3_2_58, h_2_58)) → ss_R G h_2_58 H → va_S (ss_A G) s.heap H locs → lv_has ls 4 [(0, ss_v (ss_b G) this), (1, .int a1), (3, .int y3_2_58)] → ww_M_summedBy p l e s m below meth c G this a1 h rr hh  H locs 0 0 (F0 m 58 ls []) := by
    intro y3_2_58 h_2_58 H locs ls hq hR hS hl
    rw [hq] at hm
    refine ss_aload_n hx hb dd_M_summedBy_58 rfl (lv_at hl 0 rfl) ?_
    refine lv_iload_n hx hb dd_M_summedBy_59 rfl (lv_at hl 1 rfl) ?_
    refine ss_aload_n hx hb dd_M_summedBy_60 rfl (lv_at hl 0 rfl) ?_
    obtain ⟨r1, qr1, hm⟩ := ss_bind hm
    refine ss_getr hC hK hR kf_M_20 rfl qr1 dd_M_summedBy_61 ?_
    refine lv_iload_n hx hb dd_M_summedBy_64 rfl (lv_at hl 2 rfl) ?_
    obtain ⟨v2, qv2, hm⟩ := ss_bind hm
    refine ss_iald hC hK hR qv2 dd_M_summedBy_65 ?_
    refine ss_aload_n hx hb dd_M_summedBy_66 rfl (lv_at hl 0 rfl) ?_
    obtain ⟨r3, qr3, hm⟩ := ss_bind hm
    refine ss_getr hC hK hR kf_M_20 rfl qr3 dd_M_summedBy_67 ?_
    refine lv_iload_n hx hb dd_M_summedBy_70 rfl (lv_at hl 2 rfl) ?_
    refine lv_iconst (v := 1) hx hb dd_M_summedBy_71 (by decide) ?_
    refine lv_iadd hx hb dd_M_summedBy_72 ?_
    obtain ⟨v4, qv4, hm⟩ := ss_bind hm
    refine ss_iald hC hK hR qv4 dd_M_summedBy_73 ?_
    obtain ⟨v5, h6, qh6, hm⟩ := ss_bind2 hm
    refine ss_cV 0 0 (As := [.int a1, .int v2, .int v4]) hC hK hR hS hl.1 (cc_M_reckons l G N _ _ _ _ _ _ _ qh6) km_M_336 (ck_M_reckons qh6) ⟨Nat.le_of_ble_eq_true rfl, Nat.le_of_ble_eq_true rfl⟩ ⟨Nat.le_of_ble_eq_true rfl, Nat.le_of_ble_eq_true rfl, Nat.le_of_ble_eq_true rfl, Nat.le_of_ble_eq_true rfl⟩ rfl rfl (Nat.le_of_ble_eq_true rfl) dd_M_summedBy_74 (fun H locs hR hS => ?_)
    exact ss_lret hC hr hlocks hR hS hm dd_M_summedBy_77
  have L_2 : ∀ (n : Nat) (x2_2 : Int32) (h_2 : ss_Hp) (H : Heap) (locs : List Loc) (ls : Array Slot), ss_lp (mm_M_summedBy_b2 N this a1) n (x2_2, h_2) = some e_2 → ss_R G h_2 H → va_S (ss_A G) s.heap H locs → lv_has ls 4 [(0, ss_v (ss_b G) this), (1, .int a1), (2, .int x2_2)] → ww_M_summedBy p l e s m below meth c G this a1 h rr hh  H locs 0 0 (F0 m 2 ls []) := by
    intro n
    induction n with
    | zero => intro x2_2 h_2 H locs ls hm; cases hm
    | succ n ih_2 =>
      intro x2_2 h_2 H locs ls hm hR hS hl
      obtain ⟨z_2, hm, hz1_2, hz2_2⟩ := ss_lps hm
      refine lv_iload_n hx hb dd_M_summedBy_2 rfl (lv_at hl 2 rfl) ?_
      refine ss_aload_n hx hb dd_M_summedBy_3 rfl (lv_at hl 0 rfl) ?_
      obtain ⟨r7, qr7, hm⟩ := ss_bind hm
      refine ss_getr hC hK hR kf_M_23 rfl qr7 dd_M_summedBy_4 ?_
      refine lv_iload_n hx hb dd_M_summedBy_7 rfl (lv_at hl 1 rfl) ?_
      obtain ⟨v8, qv8, hm⟩ := ss_bind hm
      refine ss_iald hC hK hR qv8 dd_M_summedBy_8 ?_
      refine lv_icmp_ge (tgt := 84) hx hb dd_M_summedBy_9 (by decide) (fun c9 => ?_) (fun c9 => ?_)
      · have hm := ss_ift hm c9
        exact X_2_84 h_2 _ _ _ (hz2_2 _ (ss_some hm)) hR hS (lv_sub hl [] rfl)
      · have hm := ss_iff hm c9
        refine lv_bipush (v := 48) hx hb dd_M_summedBy_12 (by decide) ?_
        refine lv_iload_n hx hb dd_M_summedBy_14 rfl (lv_at hl 1 rfl) ?_
        refine lv_imul hx hb dd_M_summedBy_15 ?_
        refine lv_iconst (v := 4) hx hb dd_M_summedBy_16 (by decide) ?_
        refine lv_iload_n hx hb dd_M_summedBy_17 rfl (lv_at hl 2 rfl) ?_
        refine lv_imul hx hb dd_M_summedBy_18 ?_
        refine lv_iadd hx hb dd_M_summedBy_19 ?_
        obtain ⟨v10, qv10, hm⟩ := ss_bind hm
        refine ss_topi qv10 ?_
        refine lv_istore_n (lv' := [(3, .int v10), (0, ss_v (ss_b G) this), (1, .int a1), (2, .int x2_2)]) hx hb dd_M_summedBy_20 rfl hl (by decide) rfl (fun ls hl => ?_)
        refine ss_aload_n hx hb dd_M_summedBy_21 rfl (lv_at hl 1 rfl) ?_
        obtain ⟨r11, qr11, hm⟩ := ss_bind hm
        refine ss_getr hC hK hR kf_M_20 rfl qr11 dd_M_summedBy_22 ?_
        refine lv_iload_n hx hb dd_M_summedBy_25 rfl (lv_at hl 0 rfl) ?_
        refine lv_iconst (v := 2) hx hb dd_M_summedBy_26 (by decide) ?_
        refine lv_iadd hx hb dd_M_summedBy_27 ?_
        obtain ⟨v12, qv12, hm⟩ := ss_bind hm
        refine ss_iald hC hK hR qv12 dd_M_summedBy_28 ?_
        refine lv_if_lt (tgt := 58) hx hb dd_M_summedBy_29 (by decide) (fun c13 => ?_) (fun c13 => ?_)
        · have hm := ss_ift hm c13
          exact X_2_58 v10 h_2 _ _ _ (hz2_2 _ (ss_some hm)) hR hS (lv_sub hl [1, 2, 0] rfl)
        · have hm := ss_iff hm c13
          refine ss_aload_n hx hb dd_M_summedBy_32 rfl (lv_at hl 1 rfl) ?_
          refine lv_iload_n hx hb dd_M_summedBy_33 rfl (lv_at hl 2 rfl) ?_
          refine ss_aload_n hx hb dd_M_summedBy_34 rfl (lv_at hl 1 rfl) ?_
          obtain ⟨r14, qr14, hm⟩ := ss_bind hm
          refine ss_getr hC hK hR kf_M_20 rfl qr14 dd_M_summedBy_35 ?_
          refine lv_iload_n hx hb dd_M_summedBy_38 rfl (lv_at hl 0 rfl) ?_
          refine lv_iconst (v := 2) hx hb dd_M_summedBy_39 (by decide) ?_
          refine lv_iadd hx hb dd_M_summedBy_40 ?_
          obtain ⟨v15, qv15, hm⟩ := ss_bind hm
          refine ss_iald hC hK hR qv15 dd_M_summedBy_41 ?_
          refine ss_aload_n hx hb dd_M_summedBy_42 rfl (lv_at hl 1 rfl) ?_
          obtain ⟨r16, qr16, hm⟩ := ss_bind hm
          refine ss_getr hC hK hR kf_M_20 rfl qr16 dd_M_summedBy_43 ?_
          refine lv_iload_n hx hb dd_M_summedBy_46 rfl (lv_at hl 0 rfl) ?_
          refine lv_iconst (v := 3) hx hb dd_M_summedBy_47 (by decide) ?_
          refine lv_iadd hx hb dd_M_summedBy_48 ?_
          obtain ⟨v17, qv17, hm⟩ := ss_bind hm
          refine ss_iald hC hK hR qv17 dd_M_summedBy_49 ?_
          obtain ⟨v18, h19, qh19, hm⟩ := ss_bind2 hm
          refine ss_cV 0 0 (As := [.int a1, .int v15, .int v17]) hC hK hR hS hl.1 (cc_M_reckons l G N _ _ _ _ _ _ _ qh19) km_M_336 (ck_M_reckons qh19) ⟨Nat.le_of_ble_eq_true rfl, Nat.le_of_ble_eq_true rfl⟩ ⟨Nat.le_of_ble_eq_true rfl, Nat.le_of_ble_eq_true rfl, Nat.le_of_ble_eq_true rfl, Nat.le_of_ble_eq_true rfl⟩ rfl rfl (Nat.le_of_ble_eq_true rfl) dd_M_summedBy_50 (fun H locs hR hS => ?_)
          refine lv_lconst (v := 1) hx hb dd_M_summedBy_53 (by decide) ?_
          refine W.lcmp hx hb dd_M_summedBy_54 ?_
          refine lv_if_ne (tgt := 78) hx hb dd_M_summedBy_55 (by decide) (fun c20 => ?_) (fun c20 => ?_)
          · have hm := ss_iff hm c20
            obtain ⟨v21, qv21, hm⟩ := ss_bind hm
            refine lv_iinc (v := v21) (lv' := [(2, .int v21), (3, .int v10), (0, ss_v (ss_b G) this), (1, .int a1)]) hx hb dd_M_summedBy_78 hl (k := 3) rfl (ss_inc (by decide) qv21) (by decide) rfl (fun ls hl => ?_)
            refine lv_goto (tgt := 2) hx hb dd_M_summedBy_81 (by decide) ?_
            exact ih_2 v21 h19 _ _ _ (hz1_2 _ (ss_some hm)) hR hS (lv_sub hl [2, 3, 0] rfl)
          · have hm := ss_ift hm c20
            exact X_2_58 v10 h19 _ _ _ (hz2_2 _ (ss_some hm)) hR hS (lv_sub hl [1, 2, 0] rfl)
  exact L_2 N (0 : Int32) h _ _ _ he_2 hR hS (lv_sub hl [1, 2, 0] rfl)
theorem dd_M_choice_0 : decode bb_M_choice 0 = .ok (.aload_n 0, 1) := by decide +kernel
theorem dd_M_choice_1 : decode bb_M_choice 1 = .ok (.getfield 42, 3) := by decide +kernel
theorem dd_M_choice_4 : decode bb_M_choice 4 = .ok (.ifCond .ge 25, 3) := by decide +kernel
theorem dd_M_choice_7 : decode bb_M_choice 7 = .ok (.aload_n 0, 1) := by decide +kernel
theorem dd_M_choice_8 : decode bb_M_choice 8 = .ok (.aload_n 0, 1) := by decide +kernel
theorem dd_M_choice_9 : decode bb_M_choice 9 = .ok (.iload_n 1, 1) := by decide +kernel
theorem dd_M_choice_10 : decode bb_M_choice 10 = .ok (.invokevirtual 327, 3) := by decide +kernel
theorem dd_M_choice_13 : decode bb_M_choice 13 = .ok (.invokevirtual 307, 3) := by decide +kernel
theorem dd_M_choice_16 : decode bb_M_choice 16 = .ok (.ifCond .eq 11, 3) := by decide +kernel
theorem dd_M_choice_19 : decode bb_M_choice 19 = .ok (.aload_n 0, 1) := by decide +kernel
theorem dd_M_choice_20 : decode bb_M_choice 20 = .ok (.iload_n 1, 1) := by decide +kernel
theorem dd_M_choice_21 : decode bb_M_choice 21 = .ok (.invokevirtual 327, 3) := by decide +kernel
theorem dd_M_choice_24 : decode bb_M_choice 24 = .ok (.goto 4, 3) := by decide +kernel
theorem dd_M_choice_27 : decode bb_M_choice 27 = .ok (.iconst (-1), 1) := by decide +kernel
theorem dd_M_choice_28 : decode bb_M_choice 28 = .ok (.ireturn, 1) := by decide +kernel
theorem dd_M_choice_29 : decode bb_M_choice 29 = .ok (.iconst (-1), 1) := by decide +kernel
theorem dd_M_choice_30 : decode bb_M_choice 30 = .ok (.istore_n 2, 1) := by decide +kernel
theorem dd_M_choice_31 : decode bb_M_choice 31 = .ok (.lconst 0, 1) := by decide +kernel
theorem dd_M_choice_32 : decode bb_M_choice 32 = .ok (.lstore_n 3, 1) := by decide +kernel
theorem dd_M_choice_33 : decode bb_M_choice 33 = .ok (.iconst 0, 1) := by decide +kernel
theorem dd_M_choice_34 : decode bb_M_choice 34 = .ok (.istore 5, 2) := by decide +kernel
theorem dd_M_choice_36 : decode bb_M_choice 36 = .ok (.iload 5, 2) := by decide +kernel
theorem dd_M_choice_38 : decode bb_M_choice 38 = .ok (.aload_n 0, 1) := by decide +kernel
theorem dd_M_choice_39 : decode bb_M_choice 39 = .ok (.getfield 39, 3) := by decide +kernel
theorem dd_M_choice_42 : decode bb_M_choice 42 = .ok (.iconst 2, 1) := by decide +kernel
theorem dd_M_choice_43 : decode bb_M_choice 43 = .ok (.iaload, 1) := by decide +kernel
theorem dd_M_choice_44 : decode bb_M_choice 44 = .ok (.if_icmp .ge 58, 3) := by decide +kernel
theorem dd_M_choice_47 : decode bb_M_choice 47 = .ok (.aload_n 0, 1) := by decide +kernel
theorem dd_M_choice_48 : decode bb_M_choice 48 = .ok (.getfield 39, 3) := by decide +kernel
theorem dd_M_choice_51 : decode bb_M_choice 51 = .ok (.bipush 14, 2) := by decide +kernel
theorem dd_M_choice_53 : decode bb_M_choice 53 = .ok (.iload 5, 2) := by decide +kernel
theorem dd_M_choice_55 : decode bb_M_choice 55 = .ok (.iadd, 1) := by decide +kernel
theorem dd_M_choice_56 : decode bb_M_choice 56 = .ok (.iaload, 1) := by decide +kernel
theorem dd_M_choice_57 : decode bb_M_choice 57 = .ok (.ifCond .ne 6, 3) := by decide +kernel
theorem dd_M_choice_60 : decode bb_M_choice 60 = .ok (.goto 36, 3) := by decide +kernel
theorem dd_M_choice_63 : decode bb_M_choice 63 = .ok (.aload_n 0, 1) := by decide +kernel
theorem dd_M_choice_64 : decode bb_M_choice 64 = .ok (.iload_n 1, 1) := by decide +kernel
theorem dd_M_choice_65 : decode bb_M_choice 65 = .ok (.iload 5, 2) := by decide +kernel
theorem dd_M_choice_67 : decode bb_M_choice 67 = .ok (.invokevirtual 349, 3) := by decide +kernel
theorem dd_M_choice_70 : decode bb_M_choice 70 = .ok (.aload_n 0, 1) := by decide +kernel
theorem dd_M_choice_71 : decode bb_M_choice 71 = .ok (.aload_n 0, 1) := by decide +kernel
theorem dd_M_choice_72 : decode bb_M_choice 72 = .ok (.getfield 42, 3) := by decide +kernel
theorem dd_M_choice_75 : decode bb_M_choice 75 = .ok (.invokevirtual 352, 3) := by decide +kernel
theorem dd_M_choice_78 : decode bb_M_choice 78 = .ok (.lstore 6, 2) := by decide +kernel
theorem dd_M_choice_80 : decode bb_M_choice 80 = .ok (.lload 6, 2) := by decide +kernel
theorem dd_M_choice_82 : decode bb_M_choice 82 = .ok (.lload_n 3, 1) := by decide +kernel
theorem dd_M_choice_83 : decode bb_M_choice 83 = .ok (.lcmp, 1) := by decide +kernel
theorem dd_M_choice_84 : decode bb_M_choice 84 = .ok (.ifCond .gt 6, 3) := by decide +kernel
theorem dd_M_choice_87 : decode bb_M_choice 87 = .ok (.goto 9, 3) := by decide +kernel
theorem dd_M_choice_90 : decode bb_M_choice 90 = .ok (.iload 5, 2) := by decide +kernel
theorem dd_M_choice_92 : decode bb_M_choice 92 = .ok (.istore_n 2, 1) := by decide +kernel
theorem dd_M_choice_93 : decode bb_M_choice 93 = .ok (.lload 6, 2) := by decide +kernel
theorem dd_M_choice_95 : decode bb_M_choice 95 = .ok (.lstore_n 3, 1) := by decide +kernel
theorem dd_M_choice_96 : decode bb_M_choice 96 = .ok (.iinc 5 1, 3) := by decide +kernel
theorem dd_M_choice_99 : decode bb_M_choice 99 = .ok (.goto (-63), 3) := by decide +kernel
theorem dd_M_choice_102 : decode bb_M_choice 102 = .ok (.iload_n 2, 1) := by decide +kernel
theorem dd_M_choice_103 : decode bb_M_choice 103 = .ok (.ireturn, 1) := by decide +kernel
def mm_M_choice_j28 (N : Nat) (this : Option Nat) (a1 : Int32) (s0_28 : Int32) (h_28 : ss_Hp) : Option (Int32 × ss_Hp) :=
  some (s0_28, h_28)
def mm_M_choice_j96 (N : Nat) (this : Option Nat) (a1 : Int32) (x2_96 : Int32) (x3_96 : Int64) (x5_96 : Int32) (h_96 : ss_Hp) : Option ((Int32 × Int64 × Int32 × ss_Hp) ⊕ (Int32 × ss_Hp)) :=
  (some (x5_96 + (1 : Int32))).bind fun v3 =>
  some (.inl (x2_96, x3_96, v3, h_96))
def mm_M_choice_b36 (N : Nat) (this : Option Nat) (a1 : Int32) (st : Int32 × Int64 × Int32 × ss_Hp) : Option ((Int32 × Int64 × Int32 × ss_Hp) ⊕ (Int32 × ss_Hp)) :=
  match st with
  | (x2_36, x3_36, x5_36, h_36) =>
    (ss_gr h_36 this 12 9).bind fun r4 =>
    (ss_ai h_36 r4 20 (2 : Int32)).bind fun v5 =>
    if v5 ≤ x5_36 then
      some (.inr (x2_36, h_36))
    else
      (ss_gr h_36 this 12 9).bind fun r7 =>
      (ss_ai h_36 r7 20 ((14 : Int32) + x5_36)).bind fun v8 =>
      if v8 = 0 then
        mm_M_choice_j96 N this a1 x2_36 x3_36 x5_36 h_36
      else
        (mm_M_words N this a1 x5_36 h_36).bind fun h10 =>
        (ss_gi h10 this 12 13).bind fun v11 =>
        ss_b2 (mm_M_summedBy N this v11 h10) fun v12 h13 =>
        if 0 < (lg_cmp v12 x3_36) then
          mm_M_choice_j96 N this a1 x5_36 v12 x5_36 h13
        else
          mm_M_choice_j96 N this a1 x2_36 x3_36 x5_36 h13
def mm_M_choice (N : Nat) (this : Option Nat) (a1 : Int32) (h : ss_Hp) : Option (Int32 × ss_Hp) :=
  if ss_is h this 12 = true then
    (ss_gi h this 12 13).bind fun v1 =>
    if 0 ≤ v1 then
      (ss_lp (mm_M_choice_b36 N this a1) N ((-1 : Int32), (0 : Int64), (0 : Int32), h)).bind fun e_36 =>
      match e_36 with
      | (y2_36_102, h_36_102) =>
        some (y2_36_102, h_36_102)
    else
      (mm_M_ownOf N this a1 h).bind fun v15 =>
      (mm_M_isClosed N this v15 h).bind fun v16 =>
      if v16 = 0 then
        mm_M_choice_j28 N this a1 (-1 : Int32) h
      else
        (mm_M_ownOf N this a1 h).bind fun v18 =>
        mm_M_choice_j28 N this a1 v18 h
  else none
abbrev ww_M_choice (p : Program) (l : Launch) (e : Env) (s : State) (m : MethodId) (below : List Frame) (meth : Method) (c : Code) (G : ss_G) (this : Option Nat) (a1 : Int32) (h : ss_Hp) (rr : Int32) (hh : ss_Hp) (H : Heap) (locs : List Loc) (k n : Nat) (g : JFrame) : Prop := W p l e (headSpec (ss_w yy_M_choice bb_M_choice 8 (some (.int))) ({ frames := 3, cells := 0, slots := 0, locals := 77 })).room s m ([ss_v (ss_b G) this, .int a1] : List Value).toArray below meth c H locs k n (MQ below (ss_Qc G (some (.int rr)) hh) ([ss_v (ss_b G) this, .int a1] : List Value).toArray s 0 0 (ss_A G)) g
theorem ck_M_choice {N : Nat} {this : Option Nat} {a1 : Int32} {h : ss_Hp} {res : Int32 × ss_Hp} (hm : mm_M_choice N this a1 h = some res) : ss_is h this 12 = true := (ss_chk hm).1
set_option maxHeartbeats 4000000 in
set_option maxRecDepth 100000 in
theorem cc_M_choice (l : Launch) (G : ss_G) (N : Nat) (this : Option Nat) (a1 : Int32) (h : ss_Hp) (rr : Int32) (hh : ss_Hp) (hm : mm_M_choice N this a1 h = some (rr, hh)) : ss_Ct l G yy_M_choice bb_M_choice 8 (some (.int)) ({ frames := 3, cells := 0, slots := 0, locals := 77 }) [ss_v (ss_b G) this, .int a1] h (some (.int rr)) hh := by
  obtain ⟨hck, hm⟩ := ss_chk hm
  refine Met.ofW (cc := bb_M_choice) (maxL := 8) (ret := (some (.int))) (by decide) rfl ?_
  intro p e s m args below meth c s₁ B hml hv
  obtain ⟨rfl, hR, hK⟩ := hv
  have hC : CallFix p m c bb_M_choice 8 s _ lw_g sR_12 := ⟨B.exec, B.bytes, hml, findClass_of_methodNamed B.named, fun w hw => atoms_spec (ws := ss_w yy_M_choice bb_M_choice 8 (some (.int))) B.pre w (List.mem_cons_of_mem _ hw)⟩
  have hx := hC.1
  have hb := hC.2.1
  have hr := B.returns
  have hlocks := B.notSynchronized
  have hS : va_S (ss_A G) s.heap s.heap [] := va_S.rf
  have hl := lv_entry ([ss_v (ss_b G) this, .int a1]) (n := 8) (by simp [lg_sl, ss_v_cat, ss_cat_i, ss_cat_l, ss_cat_r])
  rw [lg_entry_eq]
  generalize (lg_sl ([ss_v (ss_b G) this, .int a1]) ++ List.replicate (8 - (lg_sl ([ss_v (ss_b G) this, .int a1])).length) Slot.unset).toArray = ls at hl ⊢
  have hl : lv_has ls 8 [(0, ss_v (ss_b G) this), (1, .int a1)] := by simpa [lv_args, ss_v_cat, ss_cat_i, ss_cat_l, ss_cat_r] using hl
  have J_28 : ∀ (s0_28 : Int32) (h_28 : ss_Hp) (H : Heap) (locs : List Loc) (ls : Array Slot), mm_M_choice_j28 N this a1 s0_28 h_28 = some (rr, hh) → ss_R G h_28 H → va_S (ss_A G) s.heap H locs → lv_has ls 8 [] → ww_M_choice p l e s m below meth c G this a1 h rr hh  H locs 0 0 (F0 m 28 ls [.int s0_28]) := by
    intro s0_28 h_28 H locs ls hm hR hS hl
    exact ss_iret hC hr hlocks hR hS hm dd_M_choice_28
  refine ss_aload_n hx hb dd_M_choice_0 rfl (lv_at hl 0 rfl) ?_
  obtain ⟨v1, qv1, hm⟩ := ss_bind hm
  refine ss_geti hC hK hR kf_M_42 qv1 dd_M_choice_1 ?_
  refine lv_if_ge (tgt := 29) hx hb dd_M_choice_4 (by decide) (fun c2 => ?_) (fun c2 => ?_)
  · have hm := ss_ift hm c2
    refine lv_iconst (v := -1) hx hb dd_M_choice_29 (by decide) ?_
    refine lv_istore_n (lv' := [(2, .int (-1 : Int32)), (0, ss_v (ss_b G) this), (1, .int a1)]) hx hb dd_M_choice_30 rfl hl (by decide) rfl (fun ls hl => ?_)
    refine lv_lconst (v := 0) hx hb dd_M_choice_31 (by decide) ?_
    refine lv_lstore_n (lv' := [(3, .long (0 : Int64)), (2, .int (-1 : Int32)), (0, ss_v (ss_b G) this), (1, .int a1)]) hx hb dd_M_choice_32 rfl hl (by decide) rfl (fun ls hl => ?_)
    refine lv_iconst (v := 0) hx hb dd_M_choice_33 (by decide) ?_
    refine lv_istore (lv' := [(5, .int (0 : Int32)), (3, .long (0 : Int64)), (2, .int (-1 : Int32)), (0, ss_v (ss_b G) this), (1, .int a1)]) hx hb dd_M_choice_34 hl (by decide) rfl (fun ls hl => ?_)
    obtain ⟨e_36, he_36, hm⟩ := ss_bind hm
    have X_36_102 : ∀ (y2_36_102 : Int32) (h_36_102 : ss_Hp) (H : Heap) (locs : List Loc) (ls : Array Slot), e_36 = (y2_36_102, h_36_102) → ss_R G h_36_102 H → va_S (ss_A G) s.heap H locs → lv_has ls 8 [(2, .int y2_36_102)] → ww_M_choice p l e s m below meth c G this a1 h rr hh  H locs 0 0 (F0 m 102 ls []) := by
      intro y2_36_102 h_36_102 H locs ls hq hR hS hl
      rw [hq] at hm
      refine lv_iload_n hx hb dd_M_choice_102 rfl (lv_at hl 0 rfl) ?_
      exact ss_iret hC hr hlocks hR hS hm dd_M_choice_103
    have L_36 : ∀ (n : Nat) (x2_36 : Int32) (x3_36 : Int64) (x5_36 : Int32) (h_36 : ss_Hp) (H : Heap) (locs : List Loc) (ls : Array Slot), ss_lp (mm_M_choice_b36 N this a1) n (x2_36, x3_36, x5_36, h_36) = some e_36 → ss_R G h_36 H → va_S (ss_A G) s.heap H locs → lv_has ls 8 [(0, ss_v (ss_b G) this), (1, .int a1), (2, .int x2_36), (3, .long x3_36), (5, .int x5_36)] → ww_M_choice p l e s m below meth c G this a1 h rr hh  H locs 0 0 (F0 m 36 ls []) := by
      intro n
      induction n with
      | zero => intro x2_36 x3_36 x5_36 h_36 H locs ls hm; cases hm
      | succ n ih_36 =>
        intro x2_36 x3_36 x5_36 h_36 H locs ls hm hR hS hl
        obtain ⟨z_36, hm, hz1_36, hz2_36⟩ := ss_lps hm
        have J_96 : ∀ (x2_96 : Int32) (x3_96 : Int64) (x5_96 : Int32) (h_96 : ss_Hp) (H : Heap) (locs : List Loc) (ls : Array Slot), mm_M_choice_j96 N this a1 x2_96 x3_96 x5_96 h_96 = some z_36 → ss_R G h_96 H → va_S (ss_A G) s.heap H locs → lv_has ls 8 [(0, ss_v (ss_b G) this), (1, .int a1), (2, .int x2_96), (3, .long x3_96), (5, .int x5_96)] → ww_M_choice p l e s m below meth c G this a1 h rr hh  H locs 0 0 (F0 m 96 ls []) := by
          intro x2_96 x3_96 x5_96 h_96 H locs ls hm hR hS hl
          obtain ⟨v3, qv3, hm⟩ := ss_bind hm
          refine lv_iinc (v := v3) (lv' := [(5, .int v3), (0, ss_v (ss_b G) this), (1, .int a1), (2, .int x2_96), (3, .long x3_96)]) hx hb dd_M_choice_96 hl (k := 4) rfl (ss_inc (by decide) qv3) (by decide) rfl (fun ls hl => ?_)
          refine lv_goto (tgt := 36) hx hb dd_M_choice_99 (by decide) ?_
          exact ih_36 x2_96 x3_96 v3 h_96 _ _ _ (hz1_36 _ (ss_some hm)) hR hS (lv_sub hl [1, 2, 3, 4, 0] rfl)
        refine lv_iload hx hb dd_M_choice_36 (lv_at hl 4 rfl) ?_
        refine ss_aload_n hx hb dd_M_choice_38 rfl (lv_at hl 0 rfl) ?_
        obtain ⟨r4, qr4, hm⟩ := ss_bind hm
        refine ss_getr hC hK hR kf_M_39 rfl qr4 dd_M_choice_39 ?_
        refine lv_iconst (v := 2) hx hb dd_M_choice_42 (by decide) ?_
        obtain ⟨v5, qv5, hm⟩ := ss_bind hm
        refine ss_iald hC hK hR qv5 dd_M_choice_43 ?_
        refine lv_icmp_ge (tgt := 102) hx hb dd_M_choice_44 (by decide) (fun c6 => ?_) (fun c6 => ?_)
        · have hm := ss_ift hm c6
          exact X_36_102 x2_36 h_36 _ _ _ (hz2_36 _ (ss_some hm)) hR hS (lv_sub hl [2] rfl)
        · have hm := ss_iff hm c6
          refine ss_aload_n hx hb dd_M_choice_47 rfl (lv_at hl 0 rfl) ?_
          obtain ⟨r7, qr7, hm⟩ := ss_bind hm
          refine ss_getr hC hK hR kf_M_39 rfl qr7 dd_M_choice_48 ?_
          refine lv_bipush (v := 14) hx hb dd_M_choice_51 (by decide) ?_
          refine lv_iload hx hb dd_M_choice_53 (lv_at hl 4 rfl) ?_
          refine lv_iadd hx hb dd_M_choice_55 ?_
          obtain ⟨v8, qv8, hm⟩ := ss_bind hm
          refine ss_iald hC hK hR qv8 dd_M_choice_56 ?_
          refine lv_if_ne (tgt := 63) hx hb dd_M_choice_57 (by decide) (fun c9 => ?_) (fun c9 => ?_)
          · have hm := ss_iff hm c9
            refine ss_aload_n hx hb dd_M_choice_63 rfl (lv_at hl 0 rfl) ?_
            refine lv_iload_n hx hb dd_M_choice_64 rfl (lv_at hl 1 rfl) ?_
            refine lv_iload hx hb dd_M_choice_65 (lv_at hl 4 rfl) ?_
            obtain ⟨h10, qh10, hm⟩ := ss_bind hm
            refine ss_cVv 0 0 (As := [.int a1, .int x5_36]) hC hK hR hS hl.1 (cc_M_words l G N _ _ _ _ _ qh10) km_M_349 (ck_M_words qh10) ⟨Nat.le_of_ble_eq_true rfl, Nat.le_of_ble_eq_true rfl⟩ ⟨Nat.le_of_ble_eq_true rfl, Nat.le_of_ble_eq_true rfl, Nat.le_of_ble_eq_true rfl, Nat.le_of_ble_eq_true rfl⟩ rfl rfl (Nat.le_of_ble_eq_true rfl) dd_M_choice_67 (fun H locs hR hS => ?_)
            refine ss_aload_n hx hb dd_M_choice_70 rfl (lv_at hl 0 rfl) ?_
            refine ss_aload_n hx hb dd_M_choice_71 rfl (lv_at hl 0 rfl) ?_
            obtain ⟨v11, qv11, hm⟩ := ss_bind hm
            refine ss_geti hC hK hR kf_M_42 qv11 dd_M_choice_72 ?_
            obtain ⟨v12, h13, qh13, hm⟩ := ss_bind2 hm
            refine ss_cV 0 0 (As := [.int v11]) hC hK hR hS hl.1 (cc_M_summedBy l G N _ _ _ _ _ qh13) km_M_352 (ck_M_summedBy qh13) ⟨Nat.le_of_ble_eq_true rfl, Nat.le_of_ble_eq_true rfl⟩ ⟨Nat.le_of_ble_eq_true rfl, Nat.le_of_ble_eq_true rfl, Nat.le_of_ble_eq_true rfl, Nat.le_of_ble_eq_true rfl⟩ rfl rfl (Nat.le_of_ble_eq_true rfl) dd_M_choice_75 (fun H locs hR hS => ?_)
            refine lv_lstore (lv' := [(6, .long v12), (0, ss_v (ss_b G) this), (1, .int a1), (2, .int x2_36), (3, .long x3_36), (5, .int x5_36)]) hx hb dd_M_choice_78 hl (by decide) rfl (fun ls hl => ?_)
            refine lv_lload hx hb dd_M_choice_80 (lv_at hl 0 rfl) ?_
            refine lv_lload_n hx hb dd_M_choice_82 rfl (lv_at hl 4 rfl) ?_
            refine W.lcmp hx hb dd_M_choice_83 ?_
            refine lv_if_gt (tgt := 90) hx hb dd_M_choice_84 (by decide) (fun c14 => ?_) (fun c14 => ?_)
            · have hm := ss_ift hm c14
              refine lv_iload hx hb dd_M_choice_90 (lv_at hl 5 rfl) ?_
              refine lv_istore_n (lv' := [(2, .int x5_36), (6, .long v12), (0, ss_v (ss_b G) this), (1, .int a1), (3, .long x3_36), (5, .int x5_36)]) hx hb dd_M_choice_92 rfl hl (by decide) rfl (fun ls hl => ?_)
              refine lv_lload hx hb dd_M_choice_93 (lv_at hl 1 rfl) ?_
              refine lv_lstore_n (lv' := [(3, .long v12), (2, .int x5_36), (6, .long v12), (0, ss_v (ss_b G) this), (1, .int a1), (5, .int x5_36)]) hx hb dd_M_choice_95 rfl hl (by decide) rfl (fun ls hl => ?_)
              exact J_96 x5_36 v12 x5_36 h13 _ _ _ hm hR hS (lv_sub hl [3, 4, 1, 0, 5] rfl)
            · have hm := ss_iff hm c14
              refine lv_goto (tgt := 96) hx hb dd_M_choice_87 (by decide) ?_
              exact J_96 x2_36 x3_36 x5_36 h13 _ _ _ hm hR hS (lv_sub hl [1, 2, 3, 4, 5] rfl)
          · have hm := ss_ift hm c9
            refine lv_goto (tgt := 96) hx hb dd_M_choice_60 (by decide) ?_
            exact J_96 x2_36 x3_36 x5_36 h_36 _ _ _ hm hR hS hl
    exact L_36 N (-1 : Int32) (0 : Int64) (0 : Int32) h _ _ _ he_36 hR hS (lv_sub hl [3, 4, 2, 1, 0] rfl)
  · have hm := ss_iff hm c2
    refine ss_aload_n hx hb dd_M_choice_7 rfl (lv_at hl 0 rfl) ?_
    refine ss_aload_n hx hb dd_M_choice_8 rfl (lv_at hl 0 rfl) ?_
    refine lv_iload_n hx hb dd_M_choice_9 rfl (lv_at hl 1 rfl) ?_
    obtain ⟨v15, qv15, hm⟩ := ss_bind hm
    refine ss_cV 0 0 (As := [.int a1]) hC hK hR hS hl.1 (cc_M_ownOf l G N _ _ _ _ qv15) km_M_327 (ck_M_ownOf qv15) ⟨Nat.le_of_ble_eq_true rfl, Nat.le_of_ble_eq_true rfl⟩ ⟨Nat.le_of_ble_eq_true rfl, Nat.le_of_ble_eq_true rfl, Nat.le_of_ble_eq_true rfl, Nat.le_of_ble_eq_true rfl⟩ rfl rfl (by simp [ss_v_cat, ss_cat_i, ss_cat_l, ss_cat_r]) dd_M_choice_10 (fun H locs hR hS => ?_)
    obtain ⟨v16, qv16, hm⟩ := ss_bind hm
    refine ss_cV 0 0 (As := [.int v15]) hC hK hR hS hl.1 (cc_M_isClosed l G N _ _ _ _ qv16) km_M_307 (ck_M_isClosed qv16) ⟨Nat.le_of_ble_eq_true rfl, Nat.le_of_ble_eq_true rfl⟩ ⟨Nat.le_of_ble_eq_true rfl, Nat.le_of_ble_eq_true rfl, Nat.le_of_ble_eq_true rfl, Nat.le_of_ble_eq_true rfl⟩ rfl rfl (Nat.le_of_ble_eq_true rfl) dd_M_choice_13 (fun H locs hR hS => ?_)
    refine lv_if_eq (tgt := 27) hx hb dd_M_choice_16 (by decide) (fun c17 => ?_) (fun c17 => ?_)
    · have hm := ss_ift hm c17
      refine lv_iconst (v := -1) hx hb dd_M_choice_27 (by decide) ?_
      exact J_28 (-1 : Int32) h _ _ _ hm hR hS (lv_sub hl [] rfl)
    · have hm := ss_iff hm c17
      refine ss_aload_n hx hb dd_M_choice_19 rfl (lv_at hl 0 rfl) ?_
      refine lv_iload_n hx hb dd_M_choice_20 rfl (lv_at hl 1 rfl) ?_
      obtain ⟨v18, qv18, hm⟩ := ss_bind hm
      refine ss_cV 0 0 (As := [.int a1]) hC hK hR hS hl.1 (cc_M_ownOf l G N _ _ _ _ qv18) km_M_327 (ck_M_ownOf qv18) ⟨Nat.le_of_ble_eq_true rfl, Nat.le_of_ble_eq_true rfl⟩ ⟨Nat.le_of_ble_eq_true rfl, Nat.le_of_ble_eq_true rfl, Nat.le_of_ble_eq_true rfl, Nat.le_of_ble_eq_true rfl⟩ rfl rfl (Nat.le_of_ble_eq_true rfl) dd_M_choice_21 (fun H locs hR hS => ?_)
      refine lv_goto (tgt := 28) hx hb dd_M_choice_24 (by decide) ?_
      exact J_28 v18 h _ _ _ hm hR hS (lv_sub hl [] rfl)
theorem dd_M_held_0 : decode bb_M_held 0 = .ok (.iload_n 0, 1) := by decide +kernel
theorem dd_M_held_1 : decode bb_M_held 1 = .ok (.sipush 999, 3) := by decide +kernel
theorem dd_M_held_4 : decode bb_M_held 4 = .ok (.if_icmp .le 9, 3) := by decide +kernel
theorem dd_M_held_7 : decode bb_M_held 7 = .ok (.sipush 999, 3) := by decide +kernel
theorem dd_M_held_10 : decode bb_M_held 10 = .ok (.goto 4, 3) := by decide +kernel
theorem dd_M_held_13 : decode bb_M_held 13 = .ok (.iload_n 0, 1) := by decide +kernel
theorem dd_M_held_14 : decode bb_M_held 14 = .ok (.ireturn, 1) := by decide +kernel
def mm_M_held_j14 (N : Nat) (a1 : Int32) (s0_14 : Int32) : Option Int32 :=
  some s0_14
def mm_M_held (N : Nat) (a1 : Int32) : Option Int32 :=
  if a1 ≤ (999 : Int32) then
    mm_M_held_j14 N a1 a1
  else
    mm_M_held_j14 N a1 (999 : Int32)
abbrev ww_M_held (p : Program) (l : Launch) (e : Env) (s : State) (m : MethodId) (below : List Frame) (meth : Method) (c : Code) (G : ss_G) (a1 : Int32) (h : ss_Hp) (rr : Int32) (H : Heap) (locs : List Loc) (k n : Nat) (g : JFrame) : Prop := W p l e (headSpec (ss_w yy_M_held bb_M_held 1 (some (.int))) ({ frames := 0, cells := 0, slots := 0, locals := 0 })).room s m ([.int a1] : List Value).toArray below meth c H locs k n (MQ below (ss_Qc G (some (.int rr)) h) ([.int a1] : List Value).toArray s 0 0 (ss_A G)) g
set_option maxHeartbeats 4000000 in
set_option maxRecDepth 100000 in
theorem cc_M_held (l : Launch) (G : ss_G) (N : Nat) (a1 : Int32) (h : ss_Hp) (rr : Int32) (hm : mm_M_held N a1 = some rr) : ss_Ct l G yy_M_held bb_M_held 1 (some (.int)) ({ frames := 0, cells := 0, slots := 0, locals := 0 }) [.int a1] h (some (.int rr)) h := by
  refine Met.ofW (cc := bb_M_held) (maxL := 1) (ret := (some (.int))) (by decide) rfl ?_
  intro p e s m args below meth c s₁ B hml hv
  obtain ⟨rfl, hR, hK⟩ := hv
  have hC : CallFix p m c bb_M_held 1 s _ lw_g sR_12 := ⟨B.exec, B.bytes, hml, findClass_of_methodNamed B.named, fun w hw => atoms_spec (ws := ss_w yy_M_held bb_M_held 1 (some (.int))) B.pre w (List.mem_cons_of_mem _ hw)⟩
  have hx := hC.1
  have hb := hC.2.1
  have hr := B.returns
  have hlocks := B.notSynchronized
  have hS : va_S (ss_A G) s.heap s.heap [] := va_S.rf
  have hl := lv_entry ([.int a1]) (n := 1) (Nat.le_of_ble_eq_true rfl)
  rw [lg_entry_eq]
  generalize (lg_sl ([.int a1]) ++ List.replicate (1 - (lg_sl ([.int a1])).length) Slot.unset).toArray = ls at hl ⊢
  have hl : lv_has ls 1 [(0, .int a1)] := hl
  have J_14 : ∀ (s0_14 : Int32) (H : Heap) (locs : List Loc) (ls : Array Slot), mm_M_held_j14 N a1 s0_14 = some rr → ss_R G h H → va_S (ss_A G) s.heap H locs → lv_has ls 1 [] → ww_M_held p l e s m below meth c G a1 h rr  H locs 0 0 (F0 m 14 ls [.int s0_14]) := by
    intro s0_14 H locs ls hm hR hS hl
    exact ss_iret hC hr hlocks hR hS (ss_with _ hm) dd_M_held_14
  refine lv_iload_n hx hb dd_M_held_0 rfl (lv_at hl 0 rfl) ?_
  refine lv_sipush (v := 999) hx hb dd_M_held_1 (by decide) ?_
  refine lv_icmp_le (tgt := 13) hx hb dd_M_held_4 (by decide) (fun c1 => ?_) (fun c1 => ?_)
  · have hm := ss_ift hm c1
    refine lv_iload_n hx hb dd_M_held_13 rfl (lv_at hl 0 rfl) ?_
    exact J_14 a1  _ _ _ hm hR hS (lv_sub hl [] rfl)
  · have hm := ss_iff hm c1
    refine lv_sipush (v := 999) hx hb dd_M_held_7 (by decide) ?_
    refine lv_goto (tgt := 14) hx hb dd_M_held_10 (by decide) ?_
    exact J_14 (999 : Int32)  _ _ _ hm hR hS (lv_sub hl [] rfl)
theorem dd_M_takes_0 : decode bb_M_takes 0 = .ok (.aload_n 0, 1) := by decide +kernel
theorem dd_M_takes_1 : decode bb_M_takes 1 = .ok (.iload_n 1, 1) := by decide +kernel
theorem dd_M_takes_2 : decode bb_M_takes 2 = .ok (.invokevirtual 330, 3) := by decide +kernel
theorem dd_M_takes_5 : decode bb_M_takes 5 = .ok (.aload_n 0, 1) := by decide +kernel
theorem dd_M_takes_6 : decode bb_M_takes 6 = .ok (.getfield 39, 3) := by decide +kernel
theorem dd_M_takes_9 : decode bb_M_takes 9 = .ok (.bipush 14, 2) := by decide +kernel
theorem dd_M_takes_11 : decode bb_M_takes 11 = .ok (.iload_n 2, 1) := by decide +kernel
theorem dd_M_takes_12 : decode bb_M_takes 12 = .ok (.iadd, 1) := by decide +kernel
theorem dd_M_takes_13 : decode bb_M_takes 13 = .ok (.iaload, 1) := by decide +kernel
theorem dd_M_takes_14 : decode bb_M_takes 14 = .ok (.if_icmp .ge 11, 3) := by decide +kernel
theorem dd_M_takes_17 : decode bb_M_takes 17 = .ok (.aload_n 0, 1) := by decide +kernel
theorem dd_M_takes_18 : decode bb_M_takes 18 = .ok (.iload_n 1, 1) := by decide +kernel
theorem dd_M_takes_19 : decode bb_M_takes 19 = .ok (.invokevirtual 330, 3) := by decide +kernel
theorem dd_M_takes_22 : decode bb_M_takes 22 = .ok (.goto 12, 3) := by decide +kernel
theorem dd_M_takes_25 : decode bb_M_takes 25 = .ok (.aload_n 0, 1) := by decide +kernel
theorem dd_M_takes_26 : decode bb_M_takes 26 = .ok (.getfield 39, 3) := by decide +kernel
theorem dd_M_takes_29 : decode bb_M_takes 29 = .ok (.bipush 14, 2) := by decide +kernel
theorem dd_M_takes_31 : decode bb_M_takes 31 = .ok (.iload_n 2, 1) := by decide +kernel
theorem dd_M_takes_32 : decode bb_M_takes 32 = .ok (.iadd, 1) := by decide +kernel
theorem dd_M_takes_33 : decode bb_M_takes 33 = .ok (.iaload, 1) := by decide +kernel
theorem dd_M_takes_34 : decode bb_M_takes 34 = .ok (.istore_n 3, 1) := by decide +kernel
theorem dd_M_takes_35 : decode bb_M_takes 35 = .ok (.aload_n 0, 1) := by decide +kernel
theorem dd_M_takes_36 : decode bb_M_takes 36 = .ok (.getfield 39, 3) := by decide +kernel
theorem dd_M_takes_39 : decode bb_M_takes 39 = .ok (.bipush 22, 2) := by decide +kernel
theorem dd_M_takes_41 : decode bb_M_takes 41 = .ok (.iload_n 2, 1) := by decide +kernel
theorem dd_M_takes_42 : decode bb_M_takes 42 = .ok (.iadd, 1) := by decide +kernel
theorem dd_M_takes_43 : decode bb_M_takes 43 = .ok (.iaload, 1) := by decide +kernel
theorem dd_M_takes_44 : decode bb_M_takes 44 = .ok (.istore 4, 2) := by decide +kernel
theorem dd_M_takes_46 : decode bb_M_takes 46 = .ok (.aload_n 0, 1) := by decide +kernel
theorem dd_M_takes_47 : decode bb_M_takes 47 = .ok (.getfield 39, 3) := by decide +kernel
theorem dd_M_takes_50 : decode bb_M_takes 50 = .ok (.bipush 14, 2) := by decide +kernel
theorem dd_M_takes_52 : decode bb_M_takes 52 = .ok (.iload_n 2, 1) := by decide +kernel
theorem dd_M_takes_53 : decode bb_M_takes 53 = .ok (.iadd, 1) := by decide +kernel
theorem dd_M_takes_54 : decode bb_M_takes 54 = .ok (.dup2, 1) := by decide +kernel
theorem dd_M_takes_55 : decode bb_M_takes 55 = .ok (.iaload, 1) := by decide +kernel
theorem dd_M_takes_56 : decode bb_M_takes 56 = .ok (.iload_n 3, 1) := by decide +kernel
theorem dd_M_takes_57 : decode bb_M_takes 57 = .ok (.isub, 1) := by decide +kernel
theorem dd_M_takes_58 : decode bb_M_takes 58 = .ok (.iastore, 1) := by decide +kernel
theorem dd_M_takes_59 : decode bb_M_takes 59 = .ok (.iload_n 3, 1) := by decide +kernel
theorem dd_M_takes_60 : decode bb_M_takes 60 = .ok (.ifCond .le 16, 3) := by decide +kernel
theorem dd_M_takes_63 : decode bb_M_takes 63 = .ok (.aload_n 0, 1) := by decide +kernel
theorem dd_M_takes_64 : decode bb_M_takes 64 = .ok (.getfield 39, 3) := by decide +kernel
theorem dd_M_takes_67 : decode bb_M_takes 67 = .ok (.bipush 11, 2) := by decide +kernel
theorem dd_M_takes_69 : decode bb_M_takes 69 = .ok (.dup2, 1) := by decide +kernel
theorem dd_M_takes_70 : decode bb_M_takes 70 = .ok (.iaload, 1) := by decide +kernel
theorem dd_M_takes_71 : decode bb_M_takes 71 = .ok (.iconst 1, 1) := by decide +kernel
theorem dd_M_takes_72 : decode bb_M_takes 72 = .ok (.iload_n 2, 1) := by decide +kernel
theorem dd_M_takes_73 : decode bb_M_takes 73 = .ok (.ishl, 1) := by decide +kernel
theorem dd_M_takes_74 : decode bb_M_takes 74 = .ok (.ior, 1) := by decide +kernel
theorem dd_M_takes_75 : decode bb_M_takes 75 = .ok (.iastore, 1) := by decide +kernel
theorem dd_M_takes_76 : decode bb_M_takes 76 = .ok (.iload 4, 2) := by decide +kernel
theorem dd_M_takes_78 : decode bb_M_takes 78 = .ok (.ifCond .lt 39, 3) := by decide +kernel
theorem dd_M_takes_81 : decode bb_M_takes 81 = .ok (.aload_n 0, 1) := by decide +kernel
theorem dd_M_takes_82 : decode bb_M_takes 82 = .ok (.getfield 46, 3) := by decide +kernel
theorem dd_M_takes_85 : decode bb_M_takes 85 = .ok (.iload 4, 2) := by decide +kernel
theorem dd_M_takes_87 : decode bb_M_takes 87 = .ok (.dup2, 1) := by decide +kernel
theorem dd_M_takes_88 : decode bb_M_takes 88 = .ok (.iaload, 1) := by decide +kernel
theorem dd_M_takes_89 : decode bb_M_takes 89 = .ok (.iload_n 3, 1) := by decide +kernel
theorem dd_M_takes_90 : decode bb_M_takes 90 = .ok (.iadd, 1) := by decide +kernel
theorem dd_M_takes_91 : decode bb_M_takes 91 = .ok (.iastore, 1) := by decide +kernel
theorem dd_M_takes_92 : decode bb_M_takes 92 = .ok (.aload_n 0, 1) := by decide +kernel
theorem dd_M_takes_93 : decode bb_M_takes 93 = .ok (.getfield 39, 3) := by decide +kernel
theorem dd_M_takes_96 : decode bb_M_takes 96 = .ok (.bipush 14, 2) := by decide +kernel
theorem dd_M_takes_98 : decode bb_M_takes 98 = .ok (.iload 4, 2) := by decide +kernel
theorem dd_M_takes_100 : decode bb_M_takes 100 = .ok (.iadd, 1) := by decide +kernel
theorem dd_M_takes_101 : decode bb_M_takes 101 = .ok (.aload_n 0, 1) := by decide +kernel
theorem dd_M_takes_102 : decode bb_M_takes 102 = .ok (.getfield 39, 3) := by decide +kernel
theorem dd_M_takes_105 : decode bb_M_takes 105 = .ok (.bipush 14, 2) := by decide +kernel
theorem dd_M_takes_107 : decode bb_M_takes 107 = .ok (.iload 4, 2) := by decide +kernel
theorem dd_M_takes_109 : decode bb_M_takes 109 = .ok (.iadd, 1) := by decide +kernel
theorem dd_M_takes_110 : decode bb_M_takes 110 = .ok (.iaload, 1) := by decide +kernel
theorem dd_M_takes_111 : decode bb_M_takes 111 = .ok (.iload_n 3, 1) := by decide +kernel
theorem dd_M_takes_112 : decode bb_M_takes 112 = .ok (.iadd, 1) := by decide +kernel
theorem dd_M_takes_113 : decode bb_M_takes 113 = .ok (.invokestatic 333, 3) := by decide +kernel
theorem dd_M_takes_116 : decode bb_M_takes 116 = .ok (.iastore, 1) := by decide +kernel
theorem dd_M_takes_117 : decode bb_M_takes 117 = .ok (.iload_n 3, 1) := by decide +kernel
theorem dd_M_takes_118 : decode bb_M_takes 118 = .ok (.ireturn, 1) := by decide +kernel
def mm_M_takes_j117 (N : Nat) (this : Option Nat) (a1 : Int32) (a2 : Int32) (x3_117 : Int32) (h_117 : ss_Hp) : Option (Int32 × ss_Hp) :=
  some (x3_117, h_117)
def mm_M_takes_j76 (N : Nat) (this : Option Nat) (a1 : Int32) (a2 : Int32) (x3_76 : Int32) (x4_76 : Int32) (h_76 : ss_Hp) : Option (Int32 × ss_Hp) :=
  if x4_76 < 0 then
    mm_M_takes_j117 N this a1 a2 x3_76 h_76
  else
    (ss_gr h_76 this 12 10).bind fun r2 =>
    (ss_ai h_76 r2 20 x4_76).bind fun v3 =>
    (ss_ui h_76 r2 20 x4_76 (v3 + x3_76)).bind fun h4 =>
    (ss_gr h4 this 12 9).bind fun r5 =>
    (ss_gr h4 this 12 9).bind fun r6 =>
    (ss_ai h4 r6 20 ((14 : Int32) + x4_76)).bind fun v7 =>
    (mm_M_held N (v7 + x3_76)).bind fun v8 =>
    (ss_ui h4 r5 20 ((14 : Int32) + x4_76) v8).bind fun h9 =>
    mm_M_takes_j117 N this a1 a2 x3_76 h9
def mm_M_takes_j34 (N : Nat) (this : Option Nat) (a1 : Int32) (a2 : Int32) (s0_34 : Int32) (h_34 : ss_Hp) : Option (Int32 × ss_Hp) :=
  (ss_gr h_34 this 12 9).bind fun r10 =>
  (ss_ai h_34 r10 20 ((22 : Int32) + a2)).bind fun v11 =>
  (ss_gr h_34 this 12 9).bind fun r12 =>
  (some ((14 : Int32) + a2)).bind fun v13 =>
  (ss_ai h_34 r12 20 v13).bind fun v14 =>
  (ss_ui h_34 r12 20 v13 (v14 - s0_34)).bind fun h15 =>
  if s0_34 ≤ 0 then
    mm_M_takes_j76 N this a1 a2 s0_34 v11 h15
  else
    (ss_gr h15 this 12 9).bind fun r17 =>
    (ss_ai h15 r17 20 (11 : Int32)).bind fun v18 =>
    (ss_ui h15 r17 20 (11 : Int32) (v18 ||| ((1 : Int32) <<< (a2 &&& 31)))).bind fun h19 =>
    mm_M_takes_j76 N this a1 a2 s0_34 v11 h19
def mm_M_takes (N : Nat) (this : Option Nat) (a1 : Int32) (a2 : Int32) (h : ss_Hp) : Option (Int32 × ss_Hp) :=
  if ss_is h this 12 = true then
    (mm_M_strengthOf N this a1 h).bind fun v20 =>
    (ss_gr h this 12 9).bind fun r21 =>
    (ss_ai h r21 20 ((14 : Int32) + a2)).bind fun v22 =>
    if v22 ≤ v20 then
      (ss_gr h this 12 9).bind fun r24 =>
      (ss_ai h r24 20 ((14 : Int32) + a2)).bind fun v25 =>
      mm_M_takes_j34 N this a1 a2 v25 h
    else
      (mm_M_strengthOf N this a1 h).bind fun v26 =>
      mm_M_takes_j34 N this a1 a2 v26 h
  else none
abbrev ww_M_takes (p : Program) (l : Launch) (e : Env) (s : State) (m : MethodId) (below : List Frame) (meth : Method) (c : Code) (G : ss_G) (this : Option Nat) (a1 : Int32) (a2 : Int32) (h : ss_Hp) (rr : Int32) (hh : ss_Hp) (H : Heap) (locs : List Loc) (k n : Nat) (g : JFrame) : Prop := W p l e (headSpec (ss_w yy_M_takes bb_M_takes 5 (some (.int))) ({ frames := 1, cells := 0, slots := 0, locals := 21 })).room s m ([ss_v (ss_b G) this, .int a1, .int a2] : List Value).toArray below meth c H locs k n (MQ below (ss_Qc G (some (.int rr)) hh) ([ss_v (ss_b G) this, .int a1, .int a2] : List Value).toArray s 0 0 (ss_A G)) g
theorem ck_M_takes {N : Nat} {this : Option Nat} {a1 : Int32} {a2 : Int32} {h : ss_Hp} {res : Int32 × ss_Hp} (hm : mm_M_takes N this a1 a2 h = some res) : ss_is h this 12 = true := (ss_chk hm).1
set_option maxHeartbeats 4000000 in
set_option maxRecDepth 100000 in
theorem cc_M_takes (l : Launch) (G : ss_G) (N : Nat) (this : Option Nat) (a1 : Int32) (a2 : Int32) (h : ss_Hp) (rr : Int32) (hh : ss_Hp) (hm : mm_M_takes N this a1 a2 h = some (rr, hh)) : ss_Ct l G yy_M_takes bb_M_takes 5 (some (.int)) ({ frames := 1, cells := 0, slots := 0, locals := 21 }) [ss_v (ss_b G) this, .int a1, .int a2] h (some (.int rr)) hh := by
  obtain ⟨hck, hm⟩ := ss_chk hm
  refine Met.ofW (cc := bb_M_takes) (maxL := 5) (ret := (some (.int))) (by decide) rfl ?_
  intro p e s m args below meth c s₁ B hml hv
  obtain ⟨rfl, hR, hK⟩ := hv
  have hC : CallFix p m c bb_M_takes 5 s _ lw_g sR_12 := ⟨B.exec, B.bytes, hml, findClass_of_methodNamed B.named, fun w hw => atoms_spec (ws := ss_w yy_M_takes bb_M_takes 5 (some (.int))) B.pre w (List.mem_cons_of_mem _ hw)⟩
  have hx := hC.1
  have hb := hC.2.1
  have hr := B.returns
  have hlocks := B.notSynchronized
  have hS : va_S (ss_A G) s.heap s.heap [] := va_S.rf
  have hl := lv_entry ([ss_v (ss_b G) this, .int a1, .int a2]) (n := 5) (by simp [lg_sl, ss_v_cat, ss_cat_i, ss_cat_l, ss_cat_r])
  rw [lg_entry_eq]
  generalize (lg_sl ([ss_v (ss_b G) this, .int a1, .int a2]) ++ List.replicate (5 - (lg_sl ([ss_v (ss_b G) this, .int a1, .int a2])).length) Slot.unset).toArray = ls at hl ⊢
  have hl : lv_has ls 5 [(0, ss_v (ss_b G) this), (1, .int a1), (2, .int a2)] := by simpa [lv_args, ss_v_cat, ss_cat_i, ss_cat_l, ss_cat_r] using hl
  have J_117 : ∀ (x3_117 : Int32) (h_117 : ss_Hp) (H : Heap) (locs : List Loc) (ls : Array Slot), mm_M_takes_j117 N this a1 a2 x3_117 h_117 = some (rr, hh) → ss_R G h_117 H → va_S (ss_A G) s.heap H locs → lv_has ls 5 [(3, .int x3_117)] → ww_M_takes p l e s m below meth c G this a1 a2 h rr hh  H locs 0 0 (F0 m 117 ls []) := by
    intro x3_117 h_117 H locs ls hm hR hS hl
    refine lv_iload_n hx hb dd_M_takes_117 rfl (lv_at hl 0 rfl) ?_
    exact ss_iret hC hr hlocks hR hS hm dd_M_takes_118
  have J_76 : ∀ (x3_76 : Int32) (x4_76 : Int32) (h_76 : ss_Hp) (H : Heap) (locs : List Loc) (ls : Array Slot), mm_M_takes_j76 N this a1 a2 x3_76 x4_76 h_76 = some (rr, hh) → ss_R G h_76 H → va_S (ss_A G) s.heap H locs → lv_has ls 5 [(0, ss_v (ss_b G) this), (3, .int x3_76), (4, .int x4_76)] → ww_M_takes p l e s m below meth c G this a1 a2 h rr hh  H locs 0 0 (F0 m 76 ls []) := by
    intro x3_76 x4_76 h_76 H locs ls hm hR hS hl
    refine lv_iload hx hb dd_M_takes_76 (lv_at hl 2 rfl) ?_
    refine lv_if_lt (tgt := 117) hx hb dd_M_takes_78 (by decide) (fun c1 => ?_) (fun c1 => ?_)
    · have hm := ss_ift hm c1
      exact J_117 x3_76 h_76 _ _ _ hm hR hS (lv_sub hl [1] rfl)
    · have hm := ss_iff hm c1
      refine ss_aload_n hx hb dd_M_takes_81 rfl (lv_at hl 0 rfl) ?_
      obtain ⟨r2, qr2, hm⟩ := ss_bind hm
      refine ss_getr hC hK hR kf_M_46 rfl qr2 dd_M_takes_82 ?_
      refine lv_iload hx hb dd_M_takes_85 (lv_at hl 2 rfl) ?_
      refine ss_dup2ir hx hb dd_M_takes_87 ?_
      obtain ⟨v3, qv3, hm⟩ := ss_bind hm
      refine ss_iald hC hK hR qv3 dd_M_takes_88 ?_
      refine lv_iload_n hx hb dd_M_takes_89 rfl (lv_at hl 1 rfl) ?_
      refine lv_iadd hx hb dd_M_takes_90 ?_
      obtain ⟨h4, qh4, hm⟩ := ss_bind hm
      refine ss_iast hC hK hR hS qh4 dd_M_takes_91 (fun H locs hR hS => ?_)
      refine ss_aload_n hx hb dd_M_takes_92 rfl (lv_at hl 0 rfl) ?_
      obtain ⟨r5, qr5, hm⟩ := ss_bind hm
      refine ss_getr hC hK hR kf_M_39 rfl qr5 dd_M_takes_93 ?_
      refine lv_bipush (v := 14) hx hb dd_M_takes_96 (by decide) ?_
      refine lv_iload hx hb dd_M_takes_98 (lv_at hl 2 rfl) ?_
      refine lv_iadd hx hb dd_M_takes_100 ?_
      refine ss_aload_n hx hb dd_M_takes_101 rfl (lv_at hl 0 rfl) ?_
      obtain ⟨r6, qr6, hm⟩ := ss_bind hm
      refine ss_getr hC hK hR kf_M_39 rfl qr6 dd_M_takes_102 ?_
      refine lv_bipush (v := 14) hx hb dd_M_takes_105 (by decide) ?_
      refine lv_iload hx hb dd_M_takes_107 (lv_at hl 2 rfl) ?_
      refine lv_iadd hx hb dd_M_takes_109 ?_
      obtain ⟨v7, qv7, hm⟩ := ss_bind hm
      refine ss_iald hC hK hR qv7 dd_M_takes_110 ?_
      refine lv_iload_n hx hb dd_M_takes_111 rfl (lv_at hl 1 rfl) ?_
      refine lv_iadd hx hb dd_M_takes_112 ?_
      obtain ⟨v8, qv8, hm⟩ := ss_bind hm
      refine ss_cS 0 0 (As := [.int (v7 + x3_76)]) hC hK hR hS hl.1 (cc_M_held l G N _ _ _ qv8) km_M_333 ⟨Nat.le_of_ble_eq_true rfl, Nat.le_of_ble_eq_true rfl⟩ ⟨Nat.le_of_ble_eq_true rfl, Nat.le_of_ble_eq_true rfl, Nat.le_of_ble_eq_true rfl, Nat.le_of_ble_eq_true rfl⟩ rfl rfl (by simp [ss_v_cat, ss_cat_i, ss_cat_l, ss_cat_r]) dd_M_takes_113 (fun H locs hR hS => ?_)
      obtain ⟨h9, qh9, hm⟩ := ss_bind hm
      refine ss_iast hC hK hR hS qh9 dd_M_takes_116 (fun H locs hR hS => ?_)
      exact J_117 x3_76 h9 _ _ _ hm hR hS (lv_sub hl [1] rfl)
  have J_34 : ∀ (s0_34 : Int32) (h_34 : ss_Hp) (H : Heap) (locs : List Loc) (ls : Array Slot), mm_M_takes_j34 N this a1 a2 s0_34 h_34 = some (rr, hh) → ss_R G h_34 H → va_S (ss_A G) s.heap H locs → lv_has ls 5 [(0, ss_v (ss_b G) this), (2, .int a2)] → ww_M_takes p l e s m below meth c G this a1 a2 h rr hh  H locs 0 0 (F0 m 34 ls [.int s0_34]) := by
    intro s0_34 h_34 H locs ls hm hR hS hl
    refine lv_istore_n (lv' := [(3, .int s0_34), (0, ss_v (ss_b G) this), (2, .int a2)]) hx hb dd_M_takes_34 rfl hl (by decide) rfl (fun ls hl => ?_)
    refine ss_aload_n hx hb dd_M_takes_35 rfl (lv_at hl 1 rfl) ?_
    obtain ⟨r10, qr10, hm⟩ := ss_bind hm
    refine ss_getr hC hK hR kf_M_39 rfl qr10 dd_M_takes_36 ?_
    refine lv_bipush (v := 22) hx hb dd_M_takes_39 (by decide) ?_
    refine lv_iload_n hx hb dd_M_takes_41 rfl (lv_at hl 2 rfl) ?_
    refine lv_iadd hx hb dd_M_takes_42 ?_
    obtain ⟨v11, qv11, hm⟩ := ss_bind hm
    refine ss_iald hC hK hR qv11 dd_M_takes_43 ?_
    refine lv_istore (lv' := [(4, .int v11), (3, .int s0_34), (0, ss_v (ss_b G) this), (2, .int a2)]) hx hb dd_M_takes_44 hl (by decide) rfl (fun ls hl => ?_)
    refine ss_aload_n hx hb dd_M_takes_46 rfl (lv_at hl 2 rfl) ?_
    obtain ⟨r12, qr12, hm⟩ := ss_bind hm
    refine ss_getr hC hK hR kf_M_39 rfl qr12 dd_M_takes_47 ?_
    refine lv_bipush (v := 14) hx hb dd_M_takes_50 (by decide) ?_
    refine lv_iload_n hx hb dd_M_takes_52 rfl (lv_at hl 3 rfl) ?_
    refine lv_iadd hx hb dd_M_takes_53 ?_
    obtain ⟨v13, qv13, hm⟩ := ss_bind hm
    refine ss_topi qv13 ?_
    refine ss_dup2ir hx hb dd_M_takes_54 ?_
    obtain ⟨v14, qv14, hm⟩ := ss_bind hm
    refine ss_iald hC hK hR qv14 dd_M_takes_55 ?_
    refine lv_iload_n hx hb dd_M_takes_56 rfl (lv_at hl 1 rfl) ?_
    refine lv_isub hx hb dd_M_takes_57 ?_
    obtain ⟨h15, qh15, hm⟩ := ss_bind hm
    refine ss_iast hC hK hR hS qh15 dd_M_takes_58 (fun H locs hR hS => ?_)
    refine lv_iload_n hx hb dd_M_takes_59 rfl (lv_at hl 1 rfl) ?_
    refine lv_if_le (tgt := 76) hx hb dd_M_takes_60 (by decide) (fun c16 => ?_) (fun c16 => ?_)
    · have hm := ss_ift hm c16
      exact J_76 s0_34 v11 h15 _ _ _ hm hR hS (lv_sub hl [2, 1, 0] rfl)
    · have hm := ss_iff hm c16
      refine ss_aload_n hx hb dd_M_takes_63 rfl (lv_at hl 2 rfl) ?_
      obtain ⟨r17, qr17, hm⟩ := ss_bind hm
      refine ss_getr hC hK hR kf_M_39 rfl qr17 dd_M_takes_64 ?_
      refine lv_bipush (v := 11) hx hb dd_M_takes_67 (by decide) ?_
      refine ss_dup2ir hx hb dd_M_takes_69 ?_
      obtain ⟨v18, qv18, hm⟩ := ss_bind hm
      refine ss_iald hC hK hR qv18 dd_M_takes_70 ?_
      refine lv_iconst (v := 1) hx hb dd_M_takes_71 (by decide) ?_
      refine lv_iload_n hx hb dd_M_takes_72 rfl (lv_at hl 3 rfl) ?_
      refine lv_ishl hx hb dd_M_takes_73 ?_
      refine lv_ior hx hb dd_M_takes_74 ?_
      obtain ⟨h19, qh19, hm⟩ := ss_bind hm
      refine ss_iast hC hK hR hS qh19 dd_M_takes_75 (fun H locs hR hS => ?_)
      exact J_76 s0_34 v11 h19 _ _ _ hm hR hS (lv_sub hl [2, 1, 0] rfl)
  refine ss_aload_n hx hb dd_M_takes_0 rfl (lv_at hl 0 rfl) ?_
  refine lv_iload_n hx hb dd_M_takes_1 rfl (lv_at hl 1 rfl) ?_
  obtain ⟨v20, qv20, hm⟩ := ss_bind hm
  refine ss_cV 0 0 (As := [.int a1]) hC hK hR hS hl.1 (cc_M_strengthOf l G N _ _ _ _ qv20) km_M_330 (ck_M_strengthOf qv20) ⟨Nat.le_of_ble_eq_true rfl, Nat.le_of_ble_eq_true rfl⟩ ⟨Nat.le_of_ble_eq_true rfl, Nat.le_of_ble_eq_true rfl, Nat.le_of_ble_eq_true rfl, Nat.le_of_ble_eq_true rfl⟩ rfl rfl (Nat.le_of_ble_eq_true rfl) dd_M_takes_2 (fun H locs hR hS => ?_)
  refine ss_aload_n hx hb dd_M_takes_5 rfl (lv_at hl 0 rfl) ?_
  obtain ⟨r21, qr21, hm⟩ := ss_bind hm
  refine ss_getr hC hK hR kf_M_39 rfl qr21 dd_M_takes_6 ?_
  refine lv_bipush (v := 14) hx hb dd_M_takes_9 (by decide) ?_
  refine lv_iload_n hx hb dd_M_takes_11 rfl (lv_at hl 2 rfl) ?_
  refine lv_iadd hx hb dd_M_takes_12 ?_
  obtain ⟨v22, qv22, hm⟩ := ss_bind hm
  refine ss_iald hC hK hR qv22 dd_M_takes_13 ?_
  refine lv_icmp_ge (tgt := 25) hx hb dd_M_takes_14 (by decide) (fun c23 => ?_) (fun c23 => ?_)
  · have hm := ss_ift hm c23
    refine ss_aload_n hx hb dd_M_takes_25 rfl (lv_at hl 0 rfl) ?_
    obtain ⟨r24, qr24, hm⟩ := ss_bind hm
    refine ss_getr hC hK hR kf_M_39 rfl qr24 dd_M_takes_26 ?_
    refine lv_bipush (v := 14) hx hb dd_M_takes_29 (by decide) ?_
    refine lv_iload_n hx hb dd_M_takes_31 rfl (lv_at hl 2 rfl) ?_
    refine lv_iadd hx hb dd_M_takes_32 ?_
    obtain ⟨v25, qv25, hm⟩ := ss_bind hm
    refine ss_iald hC hK hR qv25 dd_M_takes_33 ?_
    exact J_34 v25 h _ _ _ hm hR hS (lv_sub hl [0, 2] rfl)
  · have hm := ss_iff hm c23
    refine ss_aload_n hx hb dd_M_takes_17 rfl (lv_at hl 0 rfl) ?_
    refine lv_iload_n hx hb dd_M_takes_18 rfl (lv_at hl 1 rfl) ?_
    obtain ⟨v26, qv26, hm⟩ := ss_bind hm
    refine ss_cV 0 0 (As := [.int a1]) hC hK hR hS hl.1 (cc_M_strengthOf l G N _ _ _ _ qv26) km_M_330 (ck_M_strengthOf qv26) ⟨Nat.le_of_ble_eq_true rfl, Nat.le_of_ble_eq_true rfl⟩ ⟨Nat.le_of_ble_eq_true rfl, Nat.le_of_ble_eq_true rfl, Nat.le_of_ble_eq_true rfl, Nat.le_of_ble_eq_true rfl⟩ rfl rfl (Nat.le_of_ble_eq_true rfl) dd_M_takes_19 (fun H locs hR hS => ?_)
    refine lv_goto (tgt := 34) hx hb dd_M_takes_22 (by decide) ?_
    exact J_34 v26 h _ _ _ hm hR hS (lv_sub hl [0, 2] rfl)
theorem dd_M_snows_0 : decode bb_M_snows 0 = .ok (.aload_n 0, 1) := by decide +kernel
theorem dd_M_snows_1 : decode bb_M_snows 1 = .ok (.getfield 39, 3) := by decide +kernel
theorem dd_M_snows_4 : decode bb_M_snows 4 = .ok (.bipush 11, 2) := by decide +kernel
theorem dd_M_snows_6 : decode bb_M_snows 6 = .ok (.iaload, 1) := by decide +kernel
theorem dd_M_snows_7 : decode bb_M_snows 7 = .ok (.istore_n 1, 1) := by decide +kernel
theorem dd_M_snows_8 : decode bb_M_snows 8 = .ok (.iconst 0, 1) := by decide +kernel
theorem dd_M_snows_9 : decode bb_M_snows 9 = .ok (.istore_n 2, 1) := by decide +kernel
theorem dd_M_snows_10 : decode bb_M_snows 10 = .ok (.iload_n 2, 1) := by decide +kernel
theorem dd_M_snows_11 : decode bb_M_snows 11 = .ok (.aload_n 0, 1) := by decide +kernel
theorem dd_M_snows_12 : decode bb_M_snows 12 = .ok (.getfield 39, 3) := by decide +kernel
theorem dd_M_snows_15 : decode bb_M_snows 15 = .ok (.iconst 2, 1) := by decide +kernel
theorem dd_M_snows_16 : decode bb_M_snows 16 = .ok (.iaload, 1) := by decide +kernel
theorem dd_M_snows_17 : decode bb_M_snows 17 = .ok (.if_icmp .ge 63, 3) := by decide +kernel
theorem dd_M_snows_20 : decode bb_M_snows 20 = .ok (.iload_n 1, 1) := by decide +kernel
theorem dd_M_snows_21 : decode bb_M_snows 21 = .ok (.iload_n 2, 1) := by decide +kernel
theorem dd_M_snows_22 : decode bb_M_snows 22 = .ok (.invokestatic 316, 3) := by decide +kernel
theorem dd_M_snows_25 : decode bb_M_snows 25 = .ok (.ifCond .ne 6, 3) := by decide +kernel
theorem dd_M_snows_28 : decode bb_M_snows 28 = .ok (.goto 46, 3) := by decide +kernel
theorem dd_M_snows_31 : decode bb_M_snows 31 = .ok (.aload_n 0, 1) := by decide +kernel
theorem dd_M_snows_32 : decode bb_M_snows 32 = .ok (.getfield 49, 3) := by decide +kernel
theorem dd_M_snows_35 : decode bb_M_snows 35 = .ok (.iload_n 2, 1) := by decide +kernel
theorem dd_M_snows_36 : decode bb_M_snows 36 = .ok (.dup2, 1) := by decide +kernel
theorem dd_M_snows_37 : decode bb_M_snows 37 = .ok (.iaload, 1) := by decide +kernel
theorem dd_M_snows_38 : decode bb_M_snows 38 = .ok (.aload_n 0, 1) := by decide +kernel
theorem dd_M_snows_39 : decode bb_M_snows 39 = .ok (.getfield 39, 3) := by decide +kernel
theorem dd_M_snows_42 : decode bb_M_snows 42 = .ok (.iconst 0, 1) := by decide +kernel
theorem dd_M_snows_43 : decode bb_M_snows 43 = .ok (.iaload, 1) := by decide +kernel
theorem dd_M_snows_44 : decode bb_M_snows 44 = .ok (.iadd, 1) := by decide +kernel
theorem dd_M_snows_45 : decode bb_M_snows 45 = .ok (.iastore, 1) := by decide +kernel
theorem dd_M_snows_46 : decode bb_M_snows 46 = .ok (.aload_n 0, 1) := by decide +kernel
theorem dd_M_snows_47 : decode bb_M_snows 47 = .ok (.getfield 39, 3) := by decide +kernel
theorem dd_M_snows_50 : decode bb_M_snows 50 = .ok (.bipush 14, 2) := by decide +kernel
theorem dd_M_snows_52 : decode bb_M_snows 52 = .ok (.iload_n 2, 1) := by decide +kernel
theorem dd_M_snows_53 : decode bb_M_snows 53 = .ok (.iadd, 1) := by decide +kernel
theorem dd_M_snows_54 : decode bb_M_snows 54 = .ok (.aload_n 0, 1) := by decide +kernel
theorem dd_M_snows_55 : decode bb_M_snows 55 = .ok (.getfield 39, 3) := by decide +kernel
theorem dd_M_snows_58 : decode bb_M_snows 58 = .ok (.bipush 14, 2) := by decide +kernel
theorem dd_M_snows_60 : decode bb_M_snows 60 = .ok (.iload_n 2, 1) := by decide +kernel
theorem dd_M_snows_61 : decode bb_M_snows 61 = .ok (.iadd, 1) := by decide +kernel
theorem dd_M_snows_62 : decode bb_M_snows 62 = .ok (.iaload, 1) := by decide +kernel
theorem dd_M_snows_63 : decode bb_M_snows 63 = .ok (.aload_n 0, 1) := by decide +kernel
theorem dd_M_snows_64 : decode bb_M_snows 64 = .ok (.getfield 39, 3) := by decide +kernel
theorem dd_M_snows_67 : decode bb_M_snows 67 = .ok (.iconst 0, 1) := by decide +kernel
theorem dd_M_snows_68 : decode bb_M_snows 68 = .ok (.iaload, 1) := by decide +kernel
theorem dd_M_snows_69 : decode bb_M_snows 69 = .ok (.iadd, 1) := by decide +kernel
theorem dd_M_snows_70 : decode bb_M_snows 70 = .ok (.invokestatic 333, 3) := by decide +kernel
theorem dd_M_snows_73 : decode bb_M_snows 73 = .ok (.iastore, 1) := by decide +kernel
theorem dd_M_snows_74 : decode bb_M_snows 74 = .ok (.iinc 2 1, 3) := by decide +kernel
theorem dd_M_snows_77 : decode bb_M_snows 77 = .ok (.goto (-67), 3) := by decide +kernel
theorem dd_M_snows_80 : decode bb_M_snows 80 = .ok (.aload_n 0, 1) := by decide +kernel
theorem dd_M_snows_81 : decode bb_M_snows 81 = .ok (.getfield 39, 3) := by decide +kernel
theorem dd_M_snows_84 : decode bb_M_snows 84 = .ok (.bipush 12, 2) := by decide +kernel
theorem dd_M_snows_86 : decode bb_M_snows 86 = .ok (.iload_n 1, 1) := by decide +kernel
theorem dd_M_snows_87 : decode bb_M_snows 87 = .ok (.iastore, 1) := by decide +kernel
theorem dd_M_snows_88 : decode bb_M_snows 88 = .ok (.aload_n 0, 1) := by decide +kernel
theorem dd_M_snows_89 : decode bb_M_snows 89 = .ok (.getfield 39, 3) := by decide +kernel
theorem dd_M_snows_92 : decode bb_M_snows 92 = .ok (.bipush 11, 2) := by decide +kernel
theorem dd_M_snows_94 : decode bb_M_snows 94 = .ok (.iconst 0, 1) := by decide +kernel
theorem dd_M_snows_95 : decode bb_M_snows 95 = .ok (.iastore, 1) := by decide +kernel
theorem dd_M_snows_96 : decode bb_M_snows 96 = .ok (.aload_n 0, 1) := by decide +kernel
theorem dd_M_snows_97 : decode bb_M_snows 97 = .ok (.getfield 39, 3) := by decide +kernel
theorem dd_M_snows_100 : decode bb_M_snows 100 = .ok (.bipush 13, 2) := by decide +kernel
theorem dd_M_snows_102 : decode bb_M_snows 102 = .ok (.iconst 0, 1) := by decide +kernel
theorem dd_M_snows_103 : decode bb_M_snows 103 = .ok (.iastore, 1) := by decide +kernel
theorem dd_M_snows_104 : decode bb_M_snows 104 = .ok (.aload_n 0, 1) := by decide +kernel
theorem dd_M_snows_105 : decode bb_M_snows 105 = .ok (.getfield 39, 3) := by decide +kernel
theorem dd_M_snows_108 : decode bb_M_snows 108 = .ok (.bipush 10, 2) := by decide +kernel
theorem dd_M_snows_110 : decode bb_M_snows 110 = .ok (.dup2, 1) := by decide +kernel
theorem dd_M_snows_111 : decode bb_M_snows 111 = .ok (.iaload, 1) := by decide +kernel
theorem dd_M_snows_112 : decode bb_M_snows 112 = .ok (.iconst 1, 1) := by decide +kernel
theorem dd_M_snows_113 : decode bb_M_snows 113 = .ok (.iadd, 1) := by decide +kernel
theorem dd_M_snows_114 : decode bb_M_snows 114 = .ok (.iastore, 1) := by decide +kernel
theorem dd_M_snows_115 : decode bb_M_snows 115 = .ok (.iload_n 1, 1) := by decide +kernel
theorem dd_M_snows_116 : decode bb_M_snows 116 = .ok (.ireturn, 1) := by decide +kernel
def mm_M_snows_j74 (N : Nat) (this : Option Nat) (v2 : Int32) (x2_74 : Int32) (h_74 : ss_Hp) : Option ((Int32 × ss_Hp) ⊕ ss_Hp) :=
  (some (x2_74 + (1 : Int32))).bind fun v12 =>
  some (.inl (v12, h_74))
def mm_M_snows_b10 (N : Nat) (this : Option Nat) (v2 : Int32) (st : Int32 × ss_Hp) : Option ((Int32 × ss_Hp) ⊕ ss_Hp) :=
  match st with
  | (x2_10, h_10) =>
    (ss_gr h_10 this 12 9).bind fun r13 =>
    (ss_ai h_10 r13 20 (2 : Int32)).bind fun v14 =>
    if v14 ≤ x2_10 then
      some (.inr h_10)
    else
      (mm_M_isOf N v2 x2_10).bind fun v16 =>
      if v16 = 0 then
        mm_M_snows_j74 N this v2 x2_10 h_10
      else
        (ss_gr h_10 this 12 11).bind fun r18 =>
        (ss_ai h_10 r18 20 x2_10).bind fun v19 =>
        (ss_gr h_10 this 12 9).bind fun r20 =>
        (ss_ai h_10 r20 20 (0 : Int32)).bind fun v21 =>
        (ss_ui h_10 r18 20 x2_10 (v19 + v21)).bind fun h22 =>
        (ss_gr h22 this 12 9).bind fun r23 =>
        (ss_gr h22 this 12 9).bind fun r24 =>
        (ss_ai h22 r24 20 ((14 : Int32) + x2_10)).bind fun v25 =>
        (ss_gr h22 this 12 9).bind fun r26 =>
        (ss_ai h22 r26 20 (0 : Int32)).bind fun v27 =>
        (mm_M_held N (v25 + v27)).bind fun v28 =>
        (ss_ui h22 r23 20 ((14 : Int32) + x2_10) v28).bind fun h29 =>
        mm_M_snows_j74 N this v2 x2_10 h29
def mm_M_snows (N : Nat) (this : Option Nat) (h : ss_Hp) : Option (Int32 × ss_Hp) :=
  if ss_is h this 12 = true then
    (ss_gr h this 12 9).bind fun r1 =>
    (ss_ai h r1 20 (11 : Int32)).bind fun v2 =>
    (ss_lp (mm_M_snows_b10 N this v2) N ((0 : Int32), h)).bind fun h_10_80 =>
    (ss_gr h_10_80 this 12 9).bind fun r3 =>
    (ss_ui h_10_80 r3 20 (12 : Int32) v2).bind fun h4 =>
    (ss_gr h4 this 12 9).bind fun r5 =>
    (ss_ui h4 r5 20 (11 : Int32) (0 : Int32)).bind fun h6 =>
    (ss_gr h6 this 12 9).bind fun r7 =>
    (ss_ui h6 r7 20 (13 : Int32) (0 : Int32)).bind fun h8 =>
    (ss_gr h8 this 12 9).bind fun r9 =>
    (ss_ai h8 r9 20 (10 : Int32)).bind fun v10 =>
    (ss_ui h8 r9 20 (10 : Int32) (v10 + (1 : Int32))).bind fun h11 =>
    some (v2, h11)
  else none
abbrev ww_M_snows (p : Program) (l : Launch) (e : Env) (s : State) (m : MethodId) (below : List Frame) (meth : Method) (c : Code) (G : ss_G) (this : Option Nat) (h : ss_Hp) (rr : Int32) (hh : ss_Hp) (H : Heap) (locs : List Loc) (k n : Nat) (g : JFrame) : Prop := W p l e (headSpec (ss_w yy_M_snows bb_M_snows 3 (some (.int))) ({ frames := 1, cells := 0, slots := 0, locals := 21 })).room s m ([ss_v (ss_b G) this] : List Value).toArray below meth c H locs k n (MQ below (ss_Qc G (some (.int rr)) hh) ([ss_v (ss_b G) this] : List Value).toArray s 0 0 (ss_A G)) g
theorem ck_M_snows {N : Nat} {this : Option Nat} {h : ss_Hp} {res : Int32 × ss_Hp} (hm : mm_M_snows N this h = some res) : ss_is h this 12 = true := (ss_chk hm).1
set_option maxHeartbeats 4000000 in
set_option maxRecDepth 100000 in
theorem cc_M_snows (l : Launch) (G : ss_G) (N : Nat) (this : Option Nat) (h : ss_Hp) (rr : Int32) (hh : ss_Hp) (hm : mm_M_snows N this h = some (rr, hh)) : ss_Ct l G yy_M_snows bb_M_snows 3 (some (.int)) ({ frames := 1, cells := 0, slots := 0, locals := 21 }) [ss_v (ss_b G) this] h (some (.int rr)) hh := by
  obtain ⟨hck, hm⟩ := ss_chk hm
  refine Met.ofW (cc := bb_M_snows) (maxL := 3) (ret := (some (.int))) (by decide) rfl ?_
  intro p e s m args below meth c s₁ B hml hv
  obtain ⟨rfl, hR, hK⟩ := hv
  have hC : CallFix p m c bb_M_snows 3 s _ lw_g sR_12 := ⟨B.exec, B.bytes, hml, findClass_of_methodNamed B.named, fun w hw => atoms_spec (ws := ss_w yy_M_snows bb_M_snows 3 (some (.int))) B.pre w (List.mem_cons_of_mem _ hw)⟩
  have hx := hC.1
  have hb := hC.2.1
  have hr := B.returns
  have hlocks := B.notSynchronized
  have hS : va_S (ss_A G) s.heap s.heap [] := va_S.rf
  have hl := lv_entry ([ss_v (ss_b G) this]) (n := 3) (by simp [lg_sl, ss_v_cat, ss_cat_i, ss_cat_l, ss_cat_r])
  rw [lg_entry_eq]
  generalize (lg_sl ([ss_v (ss_b G) this]) ++ List.replicate (3 - (lg_sl ([ss_v (ss_b G) this])).length) Slot.unset).toArray = ls at hl ⊢
  have hl : lv_has ls 3 [(0, ss_v (ss_b G) this)] := by simpa [lv_args, ss_v_cat, ss_cat_i, ss_cat_l, ss_cat_r] using hl
  refine ss_aload_n hx hb dd_M_snows_0 rfl (lv_at hl 0 rfl) ?_
  obtain ⟨r1, qr1, hm⟩ := ss_bind hm
  refine ss_getr hC hK hR kf_M_39 rfl qr1 dd_M_snows_1 ?_
  refine lv_bipush (v := 11) hx hb dd_M_snows_4 (by decide) ?_
  obtain ⟨v2, qv2, hm⟩ := ss_bind hm
  refine ss_iald hC hK hR qv2 dd_M_snows_6 ?_
  refine lv_istore_n (lv' := [(1, .int v2), (0, ss_v (ss_b G) this)]) hx hb dd_M_snows_7 rfl hl (by decide) (by simp only [List.filter_cons, ss_v_cat]; rfl) (fun ls hl => ?_)
  refine lv_iconst (v := 0) hx hb dd_M_snows_8 (by decide) ?_
  refine lv_istore_n (lv' := [(2, .int (0 : Int32)), (1, .int v2), (0, ss_v (ss_b G) this)]) hx hb dd_M_snows_9 rfl hl (by decide) rfl (fun ls hl => ?_)
  obtain ⟨e_10, he_10, hm⟩ := ss_bind hm
  have X_10_80 : ∀  (h_10_80 : ss_Hp) (H : Heap) (locs : List Loc) (ls : Array Slot), e_10 = h_10_80 → ss_R G h_10_80 H → va_S (ss_A G) s.heap H locs → lv_has ls 3 [(0, ss_v (ss_b G) this), (1, .int v2)] → ww_M_snows p l e s m below meth c G this h rr hh  H locs 0 0 (F0 m 80 ls []) := by
    intro h_10_80 H locs ls hq hR hS hl
    rw [hq] at hm
    refine ss_aload_n hx hb dd_M_snows_80 rfl (lv_at hl 0 rfl) ?_
    obtain ⟨r3, qr3, hm⟩ := ss_bind hm
    refine ss_getr hC hK hR kf_M_39 rfl qr3 dd_M_snows_81 ?_
    refine lv_bipush (v := 12) hx hb dd_M_snows_84 (by decide) ?_
    refine lv_iload_n hx hb dd_M_snows_86 rfl (lv_at hl 1 rfl) ?_
    obtain ⟨h4, qh4, hm⟩ := ss_bind hm
    refine ss_iast hC hK hR hS qh4 dd_M_snows_87 (fun H locs hR hS => ?_)
    refine ss_aload_n hx hb dd_M_snows_88 rfl (lv_at hl 0 rfl) ?_
    obtain ⟨r5, qr5, hm⟩ := ss_bind hm
    refine ss_getr hC hK hR kf_M_39 rfl qr5 dd_M_snows_89 ?_
    refine lv_bipush (v := 11) hx hb dd_M_snows_92 (by decide) ?_
    refine lv_iconst (v := 0) hx hb dd_M_snows_94 (by decide) ?_
    obtain ⟨h6, qh6, hm⟩ := ss_bind hm
    refine ss_iast hC hK hR hS qh6 dd_M_snows_95 (fun H locs hR hS => ?_)
    refine ss_aload_n hx hb dd_M_snows_96 rfl (lv_at hl 0 rfl) ?_
    obtain ⟨r7, qr7, hm⟩ := ss_bind hm
    refine ss_getr hC hK hR kf_M_39 rfl qr7 dd_M_snows_97 ?_
    refine lv_bipush (v := 13) hx hb dd_M_snows_100 (by decide) ?_
    refine lv_iconst (v := 0) hx hb dd_M_snows_102 (by decide) ?_
    obtain ⟨h8, qh8, hm⟩ := ss_bind hm
    refine ss_iast hC hK hR hS qh8 dd_M_snows_103 (fun H locs hR hS => ?_)
    refine ss_aload_n hx hb dd_M_snows_104 rfl (lv_at hl 0 rfl) ?_
    obtain ⟨r9, qr9, hm⟩ := ss_bind hm
    refine ss_getr hC hK hR kf_M_39 rfl qr9 dd_M_snows_105 ?_
    refine lv_bipush (v := 10) hx hb dd_M_snows_108 (by decide) ?_
    refine ss_dup2ir hx hb dd_M_snows_110 ?_
    obtain ⟨v10, qv10, hm⟩ := ss_bind hm
    refine ss_iald hC hK hR qv10 dd_M_snows_111 ?_
    refine lv_iconst (v := 1) hx hb dd_M_snows_112 (by decide) ?_
    refine lv_iadd hx hb dd_M_snows_113 ?_
    obtain ⟨h11, qh11, hm⟩ := ss_bind hm
    refine ss_iast hC hK hR hS qh11 dd_M_snows_114 (fun H locs hR hS => ?_)
    refine lv_iload_n hx hb dd_M_snows_115 rfl (lv_at hl 1 rfl) ?_
    exact ss_iret hC hr hlocks hR hS hm dd_M_snows_116
  have L_10 : ∀ (n : Nat) (x2_10 : Int32) (h_10 : ss_Hp) (H : Heap) (locs : List Loc) (ls : Array Slot), ss_lp (mm_M_snows_b10 N this v2) n (x2_10, h_10) = some e_10 → ss_R G h_10 H → va_S (ss_A G) s.heap H locs → lv_has ls 3 [(0, ss_v (ss_b G) this), (1, .int v2), (2, .int x2_10)] → ww_M_snows p l e s m below meth c G this h rr hh  H locs 0 0 (F0 m 10 ls []) := by
    intro n
    induction n with
    | zero => intro x2_10 h_10 H locs ls hm; cases hm
    | succ n ih_10 =>
      intro x2_10 h_10 H locs ls hm hR hS hl
      obtain ⟨z_10, hm, hz1_10, hz2_10⟩ := ss_lps hm
      have J_74 : ∀ (x2_74 : Int32) (h_74 : ss_Hp) (H : Heap) (locs : List Loc) (ls : Array Slot), mm_M_snows_j74 N this v2 x2_74 h_74 = some z_10 → ss_R G h_74 H → va_S (ss_A G) s.heap H locs → lv_has ls 3 [(0, ss_v (ss_b G) this), (1, .int v2), (2, .int x2_74)] → ww_M_snows p l e s m below meth c G this h rr hh  H locs 0 0 (F0 m 74 ls []) := by
        intro x2_74 h_74 H locs ls hm hR hS hl
        obtain ⟨v12, qv12, hm⟩ := ss_bind hm
        refine lv_iinc (v := v12) (lv' := [(2, .int v12), (0, ss_v (ss_b G) this), (1, .int v2)]) hx hb dd_M_snows_74 hl (k := 2) rfl (ss_inc (by decide) qv12) (by decide) rfl (fun ls hl => ?_)
        refine lv_goto (tgt := 10) hx hb dd_M_snows_77 (by decide) ?_
        exact ih_10 v12 h_74 _ _ _ (hz1_10 _ (ss_some hm)) hR hS (lv_sub hl [1, 2, 0] rfl)
      refine lv_iload_n hx hb dd_M_snows_10 rfl (lv_at hl 2 rfl) ?_
      refine ss_aload_n hx hb dd_M_snows_11 rfl (lv_at hl 0 rfl) ?_
      obtain ⟨r13, qr13, hm⟩ := ss_bind hm
      refine ss_getr hC hK hR kf_M_39 rfl qr13 dd_M_snows_12 ?_
      refine lv_iconst (v := 2) hx hb dd_M_snows_15 (by decide) ?_
      obtain ⟨v14, qv14, hm⟩ := ss_bind hm
      refine ss_iald hC hK hR qv14 dd_M_snows_16 ?_
      refine lv_icmp_ge (tgt := 80) hx hb dd_M_snows_17 (by decide) (fun c15 => ?_) (fun c15 => ?_)
      · have hm := ss_ift hm c15
        exact X_10_80 h_10 _ _ _ (hz2_10 _ (ss_some hm)) hR hS (lv_sub hl [0, 1] rfl)
      · have hm := ss_iff hm c15
        refine lv_iload_n hx hb dd_M_snows_20 rfl (lv_at hl 1 rfl) ?_
        refine lv_iload_n hx hb dd_M_snows_21 rfl (lv_at hl 2 rfl) ?_
        obtain ⟨v16, qv16, hm⟩ := ss_bind hm
        refine ss_cS 0 0 (As := [.int v2, .int x2_10]) hC hK hR hS hl.1 (cc_M_isOf l G N _ _ _ _ qv16) km_M_316 ⟨Nat.le_of_ble_eq_true rfl, Nat.le_of_ble_eq_true rfl⟩ ⟨Nat.le_of_ble_eq_true rfl, Nat.le_of_ble_eq_true rfl, Nat.le_of_ble_eq_true rfl, Nat.le_of_ble_eq_true rfl⟩ rfl rfl (Nat.le_of_ble_eq_true rfl) dd_M_snows_22 (fun H locs hR hS => ?_)
        refine lv_if_ne (tgt := 31) hx hb dd_M_snows_25 (by decide) (fun c17 => ?_) (fun c17 => ?_)
        · have hm := ss_iff hm c17
          refine ss_aload_n hx hb dd_M_snows_31 rfl (lv_at hl 0 rfl) ?_
          obtain ⟨r18, qr18, hm⟩ := ss_bind hm
          refine ss_getr hC hK hR kf_M_49 rfl qr18 dd_M_snows_32 ?_
          refine lv_iload_n hx hb dd_M_snows_35 rfl (lv_at hl 2 rfl) ?_
          refine ss_dup2ir hx hb dd_M_snows_36 ?_
          obtain ⟨v19, qv19, hm⟩ := ss_bind hm
          refine ss_iald hC hK hR qv19 dd_M_snows_37 ?_
          refine ss_aload_n hx hb dd_M_snows_38 rfl (lv_at hl 0 rfl) ?_
          obtain ⟨r20, qr20, hm⟩ := ss_bind hm
          refine ss_getr hC hK hR kf_M_39 rfl qr20 dd_M_snows_39 ?_
          refine lv_iconst (v := 0) hx hb dd_M_snows_42 (by decide) ?_
          obtain ⟨v21, qv21, hm⟩ := ss_bind hm
          refine ss_iald hC hK hR qv21 dd_M_snows_43 ?_
          refine lv_iadd hx hb dd_M_snows_44 ?_
          obtain ⟨h22, qh22, hm⟩ := ss_bind hm
          refine ss_iast hC hK hR hS qh22 dd_M_snows_45 (fun H locs hR hS => ?_)
          refine ss_aload_n hx hb dd_M_snows_46 rfl (lv_at hl 0 rfl) ?_
          obtain ⟨r23, qr23, hm⟩ := ss_bind hm
          refine ss_getr hC hK hR kf_M_39 rfl qr23 dd_M_snows_47 ?_
          refine lv_bipush (v := 14) hx hb dd_M_snows_50 (by decide) ?_
          refine lv_iload_n hx hb dd_M_snows_52 rfl (lv_at hl 2 rfl) ?_
          refine lv_iadd hx hb dd_M_snows_53 ?_
          refine ss_aload_n hx hb dd_M_snows_54 rfl (lv_at hl 0 rfl) ?_
          obtain ⟨r24, qr24, hm⟩ := ss_bind hm
          refine ss_getr hC hK hR kf_M_39 rfl qr24 dd_M_snows_55 ?_
          refine lv_bipush (v := 14) hx hb dd_M_snows_58 (by decide) ?_
          refine lv_iload_n hx hb dd_M_snows_60 rfl (lv_at hl 2 rfl) ?_
          refine lv_iadd hx hb dd_M_snows_61 ?_
          obtain ⟨v25, qv25, hm⟩ := ss_bind hm
          refine ss_iald hC hK hR qv25 dd_M_snows_62 ?_
          refine ss_aload_n hx hb dd_M_snows_63 rfl (lv_at hl 0 rfl) ?_
          obtain ⟨r26, qr26, hm⟩ := ss_bind hm
          refine ss_getr hC hK hR kf_M_39 rfl qr26 dd_M_snows_64 ?_
          refine lv_iconst (v := 0) hx hb dd_M_snows_67 (by decide) ?_
          obtain ⟨v27, qv27, hm⟩ := ss_bind hm
          refine ss_iald hC hK hR qv27 dd_M_snows_68 ?_
          refine lv_iadd hx hb dd_M_snows_69 ?_
          obtain ⟨v28, qv28, hm⟩ := ss_bind hm
          refine ss_cS 0 0 (As := [.int (v25 + v27)]) hC hK hR hS hl.1 (cc_M_held l G N _ _ _ qv28) km_M_333 ⟨Nat.le_of_ble_eq_true rfl, Nat.le_of_ble_eq_true rfl⟩ ⟨Nat.le_of_ble_eq_true rfl, Nat.le_of_ble_eq_true rfl, Nat.le_of_ble_eq_true rfl, Nat.le_of_ble_eq_true rfl⟩ rfl rfl (by simp [ss_v_cat, ss_cat_i, ss_cat_l, ss_cat_r]) dd_M_snows_70 (fun H locs hR hS => ?_)
          obtain ⟨h29, qh29, hm⟩ := ss_bind hm
          refine ss_iast hC hK hR hS qh29 dd_M_snows_73 (fun H locs hR hS => ?_)
          exact J_74 x2_10 h29 _ _ _ hm hR hS hl
        · have hm := ss_ift hm c17
          refine lv_goto (tgt := 74) hx hb dd_M_snows_28 (by decide) ?_
          exact J_74 x2_10 h_10 _ _ _ hm hR hS hl
  exact L_10 N (0 : Int32) h _ _ _ he_10 hR hS (lv_sub hl [2, 1, 0] rfl)
