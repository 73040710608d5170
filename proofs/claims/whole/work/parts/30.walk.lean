theorem dd_M_fillsPrices_0 : decode bb_M_fillsPrices 0 = .ok (.iconst 0, 1) := by decide +kernel
theorem dd_M_fillsPrices_1 : decode bb_M_fillsPrices 1 = .ok (.istore_n 2, 1) := by decide +kernel
theorem dd_M_fillsPrices_2 : decode bb_M_fillsPrices 2 = .ok (.iload_n 2, 1) := by decide +kernel
theorem dd_M_fillsPrices_3 : decode bb_M_fillsPrices 3 = .ok (.bipush 8, 2) := by decide +kernel
theorem dd_M_fillsPrices_5 : decode bb_M_fillsPrices 5 = .ok (.if_icmp .ge 18, 3) := by decide +kernel
theorem dd_M_fillsPrices_8 : decode bb_M_fillsPrices 8 = .ok (.aload_n 0, 1) := by decide +kernel
theorem dd_M_fillsPrices_9 : decode bb_M_fillsPrices 9 = .ok (.getfield 61, 3) := by decide +kernel
theorem dd_M_fillsPrices_12 : decode bb_M_fillsPrices 12 = .ok (.iload_n 2, 1) := by decide +kernel
theorem dd_M_fillsPrices_13 : decode bb_M_fillsPrices 13 = .ok (.sipush 9999, 3) := by decide +kernel
theorem dd_M_fillsPrices_16 : decode bb_M_fillsPrices 16 = .ok (.iastore, 1) := by decide +kernel
theorem dd_M_fillsPrices_17 : decode bb_M_fillsPrices 17 = .ok (.iinc 2 1, 3) := by decide +kernel
theorem dd_M_fillsPrices_20 : decode bb_M_fillsPrices 20 = .ok (.goto (-18), 3) := by decide +kernel
theorem dd_M_fillsPrices_23 : decode bb_M_fillsPrices 23 = .ok (.aload_n 0, 1) := by decide +kernel
theorem dd_M_fillsPrices_24 : decode bb_M_fillsPrices 24 = .ok (.getfield 61, 3) := by decide +kernel
theorem dd_M_fillsPrices_27 : decode bb_M_fillsPrices 27 = .ok (.iload_n 1, 1) := by decide +kernel
theorem dd_M_fillsPrices_28 : decode bb_M_fillsPrices 28 = .ok (.aload_n 0, 1) := by decide +kernel
theorem dd_M_fillsPrices_29 : decode bb_M_fillsPrices 29 = .ok (.iload_n 1, 1) := by decide +kernel
theorem dd_M_fillsPrices_30 : decode bb_M_fillsPrices 30 = .ok (.invokevirtual 404, 3) := by decide +kernel
theorem dd_M_fillsPrices_33 : decode bb_M_fillsPrices 33 = .ok (.iastore, 1) := by decide +kernel
theorem dd_M_fillsPrices_34 : decode bb_M_fillsPrices 34 = .ok (.iconst 1, 1) := by decide +kernel
theorem dd_M_fillsPrices_35 : decode bb_M_fillsPrices 35 = .ok (.istore_n 2, 1) := by decide +kernel
theorem dd_M_fillsPrices_36 : decode bb_M_fillsPrices 36 = .ok (.iload_n 2, 1) := by decide +kernel
theorem dd_M_fillsPrices_37 : decode bb_M_fillsPrices 37 = .ok (.ifCond .eq 84, 3) := by decide +kernel
theorem dd_M_fillsPrices_40 : decode bb_M_fillsPrices 40 = .ok (.iconst 0, 1) := by decide +kernel
theorem dd_M_fillsPrices_41 : decode bb_M_fillsPrices 41 = .ok (.istore_n 2, 1) := by decide +kernel
theorem dd_M_fillsPrices_42 : decode bb_M_fillsPrices 42 = .ok (.iconst 0, 1) := by decide +kernel
theorem dd_M_fillsPrices_43 : decode bb_M_fillsPrices 43 = .ok (.istore_n 3, 1) := by decide +kernel
theorem dd_M_fillsPrices_44 : decode bb_M_fillsPrices 44 = .ok (.iload_n 3, 1) := by decide +kernel
theorem dd_M_fillsPrices_45 : decode bb_M_fillsPrices 45 = .ok (.aload_n 0, 1) := by decide +kernel
theorem dd_M_fillsPrices_46 : decode bb_M_fillsPrices 46 = .ok (.getfield 39, 3) := by decide +kernel
theorem dd_M_fillsPrices_49 : decode bb_M_fillsPrices 49 = .ok (.iconst 2, 1) := by decide +kernel
theorem dd_M_fillsPrices_50 : decode bb_M_fillsPrices 50 = .ok (.iaload, 1) := by decide +kernel
theorem dd_M_fillsPrices_51 : decode bb_M_fillsPrices 51 = .ok (.if_icmp .ge 67, 3) := by decide +kernel
theorem dd_M_fillsPrices_54 : decode bb_M_fillsPrices 54 = .ok (.aload_n 0, 1) := by decide +kernel
theorem dd_M_fillsPrices_55 : decode bb_M_fillsPrices 55 = .ok (.iload_n 3, 1) := by decide +kernel
theorem dd_M_fillsPrices_56 : decode bb_M_fillsPrices 56 = .ok (.invokevirtual 407, 3) := by decide +kernel
theorem dd_M_fillsPrices_59 : decode bb_M_fillsPrices 59 = .ok (.istore 4, 2) := by decide +kernel
theorem dd_M_fillsPrices_61 : decode bb_M_fillsPrices 61 = .ok (.iload 4, 2) := by decide +kernel
theorem dd_M_fillsPrices_63 : decode bb_M_fillsPrices 63 = .ok (.ifCond .lt 49, 3) := by decide +kernel
theorem dd_M_fillsPrices_66 : decode bb_M_fillsPrices 66 = .ok (.aload_n 0, 1) := by decide +kernel
theorem dd_M_fillsPrices_67 : decode bb_M_fillsPrices 67 = .ok (.getfield 61, 3) := by decide +kernel
theorem dd_M_fillsPrices_70 : decode bb_M_fillsPrices 70 = .ok (.iload 4, 2) := by decide +kernel
theorem dd_M_fillsPrices_72 : decode bb_M_fillsPrices 72 = .ok (.iaload, 1) := by decide +kernel
theorem dd_M_fillsPrices_73 : decode bb_M_fillsPrices 73 = .ok (.aload_n 0, 1) := by decide +kernel
theorem dd_M_fillsPrices_74 : decode bb_M_fillsPrices 74 = .ok (.iload_n 3, 1) := by decide +kernel
theorem dd_M_fillsPrices_75 : decode bb_M_fillsPrices 75 = .ok (.invokevirtual 404, 3) := by decide +kernel
theorem dd_M_fillsPrices_78 : decode bb_M_fillsPrices 78 = .ok (.iadd, 1) := by decide +kernel
theorem dd_M_fillsPrices_79 : decode bb_M_fillsPrices 79 = .ok (.aload_n 0, 1) := by decide +kernel
theorem dd_M_fillsPrices_80 : decode bb_M_fillsPrices 80 = .ok (.getfield 61, 3) := by decide +kernel
theorem dd_M_fillsPrices_83 : decode bb_M_fillsPrices 83 = .ok (.iload_n 3, 1) := by decide +kernel
theorem dd_M_fillsPrices_84 : decode bb_M_fillsPrices 84 = .ok (.iaload, 1) := by decide +kernel
theorem dd_M_fillsPrices_85 : decode bb_M_fillsPrices 85 = .ok (.if_icmp .lt 6, 3) := by decide +kernel
theorem dd_M_fillsPrices_88 : decode bb_M_fillsPrices 88 = .ok (.goto 24, 3) := by decide +kernel
theorem dd_M_fillsPrices_91 : decode bb_M_fillsPrices 91 = .ok (.aload_n 0, 1) := by decide +kernel
theorem dd_M_fillsPrices_92 : decode bb_M_fillsPrices 92 = .ok (.getfield 61, 3) := by decide +kernel
theorem dd_M_fillsPrices_95 : decode bb_M_fillsPrices 95 = .ok (.iload_n 3, 1) := by decide +kernel
theorem dd_M_fillsPrices_96 : decode bb_M_fillsPrices 96 = .ok (.aload_n 0, 1) := by decide +kernel
theorem dd_M_fillsPrices_97 : decode bb_M_fillsPrices 97 = .ok (.getfield 61, 3) := by decide +kernel
theorem dd_M_fillsPrices_100 : decode bb_M_fillsPrices 100 = .ok (.iload 4, 2) := by decide +kernel
theorem dd_M_fillsPrices_102 : decode bb_M_fillsPrices 102 = .ok (.iaload, 1) := by decide +kernel
theorem dd_M_fillsPrices_103 : decode bb_M_fillsPrices 103 = .ok (.aload_n 0, 1) := by decide +kernel
theorem dd_M_fillsPrices_104 : decode bb_M_fillsPrices 104 = .ok (.iload_n 3, 1) := by decide +kernel
theorem dd_M_fillsPrices_105 : decode bb_M_fillsPrices 105 = .ok (.invokevirtual 404, 3) := by decide +kernel
theorem dd_M_fillsPrices_108 : decode bb_M_fillsPrices 108 = .ok (.iadd, 1) := by decide +kernel
theorem dd_M_fillsPrices_109 : decode bb_M_fillsPrices 109 = .ok (.iastore, 1) := by decide +kernel
theorem dd_M_fillsPrices_110 : decode bb_M_fillsPrices 110 = .ok (.iconst 1, 1) := by decide +kernel
theorem dd_M_fillsPrices_111 : decode bb_M_fillsPrices 111 = .ok (.istore_n 2, 1) := by decide +kernel
theorem dd_M_fillsPrices_112 : decode bb_M_fillsPrices 112 = .ok (.iinc 3 1, 3) := by decide +kernel
theorem dd_M_fillsPrices_115 : decode bb_M_fillsPrices 115 = .ok (.goto (-71), 3) := by decide +kernel
theorem dd_M_fillsPrices_118 : decode bb_M_fillsPrices 118 = .ok (.goto (-82), 3) := by decide +kernel
theorem dd_M_fillsPrices_121 : decode bb_M_fillsPrices 121 = .ok (.return_, 1) := by decide +kernel
def mm_M_fillsPrices_j112 (N : Nat) (this : Option Nat) (x2_112 : Int32) (x3_112 : Int32) (h_112 : ss_Hp) : Option ((Int32 × Int32 × ss_Hp) ⊕ (Int32 × ss_Hp)) :=
  (some (x3_112 + (1 : Int32))).bind fun v5 =>
  some (.inl (x2_112, v5, h_112))
def mm_M_fillsPrices_b44 (N : Nat) (this : Option Nat) (st : Int32 × Int32 × ss_Hp) : Option ((Int32 × Int32 × ss_Hp) ⊕ (Int32 × ss_Hp)) :=
  match st with
  | (x2_44, x3_44, h_44) =>
    (ss_gr h_44 this 12 9).bind fun r6 =>
    (ss_ai h_44 r6 20 (2 : Int32)).bind fun v7 =>
    if v7 ≤ x3_44 then
      some (.inr (x2_44, h_44))
    else
      (mm_M_nextTo N this x3_44 h_44).bind fun v9 =>
      if v9 < 0 then
        mm_M_fillsPrices_j112 N this x2_44 x3_44 h_44
      else
        (ss_gr h_44 this 12 15).bind fun r11 =>
        (ss_ai h_44 r11 20 v9).bind fun v12 =>
        (mm_M_priceOf N this x3_44 h_44).bind fun v13 =>
        (ss_gr h_44 this 12 15).bind fun r14 =>
        (ss_ai h_44 r14 20 x3_44).bind fun v15 =>
        if (v12 + v13) < v15 then
          (ss_gr h_44 this 12 15).bind fun r17 =>
          (ss_gr h_44 this 12 15).bind fun r18 =>
          (ss_ai h_44 r18 20 v9).bind fun v19 =>
          (mm_M_priceOf N this x3_44 h_44).bind fun v20 =>
          (ss_ui h_44 r17 20 x3_44 (v19 + v20)).bind fun h21 =>
          mm_M_fillsPrices_j112 N this (1 : Int32) x3_44 h21
        else
          mm_M_fillsPrices_j112 N this x2_44 x3_44 h_44
def mm_M_fillsPrices_b36 (N : Nat) (this : Option Nat) (st : Int32 × ss_Hp) : Option ((Int32 × ss_Hp) ⊕ ss_Hp) :=
  match st with
  | (x2_36, h_36) =>
    if x2_36 = 0 then
      some (.inr h_36)
    else
      (ss_lp (mm_M_fillsPrices_b44 N this) N ((0 : Int32), (0 : Int32), h_36)).bind fun e_44 =>
      match e_44 with
      | (y2_44_118, h_44_118) =>
        some (.inl (y2_44_118, h_44_118))
def mm_M_fillsPrices_b2 (N : Nat) (this : Option Nat) (a1 : Int32) (st : Int32 × ss_Hp) : Option ((Int32 × ss_Hp) ⊕ ss_Hp) :=
  match st with
  | (x2_2, h_2) =>
    if (8 : Int32) ≤ x2_2 then
      some (.inr h_2)
    else
      (ss_gr h_2 this 12 15).bind fun r23 =>
      (ss_ui h_2 r23 20 x2_2 (9999 : Int32)).bind fun h24 =>
      (some (x2_2 + (1 : Int32))).bind fun v25 =>
      some (.inl (v25, h24))
def mm_M_fillsPrices (N : Nat) (this : Option Nat) (a1 : Int32) (h : ss_Hp) : Option ss_Hp :=
  if ss_is h this 12 = true then
    (ss_lp (mm_M_fillsPrices_b2 N this a1) N ((0 : Int32), h)).bind fun h_2_23 =>
    (ss_gr h_2_23 this 12 15).bind fun r1 =>
    (mm_M_priceOf N this a1 h_2_23).bind fun v2 =>
    (ss_ui h_2_23 r1 20 a1 v2).bind fun h3 =>
    (ss_lp (mm_M_fillsPrices_b36 N this) N ((1 : Int32), h3)).bind fun h_36_121 =>
    some h_36_121
  else none
abbrev ww_M_fillsPrices (p : Program) (l : Launch) (e : Env) (s : State) (m : MethodId) (below : List Frame) (meth : Method) (c : Code) (G : ss_G) (this : Option Nat) (a1 : Int32) (h : ss_Hp) (hh : ss_Hp) (H : Heap) (locs : List Loc) (k n : Nat) (g : JFrame) : Prop := W p l e (headSpec (ss_w yy_M_fillsPrices bb_M_fillsPrices 5 none) ({ frames := 2, cells := 0, slots := 0, locals := 44 })).room s m ([ss_v (ss_b G) this, .int a1] : List Value).toArray below meth c H locs k n (MQ below (ss_Qc G none hh) ([ss_v (ss_b G) this, .int a1] : List Value).toArray s 0 0 (ss_A G)) g
theorem ck_M_fillsPrices {N : Nat} {this : Option Nat} {a1 : Int32} {h : ss_Hp} {res : ss_Hp} (hm : mm_M_fillsPrices N this a1 h = some res) : ss_is h this 12 = true := (ss_chk hm).1
set_option maxHeartbeats 4000000 in
set_option maxRecDepth 100000 in
theorem cc_M_fillsPrices (l : Launch) (G : ss_G) (N : Nat) (this : Option Nat) (a1 : Int32) (h : ss_Hp) (hh : ss_Hp) (hm : mm_M_fillsPrices N this a1 h = some hh) : ss_Ct l G yy_M_fillsPrices bb_M_fillsPrices 5 none ({ frames := 2, cells := 0, slots := 0, locals := 44 }) [ss_v (ss_b G) this, .int a1] h none hh := by
  obtain ⟨hck, hm⟩ := ss_chk hm
  refine Met.ofW (cc := bb_M_fillsPrices) (maxL := 5) (ret := none) (by decide) rfl ?_
  intro p e s m args below meth c s₁ B hml hv
  obtain ⟨rfl, hR, hK⟩ := hv
  have hC : CallFix p m c bb_M_fillsPrices 5 s _ lw_g sR_12 := ⟨B.exec, B.bytes, hml, findClass_of_methodNamed B.named, fun w hw => atoms_spec (ws := ss_w yy_M_fillsPrices bb_M_fillsPrices 5 none) B.pre w (List.mem_cons_of_mem _ hw)⟩
  have hx := hC.1
  have hb := hC.2.1
  have hr := B.returns
  have hlocks := B.notSynchronized
  have hS : va_S (ss_A G) s.heap s.heap [] := va_S.rf
  have hl := lv_entry ([ss_v (ss_b G) this, .int a1]) (n := 5) (by simp [lg_sl, ss_v_cat, ss_cat_i, ss_cat_l, ss_cat_r])
  rw [lg_entry_eq]
  generalize (lg_sl ([ss_v (ss_b G) this, .int a1]) ++ List.replicate (5 - (lg_sl ([ss_v (ss_b G) this, .int a1])).length) Slot.unset).toArray = ls at hl ⊢
  have hl : lv_has ls 5 [(0, ss_v (ss_b G) this), (1, .int a1)] := by simpa [lv_args, ss_v_cat, ss_cat_i, ss_cat_l, ss_cat_r] using hl
  refine lv_iconst (v := 0) hx hb dd_M_fillsPrices_0 (by decide) ?_
  refine lv_istore_n (lv' := [(2, .int (0 : Int32)), (0, ss_v (ss_b G) this), (1, .int a1)]) hx hb dd_M_fillsPrices_1 rfl hl (by decide) rfl (fun ls hl => ?_)
  obtain ⟨e_2, he_2, hm⟩ := ss_bind hm
  have X_2_23 : ∀  (h_2_23 : ss_Hp) (H : Heap) (locs : List Loc) (ls : Array Slot), e_2 = h_2_23 → ss_R G h_2_23 H → va_S (ss_A G) s.heap H locs → lv_has ls 5 [(0, ss_v (ss_b G) this), (1, .int a1)] → ww_M_fillsPrices p l e s m below meth c G this a1 h hh  H locs 0 0 (F0 m 23 ls []) := by
    intro h_2_23 H locs ls hq hR hS hl
    rw [hq] at hm
    refine ss_aload_n hx hb dd_M_fillsPrices_23 rfl (lv_at hl 0 rfl) ?_
    obtain ⟨r1, qr1, hm⟩ := ss_bind hm
    refine ss_getr hC hK hR kf_M_61 rfl qr1 dd_M_fillsPrices_24 ?_
    refine lv_iload_n hx hb dd_M_fillsPrices_27 rfl (lv_at hl 1 rfl) ?_
    refine ss_aload_n hx hb dd_M_fillsPrices_28 rfl (lv_at hl 0 rfl) ?_
    refine lv_iload_n hx hb dd_M_fillsPrices_29 rfl (lv_at hl 1 rfl) ?_
    obtain ⟨v2, qv2, hm⟩ := ss_bind hm
    refine ss_cV 0 0 (As := [.int a1]) hC hK hR hS hl.1 (cc_M_priceOf l G N _ _ _ _ qv2) km_M_404 (ck_M_priceOf qv2) ⟨Nat.le_of_ble_eq_true rfl, Nat.le_of_ble_eq_true rfl⟩ ⟨Nat.le_of_ble_eq_true rfl, Nat.le_of_ble_eq_true rfl, Nat.le_of_ble_eq_true rfl, Nat.le_of_ble_eq_true rfl⟩ rfl rfl (by simp [ss_v_cat, ss_cat_i, ss_cat_l, ss_cat_r]) dd_M_fillsPrices_30 (fun H locs hR hS => ?_)
    obtain ⟨h3, qh3, hm⟩ := ss_bind hm
    refine ss_iast hC hK hR hS qh3 dd_M_fillsPrices_33 (fun H locs hR hS => ?_)
    refine lv_iconst (v := 1) hx hb dd_M_fillsPrices_34 (by decide) ?_
    refine lv_istore_n (lv' := [(2, .int (1 : Int32)), (0, ss_v (ss_b G) this), (1, .int a1)]) hx hb dd_M_fillsPrices_35 rfl hl (by decide) rfl (fun ls hl => ?_)
    obtain ⟨e_36, he_36, hm⟩ := ss_bind hm
    have X_36_121 : ∀  (h_36_121 : ss_Hp) (H : Heap) (locs : List Loc) (ls : Array Slot), e_36 = h_36_121 → ss_R G h_36_121 H → va_S (ss_A G) s.heap H locs → lv_has ls 5 [] → ww_M_fillsPrices p l e s m below meth c G this a1 h hh  H locs 0 0 (F0 m 121 ls []) := by
      intro h_36_121 H locs ls hq hR hS hl
      rw [hq] at hm
      exact ss_vret hC hr hlocks hR hS hm dd_M_fillsPrices_121
    have L_36 : ∀ (n : Nat) (x2_36 : Int32) (h_36 : ss_Hp) (H : Heap) (locs : List Loc) (ls : Array Slot), ss_lp (mm_M_fillsPrices_b36 N this) n (x2_36, h_36) = some e_36 → ss_R G h_36 H → va_S (ss_A G) s.heap H locs → lv_has ls 5 [(0, ss_v (ss_b G) this), (2, .int x2_36)] → ww_M_fillsPrices p l e s m below meth c G this a1 h hh  H locs 0 0 (F0 m 36 ls []) := by
      intro n
      induction n with
      | zero => intro x2_36 h_36 H locs ls hm; cases hm
      | succ n ih_36 =>
        intro x2_36 h_36 H locs ls hm hR hS hl
        obtain ⟨z_36, hm, hz1_36, hz2_36⟩ := ss_lps hm
        refine lv_iload_n hx hb dd_M_fillsPrices_36 rfl (lv_at hl 1 rfl) ?_
        refine lv_if_eq (tgt := 121) hx hb dd_M_fillsPrices_37 (by decide) (fun c4 => ?_) (fun c4 => ?_)
        · have hm := ss_ift hm c4
          exact X_36_121 h_36 _ _ _ (hz2_36 _ (ss_some hm)) hR hS (lv_sub hl [] rfl)
        · have hm := ss_iff hm c4
          refine lv_iconst (v := 0) hx hb dd_M_fillsPrices_40 (by decide) ?_
          refine lv_istore_n (lv' := [(2, .int (0 : Int32)), (0, ss_v (ss_b G) this)]) hx hb dd_M_fillsPrices_41 rfl hl (by decide) rfl (fun ls hl => ?_)
          refine lv_iconst (v := 0) hx hb dd_M_fillsPrices_42 (by decide) ?_
          refine lv_istore_n (lv' := [(3, .int (0 : Int32)), (2, .int (0 : Int32)), (0, ss_v (ss_b G) this)]) hx hb dd_M_fillsPrices_43 rfl hl (by decide) rfl (fun ls hl => ?_)
          obtain ⟨e_44, he_44, hm⟩ := ss_bind hm
          have X_44_118 : ∀ (y2_44_118 : Int32) (h_44_118 : ss_Hp) (H : Heap) (locs : List Loc) (ls : Array Slot), e_44 = (y2_44_118, h_44_118) → ss_R G h_44_118 H → va_S (ss_A G) s.heap H locs → lv_has ls 5 [(0, ss_v (ss_b G) this), (2, .int y2_44_118)] → ww_M_fillsPrices p l e s m below meth c G this a1 h hh  H locs 0 0 (F0 m 118 ls []) := by
            intro y2_44_118 h_44_118 H locs ls hq hR hS hl
            rw [hq] at hm
            refine lv_goto (tgt := 36) hx hb dd_M_fillsPrices_118 (by decide) ?_
            exact ih_36 y2_44_118 h_44_118 _ _ _ (hz1_36 _ (ss_some hm)) hR hS hl
          have L_44 : ∀ (n : Nat) (x2_44 : Int32) (x3_44 : Int32) (h_44 : ss_Hp) (H : Heap) (locs : List Loc) (ls : Array Slot), ss_lp (mm_M_fillsPrices_b44 N this) n (x2_44, x3_44, h_44) = some e_44 → ss_R G h_44 H → va_S (ss_A G) s.heap H locs → lv_has ls 5 [(0, ss_v (ss_b G) this), (2, .int x2_44), (3, .int x3_44)] → ww_M_fillsPrices p l e s m below meth c G this a1 h hh  H locs 0 0 (F0 m 44 ls []) := by
            intro n
            induction n with
            | zero => intro x2_44 x3_44 h_44 H locs ls hm; cases hm
            | succ n ih_44 =>
              intro x2_44 x3_44 h_44 H locs ls hm hR hS hl
              obtain ⟨z_44, hm, hz1_44, hz2_44⟩ := ss_lps hm
              have J_112 : ∀ (x2_112 : Int32) (x3_112 : Int32) (h_112 : ss_Hp) (H : Heap) (locs : List Loc) (ls : Array Slot), mm_M_fillsPrices_j112 N this x2_112 x3_112 h_112 = some z_44 → ss_R G h_112 H → va_S (ss_A G) s.heap H locs → lv_has ls 5 [(0, ss_v (ss_b G) this), (2, .int x2_112), (3, .int x3_112)] → ww_M_fillsPrices p l e s m below meth c G this a1 h hh  H locs 0 0 (F0 m 112 ls []) := by
                intro x2_112 x3_112 h_112 H locs ls hm hR hS hl
                obtain ⟨v5, qv5, hm⟩ := ss_bind hm
                refine lv_iinc (v := v5) (lv' := [(3, .int v5), (0, ss_v (ss_b G) this), (2, .int x2_112)]) hx hb dd_M_fillsPrices_112 hl (k := 2) rfl (ss_inc (by decide) qv5) (by decide) rfl (fun ls hl => ?_)
                refine lv_goto (tgt := 44) hx hb dd_M_fillsPrices_115 (by decide) ?_
                exact ih_44 x2_112 v5 h_112 _ _ _ (hz1_44 _ (ss_some hm)) hR hS (lv_sub hl [1, 2, 0] rfl)
              refine lv_iload_n hx hb dd_M_fillsPrices_44 rfl (lv_at hl 2 rfl) ?_
              refine ss_aload_n hx hb dd_M_fillsPrices_45 rfl (lv_at hl 0 rfl) ?_
              obtain ⟨r6, qr6, hm⟩ := ss_bind hm
              refine ss_getr hC hK hR kf_M_39 rfl qr6 dd_M_fillsPrices_46 ?_
              refine lv_iconst (v := 2) hx hb dd_M_fillsPrices_49 (by decide) ?_
              obtain ⟨v7, qv7, hm⟩ := ss_bind hm
              refine ss_iald hC hK hR qv7 dd_M_fillsPrices_50 ?_
              refine lv_icmp_ge (tgt := 118) hx hb dd_M_fillsPrices_51 (by decide) (fun c8 => ?_) (fun c8 => ?_)
              · have hm := ss_ift hm c8
                exact X_44_118 x2_44 h_44 _ _ _ (hz2_44 _ (ss_some hm)) hR hS (lv_sub hl [0, 1] rfl)
              · have hm := ss_iff hm c8
                refine ss_aload_n hx hb dd_M_fillsPrices_54 rfl (lv_at hl 0 rfl) ?_
                refine lv_iload_n hx hb dd_M_fillsPrices_55 rfl (lv_at hl 2 rfl) ?_
                obtain ⟨v9, qv9, hm⟩ := ss_bind hm
                refine ss_cV 0 0 (As := [.int x3_44]) hC hK hR hS hl.1 (cc_M_nextTo l G N _ _ _ _ qv9) km_M_407 (ck_M_nextTo qv9) ⟨Nat.le_of_ble_eq_true rfl, Nat.le_of_ble_eq_true rfl⟩ ⟨Nat.le_of_ble_eq_true rfl, Nat.le_of_ble_eq_true rfl, Nat.le_of_ble_eq_true rfl, Nat.le_of_ble_eq_true rfl⟩ rfl rfl (Nat.le_of_ble_eq_true rfl) dd_M_fillsPrices_56 (fun H locs hR hS => ?_)
                refine lv_istore (lv' := [(4, .int v9), (0, ss_v (ss_b G) this), (2, .int x2_44), (3, .int x3_44)]) hx hb dd_M_fillsPrices_59 hl (by decide) rfl (fun ls hl => ?_)
                refine lv_iload hx hb dd_M_fillsPrices_61 (lv_at hl 0 rfl) ?_
                refine lv_if_lt (tgt := 112) hx hb dd_M_fillsPrices_63 (by decide) (fun c10 => ?_) (fun c10 => ?_)
                · have hm := ss_ift hm c10
                  exact J_112 x2_44 x3_44 h_44 _ _ _ hm hR hS (lv_sub hl [1, 2, 3] rfl)
                · have hm := ss_iff hm c10
                  refine ss_aload_n hx hb dd_M_fillsPrices_66 rfl (lv_at hl 1 rfl) ?_
                  obtain ⟨r11, qr11, hm⟩ := ss_bind hm
                  refine ss_getr hC hK hR kf_M_61 rfl qr11 dd_M_fillsPrices_67 ?_
                  refine lv_iload hx hb dd_M_fillsPrices_70 (lv_at hl 0 rfl) ?_
                  obtain ⟨v12, qv12, hm⟩ := ss_bind hm
                  refine ss_iald hC hK hR qv12 dd_M_fillsPrices_72 ?_
                  refine ss_aload_n hx hb dd_M_fillsPrices_73 rfl (lv_at hl 1 rfl) ?_
                  refine lv_iload_n hx hb dd_M_fillsPrices_74 rfl (lv_at hl 3 rfl) ?_
                  obtain ⟨v13, qv13, hm⟩ := ss_bind hm
                  refine ss_cV 0 0 (As := [.int x3_44]) hC hK hR hS hl.1 (cc_M_priceOf l G N _ _ _ _ qv13) km_M_404 (ck_M_priceOf qv13) ⟨Nat.le_of_ble_eq_true rfl, Nat.le_of_ble_eq_true rfl⟩ ⟨Nat.le_of_ble_eq_true rfl, Nat.le_of_ble_eq_true rfl, Nat.le_of_ble_eq_true rfl, Nat.le_of_ble_eq_true rfl⟩ rfl rfl (Nat.le_of_ble_eq_true rfl) dd_M_fillsPrices_75 (fun H locs hR hS => ?_)
                  refine lv_iadd hx hb dd_M_fillsPrices_78 ?_
                  refine ss_aload_n hx hb dd_M_fillsPrices_79 rfl (lv_at hl 1 rfl) ?_
                  obtain ⟨r14, qr14, hm⟩ := ss_bind hm
                  refine ss_getr hC hK hR kf_M_61 rfl qr14 dd_M_fillsPrices_80 ?_
                  refine lv_iload_n hx hb dd_M_fillsPrices_83 rfl (lv_at hl 3 rfl) ?_
                  obtain ⟨v15, qv15, hm⟩ := ss_bind hm
                  refine ss_iald hC hK hR qv15 dd_M_fillsPrices_84 ?_
                  refine lv_icmp_lt (tgt := 91) hx hb dd_M_fillsPrices_85 (by decide) (fun c16 => ?_) (fun c16 => ?_)
                  · have hm := ss_ift hm c16
                    refine ss_aload_n hx hb dd_M_fillsPrices_91 rfl (lv_at hl 1 rfl) ?_
                    obtain ⟨r17, qr17, hm⟩ := ss_bind hm
                    refine ss_getr hC hK hR kf_M_61 rfl qr17 dd_M_fillsPrices_92 ?_
                    refine lv_iload_n hx hb dd_M_fillsPrices_95 rfl (lv_at hl 3 rfl) ?_
                    refine ss_aload_n hx hb dd_M_fillsPrices_96 rfl (lv_at hl 1 rfl) ?_
                    obtain ⟨r18, qr18, hm⟩ := ss_bind hm
                    refine ss_getr hC hK hR kf_M_61 rfl qr18 dd_M_fillsPrices_97 ?_
                    refine lv_iload hx hb dd_M_fillsPrices_100 (lv_at hl 0 rfl) ?_
                    obtain ⟨v19, qv19, hm⟩ := ss_bind hm
                    refine ss_iald hC hK hR qv19 dd_M_fillsPrices_102 ?_
                    refine ss_aload_n hx hb dd_M_fillsPrices_103 rfl (lv_at hl 1 rfl) ?_
                    refine lv_iload_n hx hb dd_M_fillsPrices_104 rfl (lv_at hl 3 rfl) ?_
                    obtain ⟨v20, qv20, hm⟩ := ss_bind hm
                    refine ss_cV 0 0 (As := [.int x3_44]) hC hK hR hS hl.1 (cc_M_priceOf l G N _ _ _ _ qv20) km_M_404 (ck_M_priceOf qv20) ⟨Nat.le_of_ble_eq_true rfl, Nat.le_of_ble_eq_true rfl⟩ ⟨Nat.le_of_ble_eq_true rfl, Nat.le_of_ble_eq_true rfl, Nat.le_of_ble_eq_true rfl, Nat.le_of_ble_eq_true rfl⟩ rfl rfl (by simp [ss_v_cat, ss_cat_i, ss_cat_l, ss_cat_r]) dd_M_fillsPrices_105 (fun H locs hR hS => ?_)
                    refine lv_iadd hx hb dd_M_fillsPrices_108 ?_
                    obtain ⟨h21, qh21, hm⟩ := ss_bind hm
                    refine ss_iast hC hK hR hS qh21 dd_M_fillsPrices_109 (fun H locs hR hS => ?_)
                    refine lv_iconst (v := 1) hx hb dd_M_fillsPrices_110 (by decide) ?_
                    refine lv_istore_n (lv' := [(2, .int (1 : Int32)), (4, .int v9), (0, ss_v (ss_b G) this), (3, .int x3_44)]) hx hb dd_M_fillsPrices_111 rfl hl (by decide) rfl (fun ls hl => ?_)
                    exact J_112 (1 : Int32) x3_44 h21 _ _ _ hm hR hS (lv_sub hl [2, 0, 3] rfl)
                  · have hm := ss_iff hm c16
                    refine lv_goto (tgt := 112) hx hb dd_M_fillsPrices_88 (by decide) ?_
                    exact J_112 x2_44 x3_44 h_44 _ _ _ hm hR hS (lv_sub hl [1, 2, 3] rfl)
          exact L_44 N (0 : Int32) (0 : Int32) h_36 _ _ _ he_44 hR hS (lv_sub hl [2, 1, 0] rfl)
    exact L_36 N (1 : Int32) h3 _ _ _ he_36 hR hS (lv_sub hl [1, 0] rfl)
  have L_2 : ∀ (n : Nat) (x2_2 : Int32) (h_2 : ss_Hp) (H : Heap) (locs : List Loc) (ls : Array Slot), ss_lp (mm_M_fillsPrices_b2 N this a1) n (x2_2, h_2) = some e_2 → ss_R G h_2 H → va_S (ss_A G) s.heap H locs → lv_has ls 5 [(0, ss_v (ss_b G) this), (1, .int a1), (2, .int x2_2)] → ww_M_fillsPrices p l e s m below meth c G this a1 h hh  H locs 0 0 (F0 m 2 ls []) := by
    intro n
    induction n with
    | zero => intro x2_2 h_2 H locs ls hm; cases hm
    | succ n ih_2 =>
      intro x2_2 h_2 H locs ls hm hR hS hl
      obtain ⟨z_2, hm, hz1_2, hz2_2⟩ := ss_lps hm
      refine lv_iload_n hx hb dd_M_fillsPrices_2 rfl (lv_at hl 2 rfl) ?_
      refine lv_bipush (v := 8) hx hb dd_M_fillsPrices_3 (by decide) ?_
      refine lv_icmp_ge (tgt := 23) hx hb dd_M_fillsPrices_5 (by decide) (fun c22 => ?_) (fun c22 => ?_)
      · have hm := ss_ift hm c22
        exact X_2_23 h_2 _ _ _ (hz2_2 _ (ss_some hm)) hR hS (lv_sub hl [0, 1] rfl)
      · have hm := ss_iff hm c22
        refine ss_aload_n hx hb dd_M_fillsPrices_8 rfl (lv_at hl 0 rfl) ?_
        obtain ⟨r23, qr23, hm⟩ := ss_bind hm
        refine ss_getr hC hK hR kf_M_61 rfl qr23 dd_M_fillsPrices_9 ?_
        refine lv_iload_n hx hb dd_M_fillsPrices_12 rfl (lv_at hl 2 rfl) ?_
        refine lv_sipush (v := 9999) hx hb dd_M_fillsPrices_13 (by decide) ?_
        obtain ⟨h24, qh24, hm⟩ := ss_bind hm
        refine ss_iast hC hK hR hS qh24 dd_M_fillsPrices_16 (fun H locs hR hS => ?_)
        obtain ⟨v25, qv25, hm⟩ := ss_bind hm
        refine lv_iinc (v := v25) (lv' := [(2, .int v25), (0, ss_v (ss_b G) this), (1, .int a1)]) hx hb dd_M_fillsPrices_17 hl (k := 2) rfl (ss_inc (by decide) qv25) (by decide) rfl (fun ls hl => ?_)
        refine lv_goto (tgt := 2) hx hb dd_M_fillsPrices_20 (by decide) ?_
        exact ih_2 v25 h24 _ _ _ (hz1_2 _ (ss_some hm)) hR hS (lv_sub hl [1, 2, 0] rfl)
  exact L_2 N (0 : Int32) h _ _ _ he_2 hR hS (lv_sub hl [1, 2, 0] rfl)
theorem dd_M_way_0 : decode bb_M_way 0 = .ok (.aload_n 0, 1) := by decide +kernel
theorem dd_M_way_1 : decode bb_M_way 1 = .ok (.iload_n 1, 1) := by decide +kernel
theorem dd_M_way_2 : decode bb_M_way 2 = .ok (.invokevirtual 313, 3) := by decide +kernel
theorem dd_M_way_5 : decode bb_M_way 5 = .ok (.ifCond .eq 23, 3) := by decide +kernel
theorem dd_M_way_8 : decode bb_M_way 8 = .ok (.aload_n 0, 1) := by decide +kernel
theorem dd_M_way_9 : decode bb_M_way 9 = .ok (.iload_n 2, 1) := by decide +kernel
theorem dd_M_way_10 : decode bb_M_way 10 = .ok (.invokevirtual 313, 3) := by decide +kernel
theorem dd_M_way_13 : decode bb_M_way 13 = .ok (.ifCond .eq 15, 3) := by decide +kernel
theorem dd_M_way_16 : decode bb_M_way 16 = .ok (.iload_n 3, 1) := by decide +kernel
theorem dd_M_way_17 : decode bb_M_way 17 = .ok (.i2l, 1) := by decide +kernel
theorem dd_M_way_18 : decode bb_M_way 18 = .ok (.lconst 0, 1) := by decide +kernel
theorem dd_M_way_19 : decode bb_M_way 19 = .ok (.ldc2_w 325, 3) := by decide +kernel
theorem dd_M_way_22 : decode bb_M_way 22 = .ok (.invokestatic 124, 3) := by decide +kernel
theorem dd_M_way_25 : decode bb_M_way 25 = .ok (.ifCond .ne 6, 3) := by decide +kernel
theorem dd_M_way_28 : decode bb_M_way 28 = .ok (.bipush (-3), 2) := by decide +kernel
theorem dd_M_way_30 : decode bb_M_way 30 = .ok (.ireturn, 1) := by decide +kernel
theorem dd_M_way_31 : decode bb_M_way 31 = .ok (.aload_n 0, 1) := by decide +kernel
theorem dd_M_way_32 : decode bb_M_way 32 = .ok (.iload_n 2, 1) := by decide +kernel
theorem dd_M_way_33 : decode bb_M_way 33 = .ok (.invokevirtual 410, 3) := by decide +kernel
theorem dd_M_way_36 : decode bb_M_way 36 = .ok (.aload_n 0, 1) := by decide +kernel
theorem dd_M_way_37 : decode bb_M_way 37 = .ok (.getfield 61, 3) := by decide +kernel
theorem dd_M_way_40 : decode bb_M_way 40 = .ok (.iload_n 1, 1) := by decide +kernel
theorem dd_M_way_41 : decode bb_M_way 41 = .ok (.iaload, 1) := by decide +kernel
theorem dd_M_way_42 : decode bb_M_way 42 = .ok (.sipush 9999, 3) := by decide +kernel
theorem dd_M_way_45 : decode bb_M_way 45 = .ok (.if_icmp .lt 6, 3) := by decide +kernel
theorem dd_M_way_48 : decode bb_M_way 48 = .ok (.bipush (-2), 2) := by decide +kernel
theorem dd_M_way_50 : decode bb_M_way 50 = .ok (.ireturn, 1) := by decide +kernel
theorem dd_M_way_51 : decode bb_M_way 51 = .ok (.iload_n 3, 1) := by decide +kernel
theorem dd_M_way_52 : decode bb_M_way 52 = .ok (.ifCond .ne 15, 3) := by decide +kernel
theorem dd_M_way_55 : decode bb_M_way 55 = .ok (.aload_n 0, 1) := by decide +kernel
theorem dd_M_way_56 : decode bb_M_way 56 = .ok (.getfield 61, 3) := by decide +kernel
theorem dd_M_way_59 : decode bb_M_way 59 = .ok (.iload_n 1, 1) := by decide +kernel
theorem dd_M_way_60 : decode bb_M_way 60 = .ok (.iaload, 1) := by decide +kernel
theorem dd_M_way_61 : decode bb_M_way 61 = .ok (.bipush 100, 2) := by decide +kernel
theorem dd_M_way_63 : decode bb_M_way 63 = .ok (.idiv, 1) := by decide +kernel
theorem dd_M_way_64 : decode bb_M_way 64 = .ok (.goto 34, 3) := by decide +kernel
theorem dd_M_way_67 : decode bb_M_way 67 = .ok (.iload_n 3, 1) := by decide +kernel
theorem dd_M_way_68 : decode bb_M_way 68 = .ok (.iconst 1, 1) := by decide +kernel
theorem dd_M_way_69 : decode bb_M_way 69 = .ok (.if_icmp .ne 15, 3) := by decide +kernel
theorem dd_M_way_72 : decode bb_M_way 72 = .ok (.aload_n 0, 1) := by decide +kernel
theorem dd_M_way_73 : decode bb_M_way 73 = .ok (.getfield 61, 3) := by decide +kernel
theorem dd_M_way_76 : decode bb_M_way 76 = .ok (.iload_n 1, 1) := by decide +kernel
theorem dd_M_way_77 : decode bb_M_way 77 = .ok (.iaload, 1) := by decide +kernel
theorem dd_M_way_78 : decode bb_M_way 78 = .ok (.bipush 100, 2) := by decide +kernel
theorem dd_M_way_80 : decode bb_M_way 80 = .ok (.irem, 1) := by decide +kernel
theorem dd_M_way_81 : decode bb_M_way 81 = .ok (.goto 17, 3) := by decide +kernel
theorem dd_M_way_84 : decode bb_M_way 84 = .ok (.iload_n 1, 1) := by decide +kernel
theorem dd_M_way_85 : decode bb_M_way 85 = .ok (.iload_n 2, 1) := by decide +kernel
theorem dd_M_way_86 : decode bb_M_way 86 = .ok (.if_icmp .ne 7, 3) := by decide +kernel
theorem dd_M_way_89 : decode bb_M_way 89 = .ok (.iconst (-1), 1) := by decide +kernel
theorem dd_M_way_90 : decode bb_M_way 90 = .ok (.goto 8, 3) := by decide +kernel
theorem dd_M_way_93 : decode bb_M_way 93 = .ok (.aload_n 0, 1) := by decide +kernel
theorem dd_M_way_94 : decode bb_M_way 94 = .ok (.iload_n 1, 1) := by decide +kernel
theorem dd_M_way_95 : decode bb_M_way 95 = .ok (.invokevirtual 407, 3) := by decide +kernel
theorem dd_M_way_98 : decode bb_M_way 98 = .ok (.ireturn, 1) := by decide +kernel
def mm_M_way_j28 (N : Nat) (this : Option Nat) (a1 : Int32) (a2 : Int32) (a3 : Int32) (h_28 : ss_Hp) : Option (Int32 × ss_Hp) :=
  some ((-3 : Int32), h_28)
def mm_M_way_j98 (N : Nat) (this : Option Nat) (a1 : Int32) (a2 : Int32) (a3 : Int32) (s0_98 : Int32) (h_98 : ss_Hp) : Option (Int32 × ss_Hp) :=
  some (s0_98, h_98)
def mm_M_way (N : Nat) (this : Option Nat) (a1 : Int32) (a2 : Int32) (a3 : Int32) (h : ss_Hp) : Option (Int32 × ss_Hp) :=
  if ss_is h this 12 = true then
    (mm_M_isStep N this a1 h).bind fun v1 =>
    if v1 = 0 then
      mm_M_way_j28 N this a1 a2 a3 h
    else
      (mm_M_isStep N this a2 h).bind fun v3 =>
      if v3 = 0 then
        mm_M_way_j28 N this a1 a2 a3 h
      else
        (mm_M_in N ((a3).toInt64) (0 : Int64) (2 : Int64)).bind fun v5 =>
        if v5 = 0 then
          mm_M_way_j28 N this a1 a2 a3 h
        else
          (mm_M_fillsPrices N this a2 h).bind fun h7 =>
          (ss_gr h7 this 12 15).bind fun r8 =>
          (ss_ai h7 r8 20 a1).bind fun v9 =>
          if v9 < (9999 : Int32) then
            if a3 = 0 then
              (ss_gr h7 this 12 15).bind fun r18 =>
              (ss_ai h7 r18 20 a1).bind fun v19 =>
              (ss_div v19 (100 : Int32)).bind fun v20 =>
              mm_M_way_j98 N this a1 a2 a3 v20 h7
            else
              if a3 = (1 : Int32) then
                (ss_gr h7 this 12 15).bind fun r15 =>
                (ss_ai h7 r15 20 a1).bind fun v16 =>
                (ss_rem v16 (100 : Int32)).bind fun v17 =>
                mm_M_way_j98 N this a1 a2 a3 v17 h7
              else
                if a1 = a2 then
                  mm_M_way_j98 N this a1 a2 a3 (-1 : Int32) h7
                else
                  (mm_M_nextTo N this a1 h7).bind fun v14 =>
                  mm_M_way_j98 N this a1 a2 a3 v14 h7
          else
            some ((-2 : Int32), h7)
  else none
abbrev ww_M_way (p : Program) (l : Launch) (e : Env) (s : State) (m : MethodId) (below : List Frame) (meth : Method) (c : Code) (G : ss_G) (this : Option Nat) (a1 : Int32) (a2 : Int32) (a3 : Int32) (h : ss_Hp) (rr : Int32) (hh : ss_Hp) (H : Heap) (locs : List Loc) (k n : Nat) (g : JFrame) : Prop := W p l e (headSpec (ss_w yy_M_way bb_M_way 4 (some (.int))) ({ frames := 3, cells := 0, slots := 0, locals := 68 })).room s m ([ss_v (ss_b G) this, .int a1, .int a2, .int a3] : List Value).toArray below meth c H locs k n (MQ below (ss_Qc G (some (.int rr)) hh) ([ss_v (ss_b G) this, .int a1, .int a2, .int a3] : List Value).toArray s 0 0 (ss_A G)) g
theorem ck_M_way {N : Nat} {this : Option Nat} {a1 : Int32} {a2 : Int32} {a3 : Int32} {h : ss_Hp} {res : Int32 × ss_Hp} (hm : mm_M_way N this a1 a2 a3 h = some res) : ss_is h this 12 = true := (ss_chk hm).1
set_option maxHeartbeats 4000000 in
set_option maxRecDepth 100000 in
theorem cc_M_way (l : Launch) (G : ss_G) (N : Nat) (this : Option Nat) (a1 : Int32) (a2 : Int32) (a3 : Int32) (h : ss_Hp) (rr : Int32) (hh : ss_Hp) (hm : mm_M_way N this a1 a2 a3 h = some (rr, hh)) : ss_Ct l G yy_M_way bb_M_way 4 (some (.int)) ({ frames := 3, cells := 0, slots := 0, locals := 68 }) [ss_v (ss_b G) this, .int a1, .int a2, .int a3] h (some (.int rr)) hh := by
  obtain ⟨hck, hm⟩ := ss_chk hm
  refine Met.ofW (cc := bb_M_way) (maxL := 4) (ret := (some (.int))) (by decide) rfl ?_
  intro p e s m args below meth c s₁ B hml hv
  obtain ⟨rfl, hR, hK⟩ := hv
  have hC : CallFix p m c bb_M_way 4 s _ lw_g sR_12 := ⟨B.exec, B.bytes, hml, findClass_of_methodNamed B.named, fun w hw => atoms_spec (ws := ss_w yy_M_way bb_M_way 4 (some (.int))) B.pre w (List.mem_cons_of_mem _ hw)⟩
  have hx := hC.1
  have hb := hC.2.1
  have hr := B.returns
  have hlocks := B.notSynchronized
  have hS : va_S (ss_A G) s.heap s.heap [] := va_S.rf
  have hl := lv_entry ([ss_v (ss_b G) this, .int a1, .int a2, .int a3]) (n := 4) (by simp [lg_sl, ss_v_cat, ss_cat_i, ss_cat_l, ss_cat_r])
  rw [lg_entry_eq]
  generalize (lg_sl ([ss_v (ss_b G) this, .int a1, .int a2, .int a3]) ++ List.replicate (4 - (lg_sl ([ss_v (ss_b G) this, .int a1, .int a2, .int a3])).length) Slot.unset).toArray = ls at hl ⊢
  have hl : lv_has ls 4 [(0, ss_v (ss_b G) this), (1, .int a1), (2, .int a2), (3, .int a3)] := by simpa [lv_args, ss_v_cat, ss_cat_i, ss_cat_l, ss_cat_r] using hl
  have J_28 : ∀ (h_28 : ss_Hp) (H : Heap) (locs : List Loc) (ls : Array Slot), mm_M_way_j28 N this a1 a2 a3 h_28 = some (rr, hh) → ss_R G h_28 H → va_S (ss_A G) s.heap H locs → lv_has ls 4 [] → ww_M_way p l e s m below meth c G this a1 a2 a3 h rr hh  H locs 0 0 (F0 m 28 ls []) := by
    intro h_28 H locs ls hm hR hS hl
    refine lv_bipush (v := -3) hx hb dd_M_way_28 (by decide) ?_
    exact ss_iret hC hr hlocks hR hS hm dd_M_way_30
  have J_98 : ∀ (s0_98 : Int32) (h_98 : ss_Hp) (H : Heap) (locs : List Loc) (ls : Array Slot), mm_M_way_j98 N this a1 a2 a3 s0_98 h_98 = some (rr, hh) → ss_R G h_98 H → va_S (ss_A G) s.heap H locs → lv_has ls 4 [] → ww_M_way p l e s m below meth c G this a1 a2 a3 h rr hh  H locs 0 0 (F0 m 98 ls [.int s0_98]) := by
    intro s0_98 h_98 H locs ls hm hR hS hl
    exact ss_iret hC hr hlocks hR hS hm dd_M_way_98
  refine ss_aload_n hx hb dd_M_way_0 rfl (lv_at hl 0 rfl) ?_
  refine lv_iload_n hx hb dd_M_way_1 rfl (lv_at hl 1 rfl) ?_
  obtain ⟨v1, qv1, hm⟩ := ss_bind hm
  refine ss_cV 0 0 (As := [.int a1]) hC hK hR hS hl.1 (cc_M_isStep l G N _ _ _ _ qv1) km_M_313 (ck_M_isStep qv1) ⟨Nat.le_of_ble_eq_true rfl, Nat.le_of_ble_eq_true rfl⟩ ⟨Nat.le_of_ble_eq_true rfl, Nat.le_of_ble_eq_true rfl, Nat.le_of_ble_eq_true rfl, Nat.le_of_ble_eq_true rfl⟩ rfl rfl (Nat.le_of_ble_eq_true rfl) dd_M_way_2 (fun H locs hR hS => ?_)
  refine lv_if_eq (tgt := 28) hx hb dd_M_way_5 (by decide) (fun c2 => ?_) (fun c2 => ?_)
  · have hm := ss_ift hm c2
    exact J_28 h _ _ _ hm hR hS (lv_sub hl [] rfl)
  · have hm := ss_iff hm c2
    refine ss_aload_n hx hb dd_M_way_8 rfl (lv_at hl 0 rfl) ?_
    refine lv_iload_n hx hb dd_M_way_9 rfl (lv_at hl 2 rfl) ?_
    obtain ⟨v3, qv3, hm⟩ := ss_bind hm
    refine ss_cV 0 0 (As := [.int a2]) hC hK hR hS hl.1 (cc_M_isStep l G N _ _ _ _ qv3) km_M_313 (ck_M_isStep qv3) ⟨Nat.le_of_ble_eq_true rfl, Nat.le_of_ble_eq_true rfl⟩ ⟨Nat.le_of_ble_eq_true rfl, Nat.le_of_ble_eq_true rfl, Nat.le_of_ble_eq_true rfl, Nat.le_of_ble_eq_true rfl⟩ rfl rfl (Nat.le_of_ble_eq_true rfl) dd_M_way_10 (fun H locs hR hS => ?_)
    refine lv_if_eq (tgt := 28) hx hb dd_M_way_13 (by decide) (fun c4 => ?_) (fun c4 => ?_)
    · have hm := ss_ift hm c4
      exact J_28 h _ _ _ hm hR hS (lv_sub hl [] rfl)
    · have hm := ss_iff hm c4
      refine lv_iload_n hx hb dd_M_way_16 rfl (lv_at hl 3 rfl) ?_
      refine lv_i2l hx hb dd_M_way_17 rfl ?_
      refine lv_lconst (v := 0) hx hb dd_M_way_18 (by decide) ?_
      refine lv_ldc2 (v := 2) hx hb hC.2.2.2.1 (hC.2.2.2.2 _ kl_M_325) dd_M_way_19 ?_
      obtain ⟨v5, qv5, hm⟩ := ss_bind hm
      refine ss_cS 0 0 (As := [.long ((a3).toInt64), .long (0 : Int64), .long (2 : Int64)]) hC hK hR hS hl.1 (cc_M_in l G N _ _ _ _ _ qv5) km_M_124 ⟨Nat.le_of_ble_eq_true rfl, Nat.le_of_ble_eq_true rfl⟩ ⟨Nat.le_of_ble_eq_true rfl, Nat.le_of_ble_eq_true rfl, Nat.le_of_ble_eq_true rfl, Nat.le_of_ble_eq_true rfl⟩ rfl rfl (Nat.le_of_ble_eq_true rfl) dd_M_way_22 (fun H locs hR hS => ?_)
      refine lv_if_ne (tgt := 31) hx hb dd_M_way_25 (by decide) (fun c6 => ?_) (fun c6 => ?_)
      · have hm := ss_iff hm c6
        refine ss_aload_n hx hb dd_M_way_31 rfl (lv_at hl 0 rfl) ?_
        refine lv_iload_n hx hb dd_M_way_32 rfl (lv_at hl 2 rfl) ?_
        obtain ⟨h7, qh7, hm⟩ := ss_bind hm
        refine ss_cVv 0 0 (As := [.int a2]) hC hK hR hS hl.1 (cc_M_fillsPrices l G N _ _ _ _ qh7) km_M_410 (ck_M_fillsPrices qh7) ⟨Nat.le_of_ble_eq_true rfl, Nat.le_of_ble_eq_true rfl⟩ ⟨Nat.le_of_ble_eq_true rfl, Nat.le_of_ble_eq_true rfl, Nat.le_of_ble_eq_true rfl, Nat.le_of_ble_eq_true rfl⟩ rfl rfl (Nat.le_of_ble_eq_true rfl) dd_M_way_33 (fun H locs hR hS => ?_)
        refine ss_aload_n hx hb dd_M_way_36 rfl (lv_at hl 0 rfl) ?_
        obtain ⟨r8, qr8, hm⟩ := ss_bind hm
        refine ss_getr hC hK hR kf_M_61 rfl qr8 dd_M_way_37 ?_
        refine lv_iload_n hx hb dd_M_way_40 rfl (lv_at hl 1 rfl) ?_
        obtain ⟨v9, qv9, hm⟩ := ss_bind hm
        refine ss_iald hC hK hR qv9 dd_M_way_41 ?_
        refine lv_sipush (v := 9999) hx hb dd_M_way_42 (by decide) ?_
        refine lv_icmp_lt (tgt := 51) hx hb dd_M_way_45 (by decide) (fun c10 => ?_) (fun c10 => ?_)
        · have hm := ss_ift hm c10
          refine lv_iload_n hx hb dd_M_way_51 rfl (lv_at hl 3 rfl) ?_
          refine lv_if_ne (tgt := 67) hx hb dd_M_way_52 (by decide) (fun c11 => ?_) (fun c11 => ?_)
          · have hm := ss_iff hm c11
            refine lv_iload_n hx hb dd_M_way_67 rfl (lv_at hl 3 rfl) ?_
            refine lv_iconst (v := 1) hx hb dd_M_way_68 (by decide) ?_
            refine lv_icmp_ne (tgt := 84) hx hb dd_M_way_69 (by decide) (fun c12 => ?_) (fun c12 => ?_)
            · have hm := ss_iff hm c12
              refine lv_iload_n hx hb dd_M_way_84 rfl (lv_at hl 1 rfl) ?_
              refine lv_iload_n hx hb dd_M_way_85 rfl (lv_at hl 2 rfl) ?_
              refine lv_icmp_ne (tgt := 93) hx hb dd_M_way_86 (by decide) (fun c13 => ?_) (fun c13 => ?_)
              · have hm := ss_iff hm c13
                refine ss_aload_n hx hb dd_M_way_93 rfl (lv_at hl 0 rfl) ?_
                refine lv_iload_n hx hb dd_M_way_94 rfl (lv_at hl 1 rfl) ?_
                obtain ⟨v14, qv14, hm⟩ := ss_bind hm
                refine ss_cV 0 0 (As := [.int a1]) hC hK hR hS hl.1 (cc_M_nextTo l G N _ _ _ _ qv14) km_M_407 (ck_M_nextTo qv14) ⟨Nat.le_of_ble_eq_true rfl, Nat.le_of_ble_eq_true rfl⟩ ⟨Nat.le_of_ble_eq_true rfl, Nat.le_of_ble_eq_true rfl, Nat.le_of_ble_eq_true rfl, Nat.le_of_ble_eq_true rfl⟩ rfl rfl (Nat.le_of_ble_eq_true rfl) dd_M_way_95 (fun H locs hR hS => ?_)
                exact J_98 v14 h7 _ _ _ hm hR hS (lv_sub hl [] rfl)
              · have hm := ss_ift hm c13
                refine lv_iconst (v := -1) hx hb dd_M_way_89 (by decide) ?_
                refine lv_goto (tgt := 98) hx hb dd_M_way_90 (by decide) ?_
                exact J_98 (-1 : Int32) h7 _ _ _ hm hR hS (lv_sub hl [] rfl)
            · have hm := ss_ift hm c12
              refine ss_aload_n hx hb dd_M_way_72 rfl (lv_at hl 0 rfl) ?_
              obtain ⟨r15, qr15, hm⟩ := ss_bind hm
              refine ss_getr hC hK hR kf_M_61 rfl qr15 dd_M_way_73 ?_
              refine lv_iload_n hx hb dd_M_way_76 rfl (lv_at hl 1 rfl) ?_
              obtain ⟨v16, qv16, hm⟩ := ss_bind hm
              refine ss_iald hC hK hR qv16 dd_M_way_77 ?_
              refine lv_bipush (v := 100) hx hb dd_M_way_78 (by decide) ?_
              obtain ⟨v17, qv17, hm⟩ := ss_bind hm
              refine ss_irem hx hb qv17 dd_M_way_80 ?_
              refine lv_goto (tgt := 98) hx hb dd_M_way_81 (by decide) ?_
              exact J_98 v17 h7 _ _ _ hm hR hS (lv_sub hl [] rfl)
          · have hm := ss_ift hm c11
            refine ss_aload_n hx hb dd_M_way_55 rfl (lv_at hl 0 rfl) ?_
            obtain ⟨r18, qr18, hm⟩ := ss_bind hm
            refine ss_getr hC hK hR kf_M_61 rfl qr18 dd_M_way_56 ?_
            refine lv_iload_n hx hb dd_M_way_59 rfl (lv_at hl 1 rfl) ?_
            obtain ⟨v19, qv19, hm⟩ := ss_bind hm
            refine ss_iald hC hK hR qv19 dd_M_way_60 ?_
            refine lv_bipush (v := 100) hx hb dd_M_way_61 (by decide) ?_
            obtain ⟨v20, qv20, hm⟩ := ss_bind hm
            refine ss_idiv hx hb qv20 dd_M_way_63 ?_
            refine lv_goto (tgt := 98) hx hb dd_M_way_64 (by decide) ?_
            exact J_98 v20 h7 _ _ _ hm hR hS (lv_sub hl [] rfl)
        · have hm := ss_iff hm c10
          refine lv_bipush (v := -2) hx hb dd_M_way_48 (by decide) ?_
          exact ss_iret hC hr hlocks hR hS hm dd_M_way_50
      · have hm := ss_ift hm c6
        exact J_28 h _ _ _ hm hR hS (lv_sub hl [] rfl)
theorem dd_M_fillsPact_0 : decode bb_M_fillsPact 0 = .ok (.iconst 0, 1) := by decide +kernel
theorem dd_M_fillsPact_1 : decode bb_M_fillsPact 1 = .ok (.istore_n 3, 1) := by decide +kernel
theorem dd_M_fillsPact_2 : decode bb_M_fillsPact 2 = .ok (.iload_n 3, 1) := by decide +kernel
theorem dd_M_fillsPact_3 : decode bb_M_fillsPact 3 = .ok (.iconst 4, 1) := by decide +kernel
theorem dd_M_fillsPact_4 : decode bb_M_fillsPact 4 = .ok (.if_icmp .ge 20, 3) := by decide +kernel
theorem dd_M_fillsPact_7 : decode bb_M_fillsPact 7 = .ok (.aload_n 0, 1) := by decide +kernel
theorem dd_M_fillsPact_8 : decode bb_M_fillsPact 8 = .ok (.getfield 64, 3) := by decide +kernel
theorem dd_M_fillsPact_11 : decode bb_M_fillsPact 11 = .ok (.iconst 4, 1) := by decide +kernel
theorem dd_M_fillsPact_12 : decode bb_M_fillsPact 12 = .ok (.iload_n 1, 1) := by decide +kernel
theorem dd_M_fillsPact_13 : decode bb_M_fillsPact 13 = .ok (.imul, 1) := by decide +kernel
theorem dd_M_fillsPact_14 : decode bb_M_fillsPact 14 = .ok (.iload_n 3, 1) := by decide +kernel
theorem dd_M_fillsPact_15 : decode bb_M_fillsPact 15 = .ok (.iadd, 1) := by decide +kernel
theorem dd_M_fillsPact_16 : decode bb_M_fillsPact 16 = .ok (.iconst 0, 1) := by decide +kernel
theorem dd_M_fillsPact_17 : decode bb_M_fillsPact 17 = .ok (.iastore, 1) := by decide +kernel
theorem dd_M_fillsPact_18 : decode bb_M_fillsPact 18 = .ok (.iinc 3 1, 3) := by decide +kernel
theorem dd_M_fillsPact_21 : decode bb_M_fillsPact 21 = .ok (.goto (-19), 3) := by decide +kernel
theorem dd_M_fillsPact_24 : decode bb_M_fillsPact 24 = .ok (.iconst 0, 1) := by decide +kernel
theorem dd_M_fillsPact_25 : decode bb_M_fillsPact 25 = .ok (.istore_n 3, 1) := by decide +kernel
theorem dd_M_fillsPact_26 : decode bb_M_fillsPact 26 = .ok (.iload_n 3, 1) := by decide +kernel
theorem dd_M_fillsPact_27 : decode bb_M_fillsPact 27 = .ok (.iload_n 2, 1) := by decide +kernel
theorem dd_M_fillsPact_28 : decode bb_M_fillsPact 28 = .ok (.if_icmp .ge 143, 3) := by decide +kernel
theorem dd_M_fillsPact_31 : decode bb_M_fillsPact 31 = .ok (.iconst 0, 1) := by decide +kernel
theorem dd_M_fillsPact_32 : decode bb_M_fillsPact 32 = .ok (.istore 4, 2) := by decide +kernel
theorem dd_M_fillsPact_34 : decode bb_M_fillsPact 34 = .ok (.iload 4, 2) := by decide +kernel
theorem dd_M_fillsPact_36 : decode bb_M_fillsPact 36 = .ok (.aload_n 0, 1) := by decide +kernel
theorem dd_M_fillsPact_37 : decode bb_M_fillsPact 37 = .ok (.getfield 39, 3) := by decide +kernel
theorem dd_M_fillsPact_40 : decode bb_M_fillsPact 40 = .ok (.iconst 3, 1) := by decide +kernel
theorem dd_M_fillsPact_41 : decode bb_M_fillsPact 41 = .ok (.iaload, 1) := by decide +kernel
theorem dd_M_fillsPact_42 : decode bb_M_fillsPact 42 = .ok (.if_icmp .ge 66, 3) := by decide +kernel
theorem dd_M_fillsPact_45 : decode bb_M_fillsPact 45 = .ok (.iload_n 1, 1) := by decide +kernel
theorem dd_M_fillsPact_46 : decode bb_M_fillsPact 46 = .ok (.iload 4, 2) := by decide +kernel
theorem dd_M_fillsPact_48 : decode bb_M_fillsPact 48 = .ok (.invokestatic 316, 3) := by decide +kernel
theorem dd_M_fillsPact_51 : decode bb_M_fillsPact 51 = .ok (.ifCond .eq 51, 3) := by decide +kernel
theorem dd_M_fillsPact_54 : decode bb_M_fillsPact 54 = .ok (.aload_n 0, 1) := by decide +kernel
theorem dd_M_fillsPact_55 : decode bb_M_fillsPact 55 = .ok (.getfield 39, 3) := by decide +kernel
theorem dd_M_fillsPact_58 : decode bb_M_fillsPact 58 = .ok (.bipush 14, 2) := by decide +kernel
theorem dd_M_fillsPact_60 : decode bb_M_fillsPact 60 = .ok (.aload_n 0, 1) := by decide +kernel
theorem dd_M_fillsPact_61 : decode bb_M_fillsPact 61 = .ok (.iload 4, 2) := by decide +kernel
theorem dd_M_fillsPact_63 : decode bb_M_fillsPact 63 = .ok (.invokevirtual 327, 3) := by decide +kernel
theorem dd_M_fillsPact_66 : decode bb_M_fillsPact 66 = .ok (.iadd, 1) := by decide +kernel
theorem dd_M_fillsPact_67 : decode bb_M_fillsPact 67 = .ok (.iaload, 1) := by decide +kernel
theorem dd_M_fillsPact_68 : decode bb_M_fillsPact 68 = .ok (.ifCond .ne 6, 3) := by decide +kernel
theorem dd_M_fillsPact_71 : decode bb_M_fillsPact 71 = .ok (.goto 31, 3) := by decide +kernel
theorem dd_M_fillsPact_74 : decode bb_M_fillsPact 74 = .ok (.aload_n 0, 1) := by decide +kernel
theorem dd_M_fillsPact_75 : decode bb_M_fillsPact 75 = .ok (.iload 4, 2) := by decide +kernel
theorem dd_M_fillsPact_77 : decode bb_M_fillsPact 77 = .ok (.aload_n 0, 1) := by decide +kernel
theorem dd_M_fillsPact_78 : decode bb_M_fillsPact 78 = .ok (.iload 4, 2) := by decide +kernel
theorem dd_M_fillsPact_80 : decode bb_M_fillsPact 80 = .ok (.invokevirtual 327, 3) := by decide +kernel
theorem dd_M_fillsPact_83 : decode bb_M_fillsPact 83 = .ok (.invokevirtual 359, 3) := by decide +kernel
theorem dd_M_fillsPact_86 : decode bb_M_fillsPact 86 = .ok (.pop, 1) := by decide +kernel
theorem dd_M_fillsPact_87 : decode bb_M_fillsPact 87 = .ok (.aload_n 0, 1) := by decide +kernel
theorem dd_M_fillsPact_88 : decode bb_M_fillsPact 88 = .ok (.getfield 64, 3) := by decide +kernel
theorem dd_M_fillsPact_91 : decode bb_M_fillsPact 91 = .ok (.iconst 4, 1) := by decide +kernel
theorem dd_M_fillsPact_92 : decode bb_M_fillsPact 92 = .ok (.iload_n 1, 1) := by decide +kernel
theorem dd_M_fillsPact_93 : decode bb_M_fillsPact 93 = .ok (.imul, 1) := by decide +kernel
theorem dd_M_fillsPact_94 : decode bb_M_fillsPact 94 = .ok (.iload 4, 2) := by decide +kernel
theorem dd_M_fillsPact_96 : decode bb_M_fillsPact 96 = .ok (.iadd, 1) := by decide +kernel
theorem dd_M_fillsPact_97 : decode bb_M_fillsPact 97 = .ok (.dup2, 1) := by decide +kernel
theorem dd_M_fillsPact_98 : decode bb_M_fillsPact 98 = .ok (.iaload, 1) := by decide +kernel
theorem dd_M_fillsPact_99 : decode bb_M_fillsPact 99 = .ok (.iconst 1, 1) := by decide +kernel
theorem dd_M_fillsPact_100 : decode bb_M_fillsPact 100 = .ok (.isub, 1) := by decide +kernel
theorem dd_M_fillsPact_101 : decode bb_M_fillsPact 101 = .ok (.iastore, 1) := by decide +kernel
theorem dd_M_fillsPact_102 : decode bb_M_fillsPact 102 = .ok (.iinc 4 1, 3) := by decide +kernel
theorem dd_M_fillsPact_105 : decode bb_M_fillsPact 105 = .ok (.goto (-71), 3) := by decide +kernel
theorem dd_M_fillsPact_108 : decode bb_M_fillsPact 108 = .ok (.aload_n 0, 1) := by decide +kernel
theorem dd_M_fillsPact_109 : decode bb_M_fillsPact 109 = .ok (.invokevirtual 363, 3) := by decide +kernel
theorem dd_M_fillsPact_112 : decode bb_M_fillsPact 112 = .ok (.pop, 1) := by decide +kernel
theorem dd_M_fillsPact_113 : decode bb_M_fillsPact 113 = .ok (.iconst 0, 1) := by decide +kernel
theorem dd_M_fillsPact_114 : decode bb_M_fillsPact 114 = .ok (.istore 4, 2) := by decide +kernel
theorem dd_M_fillsPact_116 : decode bb_M_fillsPact 116 = .ok (.iload 4, 2) := by decide +kernel
theorem dd_M_fillsPact_118 : decode bb_M_fillsPact 118 = .ok (.aload_n 0, 1) := by decide +kernel
theorem dd_M_fillsPact_119 : decode bb_M_fillsPact 119 = .ok (.getfield 39, 3) := by decide +kernel
theorem dd_M_fillsPact_122 : decode bb_M_fillsPact 122 = .ok (.iconst 3, 1) := by decide +kernel
theorem dd_M_fillsPact_123 : decode bb_M_fillsPact 123 = .ok (.iaload, 1) := by decide +kernel
theorem dd_M_fillsPact_124 : decode bb_M_fillsPact 124 = .ok (.if_icmp .ge 41, 3) := by decide +kernel
theorem dd_M_fillsPact_127 : decode bb_M_fillsPact 127 = .ok (.aload_n 0, 1) := by decide +kernel
theorem dd_M_fillsPact_128 : decode bb_M_fillsPact 128 = .ok (.getfield 64, 3) := by decide +kernel
theorem dd_M_fillsPact_131 : decode bb_M_fillsPact 131 = .ok (.iconst 4, 1) := by decide +kernel
theorem dd_M_fillsPact_132 : decode bb_M_fillsPact 132 = .ok (.iload_n 1, 1) := by decide +kernel
theorem dd_M_fillsPact_133 : decode bb_M_fillsPact 133 = .ok (.imul, 1) := by decide +kernel
theorem dd_M_fillsPact_134 : decode bb_M_fillsPact 134 = .ok (.iload 4, 2) := by decide +kernel
theorem dd_M_fillsPact_136 : decode bb_M_fillsPact 136 = .ok (.iadd, 1) := by decide +kernel
theorem dd_M_fillsPact_137 : decode bb_M_fillsPact 137 = .ok (.dup2, 1) := by decide +kernel
theorem dd_M_fillsPact_138 : decode bb_M_fillsPact 138 = .ok (.iaload, 1) := by decide +kernel
theorem dd_M_fillsPact_139 : decode bb_M_fillsPact 139 = .ok (.aload_n 0, 1) := by decide +kernel
theorem dd_M_fillsPact_140 : decode bb_M_fillsPact 140 = .ok (.aload_n 0, 1) := by decide +kernel
theorem dd_M_fillsPact_141 : decode bb_M_fillsPact 141 = .ok (.iload 4, 2) := by decide +kernel
theorem dd_M_fillsPact_143 : decode bb_M_fillsPact 143 = .ok (.invokevirtual 327, 3) := by decide +kernel
theorem dd_M_fillsPact_146 : decode bb_M_fillsPact 146 = .ok (.invokevirtual 307, 3) := by decide +kernel
theorem dd_M_fillsPact_149 : decode bb_M_fillsPact 149 = .ok (.ifCond .eq 7, 3) := by decide +kernel
theorem dd_M_fillsPact_152 : decode bb_M_fillsPact 152 = .ok (.iconst 0, 1) := by decide +kernel
theorem dd_M_fillsPact_153 : decode bb_M_fillsPact 153 = .ok (.goto 4, 3) := by decide +kernel
theorem dd_M_fillsPact_156 : decode bb_M_fillsPact 156 = .ok (.iconst 2, 1) := by decide +kernel
theorem dd_M_fillsPact_157 : decode bb_M_fillsPact 157 = .ok (.iadd, 1) := by decide +kernel
theorem dd_M_fillsPact_158 : decode bb_M_fillsPact 158 = .ok (.iastore, 1) := by decide +kernel
theorem dd_M_fillsPact_159 : decode bb_M_fillsPact 159 = .ok (.iinc 4 1, 3) := by decide +kernel
theorem dd_M_fillsPact_162 : decode bb_M_fillsPact 162 = .ok (.goto (-46), 3) := by decide +kernel
theorem dd_M_fillsPact_165 : decode bb_M_fillsPact 165 = .ok (.iinc 3 1, 3) := by decide +kernel
theorem dd_M_fillsPact_168 : decode bb_M_fillsPact 168 = .ok (.goto (-142), 3) := by decide +kernel
theorem dd_M_fillsPact_171 : decode bb_M_fillsPact 171 = .ok (.return_, 1) := by decide +kernel
def mm_M_fillsPact_j157 (N : Nat) (this : Option Nat) (a1 : Int32) (a2 : Int32) (x3_26 : Int32) (x4_157 : Int32) (s0_157 : Option Nat) (s1_157 : Int32) (s2_157 : Int32) (s3_157 : Int32) (h_157 : ss_Hp) : Option ((Int32 × ss_Hp) ⊕ ss_Hp) :=
  (ss_ui h_157 s0_157 20 s1_157 (s2_157 + s3_157)).bind fun h5 =>
  (some (x4_157 + (1 : Int32))).bind fun v6 =>
  some (.inl (v6, h5))
def mm_M_fillsPact_b116 (N : Nat) (this : Option Nat) (a1 : Int32) (a2 : Int32) (x3_26 : Int32) (st : Int32 × ss_Hp) : Option ((Int32 × ss_Hp) ⊕ ss_Hp) :=
  match st with
  | (x4_116, h_116) =>
    (ss_gr h_116 this 12 9).bind fun r7 =>
    (ss_ai h_116 r7 20 (3 : Int32)).bind fun v8 =>
    if v8 ≤ x4_116 then
      some (.inr h_116)
    else
      (ss_gr h_116 this 12 16).bind fun r10 =>
      (some (((4 : Int32) * a1) + x4_116)).bind fun v11 =>
      (ss_ai h_116 r10 20 v11).bind fun v12 =>
      (mm_M_ownOf N this x4_116 h_116).bind fun v13 =>
      (mm_M_isClosed N this v13 h_116).bind fun v14 =>
      if v14 = 0 then
        mm_M_fillsPact_j157 N this a1 a2 x3_26 x4_116 r10 v11 v12 (2 : Int32) h_116
      else
        mm_M_fillsPact_j157 N this a1 a2 x3_26 x4_116 r10 v11 v12 (0 : Int32) h_116
def mm_M_fillsPact_j102 (N : Nat) (this : Option Nat) (a1 : Int32) (a2 : Int32) (x3_26 : Int32) (x4_102 : Int32) (h_102 : ss_Hp) : Option ((Int32 × ss_Hp) ⊕ ss_Hp) :=
  (some (x4_102 + (1 : Int32))).bind fun v16 =>
  some (.inl (v16, h_102))
def mm_M_fillsPact_b34 (N : Nat) (this : Option Nat) (a1 : Int32) (a2 : Int32) (x3_26 : Int32) (st : Int32 × ss_Hp) : Option ((Int32 × ss_Hp) ⊕ ss_Hp) :=
  match st with
  | (x4_34, h_34) =>
    (ss_gr h_34 this 12 9).bind fun r17 =>
    (ss_ai h_34 r17 20 (3 : Int32)).bind fun v18 =>
    if v18 ≤ x4_34 then
      some (.inr h_34)
    else
      (mm_M_isOf N a1 x4_34).bind fun v20 =>
      if v20 = 0 then
        mm_M_fillsPact_j102 N this a1 a2 x3_26 x4_34 h_34
      else
        (ss_gr h_34 this 12 9).bind fun r22 =>
        (mm_M_ownOf N this x4_34 h_34).bind fun v23 =>
        (ss_ai h_34 r22 20 ((14 : Int32) + v23)).bind fun v24 =>
        if v24 = 0 then
          mm_M_fillsPact_j102 N this a1 a2 x3_26 x4_34 h_34
        else
          (mm_M_ownOf N this x4_34 h_34).bind fun v26 =>
          ss_b2 (mm_M_takes N this x4_34 v26 h_34) fun v27 h28 =>
          (ss_gr h28 this 12 16).bind fun r29 =>
          (some (((4 : Int32) * a1) + x4_34)).bind fun v30 =>
          (ss_ai h28 r29 20 v30).bind fun v31 =>
          (ss_ui h28 r29 20 v30 (v31 - (1 : Int32))).bind fun h32 =>
          mm_M_fillsPact_j102 N this a1 a2 x3_26 x4_34 h32
def mm_M_fillsPact_b26 (N : Nat) (this : Option Nat) (a1 : Int32) (a2 : Int32) (st : Int32 × ss_Hp) : Option ((Int32 × ss_Hp) ⊕ ss_Hp) :=
  match st with
  | (x3_26, h_26) =>
    if a2 ≤ x3_26 then
      some (.inr h_26)
    else
      (ss_lp (mm_M_fillsPact_b34 N this a1 a2 x3_26) N ((0 : Int32), h_26)).bind fun h_34_108 =>
      ss_b2 (mm_M_snows N this h_34_108) fun v2 h3 =>
      (ss_lp (mm_M_fillsPact_b116 N this a1 a2 x3_26) N ((0 : Int32), h3)).bind fun h_116_165 =>
      (some (x3_26 + (1 : Int32))).bind fun v4 =>
      some (.inl (v4, h_116_165))
def mm_M_fillsPact_b2 (N : Nat) (this : Option Nat) (a1 : Int32) (a2 : Int32) (st : Int32 × ss_Hp) : Option ((Int32 × ss_Hp) ⊕ ss_Hp) :=
  match st with
  | (x3_2, h_2) =>
    if (4 : Int32) ≤ x3_2 then
      some (.inr h_2)
    else
      (ss_gr h_2 this 12 16).bind fun r34 =>
      (ss_ui h_2 r34 20 (((4 : Int32) * a1) + x3_2) (0 : Int32)).bind fun h35 =>
      (some (x3_2 + (1 : Int32))).bind fun v36 =>
      some (.inl (v36, h35))
def mm_M_fillsPact (N : Nat) (this : Option Nat) (a1 : Int32) (a2 : Int32) (h : ss_Hp) : Option ss_Hp :=
  if ss_is h this 12 = true then
    (ss_lp (mm_M_fillsPact_b2 N this a1 a2) N ((0 : Int32), h)).bind fun h_2_24 =>
    (ss_lp (mm_M_fillsPact_b26 N this a1 a2) N ((0 : Int32), h_2_24)).bind fun h_26_171 =>
    some h_26_171
  else none
abbrev ww_M_fillsPact (p : Program) (l : Launch) (e : Env) (s : State) (m : MethodId) (below : List Frame) (meth : Method) (c : Code) (G : ss_G) (this : Option Nat) (a1 : Int32) (a2 : Int32) (h : ss_Hp) (hh : ss_Hp) (H : Heap) (locs : List Loc) (k n : Nat) (g : JFrame) : Prop := W p l e (headSpec (ss_w yy_M_fillsPact bb_M_fillsPact 5 none) ({ frames := 2, cells := 0, slots := 0, locals := 45 })).room s m ([ss_v (ss_b G) this, .int a1, .int a2] : List Value).toArray below meth c H locs k n (MQ below (ss_Qc G none hh) ([ss_v (ss_b G) this, .int a1, .int a2] : List Value).toArray s 0 0 (ss_A G)) g
theorem ck_M_fillsPact {N : Nat} {this : Option Nat} {a1 : Int32} {a2 : Int32} {h : ss_Hp} {res : ss_Hp} (hm : mm_M_fillsPact N this a1 a2 h = some res) : ss_is h this 12 = true := (ss_chk hm).1
set_option maxHeartbeats 4000000 in
set_option maxRecDepth 100000 in
theorem cc_M_fillsPact (l : Launch) (G : ss_G) (N : Nat) (this : Option Nat) (a1 : Int32) (a2 : Int32) (h : ss_Hp) (hh : ss_Hp) (hm : mm_M_fillsPact N this a1 a2 h = some hh) : ss_Ct l G yy_M_fillsPact bb_M_fillsPact 5 none ({ frames := 2, cells := 0, slots := 0, locals := 45 }) [ss_v (ss_b G) this, .int a1, .int a2] h none hh := by
  obtain ⟨hck, hm⟩ := ss_chk hm
  refine Met.ofW (cc := bb_M_fillsPact) (maxL := 5) (ret := none) (by decide) rfl ?_
  intro p e s m args below meth c s₁ B hml hv
  obtain ⟨rfl, hR, hK⟩ := hv
  have hC : CallFix p m c bb_M_fillsPact 5 s _ lw_g sR_12 := ⟨B.exec, B.bytes, hml, findClass_of_methodNamed B.named, fun w hw => atoms_spec (ws := ss_w yy_M_fillsPact bb_M_fillsPact 5 none) B.pre w (List.mem_cons_of_mem _ hw)⟩
  have hx := hC.1
  have hb := hC.2.1
  have hr := B.returns
  have hlocks := B.notSynchronized
  have hS : va_S (ss_A G) s.heap s.heap [] := va_S.rf
  have hl := lv_entry ([ss_v (ss_b G) this, .int a1, .int a2]) (n := 5) (by simp [lg_sl, ss_v_cat, ss_cat_i, ss_cat_l, ss_cat_r])
  rw [lg_entry_eq]
  generalize (lg_sl ([ss_v (ss_b G) this, .int a1, .int a2]) ++ List.replicate (5 - (lg_sl ([ss_v (ss_b G) this, .int a1, .int a2])).length) Slot.unset).toArray = ls at hl ⊢
  have hl : lv_has ls 5 [(0, ss_v (ss_b G) this), (1, .int a1), (2, .int a2)] := by simpa [lv_args, ss_v_cat, ss_cat_i, ss_cat_l, ss_cat_r] using hl
  refine lv_iconst (v := 0) hx hb dd_M_fillsPact_0 (by decide) ?_
  refine lv_istore_n (lv' := [(3, .int (0 : Int32)), (0, ss_v (ss_b G) this), (1, .int a1), (2, .int a2)]) hx hb dd_M_fillsPact_1 rfl hl (by decide) rfl (fun ls hl => ?_)
  obtain ⟨e_2, he_2, hm⟩ := ss_bind hm
  have X_2_24 : ∀  (h_2_24 : ss_Hp) (H : Heap) (locs : List Loc) (ls : Array Slot), e_2 = h_2_24 → ss_R G h_2_24 H → va_S (ss_A G) s.heap H locs → lv_has ls 5 [(0, ss_v (ss_b G) this), (1, .int a1), (2, .int a2)] → ww_M_fillsPact p l e s m below meth c G this a1 a2 h hh  H locs 0 0 (F0 m 24 ls []) := by
    intro h_2_24 H locs ls hq hR hS hl
    rw [hq] at hm
    refine lv_iconst (v := 0) hx hb dd_M_fillsPact_24 (by decide) ?_
    refine lv_istore_n (lv' := [(3, .int (0 : Int32)), (0, ss_v (ss_b G) this), (1, .int a1), (2, .int a2)]) hx hb dd_M_fillsPact_25 rfl hl (by decide) rfl (fun ls hl => ?_)
    obtain ⟨e_26, he_26, hm⟩ := ss_bind hm
    have X_26_171 : ∀  (h_26_171 : ss_Hp) (H : Heap) (locs : List Loc) (ls : Array Slot), e_26 = h_26_171 → ss_R G h_26_171 H → va_S (ss_A G) s.heap H locs → lv_has ls 5 [] → ww_M_fillsPact p l e s m below meth c G this a1 a2 h hh  H locs 0 0 (F0 m 171 ls []) := by
      intro h_26_171 H locs ls hq hR hS hl
      rw [hq] at hm
      exact ss_vret hC hr hlocks hR hS hm dd_M_fillsPact_171
    have L_26 : ∀ (n : Nat) (x3_26 : Int32) (h_26 : ss_Hp) (H : Heap) (locs : List Loc) (ls : Array Slot), ss_lp (mm_M_fillsPact_b26 N this a1 a2) n (x3_26, h_26) = some e_26 → ss_R G h_26 H → va_S (ss_A G) s.heap H locs → lv_has ls 5 [(0, ss_v (ss_b G) this), (1, .int a1), (2, .int a2), (3, .int x3_26)] → ww_M_fillsPact p l e s m below meth c G this a1 a2 h hh  H locs 0 0 (F0 m 26 ls []) := by
      intro n
      induction n with
      | zero => intro x3_26 h_26 H locs ls hm; cases hm
      | succ n ih_26 =>
        intro x3_26 h_26 H locs ls hm hR hS hl
        obtain ⟨z_26, hm, hz1_26, hz2_26⟩ := ss_lps hm
        refine lv_iload_n hx hb dd_M_fillsPact_26 rfl (lv_at hl 3 rfl) ?_
        refine lv_iload_n hx hb dd_M_fillsPact_27 rfl (lv_at hl 2 rfl) ?_
        refine lv_icmp_ge (tgt := 171) hx hb dd_M_fillsPact_28 (by decide) (fun c1 => ?_) (fun c1 => ?_)
        · have hm := ss_ift hm c1
          exact X_26_171 h_26 _ _ _ (hz2_26 _ (ss_some hm)) hR hS (lv_sub hl [] rfl)
        · have hm := ss_iff hm c1
          refine lv_iconst (v := 0) hx hb dd_M_fillsPact_31 (by decide) ?_
          refine lv_istore (lv' := [(4, .int (0 : Int32)), (0, ss_v (ss_b G) this), (1, .int a1), (2, .int a2), (3, .int x3_26)]) hx hb dd_M_fillsPact_32 hl (by decide) rfl (fun ls hl => ?_)
          obtain ⟨e_34, he_34, hm⟩ := ss_bind hm
          have X_34_108 : ∀  (h_34_108 : ss_Hp) (H : Heap) (locs : List Loc) (ls : Array Slot), e_34 = h_34_108 → ss_R G h_34_108 H → va_S (ss_A G) s.heap H locs → lv_has ls 5 [(0, ss_v (ss_b G) this), (1, .int a1), (2, .int a2), (3, .int x3_26)] → ww_M_fillsPact p l e s m below meth c G this a1 a2 h hh  H locs 0 0 (F0 m 108 ls []) := by
            intro h_34_108 H locs ls hq hR hS hl
            rw [hq] at hm
            refine ss_aload_n hx hb dd_M_fillsPact_108 rfl (lv_at hl 0 rfl) ?_
            obtain ⟨v2, h3, qh3, hm⟩ := ss_bind2 hm
            refine ss_cV 0 0 (As := []) hC hK hR hS hl.1 (cc_M_snows l G N _ _ _ _ qh3) km_M_363 (ck_M_snows qh3) ⟨Nat.le_of_ble_eq_true rfl, Nat.le_of_ble_eq_true rfl⟩ ⟨Nat.le_of_ble_eq_true rfl, Nat.le_of_ble_eq_true rfl, Nat.le_of_ble_eq_true rfl, Nat.le_of_ble_eq_true rfl⟩ rfl rfl (Nat.le_of_ble_eq_true rfl) dd_M_fillsPact_109 (fun H locs hR hS => ?_)
            refine lv_pop hx hb dd_M_fillsPact_112 rfl ?_
            refine lv_iconst (v := 0) hx hb dd_M_fillsPact_113 (by decide) ?_
            refine lv_istore (lv' := [(4, .int (0 : Int32)), (0, ss_v (ss_b G) this), (1, .int a1), (2, .int a2), (3, .int x3_26)]) hx hb dd_M_fillsPact_114 hl (by decide) rfl (fun ls hl => ?_)
            obtain ⟨e_116, he_116, hm⟩ := ss_bind hm
            have X_116_165 : ∀  (h_116_165 : ss_Hp) (H : Heap) (locs : List Loc) (ls : Array Slot), e_116 = h_116_165 → ss_R G h_116_165 H → va_S (ss_A G) s.heap H locs → lv_has ls 5 [(0, ss_v (ss_b G) this), (1, .int a1), (2, .int a2), (3, .int x3_26)] → ww_M_fillsPact p l e s m below meth c G this a1 a2 h hh  H locs 0 0 (F0 m 165 ls []) := by
              intro h_116_165 H locs ls hq hR hS hl
              rw [hq] at hm
              obtain ⟨v4, qv4, hm⟩ := ss_bind hm
              refine lv_iinc (v := v4) (lv' := [(3, .int v4), (0, ss_v (ss_b G) this), (1, .int a1), (2, .int a2)]) hx hb dd_M_fillsPact_165 hl (k := 3) rfl (ss_inc (by decide) qv4) (by decide) rfl (fun ls hl => ?_)
              refine lv_goto (tgt := 26) hx hb dd_M_fillsPact_168 (by decide) ?_
              exact ih_26 v4 h_116_165 _ _ _ (hz1_26 _ (ss_some hm)) hR hS (lv_sub hl [1, 2, 3, 0] rfl)
            have L_116 : ∀ (n : Nat) (x4_116 : Int32) (h_116 : ss_Hp) (H : Heap) (locs : List Loc) (ls : Array Slot), ss_lp (mm_M_fillsPact_b116 N this a1 a2 x3_26) n (x4_116, h_116) = some e_116 → ss_R G h_116 H → va_S (ss_A G) s.heap H locs → lv_has ls 5 [(0, ss_v (ss_b G) this), (1, .int a1), (2, .int a2), (3, .int x3_26), (4, .int x4_116)] → ww_M_fillsPact p l e s m below meth c G this a1 a2 h hh  H locs 0 0 (F0 m 116 ls []) := by
              intro n
              induction n with
              | zero => intro x4_116 h_116 H locs ls hm; cases hm
              | succ n ih_116 =>
                intro x4_116 h_116 H locs ls hm hR hS hl
                obtain ⟨z_116, hm, hz1_116, hz2_116⟩ := ss_lps hm
                have J_157 : ∀ (x4_157 : Int32) (s0_157 : Option Nat) (s1_157 : Int32) (s2_157 : Int32) (s3_157 : Int32) (h_157 : ss_Hp) (H : Heap) (locs : List Loc) (ls : Array Slot), mm_M_fillsPact_j157 N this a1 a2 x3_26 x4_157 s0_157 s1_157 s2_157 s3_157 h_157 = some z_116 → ss_R G h_157 H → va_S (ss_A G) s.heap H locs → lv_has ls 5 [(0, ss_v (ss_b G) this), (1, .int a1), (2, .int a2), (3, .int x3_26), (4, .int x4_157)] → ww_M_fillsPact p l e s m below meth c G this a1 a2 h hh  H locs 0 0 (F0 m 157 ls [.int s3_157, .int s2_157, .int s1_157, ss_v (ss_b G) s0_157]) := by
                  intro x4_157 s0_157 s1_157 s2_157 s3_157 h_157 H locs ls hm hR hS hl
                  refine lv_iadd hx hb dd_M_fillsPact_157 ?_
                  obtain ⟨h5, qh5, hm⟩ := ss_bind hm
                  refine ss_iast hC hK hR hS qh5 dd_M_fillsPact_158 (fun H locs hR hS => ?_)
                  obtain ⟨v6, qv6, hm⟩ := ss_bind hm
                  refine lv_iinc (v := v6) (lv' := [(4, .int v6), (0, ss_v (ss_b G) this), (1, .int a1), (2, .int a2), (3, .int x3_26)]) hx hb dd_M_fillsPact_159 hl (k := 4) rfl (ss_inc (by decide) qv6) (by decide) rfl (fun ls hl => ?_)
                  refine lv_goto (tgt := 116) hx hb dd_M_fillsPact_162 (by decide) ?_
                  exact ih_116 v6 h5 _ _ _ (hz1_116 _ (ss_some hm)) hR hS (lv_sub hl [1, 2, 3, 4, 0] rfl)
                refine lv_iload hx hb dd_M_fillsPact_116 (lv_at hl 4 rfl) ?_
                refine ss_aload_n hx hb dd_M_fillsPact_118 rfl (lv_at hl 0 rfl) ?_
                obtain ⟨r7, qr7, hm⟩ := ss_bind hm
                refine ss_getr hC hK hR kf_M_39 rfl qr7 dd_M_fillsPact_119 ?_
                refine lv_iconst (v := 3) hx hb dd_M_fillsPact_122 (by decide) ?_
                obtain ⟨v8, qv8, hm⟩ := ss_bind hm
                refine ss_iald hC hK hR qv8 dd_M_fillsPact_123 ?_
                refine lv_icmp_ge (tgt := 165) hx hb dd_M_fillsPact_124 (by decide) (fun c9 => ?_) (fun c9 => ?_)
                · have hm := ss_ift hm c9
                  exact X_116_165 h_116 _ _ _ (hz2_116 _ (ss_some hm)) hR hS (lv_sub hl [0, 1, 2, 3] rfl)
                · have hm := ss_iff hm c9
                  refine ss_aload_n hx hb dd_M_fillsPact_127 rfl (lv_at hl 0 rfl) ?_
                  obtain ⟨r10, qr10, hm⟩ := ss_bind hm
                  refine ss_getr hC hK hR kf_M_64 rfl qr10 dd_M_fillsPact_128 ?_
                  refine lv_iconst (v := 4) hx hb dd_M_fillsPact_131 (by decide) ?_
                  refine lv_iload_n hx hb dd_M_fillsPact_132 rfl (lv_at hl 1 rfl) ?_
                  refine lv_imul hx hb dd_M_fillsPact_133 ?_
                  refine lv_iload hx hb dd_M_fillsPact_134 (lv_at hl 4 rfl) ?_
                  refine lv_iadd hx hb dd_M_fillsPact_136 ?_
                  obtain ⟨v11, qv11, hm⟩ := ss_bind hm
                  refine ss_topi qv11 ?_
                  refine ss_dup2ir hx hb dd_M_fillsPact_137 ?_
                  obtain ⟨v12, qv12, hm⟩ := ss_bind hm
                  refine ss_iald hC hK hR qv12 dd_M_fillsPact_138 ?_
                  refine ss_aload_n hx hb dd_M_fillsPact_139 rfl (lv_at hl 0 rfl) ?_
                  refine ss_aload_n hx hb dd_M_fillsPact_140 rfl (lv_at hl 0 rfl) ?_
                  refine lv_iload hx hb dd_M_fillsPact_141 (lv_at hl 4 rfl) ?_
                  obtain ⟨v13, qv13, hm⟩ := ss_bind hm
                  refine ss_cV 0 0 (As := [.int x4_116]) hC hK hR hS hl.1 (cc_M_ownOf l G N _ _ _ _ qv13) km_M_327 (ck_M_ownOf qv13) ⟨Nat.le_of_ble_eq_true rfl, Nat.le_of_ble_eq_true rfl⟩ ⟨Nat.le_of_ble_eq_true rfl, Nat.le_of_ble_eq_true rfl, Nat.le_of_ble_eq_true rfl, Nat.le_of_ble_eq_true rfl⟩ rfl rfl (by simp [ss_v_cat, ss_cat_i, ss_cat_l, ss_cat_r]) dd_M_fillsPact_143 (fun H locs hR hS => ?_)
                  obtain ⟨v14, qv14, hm⟩ := ss_bind hm
                  refine ss_cV 0 0 (As := [.int v13]) hC hK hR hS hl.1 (cc_M_isClosed l G N _ _ _ _ qv14) km_M_307 (ck_M_isClosed qv14) ⟨Nat.le_of_ble_eq_true rfl, Nat.le_of_ble_eq_true rfl⟩ ⟨Nat.le_of_ble_eq_true rfl, Nat.le_of_ble_eq_true rfl, Nat.le_of_ble_eq_true rfl, Nat.le_of_ble_eq_true rfl⟩ rfl rfl (by simp [ss_v_cat, ss_cat_i, ss_cat_l, ss_cat_r]) dd_M_fillsPact_146 (fun H locs hR hS => ?_)
                  refine lv_if_eq (tgt := 156) hx hb dd_M_fillsPact_149 (by decide) (fun c15 => ?_) (fun c15 => ?_)
                  · have hm := ss_ift hm c15
                    refine lv_iconst (v := 2) hx hb dd_M_fillsPact_156 (by decide) ?_
                    exact J_157 x4_116 r10 v11 v12 (2 : Int32) h_116 _ _ _ hm hR hS hl
                  · have hm := ss_iff hm c15
                    refine lv_iconst (v := 0) hx hb dd_M_fillsPact_152 (by decide) ?_
                    refine lv_goto (tgt := 157) hx hb dd_M_fillsPact_153 (by decide) ?_
                    exact J_157 x4_116 r10 v11 v12 (0 : Int32) h_116 _ _ _ hm hR hS hl
            exact L_116 N (0 : Int32) h3 _ _ _ he_116 hR hS (lv_sub hl [1, 2, 3, 4, 0] rfl)
          have L_34 : ∀ (n : Nat) (x4_34 : Int32) (h_34 : ss_Hp) (H : Heap) (locs : List Loc) (ls : Array Slot), ss_lp (mm_M_fillsPact_b34 N this a1 a2 x3_26) n (x4_34, h_34) = some e_34 → ss_R G h_34 H → va_S (ss_A G) s.heap H locs → lv_has ls 5 [(0, ss_v (ss_b G) this), (1, .int a1), (2, .int a2), (3, .int x3_26), (4, .int x4_34)] → ww_M_fillsPact p l e s m below meth c G this a1 a2 h hh  H locs 0 0 (F0 m 34 ls []) := by
            intro n
            induction n with
            | zero => intro x4_34 h_34 H locs ls hm; cases hm
            | succ n ih_34 =>
              intro x4_34 h_34 H locs ls hm hR hS hl
              obtain ⟨z_34, hm, hz1_34, hz2_34⟩ := ss_lps hm
              have J_102 : ∀ (x4_102 : Int32) (h_102 : ss_Hp) (H : Heap) (locs : List Loc) (ls : Array Slot), mm_M_fillsPact_j102 N this a1 a2 x3_26 x4_102 h_102 = some z_34 → ss_R G h_102 H → va_S (ss_A G) s.heap H locs → lv_has ls 5 [(0, ss_v (ss_b G) this), (1, .int a1), (2, .int a2), (3, .int x3_26), (4, .int x4_102)] → ww_M_fillsPact p l e s m below meth c G this a1 a2 h hh  H locs 0 0 (F0 m 102 ls []) := by
                intro x4_102 h_102 H locs ls hm hR hS hl
                obtain ⟨v16, qv16, hm⟩ := ss_bind hm
                refine lv_iinc (v := v16) (lv' := [(4, .int v16), (0, ss_v (ss_b G) this), (1, .int a1), (2, .int a2), (3, .int x3_26)]) hx hb dd_M_fillsPact_102 hl (k := 4) rfl (ss_inc (by decide) qv16) (by decide) rfl (fun ls hl => ?_)
                refine lv_goto (tgt := 34) hx hb dd_M_fillsPact_105 (by decide) ?_
                exact ih_34 v16 h_102 _ _ _ (hz1_34 _ (ss_some hm)) hR hS (lv_sub hl [1, 2, 3, 4, 0] rfl)
              refine lv_iload hx hb dd_M_fillsPact_34 (lv_at hl 4 rfl) ?_
              refine ss_aload_n hx hb dd_M_fillsPact_36 rfl (lv_at hl 0 rfl) ?_
              obtain ⟨r17, qr17, hm⟩ := ss_bind hm
              refine ss_getr hC hK hR kf_M_39 rfl qr17 dd_M_fillsPact_37 ?_
              refine lv_iconst (v := 3) hx hb dd_M_fillsPact_40 (by decide) ?_
              obtain ⟨v18, qv18, hm⟩ := ss_bind hm
              refine ss_iald hC hK hR qv18 dd_M_fillsPact_41 ?_
              refine lv_icmp_ge (tgt := 108) hx hb dd_M_fillsPact_42 (by decide) (fun c19 => ?_) (fun c19 => ?_)
              · have hm := ss_ift hm c19
                exact X_34_108 h_34 _ _ _ (hz2_34 _ (ss_some hm)) hR hS (lv_sub hl [0, 1, 2, 3] rfl)
              · have hm := ss_iff hm c19
                refine lv_iload_n hx hb dd_M_fillsPact_45 rfl (lv_at hl 1 rfl) ?_
                refine lv_iload hx hb dd_M_fillsPact_46 (lv_at hl 4 rfl) ?_
                obtain ⟨v20, qv20, hm⟩ := ss_bind hm
                refine ss_cS 0 0 (As := [.int a1, .int x4_34]) hC hK hR hS hl.1 (cc_M_isOf l G N _ _ _ _ qv20) km_M_316 ⟨Nat.le_of_ble_eq_true rfl, Nat.le_of_ble_eq_true rfl⟩ ⟨Nat.le_of_ble_eq_true rfl, Nat.le_of_ble_eq_true rfl, Nat.le_of_ble_eq_true rfl, Nat.le_of_ble_eq_true rfl⟩ rfl rfl (Nat.le_of_ble_eq_true rfl) dd_M_fillsPact_48 (fun H locs hR hS => ?_)
                refine lv_if_eq (tgt := 102) hx hb dd_M_fillsPact_51 (by decide) (fun c21 => ?_) (fun c21 => ?_)
                · have hm := ss_ift hm c21
                  exact J_102 x4_34 h_34 _ _ _ hm hR hS hl
                · have hm := ss_iff hm c21
                  refine ss_aload_n hx hb dd_M_fillsPact_54 rfl (lv_at hl 0 rfl) ?_
                  obtain ⟨r22, qr22, hm⟩ := ss_bind hm
                  refine ss_getr hC hK hR kf_M_39 rfl qr22 dd_M_fillsPact_55 ?_
                  refine lv_bipush (v := 14) hx hb dd_M_fillsPact_58 (by decide) ?_
                  refine ss_aload_n hx hb dd_M_fillsPact_60 rfl (lv_at hl 0 rfl) ?_
                  refine lv_iload hx hb dd_M_fillsPact_61 (lv_at hl 4 rfl) ?_
                  obtain ⟨v23, qv23, hm⟩ := ss_bind hm
                  refine ss_cV 0 0 (As := [.int x4_34]) hC hK hR hS hl.1 (cc_M_ownOf l G N _ _ _ _ qv23) km_M_327 (ck_M_ownOf qv23) ⟨Nat.le_of_ble_eq_true rfl, Nat.le_of_ble_eq_true rfl⟩ ⟨Nat.le_of_ble_eq_true rfl, Nat.le_of_ble_eq_true rfl, Nat.le_of_ble_eq_true rfl, Nat.le_of_ble_eq_true rfl⟩ rfl rfl (by simp [ss_v_cat, ss_cat_i, ss_cat_l, ss_cat_r]) dd_M_fillsPact_63 (fun H locs hR hS => ?_)
                  refine lv_iadd hx hb dd_M_fillsPact_66 ?_
                  obtain ⟨v24, qv24, hm⟩ := ss_bind hm
                  refine ss_iald hC hK hR qv24 dd_M_fillsPact_67 ?_
                  refine lv_if_ne (tgt := 74) hx hb dd_M_fillsPact_68 (by decide) (fun c25 => ?_) (fun c25 => ?_)
                  · have hm := ss_iff hm c25
                    refine ss_aload_n hx hb dd_M_fillsPact_74 rfl (lv_at hl 0 rfl) ?_
                    refine lv_iload hx hb dd_M_fillsPact_75 (lv_at hl 4 rfl) ?_
                    refine ss_aload_n hx hb dd_M_fillsPact_77 rfl (lv_at hl 0 rfl) ?_
                    refine lv_iload hx hb dd_M_fillsPact_78 (lv_at hl 4 rfl) ?_
                    obtain ⟨v26, qv26, hm⟩ := ss_bind hm
                    refine ss_cV 0 0 (As := [.int x4_34]) hC hK hR hS hl.1 (cc_M_ownOf l G N _ _ _ _ qv26) km_M_327 (ck_M_ownOf qv26) ⟨Nat.le_of_ble_eq_true rfl, Nat.le_of_ble_eq_true rfl⟩ ⟨Nat.le_of_ble_eq_true rfl, Nat.le_of_ble_eq_true rfl, Nat.le_of_ble_eq_true rfl, Nat.le_of_ble_eq_true rfl⟩ rfl rfl (by simp [ss_v_cat, ss_cat_i, ss_cat_l, ss_cat_r]) dd_M_fillsPact_80 (fun H locs hR hS => ?_)
                    obtain ⟨v27, h28, qh28, hm⟩ := ss_bind2 hm
                    refine ss_cV 0 0 (As := [.int x4_34, .int v26]) hC hK hR hS hl.1 (cc_M_takes l G N _ _ _ _ _ _ qh28) km_M_359 (ck_M_takes qh28) ⟨Nat.le_of_ble_eq_true rfl, Nat.le_of_ble_eq_true rfl⟩ ⟨Nat.le_of_ble_eq_true rfl, Nat.le_of_ble_eq_true rfl, Nat.le_of_ble_eq_true rfl, Nat.le_of_ble_eq_true rfl⟩ rfl rfl (Nat.le_of_ble_eq_true rfl) dd_M_fillsPact_83 (fun H locs hR hS => ?_)
                    refine lv_pop hx hb dd_M_fillsPact_86 rfl ?_
                    refine ss_aload_n hx hb dd_M_fillsPact_87 rfl (lv_at hl 0 rfl) ?_
                    obtain ⟨r29, qr29, hm⟩ := ss_bind hm
                    refine ss_getr hC hK hR kf_M_64 rfl qr29 dd_M_fillsPact_88 ?_
                    refine lv_iconst (v := 4) hx hb dd_M_fillsPact_91 (by decide) ?_
                    refine lv_iload_n hx hb dd_M_fillsPact_92 rfl (lv_at hl 1 rfl) ?_
                    refine lv_imul hx hb dd_M_fillsPact_93 ?_
                    refine lv_iload hx hb dd_M_fillsPact_94 (lv_at hl 4 rfl) ?_
                    refine lv_iadd hx hb dd_M_fillsPact_96 ?_
                    obtain ⟨v30, qv30, hm⟩ := ss_bind hm
                    refine ss_topi qv30 ?_
                    refine ss_dup2ir hx hb dd_M_fillsPact_97 ?_
                    obtain ⟨v31, qv31, hm⟩ := ss_bind hm
                    refine ss_iald hC hK hR qv31 dd_M_fillsPact_98 ?_
                    refine lv_iconst (v := 1) hx hb dd_M_fillsPact_99 (by decide) ?_
                    refine lv_isub hx hb dd_M_fillsPact_100 ?_
                    obtain ⟨h32, qh32, hm⟩ := ss_bind hm
                    refine ss_iast hC hK hR hS qh32 dd_M_fillsPact_101 (fun H locs hR hS => ?_)
                    exact J_102 x4_34 h32 _ _ _ hm hR hS hl
                  · have hm := ss_ift hm c25
                    refine lv_goto (tgt := 102) hx hb dd_M_fillsPact_71 (by decide) ?_
                    exact J_102 x4_34 h_34 _ _ _ hm hR hS hl
          exact L_34 N (0 : Int32) h_26 _ _ _ he_34 hR hS (lv_sub hl [1, 2, 3, 4, 0] rfl)
    exact L_26 N (0 : Int32) h_2_24 _ _ _ he_26 hR hS (lv_sub hl [1, 2, 3, 0] rfl)
  have L_2 : ∀ (n : Nat) (x3_2 : Int32) (h_2 : ss_Hp) (H : Heap) (locs : List Loc) (ls : Array Slot), ss_lp (mm_M_fillsPact_b2 N this a1 a2) n (x3_2, h_2) = some e_2 → ss_R G h_2 H → va_S (ss_A G) s.heap H locs → lv_has ls 5 [(0, ss_v (ss_b G) this), (1, .int a1), (2, .int a2), (3, .int x3_2)] → ww_M_fillsPact p l e s m below meth c G this a1 a2 h hh  H locs 0 0 (F0 m 2 ls []) := by
    intro n
    induction n with
    | zero => intro x3_2 h_2 H locs ls hm; cases hm
    | succ n ih_2 =>
      intro x3_2 h_2 H locs ls hm hR hS hl
      obtain ⟨z_2, hm, hz1_2, hz2_2⟩ := ss_lps hm
      refine lv_iload_n hx hb dd_M_fillsPact_2 rfl (lv_at hl 3 rfl) ?_
      refine lv_iconst (v := 4) hx hb dd_M_fillsPact_3 (by decide) ?_
      refine lv_icmp_ge (tgt := 24) hx hb dd_M_fillsPact_4 (by decide) (fun c33 => ?_) (fun c33 => ?_)
      · have hm := ss_ift hm c33
        exact X_2_24 h_2 _ _ _ (hz2_2 _ (ss_some hm)) hR hS (lv_sub hl [0, 1, 2] rfl)
      · have hm := ss_iff hm c33
        refine ss_aload_n hx hb dd_M_fillsPact_7 rfl (lv_at hl 0 rfl) ?_
        obtain ⟨r34, qr34, hm⟩ := ss_bind hm
        refine ss_getr hC hK hR kf_M_64 rfl qr34 dd_M_fillsPact_8 ?_
        refine lv_iconst (v := 4) hx hb dd_M_fillsPact_11 (by decide) ?_
        refine lv_iload_n hx hb dd_M_fillsPact_12 rfl (lv_at hl 1 rfl) ?_
        refine lv_imul hx hb dd_M_fillsPact_13 ?_
        refine lv_iload_n hx hb dd_M_fillsPact_14 rfl (lv_at hl 3 rfl) ?_
        refine lv_iadd hx hb dd_M_fillsPact_15 ?_
        refine lv_iconst (v := 0) hx hb dd_M_fillsPact_16 (by decide) ?_
        obtain ⟨h35, qh35, hm⟩ := ss_bind hm
        refine ss_iast hC hK hR hS qh35 dd_M_fillsPact_17 (fun H locs hR hS => ?_)
        obtain ⟨v36, qv36, hm⟩ := ss_bind hm
        refine lv_iinc (v := v36) (lv' := [(3, .int v36), (0, ss_v (ss_b G) this), (1, .int a1), (2, .int a2)]) hx hb dd_M_fillsPact_18 hl (k := 3) rfl (ss_inc (by decide) qv36) (by decide) rfl (fun ls hl => ?_)
        refine lv_goto (tgt := 2) hx hb dd_M_fillsPact_21 (by decide) ?_
        exact ih_2 v36 h35 _ _ _ (hz1_2 _ (ss_some hm)) hR hS (lv_sub hl [1, 2, 3, 0] rfl)
  exact L_2 N (0 : Int32) h _ _ _ he_2 hR hS (lv_sub hl [1, 2, 3, 0] rfl)
theorem dd_M_allBy_0 : decode bb_M_allBy 0 = .ok (.iconst 0, 1) := by decide +kernel
theorem dd_M_allBy_1 : decode bb_M_allBy 1 = .ok (.istore_n 2, 1) := by decide +kernel
theorem dd_M_allBy_2 : decode bb_M_allBy 2 = .ok (.iconst 0, 1) := by decide +kernel
theorem dd_M_allBy_3 : decode bb_M_allBy 3 = .ok (.istore_n 3, 1) := by decide +kernel
theorem dd_M_allBy_4 : decode bb_M_allBy 4 = .ok (.iload_n 3, 1) := by decide +kernel
theorem dd_M_allBy_5 : decode bb_M_allBy 5 = .ok (.aload_n 0, 1) := by decide +kernel
theorem dd_M_allBy_6 : decode bb_M_allBy 6 = .ok (.getfield 39, 3) := by decide +kernel
theorem dd_M_allBy_9 : decode bb_M_allBy 9 = .ok (.iconst 3, 1) := by decide +kernel
theorem dd_M_allBy_10 : decode bb_M_allBy 10 = .ok (.iaload, 1) := by decide +kernel
theorem dd_M_allBy_11 : decode bb_M_allBy 11 = .ok (.if_icmp .ge 22, 3) := by decide +kernel
theorem dd_M_allBy_14 : decode bb_M_allBy 14 = .ok (.iload_n 2, 1) := by decide +kernel
theorem dd_M_allBy_15 : decode bb_M_allBy 15 = .ok (.aload_n 0, 1) := by decide +kernel
theorem dd_M_allBy_16 : decode bb_M_allBy 16 = .ok (.getfield 64, 3) := by decide +kernel
theorem dd_M_allBy_19 : decode bb_M_allBy 19 = .ok (.iconst 4, 1) := by decide +kernel
theorem dd_M_allBy_20 : decode bb_M_allBy 20 = .ok (.iload_n 1, 1) := by decide +kernel
theorem dd_M_allBy_21 : decode bb_M_allBy 21 = .ok (.imul, 1) := by decide +kernel
theorem dd_M_allBy_22 : decode bb_M_allBy 22 = .ok (.iload_n 3, 1) := by decide +kernel
theorem dd_M_allBy_23 : decode bb_M_allBy 23 = .ok (.iadd, 1) := by decide +kernel
theorem dd_M_allBy_24 : decode bb_M_allBy 24 = .ok (.iaload, 1) := by decide +kernel
theorem dd_M_allBy_25 : decode bb_M_allBy 25 = .ok (.iadd, 1) := by decide +kernel
theorem dd_M_allBy_26 : decode bb_M_allBy 26 = .ok (.istore_n 2, 1) := by decide +kernel
theorem dd_M_allBy_27 : decode bb_M_allBy 27 = .ok (.iinc 3 1, 3) := by decide +kernel
theorem dd_M_allBy_30 : decode bb_M_allBy 30 = .ok (.goto (-26), 3) := by decide +kernel
theorem dd_M_allBy_33 : decode bb_M_allBy 33 = .ok (.iload_n 2, 1) := by decide +kernel
theorem dd_M_allBy_34 : decode bb_M_allBy 34 = .ok (.ireturn, 1) := by decide +kernel
def mm_M_allBy_b4 (N : Nat) (this : Option Nat) (a1 : Int32) (h : ss_Hp) (st : Int32 × Int32) : Option ((Int32 × Int32) ⊕ Int32) :=
  match st with
  | (x2_4, x3_4) =>
    (ss_gr h this 12 9).bind fun r1 =>
    (ss_ai h r1 20 (3 : Int32)).bind fun v2 =>
    if v2 ≤ x3_4 then
      some (.inr x2_4)
    else
      (ss_gr h this 12 16).bind fun r4 =>
      (ss_ai h r4 20 (((4 : Int32) * a1) + x3_4)).bind fun v5 =>
      (some (x2_4 + v5)).bind fun v6 =>
      (some (x3_4 + (1 : Int32))).bind fun v7 =>
      some (.inl (v6, v7))
def mm_M_allBy (N : Nat) (this : Option Nat) (a1 : Int32) (h : ss_Hp) : Option Int32 :=
  if ss_is h this 12 = true then
    (ss_lp (mm_M_allBy_b4 N this a1 h) N ((0 : Int32), (0 : Int32))).bind fun y2_4_33 =>
    some y2_4_33
  else none
abbrev ww_M_allBy (p : Program) (l : Launch) (e : Env) (s : State) (m : MethodId) (below : List Frame) (meth : Method) (c : Code) (G : ss_G) (this : Option Nat) (a1 : Int32) (h : ss_Hp) (rr : Int32) (H : Heap) (locs : List Loc) (k n : Nat) (g : JFrame) : Prop := W p l e (headSpec (ss_w yy_M_allBy bb_M_allBy 4 (some (.int))) ({ frames := 0, cells := 0, slots := 0, locals := 0 })).room s m ([ss_v (ss_b G) this, .int a1] : List Value).toArray below meth c H locs k n (MQ below (ss_Qc G (some (.int rr)) h) ([ss_v (ss_b G) this, .int a1] : List Value).toArray s 0 0 (ss_A G)) g
theorem ck_M_allBy {N : Nat} {this : Option Nat} {a1 : Int32} {h : ss_Hp} {res : Int32} (hm : mm_M_allBy N this a1 h = some res) : ss_is h this 12 = true := (ss_chk hm).1
set_option maxHeartbeats 4000000 in
set_option maxRecDepth 100000 in
theorem cc_M_allBy (l : Launch) (G : ss_G) (N : Nat) (this : Option Nat) (a1 : Int32) (h : ss_Hp) (rr : Int32) (hm : mm_M_allBy N this a1 h = some rr) : ss_Ct l G yy_M_allBy bb_M_allBy 4 (some (.int)) ({ frames := 0, cells := 0, slots := 0, locals := 0 }) [ss_v (ss_b G) this, .int a1] h (some (.int rr)) h := by
  obtain ⟨hck, hm⟩ := ss_chk hm
  refine Met.ofW (cc := bb_M_allBy) (maxL := 4) (ret := (some (.int))) (by decide) rfl ?_
  intro p e s m args below meth c s₁ B hml hv
  obtain ⟨rfl, hR, hK⟩ := hv
  have hC : CallFix p m c bb_M_allBy 4 s _ lw_g sR_12 := ⟨B.exec, B.bytes, hml, findClass_of_methodNamed B.named, fun w hw => atoms_spec (ws := ss_w yy_M_allBy bb_M_allBy 4 (some (.int))) B.pre w (List.mem_cons_of_mem _ hw)⟩
  have hx := hC.1
  have hb := hC.2.1
  have hr := B.returns
  have hlocks := B.notSynchronized
  have hS : va_S (ss_A G) s.heap s.heap [] := va_S.rf
  have hl := lv_entry ([ss_v (ss_b G) this, .int a1]) (n := 4) (by simp [lg_sl, ss_v_cat, ss_cat_i, ss_cat_l, ss_cat_r])
  rw [lg_entry_eq]
  generalize (lg_sl ([ss_v (ss_b G) this, .int a1]) ++ List.replicate (4 - (lg_sl ([ss_v (ss_b G) this, .int a1])).length) Slot.unset).toArray = ls at hl ⊢
  have hl : lv_has ls 4 [(0, ss_v (ss_b G) this), (1, .int a1)] := by simpa [lv_args, ss_v_cat, ss_cat_i, ss_cat_l, ss_cat_r] using hl
  refine lv_iconst (v := 0) hx hb dd_M_allBy_0 (by decide) ?_
  refine lv_istore_n (lv' := [(2, .int (0 : Int32)), (0, ss_v (ss_b G) this), (1, .int a1)]) hx hb dd_M_allBy_1 rfl hl (by decide) rfl (fun ls hl => ?_)
  refine lv_iconst (v := 0) hx hb dd_M_allBy_2 (by decide) ?_
  refine lv_istore_n (lv' := [(3, .int (0 : Int32)), (2, .int (0 : Int32)), (0, ss_v (ss_b G) this), (1, .int a1)]) hx hb dd_M_allBy_3 rfl hl (by decide) rfl (fun ls hl => ?_)
  obtain ⟨e_4, he_4, hm⟩ := ss_bind hm
  have X_4_33 : ∀ (y2_4_33 : Int32) (H : Heap) (locs : List Loc) (ls : Array Slot), e_4 = y2_4_33 → ss_R G h H → va_S (ss_A G) s.heap H locs → lv_has ls 4 [(2, .int y2_4_33)] → ww_M_allBy p l e s m below meth c G this a1 h rr  H locs 0 0 (F0 m 33 ls []) := by
    intro y2_4_33 H locs ls hq hR hS hl
    rw [hq] at hm
    refine lv_iload_n hx hb dd_M_allBy_33 rfl (lv_at hl 0 rfl) ?_
    exact ss_iret hC hr hlocks hR hS (ss_with _ hm) dd_M_allBy_34
  have L_4 : ∀ (n : Nat) (x2_4 : Int32) (x3_4 : Int32) (H : Heap) (locs : List Loc) (ls : Array Slot), ss_lp (mm_M_allBy_b4 N this a1 h) n (x2_4, x3_4) = some e_4 → ss_R G h H → va_S (ss_A G) s.heap H locs → lv_has ls 4 [(0, ss_v (ss_b G) this), (1, .int a1), (2, .int x2_4), (3, .int x3_4)] → ww_M_allBy p l e s m below meth c G this a1 h rr  H locs 0 0 (F0 m 4 ls []) := by
    intro n
    induction n with
    | zero => intro x2_4 x3_4 H locs ls hm; cases hm
    | succ n ih_4 =>
      intro x2_4 x3_4 H locs ls hm hR hS hl
      obtain ⟨z_4, hm, hz1_4, hz2_4⟩ := ss_lps hm
      refine lv_iload_n hx hb dd_M_allBy_4 rfl (lv_at hl 3 rfl) ?_
      refine ss_aload_n hx hb dd_M_allBy_5 rfl (lv_at hl 0 rfl) ?_
      obtain ⟨r1, qr1, hm⟩ := ss_bind hm
      refine ss_getr hC hK hR kf_M_39 rfl qr1 dd_M_allBy_6 ?_
      refine lv_iconst (v := 3) hx hb dd_M_allBy_9 (by decide) ?_
      obtain ⟨v2, qv2, hm⟩ := ss_bind hm
      refine ss_iald hC hK hR qv2 dd_M_allBy_10 ?_
      refine lv_icmp_ge (tgt := 33) hx hb dd_M_allBy_11 (by decide) (fun c3 => ?_) (fun c3 => ?_)
      · have hm := ss_ift hm c3
        exact X_4_33 x2_4  _ _ _ (hz2_4 _ (ss_some hm)) hR hS (lv_sub hl [2] rfl)
      · have hm := ss_iff hm c3
        refine lv_iload_n hx hb dd_M_allBy_14 rfl (lv_at hl 2 rfl) ?_
        refine ss_aload_n hx hb dd_M_allBy_15 rfl (lv_at hl 0 rfl) ?_
        obtain ⟨r4, qr4, hm⟩ := ss_bind hm
        refine ss_getr hC hK hR kf_M_64 rfl qr4 dd_M_allBy_16 ?_
        refine lv_iconst (v := 4) hx hb dd_M_allBy_19 (by decide) ?_
        refine lv_iload_n hx hb dd_M_allBy_20 rfl (lv_at hl 1 rfl) ?_
        refine lv_imul hx hb dd_M_allBy_21 ?_
        refine lv_iload_n hx hb dd_M_allBy_22 rfl (lv_at hl 3 rfl) ?_
        refine lv_iadd hx hb dd_M_allBy_23 ?_
        obtain ⟨v5, qv5, hm⟩ := ss_bind hm
        refine ss_iald hC hK hR qv5 dd_M_allBy_24 ?_
        refine lv_iadd hx hb dd_M_allBy_25 ?_
        obtain ⟨v6, qv6, hm⟩ := ss_bind hm
        refine ss_topi qv6 ?_
        refine lv_istore_n (lv' := [(2, .int v6), (0, ss_v (ss_b G) this), (1, .int a1), (3, .int x3_4)]) hx hb dd_M_allBy_26 rfl hl (by decide) rfl (fun ls hl => ?_)
        obtain ⟨v7, qv7, hm⟩ := ss_bind hm
        refine lv_iinc (v := v7) (lv' := [(3, .int v7), (2, .int v6), (0, ss_v (ss_b G) this), (1, .int a1)]) hx hb dd_M_allBy_27 hl (k := 3) rfl (ss_inc (by decide) qv7) (by decide) rfl (fun ls hl => ?_)
        refine lv_goto (tgt := 4) hx hb dd_M_allBy_30 (by decide) ?_
        exact ih_4 v6 v7  _ _ _ (hz1_4 _ (ss_some hm)) hR hS (lv_sub hl [2, 3, 1, 0] rfl)
  exact L_4 N (0 : Int32) (0 : Int32) _ _ _ he_4 hR hS (lv_sub hl [2, 3, 1, 0] rfl)
theorem dd_M_isPact_0 : decode bb_M_isPact 0 = .ok (.iconst 0, 1) := by decide +kernel
theorem dd_M_isPact_1 : decode bb_M_isPact 1 = .ok (.istore_n 2, 1) := by decide +kernel
theorem dd_M_isPact_2 : decode bb_M_isPact 2 = .ok (.iload_n 2, 1) := by decide +kernel
theorem dd_M_isPact_3 : decode bb_M_isPact 3 = .ok (.aload_n 0, 1) := by decide +kernel
theorem dd_M_isPact_4 : decode bb_M_isPact 4 = .ok (.getfield 39, 3) := by decide +kernel
theorem dd_M_isPact_7 : decode bb_M_isPact 7 = .ok (.iconst 3, 1) := by decide +kernel
theorem dd_M_isPact_8 : decode bb_M_isPact 8 = .ok (.iaload, 1) := by decide +kernel
theorem dd_M_isPact_9 : decode bb_M_isPact 9 = .ok (.if_icmp .ge 38, 3) := by decide +kernel
theorem dd_M_isPact_12 : decode bb_M_isPact 12 = .ok (.aload_n 0, 1) := by decide +kernel
theorem dd_M_isPact_13 : decode bb_M_isPact 13 = .ok (.getfield 64, 3) := by decide +kernel
theorem dd_M_isPact_16 : decode bb_M_isPact 16 = .ok (.iconst 4, 1) := by decide +kernel
theorem dd_M_isPact_17 : decode bb_M_isPact 17 = .ok (.iload_n 1, 1) := by decide +kernel
theorem dd_M_isPact_18 : decode bb_M_isPact 18 = .ok (.iconst 1, 1) := by decide +kernel
theorem dd_M_isPact_19 : decode bb_M_isPact 19 = .ok (.iload_n 2, 1) := by decide +kernel
theorem dd_M_isPact_20 : decode bb_M_isPact 20 = .ok (.ishl, 1) := by decide +kernel
theorem dd_M_isPact_21 : decode bb_M_isPact 21 = .ok (.ixor, 1) := by decide +kernel
theorem dd_M_isPact_22 : decode bb_M_isPact 22 = .ok (.imul, 1) := by decide +kernel
theorem dd_M_isPact_23 : decode bb_M_isPact 23 = .ok (.iload_n 2, 1) := by decide +kernel
theorem dd_M_isPact_24 : decode bb_M_isPact 24 = .ok (.iadd, 1) := by decide +kernel
theorem dd_M_isPact_25 : decode bb_M_isPact 25 = .ok (.iaload, 1) := by decide +kernel
theorem dd_M_isPact_26 : decode bb_M_isPact 26 = .ok (.aload_n 0, 1) := by decide +kernel
theorem dd_M_isPact_27 : decode bb_M_isPact 27 = .ok (.getfield 64, 3) := by decide +kernel
theorem dd_M_isPact_30 : decode bb_M_isPact 30 = .ok (.iconst 4, 1) := by decide +kernel
theorem dd_M_isPact_31 : decode bb_M_isPact 31 = .ok (.iload_n 1, 1) := by decide +kernel
theorem dd_M_isPact_32 : decode bb_M_isPact 32 = .ok (.imul, 1) := by decide +kernel
theorem dd_M_isPact_33 : decode bb_M_isPact 33 = .ok (.iload_n 2, 1) := by decide +kernel
theorem dd_M_isPact_34 : decode bb_M_isPact 34 = .ok (.iadd, 1) := by decide +kernel
theorem dd_M_isPact_35 : decode bb_M_isPact 35 = .ok (.iaload, 1) := by decide +kernel
theorem dd_M_isPact_36 : decode bb_M_isPact 36 = .ok (.if_icmp .le 5, 3) := by decide +kernel
theorem dd_M_isPact_39 : decode bb_M_isPact 39 = .ok (.iconst 0, 1) := by decide +kernel
theorem dd_M_isPact_40 : decode bb_M_isPact 40 = .ok (.ireturn, 1) := by decide +kernel
theorem dd_M_isPact_41 : decode bb_M_isPact 41 = .ok (.iinc 2 1, 3) := by decide +kernel
theorem dd_M_isPact_44 : decode bb_M_isPact 44 = .ok (.goto (-42), 3) := by decide +kernel
theorem dd_M_isPact_47 : decode bb_M_isPact 47 = .ok (.iconst 1, 1) := by decide +kernel
theorem dd_M_isPact_48 : decode bb_M_isPact 48 = .ok (.ireturn, 1) := by decide +kernel
def mm_M_isPact_b2 (N : Nat) (this : Option Nat) (a1 : Int32) (h : ss_Hp) (st : Int32) : Option (Int32 ⊕ (Unit ⊕ Unit)) :=
  match st with
  | x2_2 =>
    (ss_gr h this 12 9).bind fun r1 =>
    (ss_ai h r1 20 (3 : Int32)).bind fun v2 =>
    if v2 ≤ x2_2 then
      some (.inr (.inl ()))
    else
      (ss_gr h this 12 16).bind fun r4 =>
      (ss_ai h r4 20 (((4 : Int32) * (a1 ^^^ ((1 : Int32) <<< (x2_2 &&& 31)))) + x2_2)).bind fun v5 =>
      (ss_gr h this 12 16).bind fun r6 =>
      (ss_ai h r6 20 (((4 : Int32) * a1) + x2_2)).bind fun v7 =>
      if v5 ≤ v7 then
        (some (x2_2 + (1 : Int32))).bind fun v9 =>
        some (.inl v9)
      else
        some (.inr (.inr ()))
def mm_M_isPact (N : Nat) (this : Option Nat) (a1 : Int32) (h : ss_Hp) : Option Int32 :=
  if ss_is h this 12 = true then
    (ss_lp (mm_M_isPact_b2 N this a1 h) N (0 : Int32)).bind fun e_2 =>
    match e_2 with
    | (.inl ()) =>
      some (1 : Int32)
    | (.inr ()) =>
      some (0 : Int32)
  else none
abbrev ww_M_isPact (p : Program) (l : Launch) (e : Env) (s : State) (m : MethodId) (below : List Frame) (meth : Method) (c : Code) (G : ss_G) (this : Option Nat) (a1 : Int32) (h : ss_Hp) (rr : Int32) (H : Heap) (locs : List Loc) (k n : Nat) (g : JFrame) : Prop := W p l e (headSpec (ss_w yy_M_isPact bb_M_isPact 3 (some .boolean)) ({ frames := 0, cells := 0, slots := 0, locals := 0 })).room s m ([ss_v (ss_b G) this, .int a1] : List Value).toArray below meth c H locs k n (MQ below (ss_Qc G (some (.int rr)) h) ([ss_v (ss_b G) this, .int a1] : List Value).toArray s 0 0 (ss_A G)) g
theorem ck_M_isPact {N : Nat} {this : Option Nat} {a1 : Int32} {h : ss_Hp} {res : Int32} (hm : mm_M_isPact N this a1 h = some res) : ss_is h this 12 = true := (ss_chk hm).1
set_option maxHeartbeats 4000000 in
set_option maxRecDepth 100000 in
theorem cc_M_isPact (l : Launch) (G : ss_G) (N : Nat) (this : Option Nat) (a1 : Int32) (h : ss_Hp) (rr : Int32) (hm : mm_M_isPact N this a1 h = some rr) : ss_Ct l G yy_M_isPact bb_M_isPact 3 (some .boolean) ({ frames := 0, cells := 0, slots := 0, locals := 0 }) [ss_v (ss_b G) this, .int a1] h (some (.int rr)) h := by
  obtain ⟨hck, hm⟩ := ss_chk hm
  refine Met.ofW (cc := bb_M_isPact) (maxL := 3) (ret := (some .boolean)) (by decide) rfl ?_
  intro p e s m args below meth c s₁ B hml hv
  obtain ⟨rfl, hR, hK⟩ := hv
  have hC : CallFix p m c bb_M_isPact 3 s _ lw_g sR_12 := ⟨B.exec, B.bytes, hml, findClass_of_methodNamed B.named, fun w hw => atoms_spec (ws := ss_w yy_M_isPact bb_M_isPact 3 (some .boolean)) B.pre w (List.mem_cons_of_mem _ hw)⟩
  have hx := hC.1
  have hb := hC.2.1
  have hr := B.returns
  have hlocks := B.notSynchronized
  have hS : va_S (ss_A G) s.heap s.heap [] := va_S.rf
  have hl := lv_entry ([ss_v (ss_b G) this, .int a1]) (n := 3) (by simp [lg_sl, ss_v_cat, ss_cat_i, ss_cat_l, ss_cat_r])
  rw [lg_entry_eq]
  generalize (lg_sl ([ss_v (ss_b G) this, .int a1]) ++ List.replicate (3 - (lg_sl ([ss_v (ss_b G) this, .int a1])).length) Slot.unset).toArray = ls at hl ⊢
  have hl : lv_has ls 3 [(0, ss_v (ss_b G) this), (1, .int a1)] := by simpa [lv_args, ss_v_cat, ss_cat_i, ss_cat_l, ss_cat_r] using hl
  refine lv_iconst (v := 0) hx hb dd_M_isPact_0 (by decide) ?_
  refine lv_istore_n (lv' := [(2, .int (0 : Int32)), (0, ss_v (ss_b G) this), (1, .int a1)]) hx hb dd_M_isPact_1 rfl hl (by decide) rfl (fun ls hl => ?_)
  obtain ⟨e_2, he_2, hm⟩ := ss_bind hm
  have X_2_47 : ∀  (H : Heap) (locs : List Loc) (ls : Array Slot), e_2 = (.inl ()) → ss_R G h H → va_S (ss_A G) s.heap H locs → lv_has ls 3 [] → ww_M_isPact p l e s m below meth c G this a1 h rr  H locs 0 0 (F0 m 47 ls []) := by
    intro  H locs ls hq hR hS hl
    rw [hq] at hm
    refine lv_iconst (v := 1) hx hb dd_M_isPact_47 (by decide) ?_
    exact ss_zret hC hr (by decide) hlocks hR hS (ss_with _ hm) dd_M_isPact_48
  have X_2_39 : ∀  (H : Heap) (locs : List Loc) (ls : Array Slot), e_2 = (.inr ()) → ss_R G h H → va_S (ss_A G) s.heap H locs → lv_has ls 3 [] → ww_M_isPact p l e s m below meth c G this a1 h rr  H locs 0 0 (F0 m 39 ls []) := by
    intro  H locs ls hq hR hS hl
    rw [hq] at hm
    refine lv_iconst (v := 0) hx hb dd_M_isPact_39 (by decide) ?_
    exact ss_zret hC hr (by decide) hlocks hR hS (ss_with _ hm) dd_M_isPact_40
  have L_2 : ∀ (n : Nat) (x2_2 : Int32) (H : Heap) (locs : List Loc) (ls : Array Slot), ss_lp (mm_M_isPact_b2 N this a1 h) n x2_2 = some e_2 → ss_R G h H → va_S (ss_A G) s.heap H locs → lv_has ls 3 [(0, ss_v (ss_b G) this), (1, .int a1), (2, .int x2_2)] → ww_M_isPact p l e s m below meth c G this a1 h rr  H locs 0 0 (F0 m 2 ls []) := by
    intro n
    induction n with
    | zero => intro x2_2 H locs ls hm; cases hm
    | succ n ih_2 =>
      intro x2_2 H locs ls hm hR hS hl
      obtain ⟨z_2, hm, hz1_2, hz2_2⟩ := ss_lps hm
      refine lv_iload_n hx hb dd_M_isPact_2 rfl (lv_at hl 2 rfl) ?_
      refine ss_aload_n hx hb dd_M_isPact_3 rfl (lv_at hl 0 rfl) ?_
      obtain ⟨r1, qr1, hm⟩ := ss_bind hm
      refine ss_getr hC hK hR kf_M_39 rfl qr1 dd_M_isPact_4 ?_
      refine lv_iconst (v := 3) hx hb dd_M_isPact_7 (by decide) ?_
      obtain ⟨v2, qv2, hm⟩ := ss_bind hm
      refine ss_iald hC hK hR qv2 dd_M_isPact_8 ?_
      refine lv_icmp_ge (tgt := 47) hx hb dd_M_isPact_9 (by decide) (fun c3 => ?_) (fun c3 => ?_)
      · have hm := ss_ift hm c3
        exact X_2_47  _ _ _ (hz2_2 _ (ss_some hm)) hR hS (lv_sub hl [] rfl)
      · have hm := ss_iff hm c3
        refine ss_aload_n hx hb dd_M_isPact_12 rfl (lv_at hl 0 rfl) ?_
        obtain ⟨r4, qr4, hm⟩ := ss_bind hm
        refine ss_getr hC hK hR kf_M_64 rfl qr4 dd_M_isPact_13 ?_
        refine lv_iconst (v := 4) hx hb dd_M_isPact_16 (by decide) ?_
        refine lv_iload_n hx hb dd_M_isPact_17 rfl (lv_at hl 1 rfl) ?_
        refine lv_iconst (v := 1) hx hb dd_M_isPact_18 (by decide) ?_
        refine lv_iload_n hx hb dd_M_isPact_19 rfl (lv_at hl 2 rfl) ?_
        refine lv_ishl hx hb dd_M_isPact_20 ?_
        refine lv_ixor hx hb dd_M_isPact_21 ?_
        refine lv_imul hx hb dd_M_isPact_22 ?_
        refine lv_iload_n hx hb dd_M_isPact_23 rfl (lv_at hl 2 rfl) ?_
        refine lv_iadd hx hb dd_M_isPact_24 ?_
        obtain ⟨v5, qv5, hm⟩ := ss_bind hm
        refine ss_iald hC hK hR qv5 dd_M_isPact_25 ?_
        refine ss_aload_n hx hb dd_M_isPact_26 rfl (lv_at hl 0 rfl) ?_
        obtain ⟨r6, qr6, hm⟩ := ss_bind hm
        refine ss_getr hC hK hR kf_M_64 rfl qr6 dd_M_isPact_27 ?_
        refine lv_iconst (v := 4) hx hb dd_M_isPact_30 (by decide) ?_
        refine lv_iload_n hx hb dd_M_isPact_31 rfl (lv_at hl 1 rfl) ?_
        refine lv_imul hx hb dd_M_isPact_32 ?_
        refine lv_iload_n hx hb dd_M_isPact_33 rfl (lv_at hl 2 rfl) ?_
        refine lv_iadd hx hb dd_M_isPact_34 ?_
        obtain ⟨v7, qv7, hm⟩ := ss_bind hm
        refine ss_iald hC hK hR qv7 dd_M_isPact_35 ?_
        refine lv_icmp_le (tgt := 41) hx hb dd_M_isPact_36 (by decide) (fun c8 => ?_) (fun c8 => ?_)
        · have hm := ss_ift hm c8
          obtain ⟨v9, qv9, hm⟩ := ss_bind hm
          refine lv_iinc (v := v9) (lv' := [(2, .int v9), (0, ss_v (ss_b G) this), (1, .int a1)]) hx hb dd_M_isPact_41 hl (k := 2) rfl (ss_inc (by decide) qv9) (by decide) rfl (fun ls hl => ?_)
          refine lv_goto (tgt := 2) hx hb dd_M_isPact_44 (by decide) ?_
          exact ih_2 v9  _ _ _ (hz1_2 _ (ss_some hm)) hR hS (lv_sub hl [1, 2, 0] rfl)
        · have hm := ss_iff hm c8
          exact X_2_39  _ _ _ (hz2_2 _ (ss_some hm)) hR hS (lv_sub hl [] rfl)
  exact L_2 N (0 : Int32) _ _ _ he_2 hR hS (lv_sub hl [1, 2, 0] rfl)
theorem dd_M_pacts_0 : decode bb_M_pacts 0 = .ok (.aload_n 0, 1) := by decide +kernel
theorem dd_M_pacts_1 : decode bb_M_pacts 1 = .ok (.invokevirtual 366, 3) := by decide +kernel
theorem dd_M_pacts_4 : decode bb_M_pacts 4 = .ok (.ifCond .eq 27, 3) := by decide +kernel
theorem dd_M_pacts_7 : decode bb_M_pacts 7 = .ok (.iload_n 1, 1) := by decide +kernel
theorem dd_M_pacts_8 : decode bb_M_pacts 8 = .ok (.i2l, 1) := by decide +kernel
theorem dd_M_pacts_9 : decode bb_M_pacts 9 = .ok (.lconst 1, 1) := by decide +kernel
theorem dd_M_pacts_10 : decode bb_M_pacts 10 = .ok (.ldc2_w 413, 3) := by decide +kernel
theorem dd_M_pacts_13 : decode bb_M_pacts 13 = .ok (.invokestatic 124, 3) := by decide +kernel
theorem dd_M_pacts_16 : decode bb_M_pacts 16 = .ok (.ifCond .eq 15, 3) := by decide +kernel
theorem dd_M_pacts_19 : decode bb_M_pacts 19 = .ok (.iload_n 2, 1) := by decide +kernel
theorem dd_M_pacts_20 : decode bb_M_pacts 20 = .ok (.i2l, 1) := by decide +kernel
theorem dd_M_pacts_21 : decode bb_M_pacts 21 = .ok (.lconst 0, 1) := by decide +kernel
theorem dd_M_pacts_22 : decode bb_M_pacts 22 = .ok (.ldc2_w 325, 3) := by decide +kernel
theorem dd_M_pacts_25 : decode bb_M_pacts 25 = .ok (.invokestatic 124, 3) := by decide +kernel
theorem dd_M_pacts_28 : decode bb_M_pacts 28 = .ok (.ifCond .ne 5, 3) := by decide +kernel
theorem dd_M_pacts_31 : decode bb_M_pacts 31 = .ok (.iconst (-1), 1) := by decide +kernel
theorem dd_M_pacts_32 : decode bb_M_pacts 32 = .ok (.ireturn, 1) := by decide +kernel
theorem dd_M_pacts_33 : decode bb_M_pacts 33 = .ok (.iconst 1, 1) := by decide +kernel
theorem dd_M_pacts_34 : decode bb_M_pacts 34 = .ok (.aload_n 0, 1) := by decide +kernel
theorem dd_M_pacts_35 : decode bb_M_pacts 35 = .ok (.getfield 39, 3) := by decide +kernel
theorem dd_M_pacts_38 : decode bb_M_pacts 38 = .ok (.iconst 3, 1) := by decide +kernel
theorem dd_M_pacts_39 : decode bb_M_pacts 39 = .ok (.iaload, 1) := by decide +kernel
theorem dd_M_pacts_40 : decode bb_M_pacts 40 = .ok (.ishl, 1) := by decide +kernel
theorem dd_M_pacts_41 : decode bb_M_pacts 41 = .ok (.istore_n 3, 1) := by decide +kernel
theorem dd_M_pacts_42 : decode bb_M_pacts 42 = .ok (.aload_n 0, 1) := by decide +kernel
theorem dd_M_pacts_43 : decode bb_M_pacts 43 = .ok (.invokevirtual 385, 3) := by decide +kernel
theorem dd_M_pacts_46 : decode bb_M_pacts 46 = .ok (.iconst 0, 1) := by decide +kernel
theorem dd_M_pacts_47 : decode bb_M_pacts 47 = .ok (.istore 4, 2) := by decide +kernel
theorem dd_M_pacts_49 : decode bb_M_pacts 49 = .ok (.iload 4, 2) := by decide +kernel
theorem dd_M_pacts_51 : decode bb_M_pacts 51 = .ok (.iload_n 3, 1) := by decide +kernel
theorem dd_M_pacts_52 : decode bb_M_pacts 52 = .ok (.if_icmp .ge 20, 3) := by decide +kernel
theorem dd_M_pacts_55 : decode bb_M_pacts 55 = .ok (.aload_n 0, 1) := by decide +kernel
theorem dd_M_pacts_56 : decode bb_M_pacts 56 = .ok (.iload 4, 2) := by decide +kernel
theorem dd_M_pacts_58 : decode bb_M_pacts 58 = .ok (.iload_n 1, 1) := by decide +kernel
theorem dd_M_pacts_59 : decode bb_M_pacts 59 = .ok (.invokevirtual 415, 3) := by decide +kernel
theorem dd_M_pacts_62 : decode bb_M_pacts 62 = .ok (.aload_n 0, 1) := by decide +kernel
theorem dd_M_pacts_63 : decode bb_M_pacts 63 = .ok (.invokevirtual 388, 3) := by decide +kernel
theorem dd_M_pacts_66 : decode bb_M_pacts 66 = .ok (.iinc 4 1, 3) := by decide +kernel
theorem dd_M_pacts_69 : decode bb_M_pacts 69 = .ok (.goto (-20), 3) := by decide +kernel
theorem dd_M_pacts_72 : decode bb_M_pacts 72 = .ok (.iconst 0, 1) := by decide +kernel
theorem dd_M_pacts_73 : decode bb_M_pacts 73 = .ok (.istore 4, 2) := by decide +kernel
theorem dd_M_pacts_75 : decode bb_M_pacts 75 = .ok (.bipush (-2), 2) := by decide +kernel
theorem dd_M_pacts_77 : decode bb_M_pacts 77 = .ok (.istore 5, 2) := by decide +kernel
theorem dd_M_pacts_79 : decode bb_M_pacts 79 = .ok (.aload_n 0, 1) := by decide +kernel
theorem dd_M_pacts_80 : decode bb_M_pacts 80 = .ok (.iconst 0, 1) := by decide +kernel
theorem dd_M_pacts_81 : decode bb_M_pacts 81 = .ok (.invokevirtual 418, 3) := by decide +kernel
theorem dd_M_pacts_84 : decode bb_M_pacts 84 = .ok (.istore 6, 2) := by decide +kernel
theorem dd_M_pacts_86 : decode bb_M_pacts 86 = .ok (.aload_n 0, 1) := by decide +kernel
theorem dd_M_pacts_87 : decode bb_M_pacts 87 = .ok (.iconst 0, 1) := by decide +kernel
theorem dd_M_pacts_88 : decode bb_M_pacts 88 = .ok (.invokevirtual 418, 3) := by decide +kernel
theorem dd_M_pacts_91 : decode bb_M_pacts 91 = .ok (.istore 7, 2) := by decide +kernel
theorem dd_M_pacts_93 : decode bb_M_pacts 93 = .ok (.iload_n 3, 1) := by decide +kernel
theorem dd_M_pacts_94 : decode bb_M_pacts 94 = .ok (.iconst 1, 1) := by decide +kernel
theorem dd_M_pacts_95 : decode bb_M_pacts 95 = .ok (.isub, 1) := by decide +kernel
theorem dd_M_pacts_96 : decode bb_M_pacts 96 = .ok (.istore 8, 2) := by decide +kernel
theorem dd_M_pacts_98 : decode bb_M_pacts 98 = .ok (.iload 8, 2) := by decide +kernel
theorem dd_M_pacts_100 : decode bb_M_pacts 100 = .ok (.ifCond .lt 76, 3) := by decide +kernel
theorem dd_M_pacts_103 : decode bb_M_pacts 103 = .ok (.aload_n 0, 1) := by decide +kernel
theorem dd_M_pacts_104 : decode bb_M_pacts 104 = .ok (.iload 8, 2) := by decide +kernel
theorem dd_M_pacts_106 : decode bb_M_pacts 106 = .ok (.invokevirtual 418, 3) := by decide +kernel
theorem dd_M_pacts_109 : decode bb_M_pacts 109 = .ok (.iload 6, 2) := by decide +kernel
theorem dd_M_pacts_111 : decode bb_M_pacts 111 = .ok (.if_icmp .le 12, 3) := by decide +kernel
theorem dd_M_pacts_114 : decode bb_M_pacts 114 = .ok (.aload_n 0, 1) := by decide +kernel
theorem dd_M_pacts_115 : decode bb_M_pacts 115 = .ok (.iload 8, 2) := by decide +kernel
theorem dd_M_pacts_117 : decode bb_M_pacts 117 = .ok (.invokevirtual 418, 3) := by decide +kernel
theorem dd_M_pacts_120 : decode bb_M_pacts 120 = .ok (.goto 5, 3) := by decide +kernel
theorem dd_M_pacts_123 : decode bb_M_pacts 123 = .ok (.iload 6, 2) := by decide +kernel
theorem dd_M_pacts_125 : decode bb_M_pacts 125 = .ok (.istore 6, 2) := by decide +kernel
theorem dd_M_pacts_127 : decode bb_M_pacts 127 = .ok (.aload_n 0, 1) := by decide +kernel
theorem dd_M_pacts_128 : decode bb_M_pacts 128 = .ok (.iload 8, 2) := by decide +kernel
theorem dd_M_pacts_130 : decode bb_M_pacts 130 = .ok (.invokevirtual 418, 3) := by decide +kernel
theorem dd_M_pacts_133 : decode bb_M_pacts 133 = .ok (.iload 7, 2) := by decide +kernel
theorem dd_M_pacts_135 : decode bb_M_pacts 135 = .ok (.if_icmp .ge 12, 3) := by decide +kernel
theorem dd_M_pacts_138 : decode bb_M_pacts 138 = .ok (.aload_n 0, 1) := by decide +kernel
theorem dd_M_pacts_139 : decode bb_M_pacts 139 = .ok (.iload 8, 2) := by decide +kernel
theorem dd_M_pacts_141 : decode bb_M_pacts 141 = .ok (.invokevirtual 418, 3) := by decide +kernel
theorem dd_M_pacts_144 : decode bb_M_pacts 144 = .ok (.goto 5, 3) := by decide +kernel
theorem dd_M_pacts_147 : decode bb_M_pacts 147 = .ok (.iload 7, 2) := by decide +kernel
theorem dd_M_pacts_149 : decode bb_M_pacts 149 = .ok (.istore 7, 2) := by decide +kernel
theorem dd_M_pacts_151 : decode bb_M_pacts 151 = .ok (.aload_n 0, 1) := by decide +kernel
theorem dd_M_pacts_152 : decode bb_M_pacts 152 = .ok (.iload 8, 2) := by decide +kernel
theorem dd_M_pacts_154 : decode bb_M_pacts 154 = .ok (.invokevirtual 421, 3) := by decide +kernel
theorem dd_M_pacts_157 : decode bb_M_pacts 157 = .ok (.ifCond .ne 6, 3) := by decide +kernel
theorem dd_M_pacts_160 : decode bb_M_pacts 160 = .ok (.goto 10, 3) := by decide +kernel
theorem dd_M_pacts_163 : decode bb_M_pacts 163 = .ok (.iload 8, 2) := by decide +kernel
theorem dd_M_pacts_165 : decode bb_M_pacts 165 = .ok (.istore 5, 2) := by decide +kernel
theorem dd_M_pacts_167 : decode bb_M_pacts 167 = .ok (.iinc 4 1, 3) := by decide +kernel
theorem dd_M_pacts_170 : decode bb_M_pacts 170 = .ok (.iinc 8 (-1), 3) := by decide +kernel
theorem dd_M_pacts_173 : decode bb_M_pacts 173 = .ok (.goto (-75), 3) := by decide +kernel
theorem dd_M_pacts_176 : decode bb_M_pacts 176 = .ok (.iload_n 2, 1) := by decide +kernel
theorem dd_M_pacts_177 : decode bb_M_pacts 177 = .ok (.ifCond .ne 8, 3) := by decide +kernel
theorem dd_M_pacts_180 : decode bb_M_pacts 180 = .ok (.iload 4, 2) := by decide +kernel
theorem dd_M_pacts_182 : decode bb_M_pacts 182 = .ok (.goto 18, 3) := by decide +kernel
theorem dd_M_pacts_185 : decode bb_M_pacts 185 = .ok (.iload_n 2, 1) := by decide +kernel
theorem dd_M_pacts_186 : decode bb_M_pacts 186 = .ok (.iconst 1, 1) := by decide +kernel
theorem dd_M_pacts_187 : decode bb_M_pacts 187 = .ok (.if_icmp .ne 8, 3) := by decide +kernel
theorem dd_M_pacts_190 : decode bb_M_pacts 190 = .ok (.iload 5, 2) := by decide +kernel
theorem dd_M_pacts_192 : decode bb_M_pacts 192 = .ok (.goto 8, 3) := by decide +kernel
theorem dd_M_pacts_195 : decode bb_M_pacts 195 = .ok (.iload 6, 2) := by decide +kernel
theorem dd_M_pacts_197 : decode bb_M_pacts 197 = .ok (.iload 7, 2) := by decide +kernel
theorem dd_M_pacts_199 : decode bb_M_pacts 199 = .ok (.isub, 1) := by decide +kernel
theorem dd_M_pacts_200 : decode bb_M_pacts 200 = .ok (.ireturn, 1) := by decide +kernel
def mm_M_pacts_j31 (N : Nat) (this : Option Nat) (a1 : Int32) (a2 : Int32) (h_31 : ss_Hp) : Option (Int32 × ss_Hp) :=
  some ((-1 : Int32), h_31)
def mm_M_pacts_j200 (N : Nat) (this : Option Nat) (a1 : Int32) (a2 : Int32) (s0_200 : Int32) (h_200 : ss_Hp) : Option (Int32 × ss_Hp) :=
  some (s0_200, h_200)
def mm_M_pacts_j170 (N : Nat) (this : Option Nat) (a2 : Int32) (h_49_72 : ss_Hp) (x4_170 : Int32) (x5_170 : Int32) (x6_170 : Int32) (x7_170 : Int32) (x8_170 : Int32) : Option ((Int32 × Int32 × Int32 × Int32 × Int32) ⊕ (Int32 × Int32 × Int32 × Int32)) :=
  (some (x8_170 + (-1 : Int32))).bind fun v16 =>
  some (.inl (x4_170, x5_170, x6_170, x7_170, v16))
def mm_M_pacts_j149 (N : Nat) (this : Option Nat) (a2 : Int32) (h_49_72 : ss_Hp) (x4_149 : Int32) (x5_149 : Int32) (x6_149 : Int32) (x8_149 : Int32) (s0_149 : Int32) : Option ((Int32 × Int32 × Int32 × Int32 × Int32) ⊕ (Int32 × Int32 × Int32 × Int32)) :=
  (mm_M_isPact N this x8_149 h_49_72).bind fun v17 =>
  if v17 = 0 then
    mm_M_pacts_j170 N this a2 h_49_72 x4_149 x5_149 x6_149 s0_149 x8_149
  else
    (some (x4_149 + (1 : Int32))).bind fun v19 =>
    mm_M_pacts_j170 N this a2 h_49_72 v19 x8_149 x6_149 s0_149 x8_149
def mm_M_pacts_j125 (N : Nat) (this : Option Nat) (a2 : Int32) (h_49_72 : ss_Hp) (x4_125 : Int32) (x5_125 : Int32) (x7_125 : Int32) (x8_125 : Int32) (s0_125 : Int32) : Option ((Int32 × Int32 × Int32 × Int32 × Int32) ⊕ (Int32 × Int32 × Int32 × Int32)) :=
  (mm_M_allBy N this x8_125 h_49_72).bind fun v20 =>
  if x7_125 ≤ v20 then
    mm_M_pacts_j149 N this a2 h_49_72 x4_125 x5_125 s0_125 x8_125 x7_125
  else
    (mm_M_allBy N this x8_125 h_49_72).bind fun v22 =>
    mm_M_pacts_j149 N this a2 h_49_72 x4_125 x5_125 s0_125 x8_125 v22
def mm_M_pacts_b98 (N : Nat) (this : Option Nat) (a2 : Int32) (h_49_72 : ss_Hp) (st : Int32 × Int32 × Int32 × Int32 × Int32) : Option ((Int32 × Int32 × Int32 × Int32 × Int32) ⊕ (Int32 × Int32 × Int32 × Int32)) :=
  match st with
  | (x4_98, x5_98, x6_98, x7_98, x8_98) =>
    if x8_98 < 0 then
      some (.inr (x4_98, x5_98, x6_98, x7_98))
    else
      (mm_M_allBy N this x8_98 h_49_72).bind fun v24 =>
      if v24 ≤ x6_98 then
        mm_M_pacts_j125 N this a2 h_49_72 x4_98 x5_98 x7_98 x8_98 x6_98
      else
        (mm_M_allBy N this x8_98 h_49_72).bind fun v26 =>
        mm_M_pacts_j125 N this a2 h_49_72 x4_98 x5_98 x7_98 x8_98 v26
def mm_M_pacts_b49 (N : Nat) (this : Option Nat) (a1 : Int32) (a2 : Int32) (v9 : Int32) (st : Int32 × ss_Hp) : Option ((Int32 × ss_Hp) ⊕ ss_Hp) :=
  match st with
  | (x4_49, h_49) =>
    if v9 ≤ x4_49 then
      some (.inr h_49)
    else
      (mm_M_fillsPact N this x4_49 a1 h_49).bind fun h28 =>
      (mm_M_laysBack N this h28).bind fun h29 =>
      (some (x4_49 + (1 : Int32))).bind fun v30 =>
      some (.inl (v30, h29))
def mm_M_pacts (N : Nat) (this : Option Nat) (a1 : Int32) (a2 : Int32) (h : ss_Hp) : Option (Int32 × ss_Hp) :=
  if ss_is h this 12 = true then
    (mm_M_isValley N this h).bind fun v1 =>
    if v1 = 0 then
      mm_M_pacts_j31 N this a1 a2 h
    else
      (mm_M_in N ((a1).toInt64) (1 : Int64) (30 : Int64)).bind fun v3 =>
      if v3 = 0 then
        mm_M_pacts_j31 N this a1 a2 h
      else
        (mm_M_in N ((a2).toInt64) (0 : Int64) (2 : Int64)).bind fun v5 =>
        if v5 = 0 then
          mm_M_pacts_j31 N this a1 a2 h
        else
          (ss_gr h this 12 9).bind fun r7 =>
          (ss_ai h r7 20 (3 : Int32)).bind fun v8 =>
          (some ((1 : Int32) <<< (v8 &&& 31))).bind fun v9 =>
          (mm_M_keeps N this h).bind fun h10 =>
          (ss_lp (mm_M_pacts_b49 N this a1 a2 v9) N ((0 : Int32), h10)).bind fun h_49_72 =>
          (mm_M_allBy N this (0 : Int32) h_49_72).bind fun v11 =>
          (mm_M_allBy N this (0 : Int32) h_49_72).bind fun v12 =>
          (some (v9 - (1 : Int32))).bind fun v13 =>
          (ss_lp (mm_M_pacts_b98 N this a2 h_49_72) N ((0 : Int32), (-2 : Int32), v11, v12, v13)).bind fun e_98 =>
          match e_98 with
          | (y4_98_176, y5_98_176, y6_98_176, y7_98_176) =>
            if a2 = 0 then
              mm_M_pacts_j200 N this a1 a2 y4_98_176 h_49_72
            else
              if a2 = (1 : Int32) then
                mm_M_pacts_j200 N this a1 a2 y5_98_176 h_49_72
              else
                mm_M_pacts_j200 N this a1 a2 (y6_98_176 - y7_98_176) h_49_72
  else none
abbrev ww_M_pacts (p : Program) (l : Launch) (e : Env) (s : State) (m : MethodId) (below : List Frame) (meth : Method) (c : Code) (G : ss_G) (this : Option Nat) (a1 : Int32) (a2 : Int32) (h : ss_Hp) (rr : Int32) (hh : ss_Hp) (H : Heap) (locs : List Loc) (k n : Nat) (g : JFrame) : Prop := W p l e (headSpec (ss_w yy_M_pacts bb_M_pacts 9 (some (.int))) ({ frames := 3, cells := 0, slots := 0, locals := 69 })).room s m ([ss_v (ss_b G) this, .int a1, .int a2] : List Value).toArray below meth c H locs k n (MQ below (ss_Qc G (some (.int rr)) hh) ([ss_v (ss_b G) this, .int a1, .int a2] : List Value).toArray s 0 0 (ss_A G)) g
theorem ck_M_pacts {N : Nat} {this : Option Nat} {a1 : Int32} {a2 : Int32} {h : ss_Hp} {res : Int32 × ss_Hp} (hm : mm_M_pacts N this a1 a2 h = some res) : ss_is h this 12 = true := (ss_chk hm).1
set_option maxHeartbeats 4000000 in
set_option maxRecDepth 100000 in
theorem cc_M_pacts (l : Launch) (G : ss_G) (N : Nat) (this : Option Nat) (a1 : Int32) (a2 : Int32) (h : ss_Hp) (rr : Int32) (hh : ss_Hp) (hm : mm_M_pacts N this a1 a2 h = some (rr, hh)) : ss_Ct l G yy_M_pacts bb_M_pacts 9 (some (.int)) ({ frames := 3, cells := 0, slots := 0, locals := 69 }) [ss_v (ss_b G) this, .int a1, .int a2] h (some (.int rr)) hh := by
  obtain ⟨hck, hm⟩ := ss_chk hm
  refine Met.ofW (cc := bb_M_pacts) (maxL := 9) (ret := (some (.int))) (by decide) rfl ?_
  intro p e s m args below meth c s₁ B hml hv
  obtain ⟨rfl, hR, hK⟩ := hv
  have hC : CallFix p m c bb_M_pacts 9 s _ lw_g sR_12 := ⟨B.exec, B.bytes, hml, findClass_of_methodNamed B.named, fun w hw => atoms_spec (ws := ss_w yy_M_pacts bb_M_pacts 9 (some (.int))) B.pre w (List.mem_cons_of_mem _ hw)⟩
  have hx := hC.1
  have hb := hC.2.1
  have hr := B.returns
  have hlocks := B.notSynchronized
  have hS : va_S (ss_A G) s.heap s.heap [] := va_S.rf
  have hl := lv_entry ([ss_v (ss_b G) this, .int a1, .int a2]) (n := 9) (by simp [lg_sl, ss_v_cat, ss_cat_i, ss_cat_l, ss_cat_r])
  rw [lg_entry_eq]
  generalize (lg_sl ([ss_v (ss_b G) this, .int a1, .int a2]) ++ List.replicate (9 - (lg_sl ([ss_v (ss_b G) this, .int a1, .int a2])).length) Slot.unset).toArray = ls at hl ⊢
  have hl : lv_has ls 9 [(0, ss_v (ss_b G) this), (1, .int a1), (2, .int a2)] := by simpa [lv_args, ss_v_cat, ss_cat_i, ss_cat_l, ss_cat_r] using hl
  have J_31 : ∀ (h_31 : ss_Hp) (H : Heap) (locs : List Loc) (ls : Array Slot), mm_M_pacts_j31 N this a1 a2 h_31 = some (rr, hh) → ss_R G h_31 H → va_S (ss_A G) s.heap H locs → lv_has ls 9 [] → ww_M_pacts p l e s m below meth c G this a1 a2 h rr hh  H locs 0 0 (F0 m 31 ls []) := by
    intro h_31 H locs ls hm hR hS hl
    refine lv_iconst (v := -1) hx hb dd_M_pacts_31 (by decide) ?_
    exact ss_iret hC hr hlocks hR hS hm dd_M_pacts_32
  have J_200 : ∀ (s0_200 : Int32) (h_200 : ss_Hp) (H : Heap) (locs : List Loc) (ls : Array Slot), mm_M_pacts_j200 N this a1 a2 s0_200 h_200 = some (rr, hh) → ss_R G h_200 H → va_S (ss_A G) s.heap H locs → lv_has ls 9 [] → ww_M_pacts p l e s m below meth c G this a1 a2 h rr hh  H locs 0 0 (F0 m 200 ls [.int s0_200]) := by
    intro s0_200 h_200 H locs ls hm hR hS hl
    exact ss_iret hC hr hlocks hR hS hm dd_M_pacts_200
  refine ss_aload_n hx hb dd_M_pacts_0 rfl (lv_at hl 0 rfl) ?_
  obtain ⟨v1, qv1, hm⟩ := ss_bind hm
  refine ss_cV 0 0 (As := []) hC hK hR hS hl.1 (cc_M_isValley l G N _ _ _ qv1) km_M_366 (ck_M_isValley qv1) ⟨Nat.le_of_ble_eq_true rfl, Nat.le_of_ble_eq_true rfl⟩ ⟨Nat.le_of_ble_eq_true rfl, Nat.le_of_ble_eq_true rfl, Nat.le_of_ble_eq_true rfl, Nat.le_of_ble_eq_true rfl⟩ rfl rfl (Nat.le_of_ble_eq_true rfl) dd_M_pacts_1 (fun H locs hR hS => ?_)
  refine lv_if_eq (tgt := 31) hx hb dd_M_pacts_4 (by decide) (fun c2 => ?_) (fun c2 => ?_)
  · have hm := ss_ift hm c2
    exact J_31 h _ _ _ hm hR hS (lv_sub hl [] rfl)
  · have hm := ss_iff hm c2
    refine lv_iload_n hx hb dd_M_pacts_7 rfl (lv_at hl 1 rfl) ?_
    refine lv_i2l hx hb dd_M_pacts_8 rfl ?_
    refine lv_lconst (v := 1) hx hb dd_M_pacts_9 (by decide) ?_
    refine lv_ldc2 (v := 30) hx hb hC.2.2.2.1 (hC.2.2.2.2 _ kl_M_413) dd_M_pacts_10 ?_
    obtain ⟨v3, qv3, hm⟩ := ss_bind hm
    refine ss_cS 0 0 (As := [.long ((a1).toInt64), .long (1 : Int64), .long (30 : Int64)]) hC hK hR hS hl.1 (cc_M_in l G N _ _ _ _ _ qv3) km_M_124 ⟨Nat.le_of_ble_eq_true rfl, Nat.le_of_ble_eq_true rfl⟩ ⟨Nat.le_of_ble_eq_true rfl, Nat.le_of_ble_eq_true rfl, Nat.le_of_ble_eq_true rfl, Nat.le_of_ble_eq_true rfl⟩ rfl rfl (Nat.le_of_ble_eq_true rfl) dd_M_pacts_13 (fun H locs hR hS => ?_)
    refine lv_if_eq (tgt := 31) hx hb dd_M_pacts_16 (by decide) (fun c4 => ?_) (fun c4 => ?_)
    · have hm := ss_ift hm c4
      exact J_31 h _ _ _ hm hR hS (lv_sub hl [] rfl)
    · have hm := ss_iff hm c4
      refine lv_iload_n hx hb dd_M_pacts_19 rfl (lv_at hl 2 rfl) ?_
      refine lv_i2l hx hb dd_M_pacts_20 rfl ?_
      refine lv_lconst (v := 0) hx hb dd_M_pacts_21 (by decide) ?_
      refine lv_ldc2 (v := 2) hx hb hC.2.2.2.1 (hC.2.2.2.2 _ kl_M_325) dd_M_pacts_22 ?_
      obtain ⟨v5, qv5, hm⟩ := ss_bind hm
      refine ss_cS 0 0 (As := [.long ((a2).toInt64), .long (0 : Int64), .long (2 : Int64)]) hC hK hR hS hl.1 (cc_M_in l G N _ _ _ _ _ qv5) km_M_124 ⟨Nat.le_of_ble_eq_true rfl, Nat.le_of_ble_eq_true rfl⟩ ⟨Nat.le_of_ble_eq_true rfl, Nat.le_of_ble_eq_true rfl, Nat.le_of_ble_eq_true rfl, Nat.le_of_ble_eq_true rfl⟩ rfl rfl (Nat.le_of_ble_eq_true rfl) dd_M_pacts_25 (fun H locs hR hS => ?_)
      refine lv_if_ne (tgt := 33) hx hb dd_M_pacts_28 (by decide) (fun c6 => ?_) (fun c6 => ?_)
      · have hm := ss_iff hm c6
        refine lv_iconst (v := 1) hx hb dd_M_pacts_33 (by decide) ?_
        refine ss_aload_n hx hb dd_M_pacts_34 rfl (lv_at hl 0 rfl) ?_
        obtain ⟨r7, qr7, hm⟩ := ss_bind hm
        refine ss_getr hC hK hR kf_M_39 rfl qr7 dd_M_pacts_35 ?_
        refine lv_iconst (v := 3) hx hb dd_M_pacts_38 (by decide) ?_
        obtain ⟨v8, qv8, hm⟩ := ss_bind hm
        refine ss_iald hC hK hR qv8 dd_M_pacts_39 ?_
        refine lv_ishl hx hb dd_M_pacts_40 ?_
        obtain ⟨v9, qv9, hm⟩ := ss_bind hm
        refine ss_topi qv9 ?_
        refine lv_istore_n (lv' := [(3, .int v9), (0, ss_v (ss_b G) this), (1, .int a1), (2, .int a2)]) hx hb dd_M_pacts_41 rfl hl (by decide) rfl (fun ls hl => ?_)
        refine ss_aload_n hx hb dd_M_pacts_42 rfl (lv_at hl 1 rfl) ?_
        obtain ⟨h10, qh10, hm⟩ := ss_bind hm
        refine ss_cVv 0 0 (As := []) hC hK hR hS hl.1 (cc_M_keeps l G N _ _ _ qh10) km_M_385 (ck_M_keeps qh10) ⟨Nat.le_of_ble_eq_true rfl, Nat.le_of_ble_eq_true rfl⟩ ⟨Nat.le_of_ble_eq_true rfl, Nat.le_of_ble_eq_true rfl, Nat.le_of_ble_eq_true rfl, Nat.le_of_ble_eq_true rfl⟩ rfl rfl (Nat.le_of_ble_eq_true rfl) dd_M_pacts_43 (fun H locs hR hS => ?_)
        refine lv_iconst (v := 0) hx hb dd_M_pacts_46 (by decide) ?_
        refine lv_istore (lv' := [(4, .int (0 : Int32)), (3, .int v9), (0, ss_v (ss_b G) this), (1, .int a1), (2, .int a2)]) hx hb dd_M_pacts_47 hl (by decide) rfl (fun ls hl => ?_)
        obtain ⟨e_49, he_49, hm⟩ := ss_bind hm
        have X_49_72 : ∀  (h_49_72 : ss_Hp) (H : Heap) (locs : List Loc) (ls : Array Slot), e_49 = h_49_72 → ss_R G h_49_72 H → va_S (ss_A G) s.heap H locs → lv_has ls 9 [(0, ss_v (ss_b G) this), (2, .int a2), (3, .int v9)] → ww_M_pacts p l e s m below meth c G this a1 a2 h rr hh  H locs 0 0 (F0 m 72 ls []) := by
          intro h_49_72 H locs ls hq hR hS hl
          rw [hq] at hm
          refine lv_iconst (v := 0) hx hb dd_M_pacts_72 (by decide) ?_
          refine lv_istore (lv' := [(4, .int (0 : Int32)), (0, ss_v (ss_b G) this), (2, .int a2), (3, .int v9)]) hx hb dd_M_pacts_73 hl (by decide) rfl (fun ls hl => ?_)
          refine lv_bipush (v := -2) hx hb dd_M_pacts_75 (by decide) ?_
          refine lv_istore (lv' := [(5, .int (-2 : Int32)), (4, .int (0 : Int32)), (0, ss_v (ss_b G) this), (2, .int a2), (3, .int v9)]) hx hb dd_M_pacts_77 hl (by decide) rfl (fun ls hl => ?_)
          refine ss_aload_n hx hb dd_M_pacts_79 rfl (lv_at hl 2 rfl) ?_
          refine lv_iconst (v := 0) hx hb dd_M_pacts_80 (by decide) ?_
          obtain ⟨v11, qv11, hm⟩ := ss_bind hm
          refine ss_cV 0 0 (As := [.int (0 : Int32)]) hC hK hR hS hl.1 (cc_M_allBy l G N _ _ _ _ qv11) km_M_418 (ck_M_allBy qv11) ⟨Nat.le_of_ble_eq_true rfl, Nat.le_of_ble_eq_true rfl⟩ ⟨Nat.le_of_ble_eq_true rfl, Nat.le_of_ble_eq_true rfl, Nat.le_of_ble_eq_true rfl, Nat.le_of_ble_eq_true rfl⟩ rfl rfl (Nat.le_of_ble_eq_true rfl) dd_M_pacts_81 (fun H locs hR hS => ?_)
          refine lv_istore (lv' := [(6, .int v11), (5, .int (-2 : Int32)), (4, .int (0 : Int32)), (0, ss_v (ss_b G) this), (2, .int a2), (3, .int v9)]) hx hb dd_M_pacts_84 hl (by decide) rfl (fun ls hl => ?_)
          refine ss_aload_n hx hb dd_M_pacts_86 rfl (lv_at hl 3 rfl) ?_
          refine lv_iconst (v := 0) hx hb dd_M_pacts_87 (by decide) ?_
          obtain ⟨v12, qv12, hm⟩ := ss_bind hm
          refine ss_cV 0 0 (As := [.int (0 : Int32)]) hC hK hR hS hl.1 (cc_M_allBy l G N _ _ _ _ qv12) km_M_418 (ck_M_allBy qv12) ⟨Nat.le_of_ble_eq_true rfl, Nat.le_of_ble_eq_true rfl⟩ ⟨Nat.le_of_ble_eq_true rfl, Nat.le_of_ble_eq_true rfl, Nat.le_of_ble_eq_true rfl, Nat.le_of_ble_eq_true rfl⟩ rfl rfl (Nat.le_of_ble_eq_true rfl) dd_M_pacts_88 (fun H locs hR hS => ?_)
          refine lv_istore (lv' := [(7, .int v12), (6, .int v11), (5, .int (-2 : Int32)), (4, .int (0 : Int32)), (0, ss_v (ss_b G) this), (2, .int a2), (3, .int v9)]) hx hb dd_M_pacts_91 hl (by decide) rfl (fun ls hl => ?_)
          refine lv_iload_n hx hb dd_M_pacts_93 rfl (lv_at hl 6 rfl) ?_
          refine lv_iconst (v := 1) hx hb dd_M_pacts_94 (by decide) ?_
          refine lv_isub hx hb dd_M_pacts_95 ?_
          obtain ⟨v13, qv13, hm⟩ := ss_bind hm
          refine ss_topi qv13 ?_
          refine lv_istore (lv' := [(8, .int v13), (7, .int v12), (6, .int v11), (5, .int (-2 : Int32)), (4, .int (0 : Int32)), (0, ss_v (ss_b G) this), (2, .int a2), (3, .int v9)]) hx hb dd_M_pacts_96 hl (by decide) rfl (fun ls hl => ?_)
          obtain ⟨e_98, he_98, hm⟩ := ss_bind hm
          have X_98_176 : ∀ (y4_98_176 : Int32) (y5_98_176 : Int32) (y6_98_176 : Int32) (y7_98_176 : Int32) (H : Heap) (locs : List Loc) (ls : Array Slot), e_98 = (y4_98_176, y5_98_176, y6_98_176, y7_98_176) → ss_R G h_49_72 H → va_S (ss_A G) s.heap H locs → lv_has ls 9 [(2, .int a2), (4, .int y4_98_176), (5, .int y5_98_176), (6, .int y6_98_176), (7, .int y7_98_176)] → ww_M_pacts p l e s m below meth c G this a1 a2 h rr hh  H locs 0 0 (F0 m 176 ls []) := by
            intro y4_98_176 y5_98_176 y6_98_176 y7_98_176 H locs ls hq hR hS hl
            rw [hq] at hm
            refine lv_iload_n hx hb dd_M_pacts_176 rfl (lv_at hl 0 rfl) ?_
            refine lv_if_ne (tgt := 185) hx hb dd_M_pacts_177 (by decide) (fun c14 => ?_) (fun c14 => ?_)
            · have hm := ss_iff hm c14
              refine lv_iload_n hx hb dd_M_pacts_185 rfl (lv_at hl 0 rfl) ?_
              refine lv_iconst (v := 1) hx hb dd_M_pacts_186 (by decide) ?_
              refine lv_icmp_ne (tgt := 195) hx hb dd_M_pacts_187 (by decide) (fun c15 => ?_) (fun c15 => ?_)
              · have hm := ss_iff hm c15
                refine lv_iload hx hb dd_M_pacts_195 (lv_at hl 3 rfl) ?_
                refine lv_iload hx hb dd_M_pacts_197 (lv_at hl 4 rfl) ?_
                refine lv_isub hx hb dd_M_pacts_199 ?_
                exact J_200 (y6_98_176 - y7_98_176) h_49_72 _ _ _ hm hR hS (lv_sub hl [] rfl)
              · have hm := ss_ift hm c15
                refine lv_iload hx hb dd_M_pacts_190 (lv_at hl 2 rfl) ?_
                refine lv_goto (tgt := 200) hx hb dd_M_pacts_192 (by decide) ?_
                exact J_200 y5_98_176 h_49_72 _ _ _ hm hR hS (lv_sub hl [] rfl)
            · have hm := ss_ift hm c14
              refine lv_iload hx hb dd_M_pacts_180 (lv_at hl 1 rfl) ?_
              refine lv_goto (tgt := 200) hx hb dd_M_pacts_182 (by decide) ?_
              exact J_200 y4_98_176 h_49_72 _ _ _ hm hR hS (lv_sub hl [] rfl)
          have L_98 : ∀ (n : Nat) (x4_98 : Int32) (x5_98 : Int32) (x6_98 : Int32) (x7_98 : Int32) (x8_98 : Int32) (H : Heap) (locs : List Loc) (ls : Array Slot), ss_lp (mm_M_pacts_b98 N this a2 h_49_72) n (x4_98, x5_98, x6_98, x7_98, x8_98) = some e_98 → ss_R G h_49_72 H → va_S (ss_A G) s.heap H locs → lv_has ls 9 [(0, ss_v (ss_b G) this), (2, .int a2), (4, .int x4_98), (5, .int x5_98), (6, .int x6_98), (7, .int x7_98), (8, .int x8_98)] → ww_M_pacts p l e s m below meth c G this a1 a2 h rr hh  H locs 0 0 (F0 m 98 ls []) := by
            intro n
            induction n with
            | zero => intro x4_98 x5_98 x6_98 x7_98 x8_98 H locs ls hm; cases hm
            | succ n ih_98 =>
              intro x4_98 x5_98 x6_98 x7_98 x8_98 H locs ls hm hR hS hl
              obtain ⟨z_98, hm, hz1_98, hz2_98⟩ := ss_lps hm
              have J_170 : ∀ (x4_170 : Int32) (x5_170 : Int32) (x6_170 : Int32) (x7_170 : Int32) (x8_170 : Int32) (H : Heap) (locs : List Loc) (ls : Array Slot), mm_M_pacts_j170 N this a2 h_49_72 x4_170 x5_170 x6_170 x7_170 x8_170 = some z_98 → ss_R G h_49_72 H → va_S (ss_A G) s.heap H locs → lv_has ls 9 [(0, ss_v (ss_b G) this), (2, .int a2), (4, .int x4_170), (5, .int x5_170), (6, .int x6_170), (7, .int x7_170), (8, .int x8_170)] → ww_M_pacts p l e s m below meth c G this a1 a2 h rr hh  H locs 0 0 (F0 m 170 ls []) := by
                intro x4_170 x5_170 x6_170 x7_170 x8_170 H locs ls hm hR hS hl
                obtain ⟨v16, qv16, hm⟩ := ss_bind hm
                refine lv_iinc (v := v16) (lv' := [(8, .int v16), (0, ss_v (ss_b G) this), (2, .int a2), (4, .int x4_170), (5, .int x5_170), (6, .int x6_170), (7, .int x7_170)]) hx hb dd_M_pacts_170 hl (k := 6) rfl (ss_inc (by decide) qv16) (by decide) rfl (fun ls hl => ?_)
                refine lv_goto (tgt := 98) hx hb dd_M_pacts_173 (by decide) ?_
                exact ih_98 x4_170 x5_170 x6_170 x7_170 v16  _ _ _ (hz1_98 _ (ss_some hm)) hR hS (lv_sub hl [1, 2, 3, 4, 5, 6, 0] rfl)
              have J_149 : ∀ (x4_149 : Int32) (x5_149 : Int32) (x6_149 : Int32) (x8_149 : Int32) (s0_149 : Int32) (H : Heap) (locs : List Loc) (ls : Array Slot), mm_M_pacts_j149 N this a2 h_49_72 x4_149 x5_149 x6_149 x8_149 s0_149 = some z_98 → ss_R G h_49_72 H → va_S (ss_A G) s.heap H locs → lv_has ls 9 [(0, ss_v (ss_b G) this), (2, .int a2), (4, .int x4_149), (5, .int x5_149), (6, .int x6_149), (8, .int x8_149)] → ww_M_pacts p l e s m below meth c G this a1 a2 h rr hh  H locs 0 0 (F0 m 149 ls [.int s0_149]) := by
                intro x4_149 x5_149 x6_149 x8_149 s0_149 H locs ls hm hR hS hl
                refine lv_istore (lv' := [(7, .int s0_149), (0, ss_v (ss_b G) this), (2, .int a2), (4, .int x4_149), (5, .int x5_149), (6, .int x6_149), (8, .int x8_149)]) hx hb dd_M_pacts_149 hl (by decide) rfl (fun ls hl => ?_)
                refine ss_aload_n hx hb dd_M_pacts_151 rfl (lv_at hl 1 rfl) ?_
                refine lv_iload hx hb dd_M_pacts_152 (lv_at hl 6 rfl) ?_
                obtain ⟨v17, qv17, hm⟩ := ss_bind hm
                refine ss_cV 0 0 (As := [.int x8_149]) hC hK hR hS hl.1 (cc_M_isPact l G N _ _ _ _ qv17) km_M_421 (ck_M_isPact qv17) ⟨Nat.le_of_ble_eq_true rfl, Nat.le_of_ble_eq_true rfl⟩ ⟨Nat.le_of_ble_eq_true rfl, Nat.le_of_ble_eq_true rfl, Nat.le_of_ble_eq_true rfl, Nat.le_of_ble_eq_true rfl⟩ rfl rfl (Nat.le_of_ble_eq_true rfl) dd_M_pacts_154 (fun H locs hR hS => ?_)
                refine lv_if_ne (tgt := 163) hx hb dd_M_pacts_157 (by decide) (fun c18 => ?_) (fun c18 => ?_)
                · have hm := ss_iff hm c18
                  refine lv_iload hx hb dd_M_pacts_163 (lv_at hl 6 rfl) ?_
                  refine lv_istore (lv' := [(5, .int x8_149), (7, .int s0_149), (0, ss_v (ss_b G) this), (2, .int a2), (4, .int x4_149), (6, .int x6_149), (8, .int x8_149)]) hx hb dd_M_pacts_165 hl (by decide) rfl (fun ls hl => ?_)
                  obtain ⟨v19, qv19, hm⟩ := ss_bind hm
                  refine lv_iinc (v := v19) (lv' := [(4, .int v19), (5, .int x8_149), (7, .int s0_149), (0, ss_v (ss_b G) this), (2, .int a2), (6, .int x6_149), (8, .int x8_149)]) hx hb dd_M_pacts_167 hl (k := 4) rfl (ss_inc (by decide) qv19) (by decide) rfl (fun ls hl => ?_)
                  exact J_170 v19 x8_149 x6_149 s0_149 x8_149  _ _ _ hm hR hS (lv_sub hl [3, 4, 0, 1, 5, 2, 6] rfl)
                · have hm := ss_ift hm c18
                  refine lv_goto (tgt := 170) hx hb dd_M_pacts_160 (by decide) ?_
                  exact J_170 x4_149 x5_149 x6_149 s0_149 x8_149  _ _ _ hm hR hS (lv_sub hl [1, 2, 3, 4, 5, 0, 6] rfl)
              have J_125 : ∀ (x4_125 : Int32) (x5_125 : Int32) (x7_125 : Int32) (x8_125 : Int32) (s0_125 : Int32) (H : Heap) (locs : List Loc) (ls : Array Slot), mm_M_pacts_j125 N this a2 h_49_72 x4_125 x5_125 x7_125 x8_125 s0_125 = some z_98 → ss_R G h_49_72 H → va_S (ss_A G) s.heap H locs → lv_has ls 9 [(0, ss_v (ss_b G) this), (2, .int a2), (4, .int x4_125), (5, .int x5_125), (7, .int x7_125), (8, .int x8_125)] → ww_M_pacts p l e s m below meth c G this a1 a2 h rr hh  H locs 0 0 (F0 m 125 ls [.int s0_125]) := by
                intro x4_125 x5_125 x7_125 x8_125 s0_125 H locs ls hm hR hS hl
                refine lv_istore (lv' := [(6, .int s0_125), (0, ss_v (ss_b G) this), (2, .int a2), (4, .int x4_125), (5, .int x5_125), (7, .int x7_125), (8, .int x8_125)]) hx hb dd_M_pacts_125 hl (by decide) rfl (fun ls hl => ?_)
                refine ss_aload_n hx hb dd_M_pacts_127 rfl (lv_at hl 1 rfl) ?_
                refine lv_iload hx hb dd_M_pacts_128 (lv_at hl 6 rfl) ?_
                obtain ⟨v20, qv20, hm⟩ := ss_bind hm
                refine ss_cV 0 0 (As := [.int x8_125]) hC hK hR hS hl.1 (cc_M_allBy l G N _ _ _ _ qv20) km_M_418 (ck_M_allBy qv20) ⟨Nat.le_of_ble_eq_true rfl, Nat.le_of_ble_eq_true rfl⟩ ⟨Nat.le_of_ble_eq_true rfl, Nat.le_of_ble_eq_true rfl, Nat.le_of_ble_eq_true rfl, Nat.le_of_ble_eq_true rfl⟩ rfl rfl (Nat.le_of_ble_eq_true rfl) dd_M_pacts_130 (fun H locs hR hS => ?_)
                refine lv_iload hx hb dd_M_pacts_133 (lv_at hl 5 rfl) ?_
                refine lv_icmp_ge (tgt := 147) hx hb dd_M_pacts_135 (by decide) (fun c21 => ?_) (fun c21 => ?_)
                · have hm := ss_ift hm c21
                  refine lv_iload hx hb dd_M_pacts_147 (lv_at hl 5 rfl) ?_
                  exact J_149 x4_125 x5_125 s0_125 x8_125 x7_125  _ _ _ hm hR hS (lv_sub hl [1, 2, 3, 4, 0, 6] rfl)
                · have hm := ss_iff hm c21
                  refine ss_aload_n hx hb dd_M_pacts_138 rfl (lv_at hl 1 rfl) ?_
                  refine lv_iload hx hb dd_M_pacts_139 (lv_at hl 6 rfl) ?_
                  obtain ⟨v22, qv22, hm⟩ := ss_bind hm
                  refine ss_cV 0 0 (As := [.int x8_125]) hC hK hR hS hl.1 (cc_M_allBy l G N _ _ _ _ qv22) km_M_418 (ck_M_allBy qv22) ⟨Nat.le_of_ble_eq_true rfl, Nat.le_of_ble_eq_true rfl⟩ ⟨Nat.le_of_ble_eq_true rfl, Nat.le_of_ble_eq_true rfl, Nat.le_of_ble_eq_true rfl, Nat.le_of_ble_eq_true rfl⟩ rfl rfl (Nat.le_of_ble_eq_true rfl) dd_M_pacts_141 (fun H locs hR hS => ?_)
                  refine lv_goto (tgt := 149) hx hb dd_M_pacts_144 (by decide) ?_
                  exact J_149 x4_125 x5_125 s0_125 x8_125 v22  _ _ _ hm hR hS (lv_sub hl [1, 2, 3, 4, 0, 6] rfl)
              refine lv_iload hx hb dd_M_pacts_98 (lv_at hl 6 rfl) ?_
              refine lv_if_lt (tgt := 176) hx hb dd_M_pacts_100 (by decide) (fun c23 => ?_) (fun c23 => ?_)
              · have hm := ss_ift hm c23
                exact X_98_176 x4_98 x5_98 x6_98 x7_98  _ _ _ (hz2_98 _ (ss_some hm)) hR hS (lv_sub hl [1, 2, 3, 4, 5] rfl)
              · have hm := ss_iff hm c23
                refine ss_aload_n hx hb dd_M_pacts_103 rfl (lv_at hl 0 rfl) ?_
                refine lv_iload hx hb dd_M_pacts_104 (lv_at hl 6 rfl) ?_
                obtain ⟨v24, qv24, hm⟩ := ss_bind hm
                refine ss_cV 0 0 (As := [.int x8_98]) hC hK hR hS hl.1 (cc_M_allBy l G N _ _ _ _ qv24) km_M_418 (ck_M_allBy qv24) ⟨Nat.le_of_ble_eq_true rfl, Nat.le_of_ble_eq_true rfl⟩ ⟨Nat.le_of_ble_eq_true rfl, Nat.le_of_ble_eq_true rfl, Nat.le_of_ble_eq_true rfl, Nat.le_of_ble_eq_true rfl⟩ rfl rfl (Nat.le_of_ble_eq_true rfl) dd_M_pacts_106 (fun H locs hR hS => ?_)
                refine lv_iload hx hb dd_M_pacts_109 (lv_at hl 4 rfl) ?_
                refine lv_icmp_le (tgt := 123) hx hb dd_M_pacts_111 (by decide) (fun c25 => ?_) (fun c25 => ?_)
                · have hm := ss_ift hm c25
                  refine lv_iload hx hb dd_M_pacts_123 (lv_at hl 4 rfl) ?_
                  exact J_125 x4_98 x5_98 x7_98 x8_98 x6_98  _ _ _ hm hR hS (lv_sub hl [0, 1, 2, 3, 5, 6] rfl)
                · have hm := ss_iff hm c25
                  refine ss_aload_n hx hb dd_M_pacts_114 rfl (lv_at hl 0 rfl) ?_
                  refine lv_iload hx hb dd_M_pacts_115 (lv_at hl 6 rfl) ?_
                  obtain ⟨v26, qv26, hm⟩ := ss_bind hm
                  refine ss_cV 0 0 (As := [.int x8_98]) hC hK hR hS hl.1 (cc_M_allBy l G N _ _ _ _ qv26) km_M_418 (ck_M_allBy qv26) ⟨Nat.le_of_ble_eq_true rfl, Nat.le_of_ble_eq_true rfl⟩ ⟨Nat.le_of_ble_eq_true rfl, Nat.le_of_ble_eq_true rfl, Nat.le_of_ble_eq_true rfl, Nat.le_of_ble_eq_true rfl⟩ rfl rfl (Nat.le_of_ble_eq_true rfl) dd_M_pacts_117 (fun H locs hR hS => ?_)
                  refine lv_goto (tgt := 125) hx hb dd_M_pacts_120 (by decide) ?_
                  exact J_125 x4_98 x5_98 x7_98 x8_98 v26  _ _ _ hm hR hS (lv_sub hl [0, 1, 2, 3, 5, 6] rfl)
          exact L_98 N (0 : Int32) (-2 : Int32) v11 v12 v13 _ _ _ he_98 hR hS (lv_sub hl [5, 6, 4, 3, 2, 1, 0] rfl)
        have L_49 : ∀ (n : Nat) (x4_49 : Int32) (h_49 : ss_Hp) (H : Heap) (locs : List Loc) (ls : Array Slot), ss_lp (mm_M_pacts_b49 N this a1 a2 v9) n (x4_49, h_49) = some e_49 → ss_R G h_49 H → va_S (ss_A G) s.heap H locs → lv_has ls 9 [(0, ss_v (ss_b G) this), (1, .int a1), (2, .int a2), (3, .int v9), (4, .int x4_49)] → ww_M_pacts p l e s m below meth c G this a1 a2 h rr hh  H locs 0 0 (F0 m 49 ls []) := by
          intro n
          induction n with
          | zero => intro x4_49 h_49 H locs ls hm; cases hm
          | succ n ih_49 =>
            intro x4_49 h_49 H locs ls hm hR hS hl
            obtain ⟨z_49, hm, hz1_49, hz2_49⟩ := ss_lps hm
            refine lv_iload hx hb dd_M_pacts_49 (lv_at hl 4 rfl) ?_
            refine lv_iload_n hx hb dd_M_pacts_51 rfl (lv_at hl 3 rfl) ?_
            refine lv_icmp_ge (tgt := 72) hx hb dd_M_pacts_52 (by decide) (fun c27 => ?_) (fun c27 => ?_)
            · have hm := ss_ift hm c27
              exact X_49_72 h_49 _ _ _ (hz2_49 _ (ss_some hm)) hR hS (lv_sub hl [0, 2, 3] rfl)
            · have hm := ss_iff hm c27
              refine ss_aload_n hx hb dd_M_pacts_55 rfl (lv_at hl 0 rfl) ?_
              refine lv_iload hx hb dd_M_pacts_56 (lv_at hl 4 rfl) ?_
              refine lv_iload_n hx hb dd_M_pacts_58 rfl (lv_at hl 1 rfl) ?_
              obtain ⟨h28, qh28, hm⟩ := ss_bind hm
              refine ss_cVv 0 0 (As := [.int x4_49, .int a1]) hC hK hR hS hl.1 (cc_M_fillsPact l G N _ _ _ _ _ qh28) km_M_415 (ck_M_fillsPact qh28) ⟨Nat.le_of_ble_eq_true rfl, Nat.le_of_ble_eq_true rfl⟩ ⟨Nat.le_of_ble_eq_true rfl, Nat.le_of_ble_eq_true rfl, Nat.le_of_ble_eq_true rfl, Nat.le_of_ble_eq_true rfl⟩ rfl rfl (Nat.le_of_ble_eq_true rfl) dd_M_pacts_59 (fun H locs hR hS => ?_)
              refine ss_aload_n hx hb dd_M_pacts_62 rfl (lv_at hl 0 rfl) ?_
              obtain ⟨h29, qh29, hm⟩ := ss_bind hm
              refine ss_cVv 0 0 (As := []) hC hK hR hS hl.1 (cc_M_laysBack l G N _ _ _ qh29) km_M_388 (ck_M_laysBack qh29) ⟨Nat.le_of_ble_eq_true rfl, Nat.le_of_ble_eq_true rfl⟩ ⟨Nat.le_of_ble_eq_true rfl, Nat.le_of_ble_eq_true rfl, Nat.le_of_ble_eq_true rfl, Nat.le_of_ble_eq_true rfl⟩ rfl rfl (Nat.le_of_ble_eq_true rfl) dd_M_pacts_63 (fun H locs hR hS => ?_)
              obtain ⟨v30, qv30, hm⟩ := ss_bind hm
              refine lv_iinc (v := v30) (lv' := [(4, .int v30), (0, ss_v (ss_b G) this), (1, .int a1), (2, .int a2), (3, .int v9)]) hx hb dd_M_pacts_66 hl (k := 4) rfl (ss_inc (by decide) qv30) (by decide) rfl (fun ls hl => ?_)
              refine lv_goto (tgt := 49) hx hb dd_M_pacts_69 (by decide) ?_
              exact ih_49 v30 h29 _ _ _ (hz1_49 _ (ss_some hm)) hR hS (lv_sub hl [1, 2, 3, 4, 0] rfl)
        exact L_49 N (0 : Int32) h10 _ _ _ he_49 hR hS (lv_sub hl [2, 3, 4, 1, 0] rfl)
      · have hm := ss_ift hm c6
        exact J_31 h _ _ _ hm hR hS (lv_sub hl [] rfl)
theorem dd_M_thrownOn_0 : decode bb_M_thrownOn 0 = .ok (.aload_n 0, 1) := by decide +kernel
theorem dd_M_thrownOn_1 : decode bb_M_thrownOn 1 = .ok (.iload_n 1, 1) := by decide +kernel
theorem dd_M_thrownOn_2 : decode bb_M_thrownOn 2 = .ok (.invokevirtual 313, 3) := by decide +kernel
theorem dd_M_thrownOn_5 : decode bb_M_thrownOn 5 = .ok (.ifCond .eq 25, 3) := by decide +kernel
theorem dd_M_thrownOn_8 : decode bb_M_thrownOn 8 = .ok (.iload_n 2, 1) := by decide +kernel
theorem dd_M_thrownOn_9 : decode bb_M_thrownOn 9 = .ok (.i2l, 1) := by decide +kernel
theorem dd_M_thrownOn_10 : decode bb_M_thrownOn 10 = .ok (.lconst 1, 1) := by decide +kernel
theorem dd_M_thrownOn_11 : decode bb_M_thrownOn 11 = .ok (.ldc2_w 391, 3) := by decide +kernel
theorem dd_M_thrownOn_14 : decode bb_M_thrownOn 14 = .ok (.invokestatic 124, 3) := by decide +kernel
theorem dd_M_thrownOn_17 : decode bb_M_thrownOn 17 = .ok (.ifCond .eq 13, 3) := by decide +kernel
theorem dd_M_thrownOn_20 : decode bb_M_thrownOn 20 = .ok (.iload_n 3, 1) := by decide +kernel
theorem dd_M_thrownOn_21 : decode bb_M_thrownOn 21 = .ok (.i2l, 1) := by decide +kernel
theorem dd_M_thrownOn_22 : decode bb_M_thrownOn 22 = .ok (.lconst 0, 1) := by decide +kernel
theorem dd_M_thrownOn_23 : decode bb_M_thrownOn 23 = .ok (.lconst 1, 1) := by decide +kernel
theorem dd_M_thrownOn_24 : decode bb_M_thrownOn 24 = .ok (.invokestatic 124, 3) := by decide +kernel
theorem dd_M_thrownOn_27 : decode bb_M_thrownOn 27 = .ok (.ifCond .ne 5, 3) := by decide +kernel
theorem dd_M_thrownOn_30 : decode bb_M_thrownOn 30 = .ok (.iconst (-1), 1) := by decide +kernel
theorem dd_M_thrownOn_31 : decode bb_M_thrownOn 31 = .ok (.ireturn, 1) := by decide +kernel
theorem dd_M_thrownOn_32 : decode bb_M_thrownOn 32 = .ok (.aload_n 0, 1) := by decide +kernel
theorem dd_M_thrownOn_33 : decode bb_M_thrownOn 33 = .ok (.invokevirtual 385, 3) := by decide +kernel
theorem dd_M_thrownOn_36 : decode bb_M_thrownOn 36 = .ok (.aload_n 0, 1) := by decide +kernel
theorem dd_M_thrownOn_37 : decode bb_M_thrownOn 37 = .ok (.getfield 46, 3) := by decide +kernel
theorem dd_M_thrownOn_40 : decode bb_M_thrownOn 40 = .ok (.iload_n 1, 1) := by decide +kernel
theorem dd_M_thrownOn_41 : decode bb_M_thrownOn 41 = .ok (.iconst 0, 1) := by decide +kernel
theorem dd_M_thrownOn_42 : decode bb_M_thrownOn 42 = .ok (.iastore, 1) := by decide +kernel
theorem dd_M_thrownOn_43 : decode bb_M_thrownOn 43 = .ok (.aload_n 0, 1) := by decide +kernel
theorem dd_M_thrownOn_44 : decode bb_M_thrownOn 44 = .ok (.getfield 49, 3) := by decide +kernel
theorem dd_M_thrownOn_47 : decode bb_M_thrownOn 47 = .ok (.iload_n 1, 1) := by decide +kernel
theorem dd_M_thrownOn_48 : decode bb_M_thrownOn 48 = .ok (.iconst 0, 1) := by decide +kernel
theorem dd_M_thrownOn_49 : decode bb_M_thrownOn 49 = .ok (.iastore, 1) := by decide +kernel
theorem dd_M_thrownOn_50 : decode bb_M_thrownOn 50 = .ok (.iconst 0, 1) := by decide +kernel
theorem dd_M_thrownOn_51 : decode bb_M_thrownOn 51 = .ok (.istore 4, 2) := by decide +kernel
theorem dd_M_thrownOn_53 : decode bb_M_thrownOn 53 = .ok (.iload 4, 2) := by decide +kernel
theorem dd_M_thrownOn_55 : decode bb_M_thrownOn 55 = .ok (.iload_n 2, 1) := by decide +kernel
theorem dd_M_thrownOn_56 : decode bb_M_thrownOn 56 = .ok (.if_icmp .ge 14, 3) := by decide +kernel
theorem dd_M_thrownOn_59 : decode bb_M_thrownOn 59 = .ok (.aload_n 0, 1) := by decide +kernel
theorem dd_M_thrownOn_60 : decode bb_M_thrownOn 60 = .ok (.invokevirtual 372, 3) := by decide +kernel
theorem dd_M_thrownOn_63 : decode bb_M_thrownOn 63 = .ok (.pop, 1) := by decide +kernel
theorem dd_M_thrownOn_64 : decode bb_M_thrownOn 64 = .ok (.iinc 4 1, 3) := by decide +kernel
theorem dd_M_thrownOn_67 : decode bb_M_thrownOn 67 = .ok (.goto (-14), 3) := by decide +kernel
theorem dd_M_thrownOn_70 : decode bb_M_thrownOn 70 = .ok (.aload_n 0, 1) := by decide +kernel
theorem dd_M_thrownOn_71 : decode bb_M_thrownOn 71 = .ok (.invokevirtual 388, 3) := by decide +kernel
theorem dd_M_thrownOn_74 : decode bb_M_thrownOn 74 = .ok (.iload_n 3, 1) := by decide +kernel
theorem dd_M_thrownOn_75 : decode bb_M_thrownOn 75 = .ok (.ifCond .ne 12, 3) := by decide +kernel
theorem dd_M_thrownOn_78 : decode bb_M_thrownOn 78 = .ok (.aload_n 0, 1) := by decide +kernel
theorem dd_M_thrownOn_79 : decode bb_M_thrownOn 79 = .ok (.getfield 46, 3) := by decide +kernel
theorem dd_M_thrownOn_82 : decode bb_M_thrownOn 82 = .ok (.iload_n 1, 1) := by decide +kernel
theorem dd_M_thrownOn_83 : decode bb_M_thrownOn 83 = .ok (.iaload, 1) := by decide +kernel
theorem dd_M_thrownOn_84 : decode bb_M_thrownOn 84 = .ok (.goto 9, 3) := by decide +kernel
theorem dd_M_thrownOn_87 : decode bb_M_thrownOn 87 = .ok (.aload_n 0, 1) := by decide +kernel
theorem dd_M_thrownOn_88 : decode bb_M_thrownOn 88 = .ok (.getfield 49, 3) := by decide +kernel
theorem dd_M_thrownOn_91 : decode bb_M_thrownOn 91 = .ok (.iload_n 1, 1) := by decide +kernel
theorem dd_M_thrownOn_92 : decode bb_M_thrownOn 92 = .ok (.iaload, 1) := by decide +kernel
theorem dd_M_thrownOn_93 : decode bb_M_thrownOn 93 = .ok (.ireturn, 1) := by decide +kernel
def mm_M_thrownOn_j30 (N : Nat) (this : Option Nat) (a1 : Int32) (a2 : Int32) (a3 : Int32) (h_30 : ss_Hp) : Option (Int32 × ss_Hp) :=
  some ((-1 : Int32), h_30)
def mm_M_thrownOn_j93 (N : Nat) (this : Option Nat) (a1 : Int32) (a2 : Int32) (a3 : Int32) (s0_93 : Int32) (h_93 : ss_Hp) : Option (Int32 × ss_Hp) :=
  some (s0_93, h_93)
def mm_M_thrownOn_b53 (N : Nat) (this : Option Nat) (a1 : Int32) (a2 : Int32) (a3 : Int32) (st : Int32 × ss_Hp) : Option ((Int32 × ss_Hp) ⊕ ss_Hp) :=
  match st with
  | (x4_53, h_53) =>
    if a2 ≤ x4_53 then
      some (.inr h_53)
    else
      ss_b2 (mm_M_passes N this h_53) fun v19 h20 =>
      (some (x4_53 + (1 : Int32))).bind fun v21 =>
      some (.inl (v21, h20))
def mm_M_thrownOn (N : Nat) (this : Option Nat) (a1 : Int32) (a2 : Int32) (a3 : Int32) (h : ss_Hp) : Option (Int32 × ss_Hp) :=
  if ss_is h this 12 = true then
    (mm_M_isStep N this a1 h).bind fun v1 =>
    if v1 = 0 then
      mm_M_thrownOn_j30 N this a1 a2 a3 h
    else
      (mm_M_in N ((a2).toInt64) (1 : Int64) (60 : Int64)).bind fun v3 =>
      if v3 = 0 then
        mm_M_thrownOn_j30 N this a1 a2 a3 h
      else
        (mm_M_in N ((a3).toInt64) (0 : Int64) (1 : Int64)).bind fun v5 =>
        if v5 = 0 then
          mm_M_thrownOn_j30 N this a1 a2 a3 h
        else
          (mm_M_keeps N this h).bind fun h7 =>
          (ss_gr h7 this 12 10).bind fun r8 =>
          (ss_ui h7 r8 20 a1 (0 : Int32)).bind fun h9 =>
          (ss_gr h9 this 12 11).bind fun r10 =>
          (ss_ui h9 r10 20 a1 (0 : Int32)).bind fun h11 =>
          (ss_lp (mm_M_thrownOn_b53 N this a1 a2 a3) N ((0 : Int32), h11)).bind fun h_53_70 =>
          (mm_M_laysBack N this h_53_70).bind fun h12 =>
          if a3 = 0 then
            (ss_gr h12 this 12 10).bind fun r16 =>
            (ss_ai h12 r16 20 a1).bind fun v17 =>
            mm_M_thrownOn_j93 N this a1 a2 a3 v17 h12
          else
            (ss_gr h12 this 12 11).bind fun r14 =>
            (ss_ai h12 r14 20 a1).bind fun v15 =>
            mm_M_thrownOn_j93 N this a1 a2 a3 v15 h12
  else none
abbrev ww_M_thrownOn (p : Program) (l : Launch) (e : Env) (s : State) (m : MethodId) (below : List Frame) (meth : Method) (c : Code) (G : ss_G) (this : Option Nat) (a1 : Int32) (a2 : Int32) (a3 : Int32) (h : ss_Hp) (rr : Int32) (hh : ss_Hp) (H : Heap) (locs : List Loc) (k n : Nat) (g : JFrame) : Prop := W p l e (headSpec (ss_w yy_M_thrownOn bb_M_thrownOn 5 (some (.int))) ({ frames := 5, cells := 0, slots := 0, locals := 126 })).room s m ([ss_v (ss_b G) this, .int a1, .int a2, .int a3] : List Value).toArray below meth c H locs k n (MQ below (ss_Qc G (some (.int rr)) hh) ([ss_v (ss_b G) this, .int a1, .int a2, .int a3] : List Value).toArray s 0 0 (ss_A G)) g
theorem ck_M_thrownOn {N : Nat} {this : Option Nat} {a1 : Int32} {a2 : Int32} {a3 : Int32} {h : ss_Hp} {res : Int32 × ss_Hp} (hm : mm_M_thrownOn N this a1 a2 a3 h = some res) : ss_is h this 12 = true := (ss_chk hm).1
set_option maxHeartbeats 4000000 in
set_option maxRecDepth 100000 in
theorem cc_M_thrownOn (l : Launch) (G : ss_G) (N : Nat) (this : Option Nat) (a1 : Int32) (a2 : Int32) (a3 : Int32) (h : ss_Hp) (rr : Int32) (hh : ss_Hp) (hm : mm_M_thrownOn N this a1 a2 a3 h = some (rr, hh)) : ss_Ct l G yy_M_thrownOn bb_M_thrownOn 5 (some (.int)) ({ frames := 5, cells := 0, slots := 0, locals := 126 }) [ss_v (ss_b G) this, .int a1, .int a2, .int a3] h (some (.int rr)) hh := by
  obtain ⟨hck, hm⟩ := ss_chk hm
  refine Met.ofW (cc := bb_M_thrownOn) (maxL := 5) (ret := (some (.int))) (by decide) rfl ?_
  intro p e s m args below meth c s₁ B hml hv
  obtain ⟨rfl, hR, hK⟩ := hv
  have hC : CallFix p m c bb_M_thrownOn 5 s _ lw_g sR_12 := ⟨B.exec, B.bytes, hml, findClass_of_methodNamed B.named, fun w hw => atoms_spec (ws := ss_w yy_M_thrownOn bb_M_thrownOn 5 (some (.int))) B.pre w (List.mem_cons_of_mem _ hw)⟩
  have hx := hC.1
  have hb := hC.2.1
  have hr := B.returns
  have hlocks := B.notSynchronized
  have hS : va_S (ss_A G) s.heap s.heap [] := va_S.rf
  have hl := lv_entry ([ss_v (ss_b G) this, .int a1, .int a2, .int a3]) (n := 5) (by simp [lg_sl, ss_v_cat, ss_cat_i, ss_cat_l, ss_cat_r])
  rw [lg_entry_eq]
  generalize (lg_sl ([ss_v (ss_b G) this, .int a1, .int a2, .int a3]) ++ List.replicate (5 - (lg_sl ([ss_v (ss_b G) this, .int a1, .int a2, .int a3])).length) Slot.unset).toArray = ls at hl ⊢
  have hl : lv_has ls 5 [(0, ss_v (ss_b G) this), (1, .int a1), (2, .int a2), (3, .int a3)] := by simpa [lv_args, ss_v_cat, ss_cat_i, ss_cat_l, ss_cat_r] using hl
  have J_30 : ∀ (h_30 : ss_Hp) (H : Heap) (locs : List Loc) (ls : Array Slot), mm_M_thrownOn_j30 N this a1 a2 a3 h_30 = some (rr, hh) → ss_R G h_30 H → va_S (ss_A G) s.heap H locs → lv_has ls 5 [] → ww_M_thrownOn p l e s m below meth c G this a1 a2 a3 h rr hh  H locs 0 0 (F0 m 30 ls []) := by
    intro h_30 H locs ls hm hR hS hl
    refine lv_iconst (v := -1) hx hb dd_M_thrownOn_30 (by decide) ?_
    exact ss_iret hC hr hlocks hR hS hm dd_M_thrownOn_31
  have J_93 : ∀ (s0_93 : Int32) (h_93 : ss_Hp) (H : Heap) (locs : List Loc) (ls : Array Slot), mm_M_thrownOn_j93 N this a1 a2 a3 s0_93 h_93 = some (rr, hh) → ss_R G h_93 H → va_S (ss_A G) s.heap H locs → lv_has ls 5 [] → ww_M_thrownOn p l e s m below meth c G this a1 a2 a3 h rr hh  H locs 0 0 (F0 m 93 ls [.int s0_93]) := by
    intro s0_93 h_93 H locs ls hm hR hS hl
    exact ss_iret hC hr hlocks hR hS hm dd_M_thrownOn_93
  refine ss_aload_n hx hb dd_M_thrownOn_0 rfl (lv_at hl 0 rfl) ?_
  refine lv_iload_n hx hb dd_M_thrownOn_1 rfl (lv_at hl 1 rfl) ?_
  obtain ⟨v1, qv1, hm⟩ := ss_bind hm
  refine ss_cV 0 0 (As := [.int a1]) hC hK hR hS hl.1 (cc_M_isStep l G N _ _ _ _ qv1) km_M_313 (ck_M_isStep qv1) ⟨Nat.le_of_ble_eq_true rfl, Nat.le_of_ble_eq_true rfl⟩ ⟨Nat.le_of_ble_eq_true rfl, Nat.le_of_ble_eq_true rfl, Nat.le_of_ble_eq_true rfl, Nat.le_of_ble_eq_true rfl⟩ rfl rfl (Nat.le_of_ble_eq_true rfl) dd_M_thrownOn_2 (fun H locs hR hS => ?_)
  refine lv_if_eq (tgt := 30) hx hb dd_M_thrownOn_5 (by decide) (fun c2 => ?_) (fun c2 => ?_)
  · have hm := ss_ift hm c2
    exact J_30 h _ _ _ hm hR hS (lv_sub hl [] rfl)
  · have hm := ss_iff hm c2
    refine lv_iload_n hx hb dd_M_thrownOn_8 rfl (lv_at hl 2 rfl) ?_
    refine lv_i2l hx hb dd_M_thrownOn_9 rfl ?_
    refine lv_lconst (v := 1) hx hb dd_M_thrownOn_10 (by decide) ?_
    refine lv_ldc2 (v := 60) hx hb hC.2.2.2.1 (hC.2.2.2.2 _ kl_M_391) dd_M_thrownOn_11 ?_
    obtain ⟨v3, qv3, hm⟩ := ss_bind hm
    refine ss_cS 0 0 (As := [.long ((a2).toInt64), .long (1 : Int64), .long (60 : Int64)]) hC hK hR hS hl.1 (cc_M_in l G N _ _ _ _ _ qv3) km_M_124 ⟨Nat.le_of_ble_eq_true rfl, Nat.le_of_ble_eq_true rfl⟩ ⟨Nat.le_of_ble_eq_true rfl, Nat.le_of_ble_eq_true rfl, Nat.le_of_ble_eq_true rfl, Nat.le_of_ble_eq_true rfl⟩ rfl rfl (Nat.le_of_ble_eq_true rfl) dd_M_thrownOn_14 (fun H locs hR hS => ?_)
    refine lv_if_eq (tgt := 30) hx hb dd_M_thrownOn_17 (by decide) (fun c4 => ?_) (fun c4 => ?_)
    · have hm := ss_ift hm c4
      exact J_30 h _ _ _ hm hR hS (lv_sub hl [] rfl)
    · have hm := ss_iff hm c4
      refine lv_iload_n hx hb dd_M_thrownOn_20 rfl (lv_at hl 3 rfl) ?_
      refine lv_i2l hx hb dd_M_thrownOn_21 rfl ?_
      refine lv_lconst (v := 0) hx hb dd_M_thrownOn_22 (by decide) ?_
      refine lv_lconst (v := 1) hx hb dd_M_thrownOn_23 (by decide) ?_
      obtain ⟨v5, qv5, hm⟩ := ss_bind hm
      refine ss_cS 0 0 (As := [.long ((a3).toInt64), .long (0 : Int64), .long (1 : Int64)]) hC hK hR hS hl.1 (cc_M_in l G N _ _ _ _ _ qv5) km_M_124 ⟨Nat.le_of_ble_eq_true rfl, Nat.le_of_ble_eq_true rfl⟩ ⟨Nat.le_of_ble_eq_true rfl, Nat.le_of_ble_eq_true rfl, Nat.le_of_ble_eq_true rfl, Nat.le_of_ble_eq_true rfl⟩ rfl rfl (Nat.le_of_ble_eq_true rfl) dd_M_thrownOn_24 (fun H locs hR hS => ?_)
      refine lv_if_ne (tgt := 32) hx hb dd_M_thrownOn_27 (by decide) (fun c6 => ?_) (fun c6 => ?_)
      · have hm := ss_iff hm c6
        refine ss_aload_n hx hb dd_M_thrownOn_32 rfl (lv_at hl 0 rfl) ?_
        obtain ⟨h7, qh7, hm⟩ := ss_bind hm
        refine ss_cVv 0 0 (As := []) hC hK hR hS hl.1 (cc_M_keeps l G N _ _ _ qh7) km_M_385 (ck_M_keeps qh7) ⟨Nat.le_of_ble_eq_true rfl, Nat.le_of_ble_eq_true rfl⟩ ⟨Nat.le_of_ble_eq_true rfl, Nat.le_of_ble_eq_true rfl, Nat.le_of_ble_eq_true rfl, Nat.le_of_ble_eq_true rfl⟩ rfl rfl (Nat.le_of_ble_eq_true rfl) dd_M_thrownOn_33 (fun H locs hR hS => ?_)
        refine ss_aload_n hx hb dd_M_thrownOn_36 rfl (lv_at hl 0 rfl) ?_
        obtain ⟨r8, qr8, hm⟩ := ss_bind hm
        refine ss_getr hC hK hR kf_M_46 rfl qr8 dd_M_thrownOn_37 ?_
        refine lv_iload_n hx hb dd_M_thrownOn_40 rfl (lv_at hl 1 rfl) ?_
        refine lv_iconst (v := 0) hx hb dd_M_thrownOn_41 (by decide) ?_
        obtain ⟨h9, qh9, hm⟩ := ss_bind hm
        refine ss_iast hC hK hR hS qh9 dd_M_thrownOn_42 (fun H locs hR hS => ?_)
        refine ss_aload_n hx hb dd_M_thrownOn_43 rfl (lv_at hl 0 rfl) ?_
        obtain ⟨r10, qr10, hm⟩ := ss_bind hm
        refine ss_getr hC hK hR kf_M_49 rfl qr10 dd_M_thrownOn_44 ?_
        refine lv_iload_n hx hb dd_M_thrownOn_47 rfl (lv_at hl 1 rfl) ?_
        refine lv_iconst (v := 0) hx hb dd_M_thrownOn_48 (by decide) ?_
        obtain ⟨h11, qh11, hm⟩ := ss_bind hm
        refine ss_iast hC hK hR hS qh11 dd_M_thrownOn_49 (fun H locs hR hS => ?_)
        refine lv_iconst (v := 0) hx hb dd_M_thrownOn_50 (by decide) ?_
        refine lv_istore (lv' := [(4, .int (0 : Int32)), (0, ss_v (ss_b G) this), (1, .int a1), (2, .int a2), (3, .int a3)]) hx hb dd_M_thrownOn_51 hl (by decide) rfl (fun ls hl => ?_)
        obtain ⟨e_53, he_53, hm⟩ := ss_bind hm
        have X_53_70 : ∀  (h_53_70 : ss_Hp) (H : Heap) (locs : List Loc) (ls : Array Slot), e_53 = h_53_70 → ss_R G h_53_70 H → va_S (ss_A G) s.heap H locs → lv_has ls 5 [(0, ss_v (ss_b G) this), (1, .int a1), (3, .int a3)] → ww_M_thrownOn p l e s m below meth c G this a1 a2 a3 h rr hh  H locs 0 0 (F0 m 70 ls []) := by
          intro h_53_70 H locs ls hq hR hS hl
          rw [hq] at hm
          refine ss_aload_n hx hb dd_M_thrownOn_70 rfl (lv_at hl 0 rfl) ?_
          obtain ⟨h12, qh12, hm⟩ := ss_bind hm
          refine ss_cVv 0 0 (As := []) hC hK hR hS hl.1 (cc_M_laysBack l G N _ _ _ qh12) km_M_388 (ck_M_laysBack qh12) ⟨Nat.le_of_ble_eq_true rfl, Nat.le_of_ble_eq_true rfl⟩ ⟨Nat.le_of_ble_eq_true rfl, Nat.le_of_ble_eq_true rfl, Nat.le_of_ble_eq_true rfl, Nat.le_of_ble_eq_true rfl⟩ rfl rfl (Nat.le_of_ble_eq_true rfl) dd_M_thrownOn_71 (fun H locs hR hS => ?_)
          refine lv_iload_n hx hb dd_M_thrownOn_74 rfl (lv_at hl 2 rfl) ?_
          refine lv_if_ne (tgt := 87) hx hb dd_M_thrownOn_75 (by decide) (fun c13 => ?_) (fun c13 => ?_)
          · have hm := ss_iff hm c13
            refine ss_aload_n hx hb dd_M_thrownOn_87 rfl (lv_at hl 0 rfl) ?_
            obtain ⟨r14, qr14, hm⟩ := ss_bind hm
            refine ss_getr hC hK hR kf_M_49 rfl qr14 dd_M_thrownOn_88 ?_
            refine lv_iload_n hx hb dd_M_thrownOn_91 rfl (lv_at hl 1 rfl) ?_
            obtain ⟨v15, qv15, hm⟩ := ss_bind hm
            refine ss_iald hC hK hR qv15 dd_M_thrownOn_92 ?_
            exact J_93 v15 h12 _ _ _ hm hR hS (lv_sub hl [] rfl)
          · have hm := ss_ift hm c13
            refine ss_aload_n hx hb dd_M_thrownOn_78 rfl (lv_at hl 0 rfl) ?_
            obtain ⟨r16, qr16, hm⟩ := ss_bind hm
            refine ss_getr hC hK hR kf_M_46 rfl qr16 dd_M_thrownOn_79 ?_
            refine lv_iload_n hx hb dd_M_thrownOn_82 rfl (lv_at hl 1 rfl) ?_
            obtain ⟨v17, qv17, hm⟩ := ss_bind hm
            refine ss_iald hC hK hR qv17 dd_M_thrownOn_83 ?_
            refine lv_goto (tgt := 93) hx hb dd_M_thrownOn_84 (by decide) ?_
            exact J_93 v17 h12 _ _ _ hm hR hS (lv_sub hl [] rfl)
        have L_53 : ∀ (n : Nat) (x4_53 : Int32) (h_53 : ss_Hp) (H : Heap) (locs : List Loc) (ls : Array Slot), ss_lp (mm_M_thrownOn_b53 N this a1 a2 a3) n (x4_53, h_53) = some e_53 → ss_R G h_53 H → va_S (ss_A G) s.heap H locs → lv_has ls 5 [(0, ss_v (ss_b G) this), (1, .int a1), (2, .int a2), (3, .int a3), (4, .int x4_53)] → ww_M_thrownOn p l e s m below meth c G this a1 a2 a3 h rr hh  H locs 0 0 (F0 m 53 ls []) := by
          intro n
          induction n with
          | zero => intro x4_53 h_53 H locs ls hm; cases hm
          | succ n ih_53 =>
            intro x4_53 h_53 H locs ls hm hR hS hl
            obtain ⟨z_53, hm, hz1_53, hz2_53⟩ := ss_lps hm
            refine lv_iload hx hb dd_M_thrownOn_53 (lv_at hl 4 rfl) ?_
            refine lv_iload_n hx hb dd_M_thrownOn_55 rfl (lv_at hl 2 rfl) ?_
            refine lv_icmp_ge (tgt := 70) hx hb dd_M_thrownOn_56 (by decide) (fun c18 => ?_) (fun c18 => ?_)
            · have hm := ss_ift hm c18
              exact X_53_70 h_53 _ _ _ (hz2_53 _ (ss_some hm)) hR hS (lv_sub hl [0, 1, 3] rfl)
            · have hm := ss_iff hm c18
              refine ss_aload_n hx hb dd_M_thrownOn_59 rfl (lv_at hl 0 rfl) ?_
              obtain ⟨v19, h20, qh20, hm⟩ := ss_bind2 hm
              refine ss_cV 0 0 (As := []) hC hK hR hS hl.1 (cc_M_passes l G N _ _ _ _ qh20) km_M_372 (ck_M_passes qh20) ⟨Nat.le_of_ble_eq_true rfl, Nat.le_of_ble_eq_true rfl⟩ ⟨Nat.le_of_ble_eq_true rfl, Nat.le_of_ble_eq_true rfl, Nat.le_of_ble_eq_true rfl, Nat.le_of_ble_eq_true rfl⟩ rfl rfl (Nat.le_of_ble_eq_true rfl) dd_M_thrownOn_60 (fun H locs hR hS => ?_)
              refine lv_pop hx hb dd_M_thrownOn_63 rfl ?_
              obtain ⟨v21, qv21, hm⟩ := ss_bind hm
              refine lv_iinc (v := v21) (lv' := [(4, .int v21), (0, ss_v (ss_b G) this), (1, .int a1), (2, .int a2), (3, .int a3)]) hx hb dd_M_thrownOn_64 hl (k := 4) rfl (ss_inc (by decide) qv21) (by decide) rfl (fun ls hl => ?_)
              refine lv_goto (tgt := 53) hx hb dd_M_thrownOn_67 (by decide) ?_
              exact ih_53 v21 h20 _ _ _ (hz1_53 _ (ss_some hm)) hR hS (lv_sub hl [1, 2, 3, 4, 0] rfl)
        exact L_53 N (0 : Int32) h11 _ _ _ he_53 hR hS (lv_sub hl [1, 2, 3, 4, 0] rfl)
      · have hm := ss_ift hm c6
        exact J_30 h _ _ _ hm hR hS (lv_sub hl [] rfl)
