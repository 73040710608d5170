abbrev bj_coder : ByteArray := prog_17_method_152_code
def yj_coder : MethodName := ⟨"java/lang/String", "coder", "()B"⟩
theorem dj_coder_0 : decode bj_coder 0 = .ok (.getstatic 38, 3) := by decide +kernel
theorem dj_coder_3 : decode bj_coder 3 = .ok (.ifCond .eq 10, 3) := by decide +kernel
theorem dj_coder_6 : decode bj_coder 6 = .ok (.aload_n 0, 1) := by decide +kernel
theorem dj_coder_7 : decode bj_coder 7 = .ok (.getfield 15, 3) := by decide +kernel
theorem dj_coder_10 : decode bj_coder 10 = .ok (.goto 4, 3) := by decide +kernel
theorem dj_coder_13 : decode bj_coder 13 = .ok (.iconst 1, 1) := by decide +kernel
theorem dj_coder_14 : decode bj_coder 14 = .ok (.ireturn, 1) := by decide +kernel
abbrev bj_isLatin1 : ByteArray := prog_17_method_154_code
def yj_isLatin1 : MethodName := ⟨"java/lang/String", "isLatin1", "()Z"⟩
theorem dj_isLatin1_0 : decode bj_isLatin1 0 = .ok (.getstatic 38, 3) := by decide +kernel
theorem dj_isLatin1_3 : decode bj_isLatin1 3 = .ok (.ifCond .eq 14, 3) := by decide +kernel
theorem dj_isLatin1_6 : decode bj_isLatin1 6 = .ok (.aload_n 0, 1) := by decide +kernel
theorem dj_isLatin1_7 : decode bj_isLatin1 7 = .ok (.getfield 15, 3) := by decide +kernel
theorem dj_isLatin1_10 : decode bj_isLatin1 10 = .ok (.ifCond .ne 7, 3) := by decide +kernel
theorem dj_isLatin1_13 : decode bj_isLatin1 13 = .ok (.iconst 1, 1) := by decide +kernel
theorem dj_isLatin1_14 : decode bj_isLatin1 14 = .ok (.goto 4, 3) := by decide +kernel
theorem dj_isLatin1_17 : decode bj_isLatin1 17 = .ok (.iconst 0, 1) := by decide +kernel
theorem dj_isLatin1_18 : decode bj_isLatin1 18 = .ok (.ireturn, 1) := by decide +kernel
abbrev bj_check : ByteArray := prog_21_method_11_code
def yj_check : MethodName := ⟨"jdk/internal/util/Preconditions", "checkIndex", "(IILjava/util/function/BiFunction;)I"⟩
theorem dj_check_0 : decode bj_check 0 = .ok (.iload_n 0, 1) := by decide +kernel
theorem dj_check_1 : decode bj_check 1 = .ok (.ifCond .lt 8, 3) := by decide +kernel
theorem dj_check_4 : decode bj_check 4 = .ok (.iload_n 0, 1) := by decide +kernel
theorem dj_check_5 : decode bj_check 5 = .ok (.iload_n 1, 1) := by decide +kernel
theorem dj_check_6 : decode bj_check 6 = .ok (.if_icmp .lt 10, 3) := by decide +kernel
theorem dj_check_9 : decode bj_check 9 = .ok (.aload_n 2, 1) := by decide +kernel
theorem dj_check_10 : decode bj_check 10 = .ok (.iload_n 0, 1) := by decide +kernel
theorem dj_check_11 : decode bj_check 11 = .ok (.iload_n 1, 1) := by decide +kernel
theorem dj_check_12 : decode bj_check 12 = .ok (.invokestatic 95, 3) := by decide +kernel
theorem dj_check_15 : decode bj_check 15 = .ok (.athrow, 1) := by decide +kernel
theorem dj_check_16 : decode bj_check 16 = .ok (.iload_n 0, 1) := by decide +kernel
theorem dj_check_17 : decode bj_check 17 = .ok (.ireturn, 1) := by decide +kernel
abbrev bj_checkIndex : ByteArray := prog_17_method_155_code
def yj_checkIndex : MethodName := ⟨"java/lang/String", "checkIndex", "(II)V"⟩
theorem dj_checkIndex_0 : decode bj_checkIndex 0 = .ok (.iload_n 0, 1) := by decide +kernel
theorem dj_checkIndex_1 : decode bj_checkIndex 1 = .ok (.iload_n 1, 1) := by decide +kernel
theorem dj_checkIndex_2 : decode bj_checkIndex 2 = .ok (.getstatic 1053, 3) := by decide +kernel
theorem dj_checkIndex_5 : decode bj_checkIndex 5 = .ok (.invokestatic 1059, 3) := by decide +kernel
theorem dj_checkIndex_8 : decode bj_checkIndex 8 = .ok (.pop, 1) := by decide +kernel
theorem dj_checkIndex_9 : decode bj_checkIndex 9 = .ok (.return_, 1) := by decide +kernel
abbrev bj_latin : ByteArray := prog_18_method_2_code
def yj_latin : MethodName := ⟨"java/lang/StringLatin1", "charAt", "([BI)C"⟩
theorem dj_latin_0 : decode bj_latin 0 = .ok (.iload_n 1, 1) := by decide +kernel
theorem dj_latin_1 : decode bj_latin 1 = .ok (.aload_n 0, 1) := by decide +kernel
theorem dj_latin_2 : decode bj_latin 2 = .ok (.arraylength, 1) := by decide +kernel
theorem dj_latin_3 : decode bj_latin 3 = .ok (.invokestatic 9, 3) := by decide +kernel
theorem dj_latin_6 : decode bj_latin 6 = .ok (.aload_n 0, 1) := by decide +kernel
theorem dj_latin_7 : decode bj_latin 7 = .ok (.iload_n 1, 1) := by decide +kernel
theorem dj_latin_8 : decode bj_latin 8 = .ok (.baload, 1) := by decide +kernel
theorem dj_latin_9 : decode bj_latin 9 = .ok (.sipush 255, 3) := by decide +kernel
theorem dj_latin_12 : decode bj_latin 12 = .ok (.iand, 1) := by decide +kernel
theorem dj_latin_13 : decode bj_latin 13 = .ok (.i2c, 1) := by decide +kernel
theorem dj_latin_14 : decode bj_latin 14 = .ok (.ireturn, 1) := by decide +kernel
abbrev bj_length : ByteArray := prog_17_method_54_code
def yj_length : MethodName := ⟨"java/lang/String", "length", "()I"⟩
theorem dj_length_0 : decode bj_length 0 = .ok (.aload_n 0, 1) := by decide +kernel
theorem dj_length_1 : decode bj_length 1 = .ok (.getfield 9, 3) := by decide +kernel
theorem dj_length_4 : decode bj_length 4 = .ok (.arraylength, 1) := by decide +kernel
theorem dj_length_5 : decode bj_length 5 = .ok (.aload_n 0, 1) := by decide +kernel
theorem dj_length_6 : decode bj_length 6 = .ok (.invokevirtual 335, 3) := by decide +kernel
theorem dj_length_9 : decode bj_length 9 = .ok (.ishr, 1) := by decide +kernel
theorem dj_length_10 : decode bj_length 10 = .ok (.ireturn, 1) := by decide +kernel
abbrev bj_charAt : ByteArray := prog_17_method_56_code
def yj_charAt : MethodName := ⟨"java/lang/String", "charAt", "(I)C"⟩
theorem dj_charAt_0 : decode bj_charAt 0 = .ok (.aload_n 0, 1) := by decide +kernel
theorem dj_charAt_1 : decode bj_charAt 1 = .ok (.invokevirtual 492, 3) := by decide +kernel
theorem dj_charAt_4 : decode bj_charAt 4 = .ok (.ifCond .eq 12, 3) := by decide +kernel
theorem dj_charAt_7 : decode bj_charAt 7 = .ok (.aload_n 0, 1) := by decide +kernel
theorem dj_charAt_8 : decode bj_charAt 8 = .ok (.getfield 9, 3) := by decide +kernel
theorem dj_charAt_11 : decode bj_charAt 11 = .ok (.iload_n 1, 1) := by decide +kernel
theorem dj_charAt_12 : decode bj_charAt 12 = .ok (.invokestatic 495, 3) := by decide +kernel
theorem dj_charAt_15 : decode bj_charAt 15 = .ok (.ireturn, 1) := by decide +kernel
theorem dj_charAt_16 : decode bj_charAt 16 = .ok (.aload_n 0, 1) := by decide +kernel
theorem dj_charAt_17 : decode bj_charAt 17 = .ok (.getfield 9, 3) := by decide +kernel
theorem dj_charAt_20 : decode bj_charAt 20 = .ok (.iload_n 1, 1) := by decide +kernel
theorem dj_charAt_21 : decode bj_charAt 21 = .ok (.invokestatic 498, 3) := by decide +kernel
theorem dj_charAt_24 : decode bj_charAt 24 = .ok (.ireturn, 1) := by decide +kernel
theorem kjf_value : Cond.fieldLink "java/lang/String" 9 "java/lang/String" "value" "[B" ∈ lw_g := (ss_in 1713 (by decide +kernel) (by decide +kernel))
theorem kjf_coder : Cond.fieldLink "java/lang/String" 15 "java/lang/String" "coder" "B" ∈ lw_g := (ss_in 1714 (by decide +kernel) (by decide +kernel))
theorem kjf_cs : Cond.fieldLink "java/lang/String" 38 "java/lang/String" "COMPACT_STRINGS" "Z" ∈ lw_g := (ss_in 473 (by decide +kernel) (by decide +kernel))
theorem kjf_fm : Cond.fieldLink "java/lang/String" 1053 "jdk/internal/util/Preconditions" "SIOOBE_FORMATTER" "Ljava/util/function/BiFunction;" ∈ lw_g := (ss_in 489 (by decide +kernel) (by decide +kernel))
theorem kjm_coder : ss_mb "java/lang/String" 335 yj_coder bj_coder 1 (some .byte) 0 := ⟨(ss_in 472 (by decide +kernel) (by decide +kernel)), (ss_in 14 (by decide +kernel) (by decide +kernel)), (ss_in 469 (by decide +kernel) (by decide +kernel)), by decide +kernel⟩
theorem kjm_isL : ss_mb "java/lang/String" 492 yj_isLatin1 bj_isLatin1 1 (some .boolean) 0 := ⟨(ss_in 482 (by decide +kernel) (by decide +kernel)), (ss_in 14 (by decide +kernel) (by decide +kernel)), (ss_in 479 (by decide +kernel) (by decide +kernel)), by decide +kernel⟩
theorem kjm_latin : ss_mb "java/lang/String" 495 yj_latin bj_latin 2 (some .char) 2 := ⟨(ss_in 485 (by decide +kernel) (by decide +kernel)), (ss_in 15 (by decide +kernel) (by decide +kernel)), (ss_in 483 (by decide +kernel) (by decide +kernel)), by decide +kernel⟩
theorem kjm_ci : ss_mb "java/lang/StringLatin1" 9 yj_checkIndex bj_checkIndex 2 none 2 := ⟨(ss_in 488 (by decide +kernel) (by decide +kernel)), (ss_in 14 (by decide +kernel) (by decide +kernel)), (ss_in 486 (by decide +kernel) (by decide +kernel)), by decide +kernel⟩
theorem kjm_check : ss_mb "java/lang/String" 1059 yj_check bj_check 3 (some .int) 3 := ⟨(ss_in 493 (by decide +kernel) (by decide +kernel)), (ss_in 16 (by decide +kernel) (by decide +kernel)), (ss_in 491 (by decide +kernel) (by decide +kernel)), by decide +kernel⟩
theorem kji_coder : Cond.instanceMethod yj_coder ∈ lw_g := (ss_in 470 (by decide +kernel) (by decide +kernel))
theorem kje_coder : Cond.selects "java/lang/String" yj_coder yj_coder ∈ lw_g := (ss_in 471 (by decide +kernel) (by decide +kernel))
theorem kji_isLatin1 : Cond.instanceMethod yj_isLatin1 ∈ lw_g := (ss_in 480 (by decide +kernel) (by decide +kernel))
theorem kje_isLatin1 : Cond.selects "java/lang/String" yj_isLatin1 yj_isLatin1 ∈ lw_g := (ss_in 481 (by decide +kernel) (by decide +kernel))
theorem kji_length : Cond.instanceMethod yj_length ∈ lw_g := (ss_in 466 (by decide +kernel) (by decide +kernel))
theorem kje_length : Cond.selects "java/lang/String" yj_length yj_length ∈ lw_g := (ss_in 467 (by decide +kernel) (by decide +kernel))
theorem kji_charAt : Cond.instanceMethod yj_charAt ∈ lw_g := (ss_in 476 (by decide +kernel) (by decide +kernel))
theorem kje_charAt : Cond.selects "java/lang/String" yj_charAt yj_charAt ∈ lw_g := (ss_in 477 (by decide +kernel) (by decide +kernel))
theorem kjs_check : Cond.static yj_check ∈ lw_g := (ss_in 492 (by decide +kernel) (by decide +kernel))
theorem kjs_checkIndex : Cond.static yj_checkIndex ∈ lw_g := (ss_in 487 (by decide +kernel) (by decide +kernel))
theorem kjs_latin : Cond.static yj_latin ∈ lw_g := (ss_in 484 (by decide +kernel) (by decide +kernel))
section SSST
variable {p : Program} {l : Launch} {e : Env} {R : Room} {s : State} {m : MethodId} {args : Array Value} {below : List Frame} {meth : Method} {c : Code} {H : Heap} {locs : List Loc} {cells slots : Nat} {Q : State → Prop}
variable {cc : ByteArray} {nL pc : Nat} {ls : Array Slot} {rest : List Value} {G : ss_G} {h : ss_Hp} {own : String}
/-- a method of a String constant -/
theorem ss_callT (j : Nat) (hj : j < 9) {y : MethodName} {bytes : ByteArray} {maxL : Nat} {ret : Option FieldType} {n index : Nat} {rm : Room} {As st0 : List Value} {w : Value} {h' : ss_Hp} (hC : CallFix p m c cc nL s args lw_g own) (hK : ss_K G s) (hR : ss_R G h H) (hS : va_S (ss_A G) s.heap H locs) (hl : ls.size = nL) (hM : ss_Ct l G y bytes maxL ret rm (.ref (G.2.2.2.1 j) :: As) h (some w) h') (hw : ss_mb own index y bytes maxL ret n) (hin : Cond.instanceMethod y ∈ lw_g) (hsel : Cond.selects "java/lang/String" y y ∈ lw_g)
    (hrm : rm.frames + 1 ≤ R.frames ∧ 8 + (maxL + 11) + rm.locals ≤ R.locals) (hz : rm.cells = 0 ∧ rm.slots = 0) (hst : st0 = As.reverse ++ .ref (G.2.2.2.1 j) :: rest) (hn : As.length = n) (hrest : (rest.map fun v => v.category).sum ≤ 8) (hdg : decode cc pc = .ok (.invokevirtual index, 3)) (hf : cells ≤ R.cells ∧ slots ≤ R.slots)
    (kk : ∀ (H1 : Heap) (locs1 : List Loc), ss_R G h' H1 → va_S (ss_A G) s.heap H1 locs1 → W p l e R s m args below meth c H1 locs1 cells slots Q (F0 m (pc + 3) ls (w :: rest))) : W p l e R s m args below meth c H locs cells slots Q (F0 m pc ls st0) := by
  have hrecv := vk_recv hK.2.2.2.2.1 hj hS
  have hp := ss_pre hK hR hS (.ref (G.2.2.2.1 j) :: As)
  refine ss_back (va_runV (As := As) (b := G.2.2.2.1 j) (C := "java/lang/String") hC hM ⟨ss_cb hC hw hrm, hC.2.2.2.2 _ hin, hC.2.2.2.2 _ hsel⟩ ⟨hp.1, hrecv, hp.2⟩ rfl hn hl hst (lv_room hrest) hdg ⟨by omega, by omega⟩) hS (fun H1 l1 a b => ?_)
  exact W.widen (by omega) (by omega) (kk H1 l1 a b)
end SSST
/-- length and chars of the constants -/
def ss_sl (j : Nat) : Option Int32 := if j < 9 then some (nI (ss_sL.getD j 0)) else none
def ss_ch (j k : Nat) : Int32 := (((ss_sB.getD j []).getD k 0 &&& 255).toUInt32 % 65536).toInt32
def ss_sc (j : Nat) (i : Int32) : Option Int32 := if j < 9 ∧ ¬ i < 0 ∧ i.toNatClampNeg < ss_sL.getD j 0 then some (ss_ch j i.toNatClampNeg) else none
theorem ss_sLb : ∀ j, j < 9 → ss_sL.getD j 0 < 1000 := by decide
set_option maxHeartbeats 4000000 in
set_option maxRecDepth 100000 in
theorem cj_coder (l : Launch) (G : ss_G) (h : ss_Hp) (j : Nat) (hj : j < 9) : ss_Ct l G yj_coder bj_coder 1 (some .byte) ({ frames := 0, cells := 0, slots := 0, locals := 0 }) [.ref (G.2.2.2.1 j)] h (some (.int 0)) h := by
  refine Met.ofW (cc := bj_coder) (maxL := 1) (ret := (some .byte)) (by decide) rfl ?_
  intro p e s m args below meth c s₁ B hml hv
  obtain ⟨rfl, hR, hK⟩ := hv
  have hC : CallFix p m c bj_coder 1 s _ lw_g "java/lang/String" := ⟨B.exec, B.bytes, hml, findClass_of_methodNamed B.named, fun w hw => atoms_spec (ws := ss_w yj_coder bj_coder 1 (some .byte)) B.pre w (List.mem_cons_of_mem _ hw)⟩
  have hx := hC.1
  have hb := hC.2.1
  have hr := B.returns
  have hlocks := B.notSynchronized
  have hS : va_S (ss_A G) s.heap s.heap [] := va_S.rf
  have hl := lv_entry ([.ref (G.2.2.2.1 j)]) (n := 1) (Nat.le_of_ble_eq_true rfl)
  rw [lg_entry_eq]
  generalize (lg_sl ([.ref (G.2.2.2.1 j)]) ++ List.replicate (1 - (lg_sl ([.ref (G.2.2.2.1 j)])).length) Slot.unset).toArray = ls at hl ⊢
  have hl : lv_has ls 1 [(0, .ref (G.2.2.2.1 j))] := hl
  refine va_gets hx hb hK.2.2.2.2.2.1 hS hC.2.2.2.1 (hC.2.2.2.2 _ kjf_cs) (fun _ h9 => h9) dj_coder_0 ?_
  refine lv_if_eq (tgt := 13) hx hb dj_coder_3 (by decide) (fun c1 => absurd c1 (by decide)) (fun c1 => ?_)
  refine lv_aload_n hx hb dj_coder_6 rfl (lv_at hl 0 rfl) ?_
  refine vk_getf hx hb (hK.2.2.2.2.1.1 j hj).2.1 hS hC.2.2.2.1 (hC.2.2.2.2 _ kjf_coder) (fun _ h9 => h9) dj_coder_7 ?_
  refine lv_goto (tgt := 14) hx hb dj_coder_10 (by decide) ?_
  exact ss_zret hC hr (by decide) hlocks hR hS rfl dj_coder_14
set_option maxHeartbeats 4000000 in
set_option maxRecDepth 100000 in
theorem cj_isLatin1 (l : Launch) (G : ss_G) (h : ss_Hp) (j : Nat) (hj : j < 9) : ss_Ct l G yj_isLatin1 bj_isLatin1 1 (some .boolean) ({ frames := 0, cells := 0, slots := 0, locals := 0 }) [.ref (G.2.2.2.1 j)] h (some (.int 1)) h := by
  refine Met.ofW (cc := bj_isLatin1) (maxL := 1) (ret := (some .boolean)) (by decide) rfl ?_
  intro p e s m args below meth c s₁ B hml hv
  obtain ⟨rfl, hR, hK⟩ := hv
  have hC : CallFix p m c bj_isLatin1 1 s _ lw_g "java/lang/String" := ⟨B.exec, B.bytes, hml, findClass_of_methodNamed B.named, fun w hw => atoms_spec (ws := ss_w yj_isLatin1 bj_isLatin1 1 (some .boolean)) B.pre w (List.mem_cons_of_mem _ hw)⟩
  have hx := hC.1
  have hb := hC.2.1
  have hr := B.returns
  have hlocks := B.notSynchronized
  have hS : va_S (ss_A G) s.heap s.heap [] := va_S.rf
  have hl := lv_entry ([.ref (G.2.2.2.1 j)]) (n := 1) (Nat.le_of_ble_eq_true rfl)
  rw [lg_entry_eq]
  generalize (lg_sl ([.ref (G.2.2.2.1 j)]) ++ List.replicate (1 - (lg_sl ([.ref (G.2.2.2.1 j)])).length) Slot.unset).toArray = ls at hl ⊢
  have hl : lv_has ls 1 [(0, .ref (G.2.2.2.1 j))] := hl
  refine va_gets hx hb hK.2.2.2.2.2.1 hS hC.2.2.2.1 (hC.2.2.2.2 _ kjf_cs) (fun _ h9 => h9) dj_isLatin1_0 ?_
  refine lv_if_eq (tgt := 17) hx hb dj_isLatin1_3 (by decide) (fun c1 => absurd c1 (by decide)) (fun c1 => ?_)
  refine lv_aload_n hx hb dj_isLatin1_6 rfl (lv_at hl 0 rfl) ?_
  refine vk_getf hx hb (hK.2.2.2.2.1.1 j hj).2.1 hS hC.2.2.2.1 (hC.2.2.2.2 _ kjf_coder) (fun _ h9 => h9) dj_isLatin1_7 ?_
  refine lv_if_ne (tgt := 17) hx hb dj_isLatin1_10 (by decide) (fun c1 => absurd rfl c1) (fun c1 => ?_)
  refine lv_iconst (v := 1) hx hb dj_isLatin1_13 (by decide) ?_
  refine lv_goto (tgt := 18) hx hb dj_isLatin1_14 (by decide) ?_
  exact ss_zret hC hr (by decide) hlocks hR hS rfl dj_isLatin1_18
set_option maxHeartbeats 4000000 in
set_option maxRecDepth 100000 in
theorem cj_check (l : Launch) (G : ss_G) (h : ss_Hp) (i n : Int32) (v3 : Value) (hv3 : v3.category = 1) (h1 : ¬ i < 0) (h2 : i < n) : ss_Ct l G yj_check bj_check 3 (some .int) ({ frames := 0, cells := 0, slots := 0, locals := 0 }) [.int i, .int n, v3] h (some (.int i)) h := by
  refine Met.ofW (cc := bj_check) (maxL := 3) (ret := (some .int)) (by decide) rfl ?_
  intro p e s m args below meth c s₁ B hml hv
  obtain ⟨rfl, hR, hK⟩ := hv
  have hC : CallFix p m c bj_check 3 s _ lw_g "jdk/internal/util/Preconditions" := ⟨B.exec, B.bytes, hml, findClass_of_methodNamed B.named, fun w hw => atoms_spec (ws := ss_w yj_check bj_check 3 (some .int)) B.pre w (List.mem_cons_of_mem _ hw)⟩
  have hx := hC.1
  have hb := hC.2.1
  have hr := B.returns
  have hlocks := B.notSynchronized
  have hS : va_S (ss_A G) s.heap s.heap [] := va_S.rf
  have hl := lv_entry ([.int i, .int n, v3]) (n := 3) (by simp [lg_sl, hv3, ss_cat_i])
  rw [lg_entry_eq]
  generalize (lg_sl ([.int i, .int n, v3]) ++ List.replicate (3 - (lg_sl ([.int i, .int n, v3])).length) Slot.unset).toArray = ls at hl ⊢
  have hl : lv_has ls 3 [(0, .int i), (1, .int n), (2, v3)] := by simpa [lv_args, hv3, ss_cat_i] using hl
  refine lv_iload_n hx hb dj_check_0 rfl (lv_at hl 0 rfl) ?_
  refine lv_if_lt (tgt := 9) hx hb dj_check_1 (by decide) (fun c1 => absurd c1 h1) (fun c1 => ?_)
  refine lv_iload_n hx hb dj_check_4 rfl (lv_at hl 0 rfl) ?_
  refine lv_iload_n hx hb dj_check_5 rfl (lv_at hl 1 rfl) ?_
  refine lv_icmp_lt (tgt := 16) hx hb dj_check_6 (by decide) (fun c1 => ?_) (fun c1 => absurd h2 c1)
  refine lv_iload_n hx hb dj_check_16 rfl (lv_at hl 0 rfl) ?_
  exact ss_iret hC hr hlocks hR hS rfl dj_check_17
set_option maxHeartbeats 4000000 in
set_option maxRecDepth 100000 in
theorem cj_checkIndex (l : Launch) (G : ss_G) (h : ss_Hp) (i n : Int32) (h1 : ¬ i < 0) (h2 : i < n) : ss_Ct l G yj_checkIndex bj_checkIndex 2 none ({ frames := 1, cells := 0, slots := 0, locals := 30 }) [.int i, .int n] h none h := by
  refine Met.ofW (cc := bj_checkIndex) (maxL := 2) (ret := none) (by decide) rfl ?_
  intro p e s m args below meth c s₁ B hml hv
  obtain ⟨rfl, hR, hK⟩ := hv
  have hC : CallFix p m c bj_checkIndex 2 s _ lw_g "java/lang/String" := ⟨B.exec, B.bytes, hml, findClass_of_methodNamed B.named, fun w hw => atoms_spec (ws := ss_w yj_checkIndex bj_checkIndex 2 none) B.pre w (List.mem_cons_of_mem _ hw)⟩
  have hx := hC.1
  have hb := hC.2.1
  have hr := B.returns
  have hlocks := B.notSynchronized
  have hS : va_S (ss_A G) s.heap s.heap [] := va_S.rf
  have hl := lv_entry ([.int i, .int n]) (n := 2) (Nat.le_of_ble_eq_true rfl)
  rw [lg_entry_eq]
  generalize (lg_sl ([.int i, .int n]) ++ List.replicate (2 - (lg_sl ([.int i, .int n])).length) Slot.unset).toArray = ls at hl ⊢
  have hl : lv_has ls 2 [(0, .int i), (1, .int n)] := hl
  refine lv_iload_n hx hb dj_checkIndex_0 rfl (lv_at hl 0 rfl) ?_
  refine lv_iload_n hx hb dj_checkIndex_1 rfl (lv_at hl 1 rfl) ?_
  obtain ⟨v3, hv3, hz⟩ : ∃ v3 : Value, v3.category = 1 ∧ va_Z "jdk/internal/util/Preconditions" "SIOOBE_FORMATTER" "Ljava/util/function/BiFunction;" v3 (ss_A G) s s.heap := by
    rcases hK.2.2.2.2.2.2 with hz | ⟨t, hz⟩
    · exact ⟨_, rfl, hz⟩
    · exact ⟨_, rfl, hz⟩
  refine va_gets hx hb hz hS hC.2.2.2.1 (hC.2.2.2.2 _ kjf_fm) (fun _ h9 => h9) dj_checkIndex_2 ?_
  refine ss_cS 0 0 (As := [.int i, .int n, v3]) hC hK hR hS hl.1 (cj_check l G h i n v3 hv3 h1 h2) ⟨kjm_check, kjs_check⟩ ⟨Nat.le_of_ble_eq_true rfl, Nat.le_of_ble_eq_true rfl⟩ ⟨Nat.le_of_ble_eq_true rfl, Nat.le_of_ble_eq_true rfl, Nat.le_of_ble_eq_true rfl, Nat.le_of_ble_eq_true rfl⟩ rfl rfl (Nat.le_of_ble_eq_true rfl) dj_checkIndex_5 (fun H locs hR hS => ?_)
  refine lv_pop hx hb dj_checkIndex_8 rfl ?_
  exact ss_vret hC hr hlocks hR hS rfl dj_checkIndex_9
set_option maxHeartbeats 4000000 in
set_option maxRecDepth 100000 in
theorem cj_latin (l : Launch) (G : ss_G) (h : ss_Hp) (j : Nat) (hj : j < 9) (i : Int32) (h1 : ¬ i < 0) (h2 : i.toNatClampNeg < ss_sL.getD j 0) : ss_Ct l G yj_latin bj_latin 2 (some .char) ({ frames := 2, cells := 0, slots := 0, locals := 60 }) [.ref (G.2.2.2.2 j), .int i] h (some (.int (ss_ch j i.toNatClampNeg))) h := by
  refine Met.ofW (cc := bj_latin) (maxL := 2) (ret := (some .char)) (by decide) rfl ?_
  intro p e s m args below meth c s₁ B hml hv
  obtain ⟨rfl, hR, hK⟩ := hv
  have hC : CallFix p m c bj_latin 2 s _ lw_g "java/lang/StringLatin1" := ⟨B.exec, B.bytes, hml, findClass_of_methodNamed B.named, fun w hw => atoms_spec (ws := ss_w yj_latin bj_latin 2 (some .char)) B.pre w (List.mem_cons_of_mem _ hw)⟩
  have hx := hC.1
  have hb := hC.2.1
  have hr := B.returns
  have hlocks := B.notSynchronized
  have hS : va_S (ss_A G) s.heap s.heap [] := va_S.rf
  have hl := lv_entry ([.ref (G.2.2.2.2 j), .int i]) (n := 2) (Nat.le_of_ble_eq_true rfl)
  rw [lg_entry_eq]
  generalize (lg_sl ([.ref (G.2.2.2.2 j), .int i]) ++ List.replicate (2 - (lg_sl ([.ref (G.2.2.2.2 j), .int i])).length) Slot.unset).toArray = ls at hl ⊢
  have hl : lv_has ls 2 [(0, .ref (G.2.2.2.2 j)), (1, .int i)] := hl
  have hT := (hK.2.2.2.2.1.1 j hj).2.2.2
  obtain ⟨cell, t1, t2, t3, t4, t5, t6, t7⟩ := id hT
  have hlt : i < Int32.ofNat (ss_sL.getD j 0) := by
    have hb1 := ss_sLb j hj
    obtain ⟨k, hk, rfl⟩ := nI_of h1
    rw [nI_clamp hk] at h2
    exact nI_lt h2 (by omega)
  refine lv_iload_n hx hb dj_latin_0 rfl (lv_at hl 1 rfl) ?_
  refine lv_aload_n hx hb dj_latin_1 rfl (lv_at hl 0 rfl) ?_
  refine W.alen (n := Int32.ofNat (ss_sL.getD j 0)) hx hb t1 t2 t5 rfl rfl dj_latin_2 ?_
  refine ss_callS (As := [.int i, .int (Int32.ofNat (ss_sL.getD j 0))]) hC hK hR hS hl.1 (cj_checkIndex l G h i _ h1 hlt) ⟨kjm_ci, kjs_checkIndex⟩ ⟨Nat.le_of_ble_eq_true rfl, Nat.le_of_ble_eq_true rfl⟩ rfl rfl (Nat.le_of_ble_eq_true rfl) dj_latin_3 ⟨Nat.le_of_ble_eq_true rfl, Nat.le_of_ble_eq_true rfl⟩ (fun H locs hR hS => ?_)
  refine W.eq (g2 := F0 m 6 ls []) rfl ?_
  refine lv_aload_n hx hb dj_latin_6 rfl (lv_at hl 0 rfl) ?_
  refine lv_iload_n hx hb dj_latin_7 rfl (lv_at hl 1 rfl) ?_
  obtain ⟨cell2, u1, u2, u3, u4, u5, u6, u7⟩ := hT.kept hS.2.1
  refine W.bald (v := .int ((ss_sB.getD j []).getD i.toNatClampNeg 0)) hx hb u1 u2 u3 (fun q => ?_) (u6 _ h2) rfl rfl dj_latin_8 ?_
  · rcases q with q | q
    · exact h1 q
    · omega
  refine lv_sipush (v := 255) hx hb dj_latin_9 (by decide) ?_
  refine lv_iand hx hb dj_latin_12 ?_
  refine lv_i2c hx hb dj_latin_13 rfl ?_
  refine W.widen (k := 0) (n := 0) (Nat.le_of_ble_eq_true rfl) (Nat.le_of_ble_eq_true rfl) ?_
  exact ss_zret hC hr (pk_nc _) hlocks hR hS rfl dj_latin_14
set_option maxHeartbeats 4000000 in
set_option maxRecDepth 100000 in
theorem cj_length (l : Launch) (G : ss_G) (h : ss_Hp) (j : Nat) (hj : j < 9) : ss_Ct l G yj_length bj_length 1 (some .int) ({ frames := 1, cells := 0, slots := 0, locals := 30 }) [.ref (G.2.2.2.1 j)] h (some (.int (nI (ss_sL.getD j 0)))) h := by
  refine Met.ofW (cc := bj_length) (maxL := 1) (ret := (some .int)) (by decide) rfl ?_
  intro p e s m args below meth c s₁ B hml hv
  obtain ⟨rfl, hR, hK⟩ := hv
  have hC : CallFix p m c bj_length 1 s _ lw_g "java/lang/String" := ⟨B.exec, B.bytes, hml, findClass_of_methodNamed B.named, fun w hw => atoms_spec (ws := ss_w yj_length bj_length 1 (some .int)) B.pre w (List.mem_cons_of_mem _ hw)⟩
  have hx := hC.1
  have hb := hC.2.1
  have hr := B.returns
  have hlocks := B.notSynchronized
  have hS : va_S (ss_A G) s.heap s.heap [] := va_S.rf
  have hl := lv_entry ([.ref (G.2.2.2.1 j)]) (n := 1) (Nat.le_of_ble_eq_true rfl)
  rw [lg_entry_eq]
  generalize (lg_sl ([.ref (G.2.2.2.1 j)]) ++ List.replicate (1 - (lg_sl ([.ref (G.2.2.2.1 j)])).length) Slot.unset).toArray = ls at hl ⊢
  have hl : lv_has ls 1 [(0, .ref (G.2.2.2.1 j))] := hl
  obtain ⟨cell, t1, t2, t3, t4, t5, t6, t7⟩ := (hK.2.2.2.2.1.1 j hj).2.2.2
  refine lv_aload_n hx hb dj_length_0 rfl (lv_at hl 0 rfl) ?_
  refine vk_getf hx hb (hK.2.2.2.2.1.1 j hj).2.2.1 hS hC.2.2.2.1 (hC.2.2.2.2 _ kjf_value) (fun _ h9 => h9) dj_length_1 ?_
  refine W.alen (n := Int32.ofNat (ss_sL.getD j 0)) hx hb t1 t2 t5 rfl rfl dj_length_4 ?_
  refine lv_aload_n hx hb dj_length_5 rfl (lv_at hl 0 rfl) ?_
  refine ss_callT j hj (As := []) hC hK hR hS hl.1 (cj_coder l G h j hj) kjm_coder kji_coder kje_coder ⟨Nat.le_of_ble_eq_true rfl, Nat.le_of_ble_eq_true rfl⟩ ⟨rfl, rfl⟩ rfl rfl (Nat.le_of_ble_eq_true rfl) dj_length_6 ⟨Nat.le_of_ble_eq_true rfl, Nat.le_of_ble_eq_true rfl⟩ (fun H locs hR hS => ?_)
  refine lv_ishr hx hb dj_length_9 ?_
  refine ss_topi (y := nI (ss_sL.getD j 0)) ?_ ?_
  · have hb1 := ss_sLb j hj
    rw [show ((0 : Int32) &&& 31) = 0 by decide]
    show some (nI (ss_sL.getD j 0) >>> (0 : Int32)) = _
    rw [pk_shrN (by omega) 0 0 (by decide), Nat.pow_zero, Nat.div_one]
  exact ss_iret hC hr hlocks hR hS rfl dj_length_10
set_option maxHeartbeats 4000000 in
set_option maxRecDepth 100000 in
theorem cj_charAt (l : Launch) (G : ss_G) (h : ss_Hp) (j : Nat) (hj : j < 9) (i : Int32) (h1 : ¬ i < 0) (h2 : i.toNatClampNeg < ss_sL.getD j 0) : ss_Ct l G yj_charAt bj_charAt 2 (some .char) ({ frames := 3, cells := 0, slots := 0, locals := 90 }) [.ref (G.2.2.2.1 j), .int i] h (some (.int (ss_ch j i.toNatClampNeg))) h := by
  refine Met.ofW (cc := bj_charAt) (maxL := 2) (ret := (some .char)) (by decide) rfl ?_
  intro p e s m args below meth c s₁ B hml hv
  obtain ⟨rfl, hR, hK⟩ := hv
  have hC : CallFix p m c bj_charAt 2 s _ lw_g "java/lang/String" := ⟨B.exec, B.bytes, hml, findClass_of_methodNamed B.named, fun w hw => atoms_spec (ws := ss_w yj_charAt bj_charAt 2 (some .char)) B.pre w (List.mem_cons_of_mem _ hw)⟩
  have hx := hC.1
  have hb := hC.2.1
  have hr := B.returns
  have hlocks := B.notSynchronized
  have hS : va_S (ss_A G) s.heap s.heap [] := va_S.rf
  have hl := lv_entry ([.ref (G.2.2.2.1 j), .int i]) (n := 2) (Nat.le_of_ble_eq_true rfl)
  rw [lg_entry_eq]
  generalize (lg_sl ([.ref (G.2.2.2.1 j), .int i]) ++ List.replicate (2 - (lg_sl ([.ref (G.2.2.2.1 j), .int i])).length) Slot.unset).toArray = ls at hl ⊢
  have hl : lv_has ls 2 [(0, .ref (G.2.2.2.1 j)), (1, .int i)] := hl
  refine lv_aload_n hx hb dj_charAt_0 rfl (lv_at hl 0 rfl) ?_
  refine ss_callT j hj (As := []) hC hK hR hS hl.1 (cj_isLatin1 l G h j hj) kjm_isL kji_isLatin1 kje_isLatin1 ⟨Nat.le_of_ble_eq_true rfl, Nat.le_of_ble_eq_true rfl⟩ ⟨rfl, rfl⟩ rfl rfl (Nat.le_of_ble_eq_true rfl) dj_charAt_1 ⟨Nat.le_of_ble_eq_true rfl, Nat.le_of_ble_eq_true rfl⟩ (fun H locs hR hS => ?_)
  refine lv_if_eq (tgt := 16) hx hb dj_charAt_4 (by decide) (fun c1 => absurd c1 (by decide)) (fun c1 => ?_)
  refine lv_aload_n hx hb dj_charAt_7 rfl (lv_at hl 0 rfl) ?_
  refine vk_getf hx hb (hK.2.2.2.2.1.1 j hj).2.2.1 hS hC.2.2.2.1 (hC.2.2.2.2 _ kjf_value) (fun _ h9 => h9) dj_charAt_8 ?_
  refine lv_iload_n hx hb dj_charAt_11 rfl (lv_at hl 1 rfl) ?_
  refine ss_cS 0 0 (As := [.ref (G.2.2.2.2 j), .int i]) hC hK hR hS hl.1 (cj_latin l G h j hj i h1 h2) ⟨kjm_latin, kjs_latin⟩ ⟨Nat.le_of_ble_eq_true rfl, Nat.le_of_ble_eq_true rfl⟩ ⟨Nat.le_of_ble_eq_true rfl, Nat.le_of_ble_eq_true rfl, Nat.le_of_ble_eq_true rfl, Nat.le_of_ble_eq_true rfl⟩ rfl rfl (Nat.le_of_ble_eq_true rfl) dj_charAt_12 (fun H locs hR hS => ?_)
  exact ss_zret hC hr (pk_nc _) hlocks hR hS rfl dj_charAt_15
section SSSU
variable {p : Program} {l : Launch} {e : Env} {R : Room} {s : State} {m : MethodId} {args : Array Value} {below : List Frame} {meth : Method} {c : Code} {H : Heap} {locs : List Loc} {cells slots : Nat} {Q : State → Prop}
variable {cc : ByteArray} {nL pc : Nat} {ls : Array Slot} {rest : List Value} {G : ss_G} {h : ss_Hp} {own : String}
def ss_ks (own : String) (index : Nat) : Prop := ss_mb own index yj_length bj_length 1 (some .int) 0
def ss_kc (own : String) (index : Nat) : Prop := ss_mb own index yj_charAt bj_charAt 2 (some .char) 1
theorem ss_slen {j index : Nat} {v : Int32} (hC : CallFix p m c cc nL s args lw_g own) (hK : ss_K G s) (hR : ss_R G h H) (hS : va_S (ss_A G) s.heap H locs) (hl : ls.size = nL) (hv : ss_sl j = some v) (hw : ss_ks own index) (hfr : 8 ≤ R.frames) (hlo : 200 ≤ R.locals) (hf : cells ≤ R.cells ∧ slots ≤ R.slots) (hrest : (rest.map fun v => v.category).sum ≤ 8) (hdg : decode cc pc = .ok (.invokevirtual index, 3))
    (kk : ∀ (H1 : Heap) (locs1 : List Loc), ss_R G h H1 → va_S (ss_A G) s.heap H1 locs1 → W p l e R s m args below meth c H1 locs1 cells slots Q (F0 m (pc + 3) ls (.int v :: rest))) : W p l e R s m args below meth c H locs cells slots Q (F0 m pc ls (.ref (G.2.2.2.1 j) :: rest)) := by
  obtain ⟨hj, hv⟩ := ss_chk hv
  cases hv
  exact ss_callT j hj (As := []) hC hK hR hS hl (cj_length l G h j hj) hw kji_length kje_length ⟨by show 1 + 1 ≤ R.frames; omega, by show 8 + (1 + 11) + 30 ≤ R.locals; omega⟩ ⟨rfl, rfl⟩ rfl rfl hrest hdg hf kk
theorem ss_schr {j index : Nat} {i v : Int32} (hC : CallFix p m c cc nL s args lw_g own) (hK : ss_K G s) (hR : ss_R G h H) (hS : va_S (ss_A G) s.heap H locs) (hl : ls.size = nL) (hv : ss_sc j i = some v) (hw : ss_kc own index) (hfr : 8 ≤ R.frames) (hlo : 200 ≤ R.locals) (hf : cells ≤ R.cells ∧ slots ≤ R.slots) (hrest : (rest.map fun v => v.category).sum ≤ 8) (hdg : decode cc pc = .ok (.invokevirtual index, 3))
    (kk : ∀ (H1 : Heap) (locs1 : List Loc), ss_R G h H1 → va_S (ss_A G) s.heap H1 locs1 → W p l e R s m args below meth c H1 locs1 cells slots Q (F0 m (pc + 3) ls (.int v :: rest))) : W p l e R s m args below meth c H locs cells slots Q (F0 m pc ls (.int i :: .ref (G.2.2.2.1 j) :: rest)) := by
  obtain ⟨⟨hj, h1, h2⟩, hv⟩ := ss_chk hv
  cases hv
  exact ss_callT j hj (As := [.int i]) hC hK hR hS hl (cj_charAt l G h j hj i h1 h2) hw kji_charAt kje_charAt ⟨by show 3 + 1 ≤ R.frames; omega, by show 8 + (2 + 11) + 90 ≤ R.locals; omega⟩ ⟨rfl, rfl⟩ rfl rfl hrest hdg hf kk
end SSSU
theorem ss_sr_0 {G : ss_G} {s : State} (hK : ss_K G s) : vk_R sR_6 48 "valley step house path wall need" (G.2.2.2.1 0) s := hK.2.2.2.1.1
theorem ss_sr_1 {G : ss_G} {s : State} (hK : ss_K G s) : vk_R sR_4 68 "sweep" (G.2.2.2.1 1) s := hK.2.2.2.1.2.1
theorem ss_sr_2 {G : ss_G} {s : State} (hK : ss_K G s) : vk_R sR_4 115 "house step own snow strength swept before closed needed next beside day" (G.2.2.2.1 2) s := hK.2.2.2.1.2.2.1
theorem ss_sr_3 {G : ss_G} {s : State} (hK : ss_K G s) : vk_R sR_4 103 "+-*/%" (G.2.2.2.1 3) s := hK.2.2.2.1.2.2.2.1
theorem ss_sr_4 {G : ss_G} {s : State} (hK : ss_K G s) : vk_R sR_4 50 "if" (G.2.2.2.1 4) s := hK.2.2.2.1.2.2.2.2.1
theorem ss_sr_5 {G : ss_G} {s : State} (hK : ss_K G s) : vk_R sR_4 83 "not" (G.2.2.2.1 5) s := hK.2.2.2.1.2.2.2.2.2.1
theorem ss_sr_6 {G : ss_G} {s : State} (hK : ss_K G s) : vk_R sR_2 54 "<=>" (G.2.2.2.1 6) s := hK.2.2.2.1.2.2.2.2.2.2.1
theorem ss_sr_7 {G : ss_G} {s : State} (hK : ss_K G s) : vk_R sR_4 79 "and" (G.2.2.2.1 7) s := hK.2.2.2.1.2.2.2.2.2.2.2.1
theorem ss_sr_8 {G : ss_G} {s : State} (hK : ss_K G s) : vk_R sR_4 81 "or" (G.2.2.2.1 8) s := hK.2.2.2.1.2.2.2.2.2.2.2.2
