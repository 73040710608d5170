/-! ===== references in locals, calls, ends ===== -/
section SSCA
variable {p : Program} {l : Launch} {e : Env} {R : Room} {s : State} {m : MethodId} {args : Array Value} {below : List Frame} {meth : Method} {c : Code} {H : Heap} {locs : List Loc} {cells slots : Nat} {Q : State → Prop}
variable {cc : ByteArray} {nL pc : Nat} {ls : Array Slot} {rest : List Value} {G : ss_G} {h : ss_Hp} {own : String}
theorem ss_aload_n (hexec : p.tables.exec = Jvm.exec) (hb : c.code = cc) {k : Fin 4} {i b : Nat} {r : Option Nat} (hdg : decode cc pc = .ok (.aload_n k, 1)) (hi : (k : Nat) = i) (hl : ls[i]? = some (.val (ss_v b r)))
    (kk : W p l e R s m args below meth c H locs cells slots Q (F0 m (pc + 1) ls (ss_v b r :: rest))) : W p l e R s m args below meth c H locs cells slots Q (F0 m pc ls rest) := by
  cases r with
  | none => exact lv_aload_nN hexec hb hdg hi hl kk
  | some a => exact lv_aload_n hexec hb hdg hi hl kk
theorem ss_aload (hexec : p.tables.exec = Jvm.exec) (hb : c.code = cc) {i b : Nat} {r : Option Nat} (hdg : decode cc pc = .ok (.aload i, 2)) (hl : ls[i]? = some (.val (ss_v b r)))
    (kk : W p l e R s m args below meth c H locs cells slots Q (F0 m (pc + 2) ls (ss_v b r :: rest))) : W p l e R s m args below meth c H locs cells slots Q (F0 m pc ls rest) := by
  cases r with
  | none => exact lv_aloadN hexec hb hdg hl kk
  | some a => exact lv_aload hexec hb hdg hl kk
theorem ss_astore_n (hexec : p.tables.exec = Jvm.exec) (hb : c.code = cc) {k : Fin 4} {i nL b : Nat} {r : Option Nat} {lv lv' : List (Nat × Value)} (hdg : decode cc pc = .ok (.astore_n k, 1)) (hi : (k : Nat) = i) (hh : lv_has ls nL lv) (hn : i < nL) (hl : (i, ss_v b r) :: lv.filter (fun q => !(q.1 == i) && !(q.1 + 1 == i && q.2.category == 2)) = lv')
    (kk : ∀ ls' : Array Slot, lv_has ls' nL lv' → W p l e R s m args below meth c H locs cells slots Q (F0 m (pc + 1) ls' rest)) : W p l e R s m args below meth c H locs cells slots Q (F0 m pc ls (ss_v b r :: rest)) := by
  cases r with
  | none => exact lv_astore_nN hexec hb hdg hi hh hn hl kk
  | some a => exact lv_astore_n hexec hb hdg hi hh hn hl kk
theorem ss_astore (hexec : p.tables.exec = Jvm.exec) (hb : c.code = cc) {i nL b : Nat} {r : Option Nat} {lv lv' : List (Nat × Value)} (hdg : decode cc pc = .ok (.astore i, 2)) (hh : lv_has ls nL lv) (hn : i < nL) (hl : (i, ss_v b r) :: lv.filter (fun q => !(q.1 == i) && !(q.1 + 1 == i && q.2.category == 2)) = lv')
    (kk : ∀ ls' : Array Slot, lv_has ls' nL lv' → W p l e R s m args below meth c H locs cells slots Q (F0 m (pc + 2) ls' rest)) : W p l e R s m args below meth c H locs cells slots Q (F0 m pc ls (ss_v b r :: rest)) := by
  cases r with
  | none => exact lv_astoreN hexec hb hdg hh hn hl kk
  | some a => exact lv_astore hexec hb hdg hh hn hl kk
theorem ss_ifnonnull (hexec : p.tables.exec = Jvm.exec) (hb : c.code = cc) {b : Nat} {r : Option Nat} {off : Int} {tgt : Nat} (hdg : decode cc pc = .ok (.ifnonnull off, 3)) (ht : (pc : Int) + off = (tgt : Int))
    (kt : r.isSome = true → W p l e R s m args below meth c H locs cells slots Q (F0 m tgt ls rest)) (kf : ¬ r.isSome = true → W p l e R s m args below meth c H locs cells slots Q (F0 m (pc + 3) ls rest)) : W p l e R s m args below meth c H locs cells slots Q (F0 m pc ls (ss_v b r :: rest)) := by
  cases r with
  | none => exact lv_ifnonnullN hexec hb hdg (kf (by decide))
  | some a => exact lv_ifnonnull hexec hb hdg ht (kt rfl)
theorem ss_ifnull (hexec : p.tables.exec = Jvm.exec) (hb : c.code = cc) {b : Nat} {r : Option Nat} {off : Int} {tgt : Nat} (hdg : decode cc pc = .ok (.ifnull off, 3)) (ht : (pc : Int) + off = (tgt : Int))
    (kt : ¬ r.isSome = true → W p l e R s m args below meth c H locs cells slots Q (F0 m tgt ls rest)) (kf : r.isSome = true → W p l e R s m args below meth c H locs cells slots Q (F0 m (pc + 3) ls rest)) : W p l e R s m args below meth c H locs cells slots Q (F0 m pc ls (ss_v b r :: rest)) := by
  cases r with
  | none => exact lv_ifnullN hexec hb hdg ht (kt (by decide))
  | some a => exact lv_ifnull hexec hb hdg (kf rfl)
theorem ss_null (hexec : p.tables.exec = Jvm.exec) (hb : c.code = cc) (b : Nat) (hdg : decode cc pc = .ok (.aconst_null, 1)) (k : W p l e R s m args below meth c H locs cells slots Q (F0 m (pc + 1) ls (ss_v b none :: rest))) : W p l e R s m args below meth c H locs cells slots Q (F0 m pc ls rest) := lv_null hexec hb hdg k
theorem ss_dupr (hexec : p.tables.exec = Jvm.exec) (hb : c.code = cc) {b : Nat} {r : Option Nat} (hdg : decode cc pc = .ok (.dup, 1)) (k : W p l e R s m args below meth c H locs cells slots Q (F0 m (pc + 1) ls (ss_v b r :: ss_v b r :: rest))) : W p l e R s m args below meth c H locs cells slots Q (F0 m pc ls (ss_v b r :: rest)) := lv_dup hexec hb hdg (ss_v_cat b r) k
theorem ss_dup2ir (hexec : p.tables.exec = Jvm.exec) (hb : c.code = cc) {b : Nat} {r : Option Nat} {i : Int32} (hdg : decode cc pc = .ok (.dup2, 1)) (k : W p l e R s m args below meth c H locs cells slots Q (F0 m (pc + 1) ls (.int i :: ss_v b r :: .int i :: ss_v b r :: rest))) : W p l e R s m args below meth c H locs cells slots Q (F0 m pc ls (.int i :: ss_v b r :: rest)) := lv_dup2_11 hexec hb hdg rfl (ss_v_cat b r) k
/-- a value gets the name that the pure text gives it -/
theorem ss_topi {x y : Int32} (h : some x = some y) (k : W p l e R s m args below meth c H locs cells slots Q (F0 m pc ls (.int y :: rest))) : W p l e R s m args below meth c H locs cells slots Q (F0 m pc ls (.int x :: rest)) := by cases h; exact k
theorem ss_topl {x y : Int64} (h : some x = some y) (k : W p l e R s m args below meth c H locs cells slots Q (F0 m pc ls (.long y :: rest))) : W p l e R s m args below meth c H locs cells slots Q (F0 m pc ls (.long x :: rest)) := by cases h; exact k
theorem ss_idiv (hexec : p.tables.exec = Jvm.exec) (hb : c.code = cc) {x y v : Int32} (hv : ss_div x y = some v) (hdg : decode cc pc = .ok (.idiv, 1)) (k : W p l e R s m args below meth c H locs cells slots Q (F0 m (pc + 1) ls (.int v :: rest))) : W p l e R s m args below meth c H locs cells slots Q (F0 m pc ls (.int y :: .int x :: rest)) := by
  rw [ss_div] at hv
  split at hv
  · cases hv
  · next hn => cases hv; exact lv_idiv hexec hb hdg hn k
theorem ss_irem (hexec : p.tables.exec = Jvm.exec) (hb : c.code = cc) {x y v : Int32} (hv : ss_rem x y = some v) (hdg : decode cc pc = .ok (.irem, 1)) (k : W p l e R s m args below meth c H locs cells slots Q (F0 m (pc + 1) ls (.int v :: rest))) : W p l e R s m args below meth c H locs cells slots Q (F0 m pc ls (.int y :: .int x :: rest)) := by
  rw [ss_rem] at hv
  split at hv
  · cases hv
  · next hn => cases hv; exact lv_irem hexec hb hdg hn k
theorem ss_ldv (hexec : p.tables.exec = Jvm.exec) (hb : c.code = cc) {x y v : Int64} (hv : ss_ldiv x y = some v) (hdg : decode cc pc = .ok (.ldiv, 1)) (k : W p l e R s m args below meth c H locs cells slots Q (F0 m (pc + 1) ls (.long v :: rest))) : W p l e R s m args below meth c H locs cells slots Q (F0 m pc ls (.long y :: .long x :: rest)) := by
  rw [ss_ldiv] at hv
  split at hv
  · cases hv
  · next hn => cases hv; exact lv_ldiv hexec hb hdg hn k
theorem ss_lrm (hexec : p.tables.exec = Jvm.exec) (hb : c.code = cc) {x y v : Int64} (hv : ss_lrem x y = some v) (hdg : decode cc pc = .ok (.lrem, 1)) (k : W p l e R s m args below meth c H locs cells slots Q (F0 m (pc + 1) ls (.long v :: rest))) : W p l e R s m args below meth c H locs cells slots Q (F0 m pc ls (.long y :: .long x :: rest)) := by
  rw [ss_lrem] at hv
  split at hv
  · cases hv
  · next hn => cases hv; exact lv_lrem hexec hb hdg hn k
/-- ends -/
theorem ss_q {t : State} {locs' : List Loc} (hR : ss_R G h H) (hS : va_S (ss_A G) s.heap H locs') (ht : t.heap = H) (r : Option Value) (a : Array Value) : ss_Qc G r h a s (.returned r) t := ⟨rfl, by rw [ht]; exact hR, hS.F ht⟩
theorem ss_iret {v v' : Int32} {h' : ss_Hp} (hC : CallFix p m c cc nL s args lw_g own) (hr : meth.sig.returnType = some .int) (hlocks : meth.locks = false) (hR : ss_R G h H) (hS : va_S (ss_A G) s.heap H locs) (hm : some (v, h) = some (v', h')) (hdg : decode cc pc = .ok (.ireturn, 1)) : W p l e R s m args below meth c H locs cells slots (MQ below (ss_Qc G (some (.int v')) h') args s cells slots (ss_A G)) (F0 m pc ls [.int v]) := by
  cases hm
  exact W.iret hC.1 hC.2.1 hr (fun t ht _ => ss_q hR hS ht _ _) hS.2.2 hdg hlocks
theorem ss_zret {v v' : Int32} {h' : ss_Hp} {ty : FieldType} (hC : CallFix p m c cc nL s args lw_g own) (hr : meth.sig.returnType = some ty) (hn : narrow ty (.int v) = .int v) (hlocks : meth.locks = false) (hR : ss_R G h H) (hS : va_S (ss_A G) s.heap H locs) (hm : some (v, h) = some (v', h')) (hdg : decode cc pc = .ok (.ireturn, 1)) : W p l e R s m args below meth c H locs cells slots (MQ below (ss_Qc G (some (.int v')) h') args s cells slots (ss_A G)) (F0 m pc ls [.int v]) := by
  cases hm
  exact W.zret hC.1 hC.2.1 hr hn (fun t ht _ => ss_q hR hS ht _ _) hS.2.2 hdg hlocks
theorem ss_lret {v v' : Int64} {h' : ss_Hp} (hC : CallFix p m c cc nL s args lw_g own) (hr : meth.sig.returnType = some .long) (hlocks : meth.locks = false) (hR : ss_R G h H) (hS : va_S (ss_A G) s.heap H locs) (hm : some (v, h) = some (v', h')) (hdg : decode cc pc = .ok (.lreturn, 1)) : W p l e R s m args below meth c H locs cells slots (MQ below (ss_Qc G (some (.long v')) h') args s cells slots (ss_A G)) (F0 m pc ls [.long v]) := by
  cases hm
  exact W.lret hC.1 hC.2.1 hr (fun t ht _ => ss_q hR hS ht _ _) hS.2.2 hdg hlocks
theorem ss_aret {v v' : Option Nat} {h' : ss_Hp} {rt : FieldType} (hC : CallFix p m c cc nL s args lw_g own) (hr : meth.sig.returnType = some rt) (hrt : (∃ n, rt = .object n) ∨ ∃ t, rt = .array t) (hlocks : meth.locks = false) (hR : ss_R G h H) (hS : va_S (ss_A G) s.heap H locs) (hm : some (v, h) = some (v', h')) (hdg : decode cc pc = .ok (.areturn, 1)) : W p l e R s m args below meth c H locs cells slots (MQ below (ss_Qc G (some (ss_v (ss_b G) v')) h') args s cells slots (ss_A G)) (F0 m pc ls [ss_v (ss_b G) v]) := by
  cases hm
  exact W.aret hC.1 hC.2.1 hr hrt (by cases v; exact Or.inl rfl; exact Or.inr ⟨_, rfl⟩) (fun t ht _ => ss_q hR hS ht _ _) hS.2.2 hdg hlocks
theorem ss_vret {h' : ss_Hp} (hC : CallFix p m c cc nL s args lw_g own) (hr : meth.sig.returnType = none) (hlocks : meth.locks = false) (hR : ss_R G h H) (hS : va_S (ss_A G) s.heap H locs) (hm : some h = some h') (hdg : decode cc pc = .ok (.return_, 1)) : W p l e R s m args below meth c H locs cells slots (MQ below (ss_Qc G none h') args s cells slots (ss_A G)) (F0 m pc ls []) := by
  cases hm
  exact W.vret hC.1 hC.2.1 hr (fun t ht _ => ss_q hR hS ht _ _) hS.2.2 hdg hlocks
/-- a call that came back -/
theorem ss_back {mc ms : Nat} {h' : ss_Hp} {st0 : List Value} {rv : Option Value} {av : Array Value} (hr : va_Run p l e R s m args below meth c H locs cells slots mc ms (F0 m pc ls st0) rest (ss_Qc G rv h' av) (ss_A G)) (hS : va_S (ss_A G) s.heap H locs)
    (kk : ∀ (H1 : Heap) (locs1 : List Loc), ss_R G h' H1 → va_S (ss_A G) s.heap H1 locs1 → W p l e R s m args below meth c H1 locs1 (cells + mc) (slots + ms) Q (F0 m (pc + 3) ls (rv.toList ++ rest))) : W p l e R s m args below meth c H locs cells slots Q (F0 m pc ls st0) := by
  intro T hT X
  obtain ⟨v, st₀, t, T', L, h0, X', hL, e1, e2, ⟨hv, hR', hz, hk⟩, st⟩ := hr T hT X
  cases hv
  rw [h0] at hz hk
  obtain ⟨t2, a1, b1⟩ := kk T'.heap (locs ++ L) (by rw [e1]; exact hR') ⟨Nat.le_trans hS.1 (by rw [e1]; exact hz), fun q h1 h2 => by rw [e1, hk q (Nat.lt_of_lt_of_le h1 hS.1) h2]; exact hS.2.1 q h1 h2, fun q hq => by
      rcases List.mem_append.mp hq with h | h
      · exact hS.2.2 q h
      · exact hL q h⟩ T' rfl X'
  exact ⟨t2, st t2 a1, b1⟩
def ss_mb (own : String) (index : Nat) (y : MethodName) (bytes : ByteArray) (maxL : Nat) (ret : Option FieldType) (n : Nat) : Prop := Cond.code y bytes maxL ret ∈ lw_g ∧ Cond.initialized y.cls ∈ lw_g ∧ Cond.methodLink own index y ∈ lw_g ∧ (y.cls ≠ "java/lang/invoke/MethodHandle" ∧ y.cls ≠ "java/lang/invoke/VarHandle" ∧ (parseMethodDescriptor y.desc).map (fun d => d.parameters.length) = some n)
def ss_mv (own : String) (index : Nat) (y : MethodName) (bytes : ByteArray) (maxL : Nat) (ret : Option FieldType) (n ci : Nat) : Prop := ss_mb own index y bytes maxL ret n ∧ Cond.instanceMethod y ∈ lw_g ∧ Cond.selects y.cls y y ∈ lw_g ∧ (ss_cl[ci]?).map (fun q => q.1) = some y.cls
def ss_ms (own : String) (index : Nat) (y : MethodName) (bytes : ByteArray) (maxL : Nat) (ret : Option FieldType) (n : Nat) : Prop := ss_mb own index y bytes maxL ret n ∧ Cond.static y ∈ lw_g
def ss_mi (own : String) (index : Nat) (y : MethodName) (bytes : ByteArray) (maxL : Nat) (n : Nat) : Prop := ss_mb own index y bytes maxL none n ∧ y.name = "<init>" ∧ Cond.instanceMethod y ∈ lw_g
theorem ss_cb {y : MethodName} {bytes : ByteArray} {maxL : Nat} {ret : Option FieldType} {n index : Nat} {rm : Room} (hC : CallFix p m c cc nL s args lw_g own) (hw : ss_mb own index y bytes maxL ret n) (hrm : rm.frames + 1 ≤ R.frames ∧ 8 + (maxL + 11) + rm.locals ≤ R.locals) : CallB R s args own index y bytes maxL ret (ss_w y bytes maxL ret) rm rm.cells rm.slots n :=
  callB_of n hC.2.2.2.2 (ss_goodIn hw.1) rfl rfl rfl (hC.2.2.2.2 _ hw.2.1) (hC.2.2.2.2 _ hw.2.2.1) hw.2.2.2 hrm
theorem ss_pre (hK : ss_K G s) (hR : ss_R G h H) (hS : va_S (ss_A G) s.heap H locs) (av : List Value) : PreS s H (ss_Pc G av h) av := ⟨ss_blind G av h, fun U hU hW => ⟨rfl, by rw [hU]; exact hR, hK.warm hS hU hW⟩⟩
theorem ss_callV {y : MethodName} {bytes : ByteArray} {maxL : Nat} {ret : Option FieldType} {n index ci : Nat} {rm : Room} {r : Option Nat} {As st0 : List Value} {rv : Option Value} {h' : ss_Hp} (hC : CallFix p m c cc nL s args lw_g own) (hK : ss_K G s) (hR : ss_R G h H) (hS : va_S (ss_A G) s.heap H locs) (hl : ls.size = nL) (hM : ss_Ct l G y bytes maxL ret rm (ss_v (ss_b G) r :: As) h rv h') (hw : ss_mv own index y bytes maxL ret n ci) (hchk : ss_is h r ci = true)
    (hrm : rm.frames + 1 ≤ R.frames ∧ 8 + (maxL + 11) + rm.locals ≤ R.locals) (hst : st0 = As.reverse ++ ss_v (ss_b G) r :: rest) (hn : As.length = n) (hrest : (rest.map fun v => v.category).sum ≤ 8) (hdg : decode cc pc = .ok (.invokevirtual index, 3)) (hf : cells + rm.cells ≤ R.cells ∧ slots + rm.slots ≤ R.slots)
    (kk : ∀ (H1 : Heap) (locs1 : List Loc), ss_R G h' H1 → va_S (ss_A G) s.heap H1 locs1 → W p l e R s m args below meth c H1 locs1 (cells + rm.cells) (slots + rm.slots) Q (F0 m (pc + 3) ls (rv.toList ++ rest))) : W p l e R s m args below meth c H locs cells slots Q (F0 m pc ls st0) := by
  cases r with
  | none => cases hchk
  | some a =>
    have hat : (h.2 a).1 = ci := by simpa [ss_is] using hchk
    obtain ⟨hb, hin, hsel, hci⟩ := hw
    cases hq : ss_cl[ci]? with
    | none => rw [hq] at hci; cases hci
    | some q =>
      rw [hq] at hci
      have hci : q.1 = y.cls := Option.some.inj hci
      obtain ⟨-, hwo, -⟩ := ss_obj hR hat (ss_ci hq)
      have hrecv := va_recv (q := q) hK.1 hR.2.1 hq hwo
      rw [hci] at hrecv
      have hp := ss_pre hK hR hS (ss_v (ss_b G) (some a) :: As)
      exact ss_back (va_runV (As := As) (b := ss_b G + a) (C := y.cls) hC hM ⟨ss_cb hC hb hrm, hC.2.2.2.2 _ hin, hC.2.2.2.2 _ hsel⟩ ⟨hp.1, hrecv, hp.2⟩ rfl hn hl hst (lv_room hrest) hdg hf) hS kk
theorem ss_callS {y : MethodName} {bytes : ByteArray} {maxL : Nat} {ret : Option FieldType} {n index : Nat} {rm : Room} {As st0 : List Value} {rv : Option Value} {h' : ss_Hp} (hC : CallFix p m c cc nL s args lw_g own) (hK : ss_K G s) (hR : ss_R G h H) (hS : va_S (ss_A G) s.heap H locs) (hl : ls.size = nL) (hM : ss_Ct l G y bytes maxL ret rm As h rv h') (hw : ss_ms own index y bytes maxL ret n)
    (hrm : rm.frames + 1 ≤ R.frames ∧ 8 + (maxL + 11) + rm.locals ≤ R.locals) (hst : st0 = As.reverse ++ rest) (hn : As.length = n) (hrest : (rest.map fun v => v.category).sum ≤ 8) (hdg : decode cc pc = .ok (.invokestatic index, 3)) (hf : cells + rm.cells ≤ R.cells ∧ slots + rm.slots ≤ R.slots)
    (kk : ∀ (H1 : Heap) (locs1 : List Loc), ss_R G h' H1 → va_S (ss_A G) s.heap H1 locs1 → W p l e R s m args below meth c H1 locs1 (cells + rm.cells) (slots + rm.slots) Q (F0 m (pc + 3) ls (rv.toList ++ rest))) : W p l e R s m args below meth c H locs cells slots Q (F0 m pc ls st0) :=
  ss_back (va_runS (As := As) hC hM ⟨ss_cb hC hw.1 hrm, hC.2.2.2.2 _ hw.2⟩ (ss_pre hK hR hS As) rfl hn hl hst (lv_room hrest) hdg hf) hS kk
theorem ss_callI {y : MethodName} {bytes : ByteArray} {maxL : Nat} {n index : Nat} {rm : Room} {r : Option Nat} {ci : Nat} {As st0 : List Value} {h' : ss_Hp} (hC : CallFix p m c cc nL s args lw_g own) (hK : ss_K G s) (hR : ss_R G h H) (hS : va_S (ss_A G) s.heap H locs) (hl : ls.size = nL) (hM : ss_Ct l G y bytes maxL none rm (ss_v (ss_b G) r :: As) h none h') (hw : ss_mi own index y bytes maxL n) (hchk : ss_is h r ci = true)
    (hrm : rm.frames + 1 ≤ R.frames ∧ 8 + (maxL + 11) + rm.locals ≤ R.locals) (hst : st0 = As.reverse ++ ss_v (ss_b G) r :: rest) (hn : As.length = n) (hrest : (rest.map fun v => v.category).sum ≤ 8) (hdg : decode cc pc = .ok (.invokespecial index, 3)) (hf : cells + rm.cells ≤ R.cells ∧ slots + rm.slots ≤ R.slots)
    (kk : ∀ (H1 : Heap) (locs1 : List Loc), ss_R G h' H1 → va_S (ss_A G) s.heap H1 locs1 → W p l e R s m args below meth c H1 locs1 (cells + rm.cells) (slots + rm.slots) Q (F0 m (pc + 3) ls rest)) : W p l e R s m args below meth c H locs cells slots Q (F0 m pc ls st0) := by
  cases r with
  | none => cases hchk
  | some a => exact ss_back (va_runI (As := As) (b := ss_b G + a) hC hM ⟨ss_cb hC hw.1 hrm, hw.2.1, hC.2.2.2.2 _ hw.2.2⟩ (ss_pre hK hR hS (ss_v (ss_b G) (some a) :: As)) rfl hn hl hst (lv_room hrest) hdg hf) hS kk
def ss_mn (own : String) (index : Nat) (y : MethodName) (host : String) (bytes : ByteArray) (maxL : Nat) (n : Nat) : Prop := Cond.code y bytes maxL none ∈ lw_g ∧ Cond.initialized y.cls ∈ lw_g ∧ (∀ U, ss_Nst U → va_Nw (.methodLinkNest own index y host) U) ∧ (y.cls ≠ "java/lang/invoke/MethodHandle" ∧ y.cls ≠ "java/lang/invoke/VarHandle" ∧ (parseMethodDescriptor y.desc).map (fun d => d.parameters.length) = some n) ∧ y.name = "<init>" ∧ Cond.instanceMethod y ∈ lw_g
theorem ss_callN {y : MethodName} {host : String} {bytes : ByteArray} {maxL : Nat} {n index : Nat} {rm : Room} {r : Option Nat} {ci : Nat} {As st0 : List Value} {h' : ss_Hp} (hC : CallFix p m c cc nL s args lw_g own) (hK : ss_K G s) (hR : ss_R G h H) (hS : va_S (ss_A G) s.heap H locs) (hl : ls.size = nL) (hM : ss_Ct l G y bytes maxL none rm (ss_v (ss_b G) r :: As) h none h') (hw : ss_mn own index y host bytes maxL n) (hchk : ss_is h r ci = true)
    (hrm : rm.frames + 1 ≤ R.frames ∧ 8 + (maxL + 11) + rm.locals ≤ R.locals) (hst : st0 = As.reverse ++ ss_v (ss_b G) r :: rest) (hn : As.length = n) (hrest : (rest.map fun v => v.category).sum ≤ 8) (hdg : decode cc pc = .ok (.invokespecial index, 3)) (hf : cells + rm.cells ≤ R.cells ∧ slots + rm.slots ≤ R.slots)
    (kk : ∀ (H1 : Heap) (locs1 : List Loc), ss_R G h' H1 → va_S (ss_A G) s.heap H1 locs1 → W p l e R s m args below meth c H1 locs1 (cells + rm.cells) (slots + rm.slots) Q (F0 m (pc + 3) ls rest)) : W p l e R s m args below meth c H locs cells slots Q (F0 m pc ls st0) := by
  cases r with
  | none => cases hchk
  | some a => exact ss_back (va_runIN (As := As) (b := ss_b G + a) hC hM ⟨va_cnB n hC.2.2.2.2 (ss_goodIn hw.1) rfl rfl rfl (hw.2.2.1 s hK.2.2.1) (hC.2.2.2.2 _ hw.2.1) hw.2.2.2.1 hrm, hw.2.2.2.2.1, hC.2.2.2.2 _ hw.2.2.2.2.2⟩ (ss_pre hK hR hS (ss_v (ss_b G) (some a) :: As)) rfl hn hl hst (lv_room hrest) hdg hf) hS kk
/-- the JDK's own -/
theorem ss_min (hC : CallFix p m c cc nL s args lw_g own) (hl : ls.size = nL) {index : Nat} (hlink : Cond.methodLink own index Lib.Math.min.name ∈ lw_g) (hst : Cond.static Lib.Math.min.name ∈ lw_g) (hini : Cond.initialized "java/lang/Math" ∈ lw_g) (hcode : Cond.code Lib.Math.min.name Lib.Math.min.code 2 (some .int) ∈ lw_g) (hframes : 1 ≤ R.frames) (hrest : (rest.map fun v => v.category).sum ≤ 8) (hlocals : 21 ≤ R.locals) (hc : cells ≤ R.cells ∧ slots ≤ R.slots) {x y : Int32} (hdg : decode cc pc = .ok (.invokestatic index, 3))
    (kk : W p l e R s m args below meth c H locs cells slots Q (F0 m (pc + 3) ls (.int (if y < x then y else x) :: rest))) : W p l e R s m args below meth c H locs cells slots Q (F0 m pc ls (.int y :: .int x :: rest)) :=
  va_mmin hC.1 hC.2.1 (hC.2.2.1.trans hl.symm) hC.2.2.2.1 (hC.2.2.2.2 _ hlink) (hC.2.2.2.2 _ hst) (hC.2.2.2.2 _ hini) (hC.2.2.2.2 _ hcode) hframes (by omega) hc.1 hc.2 hdg kk
theorem ss_max (hC : CallFix p m c cc nL s args lw_g own) (hl : ls.size = nL) {index : Nat} (hlink : Cond.methodLink own index Lib.Math.max.name ∈ lw_g) (hst : Cond.static Lib.Math.max.name ∈ lw_g) (hini : Cond.initialized "java/lang/Math" ∈ lw_g) (hcode : Cond.code Lib.Math.max.name Lib.Math.max.code 2 (some .int) ∈ lw_g) (hframes : 1 ≤ R.frames) (hrest : (rest.map fun v => v.category).sum ≤ 8) (hlocals : 21 ≤ R.locals) (hc : cells ≤ R.cells ∧ slots ≤ R.slots) {x y : Int32} (hdg : decode cc pc = .ok (.invokestatic index, 3))
    (kk : W p l e R s m args below meth c H locs cells slots Q (F0 m (pc + 3) ls (.int (if x < y then y else x) :: rest))) : W p l e R s m args below meth c H locs cells slots Q (F0 m pc ls (.int y :: .int x :: rest)) :=
  va_mmax hC.1 hC.2.1 (hC.2.2.1.trans hl.symm) hC.2.2.2.1 (hC.2.2.2.2 _ hlink) (hC.2.2.2.2 _ hst) (hC.2.2.2.2 _ hini) (hC.2.2.2.2 _ hcode) hframes (by omega) hc.1 hc.2 hdg kk
theorem ss_init (hC : CallFix p m c cc nL s args lw_g own) (hl : ls.size = nL) {index : Nat} {r : Option Nat} {a : Nat} (hlink : Cond.methodLink own index objectInit ∈ lw_g) (hin : Cond.instanceMethod objectInit ∈ lw_g) (hcode : Cond.code objectInit ⟨#[0xb1]⟩ 1 none ∈ lw_g) (hr : r = some a) (hframes : 1 ≤ R.frames) (hrest : (rest.map fun v => v.category).sum ≤ 8) (hlocals : 20 ≤ R.locals) (hdg : decode cc pc = .ok (.invokespecial index, 3))
    (kk : W p l e R s m args below meth c H locs cells slots Q (F0 m (pc + 3) ls rest)) : W p l e R s m args below meth c H locs cells slots Q (F0 m pc ls (ss_v (ss_b G) r :: rest)) := by
  subst hr
  exact W.objInit hC.1 hC.2.1 hC.2.2.2.1 (hC.2.2.2.2 _ hlink) (hC.2.2.2.2 _ hin) (hC.2.2.2.2 _ hcode) rfl (hl.trans hC.2.2.1.symm) rfl hdg hframes (by show 2 * 0 + _ + 12 ≤ _; omega) kk
theorem ss_isSome {h : ss_Hp} {r : Option Nat} {ci : Nat} (hc : ss_is h r ci = true) : ∃ a, r = some a := by
  cases r with
  | none => cases hc
  | some a => exact ⟨a, rfl⟩
theorem ss_cpy {xs ys : List Int32} {sp dp n : Nat} (h1 : sp + n ≤ xs.length) (h2 : dp + n ≤ ys.length) : (fun j => (ys.take dp ++ ((xs.drop sp).take n ++ ys.drop (dp + n))).getD j 0) = va_cpy (fun j => xs.getD j 0) (fun j => ys.getD j 0) sp dp n := by
  funext j
  simp only [va_cpy, List.getD_eq_getElem?_getD]
  have l1 : (ys.take dp).length = dp := by simp; omega
  have l2 : ((xs.drop sp).take n).length = n := by simp; omega
  by_cases c1 : j < dp
  · rw [List.getElem?_append_left (by omega), if_neg (by omega), List.getElem?_take, if_pos c1]
  · rw [List.getElem?_append_right (by omega), l1]
    by_cases c2 : j < dp + n
    · rw [List.getElem?_append_left (by omega), if_pos (by omega), List.getElem?_take, if_pos (by omega), List.getElem?_drop]
    · rw [List.getElem?_append_right (by omega), l2, if_neg (by omega), List.getElem?_drop, show dp + n + (j - dp - n) = j by omega]
theorem ss_copy (hC : CallFix p m c cc nL s args lw_g own) (hK : ss_K G s) (hR : ss_R G h H) (hS : va_S (ss_A G) s.heap H locs) (hls : ls.size = nL) {index : Nat} (hlink : Cond.methodLink own index arraycopyName ∈ lw_g) (hnat : Cond.native arraycopyName ∈ lw_g) (hstat : Cond.static arraycopyName ∈ lw_g) (hini : Cond.initialized "java/lang/System" ∈ lw_g)
    {r q : Option Nat} {sp dp n : Int32} {h' : ss_Hp} (hv : ss_cp h r sp q dp n = some h') (hframes : 1 ≤ R.frames) (hrest : (rest.map fun v => v.category).sum ≤ 8) (hlocals : 8 + (nativeFrameWords "java/lang/System" "arraycopy" 5 + 11) ≤ R.locals) (hdg : decode cc pc = .ok (.invokestatic index, 3))
    (kk : ∀ (H1 : Heap) (locs1 : List Loc), ss_R G h' H1 → va_S (ss_A G) s.heap H1 locs1 → W p l e R s m args below meth c H1 locs1 cells slots Q (F0 m (pc + 3) ls rest)) : W p l e R s m args below meth c H locs cells slots Q (F0 m pc ls (.int n :: .int dp :: ss_v (ss_b G) q :: .int sp :: ss_v (ss_b G) r :: rest)) := by
  obtain ⟨hx, hb, hml, hown, hts⟩ := hC
  cases r with
  | none => cases hv
  | some a0 =>
  cases q with
  | none => cases hv
  | some d =>
    obtain ⟨⟨t0, t1, h1, h2, h3, h4, h5⟩, hv⟩ := ss_chk hv
    cases hv
    obtain ⟨-, hw0⟩ := ss_ari hR t0 (by omega) (by omega)
    obtain ⟨hd, hw1⟩ := ss_ari hR t1 (by omega) (by omega)
    have nn : ∀ z : Int32, ¬ z < 0 → z.toInt = (z.toNatClampNeg : Int) := by
      intro z hz
      have hz0 : (0 : Int) ≤ z.toInt := by
        have := Int32.not_lt.mp hz
        simpa using Int32.le_iff_toInt_le.mp this
      show z.toInt = ((z.toInt.toNat : Nat) : Int)
      omega
    intro T hT X
    have hc0 := hR.2.1 a0 _ hw0
    have hc1 := hR.2.1 d _ hw1
    have hc0 : H[ss_b G + a0]? = some (vp_cell (G.2.1 20) ((h.2 a0).2.1.length, .inl (fun j => (h.2 a0).2.1.getD j 0))) := hc0
    have hc1 : H[ss_b G + d]? = some (vp_cell (G.2.1 20) ((h.2 d).2.1.length, .inl (fun j => (h.2 d).2.1.getD j 0))) := hc1
    obtain ⟨-, k0, hk0, cm0, hkk0⟩ := (hK.1.2 0 _ rfl).1 (h.2 a0).2.1.length (fun j => .int ((h.2 a0).2.1.getD j 0))
    obtain ⟨-, k1, hk1, cm1, hkk1⟩ := (hK.1.2 0 _ rfl).1 (h.2 d).2.1.length (fun j => .int ((h.2 d).2.1.getD j 0))
    obtain ⟨vm', X', step⟩ := X.arraycopy hx hown (hts _ hlink) (hts _ hnat) (hts _ hstat) (hts _ hini) (src := ss_b G + a0) (dst := ss_b G + d) (cs := vp_cell (G.2.1 20) ((h.2 a0).2.1.length, .inl (fun j => (h.2 a0).2.1.getD j 0))) (cd := vp_cell (G.2.1 20) ((h.2 d).2.1.length, .inl (fun j => (h.2 d).2.1.getD j 0))) (srcPos := sp) (destPos := dp) (n := n) (by rw [hT]; exact hc0) (by rw [hT]; exact hc1)
      (fun _ h => by cases h) (fun _ h => by cases h) (fun h => by cases h) (fun h => by cases h) hk0 hk1 hkk0 hkk1 (by simp [refKind]) h1 h2 h3
      (by rw [nn sp h1, nn n h3]; show ¬ _ > ((arrV _ _ _).slots.size : Int); rw [arrV_size]; omega)
      (by rw [nn dp h2, nn n h3]; show ¬ _ > ((arrV _ _ _).slots.size : Int); rw [arrV_size]; omega)
      (fun vm₁ _ i hi => by
        have e : (vp_cell (G.2.1 20) ((h.2 a0).2.1.length, .inl (fun j => (h.2 a0).2.1.getD j 0))).slots.getD (sp.toNatClampNeg + i) .null = .int ((h.2 a0).2.1.getD (sp.toNatClampNeg + i) 0) := by
          show (arrV _ _ _).slots.getD _ _ = _
          rw [Array.getD_eq_getD_getElem?, arrV_read _ _ (by omega)]
          rfl
        refine ⟨?_, ?_⟩
        · rw [e]
          rfl
        · rw [e]
          exact trivial)
      (g := F0 m pc ls (.int n :: .int dp :: .ref (ss_b G + d) :: .int sp :: .ref (ss_b G + a0) :: rest)) rfl (by rw [hml]; exact hls) (rest := rest) rfl (by rw [hb]; exact hdg) hframes (by show 2 * 0 + _ + _ ≤ _; omega)
    have e1 : copied (vp_cell (G.2.1 20) ((h.2 a0).2.1.length, .inl (fun j => (h.2 a0).2.1.getD j 0))) (vp_cell (G.2.1 20) ((h.2 d).2.1.length, .inl (fun j => (h.2 d).2.1.getD j 0))) sp dp n = vp_cell (G.2.1 20) ((h.2 d).2.1.length, .inl (va_cpy (fun j => (h.2 a0).2.1.getD j 0) (fun j => (h.2 d).2.1.getD j 0) sp.toNatClampNeg dp.toNatClampNeg n.toNatClampNeg)) := va_copied (fun z => .int z) (G.2.1 20) (G.2.1 20) (n1 := (h.2 d).2.1.length) (fun j => (h.2 a0).2.1.getD j 0) (fun j => (h.2 d).2.1.getD j 0) h4
    rw [← ss_cpy h4 h5] at e1
    rw [e1] at X' step
    have hl : ss_b G + d < H.size := (Array.getElem?_eq_some_iff.mp hc1).1
    have key : ∀ cell : Cell, (∀ (q : Nat), q ≠ ss_b G + d → (H.setIfInBounds (ss_b G + d) cell)[q]? = H[q]?) := fun cell q hq => by simp [Array.getElem?_setIfInBounds, Ne.symm hq]
    obtain ⟨t, a1, b1⟩ := kk _ _ (ss_Rset hR hd (c2 := (20, (h.2 d).2.1.take dp.toNatClampNeg ++ (((h.2 a0).2.1.drop sp.toNatClampNeg).take n.toNatClampNeg ++ (h.2 d).2.1.drop (dp.toNatClampNeg + n.toNatClampNeg)), (h.2 d).2.2)) (fun q => absurd (show 20 < 20 from q) (by omega)) (H1 := H.setIfInBounds (ss_b G + d) (vp_cell (G.2.1 20) ((h.2 d).2.1.length, .inl (fun j => ((h.2 d).2.1.take dp.toNatClampNeg ++ (((h.2 a0).2.1.drop sp.toNatClampNeg).take n.toNatClampNeg ++ (h.2 d).2.1.drop (dp.toNatClampNeg + n.toNatClampNeg))).getD j 0)))) (by simp) (by
        rw [ss_emb_i (show ¬ (20 < 20) by decide) (show 20 < 23 by decide)]
        refine hR.2.1.set (ss_D G h) hw1 ?_ (key _)
        show (H.setIfInBounds _ _)[ss_b G + d]? = _
        rw [show ((h.2 d).2.1.take dp.toNatClampNeg ++ (((h.2 a0).2.1.drop sp.toNatClampNeg).take n.toNatClampNeg ++ (h.2 d).2.1.drop (dp.toNatClampNeg + n.toNatClampNeg))).length = (h.2 d).2.1.length by simp; omega]
        simp [Array.getElem?_setIfInBounds, hl]))
      ⟨by simp; exact hS.1, fun q g1 g2 => by
        rw [key _ q (fun e => g2 (by rw [e]; exact Nat.le_add_right _ _))]
        exact hS.2.1 q g1 g2, fun q hq => by
        rcases List.mem_append.mp hq with h | h
        · exact hS.2.2 q h
        · obtain ⟨z, -, hz⟩ := List.mem_map.mp h
          rw [← hz]
          exact Nat.le_add_right _ _⟩ _ (by rw [← hT]; rfl) X'
    exact ⟨t, step t a1, b1⟩
end SSCA
section SSCB
variable {p : Program} {l : Launch} {e : Env} {R : Room} {s : State} {m : MethodId} {args : Array Value} {below : List Frame} {meth : Method} {c : Code} {H : Heap} {locs : List Loc} {cells slots : Nat} {Q : State → Prop}
variable {cc : ByteArray} {nL pc : Nat} {ls : Array Slot} {rest : List Value} {G : ss_G} {h : ss_Hp} {own : String}
/-- calls as the walks use them: k, n: cells and slots behind it -/
theorem ss_cV (k n0 : Nat) {y : MethodName} {bytes : ByteArray} {maxL : Nat} {ret : Option FieldType} {n index ci : Nat} {rm : Room} {r : Option Nat} {As st0 : List Value} {w : Value} {h' : ss_Hp} (hC : CallFix p m c cc nL s args lw_g own) (hK : ss_K G s) (hR : ss_R G h H) (hS : va_S (ss_A G) s.heap H locs) (hl : ls.size = nL) (hM : ss_Ct l G y bytes maxL ret rm (ss_v (ss_b G) r :: As) h (some w) h') (hw : ss_mv own index y bytes maxL ret n ci) (hchk : ss_is h r ci = true)
    (hrm : rm.frames + 1 ≤ R.frames ∧ 8 + (maxL + 11) + rm.locals ≤ R.locals) (hf : cells + rm.cells ≤ k ∧ slots + rm.slots ≤ n0 ∧ k ≤ R.cells ∧ n0 ≤ R.slots) (hst : st0 = As.reverse ++ ss_v (ss_b G) r :: rest) (hn : As.length = n) (hrest : (rest.map fun v => v.category).sum ≤ 8) (hdg : decode cc pc = .ok (.invokevirtual index, 3)) 
    (kk : ∀ (H1 : Heap) (locs1 : List Loc), ss_R G h' H1 → va_S (ss_A G) s.heap H1 locs1 → W p l e R s m args below meth c H1 locs1 k n0 Q (F0 m (pc + 3) ls (w :: rest))) : W p l e R s m args below meth c H locs cells slots Q (F0 m pc ls st0) :=
  ss_callV hC hK hR hS hl hM hw hchk hrm hst hn hrest hdg ⟨by omega, by omega⟩ (fun H1 l1 a b => W.widen hf.1 hf.2.1 (kk H1 l1 a b))
theorem ss_cVv (k n0 : Nat) {y : MethodName} {bytes : ByteArray} {maxL : Nat} {ret : Option FieldType} {n index ci : Nat} {rm : Room} {r : Option Nat} {As st0 : List Value} {h' : ss_Hp} (hC : CallFix p m c cc nL s args lw_g own) (hK : ss_K G s) (hR : ss_R G h H) (hS : va_S (ss_A G) s.heap H locs) (hl : ls.size = nL) (hM : ss_Ct l G y bytes maxL ret rm (ss_v (ss_b G) r :: As) h none h') (hw : ss_mv own index y bytes maxL ret n ci) (hchk : ss_is h r ci = true)
    (hrm : rm.frames + 1 ≤ R.frames ∧ 8 + (maxL + 11) + rm.locals ≤ R.locals) (hf : cells + rm.cells ≤ k ∧ slots + rm.slots ≤ n0 ∧ k ≤ R.cells ∧ n0 ≤ R.slots) (hst : st0 = As.reverse ++ ss_v (ss_b G) r :: rest) (hn : As.length = n) (hrest : (rest.map fun v => v.category).sum ≤ 8) (hdg : decode cc pc = .ok (.invokevirtual index, 3)) 
    (kk : ∀ (H1 : Heap) (locs1 : List Loc), ss_R G h' H1 → va_S (ss_A G) s.heap H1 locs1 → W p l e R s m args below meth c H1 locs1 k n0 Q (F0 m (pc + 3) ls rest)) : W p l e R s m args below meth c H locs cells slots Q (F0 m pc ls st0) :=
  ss_callV hC hK hR hS hl hM hw hchk hrm hst hn hrest hdg ⟨by omega, by omega⟩ (fun H1 l1 a b => W.widen hf.1 hf.2.1 (kk H1 l1 a b))
theorem ss_cS (k n0 : Nat) {y : MethodName} {bytes : ByteArray} {maxL : Nat} {ret : Option FieldType} {n index : Nat} {rm : Room} {As st0 : List Value} {w : Value} {h' : ss_Hp} (hC : CallFix p m c cc nL s args lw_g own) (hK : ss_K G s) (hR : ss_R G h H) (hS : va_S (ss_A G) s.heap H locs) (hl : ls.size = nL) (hM : ss_Ct l G y bytes maxL ret rm As h (some w) h') (hw : ss_ms own index y bytes maxL ret n)
    (hrm : rm.frames + 1 ≤ R.frames ∧ 8 + (maxL + 11) + rm.locals ≤ R.locals) (hf : cells + rm.cells ≤ k ∧ slots + rm.slots ≤ n0 ∧ k ≤ R.cells ∧ n0 ≤ R.slots) (hst : st0 = As.reverse ++ rest) (hn : As.length = n) (hrest : (rest.map fun v => v.category).sum ≤ 8) (hdg : decode cc pc = .ok (.invokestatic index, 3)) 
    (kk : ∀ (H1 : Heap) (locs1 : List Loc), ss_R G h' H1 → va_S (ss_A G) s.heap H1 locs1 → W p l e R s m args below meth c H1 locs1 k n0 Q (F0 m (pc + 3) ls (w :: rest))) : W p l e R s m args below meth c H locs cells slots Q (F0 m pc ls st0) :=
  ss_callS hC hK hR hS hl hM hw hrm hst hn hrest hdg ⟨by omega, by omega⟩ (fun H1 l1 a b => W.widen hf.1 hf.2.1 (kk H1 l1 a b))
theorem ss_cI (k n0 : Nat) {y : MethodName} {bytes : ByteArray} {maxL : Nat} {n index ci : Nat} {rm : Room} {r : Option Nat} {As st0 : List Value} {h' : ss_Hp} (hC : CallFix p m c cc nL s args lw_g own) (hK : ss_K G s) (hR : ss_R G h H) (hS : va_S (ss_A G) s.heap H locs) (hl : ls.size = nL) (hM : ss_Ct l G y bytes maxL none rm (ss_v (ss_b G) r :: As) h none h') (hw : ss_mi own index y bytes maxL n) (hchk : ss_is h r ci = true)
    (hrm : rm.frames + 1 ≤ R.frames ∧ 8 + (maxL + 11) + rm.locals ≤ R.locals) (hf : cells + rm.cells ≤ k ∧ slots + rm.slots ≤ n0 ∧ k ≤ R.cells ∧ n0 ≤ R.slots) (hst : st0 = As.reverse ++ ss_v (ss_b G) r :: rest) (hn : As.length = n) (hrest : (rest.map fun v => v.category).sum ≤ 8) (hdg : decode cc pc = .ok (.invokespecial index, 3)) 
    (kk : ∀ (H1 : Heap) (locs1 : List Loc), ss_R G h' H1 → va_S (ss_A G) s.heap H1 locs1 → W p l e R s m args below meth c H1 locs1 k n0 Q (F0 m (pc + 3) ls rest)) : W p l e R s m args below meth c H locs cells slots Q (F0 m pc ls st0) :=
  ss_callI hC hK hR hS hl hM hw hchk hrm hst hn hrest hdg ⟨by omega, by omega⟩ (fun H1 l1 a b => W.widen hf.1 hf.2.1 (kk H1 l1 a b))
theorem ss_cN (k n0 : Nat) {y : MethodName} {host : String} {bytes : ByteArray} {maxL : Nat} {n index ci : Nat} {rm : Room} {r : Option Nat} {As st0 : List Value} {h' : ss_Hp} (hC : CallFix p m c cc nL s args lw_g own) (hK : ss_K G s) (hR : ss_R G h H) (hS : va_S (ss_A G) s.heap H locs) (hl : ls.size = nL) (hM : ss_Ct l G y bytes maxL none rm (ss_v (ss_b G) r :: As) h none h') (hw : ss_mn own index y host bytes maxL n) (hchk : ss_is h r ci = true)
    (hrm : rm.frames + 1 ≤ R.frames ∧ 8 + (maxL + 11) + rm.locals ≤ R.locals) (hf : cells + rm.cells ≤ k ∧ slots + rm.slots ≤ n0 ∧ k ≤ R.cells ∧ n0 ≤ R.slots) (hst : st0 = As.reverse ++ ss_v (ss_b G) r :: rest) (hn : As.length = n) (hrest : (rest.map fun v => v.category).sum ≤ 8) (hdg : decode cc pc = .ok (.invokespecial index, 3)) 
    (kk : ∀ (H1 : Heap) (locs1 : List Loc), ss_R G h' H1 → va_S (ss_A G) s.heap H1 locs1 → W p l e R s m args below meth c H1 locs1 k n0 Q (F0 m (pc + 3) ls rest)) : W p l e R s m args below meth c H locs cells slots Q (F0 m pc ls st0) :=
  ss_callN hC hK hR hS hl hM hw hchk hrm hst hn hrest hdg ⟨by omega, by omega⟩ (fun H1 l1 a b => W.widen hf.1 hf.2.1 (kk H1 l1 a b))
theorem ss_inc {x v k : Int32} {n : Int} (hk : Int32.ofInt n = k) (h : some (x + k) = some v) : x + Int32.ofInt n = v := by rw [hk]; exact Option.some.inj h
theorem ss_with {v v' : Int32} (h : ss_Hp) (hm : some v = some v') : some (v, h) = some (v', h) := by cases hm; rfl
theorem ss_withl {v v' : Int64} (h : ss_Hp) (hm : some v = some v') : some (v, h) = some (v', h) := by cases hm; rfl
theorem ss_withr {v v' : Option Nat} (h : ss_Hp) (hm : some v = some v') : some (v, h) = some (v', h) := by cases hm; rfl
theorem ss_bool {v : Int32} (h : v = 0 ∨ v = 1) : narrow .boolean (.int v) = .int v := by rcases h with rfl | rfl <;> decide
end SSCB
/-- what a boolean method gives back -/
def ss_bz (v : Int32) : Option Int32 := if v = 0 ∨ v = 1 then some v else none
theorem ss_bzs {v w : Int32} (h : ss_bz v = some w) : narrow .boolean (.int v) = .int v ∧ v = w := by
  obtain ⟨h1, h2⟩ := ss_chk h
  exact ⟨ss_bool h1, Option.some.inj h2⟩
theorem ss_cat_i (x : Int32) : (Value.int x).category = 1 := rfl
theorem ss_cat_l (x : Int64) : (Value.long x).category = 2 := rfl
theorem ss_cat_r (x : Nat) : (Value.ref x).category = 1 := rfl
