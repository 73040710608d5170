/-! ===== arrays ===== -/
section SSAR
variable {p : Program} {l : Launch} {e : Env} {R : Room} {s : State} {m : MethodId} {args : Array Value} {below : List Frame} {meth : Method} {c : Code} {H : Heap} {locs : List Loc} {cells slots : Nat} {Q : State → Prop}
variable {cc : ByteArray} {nL pc : Nat} {ls : Array Slot} {rest : List Value} {G : ss_G} {h : ss_Hp} {own : String}
theorem ss_vin {i : Int32} {n : Nat} (h1 : ¬ i < 0) (h2 : i.toNatClampNeg < n) : vp_in i n := fun q => by
  rcases q with q | q
  · exact h1 q
  · omega
theorem ss_getD {α : Type} {xs : List α} {j : Nat} {v d : α} (hv : xs[j]? = some v) : xs.getD j d = v := by
  rw [List.getD_eq_getElem?_getD, hv]; rfl
theorem ss_ari (hR : ss_R G h H) {a t : Nat} (ht : (h.2 a).1 = t) (h1 : ¬ t < 20) (h2 : t < 23) : a < h.1 ∧ (ss_ws G h)[a]? = some (ss_b G + a, .inl (G.2.1 t, (h.2 a).2.1.length, .inl (fun j => (h.2 a).2.1.getD j 0))) := by
  have hl := ss_live hR ht (by omega)
  refine ⟨hl, ?_⟩
  rw [ss_ws_at G h hl, ss_emb_i (by omega) (by omega), ht]
theorem ss_arl (hR : ss_R G h H) {a : Nat} (ht : (h.2 a).1 = 23) : a < h.1 ∧ (ss_ws G h)[a]? = some (ss_b G + a, .inl (G.2.1 23, (h.2 a).2.2.1.length, .inr (.inl (fun j => (h.2 a).2.2.1.getD j 0)))) := by
  have hl := ss_live hR ht (by omega)
  refine ⟨hl, ?_⟩
  rw [ss_ws_at G h hl, ss_emb_l (by omega), ht]
theorem ss_arq (hR : ss_R G h H) {a t : Nat} (ht : (h.2 a).1 = t) (h1 : 23 < t) (h2 : t < 99) : a < h.1 ∧ (ss_ws G h)[a]? = some (ss_b G + a, .inl (G.2.1 t, (h.2 a).2.2.2.length, .inr (.inr (.inr (.inr (fun j => ss_e (ss_b G) ((h.2 a).2.2.2.getD j none))))))) := by
  have hl := ss_live hR ht (by omega)
  refine ⟨hl, ?_⟩
  rw [ss_ws_at G h hl, ss_emb_q (by omega), ht]
theorem ss_iald (hC : CallFix p m c cc nL s args lw_g own) (hK : ss_K G s) (hR : ss_R G h H) {r : Option Nat} {i v : Int32} (hv : ss_ai h r 20 i = some v) (hdg : decode cc pc = .ok (.iaload, 1))
    (kk : W p l e R s m args below meth c H locs cells slots Q (F0 m (pc + 1) ls (.int v :: rest))) : W p l e R s m args below meth c H locs cells slots Q (F0 m pc ls (.int i :: ss_v (ss_b G) r :: rest)) := by
  cases r with
  | none => cases hv
  | some a =>
    obtain ⟨ht, hv⟩ := ss_chk hv
    obtain ⟨-, hw⟩ := ss_ari hR ht.1 (by omega) (by omega)
    refine va_iald hC.1 hC.2.1 hK.1 hR.2.1 a 0 hw rfl (ss_vin ht.2 (List.getElem?_eq_some_iff.mp hv).1) hdg ?_
    rw [ss_getD hv]
    exact kk
theorem ss_bald (hC : CallFix p m c cc nL s args lw_g own) (hK : ss_K G s) (hR : ss_R G h H) {r : Option Nat} {i v : Int32} (hv : ss_ai h r 21 i = some v) (hdg : decode cc pc = .ok (.baload, 1))
    (kk : W p l e R s m args below meth c H locs cells slots Q (F0 m (pc + 1) ls (.int v :: rest))) : W p l e R s m args below meth c H locs cells slots Q (F0 m pc ls (.int i :: ss_v (ss_b G) r :: rest)) := by
  cases r with
  | none => cases hv
  | some a =>
    obtain ⟨ht, hv⟩ := ss_chk hv
    obtain ⟨-, hw⟩ := ss_ari hR ht.1 (by omega) (by omega)
    refine va_bald hC.1 hC.2.1 hK.1 hR.2.1 a 1 hw rfl (ss_vin ht.2 (List.getElem?_eq_some_iff.mp hv).1) hdg ?_
    rw [ss_getD hv]
    exact kk
theorem ss_zald (hC : CallFix p m c cc nL s args lw_g own) (hK : ss_K G s) (hR : ss_R G h H) {r : Option Nat} {i v : Int32} (hv : ss_ai h r 22 i = some v) (hdg : decode cc pc = .ok (.baload, 1))
    (kk : W p l e R s m args below meth c H locs cells slots Q (F0 m (pc + 1) ls (.int v :: rest))) : W p l e R s m args below meth c H locs cells slots Q (F0 m pc ls (.int i :: ss_v (ss_b G) r :: rest)) := by
  cases r with
  | none => cases hv
  | some a =>
    obtain ⟨ht, hv⟩ := ss_chk hv
    obtain ⟨-, hw⟩ := ss_ari hR ht.1 (by omega) (by omega)
    refine va_zald hC.1 hC.2.1 hK.1 hR.2.1 a 2 hw rfl (ss_vin ht.2 (List.getElem?_eq_some_iff.mp hv).1) hdg ?_
    rw [ss_getD hv]
    exact kk
theorem ss_lald (hC : CallFix p m c cc nL s args lw_g own) (hK : ss_K G s) (hR : ss_R G h H) {r : Option Nat} {i : Int32} {v : Int64} (hv : ss_al h r 23 i = some v) (hdg : decode cc pc = .ok (.laload, 1))
    (kk : W p l e R s m args below meth c H locs cells slots Q (F0 m (pc + 1) ls (.long v :: rest))) : W p l e R s m args below meth c H locs cells slots Q (F0 m pc ls (.int i :: ss_v (ss_b G) r :: rest)) := by
  cases r with
  | none => cases hv
  | some a =>
    obtain ⟨ht, hv⟩ := ss_chk hv
    obtain ⟨-, hw⟩ := ss_arl hR ht.1
    refine va_lald hC.1 hC.2.1 hK.1 hR.2.1 a 3 hw rfl (ss_vin ht.2 (List.getElem?_eq_some_iff.mp hv).1) hdg ?_
    rw [ss_getD hv]
    exact kk
theorem ss_aald (hC : CallFix p m c cc nL s args lw_g own) (hK : ss_K G s) (hR : ss_R G h H) {r v : Option Nat} {i : Int32} {t t0 : Nat} {C : String} (ht0 : (ss_ty G)[t0]? = some (G.2.1 t, .object C)) (h23 : 23 < t ∧ t < 99) (hv : ss_ar h r t i = some v) (hdg : decode cc pc = .ok (.aaload, 1))
    (kk : W p l e R s m args below meth c H locs cells slots Q (F0 m (pc + 1) ls (ss_v (ss_b G) v :: rest))) : W p l e R s m args below meth c H locs cells slots Q (F0 m pc ls (.int i :: ss_v (ss_b G) r :: rest)) := by
  cases r with
  | none => cases hv
  | some a =>
    obtain ⟨ht, hv⟩ := ss_chk hv
    obtain ⟨-, hw⟩ := ss_arq hR ht.1 h23.1 h23.2
    refine va_aldq hC.1 hC.2.1 hK.1 hR.2.1 a t0 hw ht0 (ss_vin ht.2 (List.getElem?_eq_some_iff.mp hv).1) hdg ?_
    rw [ss_getD hv]
    exact kk
theorem ss_upd {xs : List Int32} {j : Nat} (v : Int32) (hj : j < xs.length) : (fun k => (xs.set j v).getD k 0) = upd (fun k => xs.getD k 0) j v := by
  funext k
  simp only [upd, List.getD_eq_getElem?_getD]
  by_cases q : k = j
  · subst q; rw [if_pos rfl, List.getElem?_set_self hj]; rfl
  · rw [if_neg q, List.getElem?_set_ne (fun z => q z.symm)]
theorem ss_updL {xs : List Int64} {j : Nat} (v : Int64) (hj : j < xs.length) : (fun k => (xs.set j v).getD k 0) = vp_updL (fun k => xs.getD k 0) j v := by
  funext k
  simp only [vp_updL, List.getD_eq_getElem?_getD]
  by_cases q : k = j
  · subst q; rw [if_pos rfl, List.getElem?_set_self hj]; rfl
  · rw [if_neg q, List.getElem?_set_ne (fun z => q z.symm)]
theorem ss_updQ {b : Nat} {xs : List (Option Nat)} {j : Nat} (v : Option Nat) (hj : j < xs.length) : (fun k => ss_e b ((xs.set j v).getD k none)) = va_up (fun k => ss_e b (xs.getD k none)) j (ss_e b v) := by
  funext k
  simp only [va_up, List.getD_eq_getElem?_getD]
  by_cases q : k = j
  · subst q; rw [if_pos rfl, List.getElem?_set_self hj]; rfl
  · rw [if_neg q, List.getElem?_set_ne (fun z => q z.symm)]
theorem ss_arrI {xs : List Int32} {cA : ClassId} {j : Nat} (v : Int32) (hj : j < xs.length) : (vp_cell cA (xs.length, .inl (fun k => xs.getD k 0))).setSlot j (.int v) = vp_cell cA ((xs.set j v).length, .inl (fun k => (xs.set j v).getD k 0)) := by
  rw [vp_cell_i, vp_cell_i, arrV_store, List.length_set]
  congr 1
  funext q
  rw [show (xs.set j v).getD q 0 = upd (fun k => xs.getD k 0) j v q from congrFun (ss_upd v hj) q]
  by_cases hq : q = j
  · subst hq; simp [updV, upd]
  · simp [updV, upd, hq]
theorem ss_arrL {xs : List Int64} {cA : ClassId} {j : Nat} (v : Int64) (hj : j < xs.length) : (vp_cell cA (xs.length, .inr (.inl (fun k => xs.getD k 0)))).setSlot j (.long v) = vp_cell cA ((xs.set j v).length, .inr (.inl (fun k => (xs.set j v).getD k 0))) := by
  rw [vp_cell_l, vp_cell_l, arrV_store, List.length_set]
  congr 1
  funext q
  rw [show (xs.set j v).getD q 0 = vp_updL (fun k => xs.getD k 0) j v q from congrFun (ss_updL v hj) q]
  by_cases hq : q = j
  · subst hq; simp [updV, vp_updL]
  · simp [updV, vp_updL, hq]
theorem ss_arrQ {b : Nat} {xs : List (Option Nat)} {cA : ClassId} {j : Nat} (v : Option Nat) (hj : j < xs.length) : (vp_cell cA (xs.length, .inr (.inr (.inr (.inr (fun k => ss_e b (xs.getD k none))))))).setSlot j (ss_v b v) = vp_cell cA ((xs.set j v).length, .inr (.inr (.inr (.inr (fun k => ss_e b ((xs.set j v).getD k none)))))) := by
  rw [vp_cell_q, vp_cell_q, arrV_store, List.length_set]
  congr 1
  funext q
  rw [show ss_e b ((xs.set j v).getD q none) = va_up (fun k => ss_e b (xs.getD k none)) j (ss_e b v) q from congrFun (ss_updQ v hj) q]
  by_cases hq : q = j
  · subst hq; simp [updV, va_up, ss_v]
  · simp [updV, va_up, hq]
theorem ss_iast (hC : CallFix p m c cc nL s args lw_g own) (hK : ss_K G s) (hR : ss_R G h H) (hS : va_S (ss_A G) s.heap H locs) {r : Option Nat} {i v : Int32} {h' : ss_Hp} (hv : ss_ui h r 20 i v = some h') (hdg : decode cc pc = .ok (.iastore, 1))
    (kk : ∀ (H1 : Heap) (locs1 : List Loc), ss_R G h' H1 → va_S (ss_A G) s.heap H1 locs1 → W p l e R s m args below meth c H1 locs1 cells slots Q (F0 m (pc + 1) ls rest)) : W p l e R s m args below meth c H locs cells slots Q (F0 m pc ls (.int v :: .int i :: ss_v (ss_b G) r :: rest)) := by
  cases r with
  | none => cases hv
  | some a =>
    obtain ⟨ht, hv⟩ := ss_chk hv
    cases hv
    obtain ⟨ha, hw⟩ := ss_ari hR ht.1 (by omega) (by omega)
    have hin := ss_vin ht.2.1 ht.2.2
    refine W.iast hC.1 hC.2.1 (hR.2.1 a _ hw) ((hK.1.2 0 _ rfl).1 _ _) (fun q => by cases q) (by show ¬ (i < 0 ∨ (arrV _ _ _).slots.size ≤ _); rw [arrV_size]; exact hin) rfl rfl hdg fun H1 e z oq => ?_
    refine kk H1 _ (ss_Rset hR ha (fun q => absurd q (by omega)) z ?_) (hS.put z oq (Nat.le_add_right _ _))
    rw [ss_emb_i (show ¬ (20 < 20) by decide) (show 20 < 23 by decide)]
    refine hR.2.1.set (ss_D G h) hw ?_ oq
    show H1[ss_b G + a]? = _
    rw [e, ss_arrI v ht.2.2]
theorem ss_bast (hC : CallFix p m c cc nL s args lw_g own) (hK : ss_K G s) (hR : ss_R G h H) (hS : va_S (ss_A G) s.heap H locs) {r : Option Nat} {i v : Int32} {h' : ss_Hp} (hv : ss_ui h r 21 i (vp_nar .byte v) = some h') (hdg : decode cc pc = .ok (.bastore, 1))
    (kk : ∀ (H1 : Heap) (locs1 : List Loc), ss_R G h' H1 → va_S (ss_A G) s.heap H1 locs1 → W p l e R s m args below meth c H1 locs1 cells slots Q (F0 m (pc + 1) ls rest)) : W p l e R s m args below meth c H locs cells slots Q (F0 m pc ls (.int v :: .int i :: ss_v (ss_b G) r :: rest)) := by
  cases r with
  | none => cases hv
  | some a =>
    obtain ⟨ht, hv⟩ := ss_chk hv
    cases hv
    obtain ⟨ha, hw⟩ := ss_ari hR ht.1 (by omega) (by omega)
    have hin := ss_vin ht.2.1 ht.2.2
    refine W.bast hC.1 hC.2.1 (hR.2.1 a _ hw) ((hK.1.2 1 _ rfl).1 _ _) (fun q => by cases q) (by show ¬ (i < 0 ∨ (arrV _ _ _).slots.size ≤ _); rw [arrV_size]; exact hin) rfl rfl hdg fun H1 e z oq => ?_
    refine kk H1 _ (ss_Rset hR ha (fun q => absurd q (by omega)) z ?_) (hS.put z oq (Nat.le_add_right _ _))
    rw [ss_emb_i (show ¬ (21 < 20) by decide) (show 21 < 23 by decide)]
    refine hR.2.1.set (ss_D G h) hw ?_ oq
    show H1[ss_b G + a]? = _
    rw [e, ← ss_arrI (vp_nar .byte v) ht.2.2]
    rfl
theorem ss_zast (hC : CallFix p m c cc nL s args lw_g own) (hK : ss_K G s) (hR : ss_R G h H) (hS : va_S (ss_A G) s.heap H locs) {r : Option Nat} {i v : Int32} {h' : ss_Hp} (hv : ss_ui h r 22 i (vp_nar .boolean v) = some h') (hdg : decode cc pc = .ok (.bastore, 1))
    (kk : ∀ (H1 : Heap) (locs1 : List Loc), ss_R G h' H1 → va_S (ss_A G) s.heap H1 locs1 → W p l e R s m args below meth c H1 locs1 cells slots Q (F0 m (pc + 1) ls rest)) : W p l e R s m args below meth c H locs cells slots Q (F0 m pc ls (.int v :: .int i :: ss_v (ss_b G) r :: rest)) := by
  cases r with
  | none => cases hv
  | some a =>
    obtain ⟨ht, hv⟩ := ss_chk hv
    cases hv
    obtain ⟨ha, hw⟩ := ss_ari hR ht.1 (by omega) (by omega)
    have hin := ss_vin ht.2.1 ht.2.2
    refine W.zast hC.1 hC.2.1 (hR.2.1 a _ hw) ((hK.1.2 2 _ rfl).1 _ _) (fun q => by cases q) (by show ¬ (i < 0 ∨ (arrV _ _ _).slots.size ≤ _); rw [arrV_size]; exact hin) rfl rfl hdg fun H1 e z oq => ?_
    refine kk H1 _ (ss_Rset hR ha (fun q => absurd q (by omega)) z ?_) (hS.put z oq (Nat.le_add_right _ _))
    rw [ss_emb_i (show ¬ (22 < 20) by decide) (show 22 < 23 by decide)]
    refine hR.2.1.set (ss_D G h) hw ?_ oq
    show H1[ss_b G + a]? = _
    rw [e, ← ss_arrI (vp_nar .boolean v) ht.2.2]
    rfl
theorem ss_last (hC : CallFix p m c cc nL s args lw_g own) (hK : ss_K G s) (hR : ss_R G h H) (hS : va_S (ss_A G) s.heap H locs) {r : Option Nat} {i : Int32} {v : Int64} {h' : ss_Hp} (hv : ss_ul h r 23 i v = some h') (hdg : decode cc pc = .ok (.lastore, 1))
    (kk : ∀ (H1 : Heap) (locs1 : List Loc), ss_R G h' H1 → va_S (ss_A G) s.heap H1 locs1 → W p l e R s m args below meth c H1 locs1 cells slots Q (F0 m (pc + 1) ls rest)) : W p l e R s m args below meth c H locs cells slots Q (F0 m pc ls (.long v :: .int i :: ss_v (ss_b G) r :: rest)) := by
  cases r with
  | none => cases hv
  | some a =>
    obtain ⟨ht, hv⟩ := ss_chk hv
    cases hv
    obtain ⟨ha, hw⟩ := ss_arl hR ht.1
    have hin := ss_vin ht.2.1 ht.2.2
    refine W.last hC.1 hC.2.1 (hR.2.1 a _ hw) ((hK.1.2 3 _ rfl).1 _ _) (fun q => by cases q) (by show ¬ (i < 0 ∨ (arrV _ _ _).slots.size ≤ _); rw [arrV_size]; exact hin) rfl rfl hdg fun H1 e z oq => ?_
    refine kk H1 _ (ss_Rset hR ha (fun q => absurd q (by omega)) z ?_) (hS.put z oq (Nat.le_add_right _ _))
    rw [ss_emb_l rfl]
    refine hR.2.1.set (ss_D G h) hw ?_ oq
    show H1[ss_b G + a]? = _
    rw [e, ss_arrL v ht.2.2]
theorem ss_aast (hC : CallFix p m c cc nL s args lw_g own) (hK : ss_K G s) (hR : ss_R G h H) (hS : va_S (ss_A G) s.heap H locs) {r v : Option Nat} {i : Int32} {t t0 ci : Nat} {q0 : vw_C} {h' : ss_Hp} (ht0 : (ss_ty G)[t0]? = some (G.2.1 t, .object q0.1)) (h23 : 23 < t ∧ t < 99) (hc : ss_cl[ci]? = some q0) (hv : ss_ur h r t ci i v = some h') (hdg : decode cc pc = .ok (.aastore, 1))
    (kk : ∀ (H1 : Heap) (locs1 : List Loc), ss_R G h' H1 → va_S (ss_A G) s.heap H1 locs1 → W p l e R s m args below meth c H1 locs1 cells slots Q (F0 m (pc + 1) ls rest)) : W p l e R s m args below meth c H locs cells slots Q (F0 m pc ls (ss_v (ss_b G) v :: .int i :: ss_v (ss_b G) r :: rest)) := by
  cases r with
  | none => cases hv
  | some a =>
    obtain ⟨ht, hv⟩ := ss_chk hv
    cases hv
    obtain ⟨ht1, ht2, ht3, ht4⟩ := ht
    obtain ⟨ha, hw⟩ := ss_arq hR ht1 h23.1 h23.2
    cases v with
    | none => cases ht4
    | some w =>
      have hwt : (h.2 w).1 = ci := by simpa [ss_is] using ht4
      obtain ⟨-, hv, -⟩ := ss_obj hR hwt (ss_ci hc)
      obtain ⟨r', hr', cellV, g1, g2, g3, -⟩ := hR.2.1 w _ hv
      have hcls := (hK.1.1 ci q0 hc).2
      obtain ⟨kA, comp, k1, k2, k3, -⟩ := (hK.1.2 t0 _ ht0).2
      have hcomp : comp = G.1.1 ci := Option.some.inj (k3.symm.trans hcls.1)
      subst hcomp
      obtain ⟨kC, hkC, -⟩ := hcls.2
      refine W.aast hC.1 hC.2.1 (hR.2.1 a _ hw) (fun q h => by cases h) (fun h => by cases h) k1 k2 rfl hkC ⟨ht2, by show _ < (arrV _ _ _).slots.size; rw [arrV_size]; exact ht3⟩ g1 (fun q h => by rw [g3] at h; cases h) (by rw [g2]; exact hkC) (by rw [g2]; exact va_assign hcls) rfl rfl hdg fun H1 e z oq => ?_
      refine kk H1 _ (ss_Rset hR ha (fun q => absurd q (by omega)) z ?_) (hS.put z oq (Nat.le_add_right _ _))
      rw [ss_emb_q h23.1]
      refine hR.2.1.set (ss_D G h) hw ?_ oq
      show H1[ss_b G + a]? = _
      rw [e, ← ss_arrQ (some w) ht3]
      rfl
theorem ss_alenI (hC : CallFix p m c cc nL s args lw_g own) (hK : ss_K G s) (hR : ss_R G h H) {r : Option Nat} {v : Int32} (hv : ss_len h r 20 = some v) (hdg : decode cc pc = .ok (.arraylength, 1))
    (kk : W p l e R s m args below meth c H locs cells slots Q (F0 m (pc + 1) ls (.int v :: rest))) : W p l e R s m args below meth c H locs cells slots Q (F0 m pc ls (ss_v (ss_b G) r :: rest)) := by
  cases r with
  | none => cases hv
  | some a =>
    obtain ⟨ht, hv⟩ := ss_chk hv
    obtain ⟨-, hw⟩ := ss_ari hR ht (by omega) (by omega)
    exact va_alen hC.1 hC.2.1 hK.1 hR.2.1 a 0 hw rfl (by simpa using hv) hdg kk
theorem ss_alenL (hC : CallFix p m c cc nL s args lw_g own) (hK : ss_K G s) (hR : ss_R G h H) {r : Option Nat} {v : Int32} (hv : ss_len h r 23 = some v) (hdg : decode cc pc = .ok (.arraylength, 1))
    (kk : W p l e R s m args below meth c H locs cells slots Q (F0 m (pc + 1) ls (.int v :: rest))) : W p l e R s m args below meth c H locs cells slots Q (F0 m pc ls (ss_v (ss_b G) r :: rest)) := by
  cases r with
  | none => cases hv
  | some a =>
    obtain ⟨ht, hv⟩ := ss_chk hv
    obtain ⟨-, hw⟩ := ss_arl hR ht
    exact va_alen hC.1 hC.2.1 hK.1 hR.2.1 a 3 hw rfl (by simpa using hv) hdg kk
theorem ss_alenQ (hC : CallFix p m c cc nL s args lw_g own) (hK : ss_K G s) (hR : ss_R G h H) {r : Option Nat} {t t0 : Nat} {C : String} {v : Int32} (ht0 : (ss_ty G)[t0]? = some (G.2.1 t, .object C)) (h23 : 23 < t ∧ t < 99) (hv : ss_len h r t = some v) (hdg : decode cc pc = .ok (.arraylength, 1))
    (kk : W p l e R s m args below meth c H locs cells slots Q (F0 m (pc + 1) ls (.int v :: rest))) : W p l e R s m args below meth c H locs cells slots Q (F0 m pc ls (ss_v (ss_b G) r :: rest)) := by
  cases r with
  | none => cases hv
  | some a =>
    obtain ⟨ht, hv⟩ := ss_chk hv
    obtain ⟨-, hw⟩ := ss_arq hR ht h23.1 h23.2
    have h1 : ¬ t < 23 := by omega
    have h2 : ¬ t = 23 := by omega
    exact va_alen hC.1 hC.2.1 hK.1 hR.2.1 a t0 hw ht0 (by simpa [h1, h2] using hv) hdg kk
/-- a cell more -/
theorem ss_Rnew (hR : ss_R G h H) {c2 : ss_Cl} {H1 : Heap} (ho : ss_okc c2) (hz : H1.size = H.size + 1) (hk : ∀ q, q < H.size → H1[q]? = H[q]?) (hat : va_at G.1 ss_cl (ss_b G + h.1, ss_emb G c2) H1) : ss_R G (ss_hn h c2) H1 := by
  refine ⟨by rw [hz, hR.1]; rfl, ?_, fun k => ?_, fun k hk2 => ?_⟩
  · rw [← ss_ws_new]
    refine va_P.app (hR.2.1.kept (fun k x hx => hk x.1 ((hR.2.1 k x hx).lt))) (fun k x hx => ?_)
    have hz : k < 1 := (List.getElem?_eq_some_iff.mp hx).1
    rw [show k = 0 by omega] at hx
    cases hx
    exact hat
  · show ss_okc (if k = h.1 then c2 else h.2 k)
    split
    · exact ho
    · exact hR.2.2.1 k
  · have hk3 : h.1 + 1 ≤ k := hk2
    show (if k = h.1 then c2 else h.2 k).1 = 99
    rw [if_neg (by omega)]
    exact hR.2.2.2 k (by omega)
theorem ss_Snew (hS : va_S (ss_A G) s.heap H locs) {H1 : Heap} (hz : H1.size = H.size + 1) (hk : ∀ q, q < H.size → H1[q]? = H[q]?) : va_S (ss_A G) s.heap H1 locs :=
  ⟨Nat.le_trans hS.1 (by omega), fun x h1 h2 => (hk x (Nat.lt_of_lt_of_le h1 hS.1)).trans (hS.2.1 x h1 h2), hS.2.2⟩
theorem ss_newai (hC : CallFix p m c cc nL s args lw_g own) (hK : ss_K G s) (hR : ss_R G h H) (hS : va_S (ss_A G) s.heap H locs) {atype : ArrayType} {ty : FieldType} {t t0 M : Nat} (harr : Cond.arrayClass ty ∈ lw_g) (hty : newarray.typeOf atype = ty) (hdef : defaultValue ty = .int 0) (hbytes : componentBytes ty ≤ 8) (ht0 : (ss_ty G)[t0]? = some (G.2.1 t, ty)) (h20 : ¬ t < 20 ∧ t < 23)
    {n : Int32} {r : Option Nat} {h' : ss_Hp} (hv : ss_na h t M n = some (r, h')) (hM : M ≤ 1000000) (hcells : cells + 1 ≤ R.cells) (hslots : slots + M ≤ R.slots) (hdg : decode cc pc = .ok (.newarray atype, 2))
    (kk : ∀ (H1 : Heap), ss_R G h' H1 → va_S (ss_A G) s.heap H1 locs → W p l e R s m args below meth c H1 locs (cells + 1) (slots + M) Q (F0 m (pc + 2) ls (ss_v (ss_b G) r :: rest))) : W p l e R s m args below meth c H locs cells slots Q (F0 m pc ls (.int n :: rest)) := by
  obtain ⟨hx, hb, -, hown, hts⟩ := hC
  obtain ⟨⟨h0, hle⟩, hv⟩ := ss_chk hv
  cases hv
  subst hty
  refine va_newaK hx hb (hts _ harr) rfl hdg rfl h0 rfl (Nat.le_trans (Nat.mul_le_mul (Nat.le_trans hle hM) hbytes) (by decide)) hcells (by omega) rfl fun H1 cA e1 z1 o1 hAr hNm => ?_
  have hcA : cA = G.2.1 t := by
    have h1 := (hK.1.2 t0 _ ht0).2
    have h2 : s.vm.findClass ("[" ++ (newarray.typeOf atype).toString) = some (G.2.1 t) := by cases atype <;> exact h1
    exact Option.some.inj (hNm.symm.trans h2)
  refine W.widen (k := cells + 1) (n := slots + M) (Nat.le_refl _) (by omega) ?_
  refine W.eq (g2 := F0 m (pc + 2) ls (ss_v (ss_b G) (some h.1) :: rest)) (by rw [ss_v_some, ← hR.1]) ?_
  refine kk H1 (ss_Rnew hR (fun q => absurd q h20.1) z1 o1 ?_) (ss_Snew hS z1 o1)
  rw [ss_emb_i h20.1 h20.2]
  show H1[ss_b G + h.1]? = _
  rw [← hR.1, e1, hcA, hdef]
  simp only [h20.2, if_true, vp_cell_i, List.length_replicate]
  congr 2
  funext j
  rw [List.getD_eq_getElem?_getD]
  by_cases hj : j < n.toNatClampNeg
  · simp [hj]
  · rw [List.getElem?_eq_none (by simpa using hj)]; rfl
theorem ss_newal (hC : CallFix p m c cc nL s args lw_g own) (hK : ss_K G s) (hR : ss_R G h H) (hS : va_S (ss_A G) s.heap H locs) {M : Nat} (harr : Cond.arrayClass .long ∈ lw_g) 
    {n : Int32} {r : Option Nat} {h' : ss_Hp} (hv : ss_na h 23 M n = some (r, h')) (hM : M ≤ 1000000) (hcells : cells + 1 ≤ R.cells) (hslots : slots + M ≤ R.slots) (hdg : decode cc pc = .ok (.newarray .long, 2))
    (kk : ∀ (H1 : Heap), ss_R G h' H1 → va_S (ss_A G) s.heap H1 locs → W p l e R s m args below meth c H1 locs (cells + 1) (slots + M) Q (F0 m (pc + 2) ls (ss_v (ss_b G) r :: rest))) : W p l e R s m args below meth c H locs cells slots Q (F0 m pc ls (.int n :: rest)) := by
  obtain ⟨hx, hb, -, hown, hts⟩ := hC
  obtain ⟨⟨h0, hle⟩, hv⟩ := ss_chk hv
  cases hv
  refine va_newaK (atype := .long) hx hb (hts _ harr) rfl hdg rfl h0 rfl (Nat.le_trans (Nat.mul_le_mul (Nat.le_trans hle hM) (show componentBytes (newarray.typeOf .long) ≤ 8 by decide)) (by decide)) hcells (by omega) rfl fun H1 cA e1 z1 o1 hAr hNm => ?_
  have hcA : cA = G.2.1 23 := by
    have h1 := (hK.1.2 3 _ rfl).2
    exact Option.some.inj (hNm.symm.trans h1)
  refine W.widen (k := cells + 1) (n := slots + M) (Nat.le_refl _) (by omega) ?_
  refine W.eq (g2 := F0 m (pc + 2) ls (ss_v (ss_b G) (some h.1) :: rest)) (by rw [ss_v_some, ← hR.1]) ?_
  refine kk H1 (ss_Rnew hR (fun q => absurd (show 23 < 20 from q) (by decide)) z1 o1 ?_) (ss_Snew hS z1 o1)
  rw [ss_emb_l rfl]
  show H1[ss_b G + h.1]? = _
  rw [← hR.1, e1, hcA]
  simp only [if_true, vp_cell_l, List.length_replicate]
  congr 2
  funext j
  rw [List.getD_eq_getElem?_getD]
  by_cases hj : j < n.toNatClampNeg
  · simp [hj]; rfl
  · rw [List.getElem?_eq_none (by simpa using hj)]; rfl
theorem ss_newaq (hC : CallFix p m c cc nL s args lw_g own) (hK : ss_K G s) (hR : ss_R G h H) (hS : va_S (ss_A G) s.heap H locs) {index t t0 M : Nat} {C : String} (hcl : Cond.classLink own index C ∈ lw_g) (hover : va_AO C s) (ht0 : (ss_ty G)[t0]? = some (G.2.1 t, .object C)) (h23 : 23 < t ∧ t < 99)
    {n : Int32} {r : Option Nat} {h' : ss_Hp} (hv : ss_na h t M n = some (r, h')) (hM : M ≤ 1000000) (hcells : cells + 1 ≤ R.cells) (hslots : slots + M ≤ R.slots) (hdg : decode cc pc = .ok (.anewarray index, 3))
    (kk : ∀ (H1 : Heap), ss_R G h' H1 → va_S (ss_A G) s.heap H1 locs → W p l e R s m args below meth c H1 locs (cells + 1) (slots + M) Q (F0 m (pc + 3) ls (ss_v (ss_b G) r :: rest))) : W p l e R s m args below meth c H locs cells slots Q (F0 m pc ls (.int n :: rest)) := by
  obtain ⟨hx, hb, -, hown, hts⟩ := hC
  obtain ⟨⟨h0, hle⟩, hv⟩ := ss_chk hv
  cases hv
  refine W.anew hx hb hown (hts _ hcl) (va_AO.use hover) rfl hdg rfl h0 (by omega) hcells (by omega) fun cA kA comp f1 f2 f3 f4 => ?_
  generalize hH1 : H.push ({ cls := cA, slots := Array.replicate n.toNatClampNeg .null, vm := .none } : Cell) = H1
  have z1 : H1.size = H.size + 1 := by rw [← hH1, Array.size_push]
  have e1 : H1[H.size]? = some (arrV cA n.toNatClampNeg (fun _ => .null)) := by rw [← hH1, Array.getElem?_push_size, ← arrV_new]
  have o1 : ∀ q : Nat, q < H.size → H1[q]? = H[q]? := fun q hq => by rw [← hH1, Array.getElem?_push, if_neg (Nat.ne_of_lt hq)]
  have hcA : cA = G.2.1 t := by
    obtain ⟨_, _, -, -, -, h1⟩ := (hK.1.2 t0 _ ht0).2
    exact Option.some.inj (f1.symm.trans h1)
  have h1 : ¬ t < 23 := by omega
  have h2 : ¬ t = 23 := by omega
  refine W.widen (k := cells + 1) (n := slots + M) (Nat.le_refl _) (by omega) ?_
  refine W.eq (g2 := F0 m (pc + 3) ls (ss_v (ss_b G) (some h.1) :: rest)) (by rw [ss_v_some, ← hR.1]) ?_
  refine kk H1 (ss_Rnew hR (fun q => absurd (show t < 20 from q) (by omega)) z1 o1 ?_) (ss_Snew hS z1 o1)
  rw [ss_emb_q h23.1]
  show H1[ss_b G + h.1]? = _
  rw [← hR.1, e1, hcA]
  simp only [h23.1, if_true, vp_cell_q, List.length_replicate]
  congr 2
  funext j
  rw [List.getD_eq_getElem?_getD]
  by_cases hj : j < n.toNatClampNeg
  · simp [hj]; rfl
  · rw [List.getElem?_eq_none (by simpa using hj)]; rfl
/-- a new object -/
def ss_nw (own : String) (index ci : Nat) (fs : List Value) : Prop := ∃ (C : String) (T : u_T) (N : Nat) (ty0 : Nat → FieldType), ss_cl[ci]? = some (C, T, N) ∧ (∀ w ∈ u_ws C T N, w ∈ lw_g) ∧ (∀ k, k < N → parseFieldDescriptor (T k).2.2.1 = some (ty0 k)) ∧ Cond.classLink own index C ∈ lw_g ∧ Cond.instantiable C N ∈ lw_g ∧ Cond.initialized C ∈ lw_g ∧ ∀ j, j < N → defaultValue (ty0 j) = vp_V fs j
theorem ss_newo (hC : CallFix p m c cc nL s args lw_g own) (hK : ss_K G s) (hR : ss_R G h H) (hS : va_S (ss_A G) s.heap H locs) {index ci ni nl nr N : Nat} (hN : (ss_cl[ci]?).map (fun q => q.2.2) = some N) (hw : ss_nw own index ci (ss_fs 0 (ci, List.replicate ni 0, List.replicate nl 0, List.replicate nr none))) (hcn : ss_cnt ci = (ni, nl))
    {r : Option Nat} {h' : ss_Hp} (hv : ss_no h ci ni nl nr = some (r, h')) (hcells : cells + 1 ≤ R.cells) (hslots : slots + N ≤ R.slots) (hdg : decode cc pc = .ok (.new index, 3))
    (kk : ∀ (H1 : Heap), ss_R G h' H1 → va_S (ss_A G) s.heap H1 locs → W p l e R s m args below meth c H1 locs (cells + 1) (slots + N) Q (F0 m (pc + 3) ls (ss_v (ss_b G) r :: rest))) : W p l e R s m args below meth c H locs cells slots Q (F0 m pc ls rest) := by
  obtain ⟨hx, hb, -, hown, hts⟩ := hC
  obtain ⟨C, T, N', ty0, hc, hin, hty, hcl, hinst, hini, hfs⟩ := hw
  rw [hc] at hN
  cases hN
  cases hv
  have hKn := hK.1.1 ci _ hc
  refine W.newcK hx hb hown (hts _ hcl) (hts _ hinst) (hts _ hini) rfl hdg hcells hslots hKn.2.1 rfl fun H1 kC hkC e1 z1 o1 => ?_
  refine W.eq (g2 := F0 m (pc + 3) ls (ss_v (ss_b G) (some h.1) :: rest)) (by rw [ss_v_some, ← hR.1]) ?_
  refine kk H1 (ss_Rnew hR (fun _ => by rw [hcn]; simp) z1 o1 ?_) (ss_Snew hS z1 o1)
  rw [ss_emb_o (ss_ci hc), ← hR.1]
  refine ⟨_, hc, (u_born ty0 hts hin hKn hkC e1 hty).to (fun j hj => ?_)⟩
  rw [hfs j hj]
  simp [ss_fs, ss_v, ss_e]
end SSAR
