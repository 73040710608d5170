/-! ===== one instruction that touches the heap, a row ===== -/
def ss_fl (own : String) (index ci k : Nat) : Prop := ∃ (C : String) (T : u_T) (N : Nat), ss_cl[ci]? = some (C, T, N) ∧ k < N ∧ Cond.fieldLink own index (T k).1 (T k).2.1 (T k).2.2.1 ∈ lw_g ∧ ∀ w ∈ u_ws C T N, w ∈ lw_g
def ss_fp (own : String) (index ci k : Nat) (ty : FieldType) : Prop := ∃ (C : String) (T : u_T) (N : Nat) (ty0 : Nat → FieldType), ss_cl[ci]? = some (C, T, N) ∧ k < N ∧ Cond.fieldLink own index (T k).1 (T k).2.1 (T k).2.2.1 ∈ lw_g ∧ (∀ w ∈ u_ws C T N, w ∈ lw_g) ∧ (∀ k, k < N → parseFieldDescriptor (T k).2.2.1 = some (ty0 k)) ∧ (∀ a, a < N → ∀ b, b < N → a ≠ b → (T a).2.1 ≠ (T b).2.1) ∧ (T k).2.2.2 = false ∧ parseFieldDescriptor (T k).2.2.1 = some ty
def ss_fq (own : String) (index ci k : Nat) (ty : FieldType) : Prop := ∃ (C : String) (T : u_T) (N : Nat) (ty0 : Nat → FieldType), ss_cl[ci]? = some (C, T, N) ∧ k < N ∧ Cond.fieldLink own index (T k).1 (T k).2.1 (T k).2.2.1 ∈ lw_g ∧ (∀ w ∈ u_ws C T N, w ∈ lw_g) ∧ (∀ k, k < N → parseFieldDescriptor (T k).2.2.1 = some (ty0 k)) ∧ (∀ a, a < N → ∀ b, b < N → a ≠ b → (T a).2.1 ≠ (T b).2.1) ∧ (T k).2.2.2 = true ∧ (T k).1 = own ∧ parseFieldDescriptor (T k).2.2.1 = some ty
section SSOP
variable {p : Program} {l : Launch} {e : Env} {R : Room} {s : State} {m : MethodId} {args : Array Value} {below : List Frame} {meth : Method} {c : Code} {H : Heap} {locs : List Loc} {cells slots : Nat} {Q : State → Prop}
variable {cc : ByteArray} {nL pc : Nat} {ls : Array Slot} {rest : List Value} {G : ss_G} {h : ss_Hp} {own : String}
theorem ss_emb_o {c : ss_Cl} (hc : c.1 < 20) : ss_emb G c = .inr (c.1, ss_fs (ss_b G) c) := by simp [ss_emb, hc]
theorem ss_emb_i {c : ss_Cl} (h1 : ¬ c.1 < 20) (h2 : c.1 < 23) : ss_emb G c = .inl (G.2.1 c.1, c.2.1.length, .inl (fun j => c.2.1.getD j 0)) := by simp [ss_emb, h1, h2]
theorem ss_emb_l {c : ss_Cl} (h2 : c.1 = 23) : ss_emb G c = .inl (G.2.1 c.1, c.2.2.1.length, .inr (.inl (fun j => c.2.2.1.getD j 0))) := by simp [ss_emb, h2]
theorem ss_emb_q {c : ss_Cl} (h2 : 23 < c.1) : ss_emb G c = .inl (G.2.1 c.1, c.2.2.2.length, .inr (.inr (.inr (.inr (fun j => ss_e (ss_b G) (c.2.2.2.getD j none)))))) := by
  have h3 : ¬ c.1 < 20 := by omega
  have h4 : ¬ c.1 < 23 := by omega
  have h5 : ¬ c.1 = 23 := by omega
  simp [ss_emb, h3, h4, h5]
theorem ss_ci {ci : Nat} {q : vw_C} (h : ss_cl[ci]? = some q) : ci < 20 := by
  have : ci < ss_cl.length := (List.getElem?_eq_some_iff.mp h).1
  have e : ss_cl.length = 13 := rfl
  omega
/-- the cell of an object -/
theorem ss_obj (hR : ss_R G h H) {a ci : Nat} (ht : (h.2 a).1 = ci) (hc : ci < 20) : a < h.1 ∧ (ss_ws G h)[a]? = some (ss_b G + a, .inr (ci, ss_fs (ss_b G) (h.2 a))) ∧ (h.2 a).2.1.length = (ss_cnt ci).1 ∧ (h.2 a).2.2.1.length = (ss_cnt ci).2 := by
  have hl := ss_live hR ht (by omega)
  have ho := hR.2.2.1 a
  rw [ss_okc, ht] at ho
  refine ⟨hl, ?_, ho hc⟩
  rw [ss_ws_at G h hl, ss_emb_o (by omega), ht]
theorem ss_gf (hC : CallFix p m c cc nL s args lw_g own) (hK : ss_K G s) (hR : ss_R G h H) {a index ci k : Nat} {v : Value} (hf : ss_fl own index ci k) (ht : (h.2 a).1 = ci) (hv : (ss_fs (ss_b G) (h.2 a))[k]? = some v) (hdg : decode cc pc = .ok (.getfield index, 3))
    (kk : W p l e R s m args below meth c H locs cells slots Q (F0 m (pc + 3) ls (v :: rest))) : W p l e R s m args below meth c H locs cells slots Q (F0 m pc ls (.ref (ss_b G + a) :: rest)) := by
  obtain ⟨hx, hb, -, hown, hts⟩ := hC
  obtain ⟨C, T, N, hc, hk, hlk, hin⟩ := hf
  obtain ⟨-, hw, -⟩ := ss_obj hR ht (ss_ci hc)
  exact va_get hx hb hts hin hown hK.1 hR.2.1 a hw hc k hk (hts _ hlk) (fun _ h9 => h9) hv hdg kk
theorem ss_geti (hC : CallFix p m c cc nL s args lw_g own) (hK : ss_K G s) (hR : ss_R G h H) {r : Option Nat} {index ci j : Nat} {v : Int32} (hf : ss_fl own index ci j) (hv : ss_gi h r ci j = some v) (hdg : decode cc pc = .ok (.getfield index, 3))
    (kk : W p l e R s m args below meth c H locs cells slots Q (F0 m (pc + 3) ls (.int v :: rest))) : W p l e R s m args below meth c H locs cells slots Q (F0 m pc ls (ss_v (ss_b G) r :: rest)) := by
  cases r with
  | none => cases hv
  | some a =>
    rw [ss_gi] at hv
    split at hv
    · next ht =>
      refine ss_gf hC hK hR hf ht ?_ hdg kk
      rw [ss_fs, List.getElem?_append_left (by rw [List.length_map]; exact (List.getElem?_eq_some_iff.mp hv).1), List.getElem?_map, hv]
      rfl
    · cases hv
theorem ss_getl (hC : CallFix p m c cc nL s args lw_g own) (hK : ss_K G s) (hR : ss_R G h H) {r : Option Nat} {index ci j k : Nat} {v : Int64} (hf : ss_fl own index ci k) (hk : k = (ss_cnt ci).1 + j) (hv : ss_gl h r ci j = some v) (hdg : decode cc pc = .ok (.getfield index, 3))
    (kk : W p l e R s m args below meth c H locs cells slots Q (F0 m (pc + 3) ls (.long v :: rest))) : W p l e R s m args below meth c H locs cells slots Q (F0 m pc ls (ss_v (ss_b G) r :: rest)) := by
  cases r with
  | none => cases hv
  | some a =>
    rw [ss_gl] at hv
    split at hv
    · next ht =>
      refine ss_gf hC hK hR hf ht ?_ hdg kk
      obtain ⟨C, T, N, hc, -⟩ := hf
      obtain ⟨-, -, e1, e2⟩ := ss_obj hR ht (ss_ci hc)
      have hj : j < (h.2 a).2.2.1.length := (List.getElem?_eq_some_iff.mp hv).1
      rw [ss_fs, List.getElem?_append_right (by rw [List.length_map]; omega), List.length_map, List.getElem?_append_left (by rw [List.length_map]; omega), List.getElem?_map, show k - (h.2 a).2.1.length = j by omega, hv]
      rfl
    · cases hv
theorem ss_getr (hC : CallFix p m c cc nL s args lw_g own) (hK : ss_K G s) (hR : ss_R G h H) {r : Option Nat} {index ci j k : Nat} {v : Option Nat} (hf : ss_fl own index ci k) (hk : k = (ss_cnt ci).1 + (ss_cnt ci).2 + j) (hv : ss_gr h r ci j = some v) (hdg : decode cc pc = .ok (.getfield index, 3))
    (kk : W p l e R s m args below meth c H locs cells slots Q (F0 m (pc + 3) ls (ss_v (ss_b G) v :: rest))) : W p l e R s m args below meth c H locs cells slots Q (F0 m pc ls (ss_v (ss_b G) r :: rest)) := by
  cases r with
  | none => cases hv
  | some a =>
    rw [ss_gr] at hv
    split at hv
    · next ht =>
      refine ss_gf hC hK hR hf ht ?_ hdg kk
      obtain ⟨C, T, N, hc, -⟩ := hf
      obtain ⟨-, -, e1, e2⟩ := ss_obj hR ht (ss_ci hc)
      rw [ss_fs, List.getElem?_append_right (by rw [List.length_map]; omega), List.length_map, List.getElem?_append_right (by rw [List.length_map]; omega), List.length_map, List.getElem?_map, show k - (h.2 a).2.1.length - (h.2 a).2.2.1.length = j by omega, hv]
      rfl
    · cases hv
/-- a heap that has changed at one cell, which keeps its tag -/
theorem ss_Rset (hR : ss_R G h H) {a : Nat} {c2 : ss_Cl} {H1 : Heap} (ha : a < h.1) (ho : ss_okc c2) (hz : H1.size = H.size) (hP : va_P G.1 ss_cl ((ss_ws G h).set a (ss_b G + a, ss_emb G c2)) H1) : ss_R G (ss_hs h a c2) H1 := by
  refine ⟨hz.trans hR.1, ?_, fun k => ?_, fun k hk => ?_⟩
  · rw [← ss_ws_set G h c2 ha]; exact hP
  · show ss_okc (if k = a then c2 else h.2 k)
    split
    · exact ho
    · exact hR.2.2.1 k
  · show (if k = a then c2 else h.2 k).1 = 99
    have hk2 : h.1 ≤ k := hk
    rw [if_neg (by omega)]
    exact hR.2.2.2 k hk
/-- a field is written -/
theorem ss_pf (hC : CallFix p m c cc nL s args lw_g own) (hK : ss_K G s) (hR : ss_R G h H) (hS : va_S (ss_A G) s.heap H locs) {a index ci k : Nat} {ty : FieldType} {v : Value} {c2 : ss_Cl} (hf : ss_fp own index ci k ty) (ht : (h.2 a).1 = ci) (hl : k < (ss_fs (ss_b G) (h.2 a)).length) (h2 : c2.1 = ci) (h3 : ss_fs (ss_b G) c2 = (ss_fs (ss_b G) (h.2 a)).set k v) (h4 : ss_okc c2) (hn : narrow ty v = v) (hfit : fits ty v = true) (hdg : decode cc pc = .ok (.putfield index, 3))
    (kk : ∀ (H1 : Heap) (locs1 : List Loc), ss_R G (ss_hs h a c2) H1 → va_S (ss_A G) s.heap H1 locs1 → W p l e R s m args below meth c H1 locs1 cells slots Q (F0 m (pc + 3) ls rest)) : W p l e R s m args below meth c H locs cells slots Q (F0 m pc ls (v :: .ref (ss_b G + a) :: rest)) := by
  obtain ⟨hx, hb, -, hown, hts⟩ := hC
  obtain ⟨C, T, N, ty0, hc, hk, hlk, hin, hty, hnm, hfin, hd⟩ := hf
  obtain ⟨ha, hw, -⟩ := ss_obj hR ht (ss_ci hc)
  have hap := va_apart (own := own) hts hin ty0 hty hnm hK.1 hc
  have hP := hR.2.1
  obtain ⟨r, h1, cell, q1, q2, q3, q4⟩ := hP a _ hw
  have hr : r = (C, T, N) := Option.some.inj (h1.symm.trans hc)
  subst hr
  obtain ⟨hSl, hfc, kC, hkC, hkind⟩ := hK.1.1 ci _ hc
  obtain ⟨cf, kf, fi, f, hi, hsl⟩ := hSl k hk
  have hlay := hts _ (hin _ (u_in_lay hk))
  unfold u_lay at hlay
  rw [if_neg (by rw [hfin]; decide)] at hlay
  have hst := (u_facts hfc hkC (u_lays hts hin hk) hi).1
  have h6 := u_store hfc hkC hkind hlay hi hd hn hfit
  refine W.putK hx hb (f := f) ⟨hown, hts _ hlk, ⟨_, _, _, hi⟩, hst⟩ (by rw [q2]; exact h6) q1 q3 (by rw [hsl]; exact k2_hasslot (q4 k hk)) rfl rfl hdg fun H' e1 e2 e3 => ?_
  rw [hsl] at e1 ⊢
  refine kk H' _ (ss_Rset hR ha h4 e2 ?_) (hS.put e2 e3 (Nat.le_add_right _ _))
  rw [ss_emb_o (by rw [h2]; exact ss_ci hc), h2, h3]
  exact hP.set (ss_D G h) hw ⟨_, hc, t_OB.to (V := updV (vp_V _) k v) ⟨_, e1, q2, q3, t_set q4 hap hk v⟩ (fun j _ => vp_updV_set hl v j)⟩ e3
/-- a final field is written, in a constructor -/
theorem ss_pff (hC : CallFix p m c cc nL s args lw_g own) (hK : ss_K G s) (hR : ss_R G h H) (hS : va_S (ss_A G) s.heap H locs) {a index ci k : Nat} {ty : FieldType} {v : Value} {c2 : ss_Cl} (hf : ss_fq own index ci k ty) (hin2 : meth.name = "<init>") (ht : (h.2 a).1 = ci) (hl : k < (ss_fs (ss_b G) (h.2 a)).length) (h2 : c2.1 = ci) (h3 : ss_fs (ss_b G) c2 = (ss_fs (ss_b G) (h.2 a)).set k v) (h4 : ss_okc c2) (hn : narrow ty v = v) (hfit : fits ty v = true) (hdg : decode cc pc = .ok (.putfield index, 3))
    (kk : ∀ (H1 : Heap) (locs1 : List Loc), ss_R G (ss_hs h a c2) H1 → va_S (ss_A G) s.heap H1 locs1 → W p l e R s m args below meth c H1 locs1 cells slots Q (F0 m (pc + 3) ls rest)) : W p l e R s m args below meth c H locs cells slots Q (F0 m pc ls (v :: .ref (ss_b G + a) :: rest)) := by
  obtain ⟨hx, hb, -, hown, hts⟩ := hC
  obtain ⟨C, T, N, ty0, hc, hk, hlk, hin, hty, hnm, hfin, hdecl, hd⟩ := hf
  obtain ⟨ha, hw, -⟩ := ss_obj hR ht (ss_ci hc)
  have hap := va_apart (own := own) hts hin ty0 hty hnm hK.1 hc
  have hP := hR.2.1
  obtain ⟨r, h1, cell, q1, q2, q3, q4⟩ := hP a _ hw
  have hr : r = (C, T, N) := Option.some.inj (h1.symm.trans hc)
  subst hr
  obtain ⟨hSl, hfc, kC, hkC, hkind⟩ := hK.1.1 ci _ hc
  obtain ⟨cf, kf, fi, f, hi, hsl⟩ := hSl k hk
  have hlay := hts _ (hin _ (u_in_lay hk))
  unfold u_lay at hlay
  rw [if_pos hfin] at hlay
  have hst := (u_facts hfc hkC (u_lays hts hin hk) hi).1
  have hcf : m.cls = cf := by
    obtain ⟨_, _, c', _, _, _, -, -, hf', -, -, -, hown2, -⟩ := Cond.laysFinal_spec hlay
    have e1 : c' = cf := by have := hi.symm.trans hf'; simp at this; exact this.1.symm
    rw [hdecl] at hown2
    rw [← e1]; exact Option.some.inj (hown.symm.trans hown2)
  have h6 := u_fits hfc hkC hkind (Or.inr hlay) hi hd hn hfit
  refine W.putFinK hx hb hown (hts _ hlk) hi hst hcf hin2 (by rw [q2]; exact h6) q1 q3 (by rw [hsl]; exact k2_hasslot (q4 k hk)) rfl rfl hdg fun H' e1 e2 e3 => ?_
  rw [hsl] at e1 ⊢
  refine kk H' _ (ss_Rset hR ha h4 e2 ?_) (hS.put e2 e3 (Nat.le_add_right _ _))
  rw [ss_emb_o (by rw [h2]; exact ss_ci hc), h2, h3]
  exact hP.set (ss_D G h) hw ⟨_, hc, t_OB.to (V := updV (vp_V _) k v) ⟨_, e1, q2, q3, t_set q4 hap hk v⟩ (fun j _ => vp_updV_set hl v j)⟩ e3
theorem ss_set1 {b : Nat} {c1 : ss_Cl} {j : Nat} (v : Int32) (hj : j < c1.2.1.length) : ss_fs b (c1.1, c1.2.1.set j v, c1.2.2) = (ss_fs b c1).set j (.int v) := by
  simp [ss_fs, List.map_set, List.set_append, hj]
theorem ss_set2 {b : Nat} {c1 : ss_Cl} {j k : Nat} (v : Int64) (hj : j < c1.2.2.1.length) (hk : k = c1.2.1.length + j) : ss_fs b (c1.1, c1.2.1, c1.2.2.1.set j v, c1.2.2.2) = (ss_fs b c1).set k (.long v) := by
  subst hk
  simp [ss_fs, List.map_set, List.set_append, hj]
theorem ss_set3 {b : Nat} {c1 : ss_Cl} {j k : Nat} (v : Option Nat) (hj : j < c1.2.2.2.length) (hk : k = c1.2.1.length + c1.2.2.1.length + j) : ss_fs b (c1.1, c1.2.1, c1.2.2.1, c1.2.2.2.set j v) = (ss_fs b c1).set k (ss_v b v) := by
  subst hk
  have h1 : ¬ c1.2.1.length + c1.2.2.1.length + j < c1.2.1.length := by omega
  have h2 : ¬ c1.2.1.length + c1.2.2.1.length + j - c1.2.1.length < c1.2.2.1.length := by omega
  have h3 : c1.2.1.length + c1.2.2.1.length + j - c1.2.1.length - c1.2.2.1.length = j := by omega
  simp [ss_fs, List.map_set, List.set_append, h1, h2, h3]
theorem ss_puti (hC : CallFix p m c cc nL s args lw_g own) (hK : ss_K G s) (hR : ss_R G h H) (hS : va_S (ss_A G) s.heap H locs) {r : Option Nat} {index ci j : Nat} {v : Int32} {h' : ss_Hp} (hf : ss_fp own index ci j .int) (hv : ss_pi h r ci j v = some h') (hdg : decode cc pc = .ok (.putfield index, 3))
    (kk : ∀ (H1 : Heap) (locs1 : List Loc), ss_R G h' H1 → va_S (ss_A G) s.heap H1 locs1 → W p l e R s m args below meth c H1 locs1 cells slots Q (F0 m (pc + 3) ls rest)) : W p l e R s m args below meth c H locs cells slots Q (F0 m pc ls (.int v :: ss_v (ss_b G) r :: rest)) := by
  cases r with
  | none => cases hv
  | some a =>
    rw [ss_pi] at hv
    split at hv
    · next ht =>
      cases hv
      obtain ⟨C, T, N, ty0, hc, -⟩ := id hf
      obtain ⟨-, -, e1, e2⟩ := ss_obj hR ht.1 (ss_ci hc)
      refine ss_pf hC hK hR hS hf ht.1 (by simp [ss_fs]; omega) rfl ?_ (fun _ => ⟨by simpa using e1, e2⟩) rfl rfl hdg kk
      rw [← ss_set1 v ht.2, ht.1]
    · cases hv
theorem ss_putz (hC : CallFix p m c cc nL s args lw_g own) (hK : ss_K G s) (hR : ss_R G h H) (hS : va_S (ss_A G) s.heap H locs) {r : Option Nat} {index ci j : Nat} {v : Int32} {h' : ss_Hp} (hf : ss_fp own index ci j .boolean) (hv : ss_pz h r ci j v = some h') (hdg : decode cc pc = .ok (.putfield index, 3))
    (kk : ∀ (H1 : Heap) (locs1 : List Loc), ss_R G h' H1 → va_S (ss_A G) s.heap H1 locs1 → W p l e R s m args below meth c H1 locs1 cells slots Q (F0 m (pc + 3) ls rest)) : W p l e R s m args below meth c H locs cells slots Q (F0 m pc ls (.int v :: ss_v (ss_b G) r :: rest)) := by
  obtain ⟨hz, hv⟩ := ss_chk hv
  cases r with
  | none => cases hv
  | some a =>
    rw [ss_pi] at hv
    split at hv
    · next ht =>
      cases hv
      obtain ⟨C, T, N, ty0, hc, -⟩ := id hf
      obtain ⟨-, -, e1, e2⟩ := ss_obj hR ht.1 (ss_ci hc)
      refine ss_pf hC hK hR hS hf ht.1 (by simp [ss_fs]; omega) rfl ?_ (fun _ => ⟨by simpa using e1, e2⟩) (by rcases hz with rfl | rfl <;> decide) (by rcases hz with rfl | rfl <;> decide) hdg kk
      rw [← ss_set1 v ht.2, ht.1]
    · cases hv
theorem ss_putl (hC : CallFix p m c cc nL s args lw_g own) (hK : ss_K G s) (hR : ss_R G h H) (hS : va_S (ss_A G) s.heap H locs) {r : Option Nat} {index ci j k : Nat} {v : Int64} {h' : ss_Hp} (hf : ss_fp own index ci k .long) (hk : k = (ss_cnt ci).1 + j) (hv : ss_pl h r ci j v = some h') (hdg : decode cc pc = .ok (.putfield index, 3))
    (kk : ∀ (H1 : Heap) (locs1 : List Loc), ss_R G h' H1 → va_S (ss_A G) s.heap H1 locs1 → W p l e R s m args below meth c H1 locs1 cells slots Q (F0 m (pc + 3) ls rest)) : W p l e R s m args below meth c H locs cells slots Q (F0 m pc ls (.long v :: ss_v (ss_b G) r :: rest)) := by
  cases r with
  | none => cases hv
  | some a =>
    rw [ss_pl] at hv
    split at hv
    · next ht =>
      cases hv
      obtain ⟨C, T, N, ty0, hc, -⟩ := id hf
      obtain ⟨-, -, e1, e2⟩ := ss_obj hR ht.1 (ss_ci hc)
      refine ss_pf hC hK hR hS hf ht.1 (by simp [ss_fs]; omega) rfl ?_ (fun _ => ⟨e1, by simpa using e2⟩) rfl rfl hdg kk
      rw [← ss_set2 v ht.2 (by omega), ht.1]
    · cases hv
theorem ss_putr (hC : CallFix p m c cc nL s args lw_g own) (hK : ss_K G s) (hR : ss_R G h H) (hS : va_S (ss_A G) s.heap H locs) {r : Option Nat} {index ci j k : Nat} {ty : FieldType} {v : Option Nat} {h' : ss_Hp} (hf : ss_fp own index ci k ty) (hk : k = (ss_cnt ci).1 + (ss_cnt ci).2 + j) (hty : (∃ n, ty = .object n) ∨ ∃ t, ty = .array t) (hv : ss_pr h r ci j v = some h') (hdg : decode cc pc = .ok (.putfield index, 3))
    (kk : ∀ (H1 : Heap) (locs1 : List Loc), ss_R G h' H1 → va_S (ss_A G) s.heap H1 locs1 → W p l e R s m args below meth c H1 locs1 cells slots Q (F0 m (pc + 3) ls rest)) : W p l e R s m args below meth c H locs cells slots Q (F0 m pc ls (ss_v (ss_b G) v :: ss_v (ss_b G) r :: rest)) := by
  cases r with
  | none => cases hv
  | some a =>
    rw [ss_pr] at hv
    split at hv
    · next ht =>
      cases hv
      obtain ⟨C, T, N, ty0, hc, -⟩ := id hf
      obtain ⟨-, -, e1, e2⟩ := ss_obj hR ht.1 (ss_ci hc)
      refine ss_pf hC hK hR hS hf ht.1 (by simp [ss_fs]; omega) rfl ?_ (fun _ => ⟨e1, e2⟩) (by rcases hty with ⟨n, rfl⟩ | ⟨t, rfl⟩ <;> cases v <;> rfl) (by rcases hty with ⟨n, rfl⟩ | ⟨t, rfl⟩ <;> cases v <;> rfl) hdg kk
      rw [← ss_set3 v ht.2 (by omega), ht.1]
    · cases hv
theorem ss_putrF (hC : CallFix p m c cc nL s args lw_g own) (hK : ss_K G s) (hR : ss_R G h H) (hS : va_S (ss_A G) s.heap H locs) (hin2 : meth.name = "<init>") {r : Option Nat} {index ci j k : Nat} {ty : FieldType} {v : Option Nat} {h' : ss_Hp} (hf : ss_fq own index ci k ty) (hk : k = (ss_cnt ci).1 + (ss_cnt ci).2 + j) (hty : (∃ n, ty = .object n) ∨ ∃ t, ty = .array t) (hv : ss_pr h r ci j v = some h') (hdg : decode cc pc = .ok (.putfield index, 3))
    (kk : ∀ (H1 : Heap) (locs1 : List Loc), ss_R G h' H1 → va_S (ss_A G) s.heap H1 locs1 → W p l e R s m args below meth c H1 locs1 cells slots Q (F0 m (pc + 3) ls rest)) : W p l e R s m args below meth c H locs cells slots Q (F0 m pc ls (ss_v (ss_b G) v :: ss_v (ss_b G) r :: rest)) := by
  cases r with
  | none => cases hv
  | some a =>
    rw [ss_pr] at hv
    split at hv
    · next ht =>
      cases hv
      obtain ⟨C, T, N, ty0, hc, -⟩ := id hf
      obtain ⟨-, -, e1, e2⟩ := ss_obj hR ht.1 (ss_ci hc)
      refine ss_pff hC hK hR hS hf hin2 ht.1 (by simp [ss_fs]; omega) rfl ?_ (fun _ => ⟨e1, e2⟩) (by rcases hty with ⟨n, rfl⟩ | ⟨t, rfl⟩ <;> cases v <;> rfl) (by rcases hty with ⟨n, rfl⟩ | ⟨t, rfl⟩ <;> cases v <;> rfl) hdg kk
      rw [← ss_set3 v ht.2 (by omega), ht.1]
    · cases hv
theorem ss_putiF (hC : CallFix p m c cc nL s args lw_g own) (hK : ss_K G s) (hR : ss_R G h H) (hS : va_S (ss_A G) s.heap H locs) (hin2 : meth.name = "<init>") {r : Option Nat} {index ci j : Nat} {v : Int32} {h' : ss_Hp} (hf : ss_fq own index ci j .int) (hv : ss_pi h r ci j v = some h') (hdg : decode cc pc = .ok (.putfield index, 3))
    (kk : ∀ (H1 : Heap) (locs1 : List Loc), ss_R G h' H1 → va_S (ss_A G) s.heap H1 locs1 → W p l e R s m args below meth c H1 locs1 cells slots Q (F0 m (pc + 3) ls rest)) : W p l e R s m args below meth c H locs cells slots Q (F0 m pc ls (.int v :: ss_v (ss_b G) r :: rest)) := by
  cases r with
  | none => cases hv
  | some a =>
    rw [ss_pi] at hv
    split at hv
    · next ht =>
      cases hv
      obtain ⟨C, T, N, ty0, hc, -⟩ := id hf
      obtain ⟨-, -, e1, e2⟩ := ss_obj hR ht.1 (ss_ci hc)
      refine ss_pff hC hK hR hS hf hin2 ht.1 (by simp [ss_fs]; omega) rfl ?_ (fun _ => ⟨by simpa using e1, e2⟩) rfl rfl hdg kk
      rw [← ss_set1 v ht.2, ht.1]
    · cases hv
end SSOP
