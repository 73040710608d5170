/-! ===== the pure heap: cells by number; a cell: its tag (a class' number, or 20 int[], 21 byte[], 22 boolean[], 23 long[], 24.. arrays of references), ints, longs, references ===== -/
abbrev ss_Cl : Type := Nat × List Int32 × List Int64 × List (Option Nat)
abbrev ss_Hp : Type := Nat × (Nat → ss_Cl)
abbrev ss_G : Type := va_G × (Nat → ClassId) × Nat × (Nat → Nat) × (Nat → Nat)
abbrev ss_b (G : ss_G) : Nat := G.2.2.1
def ss_hs (h : ss_Hp) (a : Nat) (c : ss_Cl) : ss_Hp := (h.1, fun k => if k = a then c else h.2 k)
def ss_hn (h : ss_Hp) (c : ss_Cl) : ss_Hp := (h.1 + 1, fun k => if k = h.1 then c else h.2 k)
def ss_is (h : ss_Hp) (r : Option Nat) (ci : Nat) : Bool := match r with
  | some a => (h.2 a).1 == ci
  | none => false
/-- fields -/
def ss_gi (h : ss_Hp) (r : Option Nat) (ci j : Nat) : Option Int32 := match r with
  | some a => if (h.2 a).1 = ci then (h.2 a).2.1[j]? else none
  | none => none
def ss_gl (h : ss_Hp) (r : Option Nat) (ci j : Nat) : Option Int64 := match r with
  | some a => if (h.2 a).1 = ci then (h.2 a).2.2.1[j]? else none
  | none => none
def ss_gr (h : ss_Hp) (r : Option Nat) (ci j : Nat) : Option (Option Nat) := match r with
  | some a => if (h.2 a).1 = ci then (h.2 a).2.2.2[j]? else none
  | none => none
def ss_pi (h : ss_Hp) (r : Option Nat) (ci j : Nat) (v : Int32) : Option ss_Hp := match r with
  | some a => if (h.2 a).1 = ci ∧ j < (h.2 a).2.1.length then some (ss_hs h a (ci, (h.2 a).2.1.set j v, (h.2 a).2.2)) else none
  | none => none
def ss_pz (h : ss_Hp) (r : Option Nat) (ci j : Nat) (v : Int32) : Option ss_Hp := if v = 0 ∨ v = 1 then ss_pi h r ci j v else none
def ss_pl (h : ss_Hp) (r : Option Nat) (ci j : Nat) (v : Int64) : Option ss_Hp := match r with
  | some a => if (h.2 a).1 = ci ∧ j < (h.2 a).2.2.1.length then some (ss_hs h a (ci, (h.2 a).2.1, (h.2 a).2.2.1.set j v, (h.2 a).2.2.2)) else none
  | none => none
def ss_pr (h : ss_Hp) (r : Option Nat) (ci j : Nat) (v : Option Nat) : Option ss_Hp := match r with
  | some a => if (h.2 a).1 = ci ∧ j < (h.2 a).2.2.2.length then some (ss_hs h a (ci, (h.2 a).2.1, (h.2 a).2.2.1, (h.2 a).2.2.2.set j v)) else none
  | none => none
/-- arrays -/
def ss_ai (h : ss_Hp) (r : Option Nat) (t : Nat) (i : Int32) : Option Int32 := match r with
  | some a => if (h.2 a).1 = t ∧ ¬ i < 0 then (h.2 a).2.1[i.toNatClampNeg]? else none
  | none => none
def ss_al (h : ss_Hp) (r : Option Nat) (t : Nat) (i : Int32) : Option Int64 := match r with
  | some a => if (h.2 a).1 = t ∧ ¬ i < 0 then (h.2 a).2.2.1[i.toNatClampNeg]? else none
  | none => none
def ss_ar (h : ss_Hp) (r : Option Nat) (t : Nat) (i : Int32) : Option (Option Nat) := match r with
  | some a => if (h.2 a).1 = t ∧ ¬ i < 0 then (h.2 a).2.2.2[i.toNatClampNeg]? else none
  | none => none
def ss_ui (h : ss_Hp) (r : Option Nat) (t : Nat) (i v : Int32) : Option ss_Hp := match r with
  | some a => if (h.2 a).1 = t ∧ ¬ i < 0 ∧ i.toNatClampNeg < (h.2 a).2.1.length then some (ss_hs h a (t, (h.2 a).2.1.set i.toNatClampNeg v, (h.2 a).2.2)) else none
  | none => none
def ss_ul (h : ss_Hp) (r : Option Nat) (t : Nat) (i : Int32) (v : Int64) : Option ss_Hp := match r with
  | some a => if (h.2 a).1 = t ∧ ¬ i < 0 ∧ i.toNatClampNeg < (h.2 a).2.2.1.length then some (ss_hs h a (t, (h.2 a).2.1, (h.2 a).2.2.1.set i.toNatClampNeg v, (h.2 a).2.2.2)) else none
  | none => none
/-- of references: what is stored is an object of the class ci -/
def ss_ur (h : ss_Hp) (r : Option Nat) (t ci : Nat) (i : Int32) (v : Option Nat) : Option ss_Hp := match r with
  | some a => if (h.2 a).1 = t ∧ ¬ i < 0 ∧ i.toNatClampNeg < (h.2 a).2.2.2.length ∧ ss_is h v ci = true then some (ss_hs h a (t, (h.2 a).2.1, (h.2 a).2.2.1, (h.2 a).2.2.2.set i.toNatClampNeg v)) else none
  | none => none
def ss_len (h : ss_Hp) (r : Option Nat) (t : Nat) : Option Int32 := match r with
  | some a => if (h.2 a).1 = t then some (Int32.ofNat (if t < 23 then (h.2 a).2.1.length else if t = 23 then (h.2 a).2.2.1.length else (h.2 a).2.2.2.length)) else none
  | none => none
/-- a new array of n, at most m -/
def ss_na (h : ss_Hp) (t m : Nat) (n : Int32) : Option (Option Nat × ss_Hp) :=
  if ¬ n < 0 ∧ n.toNatClampNeg ≤ m then some (some h.1, ss_hn h (t, if t < 23 then List.replicate n.toNatClampNeg 0 else [], if t = 23 then List.replicate n.toNatClampNeg 0 else [], if 23 < t then List.replicate n.toNatClampNeg none else [])) else none
def ss_no (h : ss_Hp) (ci ni nl nr : Nat) : Option (Option Nat × ss_Hp) := some (some h.1, ss_hn h (ci, List.replicate ni 0, List.replicate nl 0, List.replicate nr none))
/-- System.arraycopy between two int[] -/
def ss_cp (h : ss_Hp) (r : Option Nat) (sp : Int32) (q : Option Nat) (dp n : Int32) : Option ss_Hp := match r, q with
  | some a, some d => if (h.2 a).1 = 20 ∧ (h.2 d).1 = 20 ∧ ¬ sp < 0 ∧ ¬ dp < 0 ∧ ¬ n < 0 ∧ sp.toNatClampNeg + n.toNatClampNeg ≤ (h.2 a).2.1.length ∧ dp.toNatClampNeg + n.toNatClampNeg ≤ (h.2 d).2.1.length then some (ss_hs h d (20, (h.2 d).2.1.take dp.toNatClampNeg ++ (((h.2 a).2.1.drop sp.toNatClampNeg).take n.toNatClampNeg ++ (h.2 d).2.1.drop (dp.toNatClampNeg + n.toNatClampNeg)), (h.2 d).2.2)) else none
  | _, _ => none
def ss_div (x y : Int32) : Option Int32 := if y = 0 then none else some (x / y)
def ss_rem (x y : Int32) : Option Int32 := if y = 0 then none else some (x - x / y * y)
def ss_ldiv (x y : Int64) : Option Int64 := if y = 0 then none else some (x / y)
def ss_lrem (x y : Int64) : Option Int64 := if y = 0 then none else some (x - x / y * y)
/-- loops -/
def ss_lp {S E : Type} (body : S → Option (S ⊕ E)) : Nat → S → Option E
  | 0, _ => none
  | n + 1, s => match body s with
    | none => none
    | some (.inl s') => ss_lp body n s'
    | some (.inr e) => some e
def ss_b2 {α β γ : Type} (o : Option (α × β)) (f : α → β → Option γ) : Option γ := match o with
  | some (a, b) => f a b
  | none => none
theorem ss_bind {α β : Type} {o : Option α} {f : α → Option β} {r : β} (h : o.bind f = some r) : ∃ v, o = some v ∧ f v = some r := by
  cases o with
  | none => cases h
  | some v => exact ⟨v, rfl, h⟩
theorem ss_bind2 {α β γ : Type} {o : Option (α × β)} {f : α → β → Option γ} {r : γ} (h : ss_b2 o f = some r) : ∃ a b, o = some (a, b) ∧ f a b = some r := by
  cases o with
  | none => cases h
  | some v => obtain ⟨a, b⟩ := v; exact ⟨a, b, rfl, h⟩
theorem ss_ift {α : Type} {c : Prop} {d : Decidable c} {x y : Option α} {r : α} (h : (@ite _ c d x y) = some r) (hc : c) : x = some r := by
  rwa [if_pos hc] at h
theorem ss_iff {α : Type} {c : Prop} {d : Decidable c} {x y : Option α} {r : α} (h : (@ite _ c d x y) = some r) (hc : ¬ c) : y = some r := by
  rwa [if_neg hc] at h
theorem ss_chk {α : Type} {c : Prop} {d : Decidable c} {x : Option α} {r : α} (h : (@ite _ c d x none) = some r) : c ∧ x = some r := by
  by_cases hc : c
  · exact ⟨hc, by rwa [if_pos hc] at h⟩
  · rw [if_neg hc] at h; cases h
theorem ss_lps {S E : Type} {body : S → Option (S ⊕ E)} {n : Nat} {s : S} {e : E} (h : ss_lp body (n + 1) s = some e) : ∃ z, body s = some z ∧ (∀ s', z = .inl s' → ss_lp body n s' = some e) ∧ ∀ e', z = .inr e' → e = e' := by
  rw [ss_lp] at h
  cases hb : body s with
  | none => rw [hb] at h; cases h
  | some z =>
    rw [hb] at h
    cases z with
    | inl s' => exact ⟨_, rfl, (fun s2 e2 => by cases e2; exact h), (fun e2 h2 => by cases h2)⟩
    | inr e' => exact ⟨_, rfl, (fun s2 e2 => by cases e2), (fun e2 h2 => by cases h2; exact (Option.some.inj h).symm)⟩
theorem ss_some {α : Type} {a b : α} (h : some a = some b) : b = a := (Option.some.inj h).symm
/-! ===== the picture of a pure heap ===== -/
def ss_e (b : Nat) (r : Option Nat) : Option Nat := r.map (fun k => b + k)
def ss_v (b : Nat) (r : Option Nat) : Value := va_rf (ss_e b r)
theorem ss_v_some (b a : Nat) : ss_v b (some a) = .ref (b + a) := rfl
theorem ss_v_cat (b : Nat) (r : Option Nat) : (ss_v b r).category = 1 := by cases r <;> rfl
def ss_fs (b : Nat) (c : ss_Cl) : List Value := c.2.1.map .int ++ (c.2.2.1.map .long ++ c.2.2.2.map (ss_v b))
def ss_emb (G : ss_G) (c : ss_Cl) : va_E :=
  if c.1 < 20 then .inr (c.1, ss_fs (ss_b G) c)
  else if c.1 < 23 then .inl (G.2.1 c.1, c.2.1.length, .inl (fun j => c.2.1.getD j 0))
  else if c.1 = 23 then .inl (G.2.1 c.1, c.2.2.1.length, .inr (.inl (fun j => c.2.2.1.getD j 0)))
  else .inl (G.2.1 c.1, c.2.2.2.length, .inr (.inr (.inr (.inr (fun j => ss_e (ss_b G) (c.2.2.2.getD j none))))))
def ss_ws (G : ss_G) (h : ss_Hp) : va_W := (List.range h.1).map (fun k => (ss_b G + k, ss_emb G (h.2 k)))
theorem ss_ws_at (G : ss_G) (h : ss_Hp) {a : Nat} (ha : a < h.1) : (ss_ws G h)[a]? = some (ss_b G + a, ss_emb G (h.2 a)) := by
  simp [ss_ws, ha]
theorem ss_ws_lt {G : ss_G} {h : ss_Hp} {a : Nat} {q : Nat × va_E} (e : (ss_ws G h)[a]? = some q) : a < h.1 ∧ q = (ss_b G + a, ss_emb G (h.2 a)) := by
  have hl : a < (ss_ws G h).length := (List.getElem?_eq_some_iff.mp e).1
  have ha : a < h.1 := by simpa [ss_ws] using hl
  rw [ss_ws_at G h ha] at e
  exact ⟨ha, (Option.some.inj e).symm⟩
theorem ss_ws_set (G : ss_G) (h : ss_Hp) {a : Nat} (c : ss_Cl) (ha : a < h.1) : (ss_ws G h).set a (ss_b G + a, ss_emb G c) = ss_ws G (ss_hs h a c) := by
  apply List.ext_getElem?
  intro k
  by_cases hk : k < h.1
  · rw [ss_ws_at G (ss_hs h a c) (show k < (ss_hs h a c).1 from hk)]
    by_cases e : k = a
    · subst e
      rw [List.getElem?_set_self (by simpa [ss_ws] using ha)]
      simp [ss_hs]
    · rw [List.getElem?_set_ne (fun z => e z.symm), ss_ws_at G h hk]
      simp [ss_hs, e]
  · rw [List.getElem?_eq_none (by simp [ss_ws]; omega), List.getElem?_eq_none (by simp [ss_ws, ss_hs]; omega)]
theorem ss_ws_new (G : ss_G) (h : ss_Hp) (c : ss_Cl) : ss_ws G h ++ [(ss_b G + h.1, ss_emb G c)] = ss_ws G (ss_hn h c) := by
  have hl : (ss_ws G h).length = h.1 := by simp [ss_ws]
  apply List.ext_getElem?
  intro k
  by_cases hk : k < h.1
  · rw [List.getElem?_append_left (by omega), ss_ws_at G h hk, ss_ws_at G (ss_hn h c) (show k < h.1 + 1 by omega)]
    have : ¬ k = h.1 := by omega
    simp [ss_hn, this]
  · rw [List.getElem?_append_right (by omega), hl]
    by_cases e : k = h.1
    · subst e
      rw [ss_ws_at G (ss_hn h c) (show h.1 < h.1 + 1 by omega)]
      simp [ss_hn]
    · rw [List.getElem?_eq_none (by simp; omega), List.getElem?_eq_none (by simp [ss_ws, ss_hn]; omega)]
/-- ints and longs of a class' objects, as many as it has -/
def ss_okc (c : ss_Cl) : Prop := c.1 < 20 → c.2.1.length = (ss_cnt c.1).1 ∧ c.2.2.1.length = (ss_cnt c.1).2
def ss_R (G : ss_G) (h : ss_Hp) (H : Heap) : Prop := H.size = ss_b G + h.1 ∧ va_P G.1 ss_cl (ss_ws G h) H ∧ (∀ k, ss_okc (h.2 k)) ∧ ∀ k, h.1 ≤ k → (h.2 k).1 = 99
abbrev ss_A (G : ss_G) : Nat → Prop := fun q => ss_b G ≤ q
theorem ss_D (G : ss_G) (h : ss_Hp) : va_D (ss_A G) (ss_ws G h) := by
  refine ⟨fun i j x y hi hj hxy => ?_, fun k q hk => ?_⟩
  · obtain ⟨-, rfl⟩ := ss_ws_lt hi
    obtain ⟨-, rfl⟩ := ss_ws_lt hj
    simp only at hxy
    omega
  · obtain ⟨-, rfl⟩ := ss_ws_lt hk
    exact Nat.le_add_right _ _
theorem ss_live {G : ss_G} {h : ss_Hp} {H : Heap} (hR : ss_R G h H) {a t : Nat} (ht : (h.2 a).1 = t) (h99 : t < 99) : a < h.1 := by
  rcases Nat.lt_or_ge a h.1 with q | q
  · exact q
  · have := hR.2.2.2 a q; omega
abbrev ss_ty (G : ss_G) : List (ClassId × FieldType) := [(G.2.1 20, .int), (G.2.1 21, .byte), (G.2.1 22, .boolean), (G.2.1 23, .long), (G.2.1 24, .object ss_n24), (G.2.1 25, .object ss_n25), (G.2.1 26, .object ss_n26)]
def ss_K (G : ss_G) (U : State) : Prop := va_K G.1 ss_cl (ss_ty G) U ∧ (va_AO ss_n24 U ∧ va_AO ss_n25 U ∧ va_AO ss_n26 U) ∧ ss_Nst U ∧ ss_Z G U
theorem ss_K.warm {G : ss_G} {s U : State} {H : Heap} {locs : List Loc} (hK : ss_K G s) (hS : va_S (ss_A G) s.heap H locs) (hU : U.heap = H) (hW : s.WarmedH U.vm) : ss_K G U :=
  ⟨va_K.moved hW.alike hK.1, ⟨va_AO.moved hW.alike hK.2.1.1, va_AO.moved hW.alike hK.2.1.2.1, va_AO.moved hW.alike hK.2.1.2.2⟩, ss_Nst.warm hW hK.2.2.1, ss_Z.warm hW (by rw [hU]; exact hS.2.1) hK.2.2.2⟩
def ss_Pc (G : ss_G) (av : List Value) (h : ss_Hp) : Array Value → State → Prop := fun v U => v = av.toArray ∧ ss_R G h U.heap ∧ ss_K G U
def ss_Qc (G : ss_G) (r : Option Value) (h : ss_Hp) : Array Value → State → Outcome → State → Prop := fun _ st oc t => oc = .returned r ∧ ss_R G h t.heap ∧ va_F (ss_A G) st t
def ss_w (y : MethodName) (bytes : ByteArray) (maxL : Nat) (ret : Option FieldType) : List Cond := .code y bytes maxL ret :: lw_g
def ss_Ct (l : Launch) (G : ss_G) (y : MethodName) (bytes : ByteArray) (maxL : Nat) (ret : Option FieldType) (rm : Room) (av : List Value) (h : ss_Hp) (r : Option Value) (h' : ss_Hp) : Prop :=
  Met l y (ss_w y bytes maxL ret) rm (ss_Pc G av h) (ss_Qc G r h') rm.cells rm.slots (ss_A G)
theorem ss_blind (G : ss_G) (av : List Value) (h : ss_Hp) : FrameBlind (ss_Pc G av h) := fun a U g mk q => by
  obtain ⟨q0, q1, q2⟩ := q
  exact ⟨q0, q1, va_K.moved (u := U) (U := U.calling g mk a) (Vm.Alike.refl U.vm) q2.1, ⟨va_AO.moved (Vm.Alike.refl U.vm) q2.2.1.1, va_AO.moved (Vm.Alike.refl U.vm) q2.2.1.2.1, va_AO.moved (Vm.Alike.refl U.vm) q2.2.1.2.2⟩, ss_Nst.calling q2.2.2.1, ss_Z.calling q2.2.2.2⟩
theorem ss_goodAll : ∀ w ∈ lw_g, (w.onTables && w.keeps) = true ∨ ∃ ty, w = .arrayClass ty := fun w hw => good_of_word (List.mem_filter.mp hw).2
theorem ss_goodIn {y : MethodName} {bytes : ByteArray} {maxL : Nat} {ret : Option FieldType} (hc : Cond.code y bytes maxL ret ∈ lw_g) : GoodIn lw_g (ss_w y bytes maxL ret) := fun w hw => by
  rcases List.mem_cons.mp hw with rfl | h
  · exact ⟨hc, ss_goodAll _ hc⟩
  · exact ⟨h, ss_goodAll _ h⟩
theorem ss_in {w : Cond} (i : Nat) (h : tables_1[i]? = some w) (hg : goodWord w = true) : w ∈ lw_g := List.mem_filter.mpr ⟨List.mem_append_right _ (List.mem_of_getElem? h), hg⟩
theorem ss_inP {q : MethodName × Nat} (i : Nat) (h : lw_privs[i]? = some q) (hg : goodWord (Cond.selects q.1.cls q.1 q.1) = true) : Cond.selects q.1.cls q.1 q.1 ∈ lw_g := List.mem_filter.mpr ⟨List.mem_append_left _ (List.mem_map.mpr ⟨q, List.mem_of_getElem? h, rfl⟩), hg⟩
