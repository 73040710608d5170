/-! ===== the model by its fields and arrays, one row each (printed by gen43.py) ===== -/
def pv (l : List Int32) (i : Nat) : Int32 := l.getD i 0
def pvl (l : List Int64) (i : Nat) : Int64 := l.getD i 0
theorem pv_get {l : List Int32} {i : Nat} (h : i < l.length) : l[i]? = some (pv l i) := by simp [pv, h]
theorem pvl_get {l : List Int64} {i : Nat} (h : i < l.length) : l[i]? = some (pvl l i) := by simp [pvl, h]
theorem pv_set {l : List Int32} {i j : Nat} {v : Int32} (h : i < l.length) : pv (l.set i v) j = if j = i then v else pv l j := by
  simp only [pv, List.getD_eq_getElem?_getD]
  by_cases e : j = i
  · subst e; simp [h]
  · simp [e, List.getElem?_set_ne (fun z => e z.symm)]
theorem pvl_set {l : List Int64} {i j : Nat} {v : Int64} (h : i < l.length) : pvl (l.set i v) j = if j = i then v else pvl l j := by
  simp only [pvl, List.getD_eq_getElem?_getD]
  by_cases e : j = i
  · subst e; simp [h]
  · simp [e, List.getElem?_set_ne (fun z => e z.symm)]
theorem pv_ne {l : List Int32} {i j : Nat} {v : Int32} (h : j ≠ i) : pv (l.set i v) j = pv l j := by
  simp only [pv, List.getD_eq_getElem?_getD]
  rw [List.getElem?_set_ne (fun z => h z.symm)]
theorem pv_eq {l : List Int32} {i : Nat} {v : Int32} (h : i < l.length) : pv (l.set i v) i = v := by
  simp [pv, h]
theorem pvl_ne {l : List Int64} {i j : Nat} {v : Int64} (h : j ≠ i) : pvl (l.set i v) j = pvl l j := by
  simp only [pvl, List.getD_eq_getElem?_getD]
  rw [List.getElem?_set_ne (fun z => h z.symm)]
theorem pvl_eq {l : List Int64} {i : Nat} {v : Int64} (h : i < l.length) : pvl (l.set i v) i = v := by
  simp [pvl, h]
theorem pb_its {α : Type} {c : Prop} {d : Decidable c} (a b : α) : @ite (Option α) c d (some a) (some b) = some (@ite α c d a b) := by split <;> rfl
theorem pb_bz0 : ss_bz (nI 0) = some (nI 0) := rfl
theorem pb_bz1 : ss_bz (nI 1) = some (nI 1) := rfl
theorem pb_10 : (nI 1 = nI 0) = False := by simp; decide
theorem pb_01 : (nI 0 = nI 1) = False := by simp; decide
theorem pb_mul (a b : Nat) : nI a * nI b = nI (a * b) := pk_mul a b
theorem pb_i31 {k : Nat} (h : k < 32) : nI k &&& nI 31 = nI k := by
  have := pk_andN (n := k) (by omega) (m := nI 31) 5 (by decide)
  rw [this, Nat.mod_eq_of_lt (by omega)]
def pm_A (tp : List Int32) (sg : List Int32) (lg : List Int32) (cl : List Int32) (cs : List Int32) (rd : List Int32) (op : List Int32) (sd : List Int32) (th : List Int32) (fa : List Int32) (ws : List Int32) (kp : List Int32) (li : List Int32) (pr : List Int32) (hb : List Int32) (fi : List Int32) (st : List Int32) (im : List Int32) (jf : List Int32) (jx : List Int32) (mk : List Int32) : Nat → List Int32 := fun j => match j with
  | 0 => tp
  | 1 => sg
  | 2 => lg
  | 3 => cl
  | 4 => cs
  | 5 => rd
  | 6 => op
  | 9 => sd
  | 10 => th
  | 11 => fa
  | 12 => ws
  | 13 => kp
  | 14 => li
  | 15 => pr
  | 16 => hb
  | 17 => fi
  | 18 => st
  | 19 => im
  | 20 => jf
  | 21 => jx
  | 22 => mk
  | _ => []
def pm_K (sk wd : List Int64) : Nat → List Int64 := fun j => if j = 7 then sk else wd
def pm_M (n : Nat) (f : Nat → ss_Cl) (mi : List Int32) (dx : Int64) (tp : List Int32) (sg : List Int32) (lg : List Int32) (cl : List Int32) (cs : List Int32) (rd : List Int32) (op : List Int32) (sk : List Int64) (wd : List Int64) (sd : List Int32) (th : List Int32) (fa : List Int32) (ws : List Int32) (kp : List Int32) (li : List Int32) (pr : List Int32) (hb : List Int32) (fi : List Int32) (st : List Int32) (im : List Int32) (jf : List Int32) (jx : List Int32) (mk : List Int32) : ss_Hp := pm_H n f mi dx (pm_A tp sg lg cl cs rd op sd th fa ws kp li pr hb fi st im jf jx mk) (pm_K sk wd)
section PN
variable {n : Nat} {f : Nat → ss_Cl} {mi : List Int32} {dx : Int64} {tp : List Int32} {sg : List Int32} {lg : List Int32} {cl : List Int32} {cs : List Int32} {rd : List Int32} {op : List Int32} {sk : List Int64} {wd : List Int64} {sd : List Int32} {th : List Int32} {fa : List Int32} {ws : List Int32} {kp : List Int32} {li : List Int32} {pr : List Int32} {hb : List Int32} {fi : List Int32} {st : List Int32} {im : List Int32} {jf : List Int32} {jx : List Int32} {mk : List Int32} {N : Nat}
theorem pn_g0 : ss_gr (pm_M n f mi dx tp sg lg cl cs rd op sk wd sd th fa ws kp li pr hb fi st im jf jx mk) (some 118) 12 0 = some (some 119) := rfl
theorem pn_g1 : ss_gr (pm_M n f mi dx tp sg lg cl cs rd op sk wd sd th fa ws kp li pr hb fi st im jf jx mk) (some 118) 12 1 = some (some 120) := rfl
theorem pn_g2 : ss_gr (pm_M n f mi dx tp sg lg cl cs rd op sk wd sd th fa ws kp li pr hb fi st im jf jx mk) (some 118) 12 2 = some (some 121) := rfl
theorem pn_g3 : ss_gr (pm_M n f mi dx tp sg lg cl cs rd op sk wd sd th fa ws kp li pr hb fi st im jf jx mk) (some 118) 12 3 = some (some 122) := rfl
theorem pn_g4 : ss_gr (pm_M n f mi dx tp sg lg cl cs rd op sk wd sd th fa ws kp li pr hb fi st im jf jx mk) (some 118) 12 4 = some (some 123) := rfl
theorem pn_g5 : ss_gr (pm_M n f mi dx tp sg lg cl cs rd op sk wd sd th fa ws kp li pr hb fi st im jf jx mk) (some 118) 12 5 = some (some 124) := rfl
theorem pn_g6 : ss_gr (pm_M n f mi dx tp sg lg cl cs rd op sk wd sd th fa ws kp li pr hb fi st im jf jx mk) (some 118) 12 6 = some (some 125) := rfl
theorem pn_g7 : ss_gr (pm_M n f mi dx tp sg lg cl cs rd op sk wd sd th fa ws kp li pr hb fi st im jf jx mk) (some 118) 12 7 = some (some 126) := rfl
theorem pn_g8 : ss_gr (pm_M n f mi dx tp sg lg cl cs rd op sk wd sd th fa ws kp li pr hb fi st im jf jx mk) (some 118) 12 8 = some (some 127) := rfl
theorem pn_g9 : ss_gr (pm_M n f mi dx tp sg lg cl cs rd op sk wd sd th fa ws kp li pr hb fi st im jf jx mk) (some 118) 12 9 = some (some 128) := rfl
theorem pn_g10 : ss_gr (pm_M n f mi dx tp sg lg cl cs rd op sk wd sd th fa ws kp li pr hb fi st im jf jx mk) (some 118) 12 10 = some (some 129) := rfl
theorem pn_g11 : ss_gr (pm_M n f mi dx tp sg lg cl cs rd op sk wd sd th fa ws kp li pr hb fi st im jf jx mk) (some 118) 12 11 = some (some 130) := rfl
theorem pn_g12 : ss_gr (pm_M n f mi dx tp sg lg cl cs rd op sk wd sd th fa ws kp li pr hb fi st im jf jx mk) (some 118) 12 12 = some (some 131) := rfl
theorem pn_g13 : ss_gr (pm_M n f mi dx tp sg lg cl cs rd op sk wd sd th fa ws kp li pr hb fi st im jf jx mk) (some 118) 12 13 = some (some 132) := rfl
theorem pn_g14 : ss_gr (pm_M n f mi dx tp sg lg cl cs rd op sk wd sd th fa ws kp li pr hb fi st im jf jx mk) (some 118) 12 14 = some (some 133) := rfl
theorem pn_g15 : ss_gr (pm_M n f mi dx tp sg lg cl cs rd op sk wd sd th fa ws kp li pr hb fi st im jf jx mk) (some 118) 12 15 = some (some 134) := rfl
theorem pn_g16 : ss_gr (pm_M n f mi dx tp sg lg cl cs rd op sk wd sd th fa ws kp li pr hb fi st im jf jx mk) (some 118) 12 16 = some (some 135) := rfl
theorem pn_g17 : ss_gr (pm_M n f mi dx tp sg lg cl cs rd op sk wd sd th fa ws kp li pr hb fi st im jf jx mk) (some 118) 12 17 = some (some 136) := rfl
theorem pn_g18 : ss_gr (pm_M n f mi dx tp sg lg cl cs rd op sk wd sd th fa ws kp li pr hb fi st im jf jx mk) (some 118) 12 18 = some (some 137) := rfl
theorem pn_g19 : ss_gr (pm_M n f mi dx tp sg lg cl cs rd op sk wd sd th fa ws kp li pr hb fi st im jf jx mk) (some 118) 12 19 = some (some 138) := rfl
theorem pn_g20 : ss_gr (pm_M n f mi dx tp sg lg cl cs rd op sk wd sd th fa ws kp li pr hb fi st im jf jx mk) (some 118) 12 20 = some (some 139) := rfl
theorem pn_g21 : ss_gr (pm_M n f mi dx tp sg lg cl cs rd op sk wd sd th fa ws kp li pr hb fi st im jf jx mk) (some 118) 12 21 = some (some 140) := rfl
theorem pn_g22 : ss_gr (pm_M n f mi dx tp sg lg cl cs rd op sk wd sd th fa ws kp li pr hb fi st im jf jx mk) (some 118) 12 22 = some (some 141) := rfl
theorem pn_is : ss_is (pm_M n f mi dx tp sg lg cl cs rd op sk wd sd th fa ws kp li pr hb fi st im jf jx mk) (some 118) 12 = true := rfl
theorem pn_gl : ss_gl (pm_M n f mi dx tp sg lg cl cs rd op sk wd sd th fa ws kp li pr hb fi st im jf jx mk) (some 118) 12 0 = some dx := rfl
theorem pn_pl (v : Int64) : ss_pl (pm_M n f mi dx tp sg lg cl cs rd op sk wd sd th fa ws kp li pr hb fi st im jf jx mk) (some 118) 12 0 v = some (pm_M n f mi v tp sg lg cl cs rd op sk wd sd th fa ws kp li pr hb fi st im jf jx mk) := pm_pl v
theorem pn_a0 {i : Nat} (hl : i < tp.length) (hi : i < 2147483648) : ss_ai (pm_M n f mi dx tp sg lg cl cs rd op sk wd sd th fa ws kp li pr hb fi st im jf jx mk) (some 119) 21 (nI i) = some (pv tp i) := (pm_ai 119 (j := 0) rfl (by decide) hi).trans (pv_get hl)
theorem pm_aset0 (v : List Int32) : ss_hs (pm_M n f mi dx tp sg lg cl cs rd op sk wd sd th fa ws kp li pr hb fi st im jf jx mk) 119 (21, v, [], []) = (pm_M n f mi dx v sg lg cl cs rd op sk wd sd th fa ws kp li pr hb fi st im jf jx mk) := by
  refine (pm_seta (j := 0) (by decide) (by decide) (by decide) v).trans ?_
  refine congrArg (fun B => pm_H n f mi dx B (pm_K sk wd)) (funext fun k => ?_)
  by_cases h : k = 0
  · subst h; rfl
  · rw [if_neg h]
    match k, h with
    | 0, h => exact absurd rfl h
    | 1, h => rfl
    | 2, h => rfl
    | 3, h => rfl
    | 4, h => rfl
    | 5, h => rfl
    | 6, h => rfl
    | 7, h => rfl
    | 8, h => rfl
    | 9, h => rfl
    | 10, h => rfl
    | 11, h => rfl
    | 12, h => rfl
    | 13, h => rfl
    | 14, h => rfl
    | 15, h => rfl
    | 16, h => rfl
    | 17, h => rfl
    | 18, h => rfl
    | 19, h => rfl
    | 20, h => rfl
    | 21, h => rfl
    | 22, h => rfl
    | k + 23, h => rfl
theorem pn_u0 {i : Nat} (hl : i < tp.length) (hi : i < 2147483648) (v : Int32) : ss_ui (pm_M n f mi dx tp sg lg cl cs rd op sk wd sd th fa ws kp li pr hb fi st im jf jx mk) (some 119) 21 (nI i) v = some (pm_M n f mi dx (tp.set i v) sg lg cl cs rd op sk wd sd th fa ws kp li pr hb fi st im jf jx mk) := by
  rw [pb_ui (h := (pm_M n f mi dx tp sg lg cl cs rd op sk wd sd th fa ws kp li pr hb fi st im jf jx mk)) (a := 119) (c := 21) (I := tp) (L := []) (R := []) rfl hi hl v]
  exact congrArg some (pm_aset0 _)
theorem pn_a1 {i : Nat} (hl : i < sg.length) (hi : i < 2147483648) : ss_ai (pm_M n f mi dx tp sg lg cl cs rd op sk wd sd th fa ws kp li pr hb fi st im jf jx mk) (some 120) 20 (nI i) = some (pv sg i) := (pm_ai 120 (j := 1) rfl (by decide) hi).trans (pv_get hl)
theorem pm_aset1 (v : List Int32) : ss_hs (pm_M n f mi dx tp sg lg cl cs rd op sk wd sd th fa ws kp li pr hb fi st im jf jx mk) 120 (20, v, [], []) = (pm_M n f mi dx tp v lg cl cs rd op sk wd sd th fa ws kp li pr hb fi st im jf jx mk) := by
  refine (pm_seta (j := 1) (by decide) (by decide) (by decide) v).trans ?_
  refine congrArg (fun B => pm_H n f mi dx B (pm_K sk wd)) (funext fun k => ?_)
  by_cases h : k = 1
  · subst h; rfl
  · rw [if_neg h]
    match k, h with
    | 0, h => rfl
    | 1, h => exact absurd rfl h
    | 2, h => rfl
    | 3, h => rfl
    | 4, h => rfl
    | 5, h => rfl
    | 6, h => rfl
    | 7, h => rfl
    | 8, h => rfl
    | 9, h => rfl
    | 10, h => rfl
    | 11, h => rfl
    | 12, h => rfl
    | 13, h => rfl
    | 14, h => rfl
    | 15, h => rfl
    | 16, h => rfl
    | 17, h => rfl
    | 18, h => rfl
    | 19, h => rfl
    | 20, h => rfl
    | 21, h => rfl
    | 22, h => rfl
    | k + 23, h => rfl
theorem pn_u1 {i : Nat} (hl : i < sg.length) (hi : i < 2147483648) (v : Int32) : ss_ui (pm_M n f mi dx tp sg lg cl cs rd op sk wd sd th fa ws kp li pr hb fi st im jf jx mk) (some 120) 20 (nI i) v = some (pm_M n f mi dx tp (sg.set i v) lg cl cs rd op sk wd sd th fa ws kp li pr hb fi st im jf jx mk) := by
  rw [pb_ui (h := (pm_M n f mi dx tp sg lg cl cs rd op sk wd sd th fa ws kp li pr hb fi st im jf jx mk)) (a := 120) (c := 20) (I := sg) (L := []) (R := []) rfl hi hl v]
  exact congrArg some (pm_aset1 _)
theorem pn_a2 {i : Nat} (hl : i < lg.length) (hi : i < 2147483648) : ss_ai (pm_M n f mi dx tp sg lg cl cs rd op sk wd sd th fa ws kp li pr hb fi st im jf jx mk) (some 121) 20 (nI i) = some (pv lg i) := (pm_ai 121 (j := 2) rfl (by decide) hi).trans (pv_get hl)
theorem pm_aset2 (v : List Int32) : ss_hs (pm_M n f mi dx tp sg lg cl cs rd op sk wd sd th fa ws kp li pr hb fi st im jf jx mk) 121 (20, v, [], []) = (pm_M n f mi dx tp sg v cl cs rd op sk wd sd th fa ws kp li pr hb fi st im jf jx mk) := by
  refine (pm_seta (j := 2) (by decide) (by decide) (by decide) v).trans ?_
  refine congrArg (fun B => pm_H n f mi dx B (pm_K sk wd)) (funext fun k => ?_)
  by_cases h : k = 2
  · subst h; rfl
  · rw [if_neg h]
    match k, h with
    | 0, h => rfl
    | 1, h => rfl
    | 2, h => exact absurd rfl h
    | 3, h => rfl
    | 4, h => rfl
    | 5, h => rfl
    | 6, h => rfl
    | 7, h => rfl
    | 8, h => rfl
    | 9, h => rfl
    | 10, h => rfl
    | 11, h => rfl
    | 12, h => rfl
    | 13, h => rfl
    | 14, h => rfl
    | 15, h => rfl
    | 16, h => rfl
    | 17, h => rfl
    | 18, h => rfl
    | 19, h => rfl
    | 20, h => rfl
    | 21, h => rfl
    | 22, h => rfl
    | k + 23, h => rfl
theorem pn_u2 {i : Nat} (hl : i < lg.length) (hi : i < 2147483648) (v : Int32) : ss_ui (pm_M n f mi dx tp sg lg cl cs rd op sk wd sd th fa ws kp li pr hb fi st im jf jx mk) (some 121) 20 (nI i) v = some (pm_M n f mi dx tp sg (lg.set i v) cl cs rd op sk wd sd th fa ws kp li pr hb fi st im jf jx mk) := by
  rw [pb_ui (h := (pm_M n f mi dx tp sg lg cl cs rd op sk wd sd th fa ws kp li pr hb fi st im jf jx mk)) (a := 121) (c := 20) (I := lg) (L := []) (R := []) rfl hi hl v]
  exact congrArg some (pm_aset2 _)
theorem pn_a3 {i : Nat} (hl : i < cl.length) (hi : i < 2147483648) : ss_ai (pm_M n f mi dx tp sg lg cl cs rd op sk wd sd th fa ws kp li pr hb fi st im jf jx mk) (some 122) 20 (nI i) = some (pv cl i) := (pm_ai 122 (j := 3) rfl (by decide) hi).trans (pv_get hl)
theorem pm_aset3 (v : List Int32) : ss_hs (pm_M n f mi dx tp sg lg cl cs rd op sk wd sd th fa ws kp li pr hb fi st im jf jx mk) 122 (20, v, [], []) = (pm_M n f mi dx tp sg lg v cs rd op sk wd sd th fa ws kp li pr hb fi st im jf jx mk) := by
  refine (pm_seta (j := 3) (by decide) (by decide) (by decide) v).trans ?_
  refine congrArg (fun B => pm_H n f mi dx B (pm_K sk wd)) (funext fun k => ?_)
  by_cases h : k = 3
  · subst h; rfl
  · rw [if_neg h]
    match k, h with
    | 0, h => rfl
    | 1, h => rfl
    | 2, h => rfl
    | 3, h => exact absurd rfl h
    | 4, h => rfl
    | 5, h => rfl
    | 6, h => rfl
    | 7, h => rfl
    | 8, h => rfl
    | 9, h => rfl
    | 10, h => rfl
    | 11, h => rfl
    | 12, h => rfl
    | 13, h => rfl
    | 14, h => rfl
    | 15, h => rfl
    | 16, h => rfl
    | 17, h => rfl
    | 18, h => rfl
    | 19, h => rfl
    | 20, h => rfl
    | 21, h => rfl
    | 22, h => rfl
    | k + 23, h => rfl
theorem pn_u3 {i : Nat} (hl : i < cl.length) (hi : i < 2147483648) (v : Int32) : ss_ui (pm_M n f mi dx tp sg lg cl cs rd op sk wd sd th fa ws kp li pr hb fi st im jf jx mk) (some 122) 20 (nI i) v = some (pm_M n f mi dx tp sg lg (cl.set i v) cs rd op sk wd sd th fa ws kp li pr hb fi st im jf jx mk) := by
  rw [pb_ui (h := (pm_M n f mi dx tp sg lg cl cs rd op sk wd sd th fa ws kp li pr hb fi st im jf jx mk)) (a := 122) (c := 20) (I := cl) (L := []) (R := []) rfl hi hl v]
  exact congrArg some (pm_aset3 _)
theorem pn_a4 {i : Nat} (hl : i < cs.length) (hi : i < 2147483648) : ss_ai (pm_M n f mi dx tp sg lg cl cs rd op sk wd sd th fa ws kp li pr hb fi st im jf jx mk) (some 123) 20 (nI i) = some (pv cs i) := (pm_ai 123 (j := 4) rfl (by decide) hi).trans (pv_get hl)
theorem pm_aset4 (v : List Int32) : ss_hs (pm_M n f mi dx tp sg lg cl cs rd op sk wd sd th fa ws kp li pr hb fi st im jf jx mk) 123 (20, v, [], []) = (pm_M n f mi dx tp sg lg cl v rd op sk wd sd th fa ws kp li pr hb fi st im jf jx mk) := by
  refine (pm_seta (j := 4) (by decide) (by decide) (by decide) v).trans ?_
  refine congrArg (fun B => pm_H n f mi dx B (pm_K sk wd)) (funext fun k => ?_)
  by_cases h : k = 4
  · subst h; rfl
  · rw [if_neg h]
    match k, h with
    | 0, h => rfl
    | 1, h => rfl
    | 2, h => rfl
    | 3, h => rfl
    | 4, h => exact absurd rfl h
    | 5, h => rfl
    | 6, h => rfl
    | 7, h => rfl
    | 8, h => rfl
    | 9, h => rfl
    | 10, h => rfl
    | 11, h => rfl
    | 12, h => rfl
    | 13, h => rfl
    | 14, h => rfl
    | 15, h => rfl
    | 16, h => rfl
    | 17, h => rfl
    | 18, h => rfl
    | 19, h => rfl
    | 20, h => rfl
    | 21, h => rfl
    | 22, h => rfl
    | k + 23, h => rfl
theorem pn_u4 {i : Nat} (hl : i < cs.length) (hi : i < 2147483648) (v : Int32) : ss_ui (pm_M n f mi dx tp sg lg cl cs rd op sk wd sd th fa ws kp li pr hb fi st im jf jx mk) (some 123) 20 (nI i) v = some (pm_M n f mi dx tp sg lg cl (cs.set i v) rd op sk wd sd th fa ws kp li pr hb fi st im jf jx mk) := by
  rw [pb_ui (h := (pm_M n f mi dx tp sg lg cl cs rd op sk wd sd th fa ws kp li pr hb fi st im jf jx mk)) (a := 123) (c := 20) (I := cs) (L := []) (R := []) rfl hi hl v]
  exact congrArg some (pm_aset4 _)
theorem pn_a5 {i : Nat} (hl : i < rd.length) (hi : i < 2147483648) : ss_ai (pm_M n f mi dx tp sg lg cl cs rd op sk wd sd th fa ws kp li pr hb fi st im jf jx mk) (some 124) 20 (nI i) = some (pv rd i) := (pm_ai 124 (j := 5) rfl (by decide) hi).trans (pv_get hl)
theorem pm_aset5 (v : List Int32) : ss_hs (pm_M n f mi dx tp sg lg cl cs rd op sk wd sd th fa ws kp li pr hb fi st im jf jx mk) 124 (20, v, [], []) = (pm_M n f mi dx tp sg lg cl cs v op sk wd sd th fa ws kp li pr hb fi st im jf jx mk) := by
  refine (pm_seta (j := 5) (by decide) (by decide) (by decide) v).trans ?_
  refine congrArg (fun B => pm_H n f mi dx B (pm_K sk wd)) (funext fun k => ?_)
  by_cases h : k = 5
  · subst h; rfl
  · rw [if_neg h]
    match k, h with
    | 0, h => rfl
    | 1, h => rfl
    | 2, h => rfl
    | 3, h => rfl
    | 4, h => rfl
    | 5, h => exact absurd rfl h
    | 6, h => rfl
    | 7, h => rfl
    | 8, h => rfl
    | 9, h => rfl
    | 10, h => rfl
    | 11, h => rfl
    | 12, h => rfl
    | 13, h => rfl
    | 14, h => rfl
    | 15, h => rfl
    | 16, h => rfl
    | 17, h => rfl
    | 18, h => rfl
    | 19, h => rfl
    | 20, h => rfl
    | 21, h => rfl
    | 22, h => rfl
    | k + 23, h => rfl
theorem pn_u5 {i : Nat} (hl : i < rd.length) (hi : i < 2147483648) (v : Int32) : ss_ui (pm_M n f mi dx tp sg lg cl cs rd op sk wd sd th fa ws kp li pr hb fi st im jf jx mk) (some 124) 20 (nI i) v = some (pm_M n f mi dx tp sg lg cl cs (rd.set i v) op sk wd sd th fa ws kp li pr hb fi st im jf jx mk) := by
  rw [pb_ui (h := (pm_M n f mi dx tp sg lg cl cs rd op sk wd sd th fa ws kp li pr hb fi st im jf jx mk)) (a := 124) (c := 20) (I := rd) (L := []) (R := []) rfl hi hl v]
  exact congrArg some (pm_aset5 _)
theorem pn_a6 {i : Nat} (hl : i < op.length) (hi : i < 2147483648) : ss_ai (pm_M n f mi dx tp sg lg cl cs rd op sk wd sd th fa ws kp li pr hb fi st im jf jx mk) (some 125) 20 (nI i) = some (pv op i) := (pm_ai 125 (j := 6) rfl (by decide) hi).trans (pv_get hl)
theorem pm_aset6 (v : List Int32) : ss_hs (pm_M n f mi dx tp sg lg cl cs rd op sk wd sd th fa ws kp li pr hb fi st im jf jx mk) 125 (20, v, [], []) = (pm_M n f mi dx tp sg lg cl cs rd v sk wd sd th fa ws kp li pr hb fi st im jf jx mk) := by
  refine (pm_seta (j := 6) (by decide) (by decide) (by decide) v).trans ?_
  refine congrArg (fun B => pm_H n f mi dx B (pm_K sk wd)) (funext fun k => ?_)
  by_cases h : k = 6
  · subst h; rfl
  · rw [if_neg h]
    match k, h with
    | 0, h => rfl
    | 1, h => rfl
    | 2, h => rfl
    | 3, h => rfl
    | 4, h => rfl
    | 5, h => rfl
    | 6, h => exact absurd rfl h
    | 7, h => rfl
    | 8, h => rfl
    | 9, h => rfl
    | 10, h => rfl
    | 11, h => rfl
    | 12, h => rfl
    | 13, h => rfl
    | 14, h => rfl
    | 15, h => rfl
    | 16, h => rfl
    | 17, h => rfl
    | 18, h => rfl
    | 19, h => rfl
    | 20, h => rfl
    | 21, h => rfl
    | 22, h => rfl
    | k + 23, h => rfl
theorem pn_u6 {i : Nat} (hl : i < op.length) (hi : i < 2147483648) (v : Int32) : ss_ui (pm_M n f mi dx tp sg lg cl cs rd op sk wd sd th fa ws kp li pr hb fi st im jf jx mk) (some 125) 20 (nI i) v = some (pm_M n f mi dx tp sg lg cl cs rd (op.set i v) sk wd sd th fa ws kp li pr hb fi st im jf jx mk) := by
  rw [pb_ui (h := (pm_M n f mi dx tp sg lg cl cs rd op sk wd sd th fa ws kp li pr hb fi st im jf jx mk)) (a := 125) (c := 20) (I := op) (L := []) (R := []) rfl hi hl v]
  exact congrArg some (pm_aset6 _)
theorem pn_a7 {i : Nat} (hl : i < sk.length) (hi : i < 2147483648) : ss_al (pm_M n f mi dx tp sg lg cl cs rd op sk wd sd th fa ws kp li pr hb fi st im jf jx mk) (some 126) 23 (nI i) = some (pvl sk i) := (pm_al 126 (j := 7) rfl (by decide) hi).trans (pvl_get hl)
theorem pn_a8 {i : Nat} (hl : i < wd.length) (hi : i < 2147483648) : ss_al (pm_M n f mi dx tp sg lg cl cs rd op sk wd sd th fa ws kp li pr hb fi st im jf jx mk) (some 127) 23 (nI i) = some (pvl wd i) := (pm_al 127 (j := 8) rfl (by decide) hi).trans (pvl_get hl)
theorem pn_a9 {i : Nat} (hl : i < sd.length) (hi : i < 2147483648) : ss_ai (pm_M n f mi dx tp sg lg cl cs rd op sk wd sd th fa ws kp li pr hb fi st im jf jx mk) (some 128) 20 (nI i) = some (pv sd i) := (pm_ai 128 (j := 9) rfl (by decide) hi).trans (pv_get hl)
theorem pm_aset9 (v : List Int32) : ss_hs (pm_M n f mi dx tp sg lg cl cs rd op sk wd sd th fa ws kp li pr hb fi st im jf jx mk) 128 (20, v, [], []) = (pm_M n f mi dx tp sg lg cl cs rd op sk wd v th fa ws kp li pr hb fi st im jf jx mk) := by
  refine (pm_seta (j := 9) (by decide) (by decide) (by decide) v).trans ?_
  refine congrArg (fun B => pm_H n f mi dx B (pm_K sk wd)) (funext fun k => ?_)
  by_cases h : k = 9
  · subst h; rfl
  · rw [if_neg h]
    match k, h with
    | 0, h => rfl
    | 1, h => rfl
    | 2, h => rfl
    | 3, h => rfl
    | 4, h => rfl
    | 5, h => rfl
    | 6, h => rfl
    | 7, h => rfl
    | 8, h => rfl
    | 9, h => exact absurd rfl h
    | 10, h => rfl
    | 11, h => rfl
    | 12, h => rfl
    | 13, h => rfl
    | 14, h => rfl
    | 15, h => rfl
    | 16, h => rfl
    | 17, h => rfl
    | 18, h => rfl
    | 19, h => rfl
    | 20, h => rfl
    | 21, h => rfl
    | 22, h => rfl
    | k + 23, h => rfl
theorem pn_u9 {i : Nat} (hl : i < sd.length) (hi : i < 2147483648) (v : Int32) : ss_ui (pm_M n f mi dx tp sg lg cl cs rd op sk wd sd th fa ws kp li pr hb fi st im jf jx mk) (some 128) 20 (nI i) v = some (pm_M n f mi dx tp sg lg cl cs rd op sk wd (sd.set i v) th fa ws kp li pr hb fi st im jf jx mk) := by
  rw [pb_ui (h := (pm_M n f mi dx tp sg lg cl cs rd op sk wd sd th fa ws kp li pr hb fi st im jf jx mk)) (a := 128) (c := 20) (I := sd) (L := []) (R := []) rfl hi hl v]
  exact congrArg some (pm_aset9 _)
theorem pn_a10 {i : Nat} (hl : i < th.length) (hi : i < 2147483648) : ss_ai (pm_M n f mi dx tp sg lg cl cs rd op sk wd sd th fa ws kp li pr hb fi st im jf jx mk) (some 129) 20 (nI i) = some (pv th i) := (pm_ai 129 (j := 10) rfl (by decide) hi).trans (pv_get hl)
theorem pm_aset10 (v : List Int32) : ss_hs (pm_M n f mi dx tp sg lg cl cs rd op sk wd sd th fa ws kp li pr hb fi st im jf jx mk) 129 (20, v, [], []) = (pm_M n f mi dx tp sg lg cl cs rd op sk wd sd v fa ws kp li pr hb fi st im jf jx mk) := by
  refine (pm_seta (j := 10) (by decide) (by decide) (by decide) v).trans ?_
  refine congrArg (fun B => pm_H n f mi dx B (pm_K sk wd)) (funext fun k => ?_)
  by_cases h : k = 10
  · subst h; rfl
  · rw [if_neg h]
    match k, h with
    | 0, h => rfl
    | 1, h => rfl
    | 2, h => rfl
    | 3, h => rfl
    | 4, h => rfl
    | 5, h => rfl
    | 6, h => rfl
    | 7, h => rfl
    | 8, h => rfl
    | 9, h => rfl
    | 10, h => exact absurd rfl h
    | 11, h => rfl
    | 12, h => rfl
    | 13, h => rfl
    | 14, h => rfl
    | 15, h => rfl
    | 16, h => rfl
    | 17, h => rfl
    | 18, h => rfl
    | 19, h => rfl
    | 20, h => rfl
    | 21, h => rfl
    | 22, h => rfl
    | k + 23, h => rfl
theorem pn_u10 {i : Nat} (hl : i < th.length) (hi : i < 2147483648) (v : Int32) : ss_ui (pm_M n f mi dx tp sg lg cl cs rd op sk wd sd th fa ws kp li pr hb fi st im jf jx mk) (some 129) 20 (nI i) v = some (pm_M n f mi dx tp sg lg cl cs rd op sk wd sd (th.set i v) fa ws kp li pr hb fi st im jf jx mk) := by
  rw [pb_ui (h := (pm_M n f mi dx tp sg lg cl cs rd op sk wd sd th fa ws kp li pr hb fi st im jf jx mk)) (a := 129) (c := 20) (I := th) (L := []) (R := []) rfl hi hl v]
  exact congrArg some (pm_aset10 _)
theorem pn_a11 {i : Nat} (hl : i < fa.length) (hi : i < 2147483648) : ss_ai (pm_M n f mi dx tp sg lg cl cs rd op sk wd sd th fa ws kp li pr hb fi st im jf jx mk) (some 130) 20 (nI i) = some (pv fa i) := (pm_ai 130 (j := 11) rfl (by decide) hi).trans (pv_get hl)
theorem pm_aset11 (v : List Int32) : ss_hs (pm_M n f mi dx tp sg lg cl cs rd op sk wd sd th fa ws kp li pr hb fi st im jf jx mk) 130 (20, v, [], []) = (pm_M n f mi dx tp sg lg cl cs rd op sk wd sd th v ws kp li pr hb fi st im jf jx mk) := by
  refine (pm_seta (j := 11) (by decide) (by decide) (by decide) v).trans ?_
  refine congrArg (fun B => pm_H n f mi dx B (pm_K sk wd)) (funext fun k => ?_)
  by_cases h : k = 11
  · subst h; rfl
  · rw [if_neg h]
    match k, h with
    | 0, h => rfl
    | 1, h => rfl
    | 2, h => rfl
    | 3, h => rfl
    | 4, h => rfl
    | 5, h => rfl
    | 6, h => rfl
    | 7, h => rfl
    | 8, h => rfl
    | 9, h => rfl
    | 10, h => rfl
    | 11, h => exact absurd rfl h
    | 12, h => rfl
    | 13, h => rfl
    | 14, h => rfl
    | 15, h => rfl
    | 16, h => rfl
    | 17, h => rfl
    | 18, h => rfl
    | 19, h => rfl
    | 20, h => rfl
    | 21, h => rfl
    | 22, h => rfl
    | k + 23, h => rfl
theorem pn_u11 {i : Nat} (hl : i < fa.length) (hi : i < 2147483648) (v : Int32) : ss_ui (pm_M n f mi dx tp sg lg cl cs rd op sk wd sd th fa ws kp li pr hb fi st im jf jx mk) (some 130) 20 (nI i) v = some (pm_M n f mi dx tp sg lg cl cs rd op sk wd sd th (fa.set i v) ws kp li pr hb fi st im jf jx mk) := by
  rw [pb_ui (h := (pm_M n f mi dx tp sg lg cl cs rd op sk wd sd th fa ws kp li pr hb fi st im jf jx mk)) (a := 130) (c := 20) (I := fa) (L := []) (R := []) rfl hi hl v]
  exact congrArg some (pm_aset11 _)
theorem pn_a12 {i : Nat} (hl : i < ws.length) (hi : i < 2147483648) : ss_ai (pm_M n f mi dx tp sg lg cl cs rd op sk wd sd th fa ws kp li pr hb fi st im jf jx mk) (some 131) 20 (nI i) = some (pv ws i) := (pm_ai 131 (j := 12) rfl (by decide) hi).trans (pv_get hl)
theorem pm_aset12 (v : List Int32) : ss_hs (pm_M n f mi dx tp sg lg cl cs rd op sk wd sd th fa ws kp li pr hb fi st im jf jx mk) 131 (20, v, [], []) = (pm_M n f mi dx tp sg lg cl cs rd op sk wd sd th fa v kp li pr hb fi st im jf jx mk) := by
  refine (pm_seta (j := 12) (by decide) (by decide) (by decide) v).trans ?_
  refine congrArg (fun B => pm_H n f mi dx B (pm_K sk wd)) (funext fun k => ?_)
  by_cases h : k = 12
  · subst h; rfl
  · rw [if_neg h]
    match k, h with
    | 0, h => rfl
    | 1, h => rfl
    | 2, h => rfl
    | 3, h => rfl
    | 4, h => rfl
    | 5, h => rfl
    | 6, h => rfl
    | 7, h => rfl
    | 8, h => rfl
    | 9, h => rfl
    | 10, h => rfl
    | 11, h => rfl
    | 12, h => exact absurd rfl h
    | 13, h => rfl
    | 14, h => rfl
    | 15, h => rfl
    | 16, h => rfl
    | 17, h => rfl
    | 18, h => rfl
    | 19, h => rfl
    | 20, h => rfl
    | 21, h => rfl
    | 22, h => rfl
    | k + 23, h => rfl
theorem pn_u12 {i : Nat} (hl : i < ws.length) (hi : i < 2147483648) (v : Int32) : ss_ui (pm_M n f mi dx tp sg lg cl cs rd op sk wd sd th fa ws kp li pr hb fi st im jf jx mk) (some 131) 20 (nI i) v = some (pm_M n f mi dx tp sg lg cl cs rd op sk wd sd th fa (ws.set i v) kp li pr hb fi st im jf jx mk) := by
  rw [pb_ui (h := (pm_M n f mi dx tp sg lg cl cs rd op sk wd sd th fa ws kp li pr hb fi st im jf jx mk)) (a := 131) (c := 20) (I := ws) (L := []) (R := []) rfl hi hl v]
  exact congrArg some (pm_aset12 _)
theorem pn_a13 {i : Nat} (hl : i < kp.length) (hi : i < 2147483648) : ss_ai (pm_M n f mi dx tp sg lg cl cs rd op sk wd sd th fa ws kp li pr hb fi st im jf jx mk) (some 132) 20 (nI i) = some (pv kp i) := (pm_ai 132 (j := 13) rfl (by decide) hi).trans (pv_get hl)
theorem pm_aset13 (v : List Int32) : ss_hs (pm_M n f mi dx tp sg lg cl cs rd op sk wd sd th fa ws kp li pr hb fi st im jf jx mk) 132 (20, v, [], []) = (pm_M n f mi dx tp sg lg cl cs rd op sk wd sd th fa ws v li pr hb fi st im jf jx mk) := by
  refine (pm_seta (j := 13) (by decide) (by decide) (by decide) v).trans ?_
  refine congrArg (fun B => pm_H n f mi dx B (pm_K sk wd)) (funext fun k => ?_)
  by_cases h : k = 13
  · subst h; rfl
  · rw [if_neg h]
    match k, h with
    | 0, h => rfl
    | 1, h => rfl
    | 2, h => rfl
    | 3, h => rfl
    | 4, h => rfl
    | 5, h => rfl
    | 6, h => rfl
    | 7, h => rfl
    | 8, h => rfl
    | 9, h => rfl
    | 10, h => rfl
    | 11, h => rfl
    | 12, h => rfl
    | 13, h => exact absurd rfl h
    | 14, h => rfl
    | 15, h => rfl
    | 16, h => rfl
    | 17, h => rfl
    | 18, h => rfl
    | 19, h => rfl
    | 20, h => rfl
    | 21, h => rfl
    | 22, h => rfl
    | k + 23, h => rfl
theorem pn_u13 {i : Nat} (hl : i < kp.length) (hi : i < 2147483648) (v : Int32) : ss_ui (pm_M n f mi dx tp sg lg cl cs rd op sk wd sd th fa ws kp li pr hb fi st im jf jx mk) (some 132) 20 (nI i) v = some (pm_M n f mi dx tp sg lg cl cs rd op sk wd sd th fa ws (kp.set i v) li pr hb fi st im jf jx mk) := by
  rw [pb_ui (h := (pm_M n f mi dx tp sg lg cl cs rd op sk wd sd th fa ws kp li pr hb fi st im jf jx mk)) (a := 132) (c := 20) (I := kp) (L := []) (R := []) rfl hi hl v]
  exact congrArg some (pm_aset13 _)
theorem pn_a14 {i : Nat} (hl : i < li.length) (hi : i < 2147483648) : ss_ai (pm_M n f mi dx tp sg lg cl cs rd op sk wd sd th fa ws kp li pr hb fi st im jf jx mk) (some 133) 20 (nI i) = some (pv li i) := (pm_ai 133 (j := 14) rfl (by decide) hi).trans (pv_get hl)
theorem pm_aset14 (v : List Int32) : ss_hs (pm_M n f mi dx tp sg lg cl cs rd op sk wd sd th fa ws kp li pr hb fi st im jf jx mk) 133 (20, v, [], []) = (pm_M n f mi dx tp sg lg cl cs rd op sk wd sd th fa ws kp v pr hb fi st im jf jx mk) := by
  refine (pm_seta (j := 14) (by decide) (by decide) (by decide) v).trans ?_
  refine congrArg (fun B => pm_H n f mi dx B (pm_K sk wd)) (funext fun k => ?_)
  by_cases h : k = 14
  · subst h; rfl
  · rw [if_neg h]
    match k, h with
    | 0, h => rfl
    | 1, h => rfl
    | 2, h => rfl
    | 3, h => rfl
    | 4, h => rfl
    | 5, h => rfl
    | 6, h => rfl
    | 7, h => rfl
    | 8, h => rfl
    | 9, h => rfl
    | 10, h => rfl
    | 11, h => rfl
    | 12, h => rfl
    | 13, h => rfl
    | 14, h => exact absurd rfl h
    | 15, h => rfl
    | 16, h => rfl
    | 17, h => rfl
    | 18, h => rfl
    | 19, h => rfl
    | 20, h => rfl
    | 21, h => rfl
    | 22, h => rfl
    | k + 23, h => rfl
theorem pn_u14 {i : Nat} (hl : i < li.length) (hi : i < 2147483648) (v : Int32) : ss_ui (pm_M n f mi dx tp sg lg cl cs rd op sk wd sd th fa ws kp li pr hb fi st im jf jx mk) (some 133) 20 (nI i) v = some (pm_M n f mi dx tp sg lg cl cs rd op sk wd sd th fa ws kp (li.set i v) pr hb fi st im jf jx mk) := by
  rw [pb_ui (h := (pm_M n f mi dx tp sg lg cl cs rd op sk wd sd th fa ws kp li pr hb fi st im jf jx mk)) (a := 133) (c := 20) (I := li) (L := []) (R := []) rfl hi hl v]
  exact congrArg some (pm_aset14 _)
theorem pn_a15 {i : Nat} (hl : i < pr.length) (hi : i < 2147483648) : ss_ai (pm_M n f mi dx tp sg lg cl cs rd op sk wd sd th fa ws kp li pr hb fi st im jf jx mk) (some 134) 20 (nI i) = some (pv pr i) := (pm_ai 134 (j := 15) rfl (by decide) hi).trans (pv_get hl)
theorem pm_aset15 (v : List Int32) : ss_hs (pm_M n f mi dx tp sg lg cl cs rd op sk wd sd th fa ws kp li pr hb fi st im jf jx mk) 134 (20, v, [], []) = (pm_M n f mi dx tp sg lg cl cs rd op sk wd sd th fa ws kp li v hb fi st im jf jx mk) := by
  refine (pm_seta (j := 15) (by decide) (by decide) (by decide) v).trans ?_
  refine congrArg (fun B => pm_H n f mi dx B (pm_K sk wd)) (funext fun k => ?_)
  by_cases h : k = 15
  · subst h; rfl
  · rw [if_neg h]
    match k, h with
    | 0, h => rfl
    | 1, h => rfl
    | 2, h => rfl
    | 3, h => rfl
    | 4, h => rfl
    | 5, h => rfl
    | 6, h => rfl
    | 7, h => rfl
    | 8, h => rfl
    | 9, h => rfl
    | 10, h => rfl
    | 11, h => rfl
    | 12, h => rfl
    | 13, h => rfl
    | 14, h => rfl
    | 15, h => exact absurd rfl h
    | 16, h => rfl
    | 17, h => rfl
    | 18, h => rfl
    | 19, h => rfl
    | 20, h => rfl
    | 21, h => rfl
    | 22, h => rfl
    | k + 23, h => rfl
theorem pn_u15 {i : Nat} (hl : i < pr.length) (hi : i < 2147483648) (v : Int32) : ss_ui (pm_M n f mi dx tp sg lg cl cs rd op sk wd sd th fa ws kp li pr hb fi st im jf jx mk) (some 134) 20 (nI i) v = some (pm_M n f mi dx tp sg lg cl cs rd op sk wd sd th fa ws kp li (pr.set i v) hb fi st im jf jx mk) := by
  rw [pb_ui (h := (pm_M n f mi dx tp sg lg cl cs rd op sk wd sd th fa ws kp li pr hb fi st im jf jx mk)) (a := 134) (c := 20) (I := pr) (L := []) (R := []) rfl hi hl v]
  exact congrArg some (pm_aset15 _)
theorem pn_a16 {i : Nat} (hl : i < hb.length) (hi : i < 2147483648) : ss_ai (pm_M n f mi dx tp sg lg cl cs rd op sk wd sd th fa ws kp li pr hb fi st im jf jx mk) (some 135) 20 (nI i) = some (pv hb i) := (pm_ai 135 (j := 16) rfl (by decide) hi).trans (pv_get hl)
theorem pm_aset16 (v : List Int32) : ss_hs (pm_M n f mi dx tp sg lg cl cs rd op sk wd sd th fa ws kp li pr hb fi st im jf jx mk) 135 (20, v, [], []) = (pm_M n f mi dx tp sg lg cl cs rd op sk wd sd th fa ws kp li pr v fi st im jf jx mk) := by
  refine (pm_seta (j := 16) (by decide) (by decide) (by decide) v).trans ?_
  refine congrArg (fun B => pm_H n f mi dx B (pm_K sk wd)) (funext fun k => ?_)
  by_cases h : k = 16
  · subst h; rfl
  · rw [if_neg h]
    match k, h with
    | 0, h => rfl
    | 1, h => rfl
    | 2, h => rfl
    | 3, h => rfl
    | 4, h => rfl
    | 5, h => rfl
    | 6, h => rfl
    | 7, h => rfl
    | 8, h => rfl
    | 9, h => rfl
    | 10, h => rfl
    | 11, h => rfl
    | 12, h => rfl
    | 13, h => rfl
    | 14, h => rfl
    | 15, h => rfl
    | 16, h => exact absurd rfl h
    | 17, h => rfl
    | 18, h => rfl
    | 19, h => rfl
    | 20, h => rfl
    | 21, h => rfl
    | 22, h => rfl
    | k + 23, h => rfl
theorem pn_u16 {i : Nat} (hl : i < hb.length) (hi : i < 2147483648) (v : Int32) : ss_ui (pm_M n f mi dx tp sg lg cl cs rd op sk wd sd th fa ws kp li pr hb fi st im jf jx mk) (some 135) 20 (nI i) v = some (pm_M n f mi dx tp sg lg cl cs rd op sk wd sd th fa ws kp li pr (hb.set i v) fi st im jf jx mk) := by
  rw [pb_ui (h := (pm_M n f mi dx tp sg lg cl cs rd op sk wd sd th fa ws kp li pr hb fi st im jf jx mk)) (a := 135) (c := 20) (I := hb) (L := []) (R := []) rfl hi hl v]
  exact congrArg some (pm_aset16 _)
theorem pn_a17 {i : Nat} (hl : i < fi.length) (hi : i < 2147483648) : ss_ai (pm_M n f mi dx tp sg lg cl cs rd op sk wd sd th fa ws kp li pr hb fi st im jf jx mk) (some 136) 22 (nI i) = some (pv fi i) := (pm_ai 136 (j := 17) rfl (by decide) hi).trans (pv_get hl)
theorem pm_aset17 (v : List Int32) : ss_hs (pm_M n f mi dx tp sg lg cl cs rd op sk wd sd th fa ws kp li pr hb fi st im jf jx mk) 136 (22, v, [], []) = (pm_M n f mi dx tp sg lg cl cs rd op sk wd sd th fa ws kp li pr hb v st im jf jx mk) := by
  refine (pm_seta (j := 17) (by decide) (by decide) (by decide) v).trans ?_
  refine congrArg (fun B => pm_H n f mi dx B (pm_K sk wd)) (funext fun k => ?_)
  by_cases h : k = 17
  · subst h; rfl
  · rw [if_neg h]
    match k, h with
    | 0, h => rfl
    | 1, h => rfl
    | 2, h => rfl
    | 3, h => rfl
    | 4, h => rfl
    | 5, h => rfl
    | 6, h => rfl
    | 7, h => rfl
    | 8, h => rfl
    | 9, h => rfl
    | 10, h => rfl
    | 11, h => rfl
    | 12, h => rfl
    | 13, h => rfl
    | 14, h => rfl
    | 15, h => rfl
    | 16, h => rfl
    | 17, h => exact absurd rfl h
    | 18, h => rfl
    | 19, h => rfl
    | 20, h => rfl
    | 21, h => rfl
    | 22, h => rfl
    | k + 23, h => rfl
theorem pn_u17 {i : Nat} (hl : i < fi.length) (hi : i < 2147483648) (v : Int32) : ss_ui (pm_M n f mi dx tp sg lg cl cs rd op sk wd sd th fa ws kp li pr hb fi st im jf jx mk) (some 136) 22 (nI i) v = some (pm_M n f mi dx tp sg lg cl cs rd op sk wd sd th fa ws kp li pr hb (fi.set i v) st im jf jx mk) := by
  rw [pb_ui (h := (pm_M n f mi dx tp sg lg cl cs rd op sk wd sd th fa ws kp li pr hb fi st im jf jx mk)) (a := 136) (c := 22) (I := fi) (L := []) (R := []) rfl hi hl v]
  exact congrArg some (pm_aset17 _)
theorem pn_a18 {i : Nat} (hl : i < st.length) (hi : i < 2147483648) : ss_ai (pm_M n f mi dx tp sg lg cl cs rd op sk wd sd th fa ws kp li pr hb fi st im jf jx mk) (some 137) 20 (nI i) = some (pv st i) := (pm_ai 137 (j := 18) rfl (by decide) hi).trans (pv_get hl)
theorem pm_aset18 (v : List Int32) : ss_hs (pm_M n f mi dx tp sg lg cl cs rd op sk wd sd th fa ws kp li pr hb fi st im jf jx mk) 137 (20, v, [], []) = (pm_M n f mi dx tp sg lg cl cs rd op sk wd sd th fa ws kp li pr hb fi v im jf jx mk) := by
  refine (pm_seta (j := 18) (by decide) (by decide) (by decide) v).trans ?_
  refine congrArg (fun B => pm_H n f mi dx B (pm_K sk wd)) (funext fun k => ?_)
  by_cases h : k = 18
  · subst h; rfl
  · rw [if_neg h]
    match k, h with
    | 0, h => rfl
    | 1, h => rfl
    | 2, h => rfl
    | 3, h => rfl
    | 4, h => rfl
    | 5, h => rfl
    | 6, h => rfl
    | 7, h => rfl
    | 8, h => rfl
    | 9, h => rfl
    | 10, h => rfl
    | 11, h => rfl
    | 12, h => rfl
    | 13, h => rfl
    | 14, h => rfl
    | 15, h => rfl
    | 16, h => rfl
    | 17, h => rfl
    | 18, h => exact absurd rfl h
    | 19, h => rfl
    | 20, h => rfl
    | 21, h => rfl
    | 22, h => rfl
    | k + 23, h => rfl
theorem pn_u18 {i : Nat} (hl : i < st.length) (hi : i < 2147483648) (v : Int32) : ss_ui (pm_M n f mi dx tp sg lg cl cs rd op sk wd sd th fa ws kp li pr hb fi st im jf jx mk) (some 137) 20 (nI i) v = some (pm_M n f mi dx tp sg lg cl cs rd op sk wd sd th fa ws kp li pr hb fi (st.set i v) im jf jx mk) := by
  rw [pb_ui (h := (pm_M n f mi dx tp sg lg cl cs rd op sk wd sd th fa ws kp li pr hb fi st im jf jx mk)) (a := 137) (c := 20) (I := st) (L := []) (R := []) rfl hi hl v]
  exact congrArg some (pm_aset18 _)
theorem pn_a19 {i : Nat} (hl : i < im.length) (hi : i < 2147483648) : ss_ai (pm_M n f mi dx tp sg lg cl cs rd op sk wd sd th fa ws kp li pr hb fi st im jf jx mk) (some 138) 20 (nI i) = some (pv im i) := (pm_ai 138 (j := 19) rfl (by decide) hi).trans (pv_get hl)
theorem pm_aset19 (v : List Int32) : ss_hs (pm_M n f mi dx tp sg lg cl cs rd op sk wd sd th fa ws kp li pr hb fi st im jf jx mk) 138 (20, v, [], []) = (pm_M n f mi dx tp sg lg cl cs rd op sk wd sd th fa ws kp li pr hb fi st v jf jx mk) := by
  refine (pm_seta (j := 19) (by decide) (by decide) (by decide) v).trans ?_
  refine congrArg (fun B => pm_H n f mi dx B (pm_K sk wd)) (funext fun k => ?_)
  by_cases h : k = 19
  · subst h; rfl
  · rw [if_neg h]
    match k, h with
    | 0, h => rfl
    | 1, h => rfl
    | 2, h => rfl
    | 3, h => rfl
    | 4, h => rfl
    | 5, h => rfl
    | 6, h => rfl
    | 7, h => rfl
    | 8, h => rfl
    | 9, h => rfl
    | 10, h => rfl
    | 11, h => rfl
    | 12, h => rfl
    | 13, h => rfl
    | 14, h => rfl
    | 15, h => rfl
    | 16, h => rfl
    | 17, h => rfl
    | 18, h => rfl
    | 19, h => exact absurd rfl h
    | 20, h => rfl
    | 21, h => rfl
    | 22, h => rfl
    | k + 23, h => rfl
theorem pn_u19 {i : Nat} (hl : i < im.length) (hi : i < 2147483648) (v : Int32) : ss_ui (pm_M n f mi dx tp sg lg cl cs rd op sk wd sd th fa ws kp li pr hb fi st im jf jx mk) (some 138) 20 (nI i) v = some (pm_M n f mi dx tp sg lg cl cs rd op sk wd sd th fa ws kp li pr hb fi st (im.set i v) jf jx mk) := by
  rw [pb_ui (h := (pm_M n f mi dx tp sg lg cl cs rd op sk wd sd th fa ws kp li pr hb fi st im jf jx mk)) (a := 138) (c := 20) (I := im) (L := []) (R := []) rfl hi hl v]
  exact congrArg some (pm_aset19 _)
theorem pn_a20 {i : Nat} (hl : i < jf.length) (hi : i < 2147483648) : ss_ai (pm_M n f mi dx tp sg lg cl cs rd op sk wd sd th fa ws kp li pr hb fi st im jf jx mk) (some 139) 20 (nI i) = some (pv jf i) := (pm_ai 139 (j := 20) rfl (by decide) hi).trans (pv_get hl)
theorem pm_aset20 (v : List Int32) : ss_hs (pm_M n f mi dx tp sg lg cl cs rd op sk wd sd th fa ws kp li pr hb fi st im jf jx mk) 139 (20, v, [], []) = (pm_M n f mi dx tp sg lg cl cs rd op sk wd sd th fa ws kp li pr hb fi st im v jx mk) := by
  refine (pm_seta (j := 20) (by decide) (by decide) (by decide) v).trans ?_
  refine congrArg (fun B => pm_H n f mi dx B (pm_K sk wd)) (funext fun k => ?_)
  by_cases h : k = 20
  · subst h; rfl
  · rw [if_neg h]
    match k, h with
    | 0, h => rfl
    | 1, h => rfl
    | 2, h => rfl
    | 3, h => rfl
    | 4, h => rfl
    | 5, h => rfl
    | 6, h => rfl
    | 7, h => rfl
    | 8, h => rfl
    | 9, h => rfl
    | 10, h => rfl
    | 11, h => rfl
    | 12, h => rfl
    | 13, h => rfl
    | 14, h => rfl
    | 15, h => rfl
    | 16, h => rfl
    | 17, h => rfl
    | 18, h => rfl
    | 19, h => rfl
    | 20, h => exact absurd rfl h
    | 21, h => rfl
    | 22, h => rfl
    | k + 23, h => rfl
theorem pn_u20 {i : Nat} (hl : i < jf.length) (hi : i < 2147483648) (v : Int32) : ss_ui (pm_M n f mi dx tp sg lg cl cs rd op sk wd sd th fa ws kp li pr hb fi st im jf jx mk) (some 139) 20 (nI i) v = some (pm_M n f mi dx tp sg lg cl cs rd op sk wd sd th fa ws kp li pr hb fi st im (jf.set i v) jx mk) := by
  rw [pb_ui (h := (pm_M n f mi dx tp sg lg cl cs rd op sk wd sd th fa ws kp li pr hb fi st im jf jx mk)) (a := 139) (c := 20) (I := jf) (L := []) (R := []) rfl hi hl v]
  exact congrArg some (pm_aset20 _)
theorem pn_a21 {i : Nat} (hl : i < jx.length) (hi : i < 2147483648) : ss_ai (pm_M n f mi dx tp sg lg cl cs rd op sk wd sd th fa ws kp li pr hb fi st im jf jx mk) (some 140) 20 (nI i) = some (pv jx i) := (pm_ai 140 (j := 21) rfl (by decide) hi).trans (pv_get hl)
theorem pm_aset21 (v : List Int32) : ss_hs (pm_M n f mi dx tp sg lg cl cs rd op sk wd sd th fa ws kp li pr hb fi st im jf jx mk) 140 (20, v, [], []) = (pm_M n f mi dx tp sg lg cl cs rd op sk wd sd th fa ws kp li pr hb fi st im jf v mk) := by
  refine (pm_seta (j := 21) (by decide) (by decide) (by decide) v).trans ?_
  refine congrArg (fun B => pm_H n f mi dx B (pm_K sk wd)) (funext fun k => ?_)
  by_cases h : k = 21
  · subst h; rfl
  · rw [if_neg h]
    match k, h with
    | 0, h => rfl
    | 1, h => rfl
    | 2, h => rfl
    | 3, h => rfl
    | 4, h => rfl
    | 5, h => rfl
    | 6, h => rfl
    | 7, h => rfl
    | 8, h => rfl
    | 9, h => rfl
    | 10, h => rfl
    | 11, h => rfl
    | 12, h => rfl
    | 13, h => rfl
    | 14, h => rfl
    | 15, h => rfl
    | 16, h => rfl
    | 17, h => rfl
    | 18, h => rfl
    | 19, h => rfl
    | 20, h => rfl
    | 21, h => exact absurd rfl h
    | 22, h => rfl
    | k + 23, h => rfl
theorem pn_u21 {i : Nat} (hl : i < jx.length) (hi : i < 2147483648) (v : Int32) : ss_ui (pm_M n f mi dx tp sg lg cl cs rd op sk wd sd th fa ws kp li pr hb fi st im jf jx mk) (some 140) 20 (nI i) v = some (pm_M n f mi dx tp sg lg cl cs rd op sk wd sd th fa ws kp li pr hb fi st im jf (jx.set i v) mk) := by
  rw [pb_ui (h := (pm_M n f mi dx tp sg lg cl cs rd op sk wd sd th fa ws kp li pr hb fi st im jf jx mk)) (a := 140) (c := 20) (I := jx) (L := []) (R := []) rfl hi hl v]
  exact congrArg some (pm_aset21 _)
theorem pn_a22 {i : Nat} (hl : i < mk.length) (hi : i < 2147483648) : ss_ai (pm_M n f mi dx tp sg lg cl cs rd op sk wd sd th fa ws kp li pr hb fi st im jf jx mk) (some 141) 22 (nI i) = some (pv mk i) := (pm_ai 141 (j := 22) rfl (by decide) hi).trans (pv_get hl)
theorem pm_aset22 (v : List Int32) : ss_hs (pm_M n f mi dx tp sg lg cl cs rd op sk wd sd th fa ws kp li pr hb fi st im jf jx mk) 141 (22, v, [], []) = (pm_M n f mi dx tp sg lg cl cs rd op sk wd sd th fa ws kp li pr hb fi st im jf jx v) := by
  refine (pm_seta (j := 22) (by decide) (by decide) (by decide) v).trans ?_
  refine congrArg (fun B => pm_H n f mi dx B (pm_K sk wd)) (funext fun k => ?_)
  by_cases h : k = 22
  · subst h; rfl
  · rw [if_neg h]
    match k, h with
    | 0, h => rfl
    | 1, h => rfl
    | 2, h => rfl
    | 3, h => rfl
    | 4, h => rfl
    | 5, h => rfl
    | 6, h => rfl
    | 7, h => rfl
    | 8, h => rfl
    | 9, h => rfl
    | 10, h => rfl
    | 11, h => rfl
    | 12, h => rfl
    | 13, h => rfl
    | 14, h => rfl
    | 15, h => rfl
    | 16, h => rfl
    | 17, h => rfl
    | 18, h => rfl
    | 19, h => rfl
    | 20, h => rfl
    | 21, h => rfl
    | 22, h => exact absurd rfl h
    | k + 23, h => rfl
theorem pn_u22 {i : Nat} (hl : i < mk.length) (hi : i < 2147483648) (v : Int32) : ss_ui (pm_M n f mi dx tp sg lg cl cs rd op sk wd sd th fa ws kp li pr hb fi st im jf jx mk) (some 141) 22 (nI i) v = some (pm_M n f mi dx tp sg lg cl cs rd op sk wd sd th fa ws kp li pr hb fi st im jf jx (mk.set i v)) := by
  rw [pb_ui (h := (pm_M n f mi dx tp sg lg cl cs rd op sk wd sd th fa ws kp li pr hb fi st im jf jx mk)) (a := 141) (c := 22) (I := mk) (L := []) (R := []) rfl hi hl v]
  exact congrArg some (pm_aset22 _)
theorem pn_gi {j : Nat} (hj : j < mi.length) : ss_gi (pm_M n f mi dx tp sg lg cl cs rd op sk wd sd th fa ws kp li pr hb fi st im jf jx mk) (some 118) 12 j = some (pv mi j) := (pm_gi j).trans (pv_get hj)
theorem pn_pi {j : Nat} (hj : j < mi.length) (v : Int32) : ss_pi (pm_M n f mi dx tp sg lg cl cs rd op sk wd sd th fa ws kp li pr hb fi st im jf jx mk) (some 118) 12 j v = some (pm_M n f (mi.set j v) dx tp sg lg cl cs rd op sk wd sd th fa ws kp li pr hb fi st im jf jx mk) := pm_pi hj v
theorem pn_u7 {i : Nat} (hl : i < sk.length) (hi : i < 2147483648) (v : Int64) : ss_ul (pm_M n f mi dx tp sg lg cl cs rd op sk wd sd th fa ws kp li pr hb fi st im jf jx mk) (some 126) 23 (nI i) v = some (pm_M n f mi dx tp sg lg cl cs rd op (sk.set i v) wd sd th fa ws kp li pr hb fi st im jf jx mk) := by
  rw [pb_ul (h := (pm_M n f mi dx tp sg lg cl cs rd op sk wd sd th fa ws kp li pr hb fi st im jf jx mk)) (a := 126) (c := 23) (I := []) (L := sk) (R := []) rfl hi hl v]
  refine congrArg some (Prod.ext rfl (funext fun k => ?_))
  by_cases h : k = 126
  · subst h; rfl
  · show (if k = 126 then _ else _) = _
    rw [if_neg h]
    by_cases h2 : k = 127
    · subst h2; rfl
    · have e : ¬ (k = 126 ∨ k = 127) := by omega
      simp only [pm_M, pm_H, e, if_false]
theorem pn_u8 {i : Nat} (hl : i < wd.length) (hi : i < 2147483648) (v : Int64) : ss_ul (pm_M n f mi dx tp sg lg cl cs rd op sk wd sd th fa ws kp li pr hb fi st im jf jx mk) (some 127) 23 (nI i) v = some (pm_M n f mi dx tp sg lg cl cs rd op sk (wd.set i v) sd th fa ws kp li pr hb fi st im jf jx mk) := by
  rw [pb_ul (h := (pm_M n f mi dx tp sg lg cl cs rd op sk wd sd th fa ws kp li pr hb fi st im jf jx mk)) (a := 127) (c := 23) (I := []) (L := wd) (R := []) rfl hi hl v]
  refine congrArg some (Prod.ext rfl (funext fun k => ?_))
  by_cases h : k = 127
  · subst h; rfl
  · show (if k = 127 then _ else _) = _
    rw [if_neg h]
    by_cases h2 : k = 126
    · subst h2; rfl
    · have e : ¬ (k = 126 ∨ k = 127) := by omega
      simp only [pm_M, pm_H, e, if_false]
end PN
