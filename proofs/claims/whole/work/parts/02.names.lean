def lw_g : List Cond := lw_tbl.filter goodWord
theorem ss_inL {ws : List Cond} (is : List Nat) (h : ws.map some = is.map (fun i => tables_1[i]?)) (hg : ws.all goodWord = true) : ∀ w ∈ ws, w ∈ lw_g := by
  intro w hw
  have h1 : some w ∈ ws.map some := List.mem_map.mpr ⟨w, hw, rfl⟩
  rw [h] at h1
  obtain ⟨i, -, hi⟩ := List.mem_map.mp h1
  exact List.mem_filter.mpr ⟨List.mem_append_right _ (List.mem_of_getElem? hi), List.all_eq_true.mp hg w hw⟩
def sR_0 : String := "SweptSnow$Ground"
def sT_0 : u_T := fun k => match k with
  | 0 => ("SweptSnow$Ground", "swept", "I", false)
  | 1 => ("SweptSnow$Ground", "before", "I", false)
  | 2 => ("SweptSnow$Ground", "busy", "I", false)
  | 3 => ("SweptSnow$Ground", "day", "I", false)
  | 4 => ("SweptSnow$Ground", "snow", "[I", true)
  | _ => ("SweptSnow$Ground", "wall", "[I", true)
def st_0 : Nat → FieldType := fun k => match k with
  | 0 => .int
  | 1 => .int
  | 2 => .int
  | 3 => .int
  | 4 => .array .int
  | _ => .array .int
theorem sn_0 : ∀ a, a < 6 → ∀ b, b < 6 → a ≠ b → (sT_0 a).2.1 ≠ (sT_0 b).2.1 := by decide +kernel
theorem st_0_ok : ∀ k, k < 6 → parseFieldDescriptor (sT_0 k).2.2.1 = some (st_0 k) := by decide +kernel
theorem si_0 : ∀ w ∈ u_ws sR_0 sT_0 6, w ∈ lw_g := ss_inL [105, 107, 109, 111, 101, 103] (by decide +kernel) (by decide +kernel)
def sR_1 : String := "SweptSnow$Rule"
def sT_1 : u_T := fun k => match k with
  | 0 => ("SweptSnow$Rule", "clauses", "I", true)
  | 1 => ("SweptSnow$Rule", "code", "[I", true)
  | _ => ("SweptSnow$Rule", "starts", "[I", true)
def st_1 : Nat → FieldType := fun k => match k with
  | 0 => .int
  | 1 => .array .int
  | _ => .array .int
theorem sn_1 : ∀ a, a < 3 → ∀ b, b < 3 → a ≠ b → (sT_1 a).2.1 ≠ (sT_1 b).2.1 := by decide +kernel
theorem st_1_ok : ∀ k, k < 3 → parseFieldDescriptor (sT_1 k).2.2.1 = some (st_1 k) := by decide +kernel
theorem si_1 : ∀ w ∈ u_ws sR_1 sT_1 3, w ∈ lw_g := ss_inL [672, 668, 670] (by decide +kernel) (by decide +kernel)
def sR_2 : String := "SweptSnow$Tape"
def sT_2 : u_T := fun k => match k with
  | 0 => ("SweptSnow$Tape", "length", "I", false)
  | 1 => ("SweptSnow$Tape", "fault", "I", false)
  | 2 => ("SweptSnow$Tape", "token", "I", false)
  | 3 => ("SweptSnow$Tape", "first", "I", false)
  | 4 => ("SweptSnow$Tape", "behind", "I", false)
  | _ => ("SweptSnow$Tape", "bytes", "[I", true)
def st_2 : Nat → FieldType := fun k => match k with
  | 0 => .int
  | 1 => .int
  | 2 => .int
  | 3 => .int
  | 4 => .int
  | _ => .array .int
theorem sn_2 : ∀ a, a < 6 → ∀ b, b < 6 → a ≠ b → (sT_2 a).2.1 ≠ (sT_2 b).2.1 := by decide +kernel
theorem st_2_ok : ∀ k, k < 6 → parseFieldDescriptor (sT_2 k).2.2.1 = some (st_2 k) := by decide +kernel
theorem si_2 : ∀ w ∈ u_ws sR_2 sT_2 6, w ∈ lw_g := ss_inL [45, 47, 49, 51, 53, 43] (by decide +kernel) (by decide +kernel)
def sR_3 : String := "SweptSnow$Acts"
def sT_3 : u_T := fun k => match k with
  | 0 => ("SweptSnow$Acts", "next", "I", false)
  | 1 => ("SweptSnow$Acts", "count", "I", false)
  | _ => ("SweptSnow$Acts", "kept", "[LSweptSnow$Ground;", true)
def st_3 : Nat → FieldType := fun k => match k with
  | 0 => .int
  | 1 => .int
  | _ => .array (.object "SweptSnow$Ground")
theorem sn_3 : ∀ a, a < 3 → ∀ b, b < 3 → a ≠ b → (sT_3 a).2.1 ≠ (sT_3 b).2.1 := by decide +kernel
theorem st_3_ok : ∀ k, k < 3 → parseFieldDescriptor (sT_3 k).2.2.1 = some (st_3 k) := by decide +kernel
theorem si_3 : ∀ w ∈ u_ws sR_3 sT_3 3, w ∈ lw_g := ss_inL [284, 286, 282] (by decide +kernel) (by decide +kernel)
def sR_4 : String := "SweptSnow$RuleReader"
def sT_4 : u_T := fun k => match k with
  | 0 => ("SweptSnow$RuleReader", "length", "I", false)
  | 1 => ("SweptSnow$RuleReader", "clauses", "I", false)
  | 2 => ("SweptSnow$RuleReader", "parts", "I", false)
  | 3 => ("SweptSnow$RuleReader", "tape", "LSweptSnow$Tape;", true)
  | 4 => ("SweptSnow$RuleReader", "code", "[I", true)
  | _ => ("SweptSnow$RuleReader", "starts", "[I", true)
def st_4 : Nat → FieldType := fun k => match k with
  | 0 => .int
  | 1 => .int
  | 2 => .int
  | 3 => .object "SweptSnow$Tape"
  | 4 => .array .int
  | _ => .array .int
theorem sn_4 : ∀ a, a < 6 → ∀ b, b < 6 → a ≠ b → (sT_4 a).2.1 ≠ (sT_4 b).2.1 := by decide +kernel
theorem st_4_ok : ∀ k, k < 6 → parseFieldDescriptor (sT_4 k).2.2.1 = some (st_4 k) := by decide +kernel
theorem si_4 : ∀ w ∈ u_ws sR_4 sT_4 6, w ∈ lw_g := ss_inL [209, 211, 213, 203, 205, 207] (by decide +kernel) (by decide +kernel)
def sR_5 : String := "SweptSnow$Valley"
def sT_5 : u_T := fun k => match k with
  | 0 => ("SweptSnow$Valley", "told", "Z", false)
  | 1 => ("SweptSnow$Valley", "fall", "I", false)
  | 2 => ("SweptSnow$Valley", "deep", "I", false)
  | 3 => ("SweptSnow$Valley", "steps", "I", false)
  | 4 => ("SweptSnow$Valley", "houses", "I", false)
  | 5 => ("SweptSnow$Valley", "own", "[I", true)
  | 6 => ("SweptSnow$Valley", "strength", "[I", true)
  | 7 => ("SweptSnow$Valley", "beside", "[I", true)
  | 8 => ("SweptSnow$Valley", "needs", "[I", true)
  | _ => ("SweptSnow$Valley", "first", "LSweptSnow$Ground;", true)
def st_5 : Nat → FieldType := fun k => match k with
  | 0 => .boolean
  | 1 => .int
  | 2 => .int
  | 3 => .int
  | 4 => .int
  | 5 => .array .int
  | 6 => .array .int
  | 7 => .array .int
  | 8 => .array .int
  | _ => .object "SweptSnow$Ground"
theorem sn_5 : ∀ a, a < 10 → ∀ b, b < 10 → a ≠ b → (sT_5 a).2.1 ≠ (sT_5 b).2.1 := by decide +kernel
theorem st_5_ok : ∀ k, k < 10 → parseFieldDescriptor (sT_5 k).2.2.1 = some (st_5 k) := by decide +kernel
theorem si_5 : ∀ w ∈ u_ws sR_5 sT_5 10, w ∈ lw_g := ss_inL [160, 162, 164, 166, 168, 170, 172, 174, 176, 178] (by decide +kernel) (by decide +kernel)
def sR_6 : String := "SweptSnow$ValleyReader"
def sT_6 : u_T := fun k => match k with
  | 0 => ("SweptSnow$ValleyReader", "tape", "LSweptSnow$Tape;", true)
  | 1 => ("SweptSnow$ValleyReader", "blank", "LSweptSnow$Valley;", true)
  | _ => ("SweptSnow$ValleyReader", "told", "LSweptSnow$Valley;", true)
def st_6 : Nat → FieldType := fun k => match k with
  | 0 => .object "SweptSnow$Tape"
  | 1 => .object "SweptSnow$Valley"
  | _ => .object "SweptSnow$Valley"
theorem sn_6 : ∀ a, a < 3 → ∀ b, b < 3 → a ≠ b → (sT_6 a).2.1 ≠ (sT_6 b).2.1 := by decide +kernel
theorem st_6_ok : ∀ k, k < 3 → parseFieldDescriptor (sT_6 k).2.2.1 = some (st_6 k) := by decide +kernel
theorem si_6 : ∀ w ∈ u_ws sR_6 sT_6 3, w ∈ lw_g := ss_inL [184, 186, 188] (by decide +kernel) (by decide +kernel)
def sR_7 : String := "SweptSnow$Winter"
def sT_7 : u_T := fun k => match k with
  | 0 => ("SweptSnow$Winter", "ground", "LSweptSnow$Ground;", true)
  | 1 => ("SweptSnow$Winter", "strength", "[I", true)
  | 2 => ("SweptSnow$Winter", "thrown", "[I", true)
  | 3 => ("SweptSnow$Winter", "fallen", "[I", true)
  | 4 => ("SweptSnow$Winter", "words", "[J", true)
  | 5 => ("SweptSnow$Winter", "stack", "[J", true)
  | 6 => ("SweptSnow$Winter", "valley", "LSweptSnow$Valley;", true)
  | _ => ("SweptSnow$Winter", "rule", "LSweptSnow$Rule;", false)
def st_7 : Nat → FieldType := fun k => match k with
  | 0 => .object "SweptSnow$Ground"
  | 1 => .array .int
  | 2 => .array .int
  | 3 => .array .int
  | 4 => .array .long
  | 5 => .array .long
  | 6 => .object "SweptSnow$Valley"
  | _ => .object "SweptSnow$Rule"
theorem sn_7 : ∀ a, a < 8 → ∀ b, b < 8 → a ≠ b → (sT_7 a).2.1 ≠ (sT_7 b).2.1 := by decide +kernel
theorem st_7_ok : ∀ k, k < 8 → parseFieldDescriptor (sT_7 k).2.2.1 = some (st_7 k) := by decide +kernel
theorem si_7 : ∀ w ∈ u_ws sR_7 sT_7 8, w ∈ lw_g := ss_inL [311, 313, 315, 317, 319, 321, 323, 325] (by decide +kernel) (by decide +kernel)
def sR_8 : String := "SweptSnow$World"
def sT_8 : u_T := fun k => match k with
  | 0 => ("SweptSnow$World", "inForce", "I", false)
  | 1 => ("SweptSnow$World", "drawn", "I", false)
  | 2 => ("SweptSnow$World", "notes", "I", false)
  | 3 => ("SweptSnow$World", "valley", "LSweptSnow$Valley;", true)
  | 4 => ("SweptSnow$World", "ground", "LSweptSnow$Ground;", true)
  | 5 => ("SweptSnow$World", "noteDay", "[I", true)
  | 6 => ("SweptSnow$World", "noteStep", "[I", true)
  | _ => ("SweptSnow$World", "noteSnow", "[I", true)
def st_8 : Nat → FieldType := fun k => match k with
  | 0 => .int
  | 1 => .int
  | 2 => .int
  | 3 => .object "SweptSnow$Valley"
  | 4 => .object "SweptSnow$Ground"
  | 5 => .array .int
  | 6 => .array .int
  | _ => .array .int
theorem sn_8 : ∀ a, a < 8 → ∀ b, b < 8 → a ≠ b → (sT_8 a).2.1 ≠ (sT_8 b).2.1 := by decide +kernel
theorem st_8_ok : ∀ k, k < 8 → parseFieldDescriptor (sT_8 k).2.2.1 = some (st_8 k) := by decide +kernel
theorem si_8 : ∀ w ∈ u_ws sR_8 sT_8 8, w ∈ lw_g := ss_inL [255, 257, 259, 251, 253, 261, 263, 265] (by decide +kernel) (by decide +kernel)
def sR_9 : String := "SweptSnow$Forecast"
def sT_9 : u_T := fun k => match k with
  | 0 => ("SweptSnow$Forecast", "now", "LSweptSnow$World;", true)
  | 1 => ("SweptSnow$Forecast", "rules", "[LSweptSnow$Rule;", true)
  | 2 => ("SweptSnow$Forecast", "winter", "LSweptSnow$Winter;", true)
  | 3 => ("SweptSnow$Forecast", "rows", "[I", true)
  | _ => ("SweptSnow$Forecast", "right", "[Z", true)
def st_9 : Nat → FieldType := fun k => match k with
  | 0 => .object "SweptSnow$World"
  | 1 => .array (.object "SweptSnow$Rule")
  | 2 => .object "SweptSnow$Winter"
  | 3 => .array .int
  | _ => .array .boolean
theorem sn_9 : ∀ a, a < 5 → ∀ b, b < 5 → a ≠ b → (sT_9 a).2.1 ≠ (sT_9 b).2.1 := by decide +kernel
theorem st_9_ok : ∀ k, k < 5 → parseFieldDescriptor (sT_9 k).2.2.1 = some (st_9 k) := by decide +kernel
theorem si_9 : ∀ w ∈ u_ws sR_9 sT_9 5, w ∈ lw_g := ss_inL [340, 342, 344, 346, 348] (by decide +kernel) (by decide +kernel)
def sR_10 : String := "SweptSnow$Plans"
def sT_10 : u_T := fun k => match k with
  | 0 => ("SweptSnow$Plans", "now", "LSweptSnow$World;", true)
  | 1 => ("SweptSnow$Plans", "winter", "LSweptSnow$Winter;", true)
  | 2 => ("SweptSnow$Plans", "laid", "[I", true)
  | 3 => ("SweptSnow$Plans", "cost", "[I", true)
  | _ => ("SweptSnow$Plans", "gain", "[I", true)
def st_10 : Nat → FieldType := fun k => match k with
  | 0 => .object "SweptSnow$World"
  | 1 => .object "SweptSnow$Winter"
  | 2 => .array .int
  | 3 => .array .int
  | _ => .array .int
theorem sn_10 : ∀ a, a < 5 → ∀ b, b < 5 → a ≠ b → (sT_10 a).2.1 ≠ (sT_10 b).2.1 := by decide +kernel
theorem st_10_ok : ∀ k, k < 5 → parseFieldDescriptor (sT_10 k).2.2.1 = some (st_10 k) := by decide +kernel
theorem si_10 : ∀ w ∈ u_ws sR_10 sT_10 5, w ∈ lw_g := ss_inL [363, 365, 367, 369, 371] (by decide +kernel) (by decide +kernel)
def sR_11 : String := "SweptSnow"
def sT_11 : u_T := fun k => match k with
  | 0 => ("SweptSnow", "ruleCount", "I", false)
  | 1 => ("SweptSnow", "tape", "LSweptSnow$Tape;", true)
  | 2 => ("SweptSnow", "valleyReader", "LSweptSnow$ValleyReader;", true)
  | 3 => ("SweptSnow", "ruleReader", "LSweptSnow$RuleReader;", true)
  | 4 => ("SweptSnow", "rules", "[LSweptSnow$Rule;", true)
  | 5 => ("SweptSnow", "now", "LSweptSnow$World;", true)
  | 6 => ("SweptSnow", "images", "[LSweptSnow$World;", true)
  | 7 => ("SweptSnow", "acts", "LSweptSnow$Acts;", true)
  | 8 => ("SweptSnow", "winter", "LSweptSnow$Winter;", true)
  | 9 => ("SweptSnow", "forecast", "LSweptSnow$Forecast;", true)
  | _ => ("SweptSnow", "plans", "LSweptSnow$Plans;", true)
def st_11 : Nat → FieldType := fun k => match k with
  | 0 => .int
  | 1 => .object "SweptSnow$Tape"
  | 2 => .object "SweptSnow$ValleyReader"
  | 3 => .object "SweptSnow$RuleReader"
  | 4 => .array (.object "SweptSnow$Rule")
  | 5 => .object "SweptSnow$World"
  | 6 => .array (.object "SweptSnow$World")
  | 7 => .object "SweptSnow$Acts"
  | 8 => .object "SweptSnow$Winter"
  | 9 => .object "SweptSnow$Forecast"
  | _ => .object "SweptSnow$Plans"
theorem sn_11 : ∀ a, a < 11 → ∀ b, b < 11 → a ≠ b → (sT_11 a).2.1 ≠ (sT_11 b).2.1 := by decide +kernel
theorem st_11_ok : ∀ k, k < 11 → parseFieldDescriptor (sT_11 k).2.2.1 = some (st_11 k) := by decide +kernel
theorem si_11 : ∀ w ∈ u_ws sR_11 sT_11 11, w ∈ lw_g := ss_inL [393, 385, 387, 389, 391, 395, 397, 399, 401, 403, 405] (by decide +kernel) (by decide +kernel)
def sR_12 : String := "SweptSnowModel"
def sT_12 : u_T := fun k => match k with
  | 0 => ("SweptSnowModel", "taped", "I", false)
  | 1 => ("SweptSnowModel", "rules", "I", false)
  | 2 => ("SweptSnowModel", "next", "I", false)
  | 3 => ("SweptSnowModel", "wrong", "I", false)
  | 4 => ("SweptSnowModel", "number", "I", false)
  | 5 => ("SweptSnowModel", "text", "I", false)
  | 6 => ("SweptSnowModel", "made", "I", false)
  | 7 => ("SweptSnowModel", "deep", "I", false)
  | 8 => ("SweptSnowModel", "lines", "I", false)
  | 9 => ("SweptSnowModel", "opened", "I", false)
  | 10 => ("SweptSnowModel", "firstStep", "I", false)
  | 11 => ("SweptSnowModel", "secondStep", "I", false)
  | 12 => ("SweptSnowModel", "top", "I", false)
  | 13 => ("SweptSnowModel", "force", "I", false)
  | 14 => ("SweptSnowModel", "x", "I", false)
  | 15 => ("SweptSnowModel", "undone", "I", false)
  | 16 => ("SweptSnowModel", "drawX", "J", false)
  | 17 => ("SweptSnowModel", "tape", "[B", true)
  | 18 => ("SweptSnowModel", "sign", "[I", true)
  | 19 => ("SweptSnowModel", "length", "[I", true)
  | 20 => ("SweptSnowModel", "clause", "[I", true)
  | 21 => ("SweptSnowModel", "clauses", "[I", true)
  | 22 => ("SweptSnowModel", "read", "[I", true)
  | 23 => ("SweptSnowModel", "open", "[I", true)
  | 24 => ("SweptSnowModel", "stack", "[J", true)
  | 25 => ("SweptSnowModel", "word", "[J", true)
  | 26 => ("SweptSnowModel", "said", "[I", true)
  | 27 => ("SweptSnowModel", "thrown", "[I", true)
  | 28 => ("SweptSnowModel", "fallen", "[I", true)
  | 29 => ("SweptSnowModel", "wasSaid", "[I", true)
  | 30 => ("SweptSnowModel", "kept", "[I", true)
  | 31 => ("SweptSnowModel", "lies", "[I", true)
  | 32 => ("SweptSnowModel", "price", "[I", true)
  | 33 => ("SweptSnowModel", "hasBy", "[I", true)
  | 34 => ("SweptSnowModel", "isFit", "[Z", true)
  | 35 => ("SweptSnowModel", "snowThen", "[I", true)
  | 36 => ("SweptSnowModel", "images", "[I", true)
  | 37 => ("SweptSnowModel", "imageForce", "[I", true)
  | 38 => ("SweptSnowModel", "imageX", "[I", true)
  | _ => ("SweptSnowModel", "isMade", "[Z", true)
def st_12 : Nat → FieldType := fun k => match k with
  | 0 => .int
  | 1 => .int
  | 2 => .int
  | 3 => .int
  | 4 => .int
  | 5 => .int
  | 6 => .int
  | 7 => .int
  | 8 => .int
  | 9 => .int
  | 10 => .int
  | 11 => .int
  | 12 => .int
  | 13 => .int
  | 14 => .int
  | 15 => .int
  | 16 => .long
  | 17 => .array .byte
  | 18 => .array .int
  | 19 => .array .int
  | 20 => .array .int
  | 21 => .array .int
  | 22 => .array .int
  | 23 => .array .int
  | 24 => .array .long
  | 25 => .array .long
  | 26 => .array .int
  | 27 => .array .int
  | 28 => .array .int
  | 29 => .array .int
  | 30 => .array .int
  | 31 => .array .int
  | 32 => .array .int
  | 33 => .array .int
  | 34 => .array .boolean
  | 35 => .array .int
  | 36 => .array .int
  | 37 => .array .int
  | 38 => .array .int
  | _ => .array .boolean
theorem sn_12 : ∀ a, a < 40 → ∀ b, b < 40 → a ≠ b → (sT_12 a).2.1 ≠ (sT_12 b).2.1 := by decide +kernel
theorem st_12_ok : ∀ k, k < 40 → parseFieldDescriptor (sT_12 k).2.2.1 = some (st_12 k) := by decide +kernel
theorem si_12 : ∀ w ∈ u_ws sR_12 sT_12 40, w ∈ lw_g := ss_inL [1154, 1156, 1168, 1170, 1172, 1174, 1176, 1178, 1180, 1184, 1186, 1188, 1192, 1198, 1200, 1208, 1222, 1152, 1158, 1160, 1162, 1164, 1166, 1182, 1190, 1194, 1196, 1202, 1204, 1206, 1210, 1212, 1214, 1216, 1218, 1220, 1224, 1226, 1228, 1230] (by decide +kernel) (by decide +kernel)
abbrev ss_cl : List vw_C := [(sR_0, sT_0, 6), (sR_1, sT_1, 3), (sR_2, sT_2, 6), (sR_3, sT_3, 3), (sR_4, sT_4, 6), (sR_5, sT_5, 10), (sR_6, sT_6, 3), (sR_7, sT_7, 8), (sR_8, sT_8, 8), (sR_9, sT_9, 5), (sR_10, sT_10, 5), (sR_11, sT_11, 11), (sR_12, sT_12, 40)]
def ss_cnt : Nat → Nat × Nat := fun k => match k with
  | 0 => (4, 0)
  | 1 => (1, 0)
  | 2 => (5, 0)
  | 3 => (2, 0)
  | 4 => (3, 0)
  | 5 => (5, 0)
  | 6 => (0, 0)
  | 7 => (0, 0)
  | 8 => (3, 0)
  | 9 => (0, 0)
  | 10 => (0, 0)
  | 11 => (1, 0)
  | 12 => (16, 1)
  | _ => (0, 0)
def ss_n24 : String := "SweptSnow$Ground"
def ss_n25 : String := "SweptSnow$Rule"
def ss_n26 : String := "SweptSnow$World"
def ss_Nst (U : State) : Prop := va_Nw (Cond.methodLinkNest "SweptSnow" 9 ⟨"SweptSnow$Tape", "<init>", "()V"⟩ "SweptSnow") U ∧ va_Nw (Cond.methodLinkNest "SweptSnow$ValleyReader" 11 ⟨"SweptSnow$Valley", "<init>", "()V"⟩ "SweptSnow") U ∧ va_Nw (Cond.methodLinkNest "SweptSnow" 40 ⟨"SweptSnow$World", "<init>", "()V"⟩ "SweptSnow") U ∧ va_Nw (Cond.methodLinkNest "SweptSnow$World" 11 ⟨"SweptSnow$Valley", "<init>", "()V"⟩ "SweptSnow") U
theorem ss_Nst.warm {s U : State} (hW : s.WarmedH U.vm) (h : ss_Nst s) : ss_Nst U := ⟨va_Nw.warmM hW h.1, va_Nw.warmM hW h.2.1, va_Nw.warmM hW h.2.2.1, va_Nw.warmM hW h.2.2.2⟩
theorem ss_Nst.calling {U : State} {g : JFrame} {mk : MethodId} {a : Array Value} (h : ss_Nst U) : ss_Nst (U.calling g mk a) := ⟨va_Nw.same rfl rfl h.1, va_Nw.same rfl rfl h.2.1, va_Nw.same rfl rfl h.2.2.1, va_Nw.same rfl rfl h.2.2.2⟩
def ss_sL : List Nat := [32, 5, 71, 5, 2, 3, 3, 3, 2]
def ss_sB : List (List Int32) := [[118, 97, 108, 108, 101, 121, 32, 115, 116, 101, 112, 32, 104, 111, 117, 115, 101, 32, 112, 97, 116, 104, 32, 119, 97, 108, 108, 32, 110, 101, 101, 100], [115, 119, 101, 101, 112], [104, 111, 117, 115, 101, 32, 115, 116, 101, 112, 32, 111, 119, 110, 32, 115, 110, 111, 119, 32, 115, 116, 114, 101, 110, 103, 116, 104, 32, 115, 119, 101, 112, 116, 32, 98, 101, 102, 111, 114, 101, 32, 99, 108, 111, 115, 101, 100, 32, 110, 101, 101, 100, 101, 100, 32, 110, 101, 120, 116, 32, 98, 101, 115, 105, 100, 101, 32, 100, 97, 121], [43, 45, 42, 47, 37], [105, 102], [110, 111, 116], [60, 61, 62], [97, 110, 100], [111, 114]]
def ss_Zr (G : va_G × (Nat → ClassId) × Nat × (Nat → Nat) × (Nat → Nat)) (U : State) : Prop := vk_R "SweptSnow$ValleyReader" 48 "valley step house path wall need" (G.2.2.2.1 0) U ∧ vk_R "SweptSnow$RuleReader" 68 "sweep" (G.2.2.2.1 1) U ∧ vk_R "SweptSnow$RuleReader" 115 "house step own snow strength swept before closed needed next beside day" (G.2.2.2.1 2) U ∧ vk_R "SweptSnow$RuleReader" 103 "+-*/%" (G.2.2.2.1 3) U ∧ vk_R "SweptSnow$RuleReader" 50 "if" (G.2.2.2.1 4) U ∧ vk_R "SweptSnow$RuleReader" 83 "not" (G.2.2.2.1 5) U ∧ vk_R "SweptSnow$Tape" 54 "<=>" (G.2.2.2.1 6) U ∧ vk_R "SweptSnow$RuleReader" 79 "and" (G.2.2.2.1 7) U ∧ vk_R "SweptSnow$RuleReader" 81 "or" (G.2.2.2.1 8) U
def ss_Z (G : va_G × (Nat → ClassId) × Nat × (Nat → Nat) × (Nat → Nat)) (U : State) : Prop := ss_Zr G U ∧ vk_S 9 ss_sL ss_sB G.2.2.2.1 G.2.2.2.2 (fun q => G.2.2.1 ≤ q) U U.heap ∧ va_Z "java/lang/String" "COMPACT_STRINGS" "Z" (.int 1) (fun q => G.2.2.1 ≤ q) U U.heap ∧ va_Zq "jdk/internal/util/Preconditions" "SIOOBE_FORMATTER" "Ljava/util/function/BiFunction;" (fun q => G.2.2.1 ≤ q) U U.heap
theorem ss_Zr.warm {G : va_G × (Nat → ClassId) × Nat × (Nat → Nat) × (Nat → Nat)} {s U : State} (hW : s.WarmedH U.vm) (h : ss_Zr G s) : ss_Zr G U := ⟨vk_R.warm hW h.1, vk_R.warm hW h.2.1, vk_R.warm hW h.2.2.1, vk_R.warm hW h.2.2.2.1, vk_R.warm hW h.2.2.2.2.1, vk_R.warm hW h.2.2.2.2.2.1, vk_R.warm hW h.2.2.2.2.2.2.1, vk_R.warm hW h.2.2.2.2.2.2.2.1, vk_R.warm hW h.2.2.2.2.2.2.2.2⟩
theorem ss_Zr.same {G : va_G × (Nat → ClassId) × Nat × (Nat → Nat) × (Nat → Nat)} {s U : State} (hW : U.vm = s.vm) (h : ss_Zr G s) : ss_Zr G U := ⟨vk_R.same hW h.1, vk_R.same hW h.2.1, vk_R.same hW h.2.2.1, vk_R.same hW h.2.2.2.1, vk_R.same hW h.2.2.2.2.1, vk_R.same hW h.2.2.2.2.2.1, vk_R.same hW h.2.2.2.2.2.2.1, vk_R.same hW h.2.2.2.2.2.2.2.1, vk_R.same hW h.2.2.2.2.2.2.2.2⟩
theorem ss_Z.warm {G : va_G × (Nat → ClassId) × Nat × (Nat → Nat) × (Nat → Nat)} {s U : State} (hW : s.WarmedH U.vm) (hq : ∀ q : Nat, q < s.heap.size → ¬ (G.2.2.1 ≤ q) → U.heap[q]? = s.heap[q]?) (h : ss_Z G s) : ss_Z G U := ⟨h.1.warm hW, (vk_S.moved hW.alike h.2.1).kept hq, (va_Z.moved hW.alike h.2.2.1).kept hq, (va_Zq.moved hW.alike h.2.2.2).kept hq⟩
theorem ss_Z.calling {G : va_G × (Nat → ClassId) × Nat × (Nat → Nat) × (Nat → Nat)} {U : State} {g : JFrame} {mk : MethodId} {a : Array Value} (h : ss_Z G U) : ss_Z G (U.calling g mk a) := ⟨h.1.same (s := U) (U := U.calling g mk a) rfl, vk_S.moved (u := U) (U := U.calling g mk a) (Vm.Alike.refl U.vm) h.2.1, va_Z.moved (u := U) (U := U.calling g mk a) (Vm.Alike.refl U.vm) h.2.2.1, va_Zq.moved (u := U) (U := U.calling g mk a) (Vm.Alike.refl U.vm) h.2.2.2⟩
