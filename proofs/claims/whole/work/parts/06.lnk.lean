def TX0 : u_T := fun k => match k with
  | 0 => ("TakenUp$Law", "code", "[I", true)
  | 1 => ("TakenUp$Law", "stack", "[I", true)
  | 2 => ("TakenUp$Law", "size", "I", false)
  | _ => ("TakenUp$Law", "isTold", "Z", false)
def tyX0 : Nat → FieldType := fun k => match k with
  | 0 => .array .int
  | 1 => .array .int
  | 2 => .int
  | _ => .boolean
theorem nmX0 : ∀ a, a < 4 → ∀ b, b < 4 → a ≠ b → (TX0 a).2.1 ≠ (TX0 b).2.1 := by decide +kernel
theorem tyX0_ok : ∀ k, k < 4 → parseFieldDescriptor (TX0 k).2.2.1 = some (tyX0 k) := by decide +kernel
def TX1 : u_T := fun k => match k with
  | 0 => ("TakenUp$Reader", "code", "[I", true)
  | 1 => ("TakenUp$Reader", "pending", "[I", true)
  | 2 => ("TakenUp$Reader", "size", "I", false)
  | 3 => ("TakenUp$Reader", "pendingCount", "I", false)
  | 4 => ("TakenUp$Reader", "open", "I", false)
  | 5 => ("TakenUp$Reader", "digits", "I", false)
  | _ => ("TakenUp$Reader", "wantsValue", "Z", false)
def tyX1 : Nat → FieldType := fun k => match k with
  | 0 => .array .int
  | 1 => .array .int
  | 2 => .int
  | 3 => .int
  | 4 => .int
  | 5 => .int
  | _ => .boolean
theorem nmX1 : ∀ a, a < 7 → ∀ b, b < 7 → a ≠ b → (TX1 a).2.1 ≠ (TX1 b).2.1 := by decide +kernel
theorem tyX1_ok : ∀ k, k < 7 → parseFieldDescriptor (TX1 k).2.2.1 = some (tyX1 k) := by decide +kernel
def TX2 : u_T := fun k => match k with
  | 0 => ("TakenUp$Rest", "kind", "I", false)
  | 1 => ("TakenUp$Rest", "m", "I", false)
  | 2 => ("TakenUp$Rest", "worker", "I", false)
  | 3 => ("TakenUp$Rest", "due", "I", false)
  | 4 => ("TakenUp$Rest", "when", "I", false)
  | 5 => ("TakenUp$Rest", "takes", "I", false)
  | 6 => ("TakenUp$Rest", "tenths", "I", false)
  | _ => ("TakenUp$Rest", "came", "I", false)
def tyX2 : Nat → FieldType := fun k => match k with
  | 0 => .int
  | 1 => .int
  | 2 => .int
  | 3 => .int
  | 4 => .int
  | 5 => .int
  | 6 => .int
  | _ => .int
theorem nmX2 : ∀ a, a < 8 → ∀ b, b < 8 → a ≠ b → (TX2 a).2.1 ≠ (TX2 b).2.1 := by decide +kernel
theorem tyX2_ok : ∀ k, k < 8 → parseFieldDescriptor (TX2 k).2.2.1 = some (tyX2 k) := by decide +kernel
def TX3 : u_T := fun k => match k with
  | 0 => ("TakenUp$Sheet", "numbers", "[I", true)
  | 1 => ("TakenUp$Sheet", "bits", "I", false)
  | _ => ("TakenUp$Sheet", "size", "I", false)
def tyX3 : Nat → FieldType := fun k => match k with
  | 0 => .array .int
  | 1 => .int
  | _ => .int
theorem nmX3 : ∀ a, a < 3 → ∀ b, b < 3 → a ≠ b → (TX3 a).2.1 ≠ (TX3 b).2.1 := by decide +kernel
theorem tyX3_ok : ∀ k, k < 3 → parseFieldDescriptor (TX3 k).2.2.1 = some (tyX3 k) := by decide +kernel
def TX4 : u_T := fun k => match k with
  | 0 => ("TakenUp$Speaker", "trace", "[I", true)
  | 1 => ("TakenUp$Speaker", "traced", "I", false)
  | 2 => ("TakenUp$Speaker", "kind", "I", false)
  | 3 => ("TakenUp$Speaker", "m", "I", false)
  | 4 => ("TakenUp$Speaker", "number", "I", false)
  | _ => ("TakenUp$Speaker", "isParted", "Z", false)
def tyX4 : Nat → FieldType := fun k => match k with
  | 0 => .array .int
  | 1 => .int
  | 2 => .int
  | 3 => .int
  | 4 => .int
  | _ => .boolean
theorem nmX4 : ∀ a, a < 6 → ∀ b, b < 6 → a ≠ b → (TX4 a).2.1 ≠ (TX4 b).2.1 := by decide +kernel
theorem tyX4_ok : ∀ k, k < 6 → parseFieldDescriptor (TX4 k).2.2.1 = some (tyX4 k) := by decide +kernel
def TX5 : u_T := fun k => match k with
  | 0 => ("TakenUp$Worker", "longs", "[I", true)
  | 1 => ("TakenUp$Worker", "hards", "[I", true)
  | 2 => ("TakenUp$Worker", "depth", "I", false)
  | 3 => ("TakenUp$Worker", "stepCount", "I", false)
  | 4 => ("TakenUp$Worker", "at", "I", false)
  | 5 => ("TakenUp$Worker", "done", "I", false)
  | 6 => ("TakenUp$Worker", "away", "I", false)
  | 7 => ("TakenUp$Worker", "note", "I", false)
  | 8 => ("TakenUp$Worker", "lost", "I", false)
  | _ => ("TakenUp$Worker", "ends", "I", false)
def tyX5 : Nat → FieldType := fun k => match k with
  | 0 => .array .int
  | 1 => .array .int
  | 2 => .int
  | 3 => .int
  | 4 => .int
  | 5 => .int
  | 6 => .int
  | 7 => .int
  | 8 => .int
  | _ => .int
theorem nmX5 : ∀ a, a < 10 → ∀ b, b < 10 → a ≠ b → (TX5 a).2.1 ≠ (TX5 b).2.1 := by decide +kernel
theorem tyX5_ok : ∀ k, k < 10 → parseFieldDescriptor (TX5 k).2.2.1 = some (tyX5 k) := by decide +kernel
def TX6 : u_T := fun k => match k with
  | 0 => ("TakenUp$World", "workers", "[LTakenUp$Worker;", true)
  | 1 => ("TakenUp$World", "rests", "[LTakenUp$Rest;", true)
  | 2 => ("TakenUp$World", "laws", "[LTakenUp$Law;", true)
  | 3 => ("TakenUp$World", "tape", "[I", true)
  | 4 => ("TakenUp$World", "waiting", "[I", true)
  | 5 => ("TakenUp$World", "workerCount", "I", false)
  | 6 => ("TakenUp$World", "restCount", "I", false)
  | 7 => ("TakenUp$World", "tapeLength", "I", false)
  | 8 => ("TakenUp$World", "waitingCount", "I", false)
  | 9 => ("TakenUp$World", "minute", "I", false)
  | 10 => ("TakenUp$World", "waited", "I", false)
  | 11 => ("TakenUp$World", "from", "I", false)
  | 12 => ("TakenUp$World", "to", "I", false)
  | _ => ("TakenUp$World", "z", "I", false)
def tyX6 : Nat → FieldType := fun k => match k with
  | 0 => .array (.object "TakenUp$Worker")
  | 1 => .array (.object "TakenUp$Rest")
  | 2 => .array (.object "TakenUp$Law")
  | 3 => .array .int
  | 4 => .array .int
  | 5 => .int
  | 6 => .int
  | 7 => .int
  | 8 => .int
  | 9 => .int
  | 10 => .int
  | 11 => .int
  | 12 => .int
  | _ => .int
theorem nmX6 : ∀ a, a < 14 → ∀ b, b < 14 → a ≠ b → (TX6 a).2.1 ≠ (TX6 b).2.1 := by decide +kernel
theorem tyX6_ok : ∀ k, k < 14 → parseFieldDescriptor (TX6 k).2.2.1 = some (tyX6 k) := by decide +kernel
def TX7 : u_T := fun k => match k with
  | 0 => ("TakenUp", "now", "LTakenUp$World;", true)
  | 1 => ("TakenUp", "trial", "LTakenUp$World;", true)
  | 2 => ("TakenUp", "kept", "LTakenUp$World;", true)
  | 3 => ("TakenUp", "reader", "LTakenUp$Reader;", true)
  | 4 => ("TakenUp", "speaker", "LTakenUp$Speaker;", true)
  | 5 => ("TakenUp", "sheets", "[LTakenUp$Sheet;", true)
  | 6 => ("TakenUp", "errors", "[I", true)
  | _ => ("TakenUp", "images", "I", false)
def tyX7 : Nat → FieldType := fun k => match k with
  | 0 => .object "TakenUp$World"
  | 1 => .object "TakenUp$World"
  | 2 => .object "TakenUp$World"
  | 3 => .object "TakenUp$Reader"
  | 4 => .object "TakenUp$Speaker"
  | 5 => .array (.object "TakenUp$Sheet")
  | 6 => .array .int
  | _ => .int
theorem nmX7 : ∀ a, a < 8 → ∀ b, b < 8 → a ≠ b → (TX7 a).2.1 ≠ (TX7 b).2.1 := by decide +kernel
theorem tyX7_ok : ∀ k, k < 8 → parseFieldDescriptor (TX7 k).2.2.1 = some (tyX7 k) := by decide +kernel
def TX8 : u_T := fun k => match k with
  | 0 => ("TakenUpModel", "s", "[I", true)
  | 1 => ("TakenUpModel", "kept", "[I", true)
  | 2 => ("TakenUpModel", "put", "[I", true)
  | 3 => ("TakenUpModel", "images", "I", false)
  | 4 => ("TakenUpModel", "errors", "[I", true)
  | 5 => ("TakenUpModel", "at", "I", false)
  | 6 => ("TakenUpModel", "open", "I", false)
  | 7 => ("TakenUpModel", "steps", "I", false)
  | 8 => ("TakenUpModel", "use", "I", false)
  | 9 => ("TakenUpModel", "step", "[I", true)
  | 10 => ("TakenUpModel", "named", "[I", true)
  | 11 => ("TakenUpModel", "pile", "[I", true)
  | 12 => ("TakenUpModel", "offs", "[I", true)
  | 13 => ("TakenUpModel", "still", "[I", true)
  | 14 => ("TakenUpModel", "trace", "[I", true)
  | 15 => ("TakenUpModel", "traced", "I", false)
  | 16 => ("TakenUpModel", "speaks", "I", false)
  | 17 => ("TakenUpModel", "isParted", "Z", false)
  | 18 => ("TakenUpModel", "bits", "[I", true)
  | 19 => ("TakenUpModel", "sizes", "[I", true)
  | 20 => ("TakenUpModel", "number", "[I", true)
  | _ => ("TakenUpModel", "aside", "[I", true)
def tyX8 : Nat → FieldType := fun k => match k with
  | 0 => .array .int
  | 1 => .array .int
  | 2 => .array .int
  | 3 => .int
  | 4 => .array .int
  | 5 => .int
  | 6 => .int
  | 7 => .int
  | 8 => .int
  | 9 => .array .int
  | 10 => .array .int
  | 11 => .array .int
  | 12 => .array .int
  | 13 => .array .int
  | 14 => .array .int
  | 15 => .int
  | 16 => .int
  | 17 => .boolean
  | 18 => .array .int
  | 19 => .array .int
  | 20 => .array .int
  | _ => .array .int
theorem nmX8 : ∀ a, a < 22 → ∀ b, b < 22 → a ≠ b → (TX8 a).2.1 ≠ (TX8 b).2.1 := by decide +kernel
theorem tyX8_ok : ∀ k, k < 22 → parseFieldDescriptor (TX8 k).2.2.1 = some (tyX8 k) := by decide +kernel
def cn (k : Nat) : String := (["TakenUp$Law", "TakenUp$Reader", "TakenUp$Rest", "TakenUp$Sheet", "TakenUp$Speaker", "TakenUp$Worker", "TakenUp$World", "TakenUp", "TakenUpModel", "TakenUpLaw"] : List String).getD k ""
def TT (k : Nat) : u_T := if k = 0 then TX0 else if k = 1 then TX1 else if k = 2 then TX2 else if k = 3 then TX3 else if k = 4 then TX4 else if k = 5 then TX5 else if k = 6 then TX6 else if k = 7 then TX7 else TX8
def tyT (k : Nat) : Nat → FieldType := if k = 0 then tyX0 else if k = 1 then tyX1 else if k = 2 then tyX2 else if k = 3 then tyX3 else if k = 4 then tyX4 else if k = 5 then tyX5 else if k = 6 then tyX6 else if k = 7 then tyX7 else tyX8
def nF (k : Nat) : Nat := ([4, 7, 8, 3, 6, 10, 14, 8, 22] : List Nat).getD k 0
def vwCl : List vw_C := [("TakenUp$Law", TX0, 4), ("TakenUp$Reader", TX1, 7), ("TakenUp$Rest", TX2, 8), ("TakenUp$Sheet", TX3, 3), ("TakenUp$Speaker", TX4, 6), ("TakenUp$Worker", TX5, 10), ("TakenUp$World", TX6, 14), ("TakenUp", TX7, 8), ("TakenUpModel", TX8, 22)]
theorem cl_at : ∀ k, k < 9 → vwCl[k]? = some (cn k, TT k, nF k) := by
  intro k hk
  match k, hk with
  | 0, _ => rfl
  | 1, _ => rfl
  | 2, _ => rfl
  | 3, _ => rfl
  | 4, _ => rfl
  | 5, _ => rfl
  | 6, _ => rfl
  | 7, _ => rfl
  | 8, _ => rfl
theorem inX0 : ∀ w ∈ u_ws "TakenUp$Law" TX0 4, w ∈ lw_tbl := by
  have h : (List.range 4).all (fun j => decide (lw_tbl[([244, 246, 248, 250] : List Nat).getD j 0]? = some (u_lay "TakenUp$Law" TX0 j))) = true := by decide +kernel
  intro w hw
  obtain ⟨j, hj, rfl⟩ := List.mem_map.mp hw
  exact List.mem_of_getElem? (of_decide_eq_true (List.all_eq_true.mp h j hj))
theorem inX1 : ∀ w ∈ u_ws "TakenUp$Reader" TX1 7, w ∈ lw_tbl := by
  have h : (List.range 7).all (fun j => decide (lw_tbl[([325, 327, 329, 331, 333, 335, 337] : List Nat).getD j 0]? = some (u_lay "TakenUp$Reader" TX1 j))) = true := by decide +kernel
  intro w hw
  obtain ⟨j, hj, rfl⟩ := List.mem_map.mp hw
  exact List.mem_of_getElem? (of_decide_eq_true (List.all_eq_true.mp h j hj))
theorem inX2 : ∀ w ∈ u_ws "TakenUp$Rest" TX2 8, w ∈ lw_tbl := by
  have h : (List.range 8).all (fun j => decide (lw_tbl[([216, 218, 220, 222, 224, 226, 228, 230] : List Nat).getD j 0]? = some (u_lay "TakenUp$Rest" TX2 j))) = true := by decide +kernel
  intro w hw
  obtain ⟨j, hj, rfl⟩ := List.mem_map.mp hw
  exact List.mem_of_getElem? (of_decide_eq_true (List.all_eq_true.mp h j hj))
theorem inX3 : ∀ w ∈ u_ws "TakenUp$Sheet" TX3 3, w ∈ lw_tbl := by
  have h : (List.range 3).all (fun j => decide (lw_tbl[([383, 385, 387] : List Nat).getD j 0]? = some (u_lay "TakenUp$Sheet" TX3 j))) = true := by decide +kernel
  intro w hw
  obtain ⟨j, hj, rfl⟩ := List.mem_map.mp hw
  exact List.mem_of_getElem? (of_decide_eq_true (List.all_eq_true.mp h j hj))
theorem inX4 : ∀ w ∈ u_ws "TakenUp$Speaker" TX4 6, w ∈ lw_tbl := by
  have h : (List.range 6).all (fun j => decide (lw_tbl[([355, 357, 359, 361, 363, 365] : List Nat).getD j 0]? = some (u_lay "TakenUp$Speaker" TX4 j))) = true := by decide +kernel
  intro w hw
  obtain ⟨j, hj, rfl⟩ := List.mem_map.mp hw
  exact List.mem_of_getElem? (of_decide_eq_true (List.all_eq_true.mp h j hj))
theorem inX5 : ∀ w ∈ u_ws "TakenUp$Worker" TX5 10, w ∈ lw_tbl := by
  have h : (List.range 10).all (fun j => decide (lw_tbl[([167, 169, 171, 173, 175, 177, 179, 181, 183, 185] : List Nat).getD j 0]? = some (u_lay "TakenUp$Worker" TX5 j))) = true := by decide +kernel
  intro w hw
  obtain ⟨j, hj, rfl⟩ := List.mem_map.mp hw
  exact List.mem_of_getElem? (of_decide_eq_true (List.all_eq_true.mp h j hj))
theorem inX6 : ∀ w ∈ u_ws "TakenUp$World" TX6 14, w ∈ lw_tbl := by
  have h : (List.range 14).all (fun j => decide (lw_tbl[([281, 283, 285, 287, 289, 291, 293, 295, 297, 299, 301, 303, 305, 307] : List Nat).getD j 0]? = some (u_lay "TakenUp$World" TX6 j))) = true := by decide +kernel
  intro w hw
  obtain ⟨j, hj, rfl⟩ := List.mem_map.mp hw
  exact List.mem_of_getElem? (of_decide_eq_true (List.all_eq_true.mp h j hj))
theorem inX7 : ∀ w ∈ u_ws "TakenUp" TX7 8, w ∈ lw_tbl := by
  have h : (List.range 8).all (fun j => decide (lw_tbl[([398, 400, 402, 404, 406, 408, 410, 412] : List Nat).getD j 0]? = some (u_lay "TakenUp" TX7 j))) = true := by decide +kernel
  intro w hw
  obtain ⟨j, hj, rfl⟩ := List.mem_map.mp hw
  exact List.mem_of_getElem? (of_decide_eq_true (List.all_eq_true.mp h j hj))
theorem inX8 : ∀ w ∈ u_ws "TakenUpModel" TX8 22, w ∈ lw_tbl := by
  have h : (List.range 22).all (fun j => decide (lw_tbl[([978, 980, 982, 984, 986, 988, 990, 992, 994, 996, 998, 1000, 1002, 1004, 1006, 1008, 1010, 1012, 1014, 1016, 1018, 1020] : List Nat).getD j 0]? = some (u_lay "TakenUpModel" TX8 j))) = true := by decide +kernel
  intro w hw
  obtain ⟨j, hj, rfl⟩ := List.mem_map.mp hw
  exact List.mem_of_getElem? (of_decide_eq_true (List.all_eq_true.mp h j hj))
theorem cl_in : ∀ k, k < 9 → ∀ w ∈ u_ws (cn k) (TT k) (nF k), w ∈ lw_tbl := by
  intro k hk
  match k, hk with
  | 0, _ => exact inX0
  | 1, _ => exact inX1
  | 2, _ => exact inX2
  | 3, _ => exact inX3
  | 4, _ => exact inX4
  | 5, _ => exact inX5
  | 6, _ => exact inX6
  | 7, _ => exact inX7
  | 8, _ => exact inX8
theorem cl_nm : ∀ k, k < 9 → ∀ a, a < nF k → ∀ b, b < nF k → a ≠ b → (TT k a).2.1 ≠ (TT k b).2.1 := by
  intro k hk
  match k, hk with
  | 0, _ => exact nmX0
  | 1, _ => exact nmX1
  | 2, _ => exact nmX2
  | 3, _ => exact nmX3
  | 4, _ => exact nmX4
  | 5, _ => exact nmX5
  | 6, _ => exact nmX6
  | 7, _ => exact nmX7
  | 8, _ => exact nmX8
theorem cl_ty : ∀ k, k < 9 → ∀ j, j < nF k → parseFieldDescriptor (TT k j).2.2.1 = some (tyT k j) := by
  intro k hk
  match k, hk with
  | 0, _ => exact tyX0_ok
  | 1, _ => exact tyX1_ok
  | 2, _ => exact tyX2_ok
  | 3, _ => exact tyX3_ok
  | 4, _ => exact tyX4_ok
  | 5, _ => exact tyX5_ok
  | 6, _ => exact tyX6_ok
  | 7, _ => exact tyX7_ok
  | 8, _ => exact tyX8_ok
def flt : List (List (Option (Nat × Nat))) := [[some (160, 1), some (160, 2), none, none],
  [some (160, 1), some (160, 2), none, none, none, none, none],
  [none, none, none, none, none, none, none, none],
  [some (124, 1), none, none],
  [some (130, 1), none, none, none, none, none],
  [some (108, 1), some (108, 2), none, none, none, none, none, none, none, none],
  [some (13, 1), some (11, 2), some (10, 3), some (160, 4), some (124, 5), none, none, none, none, none, none, none, none, none],
  [some (6, 1), some (6, 33), some (6, 65), some (1, 97), some (4, 100), some (12, 102), some (107, 103), none],
  [some (604, 1), some (604, 2), some (604, 3), none, some (107, 4), none, none, none, none, some (224, 5), some (228, 6), some (164, 7), some (108, 8), some (108, 9), some (130, 10), none, none, none, some (104, 11), some (104, 12), some (196, 13), some (124, 14)]]
def fl (k : Nat) : List (Option (Nat × Nat)) := flt.getD k []
theorem fl_len : ∀ k, k < 9 → (fl k).length = nF k := by decide +kernel
def kdt : List Nat := [7, 6, 13, 11, 10, 160, 124, 5, 108, 108, 5, 108, 108, 5, 108, 108, 5, 108, 108, 2, 2, 2, 2, 2, 2, 2, 2, 0, 160, 160, 0, 160, 160, 6, 13, 11, 10, 160, 124, 5, 108, 108, 5, 108, 108, 5, 108, 108, 5, 108, 108, 2, 2, 2, 2, 2, 2, 2, 2, 0, 160, 160, 0, 160, 160, 6, 13, 11, 10, 160, 124, 5, 108, 108, 5, 108, 108, 5, 108, 108, 5, 108, 108, 2, 2, 2, 2, 2, 2, 2, 2, 0, 160, 160, 0, 160, 160, 1, 160, 160, 4, 130, 12, 107, 3, 124, 3, 124, 3, 124, 3, 124, 8, 604, 604, 604, 107, 224, 228, 164, 108, 108, 130, 104, 104, 196, 124]
def kd (o : Nat) : Nat := kdt.getD o 50
def kdL (L o : Nat) : Nat := if o = 200 then 1007 else if o = 201 then 1028 else if o = 202 then 1000 + L else if o = 203 then 14 else if o = 204 then 15 else kd o
theorem kd_lt {o : Nat} (h : kd o ≠ 50) : o < 127 := by
  rcases Nat.lt_or_ge o 127 with q | q
  · exact q
  · exact absurd (by unfold kd; rw [List.getD_eq_getElem?_getD, List.getElem?_eq_none (show kdt.length ≤ o from q)]; rfl) h
theorem kd_fl : ∀ o, o < 127 → kd o < 9 → ∀ j, j < (fl (kd o)).length → ∀ q, (fl (kd o))[j]? = some (some q) → kd (o + q.2) = q.1 ∧ o + q.2 < 127 := by
  have h : (List.range 127).all (fun o => (fl (kd o)).all (fun x => match x with | some q => decide (kd (o + q.2) = q.1) && decide (o + q.2 < 127) | none => true)) = true := by decide +kernel
  intro o ho _ j hj q hq
  have h1 := List.all_eq_true.mp (List.all_eq_true.mp h o (List.mem_range.mpr ho)) _ (List.mem_of_getElem? hq)
  simp only [Bool.and_eq_true, decide_eq_true_eq] at h1
  exact h1
theorem kd_el : ∀ o, o < 127 → ∀ n k2 dl s, elm (kd o) = some (n, k2, dl, s) → ∀ i, i < n → kd (o + dl + s * i) = k2 ∧ o + dl + s * i < 127 := by
  have h : (List.range 127).all (fun o => match elm (kd o) with | some (n, k2, dl, s) => (List.range n).all (fun i => decide (kd (o + dl + s * i) = k2) && decide (o + dl + s * i < 127)) | none => true) = true := by decide +kernel
  intro o ho n k2 dl s he i hi
  have h1 := List.all_eq_true.mp h o (List.mem_range.mpr ho)
  rw [he] at h1
  have h2 := List.all_eq_true.mp h1 i (List.mem_range.mpr hi)
  simp only [Bool.and_eq_true, decide_eq_true_eq] at h2
  exact h2
def FLl : List (Nat × Nat × Nat × Nat × Nat × Nat) := [(7, 10, 7, 0, 390, 0), (7, 16, 7, 1, 391, 0), (7, 19, 7, 2, 392, 0), (7, 25, 7, 3, 393, 0), (7, 32, 7, 4, 394, 0), (7, 38, 7, 5, 395, 0), (7, 42, 7, 6, 396, 0), (7, 55, 6, 5, 264, 1), (7, 59, 6, 0, 254, 1), (7, 80, 5, 2, 149, 1), (7, 83, 5, 6, 158, 1), (7, 86, 5, 7, 161, 1), (7, 92, 5, 3, 152, 1), (7, 99, 5, 0, 143, 1), (7, 102, 5, 1, 146, 1), (7, 105, 6, 6, 266, 1), (7, 108, 6, 1, 256, 1), (7, 125, 2, 0, 196, 1), (7, 131, 2, 5, 210, 1), (7, 140, 6, 11, 276, 1), (7, 143, 6, 12, 278, 1), (7, 146, 6, 7, 268, 1), (7, 149, 6, 3, 260, 1), (7, 160, 6, 2, 258, 1), (7, 164, 1, 0, 317, 1), (7, 167, 1, 2, 320, 1), (7, 176, 0, 3, 243, 1), (7, 184, 6, 13, 280, 1), (7, 194, 6, 10, 274, 1), (7, 197, 2, 7, 215, 1), (7, 200, 2, 2, 202, 1), (7, 221, 6, 9, 272, 1), (7, 224, 2, 4, 207, 1), (7, 247, 2, 1, 199, 1), (7, 254, 4, 5, 354, 1), (7, 257, 4, 1, 349, 1), (7, 260, 4, 0, 347, 1), (7, 271, 3, 2, 382, 1), (7, 273, 3, 1, 379, 1), (7, 279, 3, 0, 377, 1), (7, 292, 7, 7, 397, 0), (7, 295, 6, 8, 270, 1), (7, 298, 6, 4, 262, 1), (7, 304, 5, 9, 166, 1), (0, 9, 0, 0, 238, 0), (0, 15, 0, 1, 239, 0), (0, 24, 0, 2, 240, 0), (0, 34, 0, 3, 241, 0), (1, 9, 1, 0, 316, 0), (1, 15, 1, 1, 318, 0), (1, 18, 1, 2, 319, 0), (1, 22, 1, 3, 321, 0), (1, 25, 1, 4, 322, 0), (1, 28, 1, 5, 323, 0), (1, 31, 1, 6, 324, 0), (2, 9, 2, 0, 194, 0), (2, 15, 2, 1, 197, 0), (2, 18, 2, 2, 200, 0), (2, 21, 2, 3, 203, 0), (2, 24, 2, 4, 205, 0), (2, 27, 2, 5, 208, 0), (2, 30, 2, 6, 211, 0), (2, 33, 2, 7, 213, 0), (3, 9, 3, 0, 375, 0), (3, 15, 3, 1, 378, 0), (3, 19, 3, 2, 380, 0), (4, 9, 4, 0, 346, 0), (4, 15, 4, 2, 350, 0), (4, 19, 4, 3, 351, 0), (4, 22, 4, 4, 352, 0), (4, 25, 4, 1, 348, 0), (4, 28, 4, 5, 353, 0), (5, 9, 5, 0, 142, 0), (5, 15, 5, 1, 145, 0), (5, 18, 5, 9, 164, 0), (5, 22, 5, 2, 148, 0), (5, 25, 5, 3, 151, 0), (5, 28, 5, 4, 153, 0), (5, 31, 5, 5, 155, 0), (5, 34, 5, 6, 157, 0), (5, 37, 5, 7, 160, 0), (5, 40, 5, 8, 163, 0), (6, 11, 6, 0, 253, 0), (6, 19, 6, 1, 255, 0), (6, 25, 6, 2, 257, 0), (6, 29, 6, 3, 259, 0), (6, 33, 6, 4, 261, 0), (6, 36, 6, 13, 279, 0), (6, 43, 6, 5, 263, 0), (6, 46, 6, 6, 265, 0), (6, 49, 6, 7, 267, 0), (6, 52, 6, 8, 269, 0), (6, 55, 6, 9, 271, 0), (6, 58, 6, 10, 273, 0), (6, 61, 6, 11, 275, 0), (6, 64, 6, 12, 277, 0), (6, 91, 2, 4, 206, 1), (6, 97, 5, 6, 159, 1), (6, 115, 2, 7, 214, 1), (6, 119, 2, 3, 204, 1), (6, 128, 2, 2, 201, 1), (6, 134, 2, 5, 209, 1), (6, 144, 5, 2, 150, 1), (6, 147, 2, 0, 195, 1), (6, 150, 2, 1, 198, 1), (6, 153, 5, 7, 162, 1), (6, 156, 5, 5, 156, 1), (6, 167, 0, 3, 242, 1), (6, 174, 5, 1, 147, 1), (6, 177, 5, 4, 154, 1), (6, 180, 5, 0, 144, 1), (6, 190, 5, 9, 165, 1), (6, 198, 2, 6, 212, 1), (6, 201, 3, 2, 381, 1), (6, 206, 3, 0, 376, 1), (8, 7, 8, 0, 956, 0), (8, 13, 8, 1, 957, 0), (8, 16, 8, 2, 958, 0), (8, 19, 8, 4, 960, 0), (8, 22, 8, 9, 965, 0), (8, 25, 8, 10, 966, 0), (8, 28, 8, 11, 967, 0), (8, 31, 8, 12, 968, 0), (8, 34, 8, 13, 969, 0), (8, 37, 8, 14, 970, 0), (8, 40, 8, 18, 974, 0), (8, 43, 8, 19, 975, 0), (8, 46, 8, 20, 976, 0), (8, 49, 8, 21, 977, 0), (8, 97, 8, 5, 961, 0), (8, 101, 8, 8, 964, 0), (8, 104, 8, 7, 963, 0), (8, 131, 8, 6, 962, 0), (8, 212, 8, 15, 971, 0), (8, 215, 8, 16, 972, 0), (8, 239, 8, 17, 973, 0), (8, 257, 8, 3, 959, 0)]
def FLc (q : Nat × Nat × Nat × Nat × Nat × Nat) : Cond := if q.2.2.2.2.2 = 1 then .fieldLinkNest (cn q.1) q.2.1 (TT q.2.2.1 q.2.2.2.1).1 (TT q.2.2.1 q.2.2.2.1).2.1 (TT q.2.2.1 q.2.2.2.1).2.2.1 "TakenUp" else .fieldLink (cn q.1) q.2.1 (TT q.2.2.1 q.2.2.2.1).1 (TT q.2.2.1 q.2.2.2.1).2.1 (TT q.2.2.1 q.2.2.2.1).2.2.1
theorem FL_all : FLl.all (fun q => decide (lw_tbl[q.2.2.2.2.1]? = some (FLc q))) = true := by decide +kernel
def FLb (ci idx k j : Nat) : Bool := FLl.any (fun q => q.1 == ci && (q.2.1 == idx && (q.2.2.1 == k && q.2.2.2.1 == j)))
theorem FL_get {ci idx k j : Nat} (h : FLb ci idx k j = true) : Cond.fieldLink (cn ci) idx (TT k j).1 (TT k j).2.1 (TT k j).2.2.1 ∈ lw_tbl ∨ Cond.fieldLinkNest (cn ci) idx (TT k j).1 (TT k j).2.1 (TT k j).2.2.1 "TakenUp" ∈ lw_tbl := by
  obtain ⟨q, hq, h1⟩ := List.any_eq_true.mp h
  simp only [Bool.and_eq_true, beq_iff_eq] at h1
  obtain ⟨e1, e2, e3, e4⟩ := h1
  have h2 := List.mem_of_getElem? (of_decide_eq_true (List.all_eq_true.mp FL_all q hq))
  unfold FLc at h2
  rw [e1, e2, e3, e4] at h2
  by_cases hn : q.2.2.2.2.2 = 1
  · rw [if_pos hn] at h2; exact Or.inr h2
  · rw [if_neg hn] at h2; exact Or.inl h2
def yys : List MethodName := [⟨"TakenUp$Law", "take", "([II)V"⟩,
  ⟨"TakenUp$Law", "takeOver", "(LTakenUp$Law;)V"⟩,
  ⟨"TakenUp$Law", "workOut", "(IIII)I"⟩,
  ⟨"TakenUp$Law", "named", "(IIIII)I"⟩,
  ⟨"TakenUp$Law", "join", "(III)I"⟩,
  ⟨"TakenUp$Reader", "read", "([IILjava/lang/String;)I"⟩,
  ⟨"TakenUp$Reader", "takes", "(ILjava/lang/String;)Z"⟩,
  ⟨"TakenUp$Reader", "takesDigit", "(I)Z"⟩,
  ⟨"TakenUp$Reader", "takesOpening", "(I)Z"⟩,
  ⟨"TakenUp$Reader", "takesClosing", "()Z"⟩,
  ⟨"TakenUp$Reader", "takesSign", "(I)Z"⟩,
  ⟨"TakenUp$Reader", "closeFrom", "(I)V"⟩,
  ⟨"TakenUp$Reader", "pendingLevel", "()I"⟩,
  ⟨"TakenUp$Reader", "push", "(I)V"⟩,
  ⟨"TakenUp$Reader", "emit", "(I)V"⟩,
  ⟨"TakenUp$Reader", "levelOf", "(I)I"⟩,
  ⟨"TakenUp$Rest", "begin", "(IIII)V"⟩,
  ⟨"TakenUp$Rest", "takeOver", "(LTakenUp$Rest;)V"⟩,
  ⟨"TakenUp$Rest", "value", "(I)I"⟩,
  ⟨"TakenUp$Rest", "set", "(II)V"⟩,
  ⟨"TakenUp$Rest", "isAsked", "()Z"⟩,
  ⟨"TakenUp$Rest", "isAheadOf", "(I)Z"⟩,
  ⟨"TakenUp$Sheet", "begin", "(II)V"⟩,
  ⟨"TakenUp$Sheet", "isMissing", "()Z"⟩,
  ⟨"TakenUp$Sheet", "hasRow", "(II)Z"⟩,
  ⟨"TakenUp$Sheet", "set", "(II)V"⟩,
  ⟨"TakenUp$Speaker", "speak", "(IIIII)I"⟩,
  ⟨"TakenUp$Speaker", "say", "(IIII)I"⟩,
  ⟨"TakenUp$Speaker", "begin", "(I)V"⟩,
  ⟨"TakenUp$Speaker", "run", "(IIII)I"⟩,
  ⟨"TakenUp$Speaker", "partAndAsk", "(III)I"⟩,
  ⟨"TakenUp$Speaker", "part", "(I)I"⟩,
  ⟨"TakenUp$Worker", "begin", "(I)V"⟩,
  ⟨"TakenUp$Worker", "takeOver", "(LTakenUp$Worker;)V"⟩,
  ⟨"TakenUp$Worker", "value", "(I)I"⟩,
  ⟨"TakenUp$Worker", "addStep", "(II)V"⟩,
  ⟨"TakenUp$Worker", "isAtStep", "()Z"⟩,
  ⟨"TakenUp$Worker", "leave", "(II)V"⟩,
  ⟨"TakenUp$Worker", "work", "(II)V"⟩,
  ⟨"TakenUp$World", "takeOver", "(LTakenUp$World;)V"⟩,
  ⟨"TakenUp$World", "hasWorker", "(I)Z"⟩,
  ⟨"TakenUp$World", "hasRest", "(I)Z"⟩,
  ⟨"TakenUp$World", "countAhead", "(I)I"⟩,
  ⟨"TakenUp$World", "passMinute", "(I)V"⟩,
  ⟨"TakenUp$World", "comeUp", "(LTakenUp$Rest;)V"⟩,
  ⟨"TakenUp$World", "keeps", "(LTakenUp$Rest;)I"⟩,
  ⟨"TakenUp$World", "leaves", "(IIII)I"⟩,
  ⟨"TakenUp$World", "goes", "(LTakenUp$Worker;)I"⟩,
  ⟨"TakenUp$World", "goAhead", "(II)V"⟩,
  ⟨"TakenUp$World", "end", "(II)I"⟩,
  ⟨"TakenUp$World", "draw", "()I"⟩,
  ⟨"TakenUp$World", "wander", "()V"⟩,
  ⟨"TakenUp$World", "choose", "(II)J"⟩,
  ⟨"TakenUp$World", "offBy", "(LTakenUp$Sheet;I)I"⟩,
  ⟨"TakenUp", "worker", "(I)I"⟩,
  ⟨"TakenUp", "workerIs", "(II)I"⟩,
  ⟨"TakenUp", "setWorker", "(III)I"⟩,
  ⟨"TakenUp", "step", "(III)I"⟩,
  ⟨"TakenUp", "stepIs", "(III)I"⟩,
  ⟨"TakenUp", "rest", "(IIII)I"⟩,
  ⟨"TakenUp", "restIs", "(II)I"⟩,
  ⟨"TakenUp", "as", "(II)I"⟩,
  ⟨"TakenUp", "setRest", "(III)I"⟩,
  ⟨"TakenUp", "quiet", "(II)I"⟩,
  ⟨"TakenUp", "feed", "(JI)I"⟩,
  ⟨"TakenUp", "text", "(I)I"⟩,
  ⟨"TakenUp", "untell", "(I)I"⟩,
  ⟨"TakenUp", "minutes", "(I)I"⟩,
  ⟨"TakenUp", "loose", "(I)I"⟩,
  ⟨"TakenUp", "seed", "(I)I"⟩,
  ⟨"TakenUp", "then", "(III)I"⟩,
  ⟨"TakenUp", "waits", "(I)I"⟩,
  ⟨"TakenUp", "cost", "(II)I"⟩,
  ⟨"TakenUp", "refuse", "(II)I"⟩,
  ⟨"TakenUp", "best", "(II)I"⟩,
  ⟨"TakenUp", "heap", "(I)I"⟩,
  ⟨"TakenUp", "odds", "(IIII)J"⟩,
  ⟨"TakenUp", "voice", "(III)I"⟩,
  ⟨"TakenUp", "body", "(I)I"⟩,
  ⟨"TakenUp", "sheet", "(III)I"⟩,
  ⟨"TakenUp", "put", "(III)I"⟩,
  ⟨"TakenUp", "move", "(IIIII)I"⟩,
  ⟨"TakenUp", "steps", "(II)I"⟩,
  ⟨"TakenUp", "off", "(II)I"⟩,
  ⟨"TakenUp", "fits", "(II)I"⟩,
  ⟨"TakenUp", "image", "()I"⟩,
  ⟨"TakenUp", "restore", "()I"⟩,
  ⟨"TakenUp", "tell", "(I)I"⟩,
  ⟨"TakenUp", "check", "()I"⟩,
  ⟨"TakenUp", "count", "(I)I"⟩,
  ⟨"TakenUp", "told", "(I)I"⟩,
  ⟨"TakenUp", "error", "(I)I"⟩,
  ⟨"TakenUp", "goBy", "(IZ)I"⟩,
  ⟨"TakenUp", "ahead", "()LTakenUp$World;"⟩,
  ⟨"TakenUp", "aheadWithout", "(I)LTakenUp$World;"⟩,
  ⟨"TakenUp", "hasSheet", "(I)Z"⟩,
  ⟨"TakenUp", "within", "(III)Z"⟩,
  ⟨"TakenUp", "hold", "(III)I"⟩,
  ⟨"TakenUp", "quotient", "(II)I"⟩,
  ⟨"TakenUp", "isSooner", "(II)Z"⟩,
  ⟨"TakenUp", "isUnder", "(II)Z"⟩,
  ⟨"TakenUp", "mayBeStep", "(II)Z"⟩,
  ⟨"TakenUp", "mayBeOfWorker", "(II)Z"⟩,
  ⟨"TakenUp", "mayBeOfRest", "(II)Z"⟩,
  ⟨"TakenUp", "lowestTerms", "(JII)J"⟩,
  ⟨"TakenUpModel", "error", "(I)I"⟩,
  ⟨"TakenUpModel", "in", "(III)Z"⟩,
  ⟨"TakenUpModel", "held", "(III)I"⟩,
  ⟨"TakenUpModel", "carry", "([I[I)V"⟩,
  ⟨"TakenUpModel", "isWorker", "(I)Z"⟩,
  ⟨"TakenUpModel", "isRest", "(I)Z"⟩,
  ⟨"TakenUpModel", "its", "(II)I"⟩,
  ⟨"TakenUpModel", "lays1", "(III)V"⟩,
  ⟨"TakenUpModel", "of", "(II)I"⟩,
  ⟨"TakenUpModel", "has", "(I)Z"⟩,
  ⟨"TakenUpModel", "worker", "(I)I"⟩,
  ⟨"TakenUpModel", "workerIs", "(II)I"⟩,
  ⟨"TakenUpModel", "setWorker", "(III)I"⟩,
  ⟨"TakenUpModel", "isStep", "(II)Z"⟩,
  ⟨"TakenUpModel", "addStep", "(III)V"⟩,
  ⟨"TakenUpModel", "step", "(III)I"⟩,
  ⟨"TakenUpModel", "stepIs", "(III)I"⟩,
  ⟨"TakenUpModel", "rest", "(IIII)I"⟩,
  ⟨"TakenUpModel", "restIs", "(II)I"⟩,
  ⟨"TakenUpModel", "isUnder", "(II)Z"⟩,
  ⟨"TakenUpModel", "as", "(II)I"⟩,
  ⟨"TakenUpModel", "most", "(I)I"⟩,
  ⟨"TakenUpModel", "setRest", "(III)I"⟩,
  ⟨"TakenUpModel", "quiet", "(II)I"⟩,
  ⟨"TakenUpModel", "feed", "(JI)I"⟩,
  ⟨"TakenUpModel", "look", "()I"⟩,
  ⟨"TakenUpModel", "isName", "(I)Z"⟩,
  ⟨"TakenUpModel", "lays", "(II)V"⟩,
  ⟨"TakenUpModel", "whole", "()Z"⟩,
  ⟨"TakenUpModel", "both", "()Z"⟩,
  ⟨"TakenUpModel", "compared", "()Z"⟩,
  ⟨"TakenUpModel", "sum", "()Z"⟩,
  ⟨"TakenUpModel", "product", "()Z"⟩,
  ⟨"TakenUpModel", "opens", "()Z"⟩,
  ⟨"TakenUpModel", "one", "()Z"⟩,
  ⟨"TakenUpModel", "hasText", "(I)Z"⟩,
  ⟨"TakenUpModel", "text", "(I)I"⟩,
  ⟨"TakenUpModel", "untell", "(I)I"⟩,
  ⟨"TakenUpModel", "joined", "(III)I"⟩,
  ⟨"TakenUpModel", "worked", "(I)I"⟩,
  ⟨"TakenUpModel", "leaves", "(I)I"⟩,
  ⟨"TakenUpModel", "keeps", "(I)I"⟩,
  ⟨"TakenUpModel", "goes", "(I)I"⟩,
  ⟨"TakenUpModel", "sinks", "(II)V"⟩,
  ⟨"TakenUpModel", "isQuiet", "(I)Z"⟩,
  ⟨"TakenUpModel", "comes", "(I)V"⟩,
  ⟨"TakenUpModel", "works", "(I)V"⟩,
  ⟨"TakenUpModel", "minute", "()V"⟩,
  ⟨"TakenUpModel", "go", "(I)V"⟩,
  ⟨"TakenUpModel", "minutes", "(I)I"⟩,
  ⟨"TakenUpModel", "draw", "()I"⟩,
  ⟨"TakenUpModel", "wanders", "(I)V"⟩,
  ⟨"TakenUpModel", "loose", "(I)I"⟩,
  ⟨"TakenUpModel", "seed", "(I)I"⟩,
  ⟨"TakenUpModel", "isAhead", "(I)Z"⟩,
  ⟨"TakenUpModel", "then", "(III)I"⟩,
  ⟨"TakenUpModel", "waitedBy", "(I)I"⟩,
  ⟨"TakenUpModel", "waits", "(I)I"⟩,
  ⟨"TakenUpModel", "endBy", "(II)I"⟩,
  ⟨"TakenUpModel", "endWithout", "(III)I"⟩,
  ⟨"TakenUpModel", "cost", "(II)I"⟩,
  ⟨"TakenUpModel", "refuse", "(II)I"⟩,
  ⟨"TakenUpModel", "best", "(II)I"⟩,
  ⟨"TakenUpModel", "heap", "(I)I"⟩,
  ⟨"TakenUpModel", "open", "()I"⟩,
  ⟨"TakenUpModel", "odds", "(IIII)J"⟩,
  ⟨"TakenUpModel", "begins", "(I)V"⟩,
  ⟨"TakenUpModel", "above", "(I)I"⟩,
  ⟨"TakenUpModel", "kindNow", "()I"⟩,
  ⟨"TakenUpModel", "mNow", "()I"⟩,
  ⟨"TakenUpModel", "breaksBy", "(II)I"⟩,
  ⟨"TakenUpModel", "asksBy", "(II)I"⟩,
  ⟨"TakenUpModel", "holdsBy", "(II)I"⟩,
  ⟨"TakenUpModel", "partsBy", "(II)I"⟩,
  ⟨"TakenUpModel", "voice", "(III)I"⟩,
  ⟨"TakenUpModel", "body", "(I)I"⟩,
  ⟨"TakenUpModel", "isSheet", "(I)Z"⟩,
  ⟨"TakenUpModel", "sheet", "(III)I"⟩,
  ⟨"TakenUpModel", "put", "(III)I"⟩,
  ⟨"TakenUpModel", "move", "(IIIII)I"⟩,
  ⟨"TakenUpModel", "lacks", "(I)I"⟩,
  ⟨"TakenUpModel", "steps", "(II)I"⟩,
  ⟨"TakenUpModel", "offBy", "(II)I"⟩,
  ⟨"TakenUpModel", "off", "(II)I"⟩,
  ⟨"TakenUpModel", "fits", "(II)I"⟩,
  ⟨"TakenUpModel", "image", "()I"⟩,
  ⟨"TakenUpModel", "restore", "()I"⟩,
  ⟨"TakenUpModel", "tell", "(I)I"⟩,
  ⟨"TakenUpModel", "check", "()I"⟩,
  ⟨"TakenUpModel", "count", "(I)I"⟩,
  ⟨"TakenUpModel", "told", "(I)I"⟩,
  ⟨"TakenUpLaw", "law", "([I)Z"⟩]
def yy (m : Nat) : MethodName := yys.getD m ⟨"", "", ""⟩
def ccs : List ByteArray := [prog_2_method_2_code, prog_2_method_3_code, prog_2_method_4_code, prog_2_method_5_code, prog_2_method_6_code, prog_3_method_2_code, prog_3_method_3_code, prog_3_method_4_code, prog_3_method_5_code, prog_3_method_6_code, prog_3_method_7_code, prog_3_method_8_code, prog_3_method_9_code, prog_3_method_10_code, prog_3_method_11_code, prog_3_method_12_code, prog_4_method_2_code, prog_4_method_3_code, prog_4_method_4_code, prog_4_method_5_code, prog_4_method_6_code, prog_4_method_7_code, prog_5_method_2_code, prog_5_method_3_code, prog_5_method_4_code, prog_5_method_5_code, prog_6_method_2_code, prog_6_method_3_code, prog_6_method_4_code, prog_6_method_5_code, prog_6_method_6_code, prog_6_method_7_code, prog_7_method_2_code, prog_7_method_3_code, prog_7_method_4_code, prog_7_method_5_code, prog_7_method_6_code, prog_7_method_7_code, prog_7_method_8_code, prog_8_method_2_code, prog_8_method_3_code, prog_8_method_4_code, prog_8_method_5_code, prog_8_method_6_code, prog_8_method_7_code, prog_8_method_8_code, prog_8_method_9_code, prog_8_method_10_code, prog_8_method_11_code, prog_8_method_12_code, prog_8_method_13_code, prog_8_method_14_code, prog_8_method_15_code, prog_8_method_16_code, prog_1_method_2_code, prog_1_method_3_code, prog_1_method_4_code, prog_1_method_5_code, prog_1_method_6_code, prog_1_method_7_code, prog_1_method_8_code, prog_1_method_9_code, prog_1_method_10_code, prog_1_method_11_code, prog_1_method_12_code, prog_1_method_13_code, prog_1_method_14_code, prog_1_method_15_code, prog_1_method_16_code, prog_1_method_17_code, prog_1_method_18_code, prog_1_method_19_code, prog_1_method_20_code, prog_1_method_21_code, prog_1_method_22_code, prog_1_method_23_code, prog_1_method_24_code, prog_1_method_25_code, prog_1_method_26_code, prog_1_method_27_code, prog_1_method_28_code, prog_1_method_29_code, prog_1_method_30_code, prog_1_method_31_code, prog_1_method_32_code, prog_1_method_33_code, prog_1_method_34_code, prog_1_method_35_code, prog_1_method_36_code, prog_1_method_37_code, prog_1_method_38_code, prog_1_method_39_code, prog_1_method_40_code, prog_1_method_41_code, prog_1_method_42_code, prog_1_method_43_code, prog_1_method_44_code, prog_1_method_45_code, prog_1_method_46_code, prog_1_method_47_code, prog_1_method_48_code, prog_1_method_49_code, prog_1_method_50_code, prog_1_method_51_code, prog_1_method_52_code, prog_10_method_2_code, prog_10_method_3_code, prog_10_method_4_code, prog_10_method_5_code, prog_10_method_6_code, prog_10_method_7_code, prog_10_method_8_code, prog_10_method_9_code, prog_10_method_10_code, prog_10_method_11_code, prog_10_method_12_code, prog_10_method_13_code, prog_10_method_14_code, prog_10_method_15_code, prog_10_method_16_code, prog_10_method_17_code, prog_10_method_18_code, prog_10_method_19_code, prog_10_method_20_code, prog_10_method_21_code, prog_10_method_22_code, prog_10_method_23_code, prog_10_method_24_code, prog_10_method_25_code, prog_10_method_26_code, prog_10_method_27_code, prog_10_method_28_code, prog_10_method_29_code, prog_10_method_30_code, prog_10_method_31_code, prog_10_method_32_code, prog_10_method_33_code, prog_10_method_34_code, prog_10_method_35_code, prog_10_method_36_code, prog_10_method_37_code, prog_10_method_38_code, prog_10_method_39_code, prog_10_method_40_code, prog_10_method_41_code, prog_10_method_42_code, prog_10_method_43_code, prog_10_method_44_code, prog_10_method_45_code, prog_10_method_46_code, prog_10_method_47_code, prog_10_method_48_code, prog_10_method_49_code, prog_10_method_50_code, prog_10_method_51_code, prog_10_method_52_code, prog_10_method_53_code, prog_10_method_54_code, prog_10_method_55_code, prog_10_method_56_code, prog_10_method_57_code, prog_10_method_58_code, prog_10_method_59_code, prog_10_method_60_code, prog_10_method_61_code, prog_10_method_62_code, prog_10_method_63_code, prog_10_method_64_code, prog_10_method_65_code, prog_10_method_66_code, prog_10_method_67_code, prog_10_method_68_code, prog_10_method_69_code, prog_10_method_70_code, prog_10_method_71_code, prog_10_method_72_code, prog_10_method_73_code, prog_10_method_74_code, prog_10_method_75_code, prog_10_method_76_code, prog_10_method_77_code, prog_10_method_78_code, prog_10_method_79_code, prog_10_method_80_code, prog_10_method_81_code, prog_10_method_82_code, prog_10_method_83_code, prog_10_method_84_code, prog_10_method_85_code, prog_10_method_86_code, prog_10_method_87_code, prog_10_method_88_code, prog_10_method_89_code, prog_10_method_90_code, prog_10_method_91_code, prog_10_method_92_code, code]
def cb (m : Nat) : ByteArray := ccs.getD m ⟨#[]⟩
def rts : List (Option FieldType) := [none, none, (some .int), (some .int), (some .int), (some .int), (some .boolean), (some .boolean), (some .boolean), (some .boolean), (some .boolean), none, (some .int), none, none, (some .int), none, none, (some .int), none, (some .boolean), (some .boolean), none, (some .boolean), (some .boolean), none, (some .int), (some .int), none, (some .int), (some .int), (some .int), none, none, (some .int), none, (some .boolean), none, none, none, (some .boolean), (some .boolean), (some .int), none, none, (some .int), (some .int), (some .int), none, (some .int), (some .int), none, (some .long), (some .int), (some .int), (some .int), (some .int), (some .int), (some .int), (some .int), (some .int), (some .int), (some .int), (some .int), (some .int), (some .int), (some .int), (some .int), (some .int), (some .int), (some .int), (some .int), (some .int), (some .int), (some .int), (some .int), (some .long), (some .int), (some .int), (some .int), (some .int), (some .int), (some .int), (some .int), (some .int), (some .int), (some .int), (some .int), (some .int), (some .int), (some .int), (some .int), (some .int), (some (.object "TakenUp$World")), (some (.object "TakenUp$World")), (some .boolean), (some .boolean), (some .int), (some .int), (some .boolean), (some .boolean), (some .boolean), (some .boolean), (some .boolean), (some .long), (some .int), (some .boolean), (some .int), none, (some .boolean), (some .boolean), (some .int), none, (some .int), (some .boolean), (some .int), (some .int), (some .int), (some .boolean), none, (some .int), (some .int), (some .int), (some .int), (some .boolean), (some .int), (some .int), (some .int), (some .int), (some .int), (some .int), (some .boolean), none, (some .boolean), (some .boolean), (some .boolean), (some .boolean), (some .boolean), (some .boolean), (some .boolean), (some .boolean), (some .int), (some .int), (some .int), (some .int), (some .int), (some .int), (some .int), none, (some .boolean), none, none, none, none, (some .int), (some .int), none, (some .int), (some .int), (some .boolean), (some .int), (some .int), (some .int), (some .int), (some .int), (some .int), (some .int), (some .int), (some .int), (some .int), (some .long), none, (some .int), (some .int), (some .int), (some .int), (some .int), (some .int), (some .int), (some .int), (some .int), (some .boolean), (some .int), (some .int), (some .int), (some .int), (some .int), (some .int), (some .int), (some .int), (some .int), (some .int), (some .int), (some .int), (some .int), (some .int), (some .boolean)]
def rt (m : Nat) : Option FieldType := rts.getD m none
def cis : List Nat := [0, 0, 0, 0, 0, 1, 1, 1, 1, 1, 1, 1, 1, 1, 1, 1, 2, 2, 2, 2, 2, 2, 3, 3, 3, 3, 4, 4, 4, 4, 4, 4, 5, 5, 5, 5, 5, 5, 5, 6, 6, 6, 6, 6, 6, 6, 6, 6, 6, 6, 6, 6, 6, 6, 7, 7, 7, 7, 7, 7, 7, 7, 7, 7, 7, 7, 7, 7, 7, 7, 7, 7, 7, 7, 7, 7, 7, 7, 7, 7, 7, 7, 7, 7, 7, 7, 7, 7, 7, 7, 7, 7, 7, 7, 7, 7, 7, 7, 7, 7, 7, 7, 7, 7, 7, 8, 8, 8, 8, 8, 8, 8, 8, 8, 8, 8, 8, 8, 8, 8, 8, 8, 8, 8, 8, 8, 8, 8, 8, 8, 8, 8, 8, 8, 8, 8, 8, 8, 8, 8, 8, 8, 8, 8, 8, 8, 8, 8, 8, 8, 8, 8, 8, 8, 8, 8, 8, 8, 8, 8, 8, 8, 8, 8, 8, 8, 8, 8, 8, 8, 8, 8, 8, 8, 8, 8, 8, 8, 8, 8, 8, 8, 8, 8, 8, 8, 8, 8, 8, 8, 8, 8, 8, 8, 8, 8, 9]
def cix (m : Nat) : Nat := cis.getD m 0
def nas : List Nat := [2, 1, 4, 5, 3, 3, 2, 1, 1, 0, 1, 1, 0, 1, 1, 1, 4, 1, 1, 2, 0, 1, 2, 0, 2, 2, 5, 4, 1, 4, 3, 1, 1, 1, 1, 2, 0, 2, 2, 1, 1, 1, 1, 1, 1, 1, 4, 1, 2, 2, 0, 0, 2, 2, 1, 2, 3, 3, 3, 4, 2, 2, 3, 2, 2, 1, 1, 1, 1, 1, 3, 1, 2, 2, 2, 1, 4, 3, 1, 3, 3, 5, 2, 2, 2, 0, 0, 1, 0, 1, 1, 1, 2, 0, 1, 1, 3, 3, 2, 2, 2, 2, 2, 2, 3, 1, 3, 3, 2, 1, 1, 2, 3, 2, 1, 1, 2, 3, 2, 3, 3, 3, 4, 2, 2, 2, 1, 3, 2, 2, 0, 1, 2, 0, 0, 0, 0, 0, 0, 0, 1, 1, 1, 3, 1, 1, 1, 1, 2, 1, 1, 1, 0, 1, 1, 0, 1, 1, 1, 1, 3, 1, 1, 2, 3, 2, 2, 2, 1, 0, 4, 1, 1, 0, 0, 2, 2, 2, 2, 3, 1, 1, 3, 3, 5, 1, 2, 2, 2, 2, 0, 0, 1, 0, 1, 1, 1]
def na (m : Nat) : Nat := nas.getD m 0
def rks : List Nat := [0, 0, 1, 0, 0, 5, 4, 1, 1, 3, 3, 2, 1, 0, 0, 0, 0, 0, 0, 0, 0, 0, 0, 0, 0, 0, 3, 2, 0, 1, 0, 0, 0, 0, 0, 0, 0, 0, 1, 1, 1, 1, 1, 5, 4, 3, 2, 2, 6, 6, 0, 1, 1, 6, 2, 2, 2, 2, 2, 2, 4, 2, 2, 2, 2, 6, 2, 7, 7, 0, 7, 7, 7, 7, 7, 7, 7, 4, 2, 2, 2, 2, 2, 7, 7, 2, 2, 2, 7, 2, 2, 1, 6, 2, 2, 1, 0, 0, 0, 0, 1, 1, 1, 1, 0, 0, 0, 0, 0, 1, 1, 0, 0, 0, 1, 1, 2, 2, 1, 1, 2, 2, 2, 4, 0, 2, 0, 2, 1, 1, 0, 0, 0, 6, 5, 4, 3, 2, 0, 1, 0, 7, 1, 0, 1, 2, 3, 2, 1, 1, 4, 3, 5, 6, 7, 0, 2, 6, 0, 1, 7, 7, 8, 7, 8, 9, 9, 8, 8, 2, 8, 0, 0, 1, 1, 1, 2, 3, 3, 4, 1, 1, 2, 2, 2, 2, 3, 6, 7, 7, 1, 1, 1, 7, 3, 1, 10]
def rkm (m : Nat) : Nat := rks.getD m 0
def mts : List (Nat × Nat × Nat × Nat × Nat) := [(676, 675, 22, 105, 0), (772, 771, 37, 105, 0), (494, 493, 9, 105, 0), (500, 499, 0, 105, 1), (497, 496, 0, 105, 1), (551, 550, 12, 106, 0), (555, 554, 13, 106, 0), (559, 558, 14, 106, 0), (590, 589, 21, 106, 0), (567, 566, 16, 106, 0), (582, 581, 19, 106, 0), (571, 570, 17, 106, 0), (575, 574, 18, 106, 0), (586, 585, 20, 106, 0), (563, 562, 15, 106, 0), (578, 577, 0, 106, 1), (473, 472, 5, 104, 0), (768, 767, 36, 104, 0), (513, 512, 10, 104, 0), (533, 532, 11, 104, 0), (728, 727, 31, 104, 0), (720, 719, 29, 104, 0), (881, 880, 51, 108, 0), (889, 888, 52, 108, 0), (901, 900, 54, 108, 0), (893, 892, 53, 108, 0), (841, 840, 44, 107, 0), (845, 844, 45, 107, 0), (852, 851, 46, 107, 0), (857, 856, 47, 107, 0), (865, 864, 49, 107, 0), (861, 860, 48, 107, 0), (430, 429, 1, 103, 0), (763, 762, 35, 103, 0), (443, 442, 3, 103, 0), (461, 460, 4, 103, 0), (701, 700, 25, 103, 0), (710, 709, 27, 103, 0), (742, 741, 33, 103, 0), (759, 758, 34, 102, 0), (438, 437, 2, 102, 0), (481, 480, 6, 102, 0), (823, 822, 42, 102, 0), (716, 715, 28, 102, 0), (724, 723, 30, 102, 0), (485, 484, 7, 102, 0), (490, 489, 8, 102, 0), (735, 734, 32, 102, 0), (777, 776, 38, 102, 0), (794, 793, 40, 102, 0), (705, 704, 26, 102, 0), (697, 696, 24, 102, 0), (827, 826, 43, 102, 0), (914, 913, 55, 102, 0), (418, 416, 417, 101, 0), (434, 432, 433, 101, 0), (447, 445, 446, 101, 0), (454, 452, 453, 101, 0), (465, 463, 464, 101, 0), (469, 467, 468, 101, 0), (477, 475, 476, 101, 0), (517, 515, 516, 101, 0), (526, 524, 525, 101, 0), (537, 535, 536, 101, 0), (541, 539, 540, 101, 0), (545, 543, 544, 101, 0), (685, 683, 684, 101, 0), (689, 687, 688, 101, 0), (747, 745, 746, 101, 0), (751, 749, 750, 101, 0), (755, 753, 754, 101, 0), (782, 780, 781, 101, 0), (786, 784, 785, 101, 0), (802, 800, 801, 101, 0), (810, 808, 809, 101, 0), (814, 812, 813, 101, 0), (819, 817, 818, 101, 0), (837, 835, 836, 101, 0), (869, 867, 868, 101, 0), (873, 871, 872, 101, 0), (885, 883, 884, 101, 0), (897, 895, 896, 101, 0), (906, 904, 905, 101, 0), (910, 908, 909, 101, 0), (925, 923, 924, 101, 0), (929, 927, 928, 101, 0), (933, 931, 932, 101, 0), (937, 935, 936, 101, 0), (941, 939, 940, 101, 0), (945, 943, 944, 101, 0), (949, 947, 948, 101, 0), (425, 424, 0, 101, 0), (693, 692, 23, 101, 0), (790, 789, 39, 101, 0), (798, 797, 41, 101, 0), (877, 876, 50, 101, 0), (421, 420, 0, 101, 1), (503, 502, 0, 101, 1), (738, 737, 0, 101, 1), (806, 805, 0, 101, 1), (520, 519, 0, 101, 1), (457, 456, 0, 101, 1), (450, 449, 0, 101, 1), (529, 528, 0, 101, 1), (830, 829, 0, 101, 1), (1033, 1032, 56, 109, 0), (1029, 1028, 0, 109, 1), (1107, 1106, 0, 109, 1), (1242, 1241, 0, 109, 1), (1046, 1045, 58, 109, 0), (1081, 1080, 61, 109, 0), (1050, 1049, 59, 109, 0), (1038, 1037, 57, 109, 0), (1089, 1088, 63, 109, 0), (1194, 1193, 79, 109, 0), (1026, 1024, 1025, 109, 0), (1042, 1040, 1041, 109, 0), (1054, 1052, 1053, 109, 0), (1061, 1060, 0, 109, 1), (1065, 1064, 60, 109, 0), (1058, 1056, 1057, 109, 0), (1069, 1067, 1068, 109, 0), (1073, 1071, 1072, 109, 0), (1077, 1075, 1076, 109, 0), (1114, 1113, 0, 109, 1), (1111, 1109, 1110, 109, 0), (1121, 1120, 0, 109, 1), (1118, 1116, 1117, 109, 0), (1125, 1123, 1124, 109, 0), (1129, 1127, 1128, 109, 0), (1162, 1161, 73, 109, 0), (1166, 1165, 74, 109, 0), (1170, 1169, 75, 109, 0), (1138, 1137, 67, 109, 0), (1142, 1141, 68, 109, 0), (1146, 1145, 69, 109, 0), (1150, 1149, 70, 109, 0), (1154, 1153, 71, 109, 0), (1174, 1173, 76, 109, 0), (1158, 1157, 72, 109, 0), (1097, 1096, 65, 109, 0), (1134, 1132, 1133, 109, 0), (1178, 1176, 1177, 109, 0), (1104, 1103, 0, 109, 1), (1101, 1100, 66, 109, 0), (1093, 1092, 64, 109, 0), (1085, 1084, 62, 109, 0), (1215, 1214, 84, 109, 0), (1206, 1205, 82, 109, 0), (1198, 1197, 80, 109, 0), (1202, 1201, 81, 109, 0), (1211, 1210, 83, 109, 0), (1190, 1189, 78, 109, 0), (1186, 1185, 77, 109, 0), (1182, 1180, 1181, 109, 0), (1227, 1226, 86, 109, 0), (1223, 1222, 85, 109, 0), (1219, 1217, 1218, 109, 0), (1232, 1230, 1231, 109, 0), (1239, 1238, 0, 109, 1), (1236, 1234, 1235, 109, 0), (1250, 1249, 87, 109, 0), (1246, 1244, 1245, 109, 0), (1258, 1257, 88, 109, 0), (1262, 1261, 89, 109, 0), (1254, 1252, 1253, 109, 0), (1266, 1264, 1265, 109, 0), (1270, 1268, 1269, 109, 0), (1274, 1272, 1273, 109, 0), (1282, 1281, 90, 109, 0), (1278, 1276, 1277, 109, 0), (1299, 1298, 93, 109, 0), (1302, 1301, 0, 109, 1), (1291, 1290, 91, 109, 0), (1310, 1309, 95, 109, 0), (1295, 1294, 92, 109, 0), (1306, 1305, 94, 109, 0), (1314, 1313, 96, 109, 0), (1318, 1317, 97, 109, 0), (1287, 1285, 1286, 109, 0), (1322, 1320, 1321, 109, 0), (1329, 1328, 0, 109, 1), (1326, 1324, 1325, 109, 0), (1333, 1331, 1332, 109, 0), (1337, 1335, 1336, 109, 0), (1345, 1344, 98, 109, 0), (1341, 1339, 1340, 109, 0), (1353, 1352, 99, 109, 0), (1349, 1347, 1348, 109, 0), (1358, 1356, 1357, 109, 0), (1362, 1360, 1361, 109, 0), (1366, 1364, 1365, 109, 0), (1370, 1368, 1369, 109, 0), (1374, 1372, 1373, 109, 0), (1378, 1376, 1377, 109, 0), (1382, 1380, 1381, 109, 0)]
def isS (m : Nat) : Bool := (mts.getD m (0, 0, 0, 0, 0)).2.2.2.2 == 1
set_option maxRecDepth 100000 in
theorem mc_0 : Cond.code (yy 0) (cb 0) (mxL 0) (rt 0) ∈ lw_tbl := List.mem_append_right _ (List.mem_of_getElem? (i := 576) rfl)
set_option maxRecDepth 100000 in
theorem mc_1 : Cond.code (yy 1) (cb 1) (mxL 1) (rt 1) ∈ lw_tbl := List.mem_append_right _ (List.mem_of_getElem? (i := 672) rfl)
set_option maxRecDepth 100000 in
theorem mc_2 : Cond.code (yy 2) (cb 2) (mxL 2) (rt 2) ∈ lw_tbl := List.mem_append_right _ (List.mem_of_getElem? (i := 394) rfl)
set_option maxRecDepth 100000 in
theorem mc_3 : Cond.code (yy 3) (cb 3) (mxL 3) (rt 3) ∈ lw_tbl := List.mem_append_right _ (List.mem_of_getElem? (i := 400) rfl)
set_option maxRecDepth 100000 in
theorem mc_4 : Cond.code (yy 4) (cb 4) (mxL 4) (rt 4) ∈ lw_tbl := List.mem_append_right _ (List.mem_of_getElem? (i := 397) rfl)
set_option maxRecDepth 100000 in
theorem mc_5 : Cond.code (yy 5) (cb 5) (mxL 5) (rt 5) ∈ lw_tbl := List.mem_append_right _ (List.mem_of_getElem? (i := 451) rfl)
set_option maxRecDepth 100000 in
theorem mc_6 : Cond.code (yy 6) (cb 6) (mxL 6) (rt 6) ∈ lw_tbl := List.mem_append_right _ (List.mem_of_getElem? (i := 455) rfl)
set_option maxRecDepth 100000 in
theorem mc_7 : Cond.code (yy 7) (cb 7) (mxL 7) (rt 7) ∈ lw_tbl := List.mem_append_right _ (List.mem_of_getElem? (i := 459) rfl)
set_option maxRecDepth 100000 in
theorem mc_8 : Cond.code (yy 8) (cb 8) (mxL 8) (rt 8) ∈ lw_tbl := List.mem_append_right _ (List.mem_of_getElem? (i := 490) rfl)
set_option maxRecDepth 100000 in
theorem mc_9 : Cond.code (yy 9) (cb 9) (mxL 9) (rt 9) ∈ lw_tbl := List.mem_append_right _ (List.mem_of_getElem? (i := 467) rfl)
set_option maxRecDepth 100000 in
theorem mc_10 : Cond.code (yy 10) (cb 10) (mxL 10) (rt 10) ∈ lw_tbl := List.mem_append_right _ (List.mem_of_getElem? (i := 482) rfl)
set_option maxRecDepth 100000 in
theorem mc_11 : Cond.code (yy 11) (cb 11) (mxL 11) (rt 11) ∈ lw_tbl := List.mem_append_right _ (List.mem_of_getElem? (i := 471) rfl)
set_option maxRecDepth 100000 in
theorem mc_12 : Cond.code (yy 12) (cb 12) (mxL 12) (rt 12) ∈ lw_tbl := List.mem_append_right _ (List.mem_of_getElem? (i := 475) rfl)
set_option maxRecDepth 100000 in
theorem mc_13 : Cond.code (yy 13) (cb 13) (mxL 13) (rt 13) ∈ lw_tbl := List.mem_append_right _ (List.mem_of_getElem? (i := 486) rfl)
set_option maxRecDepth 100000 in
theorem mc_14 : Cond.code (yy 14) (cb 14) (mxL 14) (rt 14) ∈ lw_tbl := List.mem_append_right _ (List.mem_of_getElem? (i := 463) rfl)
set_option maxRecDepth 100000 in
theorem mc_15 : Cond.code (yy 15) (cb 15) (mxL 15) (rt 15) ∈ lw_tbl := List.mem_append_right _ (List.mem_of_getElem? (i := 478) rfl)
set_option maxRecDepth 100000 in
theorem mc_16 : Cond.code (yy 16) (cb 16) (mxL 16) (rt 16) ∈ lw_tbl := List.mem_append_right _ (List.mem_of_getElem? (i := 373) rfl)
set_option maxRecDepth 100000 in
theorem mc_17 : Cond.code (yy 17) (cb 17) (mxL 17) (rt 17) ∈ lw_tbl := List.mem_append_right _ (List.mem_of_getElem? (i := 668) rfl)
set_option maxRecDepth 100000 in
theorem mc_18 : Cond.code (yy 18) (cb 18) (mxL 18) (rt 18) ∈ lw_tbl := List.mem_append_right _ (List.mem_of_getElem? (i := 413) rfl)
set_option maxRecDepth 100000 in
theorem mc_19 : Cond.code (yy 19) (cb 19) (mxL 19) (rt 19) ∈ lw_tbl := List.mem_append_right _ (List.mem_of_getElem? (i := 433) rfl)
set_option maxRecDepth 100000 in
theorem mc_20 : Cond.code (yy 20) (cb 20) (mxL 20) (rt 20) ∈ lw_tbl := List.mem_append_right _ (List.mem_of_getElem? (i := 628) rfl)
set_option maxRecDepth 100000 in
theorem mc_21 : Cond.code (yy 21) (cb 21) (mxL 21) (rt 21) ∈ lw_tbl := List.mem_append_right _ (List.mem_of_getElem? (i := 620) rfl)
set_option maxRecDepth 100000 in
theorem mc_22 : Cond.code (yy 22) (cb 22) (mxL 22) (rt 22) ∈ lw_tbl := List.mem_append_right _ (List.mem_of_getElem? (i := 781) rfl)
set_option maxRecDepth 100000 in
theorem mc_23 : Cond.code (yy 23) (cb 23) (mxL 23) (rt 23) ∈ lw_tbl := List.mem_append_right _ (List.mem_of_getElem? (i := 789) rfl)
set_option maxRecDepth 100000 in
theorem mc_24 : Cond.code (yy 24) (cb 24) (mxL 24) (rt 24) ∈ lw_tbl := List.mem_append_right _ (List.mem_of_getElem? (i := 801) rfl)
set_option maxRecDepth 100000 in
theorem mc_25 : Cond.code (yy 25) (cb 25) (mxL 25) (rt 25) ∈ lw_tbl := List.mem_append_right _ (List.mem_of_getElem? (i := 793) rfl)
set_option maxRecDepth 100000 in
theorem mc_26 : Cond.code (yy 26) (cb 26) (mxL 26) (rt 26) ∈ lw_tbl := List.mem_append_right _ (List.mem_of_getElem? (i := 741) rfl)
set_option maxRecDepth 100000 in
theorem mc_27 : Cond.code (yy 27) (cb 27) (mxL 27) (rt 27) ∈ lw_tbl := List.mem_append_right _ (List.mem_of_getElem? (i := 745) rfl)
set_option maxRecDepth 100000 in
theorem mc_28 : Cond.code (yy 28) (cb 28) (mxL 28) (rt 28) ∈ lw_tbl := List.mem_append_right _ (List.mem_of_getElem? (i := 752) rfl)
set_option maxRecDepth 100000 in
theorem mc_29 : Cond.code (yy 29) (cb 29) (mxL 29) (rt 29) ∈ lw_tbl := List.mem_append_right _ (List.mem_of_getElem? (i := 757) rfl)
set_option maxRecDepth 100000 in
theorem mc_30 : Cond.code (yy 30) (cb 30) (mxL 30) (rt 30) ∈ lw_tbl := List.mem_append_right _ (List.mem_of_getElem? (i := 765) rfl)
set_option maxRecDepth 100000 in
theorem mc_31 : Cond.code (yy 31) (cb 31) (mxL 31) (rt 31) ∈ lw_tbl := List.mem_append_right _ (List.mem_of_getElem? (i := 761) rfl)
set_option maxRecDepth 100000 in
theorem mc_32 : Cond.code (yy 32) (cb 32) (mxL 32) (rt 32) ∈ lw_tbl := List.mem_append_right _ (List.mem_of_getElem? (i := 330) rfl)
set_option maxRecDepth 100000 in
theorem mc_33 : Cond.code (yy 33) (cb 33) (mxL 33) (rt 33) ∈ lw_tbl := List.mem_append_right _ (List.mem_of_getElem? (i := 663) rfl)
set_option maxRecDepth 100000 in
theorem mc_34 : Cond.code (yy 34) (cb 34) (mxL 34) (rt 34) ∈ lw_tbl := List.mem_append_right _ (List.mem_of_getElem? (i := 343) rfl)
set_option maxRecDepth 100000 in
theorem mc_35 : Cond.code (yy 35) (cb 35) (mxL 35) (rt 35) ∈ lw_tbl := List.mem_append_right _ (List.mem_of_getElem? (i := 361) rfl)
set_option maxRecDepth 100000 in
theorem mc_36 : Cond.code (yy 36) (cb 36) (mxL 36) (rt 36) ∈ lw_tbl := List.mem_append_right _ (List.mem_of_getElem? (i := 601) rfl)
set_option maxRecDepth 100000 in
theorem mc_37 : Cond.code (yy 37) (cb 37) (mxL 37) (rt 37) ∈ lw_tbl := List.mem_append_right _ (List.mem_of_getElem? (i := 610) rfl)
set_option maxRecDepth 100000 in
theorem mc_38 : Cond.code (yy 38) (cb 38) (mxL 38) (rt 38) ∈ lw_tbl := List.mem_append_right _ (List.mem_of_getElem? (i := 642) rfl)
set_option maxRecDepth 100000 in
theorem mc_39 : Cond.code (yy 39) (cb 39) (mxL 39) (rt 39) ∈ lw_tbl := List.mem_append_right _ (List.mem_of_getElem? (i := 659) rfl)
set_option maxRecDepth 100000 in
theorem mc_40 : Cond.code (yy 40) (cb 40) (mxL 40) (rt 40) ∈ lw_tbl := List.mem_append_right _ (List.mem_of_getElem? (i := 338) rfl)
set_option maxRecDepth 100000 in
theorem mc_41 : Cond.code (yy 41) (cb 41) (mxL 41) (rt 41) ∈ lw_tbl := List.mem_append_right _ (List.mem_of_getElem? (i := 381) rfl)
set_option maxRecDepth 100000 in
theorem mc_42 : Cond.code (yy 42) (cb 42) (mxL 42) (rt 42) ∈ lw_tbl := List.mem_append_right _ (List.mem_of_getElem? (i := 723) rfl)
set_option maxRecDepth 100000 in
theorem mc_43 : Cond.code (yy 43) (cb 43) (mxL 43) (rt 43) ∈ lw_tbl := List.mem_append_right _ (List.mem_of_getElem? (i := 616) rfl)
set_option maxRecDepth 100000 in
theorem mc_44 : Cond.code (yy 44) (cb 44) (mxL 44) (rt 44) ∈ lw_tbl := List.mem_append_right _ (List.mem_of_getElem? (i := 624) rfl)
set_option maxRecDepth 100000 in
theorem mc_45 : Cond.code (yy 45) (cb 45) (mxL 45) (rt 45) ∈ lw_tbl := List.mem_append_right _ (List.mem_of_getElem? (i := 385) rfl)
set_option maxRecDepth 100000 in
theorem mc_46 : Cond.code (yy 46) (cb 46) (mxL 46) (rt 46) ∈ lw_tbl := List.mem_append_right _ (List.mem_of_getElem? (i := 390) rfl)
set_option maxRecDepth 100000 in
theorem mc_47 : Cond.code (yy 47) (cb 47) (mxL 47) (rt 47) ∈ lw_tbl := List.mem_append_right _ (List.mem_of_getElem? (i := 635) rfl)
set_option maxRecDepth 100000 in
theorem mc_48 : Cond.code (yy 48) (cb 48) (mxL 48) (rt 48) ∈ lw_tbl := List.mem_append_right _ (List.mem_of_getElem? (i := 677) rfl)
set_option maxRecDepth 100000 in
theorem mc_49 : Cond.code (yy 49) (cb 49) (mxL 49) (rt 49) ∈ lw_tbl := List.mem_append_right _ (List.mem_of_getElem? (i := 694) rfl)
set_option maxRecDepth 100000 in
theorem mc_50 : Cond.code (yy 50) (cb 50) (mxL 50) (rt 50) ∈ lw_tbl := List.mem_append_right _ (List.mem_of_getElem? (i := 605) rfl)
set_option maxRecDepth 100000 in
theorem mc_51 : Cond.code (yy 51) (cb 51) (mxL 51) (rt 51) ∈ lw_tbl := List.mem_append_right _ (List.mem_of_getElem? (i := 597) rfl)
set_option maxRecDepth 100000 in
theorem mc_52 : Cond.code (yy 52) (cb 52) (mxL 52) (rt 52) ∈ lw_tbl := List.mem_append_right _ (List.mem_of_getElem? (i := 727) rfl)
set_option maxRecDepth 100000 in
theorem mc_53 : Cond.code (yy 53) (cb 53) (mxL 53) (rt 53) ∈ lw_tbl := List.mem_append_right _ (List.mem_of_getElem? (i := 814) rfl)
set_option maxRecDepth 100000 in
theorem mc_54 : Cond.code (yy 54) (cb 54) (mxL 54) (rt 54) ∈ lw_tbl := List.mem_append_right _ (List.mem_of_getElem? (i := 318) rfl)
set_option maxRecDepth 100000 in
theorem mc_55 : Cond.code (yy 55) (cb 55) (mxL 55) (rt 55) ∈ lw_tbl := List.mem_append_right _ (List.mem_of_getElem? (i := 334) rfl)
set_option maxRecDepth 100000 in
theorem mc_56 : Cond.code (yy 56) (cb 56) (mxL 56) (rt 56) ∈ lw_tbl := List.mem_append_right _ (List.mem_of_getElem? (i := 347) rfl)
set_option maxRecDepth 100000 in
theorem mc_57 : Cond.code (yy 57) (cb 57) (mxL 57) (rt 57) ∈ lw_tbl := List.mem_append_right _ (List.mem_of_getElem? (i := 354) rfl)
set_option maxRecDepth 100000 in
theorem mc_58 : Cond.code (yy 58) (cb 58) (mxL 58) (rt 58) ∈ lw_tbl := List.mem_append_right _ (List.mem_of_getElem? (i := 365) rfl)
set_option maxRecDepth 100000 in
theorem mc_59 : Cond.code (yy 59) (cb 59) (mxL 59) (rt 59) ∈ lw_tbl := List.mem_append_right _ (List.mem_of_getElem? (i := 369) rfl)
set_option maxRecDepth 100000 in
theorem mc_60 : Cond.code (yy 60) (cb 60) (mxL 60) (rt 60) ∈ lw_tbl := List.mem_append_right _ (List.mem_of_getElem? (i := 377) rfl)
set_option maxRecDepth 100000 in
theorem mc_61 : Cond.code (yy 61) (cb 61) (mxL 61) (rt 61) ∈ lw_tbl := List.mem_append_right _ (List.mem_of_getElem? (i := 417) rfl)
set_option maxRecDepth 100000 in
theorem mc_62 : Cond.code (yy 62) (cb 62) (mxL 62) (rt 62) ∈ lw_tbl := List.mem_append_right _ (List.mem_of_getElem? (i := 426) rfl)
set_option maxRecDepth 100000 in
theorem mc_63 : Cond.code (yy 63) (cb 63) (mxL 63) (rt 63) ∈ lw_tbl := List.mem_append_right _ (List.mem_of_getElem? (i := 437) rfl)
set_option maxRecDepth 100000 in
theorem mc_64 : Cond.code (yy 64) (cb 64) (mxL 64) (rt 64) ∈ lw_tbl := List.mem_append_right _ (List.mem_of_getElem? (i := 441) rfl)
set_option maxRecDepth 100000 in
theorem mc_65 : Cond.code (yy 65) (cb 65) (mxL 65) (rt 65) ∈ lw_tbl := List.mem_append_right _ (List.mem_of_getElem? (i := 445) rfl)
set_option maxRecDepth 100000 in
theorem mc_66 : Cond.code (yy 66) (cb 66) (mxL 66) (rt 66) ∈ lw_tbl := List.mem_append_right _ (List.mem_of_getElem? (i := 585) rfl)
set_option maxRecDepth 100000 in
theorem mc_67 : Cond.code (yy 67) (cb 67) (mxL 67) (rt 67) ∈ lw_tbl := List.mem_append_right _ (List.mem_of_getElem? (i := 589) rfl)
set_option maxRecDepth 100000 in
theorem mc_68 : Cond.code (yy 68) (cb 68) (mxL 68) (rt 68) ∈ lw_tbl := List.mem_append_right _ (List.mem_of_getElem? (i := 647) rfl)
set_option maxRecDepth 100000 in
theorem mc_69 : Cond.code (yy 69) (cb 69) (mxL 69) (rt 69) ∈ lw_tbl := List.mem_append_right _ (List.mem_of_getElem? (i := 651) rfl)
set_option maxRecDepth 100000 in
theorem mc_70 : Cond.code (yy 70) (cb 70) (mxL 70) (rt 70) ∈ lw_tbl := List.mem_append_right _ (List.mem_of_getElem? (i := 655) rfl)
set_option maxRecDepth 100000 in
theorem mc_71 : Cond.code (yy 71) (cb 71) (mxL 71) (rt 71) ∈ lw_tbl := List.mem_append_right _ (List.mem_of_getElem? (i := 682) rfl)
set_option maxRecDepth 100000 in
theorem mc_72 : Cond.code (yy 72) (cb 72) (mxL 72) (rt 72) ∈ lw_tbl := List.mem_append_right _ (List.mem_of_getElem? (i := 686) rfl)
set_option maxRecDepth 100000 in
theorem mc_73 : Cond.code (yy 73) (cb 73) (mxL 73) (rt 73) ∈ lw_tbl := List.mem_append_right _ (List.mem_of_getElem? (i := 702) rfl)
set_option maxRecDepth 100000 in
theorem mc_74 : Cond.code (yy 74) (cb 74) (mxL 74) (rt 74) ∈ lw_tbl := List.mem_append_right _ (List.mem_of_getElem? (i := 710) rfl)
set_option maxRecDepth 100000 in
theorem mc_75 : Cond.code (yy 75) (cb 75) (mxL 75) (rt 75) ∈ lw_tbl := List.mem_append_right _ (List.mem_of_getElem? (i := 714) rfl)
set_option maxRecDepth 100000 in
theorem mc_76 : Cond.code (yy 76) (cb 76) (mxL 76) (rt 76) ∈ lw_tbl := List.mem_append_right _ (List.mem_of_getElem? (i := 719) rfl)
set_option maxRecDepth 100000 in
theorem mc_77 : Cond.code (yy 77) (cb 77) (mxL 77) (rt 77) ∈ lw_tbl := List.mem_append_right _ (List.mem_of_getElem? (i := 737) rfl)
set_option maxRecDepth 100000 in
theorem mc_78 : Cond.code (yy 78) (cb 78) (mxL 78) (rt 78) ∈ lw_tbl := List.mem_append_right _ (List.mem_of_getElem? (i := 769) rfl)
set_option maxRecDepth 100000 in
theorem mc_79 : Cond.code (yy 79) (cb 79) (mxL 79) (rt 79) ∈ lw_tbl := List.mem_append_right _ (List.mem_of_getElem? (i := 773) rfl)
set_option maxRecDepth 100000 in
theorem mc_80 : Cond.code (yy 80) (cb 80) (mxL 80) (rt 80) ∈ lw_tbl := List.mem_append_right _ (List.mem_of_getElem? (i := 785) rfl)
set_option maxRecDepth 100000 in
theorem mc_81 : Cond.code (yy 81) (cb 81) (mxL 81) (rt 81) ∈ lw_tbl := List.mem_append_right _ (List.mem_of_getElem? (i := 797) rfl)
set_option maxRecDepth 100000 in
theorem mc_82 : Cond.code (yy 82) (cb 82) (mxL 82) (rt 82) ∈ lw_tbl := List.mem_append_right _ (List.mem_of_getElem? (i := 806) rfl)
set_option maxRecDepth 100000 in
theorem mc_83 : Cond.code (yy 83) (cb 83) (mxL 83) (rt 83) ∈ lw_tbl := List.mem_append_right _ (List.mem_of_getElem? (i := 810) rfl)
set_option maxRecDepth 100000 in
theorem mc_84 : Cond.code (yy 84) (cb 84) (mxL 84) (rt 84) ∈ lw_tbl := List.mem_append_right _ (List.mem_of_getElem? (i := 825) rfl)
set_option maxRecDepth 100000 in
theorem mc_85 : Cond.code (yy 85) (cb 85) (mxL 85) (rt 85) ∈ lw_tbl := List.mem_append_right _ (List.mem_of_getElem? (i := 829) rfl)
set_option maxRecDepth 100000 in
theorem mc_86 : Cond.code (yy 86) (cb 86) (mxL 86) (rt 86) ∈ lw_tbl := List.mem_append_right _ (List.mem_of_getElem? (i := 833) rfl)
set_option maxRecDepth 100000 in
theorem mc_87 : Cond.code (yy 87) (cb 87) (mxL 87) (rt 87) ∈ lw_tbl := List.mem_append_right _ (List.mem_of_getElem? (i := 837) rfl)
set_option maxRecDepth 100000 in
theorem mc_88 : Cond.code (yy 88) (cb 88) (mxL 88) (rt 88) ∈ lw_tbl := List.mem_append_right _ (List.mem_of_getElem? (i := 841) rfl)
set_option maxRecDepth 100000 in
theorem mc_89 : Cond.code (yy 89) (cb 89) (mxL 89) (rt 89) ∈ lw_tbl := List.mem_append_right _ (List.mem_of_getElem? (i := 845) rfl)
set_option maxRecDepth 100000 in
theorem mc_90 : Cond.code (yy 90) (cb 90) (mxL 90) (rt 90) ∈ lw_tbl := List.mem_append_right _ (List.mem_of_getElem? (i := 849) rfl)
set_option maxRecDepth 100000 in
theorem mc_91 : Cond.code (yy 91) (cb 91) (mxL 91) (rt 91) ∈ lw_tbl := List.mem_append_right _ (List.mem_of_getElem? (i := 325) rfl)
set_option maxRecDepth 100000 in
theorem mc_92 : Cond.code (yy 92) (cb 92) (mxL 92) (rt 92) ∈ lw_tbl := List.mem_append_right _ (List.mem_of_getElem? (i := 593) rfl)
set_option maxRecDepth 100000 in
theorem mc_93 : Cond.code (yy 93) (cb 93) (mxL 93) (rt 93) ∈ lw_tbl := List.mem_append_right _ (List.mem_of_getElem? (i := 690) rfl)
set_option maxRecDepth 100000 in
theorem mc_94 : Cond.code (yy 94) (cb 94) (mxL 94) (rt 94) ∈ lw_tbl := List.mem_append_right _ (List.mem_of_getElem? (i := 698) rfl)
set_option maxRecDepth 100000 in
theorem mc_95 : Cond.code (yy 95) (cb 95) (mxL 95) (rt 95) ∈ lw_tbl := List.mem_append_right _ (List.mem_of_getElem? (i := 777) rfl)
set_option maxRecDepth 100000 in
theorem mc_96 : Cond.code (yy 96) (cb 96) (mxL 96) (rt 96) ∈ lw_tbl := List.mem_append_right _ (List.mem_of_getElem? (i := 321) rfl)
set_option maxRecDepth 100000 in
theorem mc_97 : Cond.code (yy 97) (cb 97) (mxL 97) (rt 97) ∈ lw_tbl := List.mem_append_right _ (List.mem_of_getElem? (i := 403) rfl)
set_option maxRecDepth 100000 in
theorem mc_98 : Cond.code (yy 98) (cb 98) (mxL 98) (rt 98) ∈ lw_tbl := List.mem_append_right _ (List.mem_of_getElem? (i := 638) rfl)
set_option maxRecDepth 100000 in
theorem mc_99 : Cond.code (yy 99) (cb 99) (mxL 99) (rt 99) ∈ lw_tbl := List.mem_append_right _ (List.mem_of_getElem? (i := 706) rfl)
set_option maxRecDepth 100000 in
theorem mc_100 : Cond.code (yy 100) (cb 100) (mxL 100) (rt 100) ∈ lw_tbl := List.mem_append_right _ (List.mem_of_getElem? (i := 420) rfl)
set_option maxRecDepth 100000 in
theorem mc_101 : Cond.code (yy 101) (cb 101) (mxL 101) (rt 101) ∈ lw_tbl := List.mem_append_right _ (List.mem_of_getElem? (i := 357) rfl)
set_option maxRecDepth 100000 in
theorem mc_102 : Cond.code (yy 102) (cb 102) (mxL 102) (rt 102) ∈ lw_tbl := List.mem_append_right _ (List.mem_of_getElem? (i := 350) rfl)
set_option maxRecDepth 100000 in
theorem mc_103 : Cond.code (yy 103) (cb 103) (mxL 103) (rt 103) ∈ lw_tbl := List.mem_append_right _ (List.mem_of_getElem? (i := 429) rfl)
set_option maxRecDepth 100000 in
theorem mc_104 : Cond.code (yy 104) (cb 104) (mxL 104) (rt 104) ∈ lw_tbl := List.mem_append_right _ (List.mem_of_getElem? (i := 730) rfl)
set_option maxRecDepth 100000 in
theorem mc_105 : Cond.code (yy 105) (cb 105) (mxL 105) (rt 105) ∈ lw_tbl := List.mem_append_right _ (List.mem_of_getElem? (i := 933) rfl)
set_option maxRecDepth 100000 in
theorem mc_106 : Cond.code (yy 106) (cb 106) (mxL 106) (rt 106) ∈ lw_tbl := List.mem_append_right _ (List.mem_of_getElem? (i := 929) rfl)
set_option maxRecDepth 100000 in
theorem mc_107 : Cond.code (yy 107) (cb 107) (mxL 107) (rt 107) ∈ lw_tbl := List.mem_append_right _ (List.mem_of_getElem? (i := 1007) rfl)
set_option maxRecDepth 100000 in
theorem mc_108 : Cond.code (yy 108) (cb 108) (mxL 108) (rt 108) ∈ lw_tbl := List.mem_append_right _ (List.mem_of_getElem? (i := 1142) rfl)
set_option maxRecDepth 100000 in
theorem mc_109 : Cond.code (yy 109) (cb 109) (mxL 109) (rt 109) ∈ lw_tbl := List.mem_append_right _ (List.mem_of_getElem? (i := 946) rfl)
set_option maxRecDepth 100000 in
theorem mc_110 : Cond.code (yy 110) (cb 110) (mxL 110) (rt 110) ∈ lw_tbl := List.mem_append_right _ (List.mem_of_getElem? (i := 981) rfl)
set_option maxRecDepth 100000 in
theorem mc_111 : Cond.code (yy 111) (cb 111) (mxL 111) (rt 111) ∈ lw_tbl := List.mem_append_right _ (List.mem_of_getElem? (i := 950) rfl)
set_option maxRecDepth 100000 in
theorem mc_112 : Cond.code (yy 112) (cb 112) (mxL 112) (rt 112) ∈ lw_tbl := List.mem_append_right _ (List.mem_of_getElem? (i := 938) rfl)
set_option maxRecDepth 100000 in
theorem mc_113 : Cond.code (yy 113) (cb 113) (mxL 113) (rt 113) ∈ lw_tbl := List.mem_append_right _ (List.mem_of_getElem? (i := 989) rfl)
set_option maxRecDepth 100000 in
theorem mc_114 : Cond.code (yy 114) (cb 114) (mxL 114) (rt 114) ∈ lw_tbl := List.mem_append_right _ (List.mem_of_getElem? (i := 1094) rfl)
set_option maxRecDepth 100000 in
theorem mc_115 : Cond.code (yy 115) (cb 115) (mxL 115) (rt 115) ∈ lw_tbl := List.mem_append_right _ (List.mem_of_getElem? (i := 926) rfl)
set_option maxRecDepth 100000 in
theorem mc_116 : Cond.code (yy 116) (cb 116) (mxL 116) (rt 116) ∈ lw_tbl := List.mem_append_right _ (List.mem_of_getElem? (i := 942) rfl)
set_option maxRecDepth 100000 in
theorem mc_117 : Cond.code (yy 117) (cb 117) (mxL 117) (rt 117) ∈ lw_tbl := List.mem_append_right _ (List.mem_of_getElem? (i := 954) rfl)
set_option maxRecDepth 100000 in
theorem mc_118 : Cond.code (yy 118) (cb 118) (mxL 118) (rt 118) ∈ lw_tbl := List.mem_append_right _ (List.mem_of_getElem? (i := 961) rfl)
set_option maxRecDepth 100000 in
theorem mc_119 : Cond.code (yy 119) (cb 119) (mxL 119) (rt 119) ∈ lw_tbl := List.mem_append_right _ (List.mem_of_getElem? (i := 965) rfl)
set_option maxRecDepth 100000 in
theorem mc_120 : Cond.code (yy 120) (cb 120) (mxL 120) (rt 120) ∈ lw_tbl := List.mem_append_right _ (List.mem_of_getElem? (i := 958) rfl)
set_option maxRecDepth 100000 in
theorem mc_121 : Cond.code (yy 121) (cb 121) (mxL 121) (rt 121) ∈ lw_tbl := List.mem_append_right _ (List.mem_of_getElem? (i := 969) rfl)
set_option maxRecDepth 100000 in
theorem mc_122 : Cond.code (yy 122) (cb 122) (mxL 122) (rt 122) ∈ lw_tbl := List.mem_append_right _ (List.mem_of_getElem? (i := 973) rfl)
set_option maxRecDepth 100000 in
theorem mc_123 : Cond.code (yy 123) (cb 123) (mxL 123) (rt 123) ∈ lw_tbl := List.mem_append_right _ (List.mem_of_getElem? (i := 977) rfl)
set_option maxRecDepth 100000 in
theorem mc_124 : Cond.code (yy 124) (cb 124) (mxL 124) (rt 124) ∈ lw_tbl := List.mem_append_right _ (List.mem_of_getElem? (i := 1014) rfl)
set_option maxRecDepth 100000 in
theorem mc_125 : Cond.code (yy 125) (cb 125) (mxL 125) (rt 125) ∈ lw_tbl := List.mem_append_right _ (List.mem_of_getElem? (i := 1011) rfl)
set_option maxRecDepth 100000 in
theorem mc_126 : Cond.code (yy 126) (cb 126) (mxL 126) (rt 126) ∈ lw_tbl := List.mem_append_right _ (List.mem_of_getElem? (i := 1021) rfl)
set_option maxRecDepth 100000 in
theorem mc_127 : Cond.code (yy 127) (cb 127) (mxL 127) (rt 127) ∈ lw_tbl := List.mem_append_right _ (List.mem_of_getElem? (i := 1018) rfl)
set_option maxRecDepth 100000 in
theorem mc_128 : Cond.code (yy 128) (cb 128) (mxL 128) (rt 128) ∈ lw_tbl := List.mem_append_right _ (List.mem_of_getElem? (i := 1025) rfl)
set_option maxRecDepth 100000 in
theorem mc_129 : Cond.code (yy 129) (cb 129) (mxL 129) (rt 129) ∈ lw_tbl := List.mem_append_right _ (List.mem_of_getElem? (i := 1029) rfl)
set_option maxRecDepth 100000 in
theorem mc_130 : Cond.code (yy 130) (cb 130) (mxL 130) (rt 130) ∈ lw_tbl := List.mem_append_right _ (List.mem_of_getElem? (i := 1062) rfl)
set_option maxRecDepth 100000 in
theorem mc_131 : Cond.code (yy 131) (cb 131) (mxL 131) (rt 131) ∈ lw_tbl := List.mem_append_right _ (List.mem_of_getElem? (i := 1066) rfl)
set_option maxRecDepth 100000 in
theorem mc_132 : Cond.code (yy 132) (cb 132) (mxL 132) (rt 132) ∈ lw_tbl := List.mem_append_right _ (List.mem_of_getElem? (i := 1070) rfl)
set_option maxRecDepth 100000 in
theorem mc_133 : Cond.code (yy 133) (cb 133) (mxL 133) (rt 133) ∈ lw_tbl := List.mem_append_right _ (List.mem_of_getElem? (i := 1038) rfl)
set_option maxRecDepth 100000 in
theorem mc_134 : Cond.code (yy 134) (cb 134) (mxL 134) (rt 134) ∈ lw_tbl := List.mem_append_right _ (List.mem_of_getElem? (i := 1042) rfl)
set_option maxRecDepth 100000 in
theorem mc_135 : Cond.code (yy 135) (cb 135) (mxL 135) (rt 135) ∈ lw_tbl := List.mem_append_right _ (List.mem_of_getElem? (i := 1046) rfl)
set_option maxRecDepth 100000 in
theorem mc_136 : Cond.code (yy 136) (cb 136) (mxL 136) (rt 136) ∈ lw_tbl := List.mem_append_right _ (List.mem_of_getElem? (i := 1050) rfl)
set_option maxRecDepth 100000 in
theorem mc_137 : Cond.code (yy 137) (cb 137) (mxL 137) (rt 137) ∈ lw_tbl := List.mem_append_right _ (List.mem_of_getElem? (i := 1054) rfl)
set_option maxRecDepth 100000 in
theorem mc_138 : Cond.code (yy 138) (cb 138) (mxL 138) (rt 138) ∈ lw_tbl := List.mem_append_right _ (List.mem_of_getElem? (i := 1074) rfl)
set_option maxRecDepth 100000 in
theorem mc_139 : Cond.code (yy 139) (cb 139) (mxL 139) (rt 139) ∈ lw_tbl := List.mem_append_right _ (List.mem_of_getElem? (i := 1058) rfl)
set_option maxRecDepth 100000 in
theorem mc_140 : Cond.code (yy 140) (cb 140) (mxL 140) (rt 140) ∈ lw_tbl := List.mem_append_right _ (List.mem_of_getElem? (i := 997) rfl)
set_option maxRecDepth 100000 in
theorem mc_141 : Cond.code (yy 141) (cb 141) (mxL 141) (rt 141) ∈ lw_tbl := List.mem_append_right _ (List.mem_of_getElem? (i := 1034) rfl)
set_option maxRecDepth 100000 in
theorem mc_142 : Cond.code (yy 142) (cb 142) (mxL 142) (rt 142) ∈ lw_tbl := List.mem_append_right _ (List.mem_of_getElem? (i := 1078) rfl)
set_option maxRecDepth 100000 in
theorem mc_143 : Cond.code (yy 143) (cb 143) (mxL 143) (rt 143) ∈ lw_tbl := List.mem_append_right _ (List.mem_of_getElem? (i := 1004) rfl)
set_option maxRecDepth 100000 in
theorem mc_144 : Cond.code (yy 144) (cb 144) (mxL 144) (rt 144) ∈ lw_tbl := List.mem_append_right _ (List.mem_of_getElem? (i := 1001) rfl)
set_option maxRecDepth 100000 in
theorem mc_145 : Cond.code (yy 145) (cb 145) (mxL 145) (rt 145) ∈ lw_tbl := List.mem_append_right _ (List.mem_of_getElem? (i := 993) rfl)
set_option maxRecDepth 100000 in
theorem mc_146 : Cond.code (yy 146) (cb 146) (mxL 146) (rt 146) ∈ lw_tbl := List.mem_append_right _ (List.mem_of_getElem? (i := 985) rfl)
set_option maxRecDepth 100000 in
theorem mc_147 : Cond.code (yy 147) (cb 147) (mxL 147) (rt 147) ∈ lw_tbl := List.mem_append_right _ (List.mem_of_getElem? (i := 1115) rfl)
set_option maxRecDepth 100000 in
theorem mc_148 : Cond.code (yy 148) (cb 148) (mxL 148) (rt 148) ∈ lw_tbl := List.mem_append_right _ (List.mem_of_getElem? (i := 1106) rfl)
set_option maxRecDepth 100000 in
theorem mc_149 : Cond.code (yy 149) (cb 149) (mxL 149) (rt 149) ∈ lw_tbl := List.mem_append_right _ (List.mem_of_getElem? (i := 1098) rfl)
set_option maxRecDepth 100000 in
theorem mc_150 : Cond.code (yy 150) (cb 150) (mxL 150) (rt 150) ∈ lw_tbl := List.mem_append_right _ (List.mem_of_getElem? (i := 1102) rfl)
set_option maxRecDepth 100000 in
theorem mc_151 : Cond.code (yy 151) (cb 151) (mxL 151) (rt 151) ∈ lw_tbl := List.mem_append_right _ (List.mem_of_getElem? (i := 1111) rfl)
set_option maxRecDepth 100000 in
theorem mc_152 : Cond.code (yy 152) (cb 152) (mxL 152) (rt 152) ∈ lw_tbl := List.mem_append_right _ (List.mem_of_getElem? (i := 1090) rfl)
set_option maxRecDepth 100000 in
theorem mc_153 : Cond.code (yy 153) (cb 153) (mxL 153) (rt 153) ∈ lw_tbl := List.mem_append_right _ (List.mem_of_getElem? (i := 1086) rfl)
set_option maxRecDepth 100000 in
theorem mc_154 : Cond.code (yy 154) (cb 154) (mxL 154) (rt 154) ∈ lw_tbl := List.mem_append_right _ (List.mem_of_getElem? (i := 1082) rfl)
set_option maxRecDepth 100000 in
theorem mc_155 : Cond.code (yy 155) (cb 155) (mxL 155) (rt 155) ∈ lw_tbl := List.mem_append_right _ (List.mem_of_getElem? (i := 1127) rfl)
set_option maxRecDepth 100000 in
theorem mc_156 : Cond.code (yy 156) (cb 156) (mxL 156) (rt 156) ∈ lw_tbl := List.mem_append_right _ (List.mem_of_getElem? (i := 1123) rfl)
set_option maxRecDepth 100000 in
theorem mc_157 : Cond.code (yy 157) (cb 157) (mxL 157) (rt 157) ∈ lw_tbl := List.mem_append_right _ (List.mem_of_getElem? (i := 1119) rfl)
set_option maxRecDepth 100000 in
theorem mc_158 : Cond.code (yy 158) (cb 158) (mxL 158) (rt 158) ∈ lw_tbl := List.mem_append_right _ (List.mem_of_getElem? (i := 1132) rfl)
set_option maxRecDepth 100000 in
theorem mc_159 : Cond.code (yy 159) (cb 159) (mxL 159) (rt 159) ∈ lw_tbl := List.mem_append_right _ (List.mem_of_getElem? (i := 1139) rfl)
set_option maxRecDepth 100000 in
theorem mc_160 : Cond.code (yy 160) (cb 160) (mxL 160) (rt 160) ∈ lw_tbl := List.mem_append_right _ (List.mem_of_getElem? (i := 1136) rfl)
set_option maxRecDepth 100000 in
theorem mc_161 : Cond.code (yy 161) (cb 161) (mxL 161) (rt 161) ∈ lw_tbl := List.mem_append_right _ (List.mem_of_getElem? (i := 1150) rfl)
set_option maxRecDepth 100000 in
theorem mc_162 : Cond.code (yy 162) (cb 162) (mxL 162) (rt 162) ∈ lw_tbl := List.mem_append_right _ (List.mem_of_getElem? (i := 1146) rfl)
set_option maxRecDepth 100000 in
theorem mc_163 : Cond.code (yy 163) (cb 163) (mxL 163) (rt 163) ∈ lw_tbl := List.mem_append_right _ (List.mem_of_getElem? (i := 1158) rfl)
set_option maxRecDepth 100000 in
theorem mc_164 : Cond.code (yy 164) (cb 164) (mxL 164) (rt 164) ∈ lw_tbl := List.mem_append_right _ (List.mem_of_getElem? (i := 1162) rfl)
set_option maxRecDepth 100000 in
theorem mc_165 : Cond.code (yy 165) (cb 165) (mxL 165) (rt 165) ∈ lw_tbl := List.mem_append_right _ (List.mem_of_getElem? (i := 1154) rfl)
set_option maxRecDepth 100000 in
theorem mc_166 : Cond.code (yy 166) (cb 166) (mxL 166) (rt 166) ∈ lw_tbl := List.mem_append_right _ (List.mem_of_getElem? (i := 1166) rfl)
set_option maxRecDepth 100000 in
theorem mc_167 : Cond.code (yy 167) (cb 167) (mxL 167) (rt 167) ∈ lw_tbl := List.mem_append_right _ (List.mem_of_getElem? (i := 1170) rfl)
set_option maxRecDepth 100000 in
theorem mc_168 : Cond.code (yy 168) (cb 168) (mxL 168) (rt 168) ∈ lw_tbl := List.mem_append_right _ (List.mem_of_getElem? (i := 1174) rfl)
set_option maxRecDepth 100000 in
theorem mc_169 : Cond.code (yy 169) (cb 169) (mxL 169) (rt 169) ∈ lw_tbl := List.mem_append_right _ (List.mem_of_getElem? (i := 1182) rfl)
set_option maxRecDepth 100000 in
theorem mc_170 : Cond.code (yy 170) (cb 170) (mxL 170) (rt 170) ∈ lw_tbl := List.mem_append_right _ (List.mem_of_getElem? (i := 1178) rfl)
set_option maxRecDepth 100000 in
theorem mc_171 : Cond.code (yy 171) (cb 171) (mxL 171) (rt 171) ∈ lw_tbl := List.mem_append_right _ (List.mem_of_getElem? (i := 1199) rfl)
set_option maxRecDepth 100000 in
theorem mc_172 : Cond.code (yy 172) (cb 172) (mxL 172) (rt 172) ∈ lw_tbl := List.mem_append_right _ (List.mem_of_getElem? (i := 1202) rfl)
set_option maxRecDepth 100000 in
theorem mc_173 : Cond.code (yy 173) (cb 173) (mxL 173) (rt 173) ∈ lw_tbl := List.mem_append_right _ (List.mem_of_getElem? (i := 1191) rfl)
set_option maxRecDepth 100000 in
theorem mc_174 : Cond.code (yy 174) (cb 174) (mxL 174) (rt 174) ∈ lw_tbl := List.mem_append_right _ (List.mem_of_getElem? (i := 1210) rfl)
set_option maxRecDepth 100000 in
theorem mc_175 : Cond.code (yy 175) (cb 175) (mxL 175) (rt 175) ∈ lw_tbl := List.mem_append_right _ (List.mem_of_getElem? (i := 1195) rfl)
set_option maxRecDepth 100000 in
theorem mc_176 : Cond.code (yy 176) (cb 176) (mxL 176) (rt 176) ∈ lw_tbl := List.mem_append_right _ (List.mem_of_getElem? (i := 1206) rfl)
set_option maxRecDepth 100000 in
theorem mc_177 : Cond.code (yy 177) (cb 177) (mxL 177) (rt 177) ∈ lw_tbl := List.mem_append_right _ (List.mem_of_getElem? (i := 1214) rfl)
set_option maxRecDepth 100000 in
theorem mc_178 : Cond.code (yy 178) (cb 178) (mxL 178) (rt 178) ∈ lw_tbl := List.mem_append_right _ (List.mem_of_getElem? (i := 1218) rfl)
set_option maxRecDepth 100000 in
theorem mc_179 : Cond.code (yy 179) (cb 179) (mxL 179) (rt 179) ∈ lw_tbl := List.mem_append_right _ (List.mem_of_getElem? (i := 1187) rfl)
set_option maxRecDepth 100000 in
theorem mc_180 : Cond.code (yy 180) (cb 180) (mxL 180) (rt 180) ∈ lw_tbl := List.mem_append_right _ (List.mem_of_getElem? (i := 1222) rfl)
set_option maxRecDepth 100000 in
theorem mc_181 : Cond.code (yy 181) (cb 181) (mxL 181) (rt 181) ∈ lw_tbl := List.mem_append_right _ (List.mem_of_getElem? (i := 1229) rfl)
set_option maxRecDepth 100000 in
theorem mc_182 : Cond.code (yy 182) (cb 182) (mxL 182) (rt 182) ∈ lw_tbl := List.mem_append_right _ (List.mem_of_getElem? (i := 1226) rfl)
set_option maxRecDepth 100000 in
theorem mc_183 : Cond.code (yy 183) (cb 183) (mxL 183) (rt 183) ∈ lw_tbl := List.mem_append_right _ (List.mem_of_getElem? (i := 1233) rfl)
set_option maxRecDepth 100000 in
theorem mc_184 : Cond.code (yy 184) (cb 184) (mxL 184) (rt 184) ∈ lw_tbl := List.mem_append_right _ (List.mem_of_getElem? (i := 1237) rfl)
set_option maxRecDepth 100000 in
theorem mc_185 : Cond.code (yy 185) (cb 185) (mxL 185) (rt 185) ∈ lw_tbl := List.mem_append_right _ (List.mem_of_getElem? (i := 1245) rfl)
set_option maxRecDepth 100000 in
theorem mc_186 : Cond.code (yy 186) (cb 186) (mxL 186) (rt 186) ∈ lw_tbl := List.mem_append_right _ (List.mem_of_getElem? (i := 1241) rfl)
set_option maxRecDepth 100000 in
theorem mc_187 : Cond.code (yy 187) (cb 187) (mxL 187) (rt 187) ∈ lw_tbl := List.mem_append_right _ (List.mem_of_getElem? (i := 1253) rfl)
set_option maxRecDepth 100000 in
theorem mc_188 : Cond.code (yy 188) (cb 188) (mxL 188) (rt 188) ∈ lw_tbl := List.mem_append_right _ (List.mem_of_getElem? (i := 1249) rfl)
set_option maxRecDepth 100000 in
theorem mc_189 : Cond.code (yy 189) (cb 189) (mxL 189) (rt 189) ∈ lw_tbl := List.mem_append_right _ (List.mem_of_getElem? (i := 1258) rfl)
set_option maxRecDepth 100000 in
theorem mc_190 : Cond.code (yy 190) (cb 190) (mxL 190) (rt 190) ∈ lw_tbl := List.mem_append_right _ (List.mem_of_getElem? (i := 1262) rfl)
set_option maxRecDepth 100000 in
theorem mc_191 : Cond.code (yy 191) (cb 191) (mxL 191) (rt 191) ∈ lw_tbl := List.mem_append_right _ (List.mem_of_getElem? (i := 1266) rfl)
set_option maxRecDepth 100000 in
theorem mc_192 : Cond.code (yy 192) (cb 192) (mxL 192) (rt 192) ∈ lw_tbl := List.mem_append_right _ (List.mem_of_getElem? (i := 1270) rfl)
set_option maxRecDepth 100000 in
theorem mc_193 : Cond.code (yy 193) (cb 193) (mxL 193) (rt 193) ∈ lw_tbl := List.mem_append_right _ (List.mem_of_getElem? (i := 1274) rfl)
set_option maxRecDepth 100000 in
theorem mc_194 : Cond.code (yy 194) (cb 194) (mxL 194) (rt 194) ∈ lw_tbl := List.mem_append_right _ (List.mem_of_getElem? (i := 1278) rfl)
set_option maxRecDepth 100000 in
theorem mc_195 : Cond.code (yy 195) (cb 195) (mxL 195) (rt 195) ∈ lw_tbl := List.mem_append_right _ (List.mem_of_getElem? (i := 1282) rfl)
theorem mcs_40 : ∀ m, m < 40 → Cond.code (yy m) (cb m) (mxL m) (rt m) ∈ lw_tbl := (lt_s (lt_s (lt_s (lt_s (lt_s (lt_s (lt_s (lt_s (lt_s (lt_s (lt_s (lt_s (lt_s (lt_s (lt_s (lt_s (lt_s (lt_s (lt_s (lt_s (lt_s (lt_s (lt_s (lt_s (lt_s (lt_s (lt_s (lt_s (lt_s (lt_s (lt_s (lt_s (lt_s (lt_s (lt_s (lt_s (lt_s (lt_s (lt_s (lt_s lt_0 mc_0) mc_1) mc_2) mc_3) mc_4) mc_5) mc_6) mc_7) mc_8) mc_9) mc_10) mc_11) mc_12) mc_13) mc_14) mc_15) mc_16) mc_17) mc_18) mc_19) mc_20) mc_21) mc_22) mc_23) mc_24) mc_25) mc_26) mc_27) mc_28) mc_29) mc_30) mc_31) mc_32) mc_33) mc_34) mc_35) mc_36) mc_37) mc_38) mc_39)
theorem mcs_80 : ∀ m, m < 80 → Cond.code (yy m) (cb m) (mxL m) (rt m) ∈ lw_tbl := (lt_s (lt_s (lt_s (lt_s (lt_s (lt_s (lt_s (lt_s (lt_s (lt_s (lt_s (lt_s (lt_s (lt_s (lt_s (lt_s (lt_s (lt_s (lt_s (lt_s (lt_s (lt_s (lt_s (lt_s (lt_s (lt_s (lt_s (lt_s (lt_s (lt_s (lt_s (lt_s (lt_s (lt_s (lt_s (lt_s (lt_s (lt_s (lt_s (lt_s mcs_40 mc_40) mc_41) mc_42) mc_43) mc_44) mc_45) mc_46) mc_47) mc_48) mc_49) mc_50) mc_51) mc_52) mc_53) mc_54) mc_55) mc_56) mc_57) mc_58) mc_59) mc_60) mc_61) mc_62) mc_63) mc_64) mc_65) mc_66) mc_67) mc_68) mc_69) mc_70) mc_71) mc_72) mc_73) mc_74) mc_75) mc_76) mc_77) mc_78) mc_79)
theorem mcs_120 : ∀ m, m < 120 → Cond.code (yy m) (cb m) (mxL m) (rt m) ∈ lw_tbl := (lt_s (lt_s (lt_s (lt_s (lt_s (lt_s (lt_s (lt_s (lt_s (lt_s (lt_s (lt_s (lt_s (lt_s (lt_s (lt_s (lt_s (lt_s (lt_s (lt_s (lt_s (lt_s (lt_s (lt_s (lt_s (lt_s (lt_s (lt_s (lt_s (lt_s (lt_s (lt_s (lt_s (lt_s (lt_s (lt_s (lt_s (lt_s (lt_s (lt_s mcs_80 mc_80) mc_81) mc_82) mc_83) mc_84) mc_85) mc_86) mc_87) mc_88) mc_89) mc_90) mc_91) mc_92) mc_93) mc_94) mc_95) mc_96) mc_97) mc_98) mc_99) mc_100) mc_101) mc_102) mc_103) mc_104) mc_105) mc_106) mc_107) mc_108) mc_109) mc_110) mc_111) mc_112) mc_113) mc_114) mc_115) mc_116) mc_117) mc_118) mc_119)
theorem mcs_160 : ∀ m, m < 160 → Cond.code (yy m) (cb m) (mxL m) (rt m) ∈ lw_tbl := (lt_s (lt_s (lt_s (lt_s (lt_s (lt_s (lt_s (lt_s (lt_s (lt_s (lt_s (lt_s (lt_s (lt_s (lt_s (lt_s (lt_s (lt_s (lt_s (lt_s (lt_s (lt_s (lt_s (lt_s (lt_s (lt_s (lt_s (lt_s (lt_s (lt_s (lt_s (lt_s (lt_s (lt_s (lt_s (lt_s (lt_s (lt_s (lt_s (lt_s mcs_120 mc_120) mc_121) mc_122) mc_123) mc_124) mc_125) mc_126) mc_127) mc_128) mc_129) mc_130) mc_131) mc_132) mc_133) mc_134) mc_135) mc_136) mc_137) mc_138) mc_139) mc_140) mc_141) mc_142) mc_143) mc_144) mc_145) mc_146) mc_147) mc_148) mc_149) mc_150) mc_151) mc_152) mc_153) mc_154) mc_155) mc_156) mc_157) mc_158) mc_159)
theorem mcs_196 : ∀ m, m < 196 → Cond.code (yy m) (cb m) (mxL m) (rt m) ∈ lw_tbl := (lt_s (lt_s (lt_s (lt_s (lt_s (lt_s (lt_s (lt_s (lt_s (lt_s (lt_s (lt_s (lt_s (lt_s (lt_s (lt_s (lt_s (lt_s (lt_s (lt_s (lt_s (lt_s (lt_s (lt_s (lt_s (lt_s (lt_s (lt_s (lt_s (lt_s (lt_s (lt_s (lt_s (lt_s (lt_s (lt_s mcs_160 mc_160) mc_161) mc_162) mc_163) mc_164) mc_165) mc_166) mc_167) mc_168) mc_169) mc_170) mc_171) mc_172) mc_173) mc_174) mc_175) mc_176) mc_177) mc_178) mc_179) mc_180) mc_181) mc_182) mc_183) mc_184) mc_185) mc_186) mc_187) mc_188) mc_189) mc_190) mc_191) mc_192) mc_193) mc_194) mc_195)
theorem MT_code : ∀ m, m < 196 → Cond.code (yy m) (cb m) (mxL m) (rt m) ∈ lw_tbl := mcs_196
theorem MT_kind : (List.range 196).all (fun m => decide (lw_tbl[(mts.getD m (0, 0, 0, 0, 0)).2.1]? = some (if isS m = true then .static (yy m) else .instanceMethod (yy m)))) = true := by decide +kernel
theorem MT_sel : (List.range 196).all (fun m => isS m || decide (lw_tbl[(mts.getD m (0, 0, 0, 0, 0)).2.2.1]? = some (.selects (yy m).cls (yy m) (yy m)))) = true := by decide +kernel
theorem MT_init : (List.range 196).all (fun m => decide (lw_tbl[(mts.getD m (0, 0, 0, 0, 0)).2.2.2.1]? = some (.initialized (yy m).cls))) = true := by decide +kernel
theorem MT_plain : (List.range 196).all (fun m => plainName (yy m).cls && (decide ((yy m).cls = cn (cix m)) && (decide ((yy m).cls ≠ "java/lang/invoke/MethodHandle") && (decide ((yy m).cls ≠ "java/lang/invoke/VarHandle") && (decide ((parseMethodDescriptor (yy m).desc).map (fun d => d.parameters.length) = some (na m)) && (decide (mxL m ≤ 41) && decide (rkm m ≤ 30))))))) = true := by decide +kernel
def CLl : List (Nat × Nat × Nat × Nat × Nat) := [(7, 47, 96, 419, 0), (7, 51, 91, 422, 0), (7, 63, 32, 427, 1), (7, 69, 40, 435, 1), (7, 73, 34, 440, 1), (7, 76, 102, 448, 0), (7, 89, 101, 455, 0), (7, 95, 35, 458, 1), (7, 112, 16, 470, 1), (7, 117, 41, 478, 1), (7, 120, 45, 482, 1), (7, 124, 18, 510, 1), (7, 128, 100, 518, 0), (7, 134, 103, 527, 0), (7, 137, 19, 530, 1), (7, 156, 5, 548, 1), (7, 170, 0, 673, 1), (7, 180, 92, 690, 0), (7, 187, 39, 756, 1), (7, 191, 48, 774, 1), (7, 203, 93, 787, 0), (7, 207, 49, 791, 1), (7, 211, 94, 795, 0), (7, 215, 21, 803, 1), (7, 218, 99, 804, 0), (7, 227, 20, 815, 1), (7, 236, 42, 820, 1), (7, 239, 52, 824, 1), (7, 243, 104, 828, 0), (7, 250, 26, 838, 1), (7, 263, 95, 874, 0), (7, 266, 22, 878, 1), (7, 268, 23, 886, 1), (7, 272, 25, 890, 1), (7, 276, 24, 898, 1), (7, 288, 53, 911, 1), (7, 308, 51, 694, 1), (7, 311, 43, 713, 1), (0, 38, 4, 495, 0), (0, 42, 3, 498, 0), (1, 35, 6, 552, 0), (1, 39, 11, 568, 0), (1, 43, 7, 556, 0), (1, 47, 9, 564, 0), (1, 51, 10, 579, 0), (1, 54, 8, 587, 0), (1, 63, 14, 560, 0), (1, 66, 13, 583, 0), (1, 69, 15, 576, 0), (1, 72, 12, 572, 0), (4, 32, 27, 842, 0), (4, 36, 96, 846, 1), (4, 43, 28, 849, 0), (4, 50, 29, 854, 0), (4, 53, 31, 858, 0), (4, 57, 30, 862, 0), (5, 56, 36, 743, 0), (6, 67, 33, 760, 1), (6, 71, 17, 765, 1), (6, 74, 1, 769, 1), (6, 83, 96, 439, 1), (6, 87, 21, 717, 1), (6, 94, 44, 721, 0), (6, 100, 36, 698, 1), (6, 104, 47, 732, 0), (6, 108, 38, 739, 1), (6, 112, 20, 725, 1), (6, 131, 40, 486, 0), (6, 137, 45, 731, 0), (6, 141, 37, 707, 1), (6, 159, 46, 487, 0), (6, 163, 97, 501, 1), (6, 171, 2, 491, 1), (6, 183, 98, 736, 1), (6, 186, 43, 778, 0), (6, 194, 50, 702, 0), (9, 13, 54, 415, 0), (9, 17, 115, 1023, 0), (9, 18, 55, 431, 0), (9, 22, 116, 1039, 0), (9, 23, 56, 444, 0), (9, 27, 117, 1051, 0), (9, 28, 57, 451, 0), (9, 31, 120, 1055, 0), (9, 32, 58, 462, 0), (9, 35, 121, 1066, 0), (9, 36, 59, 466, 0), (9, 40, 122, 1070, 0), (9, 41, 60, 474, 0), (9, 44, 123, 1074, 0), (9, 45, 61, 514, 0), (9, 48, 125, 1108, 0), (9, 49, 62, 523, 0), (9, 52, 127, 1115, 0), (9, 53, 63, 534, 0), (9, 56, 128, 1122, 0), (9, 59, 64, 538, 0), (9, 63, 129, 1126, 0), (9, 64, 65, 542, 0), (9, 67, 141, 1131, 0), (9, 68, 66, 682, 0), (9, 71, 142, 1175, 0), (9, 72, 67, 686, 0), (9, 75, 154, 1179, 0), (9, 76, 68, 744, 0), (9, 79, 157, 1216, 0), (9, 80, 69, 748, 0), (9, 83, 158, 1229, 0), (9, 84, 70, 752, 0), (9, 87, 160, 1233, 0), (9, 88, 71, 779, 0), (9, 91, 162, 1243, 0), (9, 92, 72, 783, 0), (9, 95, 165, 1251, 0), (9, 96, 73, 799, 0), (9, 99, 166, 1263, 0), (9, 100, 74, 807, 0), (9, 103, 167, 1267, 0), (9, 104, 75, 811, 0), (9, 107, 168, 1271, 0), (9, 108, 76, 816, 0), (9, 112, 170, 1275, 0), (9, 113, 77, 834, 0), (9, 116, 179, 1284, 0), (9, 117, 78, 866, 0), (9, 120, 180, 1319, 0), (9, 121, 79, 870, 0), (9, 124, 182, 1323, 0), (9, 125, 80, 882, 0), (9, 128, 183, 1330, 0), (9, 129, 81, 894, 0), (9, 133, 184, 1334, 0), (9, 134, 82, 903, 0), (9, 137, 186, 1338, 0), (9, 138, 83, 907, 0), (9, 141, 188, 1346, 0), (9, 142, 84, 922, 0), (9, 145, 189, 1355, 0), (9, 146, 85, 926, 0), (9, 150, 190, 1359, 0), (9, 151, 86, 930, 0), (9, 154, 191, 1363, 0), (9, 155, 87, 934, 0), (9, 158, 192, 1367, 0), (9, 159, 88, 938, 0), (9, 162, 193, 1371, 0), (9, 163, 89, 942, 0), (9, 166, 194, 1375, 0), (9, 167, 90, 946, 0), (9, 170, 195, 1379, 0), (8, 53, 106, 1027, 0), (8, 57, 113, 1086, 0), (8, 61, 105, 1030, 0), (8, 65, 112, 1035, 0), (8, 69, 109, 1043, 0), (8, 73, 111, 1047, 0), (8, 76, 118, 1059, 0), (8, 80, 119, 1062, 0), (8, 83, 110, 1078, 0), (8, 86, 146, 1082, 0), (8, 89, 124, 1112, 0), (8, 92, 126, 1119, 0), (8, 107, 134, 1139, 0), (8, 111, 130, 1159, 0), (8, 115, 132, 1167, 0), (8, 119, 135, 1143, 0), (8, 122, 136, 1147, 0), (8, 125, 137, 1151, 0), (8, 128, 139, 1155, 0), (8, 134, 131, 1163, 0), (8, 137, 138, 1171, 0), (8, 140, 133, 1135, 0), (8, 143, 140, 1094, 0), (8, 146, 143, 1102, 0), (8, 150, 144, 1098, 0), (8, 153, 145, 1090, 0), (8, 156, 107, 1105, 0), (8, 160, 148, 1203, 0), (8, 163, 147, 1212, 0), (8, 166, 114, 1191, 0), (8, 169, 149, 1195, 0), (8, 172, 150, 1199, 0), (8, 176, 151, 1208, 0), (8, 179, 152, 1187, 0), (8, 182, 153, 1183, 0), (8, 186, 155, 1224, 0), (8, 189, 156, 1220, 0), (8, 192, 159, 1237, 0), (8, 195, 108, 1240, 0), (8, 199, 161, 1247, 0), (8, 202, 163, 1255, 0), (8, 205, 164, 1259, 0), (8, 208, 169, 1279, 0), (8, 218, 171, 1296, 0), (8, 221, 172, 1300, 0), (8, 224, 175, 1292, 0), (8, 227, 173, 1288, 0), (8, 230, 176, 1303, 0), (8, 233, 174, 1307, 0), (8, 236, 177, 1311, 0), (8, 243, 178, 1315, 0), (8, 246, 181, 1327, 0), (8, 249, 185, 1342, 0), (8, 254, 187, 1350, 0)]
def CLc (q : Nat × Nat × Nat × Nat × Nat) : Cond := if q.2.2.2.2 = 1 then .methodLinkNest (cn q.1) q.2.1 (yy q.2.2.1) "TakenUp" else .methodLink (cn q.1) q.2.1 (yy q.2.2.1)
theorem CL_all : CLl.all (fun q => decide (lw_tbl[q.2.2.2.1]? = some (CLc q))) = true := by decide +kernel
def CLb (ci idx mm : Nat) : Bool := CLl.any (fun q => q.1 == ci && (q.2.1 == idx && q.2.2.1 == mm))
theorem CL_get {ci idx mm : Nat} (h : CLb ci idx mm = true) : Cond.methodLink (cn ci) idx (yy mm) ∈ lw_tbl ∨ Cond.methodLinkNest (cn ci) idx (yy mm) "TakenUp" ∈ lw_tbl := by
  obtain ⟨q, hq, h1⟩ := List.any_eq_true.mp h
  simp only [Bool.and_eq_true, beq_iff_eq] at h1
  obtain ⟨e1, e2, e3⟩ := h1
  have h2 := List.mem_of_getElem? (of_decide_eq_true (List.all_eq_true.mp CL_all q hq))
  unfold CLc at h2
  rw [e1, e2, e3] at h2
  by_cases hn : q.2.2.2.2 = 1
  · rw [if_pos hn] at h2; exact Or.inr h2
  · rw [if_neg hn] at h2; exact Or.inl h2
def CSl : List (Nat × Nat × Int32 × Nat) := [(7, 307, -1000000000, 426), (5, 49, 99999, 711), (6, 118, 99999, 729), (6, 193, 1103515245, 706), (8, 52, -1000000000, 1034), (8, 159, 99999, 1207), (8, 185, 1103515245, 1228)]
theorem CS_all : CSl.all (fun q => decide (lw_tbl[q.2.2.2]? = some (.constant (cn q.1) q.2.1 q.2.2.1))) = true := by decide +kernel
def CSb (ci idx : Nat) (x : Int32) : Bool := CSl.any (fun q => q.1 == ci && (q.2.1 == idx && q.2.2.1 == x))
def CWl : List (Nat × Nat × Int64 × Nat) := [(7, 317, 10, 831), (7, 319, 2, 832), (7, 321, 5, 833), (6, 213, 1000, 918), (9, 57, 4294967295, 1383), (8, 95, 255, 1130), (8, 210, 10, 1283), (8, 252, 1000, 1354)]
theorem CW_all : CWl.all (fun q => decide (lw_tbl[q.2.2.2]? = some (.constantLong (cn q.1) q.2.1 q.2.2.1))) = true := by decide +kernel
def CWb (ci idx : Nat) (x : Int64) : Bool := CWl.any (fun q => q.1 == ci && (q.2.1 == idx && q.2.2.1 == x))
theorem CS_get {ci idx : Nat} {x : Int32} (h : CSb ci idx x = true) : Cond.constant (cn ci) idx x ∈ lw_tbl := by
  obtain ⟨q, hq, h1⟩ := List.any_eq_true.mp h
  simp only [Bool.and_eq_true, beq_iff_eq] at h1
  obtain ⟨e1, e2, e3⟩ := h1
  have h2 := List.mem_of_getElem? (of_decide_eq_true (List.all_eq_true.mp CS_all q hq))
  rw [e1, e2, e3] at h2
  exact h2
theorem CW_get {ci idx : Nat} {x : Int64} (h : CWb ci idx x = true) : Cond.constantLong (cn ci) idx x ∈ lw_tbl := by
  obtain ⟨q, hq, h1⟩ := List.any_eq_true.mp h
  simp only [Bool.and_eq_true, beq_iff_eq] at h1
  obtain ⟨e1, e2, e3⟩ := h1
  have h2 := List.mem_of_getElem? (of_decide_eq_true (List.all_eq_true.mp CW_all q hq))
  rw [e1, e2, e3] at h2
  exact h2
def GSl : List (Nat × Nat × Nat × Nat × Nat) := [(4, 40, 201, 847, 1), (4, 47, 200, 853, 1), (7, 314, 200, 521, 0)]
def GSc (q : Nat × Nat × Nat × Nat × Nat) : Cond := if q.2.2.2.2 = 1 then .fieldLinkNest (cn q.1) q.2.1 "TakenUp" (if q.2.2.1 = 200 then "KIND_ABOVE" else "BODIES") "[I" "TakenUp" else .fieldLink (cn q.1) q.2.1 "TakenUp" (if q.2.2.1 = 200 then "KIND_ABOVE" else "BODIES") "[I"
theorem GS_all : GSl.all (fun q => decide (lw_tbl[q.2.2.2.1]? = some (GSc q)) && decide (q.2.2.1 = 200 ∨ q.2.2.1 = 201)) = true := by decide +kernel
def BLl : List (Nat × Nat × Nat × Nat) := [(0, 18, 2, 677), (0, 28, 5, 678), (1, 57, 7, 591), (5, 43, 5, 764), (5, 50, 2, 712), (6, 77, 5, 773), (6, 122, 2, 730), (6, 209, 4, 915), (6, 215, 3, 919), (7, 231, 1, 507), (7, 282, 5, 902), (7, 301, 2, 504)]
def bnm (b : Nat) : MethodName := if b = 1 then ⟨"java/lang/Math", "max", "(II)I"⟩ else if b = 2 then ⟨"java/lang/Math", "min", "(II)I"⟩ else if b = 3 then ⟨"java/lang/Math", "min", "(JJ)J"⟩ else if b = 4 then ⟨"java/lang/Math", "abs", "(J)J"⟩ else if b = 5 then ⟨"java/lang/System", "arraycopy", "(Ljava/lang/Object;ILjava/lang/Object;II)V"⟩ else ⟨"java/lang/String", "indexOf", "(I)I"⟩
theorem BL_all : BLl.all (fun q => decide (lw_tbl[q.2.2.2]? = some (.methodLink (cn q.1) q.2.1 (bnm q.2.2.1)))) = true := by decide +kernel
def BLb (ci idx b : Nat) : Bool := BLl.any (fun q => q.1 == ci && (q.2.1 == idx && q.2.2.1 == b))
theorem BL_get {ci idx b : Nat} (h : BLb ci idx b = true) : Cond.methodLink (cn ci) idx (bnm b) ∈ lw_tbl := by
  obtain ⟨q, hq, h1⟩ := List.any_eq_true.mp h
  simp only [Bool.and_eq_true, beq_iff_eq] at h1
  obtain ⟨e1, e2, e3⟩ := h1
  have h2 := List.mem_of_getElem? (of_decide_eq_true (List.all_eq_true.mp BL_all q hq))
  rw [e1, e2, e3] at h2
  exact h2
set_option maxRecDepth 100000 in
theorem bc_max : Cond.code Lib.Math.max.name Lib.Math.max.code 2 (some .int) ∈ lw_tbl := List.mem_append_right _ (List.mem_of_getElem? (i := 409) rfl)
theorem bs_max : Cond.static Lib.Math.max.name ∈ lw_tbl := List.mem_append_right _ (List.mem_of_getElem? (i := 408) (by decide +kernel))
set_option maxRecDepth 100000 in
theorem bc_min : Cond.code Lib.Math.min.name Lib.Math.min.code 2 (some .int) ∈ lw_tbl := List.mem_append_right _ (List.mem_of_getElem? (i := 406) rfl)
theorem bs_min : Cond.static Lib.Math.min.name ∈ lw_tbl := List.mem_append_right _ (List.mem_of_getElem? (i := 405) (by decide +kernel))
set_option maxRecDepth 100000 in
theorem bc_minL : Cond.code Lib.MathLoose.min_long.x Lib.MathLoose.min_long.code 4 (some .long) ∈ lw_tbl := List.mem_append_right _ (List.mem_of_getElem? (i := 821) rfl)
theorem bs_minL : Cond.static Lib.MathLoose.min_long.x ∈ lw_tbl := List.mem_append_right _ (List.mem_of_getElem? (i := 820) (by decide +kernel))
set_option maxRecDepth 100000 in
theorem bc_absL : Cond.code Lib.MathLoose.abs_long.x Lib.MathLoose.abs_long.code 2 (some .long) ∈ lw_tbl := List.mem_append_right _ (List.mem_of_getElem? (i := 817) rfl)
theorem bs_absL : Cond.static Lib.MathLoose.abs_long.x ∈ lw_tbl := List.mem_append_right _ (List.mem_of_getElem? (i := 816) (by decide +kernel))
theorem bi_Math : Cond.initialized "java/lang/Math" ∈ lw_tbl := List.mem_append_right _ (List.mem_of_getElem? (i := 10) (by decide +kernel))
theorem bi_Sys : Cond.initialized "java/lang/System" ∈ lw_tbl := List.mem_append_right _ (List.mem_of_getElem? (i := 16) (by decide +kernel))
theorem bs_copy : Cond.static arraycopyName ∈ lw_tbl := List.mem_append_right _ (List.mem_of_getElem? (i := 579) (by decide +kernel))
theorem bn_copy : Cond.native arraycopyName ∈ lw_tbl := List.mem_append_right _ (List.mem_of_getElem? (i := 580) (by decide +kernel))
