/-! CONSTRUCTORS, one by one. -/
def ws_Rest (dA : Nat → ClassId) (h0 : Nat) (f : Nat → Nat) : va_W := [(h0, .inr (2, [.int 0, .int 0, .int 0, .int 0, .int 0, .int 0, .int 0, .int 0]))]
set_option maxRecDepth 100000 in
set_option maxHeartbeats 4000000 in
theorem con_Rest {l : Launch} {dC : Nat → ClassId} {dI : Nat → Nat → Nat} {dA : Nat → ClassId} : CON l dC dI dA ⟨"TakenUp$Rest", "<init>", "()V"⟩ prog_4_method_1_code 1 { frames := 1, cells := 0, slots := 0, locals := 30 } 2 0 0 (ws_Rest dA) := by
  refine con_of (i0 := 3) (by decide +kernel) ⟨rfl, rfl⟩ (by decide) ⟨by decide, Nat.le_of_ble_eq_true rfl⟩ (List.mem_append_right _ (List.mem_of_getElem? (i := 93) (by decide +kernel))) (by decide +kernel) (by decide +kernel) ?_
  intro p e s m args below meth c h0 A ls Q S hin hl V fin
  obtain ⟨hx, hb, hml, hown, hts⟩ := id S
  exact fin _ _ _ _ (fun i => ([] : List Nat).getD i 0) (by decide +kernel) V
def ws_Law (dA : Nat → ClassId) (h0 : Nat) (f : Nat → Nat) : va_W := [(h0, .inr (0, [.ref (f 0), .ref (f 1), .int 0, .int 0])), (f 0, .inl (dA 0, 60, .inl (fun _ => 0))), (f 1, .inl (dA 0, 60, .inl (fun _ => 0)))]
set_option maxRecDepth 100000 in
set_option maxHeartbeats 4000000 in
theorem con_Law {l : Launch} {dC : Nat → ClassId} {dI : Nat → Nat → Nat} {dA : Nat → ClassId} : CON l dC dI dA ⟨"TakenUp$Law", "<init>", "()V"⟩ prog_2_method_1_code 1 { frames := 1, cells := 2, slots := 120, locals := 30 } 0 2 120 (ws_Law dA) := by
  refine con_of (i0 := 3) (by decide +kernel) ⟨rfl, rfl⟩ (by decide) ⟨by decide, Nat.le_of_ble_eq_true rfl⟩ (List.mem_append_right _ (List.mem_of_getElem? (i := 137) (by decide +kernel))) (by decide +kernel) (by decide +kernel) ?_
  intro p e s m args below meth c h0 A ls Q S hin hl V fin
  obtain ⟨hx, hb, hml, hown, hts⟩ := id S
  refine lv_aload_n (k := 0) hx hb (by decide +kernel) rfl (lv_at hl 0 rfl) ?_
  refine lv_bipush (n := 60) (v := 60) hx hb (by decide +kernel) (by decide +kernel) ?_
  refine cn_arr (index := 9) (k := 0) (q0 := 0) (n := 60) (N := 60) S hin V (by decide) rfl rfl (by decide) rfl rfl rfl (List.mem_append_right _ (List.mem_of_getElem? (i := 138) (by decide +kernel))) (by decide +kernel) (by decide +kernel) (by decide) (Nat.le_of_ble_eq_true rfl) (Nat.le_of_ble_eq_true rfl) (by decide +kernel) (by decide +kernel) (fun q1 H locs V => ?_)
  have V : CV dC dI dA A s [(h0, .inr (0, [.ref q1, .null, .int 0, .int 0])), (q1, .inl (dA 0, 60, .inl (fun _ => 0)))] H locs := V
  refine lv_aload_n (k := 0) hx hb (by decide +kernel) rfl (lv_at hl 0 rfl) ?_
  refine lv_bipush (n := 60) (v := 60) hx hb (by decide +kernel) (by decide +kernel) ?_
  refine cn_arr (index := 15) (k := 1) (q0 := 0) (n := 60) (N := 60) S hin V (by decide) rfl rfl (by decide) rfl rfl rfl (List.mem_append_right _ (List.mem_of_getElem? (i := 139) (by decide +kernel))) (by decide +kernel) (by decide +kernel) (by decide) (Nat.le_of_ble_eq_true rfl) (Nat.le_of_ble_eq_true rfl) (by decide +kernel) (by decide +kernel) (fun q2 H locs V => ?_)
  have V : CV dC dI dA A s [(h0, .inr (0, [.ref q1, .ref q2, .int 0, .int 0])), (q1, .inl (dA 0, 60, .inl (fun _ => 0))), (q2, .inl (dA 0, 60, .inl (fun _ => 0)))] H locs := V
  exact fin _ _ _ _ (fun i => ([q1, q2] : List Nat).getD i 0) (by decide +kernel) V
def ws_Reader (dA : Nat → ClassId) (h0 : Nat) (f : Nat → Nat) : va_W := [(h0, .inr (1, [.ref (f 0), .ref (f 1), .int 0, .int 0, .int 0, .int 0, .int 0])), (f 0, .inl (dA 0, 60, .inl (fun _ => 0))), (f 1, .inl (dA 0, 60, .inl (fun _ => 0)))]
set_option maxRecDepth 100000 in
set_option maxHeartbeats 4000000 in
theorem con_Reader {l : Launch} {dC : Nat → ClassId} {dI : Nat → Nat → Nat} {dA : Nat → ClassId} : CON l dC dI dA ⟨"TakenUp$Reader", "<init>", "()V"⟩ prog_3_method_1_code 1 { frames := 1, cells := 2, slots := 120, locals := 30 } 1 2 120 (ws_Reader dA) := by
  refine con_of (i0 := 3) (by decide +kernel) ⟨rfl, rfl⟩ (by decide) ⟨by decide, Nat.le_of_ble_eq_true rfl⟩ (List.mem_append_right _ (List.mem_of_getElem? (i := 215) (by decide +kernel))) (by decide +kernel) (by decide +kernel) ?_
  intro p e s m args below meth c h0 A ls Q S hin hl V fin
  obtain ⟨hx, hb, hml, hown, hts⟩ := id S
  refine lv_aload_n (k := 0) hx hb (by decide +kernel) rfl (lv_at hl 0 rfl) ?_
  refine lv_bipush (n := 60) (v := 60) hx hb (by decide +kernel) (by decide +kernel) ?_
  refine cn_arr (index := 9) (k := 0) (q0 := 0) (n := 60) (N := 60) S hin V (by decide) rfl rfl (by decide) rfl rfl rfl (List.mem_append_right _ (List.mem_of_getElem? (i := 216) (by decide +kernel))) (by decide +kernel) (by decide +kernel) (by decide) (Nat.le_of_ble_eq_true rfl) (Nat.le_of_ble_eq_true rfl) (by decide +kernel) (by decide +kernel) (fun q1 H locs V => ?_)
  have V : CV dC dI dA A s [(h0, .inr (1, [.ref q1, .null, .int 0, .int 0, .int 0, .int 0, .int 0])), (q1, .inl (dA 0, 60, .inl (fun _ => 0)))] H locs := V
  refine lv_aload_n (k := 0) hx hb (by decide +kernel) rfl (lv_at hl 0 rfl) ?_
  refine lv_bipush (n := 60) (v := 60) hx hb (by decide +kernel) (by decide +kernel) ?_
  refine cn_arr (index := 15) (k := 1) (q0 := 0) (n := 60) (N := 60) S hin V (by decide) rfl rfl (by decide) rfl rfl rfl (List.mem_append_right _ (List.mem_of_getElem? (i := 218) (by decide +kernel))) (by decide +kernel) (by decide +kernel) (by decide) (Nat.le_of_ble_eq_true rfl) (Nat.le_of_ble_eq_true rfl) (by decide +kernel) (by decide +kernel) (fun q2 H locs V => ?_)
  have V : CV dC dI dA A s [(h0, .inr (1, [.ref q1, .ref q2, .int 0, .int 0, .int 0, .int 0, .int 0])), (q1, .inl (dA 0, 60, .inl (fun _ => 0))), (q2, .inl (dA 0, 60, .inl (fun _ => 0)))] H locs := V
  exact fin _ _ _ _ (fun i => ([q1, q2] : List Nat).getD i 0) (by decide +kernel) V
def ws_Sheet (dA : Nat → ClassId) (h0 : Nat) (f : Nat → Nat) : va_W := [(h0, .inr (3, [.ref (f 0), .int 0, .int 0])), (f 0, .inl (dA 0, 24, .inl (fun _ => 0)))]
set_option maxRecDepth 100000 in
set_option maxHeartbeats 4000000 in
theorem con_Sheet {l : Launch} {dC : Nat → ClassId} {dI : Nat → Nat → Nat} {dA : Nat → ClassId} : CON l dC dI dA ⟨"TakenUp$Sheet", "<init>", "()V"⟩ prog_5_method_1_code 1 { frames := 1, cells := 1, slots := 24, locals := 30 } 3 1 24 (ws_Sheet dA) := by
  refine con_of (i0 := 3) (by decide +kernel) ⟨rfl, rfl⟩ (by decide) ⟨by decide, Nat.le_of_ble_eq_true rfl⟩ (List.mem_append_right _ (List.mem_of_getElem? (i := 274) (by decide +kernel))) (by decide +kernel) (by decide +kernel) ?_
  intro p e s m args below meth c h0 A ls Q S hin hl V fin
  obtain ⟨hx, hb, hml, hown, hts⟩ := id S
  refine lv_aload_n (k := 0) hx hb (by decide +kernel) rfl (lv_at hl 0 rfl) ?_
  refine lv_bipush (n := 24) (v := 24) hx hb (by decide +kernel) (by decide +kernel) ?_
  refine cn_arr (index := 9) (k := 0) (q0 := 0) (n := 24) (N := 24) S hin V (by decide) rfl rfl (by decide) rfl rfl rfl (List.mem_append_right _ (List.mem_of_getElem? (i := 275) (by decide +kernel))) (by decide +kernel) (by decide +kernel) (by decide) (Nat.le_of_ble_eq_true rfl) (Nat.le_of_ble_eq_true rfl) (by decide +kernel) (by decide +kernel) (fun q1 H locs V => ?_)
  have V : CV dC dI dA A s [(h0, .inr (3, [.ref q1, .int 0, .int 0])), (q1, .inl (dA 0, 24, .inl (fun _ => 0)))] H locs := V
  exact fin _ _ _ _ (fun i => ([q1] : List Nat).getD i 0) (by decide +kernel) V
def ws_Speaker (dA : Nat → ClassId) (h0 : Nat) (f : Nat → Nat) : va_W := [(h0, .inr (4, [.ref (f 0), .int 0, .int 0, .int 0, .int 0, .int 0])), (f 0, .inl (dA 0, 30, .inl (fun _ => 0)))]
set_option maxRecDepth 100000 in
set_option maxHeartbeats 4000000 in
theorem con_Speaker {l : Launch} {dC : Nat → ClassId} {dI : Nat → Nat → Nat} {dA : Nat → ClassId} : CON l dC dI dA ⟨"TakenUp$Speaker", "<init>", "()V"⟩ prog_6_method_1_code 1 { frames := 1, cells := 1, slots := 30, locals := 30 } 4 1 30 (ws_Speaker dA) := by
  refine con_of (i0 := 3) (by decide +kernel) ⟨rfl, rfl⟩ (by decide) ⟨by decide, Nat.le_of_ble_eq_true rfl⟩ (List.mem_append_right _ (List.mem_of_getElem? (i := 245) (by decide +kernel))) (by decide +kernel) (by decide +kernel) ?_
  intro p e s m args below meth c h0 A ls Q S hin hl V fin
  obtain ⟨hx, hb, hml, hown, hts⟩ := id S
  refine lv_aload_n (k := 0) hx hb (by decide +kernel) rfl (lv_at hl 0 rfl) ?_
  refine lv_bipush (n := 30) (v := 30) hx hb (by decide +kernel) (by decide +kernel) ?_
  refine cn_arr (index := 9) (k := 0) (q0 := 0) (n := 30) (N := 30) S hin V (by decide) rfl rfl (by decide) rfl rfl rfl (List.mem_append_right _ (List.mem_of_getElem? (i := 246) (by decide +kernel))) (by decide +kernel) (by decide +kernel) (by decide) (Nat.le_of_ble_eq_true rfl) (Nat.le_of_ble_eq_true rfl) (by decide +kernel) (by decide +kernel) (fun q1 H locs V => ?_)
  have V : CV dC dI dA A s [(h0, .inr (4, [.ref q1, .int 0, .int 0, .int 0, .int 0, .int 0])), (q1, .inl (dA 0, 30, .inl (fun _ => 0)))] H locs := V
  exact fin _ _ _ _ (fun i => ([q1] : List Nat).getD i 0) (by decide +kernel) V
def ws_Worker (dA : Nat → ClassId) (h0 : Nat) (f : Nat → Nat) : va_W := [(h0, .inr (5, [.ref (f 0), .ref (f 1), .int 0, .int 0, .int 0, .int 0, .int 0, .int 0, .int 0, .int (-1)])), (f 0, .inl (dA 0, 8, .inl (fun _ => 0))), (f 1, .inl (dA 0, 8, .inl (fun _ => 0)))]
set_option maxRecDepth 100000 in
set_option maxHeartbeats 4000000 in
theorem con_Worker {l : Launch} {dC : Nat → ClassId} {dI : Nat → Nat → Nat} {dA : Nat → ClassId} : CON l dC dI dA ⟨"TakenUp$Worker", "<init>", "()V"⟩ prog_7_method_1_code 1 { frames := 1, cells := 2, slots := 16, locals := 30 } 5 2 16 (ws_Worker dA) := by
  refine con_of (i0 := 3) (by decide +kernel) ⟨rfl, rfl⟩ (by decide) ⟨by decide, Nat.le_of_ble_eq_true rfl⟩ (List.mem_append_right _ (List.mem_of_getElem? (i := 41) (by decide +kernel))) (by decide +kernel) (by decide +kernel) ?_
  intro p e s m args below meth c h0 A ls Q S hin hl V fin
  obtain ⟨hx, hb, hml, hown, hts⟩ := id S
  refine lv_aload_n (k := 0) hx hb (by decide +kernel) rfl (lv_at hl 0 rfl) ?_
  refine lv_bipush (n := 8) (v := 8) hx hb (by decide +kernel) (by decide +kernel) ?_
  refine cn_arr (index := 9) (k := 0) (q0 := 0) (n := 8) (N := 8) S hin V (by decide) rfl rfl (by decide) rfl rfl rfl (List.mem_append_right _ (List.mem_of_getElem? (i := 42) (by decide +kernel))) (by decide +kernel) (by decide +kernel) (by decide) (Nat.le_of_ble_eq_true rfl) (Nat.le_of_ble_eq_true rfl) (by decide +kernel) (by decide +kernel) (fun q1 H locs V => ?_)
  have V : CV dC dI dA A s [(h0, .inr (5, [.ref q1, .null, .int 0, .int 0, .int 0, .int 0, .int 0, .int 0, .int 0, .int 0])), (q1, .inl (dA 0, 8, .inl (fun _ => 0)))] H locs := V
  refine lv_aload_n (k := 0) hx hb (by decide +kernel) rfl (lv_at hl 0 rfl) ?_
  refine lv_bipush (n := 8) (v := 8) hx hb (by decide +kernel) (by decide +kernel) ?_
  refine cn_arr (index := 15) (k := 1) (q0 := 0) (n := 8) (N := 8) S hin V (by decide) rfl rfl (by decide) rfl rfl rfl (List.mem_append_right _ (List.mem_of_getElem? (i := 45) (by decide +kernel))) (by decide +kernel) (by decide +kernel) (by decide) (Nat.le_of_ble_eq_true rfl) (Nat.le_of_ble_eq_true rfl) (by decide +kernel) (by decide +kernel) (fun q2 H locs V => ?_)
  have V : CV dC dI dA A s [(h0, .inr (5, [.ref q1, .ref q2, .int 0, .int 0, .int 0, .int 0, .int 0, .int 0, .int 0, .int 0])), (q1, .inl (dA 0, 8, .inl (fun _ => 0))), (q2, .inl (dA 0, 8, .inl (fun _ => 0)))] H locs := V
  refine lv_aload_n (k := 0) hx hb (by decide +kernel) rfl (lv_at hl 0 rfl) ?_
  refine lv_iconst (n := -1) (v := -1) hx hb (by decide +kernel) rfl ?_
  refine cn_puti (index := 18) (k := 9) (q0 := 0) S V (by decide) rfl rfl (by decide) rfl rfl rfl (List.mem_append_right _ (List.mem_of_getElem? (i := 64) (by decide +kernel))) (by decide +kernel) (fun H locs V => ?_)
  have V : CV dC dI dA A s [(h0, .inr (5, [.ref q1, .ref q2, .int 0, .int 0, .int 0, .int 0, .int 0, .int 0, .int 0, .int (-1)])), (q1, .inl (dA 0, 8, .inl (fun _ => 0))), (q2, .inl (dA 0, 8, .inl (fun _ => 0)))] H locs := V
  exact fin _ _ _ _ (fun i => ([q1, q2] : List Nat).getD i 0) (by decide +kernel) V
