/-! CONSTRUCTORS, one by one. -/
def ws_Rest (dA : Nat → ClassId) (h0 : Nat) (f : Nat → Nat) : va_W := [(h0, .inr (2, [.int 0, .int 0, .int 0, .int 0, .int 0, .int 0, .int 0, .int 0]))]
set_option maxRecDepth 100000 in
set_option maxHeartbeats 4000000 in
theorem con_Rest {l : Launch} {dC : Nat → ClassId} {dI : Nat → Nat → Nat} {dA : Nat → ClassId} : CON l dC dI dA ⟨"TakenUp$Rest", "<init>", "()V"⟩ prog_4_method_1_code 1 { frames := 1, cells := 0, slots := 0, locals := 30 } 2 0 0 (ws_Rest dA) := by
  refine con_of (i0 := 3) (by decide +kernel) ⟨rfl, rfl⟩ (by decide) ⟨by decide, Nat.le_of_ble_eq_true rfl⟩ (List.mem_append_right _ (List.mem_of_getElem? (i := 93) (by decide +kernel))) (by decide +kernel) (by decide +kernel) ?_
  intro p e s m args below meth c h0 A ls Q S hin hl V fin
  obtain ⟨hx, hb, hml, hown, hts⟩ := id S
  exact fin _ _ _ _ (fun i => ([] : List Nat).getD i 0) (by decide +kernel) V
def ws_Law (dA : Nat → ClassId) (h0 : Nat) (f : Nat → Nat) : va_W := [(h0, .inr (0, [.ref (f 0), .ref (f 1), .int 0, .int 0])), (f 0, .inl (dA 0, 60, .inl (fun _ => 0))), (f 1, .inl (dA 0, 60, .inl (fun _ => 0)))]
set_option maxRecDepth 100000 in
set_option maxHeartbeats 4000000 in
theorem con_Law {l : Launch} {dC : Nat → ClassId} {dI : Nat → Nat → Nat} {dA : Nat → ClassId} : CON l dC dI dA ⟨"TakenUp$Law", "<init>", "()V"⟩ prog_2_method_1_code 1 { frames := 1, cells := 2, slots := 120, locals := 30 } 0 2 120 (ws_Law dA) := by
  refine con_of (i0 := 3) (by decide +kernel) ⟨rfl, rfl⟩ (by decide) ⟨by decide, Nat.le_of_ble_eq_true rfl⟩ (List.mem_append_right _ (List.mem_of_getElem? (i := 137) (by decide +kernel))) (by decide +kernel) (by decide +kernel) ?_
  intro p e s m args below meth c h0 A ls Q S hin hl V fin
  obtain ⟨hx, hb, hml, hown, hts⟩ := id S
  refine lv_aload_n (k := 0) hx hb (by decide +kernel) rfl (lv_at hl 0 rfl) ?_
  refine lv_bipush (n := 60) (v := 60) hx hb (by decide +kernel) rfl ?_
  refine cn_arr (index := 9) (k := 0) (q0 := 0) (n := 60) (N := 60) S hin V (by decide) rfl rfl (by decide) rfl rfl rfl (List.mem_append_right _ (List.mem_of_getElem? (i := 138) (by decide +kernel))) (by decide) rfl (by decide) (Nat.le_of_ble_eq_true rfl) (Nat.le_of_ble_eq_true rfl) (by decide +kernel) (by decide +kernel) (fun q1 H locs V => ?_)
  refine lv_aload_n (k := 0) hx hb (by decide +kernel) rfl (lv_at hl 0 rfl) ?_
  refine lv_bipush (n := 60) (v := 60) hx hb (by decide +kernel) rfl ?_
  refine cn_arr (index := 15) (k := 1) (q0 := 0) (n := 60) (N := 60) S hin V (by decide) rfl rfl (by decide) rfl rfl rfl (List.mem_append_right _ (List.mem_of_getElem? (i := 139) (by decide +kernel))) (by decide) rfl (by decide) (Nat.le_of_ble_eq_true rfl) (Nat.le_of_ble_eq_true rfl) (by decide +kernel) (by decide +kernel) (fun q2 H locs V => ?_)
  exact fin _ _ _ _ (fun i => ([q1, q2] : List Nat).getD i 0) (by decide +kernel) V
def ws_Reader (dA : Nat → ClassId) (h0 : Nat) (f : Nat → Nat) : va_W := [(h0, .inr (1, [.ref (f 0), .ref (f 1), .int 0, .int 0, .int 0, .int 0, .int 0])), (f 0, .inl (dA 0, 60, .inl (fun _ => 0))), (f 1, .inl (dA 0, 60, .inl (fun _ => 0)))]
set_option maxRecDepth 100000 in
set_option maxHeartbeats 4000000 in
theorem con_Reader {l : Launch} {dC : Nat → ClassId} {dI : Nat → Nat → Nat} {dA : Nat → ClassId} : CON l dC dI dA ⟨"TakenUp$Reader", "<init>", "()V"⟩ prog_3_method_1_code 1 { frames := 1, cells := 2, slots := 120, locals := 30 } 1 2 120 (ws_Reader dA) := by
  refine con_of (i0 := 3) (by decide +kernel) ⟨rfl, rfl⟩ (by decide) ⟨by decide, Nat.le_of_ble_eq_true rfl⟩ (List.mem_append_right _ (List.mem_of_getElem? (i := 215) (by decide +kernel))) (by decide +kernel) (by decide +kernel) ?_
  intro p e s m args below meth c h0 A ls Q S hin hl V fin
  obtain ⟨hx, hb, hml, hown, hts⟩ := id S
  refine lv_aload_n (k := 0) hx hb (by decide +kernel) rfl (lv_at hl 0 rfl) ?_
  refine lv_bipush (n := 60) (v := 60) hx hb (by decide +kernel) rfl ?_
  refine cn_arr (index := 9) (k := 0) (q0 := 0) (n := 60) (N := 60) S hin V (by decide) rfl rfl (by decide) rfl rfl rfl (List.mem_append_right _ (List.mem_of_getElem? (i := 216) (by decide +kernel))) (by decide) rfl (by decide) (Nat.le_of_ble_eq_true rfl) (Nat.le_of_ble_eq_true rfl) (by decide +kernel) (by decide +kernel) (fun q1 H locs V => ?_)
  refine lv_aload_n (k := 0) hx hb (by decide +kernel) rfl (lv_at hl 0 rfl) ?_
  refine lv_bipush (n := 60) (v := 60) hx hb (by decide +kernel) rfl ?_
  refine cn_arr (index := 15) (k := 1) (q0 := 0) (n := 60) (N := 60) S hin V (by decide) rfl rfl (by decide) rfl rfl rfl (List.mem_append_right _ (List.mem_of_getElem? (i := 218) (by decide +kernel))) (by decide) rfl (by decide) (Nat.le_of_ble_eq_true rfl) (Nat.le_of_ble_eq_true rfl) (by decide +kernel) (by decide +kernel) (fun q2 H locs V => ?_)
  exact fin _ _ _ _ (fun i => ([q1, q2] : List Nat).getD i 0) (by decide +kernel) V
def ws_Sheet (dA : Nat → ClassId) (h0 : Nat) (f : Nat → Nat) : va_W := [(h0, .inr (3, [.ref (f 0), .int 0, .int 0])), (f 0, .inl (dA 0, 24, .inl (fun _ => 0)))]
set_option maxRecDepth 100000 in
set_option maxHeartbeats 4000000 in
theorem con_Sheet {l : Launch} {dC : Nat → ClassId} {dI : Nat → Nat → Nat} {dA : Nat → ClassId} : CON l dC dI dA ⟨"TakenUp$Sheet", "<init>", "()V"⟩ prog_5_method_1_code 1 { frames := 1, cells := 1, slots := 24, locals := 30 } 3 1 24 (ws_Sheet dA) := by
  refine con_of (i0 := 3) (by decide +kernel) ⟨rfl, rfl⟩ (by decide) ⟨by decide, Nat.le_of_ble_eq_true rfl⟩ (List.mem_append_right _ (List.mem_of_getElem? (i := 274) (by decide +kernel))) (by decide +kernel) (by decide +kernel) ?_
  intro p e s m args below meth c h0 A ls Q S hin hl V fin
  obtain ⟨hx, hb, hml, hown, hts⟩ := id S
  refine lv_aload_n (k := 0) hx hb (by decide +kernel) rfl (lv_at hl 0 rfl) ?_
  refine lv_bipush (n := 24) (v := 24) hx hb (by decide +kernel) rfl ?_
  refine cn_arr (index := 9) (k := 0) (q0 := 0) (n := 24) (N := 24) S hin V (by decide) rfl rfl (by decide) rfl rfl rfl (List.mem_append_right _ (List.mem_of_getElem? (i := 275) (by decide +kernel))) (by decide) rfl (by decide) (Nat.le_of_ble_eq_true rfl) (Nat.le_of_ble_eq_true rfl) (by decide +kernel) (by decide +kernel) (fun q1 H locs V => ?_)
  exact fin _ _ _ _ (fun i => ([q1] : List Nat).getD i 0) (by decide +kernel) V
def ws_Speaker (dA : Nat → ClassId) (h0 : Nat) (f : Nat → Nat) : va_W := [(h0, .inr (4, [.ref (f 0), .int 0, .int 0, .int 0, .int 0, .int 0])), (f 0, .inl (dA 0, 30, .inl (fun _ => 0)))]
set_option maxRecDepth 100000 in
set_option maxHeartbeats 4000000 in
theorem con_Speaker {l : Launch} {dC : Nat → ClassId} {dI : Nat → Nat → Nat} {dA : Nat → ClassId} : CON l dC dI dA ⟨"TakenUp$Speaker", "<init>", "()V"⟩ prog_6_method_1_code 1 { frames := 1, cells := 1, slots := 30, locals := 30 } 4 1 30 (ws_Speaker dA) := by
  refine con_of (i0 := 3) (by decide +kernel) ⟨rfl, rfl⟩ (by decide) ⟨by decide, Nat.le_of_ble_eq_true rfl⟩ (List.mem_append_right _ (List.mem_of_getElem? (i := 245) (by decide +kernel))) (by decide +kernel) (by decide +kernel) ?_
  intro p e s m args below meth c h0 A ls Q S hin hl V fin
  obtain ⟨hx, hb, hml, hown, hts⟩ := id S
  refine lv_aload_n (k := 0) hx hb (by decide +kernel) rfl (lv_at hl 0 rfl) ?_
  refine lv_bipush (n := 30) (v := 30) hx hb (by decide +kernel) rfl ?_
  refine cn_arr (index := 9) (k := 0) (q0 := 0) (n := 30) (N := 30) S hin V (by decide) rfl rfl (by decide) rfl rfl rfl (List.mem_append_right _ (List.mem_of_getElem? (i := 246) (by decide +kernel))) (by decide) rfl (by decide) (Nat.le_of_ble_eq_true rfl) (Nat.le_of_ble_eq_true rfl) (by decide +kernel) (by decide +kernel) (fun q1 H locs V => ?_)
  exact fin _ _ _ _ (fun i => ([q1] : List Nat).getD i 0) (by decide +kernel) V
def ws_Worker (dA : Nat → ClassId) (h0 : Nat) (f : Nat → Nat) : va_W := [(h0, .inr (5, [.ref (f 0), .ref (f 1), .int 0, .int 0, .int 0, .int 0, .int 0, .int 0, .int 0, .int (-1)])), (f 0, .inl (dA 0, 8, .inl (fun _ => 0))), (f 1, .inl (dA 0, 8, .inl (fun _ => 0)))]
set_option maxRecDepth 100000 in
set_option maxHeartbeats 4000000 in
theorem con_Worker {l : Launch} {dC : Nat → ClassId} {dI : Nat → Nat → Nat} {dA : Nat → ClassId} : CON l dC dI dA ⟨"TakenUp$Worker", "<init>", "()V"⟩ prog_7_method_1_code 1 { frames := 1, cells := 2, slots := 16, locals := 30 } 5 2 16 (ws_Worker dA) := by
  refine con_of (i0 := 3) (by decide +kernel) ⟨rfl, rfl⟩ (by decide) ⟨by decide, Nat.le_of_ble_eq_true rfl⟩ (List.mem_append_right _ (List.mem_of_getElem? (i := 41) (by decide +kernel))) (by decide +kernel) (by decide +kernel) ?_
  intro p e s m args below meth c h0 A ls Q S hin hl V fin
  obtain ⟨hx, hb, hml, hown, hts⟩ := id S
  refine lv_aload_n (k := 0) hx hb (by decide +kernel) rfl (lv_at hl 0 rfl) ?_
  refine lv_bipush (n := 8) (v := 8) hx hb (by decide +kernel) rfl ?_
  refine cn_arr (index := 9) (k := 0) (q0 := 0) (n := 8) (N := 8) S hin V (by decide) rfl rfl (by decide) rfl rfl rfl (List.mem_append_right _ (List.mem_of_getElem? (i := 42) (by decide +kernel))) (by decide) rfl (by decide) (Nat.le_of_ble_eq_true rfl) (Nat.le_of_ble_eq_true rfl) (by decide +kernel) (by decide +kernel) (fun q1 H locs V => ?_)
  refine lv_aload_n (k := 0) hx hb (by decide +kernel) rfl (lv_at hl 0 rfl) ?_
  refine lv_bipush (n := 8) (v := 8) hx hb (by decide +kernel) rfl ?_
  refine cn_arr (index := 15) (k := 1) (q0 := 0) (n := 8) (N := 8) S hin V (by decide) rfl rfl (by decide) rfl rfl rfl (List.mem_append_right _ (List.mem_of_getElem? (i := 45) (by decide +kernel))) (by decide) rfl (by decide) (Nat.le_of_ble_eq_true rfl) (Nat.le_of_ble_eq_true rfl) (by decide +kernel) (by decide +kernel) (fun q2 H locs V => ?_)
  refine lv_aload_n (k := 0) hx hb (by decide +kernel) rfl (lv_at hl 0 rfl) ?_
  refine lv_iconst (n := -1) (v := -1) hx hb (by decide +kernel) rfl ?_
  refine cn_puti (index := 18) (k := 9) (q0 := 0) S V (by decide) rfl rfl (by decide) rfl rfl rfl (List.mem_append_right _ (List.mem_of_getElem? (i := 64) (by decide +kernel))) (by decide +kernel) (fun H locs V => ?_)
  exact fin _ _ _ _ (fun i => ([q1, q2] : List Nat).getD i 0) (by decide +kernel) V
def ws_World (dA : Nat → ClassId) (h0 : Nat) (f : Nat → Nat) : va_W := [(h0, .inr (6, [.ref (f 0), .ref (f 1), .ref (f 2), .ref (f 3), .ref (f 4), .int 0, .int 0, .int 0, .int 0, .int 0, .int 0, .int 0, .int 0, .int 1])),
  (f 0, .inl (dA 4, 4, .inr (.inr (.inr (.inr (fun i => some (f (5 + 3 * i)))))))),
  (f 1, .inl (dA 2, 8, .inr (.inr (.inr (.inr (fun i => some (f (17 + i)))))))),
  (f 2, .inl (dA 1, 2, .inr (.inr (.inr (.inr (fun i => some (f (25 + 3 * i)))))))),
  (f 3, .inl (dA 0, 60, .inl (fun _ => 0))),
  (f 4, .inl (dA 0, 24, .inl (fun _ => 0))),
  (f 5, .inr (5, [.ref (f 6), .ref (f 7), .int 0, .int 0, .int 0, .int 0, .int 0, .int 0, .int 0, .int (-1)])),
  (f 6, .inl (dA 0, 8, .inl (fun _ => 0))),
  (f 7, .inl (dA 0, 8, .inl (fun _ => 0))),
  (f 8, .inr (5, [.ref (f 9), .ref (f 10), .int 0, .int 0, .int 0, .int 0, .int 0, .int 0, .int 0, .int (-1)])),
  (f 9, .inl (dA 0, 8, .inl (fun _ => 0))),
  (f 10, .inl (dA 0, 8, .inl (fun _ => 0))),
  (f 11, .inr (5, [.ref (f 12), .ref (f 13), .int 0, .int 0, .int 0, .int 0, .int 0, .int 0, .int 0, .int (-1)])),
  (f 12, .inl (dA 0, 8, .inl (fun _ => 0))),
  (f 13, .inl (dA 0, 8, .inl (fun _ => 0))),
  (f 14, .inr (5, [.ref (f 15), .ref (f 16), .int 0, .int 0, .int 0, .int 0, .int 0, .int 0, .int 0, .int (-1)])),
  (f 15, .inl (dA 0, 8, .inl (fun _ => 0))),
  (f 16, .inl (dA 0, 8, .inl (fun _ => 0))),
  (f 17, .inr (2, [.int 0, .int 0, .int 0, .int 0, .int 0, .int 0, .int 0, .int 0])),
  (f 18, .inr (2, [.int 0, .int 0, .int 0, .int 0, .int 0, .int 0, .int 0, .int 0])),
  (f 19, .inr (2, [.int 0, .int 0, .int 0, .int 0, .int 0, .int 0, .int 0, .int 0])),
  (f 20, .inr (2, [.int 0, .int 0, .int 0, .int 0, .int 0, .int 0, .int 0, .int 0])),
  (f 21, .inr (2, [.int 0, .int 0, .int 0, .int 0, .int 0, .int 0, .int 0, .int 0])),
  (f 22, .inr (2, [.int 0, .int 0, .int 0, .int 0, .int 0, .int 0, .int 0, .int 0])),
  (f 23, .inr (2, [.int 0, .int 0, .int 0, .int 0, .int 0, .int 0, .int 0, .int 0])),
  (f 24, .inr (2, [.int 0, .int 0, .int 0, .int 0, .int 0, .int 0, .int 0, .int 0])),
  (f 25, .inr (0, [.ref (f 26), .ref (f 27), .int 0, .int 0])),
  (f 26, .inl (dA 0, 60, .inl (fun _ => 0))),
  (f 27, .inl (dA 0, 60, .inl (fun _ => 0))),
  (f 28, .inr (0, [.ref (f 29), .ref (f 30), .int 0, .int 0])),
  (f 29, .inl (dA 0, 60, .inl (fun _ => 0))),
  (f 30, .inl (dA 0, 60, .inl (fun _ => 0)))]
set_option maxRecDepth 100000 in
set_option maxHeartbeats 4000000 in
theorem con_World {l : Launch} {dC : Nat → ClassId} {dI : Nat → Nat → Nat} {dA : Nat → ClassId} : CON l dC dI dA ⟨"TakenUp$World", "<init>", "()V"⟩ prog_8_method_1_code 2 { frames := 2, cells := 31, slots := 514, locals := 60 } 6 31 514 (ws_World dA) := by
  refine con_of (i0 := 3) (by decide +kernel) ⟨rfl, rfl⟩ (by decide) ⟨by decide, Nat.le_of_ble_eq_true rfl⟩ (List.mem_append_right _ (List.mem_of_getElem? (i := 30) (by decide +kernel))) (by decide +kernel) (by decide +kernel) ?_
  intro p e s m args below meth c h0 A ls Q S hin hl V fin
  obtain ⟨hx, hb, hml, hown, hts⟩ := id S
  refine lv_aload_n (k := 0) hx hb (by decide +kernel) rfl (lv_at hl 0 rfl) ?_
  refine lv_iconst (n := 4) (v := 4) hx hb (by decide +kernel) rfl ?_
  refine cn_arq (index := 11) (k := 0) (q0 := 0) (n := 4) (N := 4) (kq := 4) (C := "TakenUp$Worker") (i1 := 9) S hin V (by decide) rfl rfl (by decide) rfl rfl rfl (List.mem_append_right _ (List.mem_of_getElem? (i := 153) (by decide +kernel))) rfl (List.mem_append_right _ (List.mem_of_getElem? (i := 31) (by decide +kernel))) (fun _ h => h.2.2.2) (by decide) rfl (by decide) (Nat.le_of_ble_eq_true rfl) (Nat.le_of_ble_eq_true rfl) (by decide +kernel) (by decide +kernel) (fun q1 H locs V => ?_)
  refine lv_aload_n (k := 0) hx hb (by decide +kernel) rfl (lv_at hl 0 rfl) ?_
  refine lv_bipush (n := 8) (v := 8) hx hb (by decide +kernel) rfl ?_
  refine cn_arq (index := 19) (k := 1) (q0 := 0) (n := 8) (N := 8) (kq := 2) (C := "TakenUp$Rest") (i1 := 17) S hin V (by decide) rfl rfl (by decide) rfl rfl rfl (List.mem_append_right _ (List.mem_of_getElem? (i := 155) (by decide +kernel))) rfl (List.mem_append_right _ (List.mem_of_getElem? (i := 33) (by decide +kernel))) (fun _ h => h.2.1) (by decide) rfl (by decide) (Nat.le_of_ble_eq_true rfl) (Nat.le_of_ble_eq_true rfl) (by decide +kernel) (by decide +kernel) (fun q2 H locs V => ?_)
  refine lv_aload_n (k := 0) hx hb (by decide +kernel) rfl (lv_at hl 0 rfl) ?_
  refine lv_iconst (n := 2) (v := 2) hx hb (by decide +kernel) rfl ?_
  refine cn_arq (index := 25) (k := 2) (q0 := 0) (n := 2) (N := 2) (kq := 1) (C := "TakenUp$Law") (i1 := 23) S hin V (by decide) rfl rfl (by decide) rfl rfl rfl (List.mem_append_right _ (List.mem_of_getElem? (i := 157) (by decide +kernel))) rfl (List.mem_append_right _ (List.mem_of_getElem? (i := 35) (by decide +kernel))) (fun _ h => h.1) (by decide) rfl (by decide) (Nat.le_of_ble_eq_true rfl) (Nat.le_of_ble_eq_true rfl) (by decide +kernel) (by decide +kernel) (fun q3 H locs V => ?_)
  refine lv_aload_n (k := 0) hx hb (by decide +kernel) rfl (lv_at hl 0 rfl) ?_
  refine lv_bipush (n := 60) (v := 60) hx hb (by decide +kernel) rfl ?_
  refine cn_arr (index := 29) (k := 3) (q0 := 0) (n := 60) (N := 60) S hin V (by decide) rfl rfl (by decide) rfl rfl rfl (List.mem_append_right _ (List.mem_of_getElem? (i := 159) (by decide +kernel))) (by decide) rfl (by decide) (Nat.le_of_ble_eq_true rfl) (Nat.le_of_ble_eq_true rfl) (by decide +kernel) (by decide +kernel) (fun q4 H locs V => ?_)
  refine lv_aload_n (k := 0) hx hb (by decide +kernel) rfl (lv_at hl 0 rfl) ?_
  refine lv_bipush (n := 24) (v := 24) hx hb (by decide +kernel) rfl ?_
  refine cn_arr (index := 33) (k := 4) (q0 := 0) (n := 24) (N := 24) S hin V (by decide) rfl rfl (by decide) rfl rfl rfl (List.mem_append_right _ (List.mem_of_getElem? (i := 161) (by decide +kernel))) (by decide) rfl (by decide) (Nat.le_of_ble_eq_true rfl) (Nat.le_of_ble_eq_true rfl) (by decide +kernel) (by decide +kernel) (fun q5 H locs V => ?_)
  refine lv_aload_n (k := 0) hx hb (by decide +kernel) rfl (lv_at hl 0 rfl) ?_
  refine lv_iconst (n := 1) (v := 1) hx hb (by decide +kernel) rfl ?_
  refine cn_puti (index := 36) (k := 13) (q0 := 0) S V (by decide) rfl rfl (by decide) rfl rfl rfl (List.mem_append_right _ (List.mem_of_getElem? (i := 179) (by decide +kernel))) (by decide +kernel) (fun H locs V => ?_)
  refine lv_iconst (n := 0) (v := 0) hx hb (by decide +kernel) rfl ?_
  refine lv_istore_n (k := 1) (i := 1) (x := 0) hx hb (by decide +kernel) rfl hl (by decide) rfl (fun ls hl => ?_)
  have hD52 : itD prog_8_method_1_code 52 11 9 40 := by unfold itD; decide +kernel
  refine W.eq (g2 := F0 m 52 ls []) rfl ?_
  refine cn_it (ix := 11) (i1 := 9) (i2 := 40) (k := 0) (qa := 1) (kq := 4) S V hl (by decide) rfl (by decide) rfl (List.mem_append_right _ (List.mem_of_getElem? (i := 153) (by decide +kernel))) rfl rfl rfl (by unfold vp_in; decide) (by decide) (by decide) con_Worker (fun _ _ => ⟨_, rfl⟩) (List.mem_append_right _ (List.mem_of_getElem? (i := 31) (by decide +kernel))) (List.mem_append_right _ (List.mem_of_getElem? (i := 37) (by decide +kernel))) (List.mem_append_right _ (List.mem_of_getElem? (i := 3) (by decide +kernel))) (Or.inl ⟨"TakenUp", (List.mem_append_right _ (List.mem_of_getElem? (i := 38) (by decide +kernel)))⟩) (List.mem_append_right _ (List.mem_of_getElem? (i := 39) (by decide +kernel))) (List.mem_append_right _ (List.mem_of_getElem? (i := 40) (by decide +kernel))) ⟨rfl, rfl, rfl⟩ ⟨by decide +kernel, by decide +kernel⟩ ⟨rfl, rfl, Nat.le_of_ble_eq_true rfl, Nat.le_of_ble_eq_true rfl⟩ ⟨Nat.le_of_ble_eq_true rfl, Nat.le_of_ble_eq_true rfl⟩ hD52 (fun q6 g6 H locs ls V hl => ?_)
  refine cn_it (ix := 11) (i1 := 9) (i2 := 40) (k := 0) (qa := 1) (kq := 4) S V hl (by decide) rfl (by decide) rfl (List.mem_append_right _ (List.mem_of_getElem? (i := 153) (by decide +kernel))) rfl rfl rfl (by unfold vp_in; decide) (by decide) (by decide) con_Worker (fun _ _ => ⟨_, rfl⟩) (List.mem_append_right _ (List.mem_of_getElem? (i := 31) (by decide +kernel))) (List.mem_append_right _ (List.mem_of_getElem? (i := 37) (by decide +kernel))) (List.mem_append_right _ (List.mem_of_getElem? (i := 3) (by decide +kernel))) (Or.inl ⟨"TakenUp", (List.mem_append_right _ (List.mem_of_getElem? (i := 38) (by decide +kernel)))⟩) (List.mem_append_right _ (List.mem_of_getElem? (i := 39) (by decide +kernel))) (List.mem_append_right _ (List.mem_of_getElem? (i := 40) (by decide +kernel))) ⟨rfl, rfl, rfl⟩ ⟨by decide +kernel, by decide +kernel⟩ ⟨rfl, rfl, Nat.le_of_ble_eq_true rfl, Nat.le_of_ble_eq_true rfl⟩ ⟨Nat.le_of_ble_eq_true rfl, Nat.le_of_ble_eq_true rfl⟩ hD52 (fun q7 g7 H locs ls V hl => ?_)
  refine cn_it (ix := 11) (i1 := 9) (i2 := 40) (k := 0) (qa := 1) (kq := 4) S V hl (by decide) rfl (by decide) rfl (List.mem_append_right _ (List.mem_of_getElem? (i := 153) (by decide +kernel))) rfl rfl rfl (by unfold vp_in; decide) (by decide) (by decide) con_Worker (fun _ _ => ⟨_, rfl⟩) (List.mem_append_right _ (List.mem_of_getElem? (i := 31) (by decide +kernel))) (List.mem_append_right _ (List.mem_of_getElem? (i := 37) (by decide +kernel))) (List.mem_append_right _ (List.mem_of_getElem? (i := 3) (by decide +kernel))) (Or.inl ⟨"TakenUp", (List.mem_append_right _ (List.mem_of_getElem? (i := 38) (by decide +kernel)))⟩) (List.mem_append_right _ (List.mem_of_getElem? (i := 39) (by decide +kernel))) (List.mem_append_right _ (List.mem_of_getElem? (i := 40) (by decide +kernel))) ⟨rfl, rfl, rfl⟩ ⟨by decide +kernel, by decide +kernel⟩ ⟨rfl, rfl, Nat.le_of_ble_eq_true rfl, Nat.le_of_ble_eq_true rfl⟩ ⟨Nat.le_of_ble_eq_true rfl, Nat.le_of_ble_eq_true rfl⟩ hD52 (fun q8 g8 H locs ls V hl => ?_)
  refine cn_it (ix := 11) (i1 := 9) (i2 := 40) (k := 0) (qa := 1) (kq := 4) S V hl (by decide) rfl (by decide) rfl (List.mem_append_right _ (List.mem_of_getElem? (i := 153) (by decide +kernel))) rfl rfl rfl (by unfold vp_in; decide) (by decide) (by decide) con_Worker (fun _ _ => ⟨_, rfl⟩) (List.mem_append_right _ (List.mem_of_getElem? (i := 31) (by decide +kernel))) (List.mem_append_right _ (List.mem_of_getElem? (i := 37) (by decide +kernel))) (List.mem_append_right _ (List.mem_of_getElem? (i := 3) (by decide +kernel))) (Or.inl ⟨"TakenUp", (List.mem_append_right _ (List.mem_of_getElem? (i := 38) (by decide +kernel)))⟩) (List.mem_append_right _ (List.mem_of_getElem? (i := 39) (by decide +kernel))) (List.mem_append_right _ (List.mem_of_getElem? (i := 40) (by decide +kernel))) ⟨rfl, rfl, rfl⟩ ⟨by decide +kernel, by decide +kernel⟩ ⟨rfl, rfl, Nat.le_of_ble_eq_true rfl, Nat.le_of_ble_eq_true rfl⟩ ⟨Nat.le_of_ble_eq_true rfl, Nat.le_of_ble_eq_true rfl⟩ hD52 (fun q9 g9 H locs ls V hl => ?_)
  refine cn_ex (ix := 11) (i1 := 9) (i2 := 40) (k := 0) (qa := 1) (kq := 4) S V hl (by decide) rfl (by decide) rfl (List.mem_append_right _ (List.mem_of_getElem? (i := 153) (by decide +kernel))) rfl rfl rfl (by decide) hD52 ?_
  refine W.eq (g2 := F0 m 80 ls []) rfl ?_
  refine lv_iconst (n := 0) (v := 0) hx hb (by decide +kernel) rfl ?_
  refine lv_istore_n (k := 1) (i := 1) (x := 0) hx hb (by decide +kernel) rfl hl (by decide) rfl (fun ls hl => ?_)
  have hD82 : itD prog_8_method_1_code 82 19 17 41 := by unfold itD; decide +kernel
  refine W.eq (g2 := F0 m 82 ls []) rfl ?_
  refine cn_it (ix := 19) (i1 := 17) (i2 := 41) (k := 1) (qa := 2) (kq := 2) S V hl (by decide) rfl (by decide) rfl (List.mem_append_right _ (List.mem_of_getElem? (i := 155) (by decide +kernel))) rfl rfl rfl (by unfold vp_in; decide) (by decide) (by decide) con_Rest (fun _ _ => ⟨_, rfl⟩) (List.mem_append_right _ (List.mem_of_getElem? (i := 33) (by decide +kernel))) (List.mem_append_right _ (List.mem_of_getElem? (i := 89) (by decide +kernel))) (List.mem_append_right _ (List.mem_of_getElem? (i := 4) (by decide +kernel))) (Or.inl ⟨"TakenUp", (List.mem_append_right _ (List.mem_of_getElem? (i := 90) (by decide +kernel)))⟩) (List.mem_append_right _ (List.mem_of_getElem? (i := 91) (by decide +kernel))) (List.mem_append_right _ (List.mem_of_getElem? (i := 92) (by decide +kernel))) ⟨rfl, rfl, rfl⟩ ⟨by decide +kernel, by decide +kernel⟩ ⟨rfl, rfl, Nat.le_of_ble_eq_true rfl, Nat.le_of_ble_eq_true rfl⟩ ⟨Nat.le_of_ble_eq_true rfl, Nat.le_of_ble_eq_true rfl⟩ hD82 (fun q10 g10 H locs ls V hl => ?_)
  refine cn_it (ix := 19) (i1 := 17) (i2 := 41) (k := 1) (qa := 2) (kq := 2) S V hl (by decide) rfl (by decide) rfl (List.mem_append_right _ (List.mem_of_getElem? (i := 155) (by decide +kernel))) rfl rfl rfl (by unfold vp_in; decide) (by decide) (by decide) con_Rest (fun _ _ => ⟨_, rfl⟩) (List.mem_append_right _ (List.mem_of_getElem? (i := 33) (by decide +kernel))) (List.mem_append_right _ (List.mem_of_getElem? (i := 89) (by decide +kernel))) (List.mem_append_right _ (List.mem_of_getElem? (i := 4) (by decide +kernel))) (Or.inl ⟨"TakenUp", (List.mem_append_right _ (List.mem_of_getElem? (i := 90) (by decide +kernel)))⟩) (List.mem_append_right _ (List.mem_of_getElem? (i := 91) (by decide +kernel))) (List.mem_append_right _ (List.mem_of_getElem? (i := 92) (by decide +kernel))) ⟨rfl, rfl, rfl⟩ ⟨by decide +kernel, by decide +kernel⟩ ⟨rfl, rfl, Nat.le_of_ble_eq_true rfl, Nat.le_of_ble_eq_true rfl⟩ ⟨Nat.le_of_ble_eq_true rfl, Nat.le_of_ble_eq_true rfl⟩ hD82 (fun q11 g11 H locs ls V hl => ?_)
  refine cn_it (ix := 19) (i1 := 17) (i2 := 41) (k := 1) (qa := 2) (kq := 2) S V hl (by decide) rfl (by decide) rfl (List.mem_append_right _ (List.mem_of_getElem? (i := 155) (by decide +kernel))) rfl rfl rfl (by unfold vp_in; decide) (by decide) (by decide) con_Rest (fun _ _ => ⟨_, rfl⟩) (List.mem_append_right _ (List.mem_of_getElem? (i := 33) (by decide +kernel))) (List.mem_append_right _ (List.mem_of_getElem? (i := 89) (by decide +kernel))) (List.mem_append_right _ (List.mem_of_getElem? (i := 4) (by decide +kernel))) (Or.inl ⟨"TakenUp", (List.mem_append_right _ (List.mem_of_getElem? (i := 90) (by decide +kernel)))⟩) (List.mem_append_right _ (List.mem_of_getElem? (i := 91) (by decide +kernel))) (List.mem_append_right _ (List.mem_of_getElem? (i := 92) (by decide +kernel))) ⟨rfl, rfl, rfl⟩ ⟨by decide +kernel, by decide +kernel⟩ ⟨rfl, rfl, Nat.le_of_ble_eq_true rfl, Nat.le_of_ble_eq_true rfl⟩ ⟨Nat.le_of_ble_eq_true rfl, Nat.le_of_ble_eq_true rfl⟩ hD82 (fun q12 g12 H locs ls V hl => ?_)
  refine cn_it (ix := 19) (i1 := 17) (i2 := 41) (k := 1) (qa := 2) (kq := 2) S V hl (by decide) rfl (by decide) rfl (List.mem_append_right _ (List.mem_of_getElem? (i := 155) (by decide +kernel))) rfl rfl rfl (by unfold vp_in; decide) (by decide) (by decide) con_Rest (fun _ _ => ⟨_, rfl⟩) (List.mem_append_right _ (List.mem_of_getElem? (i := 33) (by decide +kernel))) (List.mem_append_right _ (List.mem_of_getElem? (i := 89) (by decide +kernel))) (List.mem_append_right _ (List.mem_of_getElem? (i := 4) (by decide +kernel))) (Or.inl ⟨"TakenUp", (List.mem_append_right _ (List.mem_of_getElem? (i := 90) (by decide +kernel)))⟩) (List.mem_append_right _ (List.mem_of_getElem? (i := 91) (by decide +kernel))) (List.mem_append_right _ (List.mem_of_getElem? (i := 92) (by decide +kernel))) ⟨rfl, rfl, rfl⟩ ⟨by decide +kernel, by decide +kernel⟩ ⟨rfl, rfl, Nat.le_of_ble_eq_true rfl, Nat.le_of_ble_eq_true rfl⟩ ⟨Nat.le_of_ble_eq_true rfl, Nat.le_of_ble_eq_true rfl⟩ hD82 (fun q13 g13 H locs ls V hl => ?_)
  refine cn_it (ix := 19) (i1 := 17) (i2 := 41) (k := 1) (qa := 2) (kq := 2) S V hl (by decide) rfl (by decide) rfl (List.mem_append_right _ (List.mem_of_getElem? (i := 155) (by decide +kernel))) rfl rfl rfl (by unfold vp_in; decide) (by decide) (by decide) con_Rest (fun _ _ => ⟨_, rfl⟩) (List.mem_append_right _ (List.mem_of_getElem? (i := 33) (by decide +kernel))) (List.mem_append_right _ (List.mem_of_getElem? (i := 89) (by decide +kernel))) (List.mem_append_right _ (List.mem_of_getElem? (i := 4) (by decide +kernel))) (Or.inl ⟨"TakenUp", (List.mem_append_right _ (List.mem_of_getElem? (i := 90) (by decide +kernel)))⟩) (List.mem_append_right _ (List.mem_of_getElem? (i := 91) (by decide +kernel))) (List.mem_append_right _ (List.mem_of_getElem? (i := 92) (by decide +kernel))) ⟨rfl, rfl, rfl⟩ ⟨by decide +kernel, by decide +kernel⟩ ⟨rfl, rfl, Nat.le_of_ble_eq_true rfl, Nat.le_of_ble_eq_true rfl⟩ ⟨Nat.le_of_ble_eq_true rfl, Nat.le_of_ble_eq_true rfl⟩ hD82 (fun q14 g14 H locs ls V hl => ?_)
  refine cn_it (ix := 19) (i1 := 17) (i2 := 41) (k := 1) (qa := 2) (kq := 2) S V hl (by decide) rfl (by decide) rfl (List.mem_append_right _ (List.mem_of_getElem? (i := 155) (by decide +kernel))) rfl rfl rfl (by unfold vp_in; decide) (by decide) (by decide) con_Rest (fun _ _ => ⟨_, rfl⟩) (List.mem_append_right _ (List.mem_of_getElem? (i := 33) (by decide +kernel))) (List.mem_append_right _ (List.mem_of_getElem? (i := 89) (by decide +kernel))) (List.mem_append_right _ (List.mem_of_getElem? (i := 4) (by decide +kernel))) (Or.inl ⟨"TakenUp", (List.mem_append_right _ (List.mem_of_getElem? (i := 90) (by decide +kernel)))⟩) (List.mem_append_right _ (List.mem_of_getElem? (i := 91) (by decide +kernel))) (List.mem_append_right _ (List.mem_of_getElem? (i := 92) (by decide +kernel))) ⟨rfl, rfl, rfl⟩ ⟨by decide +kernel, by decide +kernel⟩ ⟨rfl, rfl, Nat.le_of_ble_eq_true rfl, Nat.le_of_ble_eq_true rfl⟩ ⟨Nat.le_of_ble_eq_true rfl, Nat.le_of_ble_eq_true rfl⟩ hD82 (fun q15 g15 H locs ls V hl => ?_)
  refine cn_it (ix := 19) (i1 := 17) (i2 := 41) (k := 1) (qa := 2) (kq := 2) S V hl (by decide) rfl (by decide) rfl (List.mem_append_right _ (List.mem_of_getElem? (i := 155) (by decide +kernel))) rfl rfl rfl (by unfold vp_in; decide) (by decide) (by decide) con_Rest (fun _ _ => ⟨_, rfl⟩) (List.mem_append_right _ (List.mem_of_getElem? (i := 33) (by decide +kernel))) (List.mem_append_right _ (List.mem_of_getElem? (i := 89) (by decide +kernel))) (List.mem_append_right _ (List.mem_of_getElem? (i := 4) (by decide +kernel))) (Or.inl ⟨"TakenUp", (List.mem_append_right _ (List.mem_of_getElem? (i := 90) (by decide +kernel)))⟩) (List.mem_append_right _ (List.mem_of_getElem? (i := 91) (by decide +kernel))) (List.mem_append_right _ (List.mem_of_getElem? (i := 92) (by decide +kernel))) ⟨rfl, rfl, rfl⟩ ⟨by decide +kernel, by decide +kernel⟩ ⟨rfl, rfl, Nat.le_of_ble_eq_true rfl, Nat.le_of_ble_eq_true rfl⟩ ⟨Nat.le_of_ble_eq_true rfl, Nat.le_of_ble_eq_true rfl⟩ hD82 (fun q16 g16 H locs ls V hl => ?_)
  refine cn_it (ix := 19) (i1 := 17) (i2 := 41) (k := 1) (qa := 2) (kq := 2) S V hl (by decide) rfl (by decide) rfl (List.mem_append_right _ (List.mem_of_getElem? (i := 155) (by decide +kernel))) rfl rfl rfl (by unfold vp_in; decide) (by decide) (by decide) con_Rest (fun _ _ => ⟨_, rfl⟩) (List.mem_append_right _ (List.mem_of_getElem? (i := 33) (by decide +kernel))) (List.mem_append_right _ (List.mem_of_getElem? (i := 89) (by decide +kernel))) (List.mem_append_right _ (List.mem_of_getElem? (i := 4) (by decide +kernel))) (Or.inl ⟨"TakenUp", (List.mem_append_right _ (List.mem_of_getElem? (i := 90) (by decide +kernel)))⟩) (List.mem_append_right _ (List.mem_of_getElem? (i := 91) (by decide +kernel))) (List.mem_append_right _ (List.mem_of_getElem? (i := 92) (by decide +kernel))) ⟨rfl, rfl, rfl⟩ ⟨by decide +kernel, by decide +kernel⟩ ⟨rfl, rfl, Nat.le_of_ble_eq_true rfl, Nat.le_of_ble_eq_true rfl⟩ ⟨Nat.le_of_ble_eq_true rfl, Nat.le_of_ble_eq_true rfl⟩ hD82 (fun q17 g17 H locs ls V hl => ?_)
  refine cn_ex (ix := 19) (i1 := 17) (i2 := 41) (k := 1) (qa := 2) (kq := 2) S V hl (by decide) rfl (by decide) rfl (List.mem_append_right _ (List.mem_of_getElem? (i := 155) (by decide +kernel))) rfl rfl rfl (by decide) hD82 ?_
  refine W.eq (g2 := F0 m 110 ls []) rfl ?_
  refine lv_iconst (n := 0) (v := 0) hx hb (by decide +kernel) rfl ?_
  refine lv_istore_n (k := 1) (i := 1) (x := 0) hx hb (by decide +kernel) rfl hl (by decide) rfl (fun ls hl => ?_)
  have hD112 : itD prog_8_method_1_code 112 25 23 42 := by unfold itD; decide +kernel
  refine W.eq (g2 := F0 m 112 ls []) rfl ?_
  refine cn_it (ix := 25) (i1 := 23) (i2 := 42) (k := 2) (qa := 3) (kq := 1) S V hl (by decide) rfl (by decide) rfl (List.mem_append_right _ (List.mem_of_getElem? (i := 157) (by decide +kernel))) rfl rfl rfl (by unfold vp_in; decide) (by decide) (by decide) con_Law (fun _ _ => ⟨_, rfl⟩) (List.mem_append_right _ (List.mem_of_getElem? (i := 35) (by decide +kernel))) (List.mem_append_right _ (List.mem_of_getElem? (i := 133) (by decide +kernel))) (List.mem_append_right _ (List.mem_of_getElem? (i := 5) (by decide +kernel))) (Or.inl ⟨"TakenUp", (List.mem_append_right _ (List.mem_of_getElem? (i := 134) (by decide +kernel)))⟩) (List.mem_append_right _ (List.mem_of_getElem? (i := 135) (by decide +kernel))) (List.mem_append_right _ (List.mem_of_getElem? (i := 136) (by decide +kernel))) ⟨rfl, rfl, rfl⟩ ⟨by decide +kernel, by decide +kernel⟩ ⟨rfl, rfl, Nat.le_of_ble_eq_true rfl, Nat.le_of_ble_eq_true rfl⟩ ⟨Nat.le_of_ble_eq_true rfl, Nat.le_of_ble_eq_true rfl⟩ hD112 (fun q18 g18 H locs ls V hl => ?_)
  refine cn_it (ix := 25) (i1 := 23) (i2 := 42) (k := 2) (qa := 3) (kq := 1) S V hl (by decide) rfl (by decide) rfl (List.mem_append_right _ (List.mem_of_getElem? (i := 157) (by decide +kernel))) rfl rfl rfl (by unfold vp_in; decide) (by decide) (by decide) con_Law (fun _ _ => ⟨_, rfl⟩) (List.mem_append_right _ (List.mem_of_getElem? (i := 35) (by decide +kernel))) (List.mem_append_right _ (List.mem_of_getElem? (i := 133) (by decide +kernel))) (List.mem_append_right _ (List.mem_of_getElem? (i := 5) (by decide +kernel))) (Or.inl ⟨"TakenUp", (List.mem_append_right _ (List.mem_of_getElem? (i := 134) (by decide +kernel)))⟩) (List.mem_append_right _ (List.mem_of_getElem? (i := 135) (by decide +kernel))) (List.mem_append_right _ (List.mem_of_getElem? (i := 136) (by decide +kernel))) ⟨rfl, rfl, rfl⟩ ⟨by decide +kernel, by decide +kernel⟩ ⟨rfl, rfl, Nat.le_of_ble_eq_true rfl, Nat.le_of_ble_eq_true rfl⟩ ⟨Nat.le_of_ble_eq_true rfl, Nat.le_of_ble_eq_true rfl⟩ hD112 (fun q19 g19 H locs ls V hl => ?_)
  refine cn_ex (ix := 25) (i1 := 23) (i2 := 42) (k := 2) (qa := 3) (kq := 1) S V hl (by decide) rfl (by decide) rfl (List.mem_append_right _ (List.mem_of_getElem? (i := 157) (by decide +kernel))) rfl rfl rfl (by decide) hD112 ?_
  refine W.eq (g2 := F0 m 140 ls []) rfl ?_
  have V := cn_cg (qa := 1) (f' := fun i => some ((fun i => ([q1, q2, q3, q4, q5, q6, g6 0, g6 1, q7, g7 0, g7 1, q8, g8 0, g8 1, q9, g9 0, g9 1, q10, q11, q12, q13, q14, q15, q16, q17, q18, g18 0, g18 1, q19, g19 0, g19 1] : List Nat).getD i 0) (5 + 3 * i))) V rfl (fun i hi => by
    have : i = 0 ∨ i = 1 ∨ i = 2 ∨ i = 3 := by omega
    rcases this with rfl | rfl | rfl | rfl <;> rfl)
  have V := cn_cg (qa := 2) (f' := fun i => some ((fun i => ([q1, q2, q3, q4, q5, q6, g6 0, g6 1, q7, g7 0, g7 1, q8, g8 0, g8 1, q9, g9 0, g9 1, q10, q11, q12, q13, q14, q15, q16, q17, q18, g18 0, g18 1, q19, g19 0, g19 1] : List Nat).getD i 0) (17 + i))) V rfl (fun i hi => by
    have : i = 0 ∨ i = 1 ∨ i = 2 ∨ i = 3 ∨ i = 4 ∨ i = 5 ∨ i = 6 ∨ i = 7 := by omega
    rcases this with rfl | rfl | rfl | rfl | rfl | rfl | rfl | rfl <;> rfl)
  have V := cn_cg (qa := 3) (f' := fun i => some ((fun i => ([q1, q2, q3, q4, q5, q6, g6 0, g6 1, q7, g7 0, g7 1, q8, g8 0, g8 1, q9, g9 0, g9 1, q10, q11, q12, q13, q14, q15, q16, q17, q18, g18 0, g18 1, q19, g19 0, g19 1] : List Nat).getD i 0) (25 + 3 * i))) V rfl (fun i hi => by
    have : i = 0 ∨ i = 1 := by omega
    rcases this with rfl | rfl <;> rfl)
  exact fin _ _ _ _ (fun i => ([q1, q2, q3, q4, q5, q6, g6 0, g6 1, q7, g7 0, g7 1, q8, g8 0, g8 1, q9, g9 0, g9 1, q10, q11, q12, q13, q14, q15, q16, q17, q18, g18 0, g18 1, q19, g19 0, g19 1] : List Nat).getD i 0) (by decide +kernel) V
def ws_Model (dA : Nat → ClassId) (h0 : Nat) (f : Nat → Nat) : va_W := [(h0, .inr (8, [.ref (f 0), .ref (f 1), .ref (f 2), .int 0, .ref (f 3), .int 0, .int 0, .int 0, .int 0, .ref (f 4), .ref (f 5), .ref (f 6), .ref (f 7), .ref (f 8), .ref (f 9), .int 0, .int 0, .int 0, .ref (f 10), .ref (f 11), .ref (f 12), .ref (f 13)])), (f 0, .inl (dA 0, 504, .inl (upd (fun _ => 0) 8 1))), (f 1, .inl (dA 0, 504, .inl (fun _ => 0))), (f 2, .inl (dA 0, 504, .inl (fun _ => 0))), (f 3, .inl (dA 0, 7, .inl (fun _ => 0))), (f 4, .inl (dA 0, 124, .inl (fun _ => 0))), (f 5, .inl (dA 0, 128, .inl (fun _ => 0))), (f 6, .inl (dA 0, 64, .inl (fun _ => 0))), (f 7, .inl (dA 0, 8, .inl (fun _ => 0))), (f 8, .inl (dA 0, 8, .inl (fun _ => 0))), (f 9, .inl (dA 0, 30, .inl (fun _ => 0))), (f 10, .inl (dA 0, 4, .inl (fun _ => 0))), (f 11, .inl (dA 0, 4, .inl (fun _ => 0))), (f 12, .inl (dA 0, 96, .inl (fun _ => 0))), (f 13, .inl (dA 0, 24, .inl (fun _ => 0)))]
set_option maxRecDepth 100000 in
set_option maxHeartbeats 4000000 in
theorem con_Model {l : Launch} {dC : Nat → ClassId} {dI : Nat → Nat → Nat} {dA : Nat → ClassId} : CON l dC dI dA ⟨"TakenUpModel", "<init>", "()V"⟩ prog_10_method_1_code 1 { frames := 1, cells := 14, slots := 2009, locals := 30 } 8 14 2009 (ws_Model dA) := by
  refine con_of (i0 := 1) (by decide +kernel) ⟨rfl, rfl⟩ (by decide) ⟨by decide, Nat.le_of_ble_eq_true rfl⟩ (List.mem_append_right _ (List.mem_of_getElem? (i := 855) (by decide +kernel))) (by decide +kernel) (by decide +kernel) ?_
  intro p e s m args below meth c h0 A ls Q S hin hl V fin
  obtain ⟨hx, hb, hml, hown, hts⟩ := id S
  refine lv_aload_n (k := 0) hx hb (by decide +kernel) rfl (lv_at hl 0 rfl) ?_
  refine lv_sipush (n := 504) (v := 504) hx hb (by decide +kernel) rfl ?_
  refine cn_arr (index := 7) (k := 0) (q0 := 0) (n := 504) (N := 504) S hin V (by decide) rfl rfl (by decide) rfl rfl rfl (List.mem_append_right _ (List.mem_of_getElem? (i := 856) (by decide +kernel))) (by decide) rfl (by decide) (Nat.le_of_ble_eq_true rfl) (Nat.le_of_ble_eq_true rfl) (by decide +kernel) (by decide +kernel) (fun q1 H locs V => ?_)
  refine lv_aload_n (k := 0) hx hb (by decide +kernel) rfl (lv_at hl 0 rfl) ?_
  refine lv_sipush (n := 504) (v := 504) hx hb (by decide +kernel) rfl ?_
  refine cn_arr (index := 13) (k := 1) (q0 := 0) (n := 504) (N := 504) S hin V (by decide) rfl rfl (by decide) rfl rfl rfl (List.mem_append_right _ (List.mem_of_getElem? (i := 857) (by decide +kernel))) (by decide) rfl (by decide) (Nat.le_of_ble_eq_true rfl) (Nat.le_of_ble_eq_true rfl) (by decide +kernel) (by decide +kernel) (fun q2 H locs V => ?_)
  refine lv_aload_n (k := 0) hx hb (by decide +kernel) rfl (lv_at hl 0 rfl) ?_
  refine lv_sipush (n := 504) (v := 504) hx hb (by decide +kernel) rfl ?_
  refine cn_arr (index := 16) (k := 2) (q0 := 0) (n := 504) (N := 504) S hin V (by decide) rfl rfl (by decide) rfl rfl rfl (List.mem_append_right _ (List.mem_of_getElem? (i := 858) (by decide +kernel))) (by decide) rfl (by decide) (Nat.le_of_ble_eq_true rfl) (Nat.le_of_ble_eq_true rfl) (by decide +kernel) (by decide +kernel) (fun q3 H locs V => ?_)
  refine lv_aload_n (k := 0) hx hb (by decide +kernel) rfl (lv_at hl 0 rfl) ?_
  refine lv_bipush (n := 7) (v := 7) hx hb (by decide +kernel) rfl ?_
  refine cn_arr (index := 19) (k := 4) (q0 := 0) (n := 7) (N := 7) S hin V (by decide) rfl rfl (by decide) rfl rfl rfl (List.mem_append_right _ (List.mem_of_getElem? (i := 860) (by decide +kernel))) (by decide) rfl (by decide) (Nat.le_of_ble_eq_true rfl) (Nat.le_of_ble_eq_true rfl) (by decide +kernel) (by decide +kernel) (fun q4 H locs V => ?_)
  refine lv_aload_n (k := 0) hx hb (by decide +kernel) rfl (lv_at hl 0 rfl) ?_
  refine lv_bipush (n := 124) (v := 124) hx hb (by decide +kernel) rfl ?_
  refine cn_arr (index := 22) (k := 9) (q0 := 0) (n := 124) (N := 124) S hin V (by decide) rfl rfl (by decide) rfl rfl rfl (List.mem_append_right _ (List.mem_of_getElem? (i := 865) (by decide +kernel))) (by decide) rfl (by decide) (Nat.le_of_ble_eq_true rfl) (Nat.le_of_ble_eq_true rfl) (by decide +kernel) (by decide +kernel) (fun q5 H locs V => ?_)
  refine lv_aload_n (k := 0) hx hb (by decide +kernel) rfl (lv_at hl 0 rfl) ?_
  refine lv_sipush (n := 128) (v := 128) hx hb (by decide +kernel) rfl ?_
  refine cn_arr (index := 25) (k := 10) (q0 := 0) (n := 128) (N := 128) S hin V (by decide) rfl rfl (by decide) rfl rfl rfl (List.mem_append_right _ (List.mem_of_getElem? (i := 866) (by decide +kernel))) (by decide) rfl (by decide) (Nat.le_of_ble_eq_true rfl) (Nat.le_of_ble_eq_true rfl) (by decide +kernel) (by decide +kernel) (fun q6 H locs V => ?_)
  refine lv_aload_n (k := 0) hx hb (by decide +kernel) rfl (lv_at hl 0 rfl) ?_
  refine lv_bipush (n := 64) (v := 64) hx hb (by decide +kernel) rfl ?_
  refine cn_arr (index := 28) (k := 11) (q0 := 0) (n := 64) (N := 64) S hin V (by decide) rfl rfl (by decide) rfl rfl rfl (List.mem_append_right _ (List.mem_of_getElem? (i := 867) (by decide +kernel))) (by decide) rfl (by decide) (Nat.le_of_ble_eq_true rfl) (Nat.le_of_ble_eq_true rfl) (by decide +kernel) (by decide +kernel) (fun q7 H locs V => ?_)
  refine lv_aload_n (k := 0) hx hb (by decide +kernel) rfl (lv_at hl 0 rfl) ?_
  refine lv_bipush (n := 8) (v := 8) hx hb (by decide +kernel) rfl ?_
  refine cn_arr (index := 31) (k := 12) (q0 := 0) (n := 8) (N := 8) S hin V (by decide) rfl rfl (by decide) rfl rfl rfl (List.mem_append_right _ (List.mem_of_getElem? (i := 868) (by decide +kernel))) (by decide) rfl (by decide) (Nat.le_of_ble_eq_true rfl) (Nat.le_of_ble_eq_true rfl) (by decide +kernel) (by decide +kernel) (fun q8 H locs V => ?_)
  refine lv_aload_n (k := 0) hx hb (by decide +kernel) rfl (lv_at hl 0 rfl) ?_
  refine lv_bipush (n := 8) (v := 8) hx hb (by decide +kernel) rfl ?_
  refine cn_arr (index := 34) (k := 13) (q0 := 0) (n := 8) (N := 8) S hin V (by decide) rfl rfl (by decide) rfl rfl rfl (List.mem_append_right _ (List.mem_of_getElem? (i := 869) (by decide +kernel))) (by decide) rfl (by decide) (Nat.le_of_ble_eq_true rfl) (Nat.le_of_ble_eq_true rfl) (by decide +kernel) (by decide +kernel) (fun q9 H locs V => ?_)
  refine lv_aload_n (k := 0) hx hb (by decide +kernel) rfl (lv_at hl 0 rfl) ?_
  refine lv_bipush (n := 30) (v := 30) hx hb (by decide +kernel) rfl ?_
  refine cn_arr (index := 37) (k := 14) (q0 := 0) (n := 30) (N := 30) S hin V (by decide) rfl rfl (by decide) rfl rfl rfl (List.mem_append_right _ (List.mem_of_getElem? (i := 870) (by decide +kernel))) (by decide) rfl (by decide) (Nat.le_of_ble_eq_true rfl) (Nat.le_of_ble_eq_true rfl) (by decide +kernel) (by decide +kernel) (fun q10 H locs V => ?_)
  refine lv_aload_n (k := 0) hx hb (by decide +kernel) rfl (lv_at hl 0 rfl) ?_
  refine lv_iconst (n := 4) (v := 4) hx hb (by decide +kernel) rfl ?_
  refine cn_arr (index := 40) (k := 18) (q0 := 0) (n := 4) (N := 4) S hin V (by decide) rfl rfl (by decide) rfl rfl rfl (List.mem_append_right _ (List.mem_of_getElem? (i := 874) (by decide +kernel))) (by decide) rfl (by decide) (Nat.le_of_ble_eq_true rfl) (Nat.le_of_ble_eq_true rfl) (by decide +kernel) (by decide +kernel) (fun q11 H locs V => ?_)
  refine lv_aload_n (k := 0) hx hb (by decide +kernel) rfl (lv_at hl 0 rfl) ?_
  refine lv_iconst (n := 4) (v := 4) hx hb (by decide +kernel) rfl ?_
  refine cn_arr (index := 43) (k := 19) (q0 := 0) (n := 4) (N := 4) S hin V (by decide) rfl rfl (by decide) rfl rfl rfl (List.mem_append_right _ (List.mem_of_getElem? (i := 875) (by decide +kernel))) (by decide) rfl (by decide) (Nat.le_of_ble_eq_true rfl) (Nat.le_of_ble_eq_true rfl) (by decide +kernel) (by decide +kernel) (fun q12 H locs V => ?_)
  refine lv_aload_n (k := 0) hx hb (by decide +kernel) rfl (lv_at hl 0 rfl) ?_
  refine lv_bipush (n := 96) (v := 96) hx hb (by decide +kernel) rfl ?_
  refine cn_arr (index := 46) (k := 20) (q0 := 0) (n := 96) (N := 96) S hin V (by decide) rfl rfl (by decide) rfl rfl rfl (List.mem_append_right _ (List.mem_of_getElem? (i := 876) (by decide +kernel))) (by decide) rfl (by decide) (Nat.le_of_ble_eq_true rfl) (Nat.le_of_ble_eq_true rfl) (by decide +kernel) (by decide +kernel) (fun q13 H locs V => ?_)
  refine lv_aload_n (k := 0) hx hb (by decide +kernel) rfl (lv_at hl 0 rfl) ?_
  refine lv_bipush (n := 24) (v := 24) hx hb (by decide +kernel) rfl ?_
  refine cn_arr (index := 49) (k := 21) (q0 := 0) (n := 24) (N := 24) S hin V (by decide) rfl rfl (by decide) rfl rfl rfl (List.mem_append_right _ (List.mem_of_getElem? (i := 877) (by decide +kernel))) (by decide) rfl (by decide) (Nat.le_of_ble_eq_true rfl) (Nat.le_of_ble_eq_true rfl) (by decide +kernel) (by decide +kernel) (fun q14 H locs V => ?_)
  refine lv_aload_n (k := 0) hx hb (by decide +kernel) rfl (lv_at hl 0 rfl) ?_
  refine cn_get (index := 7) (k := 0) (q0 := 0) S V (by decide) rfl (by decide) rfl (List.mem_append_right _ (List.mem_of_getElem? (i := 856) (by decide +kernel))) rfl (by decide +kernel) ?_
  refine lv_bipush (n := 8) (v := 8) hx hb (by decide +kernel) rfl ?_
  refine lv_iconst (n := 1) (v := 1) hx hb (by decide +kernel) rfl ?_
  obtain ⟨⟨⟨hK, hO⟩, hP⟩, ⟨hD, hS⟩, hA⟩ := V
  refine va_iast hx hb hK hP hD hS 1 0 rfl rfl (by unfold vp_in; decide) (by decide +kernel) (fun H locs hP hD hS => ?_)
  have V : CV dC dI dA A s _ H locs := ⟨⟨⟨hK, hO⟩, hP⟩, ⟨hD, hS⟩, hA⟩
  exact fin _ _ _ _ (fun i => ([q1, q2, q3, q4, q5, q6, q7, q8, q9, q10, q11, q12, q13, q14] : List Nat).getD i 0) (by decide +kernel) V
