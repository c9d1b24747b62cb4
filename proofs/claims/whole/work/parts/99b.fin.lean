/-! THE CLAIM OUT OF ONE WALK OF THE LAW'S BODY. Your part is whole_start (and what it stands on); all else here is the same for every law, but numbers. -/
def R_law : String := "TakenUpLaw"
def lw_P (b : Addr) (xs : List Int32) (args : Array Value) (s : State) : Prop := args = #[.ref b] ∧ s.IntsAt b xs ∧ xs.length ≤ 3072 ∧ (Jvm.Cond.and given_1 narrow_1).before args s = true
def lw_Q (_ : Array Value) (s : State) (o : Outcome) (t : State) : Prop := o = .returned (some (.int 1)) ∧ Framed s o t [] 600000 7302250
def lw_Z (below : List Frame) (a : Array Value) (s : State) : State → Prop := fun t => ∃ o, t.status = .running ∧ Ended t below o ∧ lw_Q a s o t
/-- the law's own end, with 1 on the stack, nothing written that was there before, its room as the claim has it -/
theorem lw_ret {p : Program} {l : Launch} {e : Env} {s : State} {m : MethodId} {below : List Frame} {meth : Method} {c : Code} {b : Nat} (hx : p.tables.exec = Jvm.exec) (hb : c.code = code) (hr : meth.sig.returnType = ret) (hlocks : meth.locks = false) {pc : Nat} {H : Heap} {ls : Array Slot} (hdg : decode code pc = .ok (.ireturn, 1)) : W p l e room_1 s m #[Value.ref b] below meth c H [] 600000 7302250 (lw_Z below #[Value.ref b] s) (F0 m pc ls [.int 1]) := by
  intro T hT X
  obtain ⟨fs, hret, hrun, hended, hW, hframe⟩ := X.leave (v := some (.int 1)) (hlocks := hlocks) (fun h => by rw [hr] at h; cases h)
  have hmeth' : T.vm.method? m = some meth := X.method'
  refine ⟨T.setFrames fs, ?_, .returned (some (.int 1)), hrun, hended, rfl, ⟨_, rfl⟩, hW, hframe⟩
  jvm_step X.here [X.here.top, hx, hb, hdg, hmeth', hr, ret, narrow_b1]
  (try refine ⟨rfl, ?_⟩); (try refine ⟨rfl, ?_⟩)
  first | (intro acts; rw [hret _ acts rfl rfl rfl]) | rw [hret _ _ rfl rfl rfl]
  exact Steps.refl _
/-- what holds at the law's entry: the machine, the code, the tables' words (any of lw_tbl by 'hts w (by decide +kernel)'), the script of L ints xs at the cell b, what the Statement gives of the start (any of its parts by flat_of_before) -/
def lw_At (p : Program) (s : State) (m : MethodId) (meth : Method) (c : Code) (b L : Nat) (xs : Nat → Int32) : Prop :=
  p.tables.exec = Jvm.exec ∧ c.code = code ∧ meth.sig.returnType = ret ∧ c.maxLocals = 4 ∧ s.vm.findClass R_law = some m.cls ∧ (∀ w ∈ lw_tbl, w.before #[Value.ref b] s = true) ∧ va_X b L xs s s.heap ∧ b < s.heap.size ∧ meth.locks = false ∧ (Jvm.Cond.and given_1 narrow_1).before #[Value.ref b] s = true
/-! The law's entry. -/
theorem k_int {s : State} {args : Array Value} (h : (Cond.arrayClass .int).before args s = true) : ∃ cA : ClassId, ArrOfT s cA .int ∧ va_RA s cA .int := by
  obtain ⟨cA, kA, comp, h1, h2, h3⟩ := Cond.arrayClass_spec h
  exact ⟨cA, fun n z => ⟨fun k h => (by cases h), kA, h2, comp, h3⟩, h1⟩
theorem k_obj {s : State} {args : Array Value} {C : String} (h : (Cond.arrayOver (.object C)).before args s = true) : ∃ cA : ClassId, ArrOfT s cA (.object C) ∧ va_RA s cA (.object C) := by
  obtain ⟨comp, cA, kA, h1, -, h2, h3, h4⟩ := Cond.arrayOver_spec h
  exact ⟨cA, fun n z => ⟨fun k h => (by cases h), kA, h2, comp, h3⟩, kA, comp, h2, h3, h1, h4⟩
theorem ist : ∀ k, k < 9 → Cond.instantiable (cn k) (nF k) ∈ lw_tbl := by
  intro k hk
  match k, hk with
  | 0, _ => exact (List.mem_append_right _ (List.mem_of_getElem? (i := 133) (by decide +kernel)))
  | 1, _ => exact (List.mem_append_right _ (List.mem_of_getElem? (i := 211) (by decide +kernel)))
  | 2, _ => exact (List.mem_append_right _ (List.mem_of_getElem? (i := 89) (by decide +kernel)))
  | 3, _ => exact (List.mem_append_right _ (List.mem_of_getElem? (i := 270) (by decide +kernel)))
  | 4, _ => exact (List.mem_append_right _ (List.mem_of_getElem? (i := 241) (by decide +kernel)))
  | 5, _ => exact (List.mem_append_right _ (List.mem_of_getElem? (i := 37) (by decide +kernel)))
  | 6, _ => exact (List.mem_append_right _ (List.mem_of_getElem? (i := 26) (by decide +kernel)))
  | 7, _ => exact (List.mem_append_right _ (List.mem_of_getElem? (i := 18) (by decide +kernel)))
  | 8, _ => exact (List.mem_append_right _ (List.mem_of_getElem? (i := 851) (by decide +kernel)))
def flF : List Cond := flatC (Cond.and given_1 narrow_1)
def tS (i : Nat) : Term := .string "TakenUp" (if i = 0 then 152 else 154)
set_option maxRecDepth 100000 in
theorem f_k0 : ∀ j, j < 7 → Cond.eq (.elem (.static "TakenUp" "KIND_ABOVE" "[I" : Term) (.int (Int32.ofNat j))) (.int (([-1, 0, 0, 0, 1, 2, 0] : List Int32).getD j 0)) ∈ flF := by decide +kernel
set_option maxRecDepth 100000 in
theorem f_k1 : ∀ j, j < 28 → Cond.eq (.elem (.static "TakenUp" "BODIES" "[I" : Term) (.int (Int32.ofNat j))) (.int (([10, 11, 12, 13, 20, 0, 0, 21, 0, 30, 0, 0, 0, 0, 40, 0, 50, 0, 51, 0, 0, 60, 0, 0, 70, 71, 0, 0] : List Int32).getD j 0)) ∈ flF := by decide +kernel
set_option maxRecDepth 100000 in
theorem f_m : (Cond.arrayOf (.static "TakenUp" "KIND_ABOVE" "[I" : Term) .int ∈ flF ∧ Cond.eq (.length (.static "TakenUp" "KIND_ABOVE" "[I" : Term)) (.int (Int32.ofNat 7)) ∈ flF) ∧ (Cond.arrayOf (.static "TakenUp" "BODIES" "[I" : Term) .int ∈ flF ∧ Cond.eq (.length (.static "TakenUp" "BODIES" "[I" : Term)) (.int (Int32.ofNat 28)) ∈ flF) ∧ Cond.eq (.static "java/lang/String" "COMPACT_STRINGS" "Z") (.int 1) ∈ flF ∧ Cond.not (Cond.eq (tS 0) (tS 1)) ∈ flF := by decide +kernel
set_option maxRecDepth 100000 in
theorem f_s : ∀ i, i < 2 → Cond.exactly (tS i) "java/lang/String" ∈ flF ∧ Cond.eq (.field (tS i) "java/lang/String" "coder" "B") (.int 0) ∈ flF ∧ Cond.arrayOf (.field (tS i) "java/lang/String" "value" "[B") .byte ∈ flF ∧ Cond.eq (.length (.field (tS i) "java/lang/String" "value" "[B")) (.int (Int32.ofNat (([4, 3] : List Nat).getD i 0))) ∈ flF ∧ ∀ j, j < ([4, 3] : List Nat).getD i 0 → Cond.eq (.elem (.field (tS i) "java/lang/String" "value" "[B") (.int (Int32.ofNat j))) (.int ((([[100, 116, 110, 109], [100, 104, 108]] : List (List Int32)).getD i []).getD j 0)) ∈ flF := by decide +kernel
theorem law_pc : pcb 196 1 = 18 ∧ (cix 196 = 9 ∧ mxL 196 = 4) := by decide +kernel
set_option maxRecDepth 100000 in
set_option maxHeartbeats 4000000 in
theorem whole_start {p : Program} {e : Env} {s : State} {m : MethodId} {below : List Frame} {meth : Method} {c : Code} (l : Launch) (hflags : l.flags = flags0) {b L : Nat} {xs : Nat → Int32} (hL : L ≤ 3072) (C0 : lw_At p s m meth c b L xs) : W p l e room_1 s m #[Value.ref b] below meth c s.heap [] 0 0 (lw_Z below #[Value.ref b] s) (entryFrame m ([Value.ref b] : List Value).toArray 4) := by
  obtain ⟨hx, hb, hr, hml, hown, hts, hX, hbl, hlocks, hgv⟩ := id C0
  have htb : ∀ w ∈ lw_tb, w.before #[Value.ref b] s = true := fun w h => hts w (tb_in h)
  have hfl : ∀ w ∈ flF, w.before #[Value.ref b] s = true := flat_of_before _ hgv
  -- the classes
  have h0 : ∀ k : Nat, ∃ q : ClassId × (Nat → Nat), k < 9 → u_Kn s (cn k) (TT k) (nF k) q.1 q.2 := by
    intro k
    by_cases hk : k < 9
    · obtain ⟨cC, iS, h⟩ := u_known hts (cl_in k hk) (hts _ (ist k hk))
      exact ⟨(cC, iS), fun _ => h⟩
    · exact ⟨(m.cls, fun _ => 0), fun h => absurd h hk⟩
  obtain ⟨f, hf⟩ := Classical.axiomOfChoice h0
  obtain ⟨dC, hdC⟩ : ∃ dC : Nat → ClassId, dC = fun k => (f k).1 := ⟨_, rfl⟩
  obtain ⟨dI, hdI⟩ : ∃ dI : Nat → Nat → Nat, dI = fun k => (f k).2 := ⟨_, rfl⟩
  obtain ⟨c0, hc0⟩ := k_int (hts (.arrayClass .int) (List.mem_append_right _ (List.mem_of_getElem? (i := 88) (by decide +kernel))))
  obtain ⟨c1, hc1⟩ := k_obj (hts (.arrayOver (.object "TakenUp$Law")) (List.mem_append_right _ (List.mem_of_getElem? (i := 36) (by decide +kernel))))
  obtain ⟨c2, hc2⟩ := k_obj (hts (.arrayOver (.object "TakenUp$Rest")) (List.mem_append_right _ (List.mem_of_getElem? (i := 34) (by decide +kernel))))
  obtain ⟨c3, hc3⟩ := k_obj (hts (.arrayOver (.object "TakenUp$Sheet")) (List.mem_append_right _ (List.mem_of_getElem? (i := 269) (by decide +kernel))))
  obtain ⟨c4, hc4⟩ := k_obj (hts (.arrayOver (.object "TakenUp$Worker")) (List.mem_append_right _ (List.mem_of_getElem? (i := 32) (by decide +kernel))))
  obtain ⟨dA, e0, e1, e2, e3, e4⟩ : ∃ dA : Nat → ClassId, dA 0 = c0 ∧ dA 1 = c1 ∧ dA 2 = c2 ∧ dA 3 = c3 ∧ dA 4 = c4 := ⟨fun k => if k = 0 then c0 else if k = 1 then c1 else if k = 2 then c2 else if k = 3 then c3 else c4, rfl, rfl, rfl, rfl, rfl⟩
  have hK : va_K (dC, dI) vwCl (tyA dA) s := by
    refine ⟨fun k q hq => ?_, fun k q hq => ?_⟩
    · by_cases hk : k < 9
      · rw [cl_at k hk] at hq
        cases hq
        rw [hdC, hdI]
        exact hf k hk
      · rw [List.getElem?_eq_none (show vwCl.length ≤ k from Nat.not_lt.mp hk)] at hq
        cases hq
    · have hk : k < 5 := (List.getElem?_eq_some_iff.mp hq).1
      have hk5 : k = 0 ∨ k = 1 ∨ k = 2 ∨ k = 3 ∨ k = 4 := by omega
      rcases hk5 with rfl | rfl | rfl | rfl | rfl
      · cases hq; show ArrOfT s (dA 0) _ ∧ va_RA s (dA 0) _; rw [e0]; exact hc0
      · cases hq; show ArrOfT s (dA 1) _ ∧ va_RA s (dA 1) _; rw [e1]; exact hc1
      · cases hq; show ArrOfT s (dA 2) _ ∧ va_RA s (dA 2) _; rw [e2]; exact hc2
      · cases hq; show ArrOfT s (dA 3) _ ∧ va_RA s (dA 3) _; rw [e3]; exact hc3
      · cases hq; show ArrOfT s (dA 4) _ ∧ va_RA s (dA 4) _; rw [e4]; exact hc4
  have hO : AO s := ⟨va_AO.of (hts (.arrayOver (.object "TakenUp$Law")) (List.mem_append_right _ (List.mem_of_getElem? (i := 36) (by decide +kernel)))), va_AO.of (hts (.arrayOver (.object "TakenUp$Rest")) (List.mem_append_right _ (List.mem_of_getElem? (i := 34) (by decide +kernel)))), va_AO.of (hts (.arrayOver (.object "TakenUp$Sheet")) (List.mem_append_right _ (List.mem_of_getElem? (i := 269) (by decide +kernel)))), va_AO.of (hts (.arrayOver (.object "TakenUp$Worker")) (List.mem_append_right _ (List.mem_of_getElem? (i := 32) (by decide +kernel))))⟩
  -- what never changes
  obtain ⟨A, hAe⟩ : ∃ A : Nat → Prop, A = fun q => s.heap.size ≤ q := ⟨_, rfl⟩
  have hA : ∀ q : Nat, s.heap.size ≤ q → A q := fun q h => by rw [hAe]; exact h
  have hA2 : ∀ a : Nat, a < s.heap.size → ¬ A a := fun a h z => by rw [hAe] at z; exact Nat.not_le.mpr h z
  have hA3 : ∀ q : Nat, A q → s.heap.size ≤ q := fun q h => by rw [hAe] at h; exact h
  obtain ⟨t0, ht0, hT0⟩ := va_Tof (tm := (.static "TakenUp" "KIND_ABOVE" "[I" : Term)) (ty := .int) (N := 7) (f := fun j => .int (fz0 xs 200 j)) (A := A) (by decide) (hfl _ f_m.1.1) (va_eqt (hfl _ f_m.1.2)) (fun j hj => va_eqt (hfl _ (f_k0 j hj))) hA2
  obtain ⟨t1, ht1, hT1⟩ := va_Tof (tm := (.static "TakenUp" "BODIES" "[I" : Term)) (ty := .int) (N := 28) (f := fun j => .int (fz0 xs 201 j)) (A := A) (by decide) (hfl _ f_m.2.1.1) (va_eqt (hfl _ f_m.2.1.2)) (fun j hj => va_eqt (hfl _ (f_k1 j hj))) hA2
  have hTX : va_T .int b L (fun j => .int (fz0 xs 202 j)) A s s.heap := by
    obtain ⟨scr, x1, x2, x3, x4, x5⟩ := hX
    exact ⟨scr, x1, x2, x3, Nat.le_of_eq x4.symm, by rw [x4], x5, hA2 b hbl⟩
  obtain ⟨aK, aV, hSS, hev⟩ := vk_Sof (args := #[Value.ref b]) (s := s) (N := 2) (tm := tS) (len := [4, 3]) (byt := [[100, 116, 110, 109], [100, 104, 108]]) (A := A) (by decide) (fun i hi => hfl _ (f_s i hi).1) (fun i hi => hfl _ (f_s i hi).2.1) (fun i hi => hfl _ (f_s i hi).2.2.1) (fun i hi => hfl _ (f_s i hi).2.2.2.1) (fun i hi j hj => hfl _ ((f_s i hi).2.2.2.2 j hj)) (fun i j hi hj hij => by
    have h2 : (i = 0 ∧ j = 1) ∨ (i = 1 ∧ j = 0) := by omega
    rcases h2 with ⟨rfl, rfl⟩ | ⟨rfl, rfl⟩
    · exact Or.inl (hfl _ f_m.2.2.2)
    · exact Or.inr (hfl _ f_m.2.2.2)) hA2
  have z0 : va_Z "TakenUp" "KIND_ABOVE" "[I" (.ref t0) A s s.heap := va_Zof (hts (.laysStatic "TakenUp" "KIND_ABOVE" "[I") (List.mem_append_right _ (List.mem_of_getElem? (i := 422) (by decide +kernel)))) (hts (.initialized "TakenUp") (List.mem_append_right _ (List.mem_of_getElem? (i := 1) (by decide +kernel)))) ht0 hA2
  have z1 : va_Z "TakenUp" "BODIES" "[I" (.ref t1) A s s.heap := va_Zof (hts (.laysStatic "TakenUp" "BODIES" "[I") (List.mem_append_right _ (List.mem_of_getElem? (i := 748) (by decide +kernel)))) (hts (.initialized "TakenUp") (List.mem_append_right _ (List.mem_of_getElem? (i := 1) (by decide +kernel)))) ht1 hA2
  have z2 : va_Z "java/lang/String" "COMPACT_STRINGS" "Z" (.int 1) A s s.heap := va_Zof (hts (.laysStatic "java/lang/String" "COMPACT_STRINGS" "Z") (List.mem_append_right _ (List.mem_of_getElem? (i := 504) (by decide +kernel)))) (hts (.initialized "java/lang/String") (List.mem_append_right _ (List.mem_of_getElem? (i := 11) (by decide +kernel)))) (va_eqt (hfl _ f_m.2.2.1)) hA2
  -- the objects
  have V : CV dC dI dA A s [] s.heap [] := ⟨⟨⟨hK, hO⟩, fun k q h => by simp at h⟩, ⟨⟨fun i j p q h => by simp at h, fun k q h => by simp at h⟩, va_S.rf⟩, hA⟩
  have S : CallFix p m c code 4 s #[Value.ref b] lw_tb (cn 9) := ⟨hx, hb, hml, hown, htb⟩
  have hl := lv_entry ([.ref b]) (n := 4) (Nat.le_of_ble_eq_true rfl)
  rw [lg_entry_eq]
  generalize (lg_sl ([.ref b]) ++ List.replicate (4 - (lg_sl ([.ref b])).length) Slot.unset).toArray = ls at hl ⊢
  have hl : lv_has ls 4 [(0, .ref b)] := hl
  refine cn_obj (cw := 9) (i1 := 7) (i2 := 9) S V hl (by decide) con_TakenUp (List.mem_append_right _ (List.mem_of_getElem? (i := 17) (by decide +kernel))) (List.mem_append_right _ (List.mem_of_getElem? (i := 18) (by decide +kernel))) (List.mem_append_right _ (List.mem_of_getElem? (i := 1) (by decide +kernel))) (Or.inr (List.mem_append_right _ (List.mem_of_getElem? (i := 19) (by decide +kernel)))) (List.mem_append_right _ (List.mem_of_getElem? (i := 20) (by decide +kernel))) (List.mem_append_right _ (List.mem_of_getElem? (i := 21) (by decide +kernel))) ⟨rfl, rfl, rfl⟩ ⟨by decide +kernel, by decide +kernel⟩ ⟨rfl, rfl, Nat.le_of_ble_eq_true rfl, Nat.le_of_ble_eq_true rfl⟩ ⟨Nat.le_of_ble_eq_true rfl, Nat.le_of_ble_eq_true rfl⟩ (rest := []) (by decide) (by decide +kernel) (by decide +kernel) (by decide +kernel) (fun q g H locs V => ?_)
  refine lv_astore_n (k := 1) (i := 1) hx hb (by decide +kernel) rfl hl (by decide) rfl (fun ls hl => ?_)
  refine cn_obj (cw := 9) (i1 := 10) (i2 := 12) S V hl (by decide) con_Model (List.mem_append_right _ (List.mem_of_getElem? (i := 850) (by decide +kernel))) (List.mem_append_right _ (List.mem_of_getElem? (i := 851) (by decide +kernel))) (List.mem_append_right _ (List.mem_of_getElem? (i := 9) (by decide +kernel))) (Or.inr (List.mem_append_right _ (List.mem_of_getElem? (i := 852) (by decide +kernel)))) (List.mem_append_right _ (List.mem_of_getElem? (i := 853) (by decide +kernel))) (List.mem_append_right _ (List.mem_of_getElem? (i := 854) (by decide +kernel))) ⟨rfl, rfl, rfl⟩ ⟨by decide +kernel, by decide +kernel⟩ ⟨rfl, rfl, Nat.le_of_ble_eq_true rfl, Nat.le_of_ble_eq_true rfl⟩ ⟨Nat.le_of_ble_eq_true rfl, Nat.le_of_ble_eq_true rfl⟩ (rest := []) (by decide) (by decide +kernel) (by decide +kernel) (by decide +kernel) (fun q2 g2 H locs V => ?_)
  refine lv_astore_n (k := 2) (i := 2) hx hb (by decide +kernel) rfl hl (by decide) rfl (fun ls hl => ?_)
  refine lv_iconst (n := 0) (v := 0) hx hb (by decide +kernel) rfl ?_
  refine lv_istore_n (k := 3) (i := 3) (x := 0) hx hb (by decide +kernel) rfl hl (by decide) rfl (fun ls hl => ?_)
  refine W.eq (g2 := F0 m 18 ls []) rfl ?_
  have hl : lv_has ls 4 [(3, .int (nI 0)), (2, .ref q2), (1, .ref q), (0, .ref b)] := hl
  have V9 := zq_ws_all (fz := fz0 xs) (t0 := t0) (t1 := t1) (b := b) (aK := aK) V
  obtain ⟨⟨⟨hK9, hO9⟩, hP9⟩, ⟨hD9, hS9⟩, hA9⟩ := V9
  have hE : EO (adF q q2 g g2 t0 t1 b aK) := fun i j hi hj z => hD9.1 i j _ _ (wsA_at hi) (wsA_at hj) z
  have hAo : ∀ o, o < 127 → A (adF q q2 g g2 t0 t1 b aK o) := fun o ho => hD9.2 o _ (wsA_at ho)
  have hk : ∀ a : Nat, a < s.heap.size → ¬ A a → H[a]? = s.heap[a]? := hS9.2.1
  have eK : (fun i => adF q q2 g g2 t0 t1 b aK (203 + i)) = aK := by
    funext i
    unfold adF
    rw [if_neg (by omega), if_neg (by omega), if_neg (by omega), if_neg (by omega), if_neg (by omega), if_neg (by omega), if_neg (by omega), Nat.add_sub_cancel_left]
  have hWS : WS (adF q q2 g g2 t0 t1 b aK) L (fz0 xs) A s H := ⟨⟨hT0.kept hk, hT1.kept hk, hTX.kept hk⟩, ⟨z0.kept hk, z1.kept hk, z2.kept hk⟩, aV, by rw [eK]; exact hSS.kept hk⟩
  have hWD : WD dC dI dA (adF q q2 g g2 t0 t1 b aK) L (fz0 xs) A (mu0 (fz0 xs)) s H := ⟨hK9, hP9, fun o ho => if_neg (Nat.not_lt.mpr ho), hWS⟩
  have hVR : VR (adF q q2 g g2 t0 t1 b aK) s := ⟨vk_R.of (hts (.stringRef "TakenUp" 152 "dtnm") (List.mem_append_right _ (List.mem_of_getElem? (i := 446) (by decide +kernel)))) (hev 0 (by decide)), vk_R.of (hts (.stringRef "TakenUp" 154 "dhl") (List.mem_append_right _ (List.mem_of_getElem? (i := 447) (by decide +kernel)))) (hev 1 (by decide))⟩
  have hC : CX p room_1 s m #[Value.ref b] c (0 + 1 + 111 + 1 + 14) (0 + 8 + 1866 + 22 + 2009) (mxL 196) (adF q q2 g g2 t0 t1 b aK) A (cb 196) (cix 196) := ⟨⟨hx, hb, hml, hown, htb⟩, ⟨Nat.le_of_ble_eq_true rfl, Nat.le_of_ble_eq_true rfl, Nat.le_of_ble_eq_true rfl, Nat.le_of_ble_eq_true rfl⟩, hE, hAo, fun x hx => by obtain ⟨o, ho, rfl⟩ := hx; exact hAo o ho, hVR⟩
  obtain ⟨μ', hres⟩ := law_loop (fz := fz0 xs) (d := 0) (L := L) (FZ_ini xs) (by omega) L 0 (mu0 (fz0 xs)) (by omega) (by omega) RR_ini
  have hRT : RT p l e room_1 s m #[Value.ref b] below meth c (0 + 1 + 111 + 1 + 14) (0 + 8 + 1866 + 22 + 2009) (lw_Z below #[Value.ref b] s) (mxL 196) dC dI dA (adF q q2 g g2 t0 t1 b aK) L (fz0 xs) A (cb 196) (rt 196) (some (vI 1), μ') := by
    refine ⟨fun v μ2 pc lv he hd hty => ?_, (fun v μ2 pc lv he hd hty => by cases he), (fun v μ2 pc lv he hd hty => by cases he), (fun μ2 pc lv he hd hty => by cases he)⟩
    cases he
    intro H1 locs1 ls1 hW1 hS1 hl1 hst1
    refine va_forget (fun x hx => hA3 _ (hS1.2.2 x hx)) ?_
    refine W.widen (k := 600000) (n := 7302250) (Nat.le_of_ble_eq_true rfl) (Nat.le_of_ble_eq_true rfl) ?_
    exact lw_ret hx hb hr hlocks hd
  have hgo := snd_res hE ix_all (mm := 196) (d := 0 + 8) (b := 1) (by decide) hC ⟨Nat.le_of_ble_eq_true rfl, Nat.le_of_ble_eq_true rfl⟩ hRT hres
  rw [law_pc.1] at hgo
  refine hgo H locs ls hWD hS9 ⟨?_, ?_⟩ (fun v hv => by cases hv)
  · exact lv_sub hl [3, 2, 1, 0] rfl
  · intro i v hv
    have hi : i < 4 := (List.getElem?_eq_some_iff.mp hv).1
    have hi4 : i = 0 ∨ i = 1 ∨ i = 2 ∨ i = 3 := by omega
    rcases hi4 with rfl | rfl | rfl | rfl
    · cases hv; rfl
    · cases hv; rfl
    · cases hv; rfl
    · cases hv; trivial
set_option maxHeartbeats 4000000 in
theorem lw_walk (l : Launch) (hflags : l.flags = flags0) (b : Addr) (xs : List Int32) : MetFree l x (headSpec (Jvm.Cond.code x code maxLocals ret :: tables_1) room_1) (lw_P b xs) (fun _ _ _ _ _ => True) lw_Q := by
  refine MetFree.of_bodyS (code := code) (maxLocals := maxLocals) (ret := ret) (by decide) ?_ ?_
  · intro args s m h hn
    obtain ⟨meth, c, h1, h2, h3, h4, h5, h6, -, -⟩ := Cond.code_spec hn (atoms_spec (ws := Jvm.Cond.code x code maxLocals ret :: tables_1) h _ List.mem_cons_self)
    exact ⟨meth, c, h1, h2, h3, h4, h5, h6⟩
  · intro p e s m args below meth c s₁ B hml0 hP _
    obtain ⟨rfl, hx, hbd, hgv⟩ := hP
    obtain ⟨scr, harrAt, hlist, hof, hsmall⟩ := hx
    obtain ⟨hcb, hkn, -, -⟩ := State.arrayAt?_spec harrAt
    have hown : s.vm.findClass R_law = some m.cls := findClass_of_methodNamed B.named
    have hts0 : ∀ c ∈ (Jvm.Cond.code x code maxLocals ret :: tables_1), c.before #[Value.ref b] s = true := atoms_spec (ws := Jvm.Cond.code x code maxLocals ret :: tables_1) B.pre
    have hts : ∀ w ∈ lw_tbl, w.before #[Value.ref b] s = true := k2_hts_sels lw_privs (fun w hw => hts0 w (List.mem_cons_of_mem _ hw)) lw_privs_ok
    have hml : c.maxLocals = 4 := B.maxLocals_eq (hts0 _ List.mem_cons_self)
    have X₀ : Stand p l e room_1 s m #[Value.ref b] below meth c s₁ [] 0 0 := Stand.of_body B
    have hh0 : s₁.heap = s.heap := by rw [B.state]; rfl
    have hsz : scr.slots.size = xs.length := by rw [← Array.length_toList, hlist, List.length_map]
    have hval : ∀ j : Nat, j < xs.length → scr.slots[j]? = some (.int (xs.getD j 0)) := fun j hj => by
      rw [← Array.getElem?_toList, hlist]
      simp [hj]
    have hbl : b < s.heap.size := (Array.getElem?_eq_some_iff.mp hcb).1
    have hX : va_X b xs.length (fun j => xs.getD j 0) s s.heap := ⟨scr, hcb, hof, hkn, hsz, hval⟩
    have K : W p l e room_1 s m #[Value.ref b] below meth c s₁.heap [] 0 0 (lw_Z below #[Value.ref b] s) (entryFrame m ([Value.ref b] : List Value).toArray 4) := by
      rw [hh0]
      exact whole_start l hflags hbd ⟨B.exec, B.bytes, B.returns, hml, hown, hts, hX, hbl, B.notSynchronized, hgv⟩
    obtain ⟨t, a1, o, b1, b2, b3⟩ := K s₁ rfl X₀
    exact ⟨t, o, a1, b1, b2, b3⟩
theorem lw_pre_spec {args : Array Value} {s : State} (h : (Jvm.Cond.and given_1 narrow_1).before args s = true) (hr : rest_1_c.before args s = true) : ∃ (b : Addr) (xs : List Int32), lw_P b xs args s := by
  have hs := flat_of_before _ h
  have hq := flat_of_before _ hr
  have hc : (Cond.count 1).before args s = true := hs _ (by decide +kernel)
  have harr : (Cond.arrayOf (.arg 0) .int).before args s = true := hs _ (by decide +kernel)
  have hle : (Cond.le (.length (.arg 0)) (.int 3072)).before args s = true := hs _ (by decide +kernel)
  have hlen : (Cond.isInt (.length (.arg 0))).before args s = true := hq _ (by decide +kernel)
  have hall : (Cond.all (.arg 0) (.isInt (.elem (.arg 0) (.index 0)))).before args s = true := hq _ (by decide +kernel)
  obtain ⟨b, xs, hb, hx⟩ := State.ints_of_pre rfl harr hlen hall
  have hsm : xs.length < 2 ^ 31 := hx.choose_spec.2.2.2
  have hev : (Term.length (.arg 0)).eval args s none [] s = some (.int xs.length.toInt32) := hx.length_eval hb
  have hv := Cond.le_ints hev (show (Term.int 3072).eval args s none [] s = some (.int 3072) from rfl)
  have hd : xs.length.toInt32 ≤ 3072 := by
    simpa [Cond.before, Cond.holds, hv] using hle
  have hN : xs.length ≤ 3072 := (Int32.ofNat_le_ofNat hsm (by decide)).mp (show Int32.ofNat xs.length ≤ Int32.ofNat 3072 from hd)
  exact ⟨b, xs, Cond.one_arg hc (show args[0]? = some (.ref b) from hb), hx, hN, h⟩
theorem lw_comes (l : Launch) (hflags : l.flags = flags0) : Comes l x (Jvm.Cond.code x code maxLocals ret :: tables_1) room_1 (fun tb e args s => Calls_1 tb e args s ∧ rest_1 tb e args s ∧ Pre_1 tb e args s)
    (fun _ _ args s o t => lw_Q args s o t) := by
  intro p e ha hc hk s m args below hf hfit hheap happ hpre
  obtain ⟨b, xs, hP⟩ := lw_pre_spec hpre.2.2 hpre.2.1
  obtain ⟨k, o, h1, h2, h3, hQ⟩ := lw_walk l hflags b xs p e ha hc hk s m args below hf ((Spec.applies_iff_loose hf).mp happ).1 hP trivial
  exact ⟨k, o, h1, h2, h3, hQ⟩
theorem lw_frame {s t : State} {o : Outcome} {args : Array Value} (h : Framed s o t [] 600000 7302250) :
    Framed s o t (fieldLocs frame_1_writes args s ++ arrayLocs frame_1_arrays args s ++ staticLocs frame_1_statics s) 600000 7302250 := h
theorem lw_limb (L : Cond) (hL : ∀ (args : Array Value) (s t : State), L.after args s (.returned (some (.int 1))) t = true) :
    ArmFor flags0 classFile x code maxLocals ret World_1 tables_1 room_1 Calls_1 rest_1 Pre_1
      (fun tb e a s o t => postC L tb e a s o t ∧ Framed s o t (fieldLocs frame_1_writes a s ++ arrayLocs frame_1_arrays a s ++ staticLocs frame_1_statics s) 600000 7302250) := by
  intro l hflags _ _ p e ha hc hk s m args below hf hfit hheap happ hpre
  obtain ⟨k, o, h1, h2, h3, rfl, hF⟩ := lw_comes l hflags p e ha hc hk s m args below hf hfit hheap happ hpre
  exact ⟨k, _, h1, h2, h3, hL args s _, lw_frame hF⟩
theorem i_vc : Claimed_1_1 ∧ Claimed_1_2 := ⟨lw_limb limb_1_1 (fun args s t => by simp [limb_1_1, Cond.after, Cond.holds, Cond.value]), lw_limb limb_1_2 (fun args s t => Cond.after_iff.mpr (by
  first | (rw [show limb_1_2 = Cond.eq .result (.int 1) from rfl, Cond.eq_ints (x := 1) (y := 1) rfl rfl]; simp; done) | (simp [limb_1_2, Cond.value, Term.eval]; done)))⟩

