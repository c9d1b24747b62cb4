/-! SOUNDNESS: what the abstract machine answers, the machine answers. -/
def rmm (d mm : Nat) : Room := { frames := rkm mm + 12 + 40 * d, cells := 0, slots := 0, locals := 60 * (rkm mm + 12 + 40 * d) }
def wss (mm : Nat) : List Cond := Cond.code (yy mm) (cb mm) (mxL mm) (rt mm) :: lw_tb
def PC (dC : Nat → ClassId) (dI : Nat → Nat → Nat) (dA : Nat → ClassId) (ad : Nat → Nat) (L : Nat) (fz : Mem) (as : List AV) (μ : Mem) : Array Value → State → Prop := va_Pc (as.map (cv ad)) (fun U => WD dC dI dA ad L fz (Fr ad) μ U U.heap ∧ VR ad U)
def QC (dC : Nat → ClassId) (dI : Nat → Nat → Nat) (dA : Nat → ClassId) (ad : Nat → Nat) (L : Nat) (fz : Mem) (r : Option AV × Mem) : Array Value → State → Outcome → State → Prop := fun _ st oc t => ((oc = .returned (r.1.map (cv ad)) ∧ ∀ v, r.1 = some v → vOk L v) ∧ va_P (dC, dI) vwCl (wsA dA ad r.2) t.heap ∧ ∀ o, 127 ≤ o → r.2 o = fz o) ∧ va_F (Fr ad) st t
/-- method mm, called with as over μ, answers r -/
def MT (l : Launch) (dC : Nat → ClassId) (dI : Nat → Nat → Nat) (dA : Nat → ClassId) (ad : Nat → Nat) (L : Nat) (fz : Mem) (d mm : Nat) (as : List AV) (μ : Mem) (r : Option AV × Mem) : Prop := Met l (yy mm) (wss mm) (rmm d mm) (PC dC dI dA ad L fz as μ) (QC dC dI dA ad L fz r) 0 0 (Fr ad)
theorem PC_blind {dC : Nat → ClassId} {dI : Nat → Nat → Nat} {dA : Nat → ClassId} {ad : Nat → Nat} {L : Nat} {fz : Mem} {as : List AV} {μ : Mem} : FrameBlind (PC dC dI dA ad L fz as μ) := by
  intro a U g mk h
  obtain ⟨h1, h2, h3⟩ := h
  exact ⟨h1, h2.moved (U := U.calling g mk a) (Vm.Alike.refl U.vm), h3.same rfl⟩
theorem cat_sum {ad : Nat → Nat} : ∀ (n : Nat) (st : List AV), catOK n st = true → ((st.map (cv ad)).map fun v => v.category).sum ≤ n := by
  intro n st
  induction st generalizing n with
  | nil => intro _; simp
  | cons v r ih =>
    intro h
    rcases v with v | v | v
    · cases n with
      | zero => exact absurd h (by simp [catOK])
      | succ n =>
        have := ih n h
        have e : (cv ad (Sum.inl v)).category = 1 := rfl
        simp only [List.map_cons, List.sum_cons, e]
        omega
    · cases n with
      | zero => exact absurd h (by simp [catOK])
      | succ n =>
        cases n with
        | zero => exact absurd h (by simp [catOK])
        | succ n =>
          have := ih n h
          have e : (cv ad (Sum.inr (Sum.inl v))).category = 2 := rfl
          simp only [List.map_cons, List.sum_cons, e]
          omega
    · cases n with
      | zero => exact absurd h (by simp [catOK])
      | succ n =>
        have := ih n h
        have e : (cv ad (Sum.inr (Sum.inr v))).category = 1 := rfl
        simp only [List.map_cons, List.sum_cons, e]
        omega
theorem okS_le : ∀ (n : Nat) (st : List AV), okS n st = true → n ≤ st.length ∧ catOK 8 (drA n st) = true := by
  intro n
  induction n with
  | zero => intro st h; rw [os_0] at h; exact ⟨Nat.zero_le _, by rw [dr_0]; exact h⟩
  | succ n ih =>
    intro st h
    cases st with
    | nil => exact absurd h (by simp [okS])
    | cons v r =>
      obtain ⟨h1, h2⟩ := ih r h
      exact ⟨by simp; omega, h2⟩
theorem tk_dr : ∀ (n : Nat) (st acc : List AV), n ≤ st.length → (tkA n st acc).reverse ++ drA n st = acc.reverse ++ st ∧ (tkA n st acc).length = n + acc.length := by
  intro n
  induction n with
  | zero => intro st acc _; rw [tk_0, dr_0]; exact ⟨rfl, by simp⟩
  | succ n ih =>
    intro st acc h
    cases st with
    | nil => exact absurd h (by simp)
    | cons v r =>
      obtain ⟨h1, h2⟩ := ih r (v :: acc) (by simp at h; omega)
      rw [tk_s, dr_s]
      refine ⟨by rw [h1]; simp, by rw [h2]; simp; omega⟩
theorem mem_tk {n : Nat} {st : List AV} {L : Nat} (hn : n ≤ st.length) (h : ∀ w ∈ st, vOk L w) : (∀ w ∈ tkA n st [], vOk L w) ∧ ∀ w ∈ drA n st, vOk L w := by
  have e := (tk_dr n st [] hn).1
  simp only [List.reverse_nil, List.nil_append] at e
  refine ⟨fun w hw => h w ?_, fun w hw => h w ?_⟩
  · rw [← e]; exact List.mem_append_left _ (List.mem_reverse.mpr hw)
  · rw [← e]; exact List.mem_append_right _ hw
theorem sl_len (ad : Nat → Nat) : ∀ as : List AV, (lg_sl (as.map (cv ad))).length = slA as := by
  intro as
  induction as with
  | nil => rfl
  | cons v r ih =>
    have e : lg_sl ((v :: r).map (cv ad)) = (if (cv ad v).category = 2 then [Slot.val (cv ad v), .second] else [.val (cv ad v)]) ++ lg_sl (r.map (cv ad)) := rfl
    rw [e, List.length_append, ih]
    rcases v with v | v | v
    · show 1 + slA r = slA r + 1; omega
    · show 2 + slA r = slA r + 2; omega
    · show 1 + slA r = slA r + 1; omega
theorem ent_at (ad : Nat → Nat) : ∀ (as : List AV) (n i k : Nat) (v : AV), slA as ≤ n → (entL n as)[i]? = some (some v) → (k + i, cv ad v) ∈ lv_args k (as.map (cv ad)) ∧ v ∈ as := by
  intro as
  induction as with
  | nil =>
    intro n
    induction n with
    | zero => intro i k v _ h; rw [en_0] at h; exact absurd h (by simp)
    | succ n ih =>
      intro i k v hs h
      rw [en_n] at h
      cases i with
      | zero => exact absurd h (by simp)
      | succ i => exact absurd (ih i (k + 1) v (Nat.zero_le _) (by simpa using h)).2 (by simp)
  | cons a r ih =>
    intro n i k v hs h
    rcases a with a | a | a
    · cases n with
      | zero => exact absurd hs (by simp [slA])
      | succ n =>
        rw [en_i] at h
        cases i with
        | zero =>
          have e : vI a = v := by simpa using h
          subst e
          exact ⟨List.mem_cons_self, List.mem_cons_self⟩
        | succ i =>
          obtain ⟨h1, h2⟩ := ih n i (k + 1) v (by simp [slA] at hs; omega) (by simpa using h)
          refine ⟨List.mem_cons_of_mem _ ?_, List.mem_cons_of_mem _ h2⟩
          rw [show k + (i + 1) = k + 1 + i by omega]
          exact h1
    · cases n with
      | zero => exact absurd hs (by simp [slA])
      | succ n =>
        cases n with
        | zero => exact absurd hs (by simp [slA])
        | succ n =>
          rw [en_l] at h
          cases i with
          | zero =>
            have e : vL a = v := by simpa using h
            subst e
            exact ⟨List.mem_cons_self, List.mem_cons_self⟩
          | succ i =>
            cases i with
            | zero => exact absurd h (by simp)
            | succ i =>
              obtain ⟨h1, h2⟩ := ih n i (k + 2) v (by simp [slA] at hs; omega) (by simpa using h)
              refine ⟨List.mem_cons_of_mem _ ?_, List.mem_cons_of_mem _ h2⟩
              rw [show k + (i + 1 + 1) = k + 2 + i by omega]
              exact h1
    · cases n with
      | zero => exact absurd hs (by simp [slA])
      | succ n =>
        rw [en_a] at h
        cases i with
        | zero =>
          have e : (Sum.inr (Sum.inr a) : AV) = v := by simpa using h
          subst e
          exact ⟨List.mem_cons_self, List.mem_cons_self⟩
        | succ i =>
          obtain ⟨h1, h2⟩ := ih n i (k + 1) v (by simp [slA] at hs; omega) (by simpa using h)
          refine ⟨List.mem_cons_of_mem _ ?_, List.mem_cons_of_mem _ h2⟩
          rw [show k + (i + 1) = k + 1 + i by omega]
          exact h1
theorem ent_ok {ad : Nat → Nat} {L : Nat} {as : List AV} {n : Nat} (hs : slA as ≤ n) (h : ∀ v ∈ as, vOk L v) : lvOk ad L ((lg_sl (as.map (cv ad)) ++ List.replicate (n - (lg_sl (as.map (cv ad))).length) Slot.unset).toArray) n (entL n as) := by
  have h1 := lv_entry (as.map (cv ad)) (n := n) (by rw [sl_len]; exact hs)
  refine ⟨⟨h1.1, h1.2.1, fun q hq => ?_⟩, fun i v hv => h v (ent_at ad as n i 0 v hs hv).2⟩
  obtain ⟨v, hv, e⟩ := mem_cvL.mp hq
  have h2 := (ent_at ad as n q.1 0 v hs hv).1
  rw [Nat.zero_add, ← e] at h2
  exact h1.2.2 q h2
section SND
variable {p : Program} {l : Launch} {e : Env} {R : Room} {s : State} {m : MethodId} {args : Array Value} {below : List Frame} {meth : Method} {c : Code} {cells slots : Nat} {Q : State → Prop} {nL : Nat} {dC : Nat → ClassId} {dI : Nat → Nat → Nat} {dA : Nat → ClassId} {ad : Nat → Nat} {L : Nat} {fz : Mem} {A : Nat → Prop}
/-- what must be shown at the method's return -/
def RT (p : Program) (l : Launch) (e : Env) (R : Room) (s : State) (m : MethodId) (args : Array Value) (below : List Frame) (meth : Method) (c : Code) (cells slots : Nat) (Q : State → Prop) (nL : Nat) (dC : Nat → ClassId) (dI : Nat → Nat → Nat) (dA : Nat → ClassId) (ad : Nat → Nat) (L : Nat) (fz : Mem) (A : Nat → Prop) (cc : ByteArray) (rty : Option FieldType) (r : Option AV × Mem) : Prop :=
  (∀ v μ' pc lv, r = (some (vI v), μ') → decode cc pc = .ok (.ireturn, 1) → (rty = some .int ∨ (rty = some .boolean ∧ (v = 0 ∨ v = 1))) → GO p l e R s m args below meth c cells slots Q nL dC dI dA ad L fz A pc lv [vI v] μ') ∧
  (∀ v μ' pc lv, r = (some (vL v), μ') → decode cc pc = .ok (.lreturn, 1) → rty = some .long → GO p l e R s m args below meth c cells slots Q nL dC dI dA ad L fz A pc lv [vL v] μ') ∧
  (∀ (v : Nat × Nat) μ' pc lv, r = (some (Sum.inr (Sum.inr v)), μ') → decode cc pc = .ok (.areturn, 1) → (∃ n, rty = some (.object n)) → GO p l e R s m args below meth c cells slots Q nL dC dI dA ad L fz A pc lv [Sum.inr (Sum.inr v)] μ') ∧
  (∀ μ' pc lv, r = (none, μ') → decode cc pc = .ok (.return_, 1) → rty = none → GO p l e R s m args below meth c cells slots Q nL dC dI dA ad L fz A pc lv [] μ')
theorem run_go {pc : Nat} {ls : Array Slot} {rest st0 : List Value} {a : Array Value} {q : Option AV × Mem} {H : Heap} {locs : List Loc} (hr : va_Run p l e R s m args below meth c H locs cells slots 0 0 (F0 m pc ls st0) rest (QC dC dI dA ad L fz q a) (Fr ad)) (hA2 : ∀ x, Fr ad x → A x) (hS : va_S A s.heap H locs)
    (kk : ∀ (H1 : Heap) (locs1 : List Loc), (∀ v, q.1 = some v → vOk L v) → va_P (dC, dI) vwCl (wsA dA ad q.2) H1 → (∀ o, 127 ≤ o → q.2 o = fz o) → (∀ x : Nat, x < H.size → ¬ A x → H1[x]? = H[x]?) → va_S A s.heap H1 locs1 → W p l e R s m args below meth c H1 locs1 cells slots Q (F0 m (pc + 3) ls ((q.1.map (cv ad)).toList ++ rest))) : W p l e R s m args below meth c H locs cells slots Q (F0 m pc ls st0) := by
  intro T hT X
  obtain ⟨v, st₀, t, T', L', h0, X', hL, e1, e2, ⟨⟨⟨hv, hval⟩, hP, hz⟩, hz1, hk⟩, st⟩ := hr T hT X
  have hv : v = q.1.map (cv ad) := by
    have := hv
    injection this
  subst hv
  rw [h0] at hz1 hk
  obtain ⟨t2, a1, b1⟩ := kk T'.heap (locs ++ L') hval (by rw [e1]; exact hP) hz (fun x h1 h2 => by rw [e1]; exact hk x h1 (fun z => h2 (hA2 x z)))
    ⟨Nat.le_trans hS.1 (by rw [e1]; exact hz1), fun x h1 h2 => by rw [e1, hk x (Nat.lt_of_lt_of_le h1 hS.1) (fun z => h2 (hA2 x z))]; exact hS.2.1 x h1 h2, fun x hx => by
      rcases List.mem_append.mp hx with h | h
      · exact hS.2.2 x h
      · exact hA2 _ (hL x h)⟩ T' rfl X'
  exact ⟨t2, st t2 a1, b1⟩
theorem wss_ride (hts : ∀ w ∈ lw_tb, w.before args s = true) {mm : Nat} (hm : mm < 196) : ∀ w ∈ wss mm, ∀ (a' : Array Value) (U : State), s.WarmedH U.vm → w.before a' U = true := by
  intro w hw
  rcases List.mem_cons.mp hw with h | h
  · subst h
    exact ride g_code (hts _ (in_tb (MT_code mm hm) g_code))
  · exact tb_ride hts w h
theorem mt_kind {mm : Nat} (hm : mm < 196) : (isS mm = true → Cond.static (yy mm) ∈ lw_tbl) ∧ (isS mm = false → Cond.instanceMethod (yy mm) ∈ lw_tbl ∧ Cond.selects (yy mm).cls (yy mm) (yy mm) ∈ lw_tbl) ∧ Cond.initialized (yy mm).cls ∈ lw_tbl ∧ (yy mm).cls = cn (cix mm) ∧ ((yy mm).cls ≠ "java/lang/invoke/MethodHandle" ∧ (yy mm).cls ≠ "java/lang/invoke/VarHandle") ∧ (parseMethodDescriptor (yy mm).desc).map (fun d => d.parameters.length) = some (na mm) ∧ mxL mm ≤ 41 ∧ rkm mm ≤ 30 ∧ plainName (yy mm).cls = true := by
  have k1 := of_decide_eq_true (List.all_eq_true.mp MT_kind mm (List.mem_range.mpr hm))
  have k2 := List.all_eq_true.mp MT_sel mm (List.mem_range.mpr hm)
  have k3 := of_decide_eq_true (List.all_eq_true.mp MT_init mm (List.mem_range.mpr hm))
  have k4 := List.all_eq_true.mp MT_plain mm (List.mem_range.mpr hm)
  simp only [Bool.and_eq_true, decide_eq_true_eq] at k4
  obtain ⟨a1, a2, a3, a4, a5, a6, a7⟩ := k4
  refine ⟨fun h => ?_, fun h => ⟨?_, ?_⟩, List.mem_of_getElem? k3, a2, ⟨a3, a4⟩, a5, a6, a7, a1⟩
  · rw [if_pos h] at k1; exact List.mem_of_getElem? k1
  · rw [if_neg (by rw [h]; decide)] at k1; exact List.mem_of_getElem? k1
  · rw [h, Bool.false_or] at k2
    exact List.mem_of_getElem? (of_decide_eq_true k2)
theorem call_ok {cc : ByteArray} {ci mm k pc len : Nat} {st : Bool} {z m' n rc d d' : Nat} {lv : LV} {stk : List AV} {μ : Mem} {q : Option AV × Mem} (hC : CX p R s m args c cells slots nL ad A cc ci) (hRm : rkm mm + 12 + 40 * d ≤ R.frames ∧ 60 * (rkm mm + 12 + 40 * d) ≤ R.locals) (hd : decode cc pc = .ok (if st = true then .invokestatic k else .invokevirtual k, 3)) (hI : okCall ci mm k st [z, m', n, rc] = true) (hok : okS n stk = true) (hrc : rcv z (tkA n stk []) = true)
    (hdd : (rc = 0 ∧ d' = d) ∨ (rc = 1 ∧ d = d' + 1)) (hM : (∀ v ∈ tkA n stk [], vOk L v) → MT l dC dI dA ad L fz d' m' (tkA n stk []) μ q) (kk : (∀ v, q.1 = some v → vOk L v) → GO p l e R s m args below meth c cells slots Q nL dC dI dA ad L fz A (pc + 3) lv (pushR q.1 (drA n stk)) q.2) : GO p l e R s m args below meth c cells slots Q nL dC dI dA ad L fz A pc lv stk μ := by
  obtain ⟨⟨hx, hb, hml, hown, hts⟩, ⟨hR1, hR2, hR3, hR4⟩, hE, hA, hA2, hV⟩ := id hC
  simp only [okCall, Bool.and_eq_true, Bool.or_eq_true, decide_eq_true_eq, beq_iff_eq] at hI
  obtain ⟨hCL, hm, hst, hk, hrk⟩ := hI
  obtain ⟨k1, k2, k3, k4, k5, k6, k7, k8, k9⟩ := mt_kind hm
  obtain ⟨hn, hct⟩ := okS_le n stk hok
  obtain ⟨htk, hlen⟩ := tk_dr n stk [] hn
  simp only [List.reverse_nil, List.nil_append, List.length_nil, Nat.add_zero] at htk hlen
  intro H locs ls hW hS hl hv
  obtain ⟨hv1, hv2⟩ := mem_tk hn hv
  have hM := hM hv1
  have hroom : (rmm d' m').frames + 1 ≤ R.frames ∧ 8 + (mxL m' + 11) + (rmm d' m').locals ≤ R.locals := by
    have f1 : (rmm d' m').frames = rkm m' + 12 + 40 * d' := rfl
    have f2 : (rmm d' m').locals = 60 * (rkm m' + 12 + 40 * d') := rfl
    have hlt : rkm m' + 12 + 40 * d' + 1 ≤ rkm mm + 12 + 40 * d := by
      rcases hdd with ⟨h1, h2⟩ | ⟨h1, h2⟩
      · subst h2
        rcases hrk with h | ⟨_, h⟩
        · rw [h1] at h; cases h
        · omega
      · omega
    omega
  have hcodeT : (Cond.code (yy m') (cb m') (mxL m') (rt m')).before args s = true := hts _ (in_tb (MT_code m' hm) g_code)
  have hini : (Cond.initialized (yy m').cls).before args s = true := hts _ (in_tb k3 g_ini)
  have hws := wss_ride hts hm
  have hpar : ∀ sig, parseMethodDescriptor (yy m').desc = some sig → na m' = sig.parameters.length := by
    intro sig h
    rw [h] at k6
    exact (Option.some.inj k6).symm
  have hCF : CallFix p m c cc nL s args lw_tb (cn ci) := ⟨hx, hb, hml, hown, hts⟩
  have hmon : 2 * (F0 m pc ls (stk.map (cv ad))).monitorRoom + (((drA n stk).map (cv ad)).map fun v => v.category).sum ≤ 8 := lv_room (rest := stk.map (cv ad)) (cat_sum 8 _ hct)
  have hcont : ∀ (H1 : Heap) (locs1 : List Loc), (∀ v, q.1 = some v → vOk L v) → va_P (dC, dI) vwCl (wsA dA ad q.2) H1 → (∀ o, 127 ≤ o → q.2 o = fz o) → (∀ x : Nat, x < H.size → ¬ A x → H1[x]? = H[x]?) → va_S A s.heap H1 locs1 → W p l e R s m args below meth c H1 locs1 cells slots Q (F0 m (pc + 3) ls ((q.1.map (cv ad)).toList ++ (drA n stk).map (cv ad))) := by
    intro H1 locs1 hval hP1 hz hfr hS1
    have h := kk hval H1 locs1 ls (hW.put hP1 hz hfr) hS1 hl (by
      intro w hw
      cases hq : q.1 with
      | none => rw [hq] at hw; exact hv2 w hw
      | some v =>
        rw [hq] at hw
        rcases List.mem_cons.mp hw with h | h
        · rw [h]; exact hval v hq
        · exact hv2 w h)
    have e : (pushR q.1 (drA n stk)).map (cv ad) = (q.1.map (cv ad)).toList ++ (drA n stk).map (cv ad) := by
      cases q.1 <;> rfl
    rw [e] at h
    exact h
  have hpre : ∀ U : State, U.heap = H → s.WarmedH U.vm → PC dC dI dA ad L fz (tkA n stk []) μ (((tkA n stk []).map (cv ad)).toArray) U := by
    intro U hU hWm
    refine ⟨rfl, ?_, hV.warm hWm⟩
    rw [hU]
    exact (hW.narrow hA2).moved hWm.alike
  have hstack : stk.map (cv ad) = ((tkA n stk []).map (cv ad)).reverse ++ (drA n stk).map (cv ad) := by
    rw [← List.map_reverse, ← List.map_append, htk]
  cases st with
  | true =>
    simp only [if_true, Bool.and_eq_true, beq_iff_eq] at hk hd
    obtain ⟨hz0, hn0⟩ := hk
    have hstat := hts _ (in_tb (k1 hst) g_st)
    rcases CL_get hCL with hL | hL
    · exact run_go (va_runS (As := (tkA n stk []).map (cv ad)) (rest := (drA n stk).map (cv ad)) (n := na m') hCF hM ⟨⟨rfl, rfl, hroom.1, hroom.2, hws, List.mem_cons_self, hcodeT, hini, k5, hpar, hts _ (in_tb hL g_ml)⟩, hstat⟩ ⟨PC_blind, hpre⟩ rfl (by rw [List.length_map, hlen]; exact hn0) hl.1.1 hstack hmon hd ⟨hR3, hR4⟩) hA2 hS hcont
    · exact run_go (va_runSN (As := (tkA n stk []).map (cv ad)) (rest := (drA n stk).map (cv ad)) (n := na m') hCF hM ⟨⟨⟨rfl, rfl, hroom.1, hroom.2, hws, List.mem_cons_self⟩, hcodeT, hini, k5, hpar, hts _ (in_tb hL rfl)⟩, hstat, trivial⟩ ⟨PC_blind, hpre⟩ rfl (by rw [List.length_map, hlen]; exact hn0) hl.1.1 hstack hmon hd ⟨hR3, hR4⟩) hA2 hS hcont
  | false =>
    simp only [Bool.false_eq_true, if_false, Bool.and_eq_true, beq_iff_eq] at hk hd
    obtain ⟨hz0, hn0⟩ := hk
    obtain ⟨ki, ks⟩ := k2 hst
    have hinst := hts _ (in_tb ki g_in)
    have hsel := hts _ (in_tb ks g_se)
    rcases htA : tkA n stk [] with _ | ⟨v0, As⟩
    · rw [htA] at hlen; simp at hlen; omega
    · rw [htA, hz0] at hrc
      rcases v0 with v0 | v0 | ⟨kr, ob⟩
      · exact absurd hrc (by simp [rcv])
      · exact absurd hrc (by simp [rcv])
      · have hkr : kr = cix m' := by simpa [rcv] using hrc
        rw [htA] at hv1 hM hpre hstack hlen
        have hvr : vOk L (Sum.inr (Sum.inr (kr, ob))) := hv1 _ List.mem_cons_self
        have hk9 : kr < 9 := by
          rw [hkr]
          exact of_decide_eq_true (List.all_eq_true.mp (show (List.range 196).all (fun m => decide (cix m < 9)) = true by decide +kernel) m' (List.mem_range.mpr hm))
        obtain ⟨ho, hko⟩ := okO hvr (by omega) (by omega) (by omega) (by omega)
        have he : (wsA dA ad μ)[ob]? = some (ad ob, .inr (kr, fv ad μ kr ob)) := by rw [wsA_at ho, hko]; unfold ent; rw [if_pos hk9]
        have hrec := va_recv hW.1 hW.2.1 (cl_at kr hk9) he
        have hrec2 : ∃ cell : Cell, H[ad ob]? = some cell ∧ cell.vm.isStatics = false ∧ s.vm.findClass (yy m').cls = some cell.cls := by
          rw [k4, ← hkr]; exact hrec
        have hstack2 : stk.map (cv ad) = (As.map (cv ad)).reverse ++ .ref (ad ob) :: (drA n stk).map (cv ad) := by
          rw [hstack, List.map_cons, List.reverse_cons, List.append_assoc]
          rfl
        have hAl : (As.map (cv ad)).length = na m' := by
          rw [List.length_map]
          simp only [List.length_cons] at hlen
          omega
        rcases CL_get hCL with hL | hL
        · exact run_go (va_runV (As := As.map (cv ad)) (rest := (drA n stk).map (cv ad)) (n := na m') (C := (yy m').cls) (b := ad ob) hCF hM ⟨⟨rfl, rfl, hroom.1, hroom.2, hws, List.mem_cons_self, hcodeT, hini, k5, hpar, hts _ (in_tb hL g_ml)⟩, hinst, hsel⟩ ⟨PC_blind, hrec2, hpre⟩ rfl hAl hl.1.1 hstack2 hmon hd ⟨hR3, hR4⟩) hA2 hS hcont
        · exact run_go (va_runVN (As := As.map (cv ad)) (rest := (drA n stk).map (cv ad)) (n := na m') (C := (yy m').cls) (b := ad ob) hCF hM ⟨⟨⟨rfl, rfl, hroom.1, hroom.2, hws, List.mem_cons_self⟩, hcodeT, hini, k5, hpar, hts _ (in_tb hL rfl)⟩, hinst, hsel⟩ ⟨PC_blind, hrec2, hpre⟩ rfl hAl hl.1.1 hstack2 hmon hd ⟨hR3, hR4⟩) hA2 hS hcont
end SND
