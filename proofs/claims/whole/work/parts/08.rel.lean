/-! THE TIES between abstract values and memory and the machine's. Parameters: dC, dI the classes and their slots; dA the array classes; ad the addresses; L the script's length; fz what never changes. -/
def cv (ad : Nat → Nat) (v : AV) : Value := match v with
  | Sum.inl x => .int x
  | Sum.inr (Sum.inl x) => .long x
  | Sum.inr (Sum.inr q) => .ref (ad q.2)
def vOk (L : Nat) (v : AV) : Prop := match v with
  | Sum.inr (Sum.inr q) => kdL L q.2 = q.1
  | _ => True
def fv (ad : Nat → Nat) (μ : Mem) (k o : Nat) : List Value := (List.range (fl k).length).map fun j => match (fl k)[j]? with
  | some (some q) => .ref (ad (o + q.2))
  | _ => .int (μ o j)
def ent (dA : Nat → ClassId) (ad : Nat → Nat) (μ : Mem) (k o : Nat) : va_E := if k < 9 then .inr (k, fv ad μ k o) else match elm k with
  | some (n, _, dl, s) => .inl (dA (k - 9), n, .inr (.inr (.inr (.inr (fun i => some (ad (o + dl + s * i)))))))
  | none => .inl (dA 0, k - 100, .inl (μ o))
def wsA (dA : Nat → ClassId) (ad : Nat → Nat) (μ : Mem) : va_W := (List.range 127).map fun o => (ad o, ent dA ad μ (kd o) o)
theorem wsA_at {dA : Nat → ClassId} {ad : Nat → Nat} {μ : Mem} {o : Nat} (h : o < 127) : (wsA dA ad μ)[o]? = some (ad o, ent dA ad μ (kd o) o) := by
  unfold wsA
  rw [List.getElem?_map, List.getElem?_range h]
  rfl
theorem wsA_out {dA : Nat → ClassId} {ad : Nat → Nat} {μ : Mem} {o : Nat} (h : ¬ o < 127) : (wsA dA ad μ)[o]? = none := by
  unfold wsA
  rw [List.getElem?_eq_none]
  simp
  omega
theorem fv_len {ad : Nat → Nat} {μ : Mem} {k o : Nat} : (fv ad μ k o).length = (fl k).length := by simp [fv]
theorem fv_get {ad : Nat → Nat} {μ : Mem} {k o j : Nat} (h : j < (fl k).length) : (fv ad μ k o)[j]? = some (match (fl k)[j]? with
  | some (some q) => .ref (ad (o + q.2))
  | _ => .int (μ o j)) := by
  unfold fv
  rw [List.getElem?_map, List.getElem?_range h]
  rfl
theorem fv_i {ad : Nat → Nat} {μ : Mem} {k o j : Nat} (h : (fl k)[j]? = some none) : (fv ad μ k o)[j]? = some (.int (μ o j)) := by
  rw [fv_get (List.getElem?_eq_some_iff.mp h).1, h]
theorem fv_r {ad : Nat → Nat} {μ : Mem} {k o j : Nat} {q : Nat × Nat} (h : (fl k)[j]? = some (some q)) : (fv ad μ k o)[j]? = some (.ref (ad (o + q.2))) := by
  rw [fv_get (List.getElem?_eq_some_iff.mp h).1, h]
theorem ent_congr {dA : Nat → ClassId} {ad : Nat → Nat} {μ μ' : Mem} {k o : Nat} (h : μ' o = μ o) : ent dA ad μ' k o = ent dA ad μ k o := by
  unfold ent fv
  rw [h]
theorem wsA_set {dA : Nat → ClassId} {ad : Nat → Nat} {μ μ' : Mem} {o : Nat} {e : va_E} (ho : o < 127) (h : ∀ a, a ≠ o → μ' a = μ a) (he : ent dA ad μ' (kd o) o = e) : (wsA dA ad μ).set o (ad o, e) = wsA dA ad μ' := by
  refine List.ext_getElem? fun i => ?_
  rw [List.getElem?_set]
  by_cases hi : o = i
  · subst hi
    rw [if_pos rfl, wsA_at ho, he]
    rw [if_pos (by unfold wsA; simp; omega)]
  · rw [if_neg hi]
    by_cases h2 : i < 127
    · rw [wsA_at h2, wsA_at h2, ent_congr (h i (Ne.symm hi))]
    · rw [wsA_out h2, wsA_out h2]
theorem up_ne {μ : Mem} {o j : Nat} {v : Int32} {a : Nat} (h : a ≠ o) : up μ o j v a = μ a := by
  funext b
  exact if_neg (fun q => h q.1)
theorem up_at {μ : Mem} {o j : Nat} {v : Int32} : up μ o j v o = upd (μ o) j v := by
  funext b
  unfold up upd
  by_cases h : b = j
  · rw [if_pos ⟨rfl, h⟩, if_pos h]
  · rw [if_neg (fun q => h q.2), if_neg h]
theorem cpy_ne {μ : Mem} {o1 sp o2 dp n a : Nat} (h : a ≠ o2) : cpy μ o1 sp o2 dp n a = μ a := by
  funext b
  exact if_neg (fun q => h q.1)
theorem cpy_at {μ : Mem} {o1 sp o2 dp n : Nat} : cpy μ o1 sp o2 dp n o2 = va_cpy (μ o1) (μ o2) sp dp n := by
  funext b
  unfold cpy va_cpy
  by_cases h : dp ≤ b ∧ b < dp + n
  · rw [if_pos ⟨rfl, h⟩, if_pos h]
  · rw [if_neg (fun q => h q.2), if_neg h]
theorem fv_up {ad : Nat → Nat} {μ : Mem} {k o j : Nat} {v : Int32} (h : (fl k)[j]? = some none) : (fv ad μ k o).set j (.int v) = fv ad (up μ o j v) k o := by
  refine List.ext_getElem? fun i => ?_
  rw [List.getElem?_set]
  by_cases hi : j = i
  · subst hi
    rw [if_pos rfl, if_pos (by rw [fv_len]; exact (List.getElem?_eq_some_iff.mp h).1), fv_i h]
    unfold up
    rw [if_pos ⟨rfl, rfl⟩]
  · rw [if_neg hi]
    by_cases h2 : i < (fl k).length
    · rw [fv_get h2, fv_get h2]
      unfold up
      rw [if_neg (fun q => hi q.2.symm)]
    · rw [List.getElem?_eq_none (by rw [fv_len]; omega), List.getElem?_eq_none (by rw [fv_len]; omega)]
def tyA (dA : Nat → ClassId) : List (ClassId × FieldType) := [(dA 0, .int), (dA 1, .object "TakenUp$Law"), (dA 2, .object "TakenUp$Rest"), (dA 3, .object "TakenUp$Sheet"), (dA 4, .object "TakenUp$Worker")]
/-- the cells that may be written -/
def Fr (ad : Nat → Nat) : Nat → Prop := fun q => ∃ o, o < 127 ∧ q = ad o
/-- what never changes -/
def WS (ad : Nat → Nat) (L : Nat) (fz : Mem) (A : Nat → Prop) (U : State) (H : Heap) : Prop :=
  (va_T .int (ad 200) 7 (fun j => .int (fz 200 j)) A U H ∧ va_T .int (ad 201) 28 (fun j => .int (fz 201 j)) A U H ∧ va_T .int (ad 202) L (fun j => .int (fz 202 j)) A U H) ∧
  (va_Z "TakenUp" "KIND_ABOVE" "[I" (.ref (ad 200)) A U H ∧ va_Z "TakenUp" "BODIES" "[I" (.ref (ad 201)) A U H ∧ va_Z "java/lang/String" "COMPACT_STRINGS" "Z" (.int 1) A U H) ∧
  ∃ adV : Nat → Nat, vk_S 2 [4, 3] [[100, 116, 110, 109], [100, 104, 108]] (fun i => ad (203 + i)) adV A U H
theorem WS.moved {ad : Nat → Nat} {L : Nat} {fz : Mem} {A : Nat → Prop} {u U : State} {H : Heap} (hvm : u.vm.Alike U.vm) (h : WS ad L fz A u H) : WS ad L fz A U H := by
  obtain ⟨⟨a1, a2, a3⟩, ⟨c1, c2, c3⟩, v, d⟩ := h
  exact ⟨⟨a1.moved hvm, a2.moved hvm, a3.moved hvm⟩, ⟨c1.moved hvm, c2.moved hvm, c3.moved hvm⟩, v, d.moved hvm⟩
theorem va_X.lt {b L : Nat} {xs : Nat → Int32} {U : State} {H : Heap} (h : va_X b L xs U H) : b < H.size := by
  obtain ⟨scr, h1, -⟩ := h
  exact (Array.getElem?_eq_some_iff.mp h1).1
theorem WS.kept {ad : Nat → Nat} {L : Nat} {fz : Mem} {A : Nat → Prop} {U : State} {H H1 : Heap} (h : WS ad L fz A U H) (hq : ∀ a : Nat, a < H.size → ¬ A a → H1[a]? = H[a]?) : WS ad L fz A U H1 := by
  obtain ⟨⟨a1, a2, a3⟩, ⟨c1, c2, c3⟩, v, d⟩ := h
  exact ⟨⟨a1.kept hq, a2.kept hq, a3.kept hq⟩, ⟨c1.kept hq, c2.kept hq, c3.kept hq⟩, v, d.kept hq⟩
theorem WS.narrow {ad : Nat → Nat} {L : Nat} {fz : Mem} {A B : Nat → Prop} {U : State} {H : Heap} (h : WS ad L fz A U H) (hAB : ∀ q, B q → A q) : WS ad L fz B U H := by
  obtain ⟨⟨a1, a2, a3⟩, ⟨c1, c2, c3⟩, v, d⟩ := h
  exact ⟨⟨a1.narrow hAB, a2.narrow hAB, a3.narrow hAB⟩, ⟨c1.narrow hAB, c2.narrow hAB, c3.narrow hAB⟩, v, d.narrow hAB⟩
def VR (ad : Nat → Nat) (U : State) : Prop := vk_R "TakenUp" 152 "dtnm" (ad 203) U ∧ vk_R "TakenUp" 154 "dhl" (ad 204) U
theorem VR.warm {ad : Nat → Nat} {s U : State} (hW : s.WarmedH U.vm) (h : VR ad s) : VR ad U := ⟨h.1.warm hW, h.2.warm hW⟩
theorem VR.same {ad : Nat → Nat} {u U : State} (hv : U.vm = u.vm) (h : VR ad u) : VR ad U := ⟨h.1.same hv, h.2.same hv⟩
/-- the world: the classes, the objects, what never changes -/
def WD (dC : Nat → ClassId) (dI : Nat → Nat → Nat) (dA : Nat → ClassId) (ad : Nat → Nat) (L : Nat) (fz : Mem) (A : Nat → Prop) (μ : Mem) (U : State) (H : Heap) : Prop :=
  va_K (dC, dI) vwCl (tyA dA) U ∧ va_P (dC, dI) vwCl (wsA dA ad μ) H ∧ (∀ o, 127 ≤ o → μ o = fz o) ∧ WS ad L fz A U H
theorem WD.moved {dC : Nat → ClassId} {dI : Nat → Nat → Nat} {dA : Nat → ClassId} {ad : Nat → Nat} {L : Nat} {fz : Mem} {A : Nat → Prop} {μ : Mem} {u U : State} {H : Heap} (hvm : u.vm.Alike U.vm) (h : WD dC dI dA ad L fz A μ u H) : WD dC dI dA ad L fz A μ U H := ⟨h.1.moved hvm, h.2.1, h.2.2.1, h.2.2.2.moved hvm⟩
theorem WD.narrow {dC : Nat → ClassId} {dI : Nat → Nat → Nat} {dA : Nat → ClassId} {ad : Nat → Nat} {L : Nat} {fz : Mem} {A B : Nat → Prop} {μ : Mem} {U : State} {H : Heap} (h : WD dC dI dA ad L fz A μ U H) (hAB : ∀ q, B q → A q) : WD dC dI dA ad L fz B μ U H := ⟨h.1, h.2.1, h.2.2.1, h.2.2.2.narrow hAB⟩
theorem WD.put {dC : Nat → ClassId} {dI : Nat → Nat → Nat} {dA : Nat → ClassId} {ad : Nat → Nat} {L : Nat} {fz : Mem} {A : Nat → Prop} {μ μ' : Mem} {U : State} {H H1 : Heap} (h : WD dC dI dA ad L fz A μ U H) (hP : va_P (dC, dI) vwCl (wsA dA ad μ') H1) (hz : ∀ o, 127 ≤ o → μ' o = fz o) (hq : ∀ a : Nat, a < H.size → ¬ A a → H1[a]? = H[a]?) : WD dC dI dA ad L fz A μ' U H1 := ⟨h.1, hP, hz, h.2.2.2.kept hq⟩
/-- the addresses of the objects are apart -/
def EO (ad : Nat → Nat) : Prop := ∀ i j, i < 127 → j < 127 → ad i = ad j → i = j
theorem wsA_D {dA : Nat → ClassId} {ad : Nat → Nat} {μ : Mem} {A : Nat → Prop} (h : EO ad) (hA : ∀ o, o < 127 → A (ad o)) : va_D A (wsA dA ad μ) := by
  have in' : ∀ {k : Nat} {q : Nat × va_E}, (wsA dA ad μ)[k]? = some q → k < 127 ∧ q.1 = ad k := by
    intro k q hk
    by_cases h2 : k < 127
    · rw [wsA_at h2] at hk
      exact ⟨h2, by rw [← Option.some.inj hk]⟩
    · rw [wsA_out h2] at hk
      exact absurd hk (by simp)
  refine ⟨fun i j p q hi hj e => ?_, fun k q hk => ?_⟩
  · obtain ⟨i1, i2⟩ := in' hi
    obtain ⟨j1, j2⟩ := in' hj
    exact h i j i1 j1 (by rw [← i2, ← j2, e])
  · obtain ⟨k1, k2⟩ := in' hk
    rw [k2]
    exact hA k k1
/-- the locals -/
def cvL (ad : Nat → Nat) (lv : LV) : List (Nat × Value) := (List.range lv.length).filterMap fun i => match lv[i]? with
  | some (some v) => some (i, cv ad v)
  | _ => none
theorem mem_cvL {ad : Nat → Nat} {lv : LV} {q : Nat × Value} : q ∈ cvL ad lv ↔ ∃ v, lv[q.1]? = some (some v) ∧ q.2 = cv ad v := by
  unfold cvL
  rw [List.mem_filterMap]
  constructor
  · rintro ⟨i, hi, h⟩
    split at h
    · rename_i v hv
      have := Option.some.inj h
      subst this
      exact ⟨v, hv, rfl⟩
    · exact absurd h (by simp)
  · rintro ⟨v, h1, h2⟩
    refine ⟨q.1, List.mem_range.mpr (List.getElem?_eq_some_iff.mp h1).1, ?_⟩
    rw [h1]
    show some (q.1, cv ad v) = some q
    rw [← h2]
def lvOk (ad : Nat → Nat) (L : Nat) (ls : Array Slot) (nL : Nat) (lv : LV) : Prop := lv_has ls nL (cvL ad lv) ∧ ∀ (i : Nat) (v : AV), lv[i]? = some (some v) → vOk L v
theorem lvOk.at {ad : Nat → Nat} {L : Nat} {ls : Array Slot} {nL : Nat} {lv : LV} {i : Nat} {v : AV} (h : lvOk ad L ls nL lv) (hi : lv[i]? = some (some v)) : ls[i]? = some (.val (cv ad v)) := h.1.2.2 (i, cv ad v) (mem_cvL.mpr ⟨v, hi, rfl⟩)
theorem cat_cv {ad : Nat → Nat} {v : AV} : (cv ad v).category = match v with | Sum.inr (Sum.inl _) => 2 | _ => 1 := by
  rcases v with v | v | v <;> rfl
theorem clr_at {lv : LV} {k i : Nat} {w : AV} (h : (clr lv k)[i]? = some (some w)) : lv[i]? = some (some w) ∧ ¬ (i + 1 = k ∧ ∃ z, w = Sum.inr (Sum.inl z)) := by
  cases k with
  | zero => exact ⟨h, fun q => absurd q.1 (by omega)⟩
  | succ k =>
    unfold clr at h
    dsimp only at h
    split at h
    · rename_i z hz
      rw [List.getElem?_set] at h
      by_cases hk : k = i
      · rw [if_pos hk] at h
        split at h <;> exact absurd h (by simp)
      · rw [if_neg hk] at h
        exact ⟨h, fun q => hk (by omega)⟩
    · rename_i hz
      refine ⟨h, fun q => ?_⟩
      obtain ⟨q1, z, rfl⟩ := q
      have : i = k := by omega
      subst this
      exact hz z h
theorem lvOk.st1 {ad : Nat → Nat} {L : Nat} {ls ls' : Array Slot} {nL : Nat} {lv : LV} {k : Nat} {v : AV} {lv' : List (Nat × Value)} (h : lvOk ad L ls nL lv) (hv : vOk L v) (hl : (k, cv ad v) :: (cvL ad lv).filter (fun q => !(q.1 == k) && !(q.1 + 1 == k && q.2.category == 2)) = lv') (h' : lv_has ls' nL lv') : lvOk ad L ls' nL ((clr lv k).set k (some v)) := by
  subst hl
  have key : ∀ (i : Nat) (w : AV), ((clr lv k).set k (some v))[i]? = some (some w) → (i = k ∧ w = v) ∨ (i ≠ k ∧ lv[i]? = some (some w) ∧ ¬ (i + 1 = k ∧ ∃ z, w = Sum.inr (Sum.inl z))) := by
    intro i w hw
    rw [List.getElem?_set] at hw
    by_cases hk : k = i
    · rw [if_pos hk] at hw
      split at hw
      · exact Or.inl ⟨hk.symm, (Option.some.inj (Option.some.inj hw)).symm⟩
      · exact absurd hw (by simp)
    · rw [if_neg hk] at hw
      exact Or.inr ⟨Ne.symm hk, clr_at hw⟩
  refine ⟨⟨h'.1, h'.2.1, fun q hq => ?_⟩, fun i w hw => ?_⟩
  · obtain ⟨w, hw, e⟩ := mem_cvL.mp hq
    refine h'.2.2 q ?_
    rcases key _ _ hw with ⟨e1, e2⟩ | ⟨n1, n2, n3⟩
    · refine List.mem_cons.mpr (Or.inl ?_)
      rw [Prod.ext_iff]
      exact ⟨e1, by rw [e, e2]⟩
    · refine List.mem_cons_of_mem _ (List.mem_filter.mpr ⟨mem_cvL.mpr ⟨w, n2, e⟩, ?_⟩)
      simp only [Bool.and_eq_true, Bool.not_eq_true', beq_eq_false_iff_ne, Bool.and_eq_false_iff]
      refine ⟨n1, ?_⟩
      by_cases hk : q.1 + 1 = k
      · refine Or.inr fun hc => n3 ⟨hk, ?_⟩
        rw [e, cat_cv] at hc
        rcases w with w | w | w
        · exact absurd hc (show ¬ (1 : Nat) = 2 by decide)
        · exact ⟨w, rfl⟩
        · exact absurd hc (show ¬ (1 : Nat) = 2 by decide)
      · exact Or.inl hk
  · rcases key _ _ hw with ⟨-, e2⟩ | ⟨-, n2, -⟩
    · rw [e2]; exact hv
    · exact h.2 i w n2
theorem lvOk.st2 {ad : Nat → Nat} {L : Nat} {ls ls' : Array Slot} {nL : Nat} {lv : LV} {k : Nat} {v : AV} {lv' : List (Nat × Value)} (h : lvOk ad L ls nL lv) (hv : vOk L v) (hl : (k, cv ad v) :: (cvL ad lv).filter (fun q => !(q.1 == k) && (!(q.1 == k + 1) && !(q.1 + 1 == k && q.2.category == 2))) = lv') (h' : lv_has ls' nL lv') : lvOk ad L ls' nL (((clr lv k).set k (some v)).set (k + 1) none) := by
  subst hl
  have key : ∀ (i : Nat) (w : AV), (((clr lv k).set k (some v)).set (k + 1) none)[i]? = some (some w) → (i = k ∧ w = v) ∨ (i ≠ k ∧ i ≠ k + 1 ∧ lv[i]? = some (some w) ∧ ¬ (i + 1 = k ∧ ∃ z, w = Sum.inr (Sum.inl z))) := by
    intro i w hw
    rw [List.getElem?_set] at hw
    by_cases hk1 : k + 1 = i
    · rw [if_pos hk1] at hw
      split at hw <;> exact absurd hw (by simp)
    · rw [if_neg hk1, List.getElem?_set] at hw
      by_cases hk : k = i
      · rw [if_pos hk] at hw
        split at hw
        · exact Or.inl ⟨hk.symm, (Option.some.inj (Option.some.inj hw)).symm⟩
        · exact absurd hw (by simp)
      · rw [if_neg hk] at hw
        exact Or.inr ⟨Ne.symm hk, Ne.symm hk1, clr_at hw⟩
  refine ⟨⟨h'.1, h'.2.1, fun q hq => ?_⟩, fun i w hw => ?_⟩
  · obtain ⟨w, hw, e⟩ := mem_cvL.mp hq
    refine h'.2.2 q ?_
    rcases key _ _ hw with ⟨e1, e2⟩ | ⟨n1, n4, n2, n3⟩
    · refine List.mem_cons.mpr (Or.inl ?_)
      rw [Prod.ext_iff]
      exact ⟨e1, by rw [e, e2]⟩
    · refine List.mem_cons_of_mem _ (List.mem_filter.mpr ⟨mem_cvL.mpr ⟨w, n2, e⟩, ?_⟩)
      simp only [Bool.and_eq_true, Bool.not_eq_true', beq_eq_false_iff_ne, Bool.and_eq_false_iff]
      refine ⟨n1, n4, ?_⟩
      by_cases hk : q.1 + 1 = k
      · refine Or.inr fun hc => n3 ⟨hk, ?_⟩
        rw [e, cat_cv] at hc
        rcases w with w | w | w
        · exact absurd hc (show ¬ (1 : Nat) = 2 by decide)
        · exact ⟨w, rfl⟩
        · exact absurd hc (show ¬ (1 : Nat) = 2 by decide)
      · exact Or.inl hk
  · rcases key _ _ hw with ⟨-, e2⟩ | ⟨-, -, n2, -⟩
    · rw [e2]; exact hv
    · exact h.2 i w n2
