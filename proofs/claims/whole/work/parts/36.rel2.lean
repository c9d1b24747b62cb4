/-! TWO VIEWS THAT AGREE ON SOME WORKERS. -/
def usK (V : Mem) (x k : Nat) : Prop := k < 8 ∨ k < 8 + 2 * (V (1 + x) 1).toNatClampNeg
def rK (k : Nat) : Prop := k = 0 ∨ k = 1 ∨ k = 4 ∨ k = 6 ∨ k = 7
def REL (P : Nat → Prop) (D : Prop) (V V' : Mem) : Prop :=
  (∀ k, k < 5 → V' 0 k = V 0 k) ∧ (D → V' 0 5 = V 0 5) ∧
  (∀ x, x < 4 → P x → ∀ k, usK V x k → V' (1 + x) k = V (1 + x) k) ∧
  ∀ (r : Nat), r < 8 → (r : Int) < (V 0 1).toInt → V' (10 + r) 2 = V (10 + r) 2 ∧ (P (V (10 + r) 2).toNatClampNeg → ∀ k, rK k → V' (10 + r) k = V (10 + r) k) ∧ (D → V' (10 + r) 3 = V (10 + r) 3)
theorem REL.symm {P : Nat → Prop} {D : Prop} {V V' : Mem} (h : REL P D V V') : REL P D V' V := by
  obtain ⟨h1, h2, h3, h4⟩ := h
  refine ⟨fun k hk => (h1 k hk).symm, fun d => (h2 d).symm, fun x hx hp k hk => ?_, fun r hr hc => ?_⟩
  · have e : V' (1 + x) 1 = V (1 + x) 1 := h3 x hx hp 1 (Or.inl (by decide))
    unfold usK at hk
    rw [e] at hk
    exact (h3 x hx hp k hk).symm
  · rw [h1 1 (by decide)] at hc
    obtain ⟨a, b, c⟩ := h4 r hr hc
    exact ⟨a.symm, fun hp k hk => (b (a ▸ hp) k hk).symm, fun d => (c d).symm⟩
/-- a place that the two are not held to -/
def fre (P : Nat → Prop) (D : Prop) (V : Mem) (o k : Nat) : Prop :=
  (o = 0 ∧ k = 5 ∧ ¬ D) ∨ (∃ x, x < 4 ∧ o = 1 + x ∧ ¬ P x) ∨ (∃ r, r < 8 ∧ o = 10 + r ∧ (k = 6 ∨ k = 7) ∧ ¬ P (V (10 + r) 2).toNatClampNeg)
theorem REL.l {P : Nat → Prop} {D : Prop} {V V' : Mem} {o k : Nat} {v : Int32} (h : REL P D V V') (hf : fre P D V o k) : REL P D (up V o k v) V' := by
  obtain ⟨h1, h2, h3, h4⟩ := h
  have e : ∀ a c, ¬ (a = o ∧ c = k) → up V o k v a c = V a c := fun a c q => if_neg q
  rcases hf with ⟨rfl, rfl, hd⟩ | ⟨x, hx, rfl, hp⟩ | ⟨r, hr, rfl, hk, hp⟩
  · refine ⟨fun c hc => by rw [e _ _ (by omega)]; exact h1 c hc, fun d => absurd d hd, fun y hy hq c hc => ?_, fun s hs hc => ?_⟩
    · unfold usK at hc
      rw [e _ _ (by omega)] at hc ⊢
      exact h3 y hy hq c hc
    · rw [e 0 1 (by omega)] at hc
      rw [e _ _ (by omega), e _ _ (by omega)]
      refine ⟨(h4 s hs hc).1, fun hq c hk => ?_, (h4 s hs hc).2.2⟩
      rw [e _ _ (by omega)]
      exact (h4 s hs hc).2.1 hq c hk
  · refine ⟨fun c hc => by rw [e _ _ (by omega)]; exact h1 c hc, fun d => by rw [e _ _ (by omega)]; exact h2 d, fun y hy hq c hc => ?_, fun s hs hc => ?_⟩
    · have hne : y ≠ x := fun q => hp (q ▸ hq)
      unfold usK at hc
      rw [e _ _ (by omega)] at hc ⊢
      exact h3 y hy hq c hc
    · rw [e 0 1 (by omega)] at hc
      rw [e _ _ (by omega), e _ _ (by omega)]
      refine ⟨(h4 s hs hc).1, fun hq c hk => ?_, (h4 s hs hc).2.2⟩
      rw [e _ _ (by omega)]
      exact (h4 s hs hc).2.1 hq c hk
  · refine ⟨fun c hc => by rw [e _ _ (by omega)]; exact h1 c hc, fun d => by rw [e _ _ (by omega)]; exact h2 d, fun y hy hq c hc => ?_, fun s hs hc => ?_⟩
    · unfold usK at hc
      rw [e _ _ (by omega)] at hc ⊢
      exact h3 y hy hq c hc
    · rw [e 0 1 (by omega)] at hc
      rw [e (10 + s) 2 (by omega), e (10 + s) 3 (by omega)]
      refine ⟨(h4 s hs hc).1, fun hq c hk2 => ?_, (h4 s hs hc).2.2⟩
      have hne : s ≠ r := fun q => hp (q ▸ hq)
      rw [e _ _ (by omega)]
      exact (h4 s hs hc).2.1 hq c hk2
theorem REL.r {P : Nat → Prop} {D : Prop} {V V' : Mem} {o k : Nat} {v : Int32} (h : REL P D V V') (hf : fre P D V' o k) : REL P D V (up V' o k v) := (h.symm.l hf).symm
/-- the same write to both, at a place that bounds nothing -/
def pl2 (o k : Nat) : Prop := ¬ (o = 0 ∧ k = 1) ∧ ¬ (1 ≤ o ∧ o < 5 ∧ k = 1) ∧ ¬ (10 ≤ o ∧ o < 18 ∧ k = 2)
theorem REL.b {P : Nat → Prop} {D : Prop} {V V' : Mem} {o k : Nat} {v v' : Int32} (h : REL P D V V') (hp : pl2 o k) (hv : (o = 0 ∧ k = 5 ∧ ¬ D) ∨ v' = v) : REL P D (up V o k v) (up V' o k v') := by
  by_cases hf : o = 0 ∧ k = 5 ∧ ¬ D
  · exact (h.l (Or.inl hf)).r (Or.inl hf)
  have hv : v' = v := hv.elim (fun q => absurd q hf) id
  subst hv
  obtain ⟨h1, h2, h3, h4⟩ := h
  obtain ⟨p1, p2, p3⟩ := hp
  have e : ∀ a c, ¬ (a = o ∧ c = k) → up V o k v' a c = V a c := fun a c q => if_neg q
  have both : ∀ a c, V' a c = V a c → up V' o k v' a c = up V o k v' a c := fun a c q => by
    unfold up
    by_cases q2 : a = o ∧ c = k
    · rw [if_pos q2, if_pos q2]
    · rw [if_neg q2, if_neg q2, q]
  refine ⟨fun c hc => both _ _ (h1 c hc), fun d => both _ _ (h2 d), fun y hy hq c hc => both _ _ (h3 y hy hq c ?_), fun s hs hc => ?_⟩
  · unfold usK at hc ⊢
    rw [e _ _ (by omega)] at hc
    exact hc
  · rw [e 0 1 (by omega)] at hc
    obtain ⟨a, b, c⟩ := h4 s hs hc
    rw [e (10 + s) 2 (by omega)]
    refine ⟨?_, fun hq c hk => both _ _ (b hq c hk), fun d => both _ _ (c d)⟩
    unfold up
    rw [if_neg (by omega)]
    exact a
theorem rel_leave_l {P : Nat → Prop} {D : Prop} {V V' : Mem} {w : Nat} {x m : Int32} (h : REL P D V V') (hw : w < 4) (hp : ¬ P w) : REL P D (leaveP V w x m) V' := by
  unfold leaveP
  exact ((h.l (Or.inr (Or.inl ⟨w, hw, rfl, hp⟩))).l (Or.inr (Or.inl ⟨w, hw, rfl, hp⟩))).l (Or.inr (Or.inl ⟨w, hw, rfl, hp⟩))
theorem rel_come_l {P : Nat → Prop} {D : Prop} {V V' : Mem} {r : Nat} {g : Int32 → Int32} {tx : TX} (h : REL P D V V') (hW : WFV V) (hr : r < 8) (hp : ¬ P (V (10 + r) 2).toNatClampNeg) (hD : ¬ D) : REL P D (comeP g tx V r) V' := by
  have g2 := gr2 hW hr
  have hw : (V (10 + r) 2).toNatClampNeg < 4 := ix_lt g2.1 (by omega)
  have h2 : ∀ a v, REL P D (up (up V (10 + r) 6 a) 0 5 v) V' := fun a v => (h.l (Or.inr (Or.inr ⟨r, hr, rfl, Or.inl rfl, hp⟩))).l (Or.inl ⟨rfl, rfl, hD⟩)
  unfold comeP
  simp only []
  split
  · exact rel_leave_l (h2 _ _) hw hp
  · exact (h2 _ _).l (Or.inr (Or.inl ⟨_, hw, rfl, hp⟩))
theorem rel_rest_l {P : Nat → Prop} {D : Prop} {V V' : Mem} {r : Nat} {g : Int32 → Int32} {tx : TX} {only : Int32} (h : REL P D V V') (hW : WFV V) (hr : r < 8) (hp : ¬ P (V (10 + r) 2).toNatClampNeg) (hD : ¬ D) : REL P D (restP g tx only V r) V' := by
  unfold restP
  split
  · split
    · exact h.l (Or.inr (Or.inr ⟨r, hr, rfl, Or.inr rfl, hp⟩))
    · exact rel_come_l h hW hr hp hD
  · exact h
theorem rel_come {P : Nat → Prop} {D : Prop} {V V' : Mem} {r : Nat} {g g' : Int32 → Int32} {tx : TX} (h : REL P D V V') (hW : WFV V) (hr : r < 8) (hc : (r : Int) < (V 0 1).toInt) (hp : P (V (10 + r) 2).toNatClampNeg) (hg : D → g = g') : REL P D (comeP g tx V r) (comeP g' tx V' r) := by
  have g2 := gr2 hW hr
  have hw : (V (10 + r) 2).toNatClampNeg < 4 := ix_lt g2.1 (by omega)
  obtain ⟨e2, ek, e3⟩ := h.2.2.2 r hr hc
  have ek := ek hp
  have e0 := ek 0 (by unfold rK; omega)
  have e1 := ek 1 (by unfold rK; omega)
  have e4 := ek 4 (by unfold rK; omega)
  have hx := h.2.2.1 _ hw hp
  have hmin := h.1 2 (by decide)
  have hd5 := h.2.1
  unfold comeP
  rw [e2]
  generalize hwe : (V (10 + r) 2).toNatClampNeg = w at *
  have x0 := hx 0 (Or.inl (by decide))
  have x3 := hx 3 (Or.inl (by decide))
  have x4 := hx 4 (Or.inl (by decide))
  have x5 := hx 5 (Or.inl (by decide))
  have x6 := hx 6 (Or.inl (by decide))
  have hk : keepsP tx V' w r = keepsP tx V w r := by
    unfold keepsP
    rw [e0, e1, e4, x0, x3, x5]
  simp only [hk, e4, x4]
  have h2 : REL P D (up (up V (10 + r) 6 1) 0 5 (g (V 0 5 + V 0 2 - V (10 + r) 3))) (up (up V' (10 + r) 6 1) 0 5 (g' (V' 0 5 + V' 0 2 - V' (10 + r) 3))) := by
    refine (h.b (by unfold pl2; omega) (Or.inr rfl)).b (by unfold pl2; omega) ?_
    by_cases d : D
    · exact Or.inr (by rw [hd5 d, hmin, e3 d, hg d])
    · exact Or.inl ⟨rfl, rfl, d⟩
  have r0 : ∀ k, up (up V (10 + r) 6 1) 0 5 (g (V 0 5 + V 0 2 - V (10 + r) 3)) (1 + w) k = V (1 + w) k := fun k => by rw [up_o (by omega), up_o (by omega)]
  have r0' : ∀ k, up (up V' (10 + r) 6 1) 0 5 (g' (V' 0 5 + V' 0 2 - V' (10 + r) 3)) (1 + w) k = V' (1 + w) k := fun k => by rw [up_o (by omega), up_o (by omega)]
  by_cases c : V (1 + w) 4 = 0
  · rw [if_pos c, if_pos c]
    unfold leaveP
    rw [r0, r0, r0', r0', x0, x6]
    exact ((h2.b (by unfold pl2; omega) (Or.inr rfl)).b (by unfold pl2; omega) (Or.inr rfl)).b (by unfold pl2; omega) (Or.inr rfl)
  · rw [if_neg c, if_neg c]
    exact h2.b (by unfold pl2; omega) (Or.inr rfl)
theorem rel_rest {P : Nat → Prop} {D : Prop} {V V' : Mem} {r : Nat} {g g' : Int32 → Int32} {tx : TX} {only only' : Int32} (h : REL P D V V') (hW : WFV V) (hW' : WFV V') (hr : r < 8) (hc : (r : Int) < (V 0 1).toInt) (hC : ∀ x, x < 4 → P x → only = -1 ∨ only = nI x) (hC' : ∀ x, x < 4 → P x → only' = -1 ∨ only' = nI x) (hg : D → g = g') (hDP : D → P (V (10 + r) 2).toNatClampNeg) : REL P D (restP g tx only V r) (restP g' tx only' V' r) := by
  have g2 := gr2 hW hr
  have hw : (V (10 + r) 2).toNatClampNeg < 4 := ix_lt g2.1 (by omega)
  obtain ⟨e2, ek, e3⟩ := h.2.2.2 r hr hc
  by_cases hp : P (V (10 + r) 2).toNatClampNeg
  · have ek := ek hp
    have e0 := ek 0 (by unfold rK; omega)
    have e6 := ek 6 (by unfold rK; omega)
    have e7 := ek 7 (by unfold rK; omega)
    have s2 := h.1 2 (by decide)
    have s3 := h.1 3 (by decide)
    have s4 := h.1 4 (by decide)
    have ho : only = -1 ∨ V (10 + r) 2 = only := (hC _ hw hp).imp id (fun q => by rw [q, nI_ix g2.1])
    have ho' : only' = -1 ∨ V (10 + r) 2 = only' := (hC' _ hw hp).imp id (fun q => by rw [q, nI_ix g2.1])
    unfold restP
    rw [e0, e6, e7, s2, s3, s4, e2]
    by_cases c1 : V (10 + r) 6 = 0 ∧ (V (10 + r) 7).toInt ≤ (V 0 2).toInt
    · have k1 : V (10 + r) 6 = 0 ∧ (only = -1 ∨ V (10 + r) 2 = only) ∧ (V (10 + r) 7).toInt ≤ (V 0 2).toInt := ⟨c1.1, ho, c1.2⟩
      have k1' : V (10 + r) 6 = 0 ∧ (only' = -1 ∨ V (10 + r) 2 = only') ∧ (V (10 + r) 7).toInt ≤ (V 0 2).toInt := ⟨c1.1, ho', c1.2⟩
      simp only [if_pos k1, if_pos k1']
      by_cases c2 : (V (10 + r) 0 = 1 ∨ V (10 + r) 0 = 4) ∧ (V 0 3).toInt ≤ (V 0 2).toInt ∧ (V 0 2).toInt < (V 0 4).toInt
      · simp only [if_pos c2]
        exact h.b (by unfold pl2; omega) (Or.inr rfl)
      · simp only [if_neg c2]
        exact rel_come h hW hr hc hp hg
    · have k1 : ¬ (V (10 + r) 6 = 0 ∧ (only = -1 ∨ V (10 + r) 2 = only) ∧ (V (10 + r) 7).toInt ≤ (V 0 2).toInt) := fun q => c1 ⟨q.1, q.2.2⟩
      have k1' : ¬ (V (10 + r) 6 = 0 ∧ (only' = -1 ∨ V (10 + r) 2 = only') ∧ (V (10 + r) 7).toInt ≤ (V 0 2).toInt) := fun q => c1 ⟨q.1, q.2.2⟩
      simp only [if_neg k1, if_neg k1']
      exact h
  · have hD : ¬ D := fun d => hp (hDP d)
    have a := rel_rest_l (g := g) (tx := tx) (only := only) h hW hr hp hD
    exact (rel_rest_l (g := g') (tx := tx) (only := only') a.symm hW' hr (by rw [e2]; exact hp) hD).symm
theorem rel_wk_l {P : Nat → Prop} {D : Prop} {V V' : Mem} {w : Nat} {tx : TX} (h : REL P D V V') (hw : w < 4) (hp : ¬ P w) : REL P D (workP tx V w) V' := by
  have f : ∀ {V2 : Mem} k v, REL P D V2 V' → REL P D (up V2 (1 + w) k v) V' := fun k v h2 => h2.l (Or.inr (Or.inl ⟨w, hw, rfl, hp⟩))
  unfold workP wkP
  simp only []
  split
  · split
    · exact h
    · split
      · exact f _ _ (f _ _ h)
      · split
        · exact f _ _ (f _ _ (f _ _ (f _ _ (f _ _ h))))
        · exact f _ _ (f _ _ (f _ _ (f _ _ h)))
  · exact f _ _ h
theorem rel_work {P : Nat → Prop} {D : Prop} {V V' : Mem} {w : Nat} {tx : TX} (h : REL P D V V') (hW : WFV V) (hw : w < 4) (hp : P w) : REL P D (workP tx V w) (workP tx V' w) := by
  have hx := h.2.2.1 w hw hp
  have x0 := hx 0 (Or.inl (by decide))
  have x1 := hx 1 (Or.inl (by decide))
  have x2 := hx 2 (Or.inl (by decide))
  have x3 := hx 3 (Or.inl (by decide))
  have x4 := hx 4 (Or.inl (by decide))
  have s2 := h.1 2 (by decide)
  have g2 := gw2 hW hw
  have g1 := gw1 hW hw
  have g21 := hW.2.1 w hw
  unfold workP
  rw [x4, x2, x1, s2]
  by_cases c : V (1 + w) 4 = 0
  · simp only [if_pos c]
    by_cases c2 : V (1 + w) 2 = V (1 + w) 1
    · simp only [if_pos c2]
      exact h
    · simp only [if_neg c2]
      have hne : ¬ (V (1 + w) 2).toInt = (V (1 + w) 1).toInt := fun q => c2 (Int32.toInt_inj.mp q)
      have e1 : (V (1 + w) 1).toNatClampNeg = (V (1 + w) 1).toInt.toNat := rfl
      have e2 : (V (1 + w) 2).toNatClampNeg = (V (1 + w) 2).toInt.toNat := rfl
      have xl := hx (8 + 2 * (V (1 + w) 2).toNatClampNeg) (Or.inr (by omega))
      have xh := hx (9 + 2 * (V (1 + w) 2).toNatClampNeg) (Or.inr (by omega))
      have hg : goesP tx V' w = goesP tx V w := by
        unfold goesP
        rw [x0, x2, xl, xh]
      unfold wkP
      rw [hg, x0, x1, x2, x3, xl]
      simp only []
      have hb : ∀ {A B : Mem} k v, ¬ k = 1 → REL P D A B → REL P D (up A (1 + w) k v) (up B (1 + w) k v) := fun k v hk h2 => h2.b (by unfold pl2; omega) (Or.inr rfl)
      split
      · exact hb _ _ (by decide) (hb _ _ (by decide) h)
      · split
        · exact hb _ _ (by decide) (hb _ _ (by decide) (hb _ _ (by decide) (hb _ _ (by decide) (hb _ _ (by decide) h))))
        · exact hb _ _ (by decide) (hb _ _ (by decide) (hb _ _ (by decide) (hb _ _ (by decide) h)))
  · simp only [if_neg c]
    exact h.b (by unfold pl2; omega) (Or.inr rfl)
theorem rel_wrk {P : Nat → Prop} {D : Prop} {V V' : Mem} {w : Nat} {tx : TX} {only only' : Int32} (h : REL P D V V') (hW : WFV V) (hw : w < 4) (hC : ∀ x, x < 4 → P x → only = -1 ∨ only = nI x) (hC' : ∀ x, x < 4 → P x → only' = -1 ∨ only' = nI x) : REL P D (wrkP tx only V w) (wrkP tx only' V' w) := by
  by_cases hp : P w
  · unfold wrkP
    rw [if_pos (hC w hw hp), if_pos (hC' w hw hp)]
    exact rel_work h hW hw hp
  · have a : REL P D (wrkP tx only V w) V' := by
      unfold wrkP
      split
      · exact rel_wk_l h hw hp
      · exact h
    unfold wrkP
    split
    · split
      · exact (rel_wk_l (rel_wk_l h hw hp).symm hw hp).symm
      · exact rel_wk_l h hw hp
    · split
      · exact (rel_wk_l h.symm hw hp).symm
      · exact h
