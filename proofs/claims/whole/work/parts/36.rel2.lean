/-! TWO VIEWS THAT AGREE ON SOME WORKERS. -/
def usK (V : Mem) (x k : Nat) : Prop := k < 8 ∨ k < 8 + 2 * (V (1 + x) 1).toNatClampNeg
def rK (k : Nat) : Prop := k = 0 ∨ k = 1 ∨ k = 4 ∨ k = 6 ∨ k = 7
def REL (P : Nat → Prop) (D : Prop) (V V' : Mem) : Prop :=
  (∀ k, k < 5 → V' 0 k = V 0 k) ∧ (D → V' 0 5 = V 0 5) ∧
  (∀ x, x < 4 → P x → ∀ k, usK V x k → V' (1 + x) k = V (1 + x) k) ∧
  ∀ (r : Nat), r < 8 → (r : Int) < (V 0 1).toInt → V' (10 + r) 2 = V (10 + r) 2 ∧ (P (V (10 + r) 2).toNatClampNeg → ∀ k, rK k → V' (10 + r) k = V (10 + r) k) ∧ (D → V' (10 + r) 3 = V (10 + r) 3)
theorem REL.symm {P : Nat → Prop} {D : Prop} {V V' : Mem} (h : REL P D V V') : REL P D V' V := by
  obtain ⟨h1, h2, h3, h4⟩ := h
  refine ⟨fun k hk => (h1 k hk).symm, fun d => (h2 d).symm, fun x hx hp k hk => ?_, fun r hr hc => ?_⟩
  · have e : V' (1 + x) 1 = V (1 + x) 1 := h3 x hx hp 1 (Or.inl (by decide))
    unfold usK at hk
    rw [e] at hk
    exact (h3 x hx hp k hk).symm
  · rw [h1 1 (by decide)] at hc
    obtain ⟨a, b, c⟩ := h4 r hr hc
    exact ⟨a.symm, fun hp k hk => (b (a ▸ hp) k hk).symm, fun d => (c d).symm⟩
/-- a place that the two are not held to -/
def fre (P : Nat → Prop) (D : Prop) (V : Mem) (o k : Nat) : Prop :=
  (o = 0 ∧ k = 5 ∧ ¬ D) ∨ (∃ x, x < 4 ∧ o = 1 + x ∧ ¬ P x) ∨ (∃ r, r < 8 ∧ o = 10 + r ∧ (k = 6 ∨ k = 7) ∧ ¬ P (V (10 + r) 2).toNatClampNeg)
theorem REL.l {P : Nat → Prop} {D : Prop} {V V' : Mem} {o k : Nat} {v : Int32} (h : REL P D V V') (hf : fre P D V o k) : REL P D (up V o k v) V' := by
  obtain ⟨h1, h2, h3, h4⟩ := h
  have e : ∀ a c, ¬ (a = o ∧ c = k) → up V o k v a c = V a c := fun a c q => if_neg q
  rcases hf with ⟨rfl, rfl, hd⟩ | ⟨x, hx, rfl, hp⟩ | ⟨r, hr, rfl, hk, hp⟩
  · refine ⟨fun c hc => by rw [e _ _ (by omega)]; exact h1 c hc, fun d => absurd d hd, fun y hy hq c hc => ?_, fun s hs hc => ?_⟩
    · unfold usK at hc
      rw [e _ _ (by omega)] at hc ⊢
      exact h3 y hy hq c hc
    · rw [e 0 1 (by omega)] at hc
      rw [e _ _ (by omega), e _ _ (by omega)]
      refine ⟨(h4 s hs hc).1, fun hq c hk => ?_, (h4 s hs hc).2.2⟩
      rw [e _ _ (by omega)]
      exact (h4 s hs hc).2.1 hq c hk
  · refine ⟨fun c hc => by rw [e _ _ (by omega)]; exact h1 c hc, fun d => by rw [e _ _ (by omega)]; exact h2 d, fun y hy hq c hc => ?_, fun s hs hc => ?_⟩
    · have hne : y ≠ x := fun q => hp (q ▸ hq)
      unfold usK at hc
      rw [e _ _ (by omega)] at hc ⊢
      exact h3 y hy hq c hc
    · rw [e 0 1 (by omega)] at hc
      rw [e _ _ (by omega), e _ _ (by omega)]
      refine ⟨(h4 s hs hc).1, fun hq c hk => ?_, (h4 s hs hc).2.2⟩
      rw [e _ _ (by omega)]
      exact (h4 s hs hc).2.1 hq c hk
  · refine ⟨fun c hc => by rw [e _ _ (by omega)]; exact h1 c hc, fun d => by rw [e _ _ (by omega)]; exact h2 d, fun y hy hq c hc => ?_, fun s hs hc => ?_⟩
    · unfold usK at hc
      rw [e _ _ (by omega)] at hc ⊢
      exact h3 y hy hq c hc
    · rw [e 0 1 (by omega)] at hc
      rw [e (10 + s) 2 (by omega), e (10 + s) 3 (by omega)]
      refine ⟨(h4 s hs hc).1, fun hq c hk2 => ?_, (h4 s hs hc).2.2⟩
      have hne : s ≠ r := fun q => hp (q ▸ hq)
      rw [e _ _ (by omega)]
      exact (h4 s hs hc).2.1 hq c hk2
theorem REL.r {P : Nat → Prop} {D : Prop} {V V' : Mem} {o k : Nat} {v : Int32} (h : REL P D V V') (hf : fre P D V' o k) : REL P D V (up V' o k v) := (h.symm.l hf).symm
/-- the same write to both, at a place that bounds nothing -/
def pl2 (o k : Nat) : Prop := ¬ (o = 0 ∧ k = 1) ∧ ¬ (1 ≤ o ∧ o < 5 ∧ k = 1) ∧ ¬ (10 ≤ o ∧ o < 18 ∧ k = 2)
theorem REL.b {P : Nat → Prop} {D : Prop} {V V' : Mem} {o k : Nat} {v v' : Int32} (h : REL P D V V') (hp : pl2 o k) (hv : (o = 0 ∧ k = 5 ∧ ¬ D) ∨ v' = v) : REL P D (up V o k v) (up V' o k v') := by
  by_cases hf : o = 0 ∧ k = 5 ∧ ¬ D
  · exact (h.l (Or.inl hf)).r (Or.inl hf)
  have hv : v' = v := hv.elim (fun q => absurd q hf) id
  subst hv
  obtain ⟨h1, h2, h3, h4⟩ := h
  obtain ⟨p1, p2, p3⟩ := hp
  have e : ∀ a c, ¬ (a = o ∧ c = k) → up V o k v' a c = V a c := fun a c q => if_neg q
  have both : ∀ a c, V' a c = V a c → up V' o k v' a c = up V o k v' a c := fun a c q => by
    unfold up
    by_cases q2 : a = o ∧ c = k
    · rw [if_pos q2, if_pos q2]
    · rw [if_neg q2, if_neg q2, q]
  refine ⟨fun c hc => both _ _ (h1 c hc), fun d => both _ _ (h2 d), fun y hy hq c hc => both _ _ (h3 y hy hq c ?_), fun s hs hc => ?_⟩
  · unfold usK at hc ⊢
    rw [e _ _ (by omega)] at hc
    exact hc
  · rw [e 0 1 (by omega)] at hc
    obtain ⟨a, b, c⟩ := h4 s hs hc
    rw [e (10 + s) 2 (by omega)]
    refine ⟨?_, fun hq c hk => both _ _ (b hq c hk), fun d => both _ _ (c d)⟩
    unfold up
    rw [if_neg (by omega)]
    exact a
