/-! TWO VIEWS THAT AGREE ON SOME WORKERS, a minute on. -/
theorem wf_wrk {tx : TX} {only : Int32} {V : Mem} {w : Nat} (h : WFV V) (hw : w < 4) (hm : (V 0 2).toInt ≤ 15000) : WFV (wrkP tx only V w) := by
  unfold wrkP
  split
  · exact wf_work h hw hm
  · exact h
theorem rel_min {P : Nat → Prop} {D : Prop} {V V' : Mem} {tx : TX} {only only' : Int32} (h : REL P D V V') (hW : WFV V) (hW' : WFV V') (hm : (V 0 2).toInt ≤ 15000) (hC : ∀ x, x < 4 → P x → only = -1 ∨ only = nI x) (hC' : ∀ x, x < 4 → P x → only' = -1 ∨ only' = nI x) (hDP : D → ∀ (x : Nat), (x : Int) < (V 0 0).toInt → P x) : REL P D (minP (mn 99999) tx only V) (minP (mn 99999) tx only' V') := by
  have g1 := gs1 hW
  have g0 := gs0 hW
  have c1 := h.1 1 (by decide)
  have c0 := h.1 0 (by decide)
  have c2 := h.1 2 (by decide)
  have e1 : (V 0 1).toNatClampNeg = (V 0 1).toInt.toNat := rfl
  have e0 : (V 0 0).toNatClampNeg = (V 0 0).toInt.toNat := rfl
  have hrests : ∀ n, n ≤ (V 0 1).toNatClampNeg → REL P D (itN (restP (mn 99999) tx only) n V) (itN (restP (mn 99999) tx only') n V') ∧ WFV (itN (restP (mn 99999) tx only) n V) ∧ WFV (itN (restP (mn 99999) tx only') n V') ∧ ∀ k, ¬ k = 5 → itN (restP (mn 99999) tx only) n V 0 k = V 0 k := by
    intro n
    induction n with
    | zero => exact fun _ => ⟨h, hW, hW', fun _ _ => rfl⟩
    | succ n ih =>
      intro hn
      obtain ⟨a, b, c, e⟩ := ih (by omega)
      have hr8 : n < 8 := by omega
      have hcn : (n : Int) < (itN (restP (mn 99999) tx only) n V 0 1).toInt := by rw [e 1 (by decide)]; omega
      refine ⟨rel_rest a b c hr8 hcn hC hC' (fun _ => rfl) (fun d => ?_), wf_rest b hr8, wf_rest c hr8, fun k hk => (rs_sm hk).trans (e k hk)⟩
      have g2 := gr2 b hr8
      have g22 := b.2.2 n hr8 hcn
      rw [e 0 (by decide)] at g22
      exact hDP d _ (by rw [ix_i g2.1]; exact g22)
  obtain ⟨a, b, c, e⟩ := hrests _ (Nat.le_refl _)
  have hworks : ∀ n, n ≤ (V 0 0).toNatClampNeg → REL P D (itN (wrkP tx only) n (itN (restP (mn 99999) tx only) (V 0 1).toNatClampNeg V)) (itN (wrkP tx only') n (itN (restP (mn 99999) tx only') (V 0 1).toNatClampNeg V')) ∧ WFV (itN (wrkP tx only) n (itN (restP (mn 99999) tx only) (V 0 1).toNatClampNeg V)) ∧ ∀ k, itN (wrkP tx only) n (itN (restP (mn 99999) tx only) (V 0 1).toNatClampNeg V) 0 k = itN (restP (mn 99999) tx only) (V 0 1).toNatClampNeg V 0 k := by
    intro n
    induction n with
    | zero => exact fun _ => ⟨a, b, fun _ => rfl⟩
    | succ n ih =>
      intro hn
      obtain ⟨a2, b2, e2⟩ := ih (by omega)
      have hw4 : n < 4 := by omega
      refine ⟨rel_wrk a2 b2 hw4 hC hC', ?_, fun k => wrk_sm.trans (e2 k)⟩
      exact wf_wrk b2 hw4 (by rw [e2, e 2 (by decide)]; exact hm)
  obtain ⟨a2, b2, e2⟩ := hworks _ (Nat.le_refl _)
  have f0 : restsP (mn 99999) tx only V 0 0 = V 0 0 := rss_sm (by decide)
  have f0' : restsP (mn 99999) tx only' V' 0 0 = V 0 0 := (rss_sm (by decide)).trans c0
  have w : worksP tx only (restsP (mn 99999) tx only V) = itN (wrkP tx only) (V 0 0).toNatClampNeg (itN (restP (mn 99999) tx only) (V 0 1).toNatClampNeg V) := by
    unfold worksP
    rw [f0]
    rfl
  have w' : worksP tx only' (restsP (mn 99999) tx only' V') = itN (wrkP tx only') (V 0 0).toNatClampNeg (itN (restP (mn 99999) tx only') (V 0 1).toNatClampNeg V') := by
    unfold worksP
    rw [f0']
    unfold restsP
    rw [c1]
  have m1 : worksP tx only (restsP (mn 99999) tx only V) 0 2 = V 0 2 := by rw [wks_sm, rss_sm (by decide)]
  have m2 : worksP tx only' (restsP (mn 99999) tx only' V') 0 2 = V 0 2 := by rw [wks_sm, rss_sm (by decide), c2]
  unfold minP
  simp only []
  rw [m1, m2, w, w']
  exact a2.b (by unfold pl2; omega) (Or.inr rfl)
theorem rel_times {P : Nat → Prop} {D : Prop} {V V' : Mem} {tx : TX} {only only' : Int32} (h : REL P D V V') (hW : WFV V) (hW' : WFV V') (hC : ∀ x, x < 4 → P x → only = -1 ∨ only = nI x) (hC' : ∀ x, x < 4 → P x → only' = -1 ∨ only' = nI x) (hDP : D → ∀ (x : Nat), (x : Int) < (V 0 0).toInt → P x) : ∀ n : Nat, (V 0 2).toInt + n ≤ 15001 → REL P D (timesP (minP (mn 99999) tx only) n V) (timesP (minP (mn 99999) tx only') n V') := by
  intro n
  have c2 := h.1 2 (by decide)
  induction n with
  | zero => exact fun _ => h
  | succ n ih =>
    intro hn
    obtain ⟨a1, a2, a3⟩ := tm_keep (tx := tx) (only := only) hW n (by omega)
    obtain ⟨b1, b2, b3⟩ := tm_keep (tx := tx) (only := only') hW' n (by rw [c2]; omega)
    exact rel_min (ih (by omega)) a1 b1 (by omega) hC hC' (fun d x hx => hDP d x (by rw [← a3 0 (by decide) (by decide)]; exact hx))
