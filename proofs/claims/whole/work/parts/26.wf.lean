/-! WHAT A VIEW KEEPS TO. -/
def loV (o k : Nat) : Int :=
  if o = 0 then (if k = 5 then -2147483648 else if k < 8 then 0 else -2147483648)
  else if o < 5 then (if k = 7 then -1 else 0)
  else if o < 18 then 0 else -2147483648
def hiV (o k : Nat) : Int :=
  if o = 0 then (if k = 0 then 4 else if k = 1 then 8 else if k = 3 then 999 else if k = 4 then 999 else if k = 6 then 60 else if k = 7 then 24 else 2147483647)
  else if o < 5 then (if k = 0 then 99 else if k = 1 then 8 else if k = 2 then 8 else if k = 3 then 600 else if k = 4 then 999 else if k = 5 then 1 else if k = 6 then 99999 else if k = 7 then 20000 else if k % 2 = 0 then 60 else 9)
  else if o < 18 then (if k = 0 then 6 else if k = 1 then 9 else if k = 2 then 3 else if k = 3 then 20000 else if k = 4 then 60 else if k = 5 then 10 else if k = 6 then 1 else 20000)
  else 2147483647
def WFV (V : Mem) : Prop :=
  (∀ o k, inC o k → loV o k ≤ (V o k).toInt ∧ (V o k).toInt ≤ hiV o k) ∧
  (∀ w, w < 4 → (V (1 + w) 2).toInt ≤ (V (1 + w) 1).toInt) ∧
  ∀ (r : Nat), r < 8 → (r : Int) < (V 0 1).toInt → (V (10 + r) 2).toInt < (V 0 0).toInt
def plV (o k : Nat) : Prop := ¬ (o = 0 ∧ k < 2) ∧ ¬ (1 ≤ o ∧ o < 5 ∧ (k = 1 ∨ k = 2)) ∧ ¬ (10 ≤ o ∧ o < 18 ∧ k = 2)
theorem wf_rg {V : Mem} {o k : Nat} {v : Int32} (h : ∀ o k, inC o k → loV o k ≤ (V o k).toInt ∧ (V o k).toInt ≤ hiV o k) (hv : loV o k ≤ v.toInt ∧ v.toInt ≤ hiV o k) : ∀ a c, inC a c → loV a c ≤ (up V o k v a c).toInt ∧ (up V o k v a c).toInt ≤ hiV a c := fun a c hac => by
  by_cases e : a = o ∧ c = k
  · obtain ⟨rfl, rfl⟩ := e
    rw [up_eq]
    exact hv
  · unfold up
    rw [if_neg e]
    exact h a c hac
theorem wf_up {V : Mem} {o k : Nat} {v : Int32} (h : WFV V) (hp : plV o k) (hv : loV o k ≤ v.toInt ∧ v.toInt ≤ hiV o k) : WFV (up V o k v) := by
  obtain ⟨p1, p2, p3⟩ := hp
  have e : ∀ a c, ¬ (a = o ∧ c = k) → up V o k v a c = V a c := fun a c q => if_neg q
  refine ⟨wf_rg h.1 hv, fun w hw => ?_, fun r hr => ?_⟩
  · rw [e _ _ (by omega), e _ _ (by omega)]
    exact h.2.1 w hw
  · rw [e 0 1 (by omega), e 0 0 (by omega), e _ _ (by omega)]
    exact h.2.2 r hr
theorem wf_at {V : Mem} {w : Nat} {v : Int32} (h : WFV V) (hw : w < 4) (h0 : 0 ≤ v.toInt) (hv : v.toInt ≤ (V (1 + w) 1).toInt) : WFV (up V (1 + w) 2 v) := by
  have e : ∀ a c, ¬ (a = 1 + w ∧ c = 2) → up V (1 + w) 2 v a c = V a c := fun a c q => if_neg q
  have h8 : (V (1 + w) 1).toInt ≤ hiV (1 + w) 1 := (h.1 (1 + w) 1 (by unfold inC; omega)).2
  have e1 : hiV (1 + w) 1 = 8 := by
    unfold hiV
    rw [if_neg (by omega), if_pos (by omega)]
    rfl
  have e2 : hiV (1 + w) 2 = 8 := by
    unfold hiV
    rw [if_neg (by omega), if_pos (by omega)]
    rfl
  have e3 : loV (1 + w) 2 = 0 := by
    unfold loV
    rw [if_neg (by omega), if_pos (by omega)]
    rfl
  refine ⟨wf_rg h.1 (by omega), fun x hx => ?_, fun r hr => ?_⟩
  · by_cases hxw : x = w
    · rw [hxw, up_eq, e _ _ (by omega)]
      exact hv
    · rw [e _ _ (by omega), e _ _ (by omega)]
      exact h.2.1 x hx
  · rw [e 0 1 (by omega), e 0 0 (by omega), e _ _ (by omega)]
    exact h.2.2 r hr
/-- what a view must be besides, for what was waited to be right -/
def WFD (V : Mem) : Prop := (∀ r, r < 8 → (V (10 + r) 3).toInt ≤ (V (10 + r) 7).toInt) ∧ 0 ≤ (V 0 5).toInt ∧ (V 0 5).toInt ≤ 99999
theorem gs0 {V : Mem} (h : WFV V) : 0 ≤ (V 0 0).toInt ∧ (V 0 0).toInt ≤ 4 := h.1 0 0 (by decide)
theorem gs1 {V : Mem} (h : WFV V) : 0 ≤ (V 0 1).toInt ∧ (V 0 1).toInt ≤ 8 := h.1 0 1 (by decide)
theorem gs2 {V : Mem} (h : WFV V) : 0 ≤ (V 0 2).toInt ∧ (V 0 2).toInt ≤ 2147483647 := h.1 0 2 (by decide)
theorem gs3 {V : Mem} (h : WFV V) : 0 ≤ (V 0 3).toInt ∧ (V 0 3).toInt ≤ 999 := h.1 0 3 (by decide)
theorem gs4 {V : Mem} (h : WFV V) : 0 ≤ (V 0 4).toInt ∧ (V 0 4).toInt ≤ 999 := h.1 0 4 (by decide)
theorem gs6 {V : Mem} (h : WFV V) : 0 ≤ (V 0 6).toInt ∧ (V 0 6).toInt ≤ 60 := h.1 0 6 (by decide)
theorem gs7 {V : Mem} (h : WFV V) : 0 ≤ (V 0 7).toInt ∧ (V 0 7).toInt ≤ 24 := h.1 0 7 (by decide)
theorem lw0 {w : Nat} (hw : w < 4) : loV (1 + w) 0 = 0 ∧ hiV (1 + w) 0 = 99 := by
  simp only [loV, hiV, if_neg (show ¬ 1 + w = 0 by omega), if_pos (show 1 + w < 5 by omega)]
  decide
theorem gw0 {V : Mem} {w : Nat} (h : WFV V) (hw : w < 4) : 0 ≤ (V (1 + w) 0).toInt ∧ (V (1 + w) 0).toInt ≤ 99 := by
  have := h.1 (1 + w) 0 (by unfold inC; omega)
  rw [(lw0 hw).1, (lw0 hw).2] at this
  exact this
theorem lw1 {w : Nat} (hw : w < 4) : loV (1 + w) 1 = 0 ∧ hiV (1 + w) 1 = 8 := by
  simp only [loV, hiV, if_neg (show ¬ 1 + w = 0 by omega), if_pos (show 1 + w < 5 by omega)]
  decide
theorem gw1 {V : Mem} {w : Nat} (h : WFV V) (hw : w < 4) : 0 ≤ (V (1 + w) 1).toInt ∧ (V (1 + w) 1).toInt ≤ 8 := by
  have := h.1 (1 + w) 1 (by unfold inC; omega)
  rw [(lw1 hw).1, (lw1 hw).2] at this
  exact this
theorem lw2 {w : Nat} (hw : w < 4) : loV (1 + w) 2 = 0 ∧ hiV (1 + w) 2 = 8 := by
  simp only [loV, hiV, if_neg (show ¬ 1 + w = 0 by omega), if_pos (show 1 + w < 5 by omega)]
  decide
theorem gw2 {V : Mem} {w : Nat} (h : WFV V) (hw : w < 4) : 0 ≤ (V (1 + w) 2).toInt ∧ (V (1 + w) 2).toInt ≤ 8 := by
  have := h.1 (1 + w) 2 (by unfold inC; omega)
  rw [(lw2 hw).1, (lw2 hw).2] at this
  exact this
theorem lw3 {w : Nat} (hw : w < 4) : loV (1 + w) 3 = 0 ∧ hiV (1 + w) 3 = 600 := by
  simp only [loV, hiV, if_neg (show ¬ 1 + w = 0 by omega), if_pos (show 1 + w < 5 by omega)]
  decide
theorem gw3 {V : Mem} {w : Nat} (h : WFV V) (hw : w < 4) : 0 ≤ (V (1 + w) 3).toInt ∧ (V (1 + w) 3).toInt ≤ 600 := by
  have := h.1 (1 + w) 3 (by unfold inC; omega)
  rw [(lw3 hw).1, (lw3 hw).2] at this
  exact this
theorem lw4 {w : Nat} (hw : w < 4) : loV (1 + w) 4 = 0 ∧ hiV (1 + w) 4 = 999 := by
  simp only [loV, hiV, if_neg (show ¬ 1 + w = 0 by omega), if_pos (show 1 + w < 5 by omega)]
  decide
theorem gw4 {V : Mem} {w : Nat} (h : WFV V) (hw : w < 4) : 0 ≤ (V (1 + w) 4).toInt ∧ (V (1 + w) 4).toInt ≤ 999 := by
  have := h.1 (1 + w) 4 (by unfold inC; omega)
  rw [(lw4 hw).1, (lw4 hw).2] at this
  exact this
theorem lw5 {w : Nat} (hw : w < 4) : loV (1 + w) 5 = 0 ∧ hiV (1 + w) 5 = 1 := by
  simp only [loV, hiV, if_neg (show ¬ 1 + w = 0 by omega), if_pos (show 1 + w < 5 by omega)]
  decide
theorem gw5 {V : Mem} {w : Nat} (h : WFV V) (hw : w < 4) : 0 ≤ (V (1 + w) 5).toInt ∧ (V (1 + w) 5).toInt ≤ 1 := by
  have := h.1 (1 + w) 5 (by unfold inC; omega)
  rw [(lw5 hw).1, (lw5 hw).2] at this
  exact this
theorem lw6 {w : Nat} (hw : w < 4) : loV (1 + w) 6 = 0 ∧ hiV (1 + w) 6 = 99999 := by
  simp only [loV, hiV, if_neg (show ¬ 1 + w = 0 by omega), if_pos (show 1 + w < 5 by omega)]
  decide
theorem gw6 {V : Mem} {w : Nat} (h : WFV V) (hw : w < 4) : 0 ≤ (V (1 + w) 6).toInt ∧ (V (1 + w) 6).toInt ≤ 99999 := by
  have := h.1 (1 + w) 6 (by unfold inC; omega)
  rw [(lw6 hw).1, (lw6 hw).2] at this
  exact this
theorem lw7 {w : Nat} (hw : w < 4) : loV (1 + w) 7 = -1 ∧ hiV (1 + w) 7 = 20000 := by
  simp only [loV, hiV, if_neg (show ¬ 1 + w = 0 by omega), if_pos (show 1 + w < 5 by omega)]
  decide
theorem gw7 {V : Mem} {w : Nat} (h : WFV V) (hw : w < 4) : -1 ≤ (V (1 + w) 7).toInt ∧ (V (1 + w) 7).toInt ≤ 20000 := by
  have := h.1 (1 + w) 7 (by unfold inC; omega)
  rw [(lw7 hw).1, (lw7 hw).2] at this
  exact this
theorem lr0 {r : Nat} (hr : r < 8) : loV (10 + r) 0 = 0 ∧ hiV (10 + r) 0 = 6 := by
  simp only [loV, hiV, if_neg (show ¬ 10 + r = 0 by omega), if_neg (show ¬ 10 + r < 5 by omega), if_pos (show 10 + r < 18 by omega)]
  decide
theorem gr0 {V : Mem} {r : Nat} (h : WFV V) (hr : r < 8) : 0 ≤ (V (10 + r) 0).toInt ∧ (V (10 + r) 0).toInt ≤ 6 := by
  have := h.1 (10 + r) 0 (by unfold inC; omega)
  rw [(lr0 hr).1, (lr0 hr).2] at this
  exact this
theorem lr1 {r : Nat} (hr : r < 8) : loV (10 + r) 1 = 0 ∧ hiV (10 + r) 1 = 9 := by
  simp only [loV, hiV, if_neg (show ¬ 10 + r = 0 by omega), if_neg (show ¬ 10 + r < 5 by omega), if_pos (show 10 + r < 18 by omega)]
  decide
theorem gr1 {V : Mem} {r : Nat} (h : WFV V) (hr : r < 8) : 0 ≤ (V (10 + r) 1).toInt ∧ (V (10 + r) 1).toInt ≤ 9 := by
  have := h.1 (10 + r) 1 (by unfold inC; omega)
  rw [(lr1 hr).1, (lr1 hr).2] at this
  exact this
theorem lr2 {r : Nat} (hr : r < 8) : loV (10 + r) 2 = 0 ∧ hiV (10 + r) 2 = 3 := by
  simp only [loV, hiV, if_neg (show ¬ 10 + r = 0 by omega), if_neg (show ¬ 10 + r < 5 by omega), if_pos (show 10 + r < 18 by omega)]
  decide
theorem gr2 {V : Mem} {r : Nat} (h : WFV V) (hr : r < 8) : 0 ≤ (V (10 + r) 2).toInt ∧ (V (10 + r) 2).toInt ≤ 3 := by
  have := h.1 (10 + r) 2 (by unfold inC; omega)
  rw [(lr2 hr).1, (lr2 hr).2] at this
  exact this
theorem lr3 {r : Nat} (hr : r < 8) : loV (10 + r) 3 = 0 ∧ hiV (10 + r) 3 = 20000 := by
  simp only [loV, hiV, if_neg (show ¬ 10 + r = 0 by omega), if_neg (show ¬ 10 + r < 5 by omega), if_pos (show 10 + r < 18 by omega)]
  decide
theorem gr3 {V : Mem} {r : Nat} (h : WFV V) (hr : r < 8) : 0 ≤ (V (10 + r) 3).toInt ∧ (V (10 + r) 3).toInt ≤ 20000 := by
  have := h.1 (10 + r) 3 (by unfold inC; omega)
  rw [(lr3 hr).1, (lr3 hr).2] at this
  exact this
theorem lr4 {r : Nat} (hr : r < 8) : loV (10 + r) 4 = 0 ∧ hiV (10 + r) 4 = 60 := by
  simp only [loV, hiV, if_neg (show ¬ 10 + r = 0 by omega), if_neg (show ¬ 10 + r < 5 by omega), if_pos (show 10 + r < 18 by omega)]
  decide
theorem gr4 {V : Mem} {r : Nat} (h : WFV V) (hr : r < 8) : 0 ≤ (V (10 + r) 4).toInt ∧ (V (10 + r) 4).toInt ≤ 60 := by
  have := h.1 (10 + r) 4 (by unfold inC; omega)
  rw [(lr4 hr).1, (lr4 hr).2] at this
  exact this
theorem lr5 {r : Nat} (hr : r < 8) : loV (10 + r) 5 = 0 ∧ hiV (10 + r) 5 = 10 := by
  simp only [loV, hiV, if_neg (show ¬ 10 + r = 0 by omega), if_neg (show ¬ 10 + r < 5 by omega), if_pos (show 10 + r < 18 by omega)]
  decide
theorem gr5 {V : Mem} {r : Nat} (h : WFV V) (hr : r < 8) : 0 ≤ (V (10 + r) 5).toInt ∧ (V (10 + r) 5).toInt ≤ 10 := by
  have := h.1 (10 + r) 5 (by unfold inC; omega)
  rw [(lr5 hr).1, (lr5 hr).2] at this
  exact this
theorem lr6 {r : Nat} (hr : r < 8) : loV (10 + r) 6 = 0 ∧ hiV (10 + r) 6 = 1 := by
  simp only [loV, hiV, if_neg (show ¬ 10 + r = 0 by omega), if_neg (show ¬ 10 + r < 5 by omega), if_pos (show 10 + r < 18 by omega)]
  decide
theorem gr6 {V : Mem} {r : Nat} (h : WFV V) (hr : r < 8) : 0 ≤ (V (10 + r) 6).toInt ∧ (V (10 + r) 6).toInt ≤ 1 := by
  have := h.1 (10 + r) 6 (by unfold inC; omega)
  rw [(lr6 hr).1, (lr6 hr).2] at this
  exact this
theorem lr7 {r : Nat} (hr : r < 8) : loV (10 + r) 7 = 0 ∧ hiV (10 + r) 7 = 20000 := by
  simp only [loV, hiV, if_neg (show ¬ 10 + r = 0 by omega), if_neg (show ¬ 10 + r < 5 by omega), if_pos (show 10 + r < 18 by omega)]
  decide
theorem gr7 {V : Mem} {r : Nat} (h : WFV V) (hr : r < 8) : 0 ≤ (V (10 + r) 7).toInt ∧ (V (10 + r) 7).toInt ≤ 20000 := by
  have := h.1 (10 + r) 7 (by unfold inC; omega)
  rw [(lr7 hr).1, (lr7 hr).2] at this
  exact this
theorem gwl {V : Mem} {w i : Nat} (h : WFV V) (hw : w < 4) (hi : i < 8) : 0 ≤ (V (1 + w) (8 + 2 * i)).toInt ∧ (V (1 + w) (8 + 2 * i)).toInt ≤ 60 := by
  have := h.1 (1 + w) (8 + 2 * i) (by unfold inC; omega)
  simp only [loV, hiV, if_neg (show ¬ 1 + w = 0 by omega), if_pos (show 1 + w < 5 by omega), if_neg (show ¬ 8 + 2 * i = 0 by omega), if_neg (show ¬ 8 + 2 * i = 1 by omega), if_neg (show ¬ 8 + 2 * i = 2 by omega), if_neg (show ¬ 8 + 2 * i = 3 by omega), if_neg (show ¬ 8 + 2 * i = 4 by omega), if_neg (show ¬ 8 + 2 * i = 5 by omega), if_neg (show ¬ 8 + 2 * i = 6 by omega), if_neg (show ¬ 8 + 2 * i = 7 by omega), if_pos (show (8 + 2 * i) % 2 = 0 by omega)] at this
  exact this
theorem gwh {V : Mem} {w i : Nat} (h : WFV V) (hw : w < 4) (hi : i < 8) : 0 ≤ (V (1 + w) (9 + 2 * i)).toInt ∧ (V (1 + w) (9 + 2 * i)).toInt ≤ 9 := by
  have := h.1 (1 + w) (9 + 2 * i) (by unfold inC; omega)
  simp only [loV, hiV, if_neg (show ¬ 1 + w = 0 by omega), if_pos (show 1 + w < 5 by omega), if_neg (show ¬ 9 + 2 * i = 0 by omega), if_neg (show ¬ 9 + 2 * i = 1 by omega), if_neg (show ¬ 9 + 2 * i = 2 by omega), if_neg (show ¬ 9 + 2 * i = 3 by omega), if_neg (show ¬ 9 + 2 * i = 4 by omega), if_neg (show ¬ 9 + 2 * i = 5 by omega), if_neg (show ¬ 9 + 2 * i = 6 by omega), if_neg (show ¬ 9 + 2 * i = 7 by omega), if_neg (show ¬ (9 + 2 * i) % 2 = 0 by omega)] at this
  exact this
