/-! THE MINUTE KEEPS A VIEW WELL. -/
theorem mn_le {h x : Int32} : (mn h x).toInt ≤ h.toInt := by
  unfold mn
  split <;> omega
theorem mn_ge {h x : Int32} (h0 : 0 ≤ h.toInt) (hx : 0 ≤ x.toInt) : 0 ≤ (mn h x).toInt := by
  unfold mn
  split <;> omega
theorem kp_in {tx : TX} {V : Mem} {w r : Nat} (h : WFV V) (hw : w < 4) : 0 ≤ (keepsP tx V w r).toInt ∧ (keepsP tx V w r).toInt ≤ (V (1 + w) 0).toInt := by
  have z : (0 : Int32).toInt = 0 := rfl
  have := held_in (v := (if V (10 + r) 0 = 1 then V (1 + w) 0 / 2 - V (10 + r) 1
    else if V (10 + r) 0 = 2 then V (1 + w) 0 * 3 / 4
    else if V (10 + r) 0 = 3 then (if V (1 + w) 5 = 1 then V (1 + w) 0 / 2 + V (10 + r) 1 else 0)
    else if V (10 + r) 0 = 4 then (if 0 < (V (1 + w) 3).toInt then (V (1 + w) 0 / 2 - V (10 + r) 1) / 2 else V (1 + w) 0 / 2 - V (10 + r) 1)
    else if V (10 + r) 0 = 5 then (if V (1 + w) 3 = 0 then V (1 + w) 0 else V (1 + w) 0 * 3 / 4)
    else if V (10 + r) 0 = 6 then ((tx 0 (V (1 + w) 0) (V (10 + r) 4) (V (1 + w) 5) (V (10 + r) 1)).getD (V (1 + w) 0 - V (10 + r) 4))
    else V (1 + w) 0 / 2)) (lo := 0) (hi := V (1 + w) 0) (by rw [z]; exact (gw0 h hw).1)
  rw [z] at this
  exact this
theorem go_in {tx : TX} {V : Mem} {w : Nat} : 0 ≤ (goesP tx V w).toInt ∧ (goesP tx V w).toInt ≤ 99 := by
  unfold goesP
  exact held_in (lo := 0) (hi := 99) (by decide)
theorem wf_leave {V : Mem} {w : Nat} {x m : Int32} (h : WFV V) (hw : w < 4) (hx : 0 ≤ x.toInt ∧ x.toInt ≤ (V (1 + w) 0).toInt) (hm : 0 ≤ m.toInt ∧ m.toInt ≤ 60) : WFV (leaveP V w x m) := by
  have g0 := gw0 h hw
  have g6 := gw6 h hw
  have e1 : (V (1 + w) 6 + V (1 + w) 0).toInt = (V (1 + w) 6).toInt + (V (1 + w) 0).toInt := ta (by omega) (by omega)
  have e2 : (V (1 + w) 6 + V (1 + w) 0 - x).toInt = (V (1 + w) 6).toInt + (V (1 + w) 0).toInt - x.toInt := by rw [ts] <;> rw [e1] <;> omega
  have t9 : (99999 : Int32).toInt = 99999 := rfl
  unfold leaveP
  refine wf_up (wf_up (wf_up h (by unfold plV; omega) ?_) (by unfold plV; omega) ?_) (by unfold plV; omega) ?_
  · rw [(lw6 hw).1, (lw6 hw).2]
    exact ⟨mn_ge (by decide) (by omega), mn_le⟩
  · rw [(lw0 hw).1, (lw0 hw).2]
    omega
  · rw [(lw4 hw).1, (lw4 hw).2]
    omega
theorem wf_come {tx : TX} {V : Mem} {r : Nat} {g : Int32 → Int32} (h : WFV V) (hr : r < 8) : WFV (comeP g tx V r) := by
  have g2 := gr2 h hr
  have hw : (V (10 + r) 2).toNatClampNeg < 4 := ix_lt g2.1 (by omega)
  have h2 : WFV (up (up V (10 + r) 6 1) 0 5 (g (V 0 5 + V 0 2 - V (10 + r) 3))) := by
    refine wf_up (wf_up h (by unfold plV; omega) ?_) (by unfold plV; omega) ?_
    · rw [(lr6 hr).1, (lr6 hr).2]
      decide
    · rw [show loV 0 5 = -2147483648 from rfl, show hiV 0 5 = 2147483647 from rfl]
      have q1 := Int32.le_toInt (g (V 0 5 + V 0 2 - V (10 + r) 3))
      have q2 := Int32.toInt_lt (g (V 0 5 + V 0 2 - V (10 + r) 3))
      omega
  unfold comeP
  simp only []
  generalize hwe : (V (10 + r) 2).toNatClampNeg = w at *
  have rd : ∀ k, up (up V (10 + r) 6 1) 0 5 (g (V 0 5 + V 0 2 - V (10 + r) 3)) (1 + w) k = V (1 + w) k := fun k => by rw [up_o (by omega), up_o (by omega)]
  have g4 := gr4 h hr
  split
  · exact wf_leave h2 hw (by rw [rd]; exact kp_in h hw) g4
  · have g4w := gw4 h hw
    have e3 : (V (1 + w) 4 + V (10 + r) 4).toInt = (V (1 + w) 4).toInt + (V (10 + r) 4).toInt := ta (by omega) (by omega)
    refine wf_up h2 (by unfold plV; omega) ?_
    rw [(lw4 hw).1, (lw4 hw).2]
    exact ⟨mn_ge (by decide) (by omega), mn_le⟩
theorem wf_rest {tx : TX} {only : Int32} {V : Mem} {r : Nat} {g : Int32 → Int32} (h : WFV V) (hr : r < 8) : WFV (restP g tx only V r) := by
  unfold restP
  split
  · split
    · have g4 := gs4 h
      refine wf_up h (by unfold plV; omega) ?_
      rw [(lr7 hr).1, (lr7 hr).2]
      omega
    · exact wf_come h hr
  · exact h
theorem wd_come {tx : TX} {V : Mem} {r : Nat} (h : WFV V) (hd : WFD V) (hr : r < 8) (hm : (V 0 2).toInt ≤ 15000) (h7 : (V (10 + r) 7).toInt ≤ (V 0 2).toInt) : WFD (comeP (mn 99999) tx V r) := by
  have g5 := hd.2
  have g3 := gr3 h hr
  have g37 := hd.1 r hr
  have gm := gs2 h
  have e1 : (V 0 5 + V 0 2).toInt = (V 0 5).toInt + (V 0 2).toInt := ta (by omega) (by omega)
  have e2 : (V 0 5 + V 0 2 - V (10 + r) 3).toInt = (V 0 5).toInt + (V 0 2).toInt - (V (10 + r) 3).toInt := by rw [ts] <;> rw [e1] <;> omega
  have hw4 : (V (10 + r) 2).toNatClampNeg < 4 := ix_lt (gr2 h hr).1 (by have := (gr2 h hr).2; omega)
  have h5 : comeP (mn 99999) tx V r 0 5 = mn 99999 (V 0 5 + V 0 2 - V (10 + r) 3) := by
    unfold comeP leaveP
    split
    · rw [up_o (by omega), up_o (by omega), up_o (by omega), up_eq]
    · rw [up_o (by omega), up_eq]
  have hq : ∀ x k, x < 8 → ¬ k = 6 → comeP (mn 99999) tx V r (10 + x) k = V (10 + x) k := fun x k hx hk => by
    unfold comeP leaveP
    split
    · rw [up_o (by omega), up_o (by omega), up_o (by omega), up_o (by omega), up_j hk]
    · rw [up_o (by omega), up_o (by omega), up_j hk]
  refine ⟨fun x hx => by rw [hq x 3 hx (by decide), hq x 7 hx (by decide)]; exact hd.1 x hx, ?_⟩
  rw [h5]
  exact ⟨mn_ge (by decide) (by omega), mn_le⟩
theorem wd_rest {tx : TX} {only : Int32} {V : Mem} {r : Nat} (h : WFV V) (hd : WFD V) (hr : r < 8) (hm : (V 0 2).toInt ≤ 15000) : WFD (restP (mn 99999) tx only V r) := by
  unfold restP
  split
  · rename_i hc
    split
    · rename_i hp
      refine ⟨fun x hx => ?_, by rw [up_o (by omega)]; exact hd.2⟩
      rw [up_j (by decide)]
      by_cases q : x = r
      · rw [q, up_eq]
        have := hd.1 r hr
        omega
      · rw [up_o (by omega)]
        exact hd.1 x hx
    · exact wd_come h hd hr hm hc.2.2
  · exact hd
theorem wd_work {tx : TX} {V : Mem} {w : Nat} (hd : WFD V) (hw : w < 4) : WFD (workP tx V w) := by
  have hq : ∀ o k, ¬ o = 1 + w → workP tx V w o k = V o k := fun o k ho => by
    unfold workP wkP
    simp only []
    split
    · split
      · rfl
      · split
        · rw [up_o ho, up_o ho]
        · split
          · rw [up_o ho, up_o ho, up_o ho, up_o ho, up_o ho]
          · rw [up_o ho, up_o ho, up_o ho, up_o ho]
    · rw [up_o ho]
  refine ⟨fun x hx => ?_, ?_⟩
  · rw [hq _ _ (by omega), hq _ _ (by omega)]
    exact hd.1 x hx
  · rw [hq _ _ (by omega)]
    exact hd.2
theorem wf_wk {V : Mem} {w : Nat} {g m : Int32} (h : WFV V) (hw : w < 4) (hg : 0 ≤ g.toInt ∧ g.toInt ≤ 99) (hm : 0 ≤ m.toInt ∧ m.toInt ≤ 15000) (hat : ¬ V (1 + w) 2 = V (1 + w) 1) : WFV (wkP V w g m) := by
  have g3 := gw3 h hw
  have g0 := gw0 h hw
  have g2 := gw2 h hw
  have g1 := gw1 h hw
  have g21 := h.2.1 w hw
  have hne : ¬ (V (1 + w) 2).toInt = (V (1 + w) 1).toInt := fun q => hat (Int32.toInt_inj.mp q)
  have hi : (V (1 + w) 2).toNatClampNeg < 8 := ix_lt g2.1 (by omega)
  have gl := gwl h hw hi
  have e3 : (V (1 + w) 3 + g).toInt = (V (1 + w) 3).toInt + g.toInt := ta (by omega) (by omega)
  have t1 : (1 : Int32).toInt = 1 := rfl
  have t10 : (10 : Int32).toInt = 10 := rfl
  have e0 : (V (1 + w) 0 + 1).toInt = (V (1 + w) 0).toInt + 1 := by rw [ta] <;> rw [t1] <;> omega
  have e2 : (V (1 + w) 2 + 1).toInt = (V (1 + w) 2).toInt + 1 := by rw [ta] <;> rw [t1] <;> omega
  have el : (V (1 + w) (8 + 2 * (V (1 + w) 2).toNatClampNeg) * 10).toInt = (V (1 + w) (8 + 2 * (V (1 + w) 2).toNatClampNeg)).toInt * 10 := by rw [tm] <;> rw [t10] <;> omega
  unfold wkP
  simp only []
  have hD : ∀ dn : Int32, 0 ≤ dn.toInt → dn.toInt ≤ 600 → WFV (up (up V (1 + w) 3 dn) (1 + w) 0 (mn 99 (V (1 + w) 0 + 1))) := fun dn d0 d1 => by
    refine wf_up (wf_up h (by unfold plV; omega) ?_) (by unfold plV; omega) ?_
    · rw [(lw3 hw).1, (lw3 hw).2]
      exact ⟨d0, d1⟩
    · rw [(lw0 hw).1, (lw0 hw).2]
      exact ⟨mn_ge (by decide) (by omega), mn_le⟩
  split
  · rename_i hlt
    exact hD _ (by omega) (by omega)
  · have hS : up (up (up (up V (1 + w) 3 (V (1 + w) 3 + g)) (1 + w) 0 (mn 99 (V (1 + w) 0 + 1))) (1 + w) 2 (V (1 + w) 2 + 1)) (1 + w) 3 0 = up (up (up (up V (1 + w) 3 0) (1 + w) 0 (mn 99 (V (1 + w) 0 + 1))) (1 + w) 2 (V (1 + w) 2 + 1)) (1 + w) 3 0 := by
      funext a c
      unfold up
      by_cases q : a = 1 + w ∧ c = 3
      · rw [if_pos q, if_pos q]
      · simp only [if_neg q]
    rw [hS]
    have hV3 : WFV (up (up (up (up V (1 + w) 3 0) (1 + w) 0 (mn 99 (V (1 + w) 0 + 1))) (1 + w) 2 (V (1 + w) 2 + 1)) (1 + w) 3 0) := by
      refine wf_up (wf_at (hD 0 (by decide) (by decide)) hw (by omega) ?_) (by unfold plV; omega) ?_
      · rw [up_j (by decide), up_j (by decide)]
        omega
      · rw [(lw3 hw).1, (lw3 hw).2]
        decide
    split
    · refine wf_up hV3 (by unfold plV; omega) ?_
      rw [(lw7 hw).1, (lw7 hw).2]
      omega
    · exact hV3
theorem wf_work {tx : TX} {V : Mem} {w : Nat} (h : WFV V) (hw : w < 4) (hm : (V 0 2).toInt ≤ 15000) : WFV (workP tx V w) := by
  have g4 := gw4 h hw
  have t1 : (1 : Int32).toInt = 1 := rfl
  unfold workP
  split
  · split
    · exact h
    · rename_i hne
      exact wf_wk h hw go_in ⟨(gs2 h).1, hm⟩ hne
  · rename_i hne
    have hn : ¬ (V (1 + w) 4).toInt = 0 := fun q => hne (Int32.toInt_inj.mp q)
    have e : (V (1 + w) 4 - 1).toInt = (V (1 + w) 4).toInt - 1 := by rw [ts] <;> rw [t1] <;> omega
    refine wf_up h (by unfold plV; omega) ?_
    rw [(lw4 hw).1, (lw4 hw).2]
    omega
