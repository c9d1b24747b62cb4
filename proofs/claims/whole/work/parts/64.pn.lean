/-! PAIRS OF CALLS: minutes, loose. -/
theorem rs_un {tx : TX} {g : Int32 → Int32} {only : Int32} {V : Mem} {r o k : Nat} (hW : WFV V) (hr : r < 8) (ho : 10 ≤ o ∧ (18 ≤ o ∨ ¬ (k = 6 ∨ k = 7))) : restP g tx only V r o k = V o k := by
  have g2 := gr2 hW hr
  have hw : (V (10 + r) 2).toNatClampNeg < 4 := ix_lt g2.1 (by omega)
  unfold restP comeP leaveP
  generalize (V (10 + r) 2).toNatClampNeg = w at *
  simp only []
  have n1 : ¬ (o = 10 + r ∧ k = 7) := by omega
  have n2 : ¬ (o = 10 + r ∧ k = 6) := by omega
  have n3 : ¬ o = 1 + w := by omega
  have n0 : ¬ o = 0 := by omega
  have e7 : ∀ (W : Mem) v, up W (10 + r) 7 v o k = W o k := fun W v => if_neg n1
  have e6 : ∀ (W : Mem) v, up W (10 + r) 6 v o k = W o k := fun W v => if_neg n2
  split
  · split
    · rw [e7]
    · split
      · rw [up_o n3, up_o n3, up_o n3, up_o n0, e6]
      · rw [up_o n3, up_o n0, e6]
  · rfl
theorem wk_un {tx : TX} {V : Mem} {w o k : Nat} (ho : ¬ o = 1 + w) : workP tx V w o k = V o k := by
  unfold workP wkP
  simp only []
  split
  · split
    · rfl
    · split
      · rw [up_o ho, up_o ho]
      · split
        · rw [up_o ho, up_o ho, up_o ho, up_o ho, up_o ho]
        · rw [up_o ho, up_o ho, up_o ho, up_o ho]
  · rw [up_o ho]
theorem min_un {tx : TX} {only : Int32} {V : Mem} {o k : Nat} (hW : WFV V) (ho : 10 ≤ o ∧ (18 ≤ o ∨ ¬ (k = 6 ∨ k = 7))) : minP (mn 99999) tx only V o k = V o k := by
  have g1 := gs1 hW
  have g0 := gs0 hW
  have e1 : (V 0 1).toNatClampNeg = (V 0 1).toInt.toNat := rfl
  have e0 : (V 0 0).toNatClampNeg = (V 0 0).toInt.toNat := rfl
  have a := itN_inv (f := restP (mn 99999) tx only) (P := fun V' => WFV V' ∧ V' o k = V o k) (N := (V 0 1).toNatClampNeg) (fun n V' hn q => ⟨wf_rest q.1 (by omega), (rs_un q.1 (by omega) ho).trans q.2⟩) _ V (Nat.le_refl _) ⟨hW, rfl⟩
  have f0 : restsP (mn 99999) tx only V 0 0 = V 0 0 := rss_sm (by decide)
  have b := itN_inv (f := wrkP tx only) (P := fun V' => V' o k = V o k) (N := (V 0 0).toNatClampNeg) (fun n V' hn q => by
    unfold wrkP
    split
    · exact (wk_un (by omega)).trans q
    · exact q) _ (restsP (mn 99999) tx only V) (Nat.le_refl _) a.2
  unfold minP
  rw [up_o (by omega)]
  unfold worksP
  rw [f0]
  exact b
theorem eqv_min {V V' : Mem} {tx tx' : TX} (h : EQV V V') (hW : WFV V) (hW' : WFV V') (hm : (V 0 2).toInt ≤ 15000) (ht : ∀ u, u < 2 → tx u = tx' u) : EQV (minP (mn 99999) tx (-1) V) (minP (mn 99999) tx' (-1) V') := by
  rw [← min_cg ht]
  have r := rel_min (tx := tx) (only := -1) (only' := -1) (h.rel hW) hW hW' hm (fun _ _ _ => Or.inl rfl) (fun _ _ _ => Or.inl rfl) (fun _ x hx => hx)
  have s : ∀ k, ¬ k = 2 → ¬ k = 5 → minP (mn 99999) tx (-1) V 0 k = V 0 k := fun k p1 p2 => min_sm p1 p2
  have s' : ∀ k, ¬ k = 2 → ¬ k = 5 → minP (mn 99999) tx (-1) V' 0 k = V' 0 k := fun k p1 p2 => min_sm p1 p2
  refine r.eqv (fun x hx hc => by rw [s 0 (by decide) (by decide)] at hc; exact hc) (wf_min hW hm) (fun k p1 p2 => by rw [s k (by omega) (by omega), s' k (by omega) (by omega)]; exact h.1 k p2) (fun r hr hc => ?_) (fun i hi hc => ?_) (fun i hi hc => ?_)
  · rw [s 1 (by decide) (by decide)] at hc
    rw [min_un hW (by omega), min_un hW' (by omega)]
    exact h.2.2.1 r hr hc 5 (by decide)
  · rw [s 6 (by decide) (by decide)] at hc
    rw [min_un hW (by omega), min_un hW' (by omega)]
    exact h.2.2.2.1 i hi hc
  · rw [s 7 (by decide) (by decide)] at hc
    rw [min_un hW (by omega), min_un hW' (by omega)]
    exact h.2.2.2.2 i hi hc
theorem eqv_wan {V V' : Mem} {w : Nat} (h : EQV V V') (hW : WFV V) (hw : w < 4) (hc : (w : Int) < (V 0 0).toInt) : EQV (wanP V w) (wanP V' w) := by
  have a := h.2.1 w hw hc
  have x0 := a 0 (by decide) (Or.inl (by decide))
  have x1 := a 1 (by decide) (Or.inl (by decide))
  have x2 := a 2 (by decide) (Or.inl (by decide))
  have x4 := a 4 (by decide) (Or.inl (by decide))
  have x6 := a 6 (by decide) (Or.inl (by decide))
  have z8 := h.1 8 (by decide)
  have g2 := gw2 hW hw
  have g1 := gw1 hW hw
  have g21 := hW.2.1 w hw
  have nz : ¬ 1 + w = 0 := by omega
  unfold wanP
  rw [x4, x2, x1, z8, x0]
  by_cases c : V (1 + w) 4 = 0 ∧ ¬ V (1 + w) 2 = V (1 + w) 1
  · rw [if_pos c, if_pos c]
    have hne : ¬ (V (1 + w) 2).toInt = (V (1 + w) 1).toInt := fun q => c.2 (Int32.toInt_inj.mp q)
    have e1 : (V (1 + w) 1).toNatClampNeg = (V (1 + w) 1).toInt.toNat := rfl
    have e2 : (V (1 + w) 2).toNatClampNeg = (V (1 + w) 2).toInt.toNat := rfl
    rw [a (9 + 2 * (V (1 + w) 2).toNatClampNeg) (by omega) (Or.inr (by omega))]
    split
    · unfold leaveP
      rw [up_o nz, up_o nz, up_o nz, up_o nz, x6, x0]
      exact (((h.b (by unfold plE; omega)).b (by unfold plE; omega)).b (by unfold plE; omega)).b (by unfold plE; omega)
    · exact h.b (by unfold plE; omega)
  · rw [if_neg c, if_neg c]
    exact h
theorem wans_k {V : Mem} (hW : WFV V) : ∀ n, n ≤ (V 0 0).toNatClampNeg → WFV (itN wanP n V) ∧ ∀ k, ¬ k = 8 → itN wanP n V 0 k = V 0 k := by
  have g0 := gs0 hW
  have e0 : (V 0 0).toNatClampNeg = (V 0 0).toInt.toNat := rfl
  intro n hn
  exact itN_inv (f := wanP) (P := fun V' => WFV V' ∧ ∀ k, ¬ k = 8 → V' 0 k = V 0 k) (N := (V 0 0).toNatClampNeg) (fun m V' hm q => ⟨wf_wan q.1 (by omega), fun k hk => (wan_sm hk).trans (q.2 k hk)⟩) n V hn ⟨hW, fun _ _ => rfl⟩
theorem wans_d {V : Mem} (hW : WFV V) (hD : WFD V) : WFD (wansP V) := by
  have g0 := gs0 hW
  have e0 : (V 0 0).toNatClampNeg = (V 0 0).toInt.toNat := rfl
  exact itN_inv (f := wanP) (P := fun V' => WFD V') (N := (V 0 0).toNatClampNeg) (fun m V' hm q => wd_wan q (by omega)) _ V (Nat.le_refl _) hD
theorem eqv_wans {V V' : Mem} (h : EQV V V') (hW : WFV V) : EQV (wansP V) (wansP V') := by
  have g0 := gs0 hW
  have e0 : (V 0 0).toNatClampNeg = (V 0 0).toInt.toNat := rfl
  unfold wansP
  rw [h.1 0 (by decide)]
  have key : ∀ n, n ≤ (V 0 0).toNatClampNeg → EQV (itN wanP n V) (itN wanP n V') := by
    intro n
    induction n with
    | zero => exact fun _ => h
    | succ n ih =>
      intro hn
      obtain ⟨k1, k2⟩ := wans_k hW n (by omega)
      exact eqv_wan (ih (by omega)) k1 (by omega) (by rw [k2 0 (by decide)]; omega)
  exact key _ (Nat.le_refl _)
def looP (lo : Int32) (tx : TX) (V : Mem) : Mem := minP (mn 99999) tx (-1) (if lo = 1 then wansP V else V)
theorem loo_k {lo : Int32} {tx : TX} {V : Mem} (hW : WFV V) (hm : (V 0 2).toInt ≤ 15000) : WFV (looP lo tx V) ∧ (looP lo tx V 0 2).toInt = (V 0 2).toInt + 1 := by
  unfold looP
  split
  · obtain ⟨k1, k2⟩ := wans_k hW _ (Nat.le_refl _)
    have k1' : WFV (wansP V) := k1
    have e2 : wansP V 0 2 = V 0 2 := k2 2 (by decide)
    exact ⟨wf_min k1' (by rw [e2]; exact hm), by rw [min_mi, mi_1 k1' (by rw [e2]; exact hm), e2]⟩
  · exact ⟨wf_min hW hm, by rw [min_mi, mi_1 hW hm]⟩
theorem loo_d {lo : Int32} {tx : TX} {V : Mem} (hW : WFV V) (hD : WFD V) (hm : (V 0 2).toInt ≤ 15000) : WFD (looP lo tx V) := by
  unfold looP
  split
  · obtain ⟨k1, k2⟩ := wans_k hW _ (Nat.le_refl _)
    have k1' : WFV (wansP V) := k1
    have e2 : wansP V 0 2 = V 0 2 := k2 2 (by decide)
    exact wd_min k1' (wans_d hW hD) (by rw [e2]; exact hm)
  · exact wd_min hW hD hm
theorem loo_e {lo : Int32} {tx tx' : TX} {V V' : Mem} (h : EQV V V') (hW : WFV V) (hW' : WFV V') (hm : (V 0 2).toInt ≤ 15000) (ht : ∀ u, u < 2 → tx u = tx' u) : EQV (looP lo tx V) (looP lo tx' V') := by
  unfold looP
  split
  · obtain ⟨k1, k2⟩ := wans_k hW _ (Nat.le_refl _)
    obtain ⟨k1', -⟩ := wans_k hW' _ (Nat.le_refl _)
    have e2 : wansP V 0 2 = V 0 2 := k2 2 (by decide)
    exact eqv_min (eqv_wans h hW) k1 k1' (by rw [e2]; exact hm) ht
  · exact eqv_min h hW hW' hm ht
theorem loo_n {lo : Int32} {tx tx' : TX} {V V' : Mem} (h : EQV V V') (hW : WFV V) (hW' : WFV V') (hD : WFD V) (hD' : WFD V') (ht : ∀ u, u < 2 → tx u = tx' u) : ∀ n : Nat, (V 0 2).toInt + n ≤ 15001 → (WFV (timesP (looP lo tx) n V) ∧ WFV (timesP (looP lo tx') n V')) ∧ (WFD (timesP (looP lo tx) n V) ∧ WFD (timesP (looP lo tx') n V')) ∧ (timesP (looP lo tx) n V 0 2).toInt = (V 0 2).toInt + n ∧ EQV (timesP (looP lo tx) n V) (timesP (looP lo tx') n V') := by
  intro n
  induction n with
  | zero => exact fun _ => ⟨⟨hW, hW'⟩, ⟨hD, hD'⟩, by show (V 0 2).toInt = _; omega, h⟩
  | succ n ih =>
    intro hn
    obtain ⟨⟨a1, a2⟩, ⟨b1, b2⟩, c, e⟩ := ih (by omega)
    have c' : (timesP (looP lo tx') n V' 0 2).toInt = (V 0 2).toInt + n := by rw [e.1 2 (by decide)]; exact c
    refine ⟨⟨(loo_k a1 (by omega)).1, (loo_k a2 (by omega)).1⟩, ⟨loo_d a1 b1 (by omega), loo_d a2 b2 (by omega)⟩, ?_, loo_e e a1 a2 (by omega) ht⟩
    show (looP lo tx (timesP (looP lo tx) n V) 0 2).toInt = _
    rw [(loo_k a1 (by omega)).2, c]
    omega
theorem l_goBy {d N : Nat} {lo : Int32} {tx : TX} {V0 : Mem} (hlo : lo = 0 ∨ lo = 1) (hN : N ≤ 600) (h0 : WFV V0) (hD : WFD V0) (hm : (V0 0 2).toInt + N ≤ 15001) : ∀ n k μ, k + n = N → LW 1 μ → txC 1 μ = tx → vC 1 μ = timesP (looP lo tx) k V0 → ∃ μ', res d 92 5 [some (vR 7 0), some (vI (nI N)), some (vI lo), some (vI (nI k))] [] μ = some (some (vI (vC 1 μ' 0 2)), μ') ∧ vC 1 μ' = timesP (looP lo tx) N V0 ∧ FrC 1 μ μ' := by
  intro n
  induction n with
  | zero =>
    intro k μ hk hL ht hv
    have hk : k = N := by omega
    subst hk
    refine ⟨μ, ?_, hv, FrC.rf⟩
    rw [u_92_5, ← cs2]
    simp -implicitDefEqProofs only [u_92_0, u_92_1, u_92_2, u_92_3, u_92_4, u_92_6, u_92_7, u_92_8, u_92_9, e_iload_n, e_iload, e_lload_n, e_lload, e_aload_n, e_aload, e_istore_n, e_istore, e_astore_n, e_astore, e_lstore_n, e_lstore, e_iinc, e_iconst, e_bipush, e_sipush, e_ldc_w, e_ldc, e_ldcS, e_lconst, e_ldc2_w, e_iadd, e_isub, e_imul, e_iand, e_ixor, e_ishl, e_ishr, e_iushr, e_idiv, e_irem, e_ineg, e_i2b, e_i2s, e_i2c, e_ladd, e_lsub, e_lmul, e_land, e_lor, e_ldiv, e_lrem, e_lneg, e_lshl, e_lshr, e_lushr, e_i2l, e_l2i, e_lcmp, e_dupI, e_dupA, e_dup2, e_getI, e_getA, e_putI, e_putZ, e_getstatic, e_iaload, e_iastore, e_aaload10, e_alen10, e_aaload11, e_alen11, e_aaload12, e_alen12, e_aaload13, e_alen13, e_alen, e_invokevirtual, e_invokevirtualB, e_invokestatic, e_invokestaticB, ct_0, ct_i, ct_a, ct_l, os_0, os_s, rc_0, rc_s, sl_0, sl_i, sl_a, sl_l, simprocAttr, ix, z_em, up_eq, up_j, Nat.le_refl, true_or, or_true, true_and, and_true, and_self, or_self, beq_self_eq_true, if_true, if_false, ite_self, ca_f, ca_t, aLen, Int32.lt_iff_toInt_lt, Int32.le_iff_toInt_le, z_ite, z_iten, z_ite1, ite_not, not_true_eq_false, not_false_eq_true, false_and, and_false, false_or, or_false, b_max, b_min, b_minL, b_absL, b_ixD, b_ixH, b_copy, tk_0, tk_s, dr_0, dr_s, pu_s, pu_n, ca_0, ca_1, clr_0, clr_s, e_nop, e_goto, e_if_eq, e_if_ne, e_if_lt, e_if_ge, e_if_gt, e_if_le, e_ic_eq, e_ic_ne, e_ic_lt, e_ic_ge, e_ic_gt, e_ic_le, e_tsw, e_lsw, sw_0, sw_s, e_iret, e_zret, e_lret, e_aret, e_ret, en_0, en_n, en_i, en_a, en_l, List.getElem?_cons_zero, List.getElem?_cons_succ, List.set_cons_zero, List.set_cons_succ, len_s, List.length_nil, ne_eq, x_within, x_in, eT1, eT2, eT3, eT4, eT5, eT6, eM1, eM2, eM3, eM4, eM5, eM6, Nat.one_mul, Nat.mul_one, Nat.zero_add, Int.lt_irrefl]
  | succ n ih =>
    intro k μ hk hL ht hv
    have h1 : ((k : Nat) : Int) < (N : Int) := by omega
    have nk : (nI k).toInt = k := nI_toInt (by omega)
    have nN : (nI N).toInt = N := nI_toInt (by omega)
    have hEr : EQV V0 V0 → True := fun _ => trivial
    have wk : ∀ n : Nat, (V0 0 2).toInt + n ≤ 15001 → WFV (timesP (looP lo tx) n V0) ∧ (timesP (looP lo tx) n V0 0 2).toInt = (V0 0 2).toInt + n := by
      intro n
      induction n with
      | zero => exact fun _ => ⟨h0, by show (V0 0 2).toInt = _; omega⟩
      | succ n ih2 =>
        intro hn
        obtain ⟨p1, p2⟩ := ih2 (by omega)
        refine ⟨(loo_k p1 (by omega)).1, ?_⟩
        show (looP lo tx (timesP (looP lo tx) n V0) 0 2).toInt = _
        rw [(loo_k p1 (by omega)).2, p2]
        omega
    obtain ⟨w1, w2⟩ := wk k (by omega)
    rw [← hv] at w1 w2
    rcases hlo with rfl | rfl
    · obtain ⟨μ1, a1, a2, a3⟩ := x_pass (d := d) (b := 1) (only := -1) (μ := μ) hL w1 (by omega)
      have a1' : cl d 43 [Sum.inr (Sum.inr (6, 1)), vI (-1)] μ = _ := a1
      obtain ⟨μ2, b1, b2, b3⟩ := ih (k + 1) μ1 (by omega) (a3.lw hL) (a3.tx.trans ht) (by rw [a2, ht, hv]; rfl)
      refine ⟨μ2, ?_, b2, a3.tr b3⟩
      rw [← b1, u_92_5]
      simp -implicitDefEqProofs only [u_92_0, u_92_1, u_92_2, u_92_3, u_92_4, u_92_6, u_92_7, u_92_8, u_92_9, e_iload_n, e_iload, e_lload_n, e_lload, e_aload_n, e_aload, e_istore_n, e_istore, e_astore_n, e_astore, e_lstore_n, e_lstore, e_iinc, e_iconst, e_bipush, e_sipush, e_ldc_w, e_ldc, e_ldcS, e_lconst, e_ldc2_w, e_iadd, e_isub, e_imul, e_iand, e_ixor, e_ishl, e_ishr, e_iushr, e_idiv, e_irem, e_ineg, e_i2b, e_i2s, e_i2c, e_ladd, e_lsub, e_lmul, e_land, e_lor, e_ldiv, e_lrem, e_lneg, e_lshl, e_lshr, e_lushr, e_i2l, e_l2i, e_lcmp, e_dupI, e_dupA, e_dup2, e_getI, e_getA, e_putI, e_putZ, e_getstatic, e_iaload, e_iastore, e_aaload10, e_alen10, e_aaload11, e_alen11, e_aaload12, e_alen12, e_aaload13, e_alen13, e_alen, e_invokevirtual, e_invokevirtualB, e_invokestatic, e_invokestaticB, ct_0, ct_i, ct_a, ct_l, os_0, os_s, rc_0, rc_s, sl_0, sl_i, sl_a, sl_l, simprocAttr, ix, z_em, up_eq, up_j, Nat.le_refl, true_or, or_true, true_and, and_true, and_self, or_self, beq_self_eq_true, if_true, if_false, ite_self, ca_f, ca_t, aLen, Int32.lt_iff_toInt_lt, Int32.le_iff_toInt_le, z_ite, z_iten, z_ite1, ite_not, not_true_eq_false, not_false_eq_true, false_and, and_false, false_or, or_false, b_max, b_min, b_minL, b_absL, b_ixD, b_ixH, b_copy, tk_0, tk_s, dr_0, dr_s, pu_s, pu_n, ca_0, ca_1, clr_0, clr_s, e_nop, e_goto, e_if_eq, e_if_ne, e_if_lt, e_if_ge, e_if_gt, e_if_le, e_ic_eq, e_ic_ne, e_ic_lt, e_ic_ge, e_ic_gt, e_ic_le, e_tsw, e_lsw, sw_0, sw_s, e_iret, e_zret, e_lret, e_aret, e_ret, en_0, en_n, en_i, en_a, en_l, List.getElem?_cons_zero, List.getElem?_cons_succ, List.set_cons_zero, List.set_cons_succ, len_s, List.length_nil, ne_eq, x_within, x_in, eT1, eT2, eT3, eT4, eT5, eT6, eM1, eM2, eM3, eM4, eM5, eM6, Nat.one_mul, Nat.mul_one, Nat.zero_add, nk, nN, h1, a1', ← nI_succ]
    · obtain ⟨μ0, c1, c2, c3⟩ := x_wander (d := d) (b := 1) (μ := μ) w1
      have c1' : cl d 51 [Sum.inr (Sum.inr (6, 1))] μ = _ := c1
      obtain ⟨k1, k2⟩ := wans_k w1 _ (Nat.le_refl _)
      have k1' : WFV (wansP (vC 1 μ)) := k1
      have e2 : wansP (vC 1 μ) 0 2 = vC 1 μ 0 2 := k2 2 (by decide)
      obtain ⟨μ1, a1, a2, a3⟩ := x_pass (d := d) (b := 1) (only := -1) (μ := μ0) (c3.lw hL) (by rw [c2]; exact k1') (by rw [c2, e2]; omega)
      have a1' : cl d 43 [Sum.inr (Sum.inr (6, 1)), vI (-1)] μ0 = _ := a1
      obtain ⟨μ2, b1, b2, b3⟩ := ih (k + 1) μ1 (by omega) (a3.lw (c3.lw hL)) (a3.tx.trans (c3.tx.trans ht)) (by rw [a2, c3.tx, ht, c2, hv]; rfl)
      refine ⟨μ2, ?_, b2, (c3.tr a3).tr b3⟩
      rw [← b1, u_92_5]
      simp -implicitDefEqProofs only [u_92_0, u_92_1, u_92_2, u_92_3, u_92_4, u_92_6, u_92_7, u_92_8, u_92_9, e_iload_n, e_iload, e_lload_n, e_lload, e_aload_n, e_aload, e_istore_n, e_istore, e_astore_n, e_astore, e_lstore_n, e_lstore, e_iinc, e_iconst, e_bipush, e_sipush, e_ldc_w, e_ldc, e_ldcS, e_lconst, e_ldc2_w, e_iadd, e_isub, e_imul, e_iand, e_ixor, e_ishl, e_ishr, e_iushr, e_idiv, e_irem, e_ineg, e_i2b, e_i2s, e_i2c, e_ladd, e_lsub, e_lmul, e_land, e_lor, e_ldiv, e_lrem, e_lneg, e_lshl, e_lshr, e_lushr, e_i2l, e_l2i, e_lcmp, e_dupI, e_dupA, e_dup2, e_getI, e_getA, e_putI, e_putZ, e_getstatic, e_iaload, e_iastore, e_aaload10, e_alen10, e_aaload11, e_alen11, e_aaload12, e_alen12, e_aaload13, e_alen13, e_alen, e_invokevirtual, e_invokevirtualB, e_invokestatic, e_invokestaticB, ct_0, ct_i, ct_a, ct_l, os_0, os_s, rc_0, rc_s, sl_0, sl_i, sl_a, sl_l, simprocAttr, ix, z_em, up_eq, up_j, Nat.le_refl, true_or, or_true, true_and, and_true, and_self, or_self, beq_self_eq_true, if_true, if_false, ite_self, ca_f, ca_t, aLen, Int32.lt_iff_toInt_lt, Int32.le_iff_toInt_le, z_ite, z_iten, z_ite1, ite_not, not_true_eq_false, not_false_eq_true, false_and, and_false, false_or, or_false, b_max, b_min, b_minL, b_absL, b_ixD, b_ixH, b_copy, tk_0, tk_s, dr_0, dr_s, pu_s, pu_n, ca_0, ca_1, clr_0, clr_s, e_nop, e_goto, e_if_eq, e_if_ne, e_if_lt, e_if_ge, e_if_gt, e_if_le, e_ic_eq, e_ic_ne, e_ic_lt, e_ic_ge, e_ic_gt, e_ic_le, e_tsw, e_lsw, sw_0, sw_s, e_iret, e_zret, e_lret, e_aret, e_ret, en_0, en_n, en_i, en_a, en_l, List.getElem?_cons_zero, List.getElem?_cons_succ, List.set_cons_zero, List.set_cons_succ, len_s, List.length_nil, ne_eq, x_within, x_in, eT1, eT2, eT3, eT4, eT5, eT6, eM1, eM2, eM3, eM4, eM5, eM6, Nat.one_mul, Nat.mul_one, Nat.zero_add, nk, nN, h1, c1', a1', ← nI_succ]
theorem times_id {tx : TX} {V : Mem} : ∀ n, timesP (looP 0 tx) n V = timesP (minP (mn 99999) tx (-1)) n V := by
  have e : looP 0 tx = minP (mn 99999) tx (-1) := by
    funext V
    unfold looP
    rw [if_neg (by decide)]
  intro n
  rw [e]
theorem RR.go {fz μ μ1 μ2 : Mem} {lo : Int32} {N : Nat} (h : RR fz μ) (hN : (vC 1 μ 0 2).toInt + N ≤ 9999) (f1 : FrC 1 μ μ1) (f2 : FrM μ1 μ2) (v1 : vC 1 μ1 = timesP (looP lo (txC 1 μ)) N (vC 1 μ)) (v2 : vM 113 μ2 = timesP (looP lo (txM μ)) N (vM 113 μ)) : RR fz μ2 ∧ vM 113 μ2 0 2 = vC 1 μ1 0 2 := by
  obtain ⟨⟨a1, a2⟩, ⟨b1, b2⟩, c, e⟩ := loo_n (lo := lo) h.1.2.2.2.1 h.1.1.1 h.1.1.2 h.1.2.1.1 h.1.2.1.2 h.1.2.2.2.2.tx N (by omega)
  rw [← v1] at a1 b1 c e
  rw [← v2] at a2 b2 e
  exact ⟨h.w2 f1 f2 a1 a2 b1 b2 (by omega) e, e.1 2 (by decide)⟩
theorem k_wans {d W : Nat} {n i : Int32} {V0 μ0 : Mem} (hW4 : W ≤ 4) (h0 : WFV V0) (hc : V0 0 0 = nI W) : ∀ m w μ, w + m = W → FrM μ0 μ → vM 113 μ = itN wanP w V0 → ∃ μ', res d 157 7 [some (vR 8 112), some (vI n), some (vI i), some (vI (nI w))] [] μ = res d 157 7 [some (vR 8 112), some (vI n), some (vI i), some (vI (nI W))] [] μ' ∧ vM 113 μ' = itN wanP W V0 ∧ FrM μ0 μ' := by
  intro m
  induction m with
  | zero =>
    intro w μ hw hF hv
    have hw : w = W := by omega
    subst hw
    exact ⟨μ, rfl, hv, hF⟩
  | succ m ih =>
    intro w μ hw hF hv
    have cW : (nI W).toNatClampNeg = W := ix_nI (by omega)
    obtain ⟨k1, k2⟩ := wans_k h0 w (by rw [hc, cW]; omega)
    rw [← hv] at k1 k2
    have hr : μ 113 0 = nI W := by rw [ms0 (m := 113) (μ := μ), k2 0 (by decide), hc]
    have h1 : ((w : Nat) : Int) < (W : Int) := by omega
    have nw : (nI w).toInt = w := nI_toInt (by omega)
    have nW : (nI W).toInt = W := nI_toInt (by omega)
    obtain ⟨μ1, a1, a2, a3⟩ := y_wanders (d := d) (w := w) (μ := μ) (by omega) k1
    have a1' : cl d 156 [Sum.inr (Sum.inr (8, 112)), vI (nI w)] μ = _ := a1
    obtain ⟨μ2, b1, b2, b3⟩ := ih (w + 1) μ1 (by omega) (hF.tr a3) (by rw [a2, hv]; rfl)
    refine ⟨μ2, ?_, b2, b3⟩
    rw [← b1, u_157_7]
    simp -implicitDefEqProofs only [u_157_0, u_157_1, u_157_2, u_157_3, u_157_4, u_157_6, u_157_8, u_157_9, u_157_10, e_iload_n, e_iload, e_lload_n, e_lload, e_aload_n, e_aload, e_istore_n, e_istore, e_astore_n, e_astore, e_lstore_n, e_lstore, e_iinc, e_iconst, e_bipush, e_sipush, e_ldc_w, e_ldc, e_ldcS, e_lconst, e_ldc2_w, e_iadd, e_isub, e_imul, e_iand, e_ixor, e_ishl, e_ishr, e_iushr, e_idiv, e_irem, e_ineg, e_i2b, e_i2s, e_i2c, e_ladd, e_lsub, e_lmul, e_land, e_lor, e_ldiv, e_lrem, e_lneg, e_lshl, e_lshr, e_lushr, e_i2l, e_l2i, e_lcmp, e_dupI, e_dupA, e_dup2, e_getI, e_getA, e_putI, e_putZ, e_getstatic, e_iaload, e_iastore, e_aaload10, e_alen10, e_aaload11, e_alen11, e_aaload12, e_alen12, e_aaload13, e_alen13, e_alen, e_invokevirtual, e_invokevirtualB, e_invokestatic, e_invokestaticB, ct_0, ct_i, ct_a, ct_l, os_0, os_s, rc_0, rc_s, sl_0, sl_i, sl_a, sl_l, simprocAttr, ix, z_em, up_eq, up_j, Nat.le_refl, true_or, or_true, true_and, and_true, and_self, or_self, beq_self_eq_true, if_true, if_false, ite_self, ca_f, ca_t, aLen, Int32.lt_iff_toInt_lt, Int32.le_iff_toInt_le, z_ite, z_iten, z_ite1, ite_not, not_true_eq_false, not_false_eq_true, false_and, and_false, false_or, or_false, b_max, b_min, b_minL, b_absL, b_ixD, b_ixH, b_copy, tk_0, tk_s, dr_0, dr_s, pu_s, pu_n, ca_0, ca_1, clr_0, clr_s, e_nop, e_goto, e_if_eq, e_if_ne, e_if_lt, e_if_ge, e_if_gt, e_if_le, e_ic_eq, e_ic_ne, e_ic_lt, e_ic_ge, e_ic_gt, e_ic_le, e_tsw, e_lsw, sw_0, sw_s, e_iret, e_zret, e_lret, e_aret, e_ret, en_0, en_n, en_i, en_a, en_l, List.getElem?_cons_zero, List.getElem?_cons_succ, List.set_cons_zero, List.set_cons_succ, len_s, List.length_nil, ne_eq, x_within, x_in, eT1, eT2, eT3, eT4, eT5, eT6, eM1, eM2, eM3, eM4, eM5, eM6, Nat.one_mul, Nat.mul_one, Nat.zero_add, hr, nw, nW, h1, a1', ← nI_succ]
theorem k_loose {d N : Nat} {tx : TX} {V0 μ0 : Mem} (hN : N ≤ 600) (h0 : WFV V0) (hD : WFD V0) (hm : (V0 0 2).toInt + N ≤ 15001) (hL : LWM μ0) (ht : txM μ0 = tx) : ∀ n k μ (x : Option AV), k + n = N → FrM μ0 μ → vM 113 μ = timesP (looP 1 tx) k V0 → WFV (vM 113 μ) → WFD (vM 113 μ) → (vM 113 μ 0 2).toInt = (V0 0 2).toInt + k → ∃ μ', res d 157 5 [some (vR 8 112), some (vI (nI N)), some (vI (nI k)), x] [] μ = some (some (vI (vM 113 μ' 0 2)), μ') ∧ vM 113 μ' = timesP (looP 1 tx) N V0 ∧ FrM μ0 μ' := by
  intro n
  induction n with
  | zero =>
    intro k μ x hk hF hv _ _ _
    have hk : k = N := by omega
    subst hk
    refine ⟨μ, ?_, hv, hF⟩
    rw [u_157_5, ← ms2]
    simp -implicitDefEqProofs only [u_157_0, u_157_1, u_157_2, u_157_3, u_157_4, u_157_6, u_157_8, u_157_9, u_157_10, e_iload_n, e_iload, e_lload_n, e_lload, e_aload_n, e_aload, e_istore_n, e_istore, e_astore_n, e_astore, e_lstore_n, e_lstore, e_iinc, e_iconst, e_bipush, e_sipush, e_ldc_w, e_ldc, e_ldcS, e_lconst, e_ldc2_w, e_iadd, e_isub, e_imul, e_iand, e_ixor, e_ishl, e_ishr, e_iushr, e_idiv, e_irem, e_ineg, e_i2b, e_i2s, e_i2c, e_ladd, e_lsub, e_lmul, e_land, e_lor, e_ldiv, e_lrem, e_lneg, e_lshl, e_lshr, e_lushr, e_i2l, e_l2i, e_lcmp, e_dupI, e_dupA, e_dup2, e_getI, e_getA, e_putI, e_putZ, e_getstatic, e_iaload, e_iastore, e_aaload10, e_alen10, e_aaload11, e_alen11, e_aaload12, e_alen12, e_aaload13, e_alen13, e_alen, e_invokevirtual, e_invokevirtualB, e_invokestatic, e_invokestaticB, ct_0, ct_i, ct_a, ct_l, os_0, os_s, rc_0, rc_s, sl_0, sl_i, sl_a, sl_l, simprocAttr, ix, z_em, up_eq, up_j, Nat.le_refl, true_or, or_true, true_and, and_true, and_self, or_self, beq_self_eq_true, if_true, if_false, ite_self, ca_f, ca_t, aLen, Int32.lt_iff_toInt_lt, Int32.le_iff_toInt_le, z_ite, z_iten, z_ite1, ite_not, not_true_eq_false, not_false_eq_true, false_and, and_false, false_or, or_false, b_max, b_min, b_minL, b_absL, b_ixD, b_ixH, b_copy, tk_0, tk_s, dr_0, dr_s, pu_s, pu_n, ca_0, ca_1, clr_0, clr_s, e_nop, e_goto, e_if_eq, e_if_ne, e_if_lt, e_if_ge, e_if_gt, e_if_le, e_ic_eq, e_ic_ne, e_ic_lt, e_ic_ge, e_ic_gt, e_ic_le, e_tsw, e_lsw, sw_0, sw_s, e_iret, e_zret, e_lret, e_aret, e_ret, en_0, en_n, en_i, en_a, en_l, List.getElem?_cons_zero, List.getElem?_cons_succ, List.set_cons_zero, List.set_cons_succ, len_s, List.length_nil, ne_eq, x_within, x_in, eT1, eT2, eT3, eT4, eT5, eT6, eM1, eM2, eM3, eM4, eM5, eM6, Nat.one_mul, Nat.mul_one, Nat.zero_add, Int.lt_irrefl]
  | succ n ih =>
    intro k μ x hk hF hv hW hDk hmk
    have h1 : ((k : Nat) : Int) < (N : Int) := by omega
    have nk : (nI k).toInt = k := nI_toInt (by omega)
    have nN : (nI N).toInt = N := nI_toInt (by omega)
    have g0 := gs0 hW
    have e0 : (vM 113 μ 0 0).toNatClampNeg = (vM 113 μ 0 0).toInt.toNat := rfl
    obtain ⟨μ1, a1, a2, a3⟩ := k_wans (d := d) (W := (vM 113 μ 0 0).toNatClampNeg) (n := nI N) (i := nI k) (V0 := vM 113 μ) (μ0 := μ) (by omega) hW (nI_ix g0.1).symm (vM 113 μ 0 0).toNatClampNeg 0 μ (by omega) FrM.rf rfl
    obtain ⟨k1, k2⟩ := wans_k hW _ (Nat.le_refl _)
    have ev : vM 113 μ1 = wansP (vM 113 μ) := a2
    have k1' : WFV (vM 113 μ1) := by rw [ev]; exact k1
    have e2 : vM 113 μ1 0 2 = vM 113 μ 0 2 := by rw [ev]; exact k2 2 (by decide)
    have e00 : vM 113 μ1 0 0 = vM 113 μ 0 0 := by rw [ev]; exact k2 0 (by decide)
    have hr : μ1 113 0 = nI (vM 113 μ 0 0).toNatClampNeg := by rw [ms0 (m := 113) (μ := μ1), e00, nI_ix g0.1]
    have hF1 := hF.tr a3
    have d1 : WFD (vM 113 μ1) := by rw [ev]; exact wans_d hW hDk
    obtain ⟨μ2, b1, b2, b3⟩ := y_minute (d := d) (μ := μ1) (hF1.lw hL) k1' d1 (by rw [e2]; omega)
    have b1' : cl d 152 [Sum.inr (Sum.inr (8, 112))] μ1 = _ := b1
    have v2 : vM 113 μ2 = looP 1 tx (vM 113 μ) := by
      rw [b2, hF1.tx, ht, ev]
      unfold looP
      rw [if_pos rfl]
    have lk := loo_k (lo := 1) (tx := tx) hW (by omega)
    obtain ⟨μ3, c1, c2, c3⟩ := ih (k + 1) μ2 (some (vI (nI (vM 113 μ 0 0).toNatClampNeg))) (by omega) (hF1.tr b3) (by rw [v2, hv]; rfl) (by rw [v2]; exact lk.1) (by rw [v2]; exact loo_d hW hDk (by omega)) (by rw [v2, lk.2]; omega)
    refine ⟨μ3, ?_, c2, c3⟩
    rw [← c1]
    have z0 : (vI (nI 0) : AV) = vI 0 := rfl
    rw [z0] at a1
    have en : res d 157 7 [some (vR 8 112), some (vI (nI N)), some (vI (nI k)), some (vI (nI (vM 113 μ 0 0).toNatClampNeg))] [] μ1 = res d 157 5 [some (vR 8 112), some (vI (nI N)), some (vI (nI (k + 1))), some (vI (nI (vM 113 μ 0 0).toNatClampNeg))] [] μ2 := by
      rw [u_157_7]
      simp -implicitDefEqProofs only [u_157_0, u_157_1, u_157_2, u_157_3, u_157_4, u_157_6, u_157_8, u_157_9, u_157_10, e_iload_n, e_iload, e_lload_n, e_lload, e_aload_n, e_aload, e_istore_n, e_istore, e_astore_n, e_astore, e_lstore_n, e_lstore, e_iinc, e_iconst, e_bipush, e_sipush, e_ldc_w, e_ldc, e_ldcS, e_lconst, e_ldc2_w, e_iadd, e_isub, e_imul, e_iand, e_ixor, e_ishl, e_ishr, e_iushr, e_idiv, e_irem, e_ineg, e_i2b, e_i2s, e_i2c, e_ladd, e_lsub, e_lmul, e_land, e_lor, e_ldiv, e_lrem, e_lneg, e_lshl, e_lshr, e_lushr, e_i2l, e_l2i, e_lcmp, e_dupI, e_dupA, e_dup2, e_getI, e_getA, e_putI, e_putZ, e_getstatic, e_iaload, e_iastore, e_aaload10, e_alen10, e_aaload11, e_alen11, e_aaload12, e_alen12, e_aaload13, e_alen13, e_alen, e_invokevirtual, e_invokevirtualB, e_invokestatic, e_invokestaticB, ct_0, ct_i, ct_a, ct_l, os_0, os_s, rc_0, rc_s, sl_0, sl_i, sl_a, sl_l, simprocAttr, ix, z_em, up_eq, up_j, Nat.le_refl, true_or, or_true, true_and, and_true, and_self, or_self, beq_self_eq_true, if_true, if_false, ite_self, ca_f, ca_t, aLen, Int32.lt_iff_toInt_lt, Int32.le_iff_toInt_le, z_ite, z_iten, z_ite1, ite_not, not_true_eq_false, not_false_eq_true, false_and, and_false, false_or, or_false, b_max, b_min, b_minL, b_absL, b_ixD, b_ixH, b_copy, tk_0, tk_s, dr_0, dr_s, pu_s, pu_n, ca_0, ca_1, clr_0, clr_s, e_nop, e_goto, e_if_eq, e_if_ne, e_if_lt, e_if_ge, e_if_gt, e_if_le, e_ic_eq, e_ic_ne, e_ic_lt, e_ic_ge, e_ic_gt, e_ic_le, e_tsw, e_lsw, sw_0, sw_s, e_iret, e_zret, e_lret, e_aret, e_ret, en_0, en_n, en_i, en_a, en_l, List.getElem?_cons_zero, List.getElem?_cons_succ, List.set_cons_zero, List.set_cons_succ, len_s, List.length_nil, ne_eq, x_within, x_in, eT1, eT2, eT3, eT4, eT5, eT6, eM1, eM2, eM3, eM4, eM5, eM6, Nat.one_mul, Nat.mul_one, Nat.zero_add, hr, Int.lt_irrefl, b1', ← nI_succ]
    rw [← en, ← a1, u_157_5]
    simp -implicitDefEqProofs only [u_157_0, u_157_1, u_157_2, u_157_3, u_157_4, u_157_6, u_157_8, u_157_9, u_157_10, e_iload_n, e_iload, e_lload_n, e_lload, e_aload_n, e_aload, e_istore_n, e_istore, e_astore_n, e_astore, e_lstore_n, e_lstore, e_iinc, e_iconst, e_bipush, e_sipush, e_ldc_w, e_ldc, e_ldcS, e_lconst, e_ldc2_w, e_iadd, e_isub, e_imul, e_iand, e_ixor, e_ishl, e_ishr, e_iushr, e_idiv, e_irem, e_ineg, e_i2b, e_i2s, e_i2c, e_ladd, e_lsub, e_lmul, e_land, e_lor, e_ldiv, e_lrem, e_lneg, e_lshl, e_lshr, e_lushr, e_i2l, e_l2i, e_lcmp, e_dupI, e_dupA, e_dup2, e_getI, e_getA, e_putI, e_putZ, e_getstatic, e_iaload, e_iastore, e_aaload10, e_alen10, e_aaload11, e_alen11, e_aaload12, e_alen12, e_aaload13, e_alen13, e_alen, e_invokevirtual, e_invokevirtualB, e_invokestatic, e_invokestaticB, ct_0, ct_i, ct_a, ct_l, os_0, os_s, rc_0, rc_s, sl_0, sl_i, sl_a, sl_l, simprocAttr, ix, z_em, up_eq, up_j, Nat.le_refl, true_or, or_true, true_and, and_true, and_self, or_self, beq_self_eq_true, if_true, if_false, ite_self, ca_f, ca_t, aLen, Int32.lt_iff_toInt_lt, Int32.le_iff_toInt_le, z_ite, z_iten, z_ite1, ite_not, not_true_eq_false, not_false_eq_true, false_and, and_false, false_or, or_false, b_max, b_min, b_minL, b_absL, b_ixD, b_ixH, b_copy, tk_0, tk_s, dr_0, dr_s, pu_s, pu_n, ca_0, ca_1, clr_0, clr_s, e_nop, e_goto, e_if_eq, e_if_ne, e_if_lt, e_if_ge, e_if_gt, e_if_le, e_ic_eq, e_ic_ne, e_ic_lt, e_ic_ge, e_ic_gt, e_ic_le, e_tsw, e_lsw, sw_0, sw_s, e_iret, e_zret, e_lret, e_aret, e_ret, en_0, en_n, en_i, en_a, en_l, List.getElem?_cons_zero, List.getElem?_cons_succ, List.set_cons_zero, List.set_cons_succ, len_s, List.length_nil, ne_eq, x_within, x_in, eT1, eT2, eT3, eT4, eT5, eT6, eM1, eM2, eM3, eM4, eM5, eM6, Nat.one_mul, Nat.mul_one, Nat.zero_add, nk, nN, h1]
theorem p_min {fz : Mem} {d : Nat} {n : Int32} {μ : Mem} (h : RR fz μ) : PR fz d 67 154 [vI n] μ ∧ PR fz d 68 157 [vI n] μ := by
  have em : μ 1 9 = vC 1 μ 0 2 := cs2
  have mm : μ 113 2 = vC 1 μ 0 2 := by rw [ms2 (m := 113) (μ := μ), h.e0 (by decide)]
  have g2 := gs2 h.1.1.1
  have g99 := h.1.2.2.1
  by_cases q1 : 1 ≤ n.toInt ∧ n.toInt ≤ 600
  · obtain ⟨N, hN, rfl⟩ := nIof (v := n) (n := 601) (by omega) (by omega)
    have nN : (nI N).toInt = N := nI_toInt (by omega)
    have cN : (nI N).toNatClampNeg = N := ix_nI (by omega)
    rw [nN] at q1
    have es : (vC 1 μ 0 2 + nI N).toInt = (vC 1 μ 0 2).toInt + N := by rw [ta] <;> rw [nN] <;> omega
    by_cases q2 : (vC 1 μ 0 2).toInt + N ≤ 9999
    · have q2' : ¬ 9999 < (vC 1 μ 0 2).toInt + (N : Int) := by omega
      have z0 : (vI (nI 0) : AV) = vI 0 := rfl
      constructor
      · obtain ⟨μ1, a1, a2, a3⟩ := l_goBy (d := d) (N := N) (lo := 0) (tx := txC 1 μ) (V0 := vC 1 μ) (Or.inl rfl) (by omega) h.1.1.1 h.1.2.1.1 (by omega) N 0 μ (by omega) h.1.2.2.2.2.lw rfl rfl
        have f13 : μ1 113 = μ 113 := a3 113 (by decide) (by decide) (by decide)
        have vm : vM 113 μ1 = vM 113 μ := vM_congr f13
        obtain ⟨μ2, b1, b2, b3⟩ := y_go (d := d) (n := nI N) (μ := μ1) (LWM_congr f13 h.1.2.2.2.2.lwm) (by rw [vm]; exact h.1.1.2) (by rw [vm]; exact h.1.2.1.2) (by rw [nN]; omega) (by rw [vm, nN, h.e0 (by decide)]; omega)
        rw [vm, txM_congr f13, cN, ← times_id] at b2
        have b1' : cl d 153 [Sum.inr (Sum.inr (8, 112)), vI (nI N)] μ1 = _ := b1
        obtain ⟨r1, r2⟩ := h.go q2 a3 b3 a2 b2
        refine ⟨(vC 1 μ1 0 2), μ1, μ2, (by rw [a3 202 (by omega) (by omega) (by omega)]; exact h.u2), ?_, ?_, r1⟩
        · rw [z0] at a1
          have hg : cl d 92 [Sum.inr (Sum.inr (7, 0)), vI (nI N), vI 0] μ = some (some (vI (vC 1 μ1 0 2)), μ1) := by
            rw [← a1]
            simp -implicitDefEqProofs only [cl_92, u_92_0, u_92_1, u_92_2, u_92_3, u_92_4, u_92_6, u_92_7, u_92_8, u_92_9, e_iload_n, e_iload, e_lload_n, e_lload, e_aload_n, e_aload, e_istore_n, e_istore, e_astore_n, e_astore, e_lstore_n, e_lstore, e_iinc, e_iconst, e_bipush, e_sipush, e_ldc_w, e_ldc, e_ldcS, e_lconst, e_ldc2_w, e_iadd, e_isub, e_imul, e_iand, e_ixor, e_ishl, e_ishr, e_iushr, e_idiv, e_irem, e_ineg, e_i2b, e_i2s, e_i2c, e_ladd, e_lsub, e_lmul, e_land, e_lor, e_ldiv, e_lrem, e_lneg, e_lshl, e_lshr, e_lushr, e_i2l, e_l2i, e_lcmp, e_dupI, e_dupA, e_dup2, e_getI, e_getA, e_putI, e_putZ, e_getstatic, e_iaload, e_iastore, e_aaload10, e_alen10, e_aaload11, e_alen11, e_aaload12, e_alen12, e_aaload13, e_alen13, e_alen, e_invokevirtual, e_invokevirtualB, e_invokestatic, e_invokestaticB, ct_0, ct_i, ct_a, ct_l, os_0, os_s, rc_0, rc_s, sl_0, sl_i, sl_a, sl_l, simprocAttr, ix, z_em, up_eq, up_j, Nat.le_refl, true_or, or_true, true_and, and_true, and_self, or_self, beq_self_eq_true, if_true, if_false, ite_self, ca_f, ca_t, aLen, Int32.lt_iff_toInt_lt, Int32.le_iff_toInt_le, z_ite, z_iten, z_ite1, ite_not, not_true_eq_false, not_false_eq_true, false_and, and_false, false_or, or_false, b_max, b_min, b_minL, b_absL, b_ixD, b_ixH, b_copy, tk_0, tk_s, dr_0, dr_s, pu_s, pu_n, ca_0, ca_1, clr_0, clr_s, e_nop, e_goto, e_if_eq, e_if_ne, e_if_lt, e_if_ge, e_if_gt, e_if_le, e_ic_eq, e_ic_ne, e_ic_lt, e_ic_ge, e_ic_gt, e_ic_le, e_tsw, e_lsw, sw_0, sw_s, e_iret, e_zret, e_lret, e_aret, e_ret, en_0, en_n, en_i, en_a, en_l, List.getElem?_cons_zero, List.getElem?_cons_succ, List.set_cons_zero, List.set_cons_succ, len_s, List.length_nil, ne_eq, x_within, x_in, eT1, eT2, eT3, eT4, eT5, eT6, eM1, eM2, eM3, eM4, eM5, eM6, Nat.one_mul, Nat.mul_one, Nat.zero_add, nN, q1, em, es, q2']
          simp -implicitDefEqProofs only [cl_67, u_67_0, e_iload_n, e_iload, e_lload_n, e_lload, e_aload_n, e_aload, e_istore_n, e_istore, e_astore_n, e_astore, e_lstore_n, e_lstore, e_iinc, e_iconst, e_bipush, e_sipush, e_ldc_w, e_ldc, e_ldcS, e_lconst, e_ldc2_w, e_iadd, e_isub, e_imul, e_iand, e_ixor, e_ishl, e_ishr, e_iushr, e_idiv, e_irem, e_ineg, e_i2b, e_i2s, e_i2c, e_ladd, e_lsub, e_lmul, e_land, e_lor, e_ldiv, e_lrem, e_lneg, e_lshl, e_lshr, e_lushr, e_i2l, e_l2i, e_lcmp, e_dupI, e_dupA, e_dup2, e_getI, e_getA, e_putI, e_putZ, e_getstatic, e_iaload, e_iastore, e_aaload10, e_alen10, e_aaload11, e_alen11, e_aaload12, e_alen12, e_aaload13, e_alen13, e_alen, e_invokevirtual, e_invokevirtualB, e_invokestatic, e_invokestaticB, ct_0, ct_i, ct_a, ct_l, os_0, os_s, rc_0, rc_s, sl_0, sl_i, sl_a, sl_l, simprocAttr, ix, z_em, up_eq, up_j, Nat.le_refl, true_or, or_true, true_and, and_true, and_self, or_self, beq_self_eq_true, if_true, if_false, ite_self, ca_f, ca_t, aLen, Int32.lt_iff_toInt_lt, Int32.le_iff_toInt_le, z_ite, z_iten, z_ite1, ite_not, not_true_eq_false, not_false_eq_true, false_and, and_false, false_or, or_false, b_max, b_min, b_minL, b_absL, b_ixD, b_ixH, b_copy, tk_0, tk_s, dr_0, dr_s, pu_s, pu_n, ca_0, ca_1, clr_0, clr_s, e_nop, e_goto, e_if_eq, e_if_ne, e_if_lt, e_if_ge, e_if_gt, e_if_le, e_ic_eq, e_ic_ne, e_ic_lt, e_ic_ge, e_ic_gt, e_ic_le, e_tsw, e_lsw, sw_0, sw_s, e_iret, e_zret, e_lret, e_aret, e_ret, en_0, en_n, en_i, en_a, en_l, List.getElem?_cons_zero, List.getElem?_cons_succ, List.set_cons_zero, List.set_cons_succ, len_s, List.length_nil, ne_eq, x_within, x_in, eT1, eT2, eT3, eT4, eT5, eT6, eM1, eM2, eM3, eM4, eM5, eM6, Nat.one_mul, Nat.mul_one, Nat.zero_add, hg]
        · have mm' : μ1 113 2 = vC 1 μ 0 2 := by rw [f13]; exact mm
          have m2 : μ2 113 2 = vC 1 μ1 0 2 := by rw [ms2 (m := 113) (μ := μ2), r2]
          simp -implicitDefEqProofs only [cl_154, u_154_0, u_154_1, u_154_2, u_154_3, u_154_4, e_iload_n, e_iload, e_lload_n, e_lload, e_aload_n, e_aload, e_istore_n, e_istore, e_astore_n, e_astore, e_lstore_n, e_lstore, e_iinc, e_iconst, e_bipush, e_sipush, e_ldc_w, e_ldc, e_ldcS, e_lconst, e_ldc2_w, e_iadd, e_isub, e_imul, e_iand, e_ixor, e_ishl, e_ishr, e_iushr, e_idiv, e_irem, e_ineg, e_i2b, e_i2s, e_i2c, e_ladd, e_lsub, e_lmul, e_land, e_lor, e_ldiv, e_lrem, e_lneg, e_lshl, e_lshr, e_lushr, e_i2l, e_l2i, e_lcmp, e_dupI, e_dupA, e_dup2, e_getI, e_getA, e_putI, e_putZ, e_getstatic, e_iaload, e_iastore, e_aaload10, e_alen10, e_aaload11, e_alen11, e_aaload12, e_alen12, e_aaload13, e_alen13, e_alen, e_invokevirtual, e_invokevirtualB, e_invokestatic, e_invokestaticB, ct_0, ct_i, ct_a, ct_l, os_0, os_s, rc_0, rc_s, sl_0, sl_i, sl_a, sl_l, simprocAttr, ix, z_em, up_eq, up_j, Nat.le_refl, true_or, or_true, true_and, and_true, and_self, or_self, beq_self_eq_true, if_true, if_false, ite_self, ca_f, ca_t, aLen, Int32.lt_iff_toInt_lt, Int32.le_iff_toInt_le, z_ite, z_iten, z_ite1, ite_not, not_true_eq_false, not_false_eq_true, false_and, and_false, false_or, or_false, b_max, b_min, b_minL, b_absL, b_ixD, b_ixH, b_copy, tk_0, tk_s, dr_0, dr_s, pu_s, pu_n, ca_0, ca_1, clr_0, clr_s, e_nop, e_goto, e_if_eq, e_if_ne, e_if_lt, e_if_ge, e_if_gt, e_if_le, e_ic_eq, e_ic_ne, e_ic_lt, e_ic_ge, e_ic_gt, e_ic_le, e_tsw, e_lsw, sw_0, sw_s, e_iret, e_zret, e_lret, e_aret, e_ret, en_0, en_n, en_i, en_a, en_l, List.getElem?_cons_zero, List.getElem?_cons_succ, List.set_cons_zero, List.set_cons_succ, len_s, List.length_nil, ne_eq, x_within, x_in, eT1, eT2, eT3, eT4, eT5, eT6, eM1, eM2, eM3, eM4, eM5, eM6, Nat.one_mul, Nat.mul_one, Nat.zero_add, nN, q1, mm', es, q2', b1', m2]
      · obtain ⟨μ1, a1, a2, a3⟩ := l_goBy (d := d) (N := N) (lo := 1) (tx := txC 1 μ) (V0 := vC 1 μ) (Or.inr rfl) (by omega) h.1.1.1 h.1.2.1.1 (by omega) N 0 μ (by omega) h.1.2.2.2.2.lw rfl rfl
        have f13 : μ1 113 = μ 113 := a3 113 (by decide) (by decide) (by decide)
        have vm : vM 113 μ1 = vM 113 μ := vM_congr f13
        obtain ⟨μ2, b1, b2, b3⟩ := k_loose (d := d) (N := N) (tx := txM μ) (V0 := vM 113 μ) (μ0 := μ1) (by omega) h.1.1.2 h.1.2.1.2 (by rw [h.e0 (by decide)]; omega) (LWM_congr f13 h.1.2.2.2.2.lwm) (txM_congr f13) N 0 μ1 none (by omega) FrM.rf vm (by rw [vm]; exact h.1.1.2) (by rw [vm]; exact h.1.2.1.2) (by rw [vm]; omega)
        obtain ⟨r1, r2⟩ := h.go q2 a3 b3 a2 b2
        refine ⟨(vC 1 μ1 0 2), μ1, μ2, (by rw [a3 202 (by omega) (by omega) (by omega)]; exact h.u2), ?_, ?_, r1⟩
        · rw [z0] at a1
          have hg : cl d 92 [Sum.inr (Sum.inr (7, 0)), vI (nI N), vI 1] μ = some (some (vI (vC 1 μ1 0 2)), μ1) := by
            rw [← a1]
            simp -implicitDefEqProofs only [cl_92, u_92_0, u_92_1, u_92_2, u_92_3, u_92_4, u_92_6, u_92_7, u_92_8, u_92_9, e_iload_n, e_iload, e_lload_n, e_lload, e_aload_n, e_aload, e_istore_n, e_istore, e_astore_n, e_astore, e_lstore_n, e_lstore, e_iinc, e_iconst, e_bipush, e_sipush, e_ldc_w, e_ldc, e_ldcS, e_lconst, e_ldc2_w, e_iadd, e_isub, e_imul, e_iand, e_ixor, e_ishl, e_ishr, e_iushr, e_idiv, e_irem, e_ineg, e_i2b, e_i2s, e_i2c, e_ladd, e_lsub, e_lmul, e_land, e_lor, e_ldiv, e_lrem, e_lneg, e_lshl, e_lshr, e_lushr, e_i2l, e_l2i, e_lcmp, e_dupI, e_dupA, e_dup2, e_getI, e_getA, e_putI, e_putZ, e_getstatic, e_iaload, e_iastore, e_aaload10, e_alen10, e_aaload11, e_alen11, e_aaload12, e_alen12, e_aaload13, e_alen13, e_alen, e_invokevirtual, e_invokevirtualB, e_invokestatic, e_invokestaticB, ct_0, ct_i, ct_a, ct_l, os_0, os_s, rc_0, rc_s, sl_0, sl_i, sl_a, sl_l, simprocAttr, ix, z_em, up_eq, up_j, Nat.le_refl, true_or, or_true, true_and, and_true, and_self, or_self, beq_self_eq_true, if_true, if_false, ite_self, ca_f, ca_t, aLen, Int32.lt_iff_toInt_lt, Int32.le_iff_toInt_le, z_ite, z_iten, z_ite1, ite_not, not_true_eq_false, not_false_eq_true, false_and, and_false, false_or, or_false, b_max, b_min, b_minL, b_absL, b_ixD, b_ixH, b_copy, tk_0, tk_s, dr_0, dr_s, pu_s, pu_n, ca_0, ca_1, clr_0, clr_s, e_nop, e_goto, e_if_eq, e_if_ne, e_if_lt, e_if_ge, e_if_gt, e_if_le, e_ic_eq, e_ic_ne, e_ic_lt, e_ic_ge, e_ic_gt, e_ic_le, e_tsw, e_lsw, sw_0, sw_s, e_iret, e_zret, e_lret, e_aret, e_ret, en_0, en_n, en_i, en_a, en_l, List.getElem?_cons_zero, List.getElem?_cons_succ, List.set_cons_zero, List.set_cons_succ, len_s, List.length_nil, ne_eq, x_within, x_in, eT1, eT2, eT3, eT4, eT5, eT6, eM1, eM2, eM3, eM4, eM5, eM6, Nat.one_mul, Nat.mul_one, Nat.zero_add, nN, q1, em, es, q2']
          simp -implicitDefEqProofs only [cl_68, u_68_0, e_iload_n, e_iload, e_lload_n, e_lload, e_aload_n, e_aload, e_istore_n, e_istore, e_astore_n, e_astore, e_lstore_n, e_lstore, e_iinc, e_iconst, e_bipush, e_sipush, e_ldc_w, e_ldc, e_ldcS, e_lconst, e_ldc2_w, e_iadd, e_isub, e_imul, e_iand, e_ixor, e_ishl, e_ishr, e_iushr, e_idiv, e_irem, e_ineg, e_i2b, e_i2s, e_i2c, e_ladd, e_lsub, e_lmul, e_land, e_lor, e_ldiv, e_lrem, e_lneg, e_lshl, e_lshr, e_lushr, e_i2l, e_l2i, e_lcmp, e_dupI, e_dupA, e_dup2, e_getI, e_getA, e_putI, e_putZ, e_getstatic, e_iaload, e_iastore, e_aaload10, e_alen10, e_aaload11, e_alen11, e_aaload12, e_alen12, e_aaload13, e_alen13, e_alen, e_invokevirtual, e_invokevirtualB, e_invokestatic, e_invokestaticB, ct_0, ct_i, ct_a, ct_l, os_0, os_s, rc_0, rc_s, sl_0, sl_i, sl_a, sl_l, simprocAttr, ix, z_em, up_eq, up_j, Nat.le_refl, true_or, or_true, true_and, and_true, and_self, or_self, beq_self_eq_true, if_true, if_false, ite_self, ca_f, ca_t, aLen, Int32.lt_iff_toInt_lt, Int32.le_iff_toInt_le, z_ite, z_iten, z_ite1, ite_not, not_true_eq_false, not_false_eq_true, false_and, and_false, false_or, or_false, b_max, b_min, b_minL, b_absL, b_ixD, b_ixH, b_copy, tk_0, tk_s, dr_0, dr_s, pu_s, pu_n, ca_0, ca_1, clr_0, clr_s, e_nop, e_goto, e_if_eq, e_if_ne, e_if_lt, e_if_ge, e_if_gt, e_if_le, e_ic_eq, e_ic_ne, e_ic_lt, e_ic_ge, e_ic_gt, e_ic_le, e_tsw, e_lsw, sw_0, sw_s, e_iret, e_zret, e_lret, e_aret, e_ret, en_0, en_n, en_i, en_a, en_l, List.getElem?_cons_zero, List.getElem?_cons_succ, List.set_cons_zero, List.set_cons_succ, len_s, List.length_nil, ne_eq, x_within, x_in, eT1, eT2, eT3, eT4, eT5, eT6, eM1, eM2, eM3, eM4, eM5, eM6, Nat.one_mul, Nat.mul_one, Nat.zero_add, hg]
        · have mm' : μ1 113 2 = vC 1 μ 0 2 := by rw [f13]; exact mm
          rw [z0, r2] at b1
          rw [← b1]
          simp -implicitDefEqProofs only [cl_157, u_157_0, u_157_1, u_157_2, u_157_3, u_157_4, u_157_6, u_157_8, u_157_9, u_157_10, e_iload_n, e_iload, e_lload_n, e_lload, e_aload_n, e_aload, e_istore_n, e_istore, e_astore_n, e_astore, e_lstore_n, e_lstore, e_iinc, e_iconst, e_bipush, e_sipush, e_ldc_w, e_ldc, e_ldcS, e_lconst, e_ldc2_w, e_iadd, e_isub, e_imul, e_iand, e_ixor, e_ishl, e_ishr, e_iushr, e_idiv, e_irem, e_ineg, e_i2b, e_i2s, e_i2c, e_ladd, e_lsub, e_lmul, e_land, e_lor, e_ldiv, e_lrem, e_lneg, e_lshl, e_lshr, e_lushr, e_i2l, e_l2i, e_lcmp, e_dupI, e_dupA, e_dup2, e_getI, e_getA, e_putI, e_putZ, e_getstatic, e_iaload, e_iastore, e_aaload10, e_alen10, e_aaload11, e_alen11, e_aaload12, e_alen12, e_aaload13, e_alen13, e_alen, e_invokevirtual, e_invokevirtualB, e_invokestatic, e_invokestaticB, ct_0, ct_i, ct_a, ct_l, os_0, os_s, rc_0, rc_s, sl_0, sl_i, sl_a, sl_l, simprocAttr, ix, z_em, up_eq, up_j, Nat.le_refl, true_or, or_true, true_and, and_true, and_self, or_self, beq_self_eq_true, if_true, if_false, ite_self, ca_f, ca_t, aLen, Int32.lt_iff_toInt_lt, Int32.le_iff_toInt_le, z_ite, z_iten, z_ite1, ite_not, not_true_eq_false, not_false_eq_true, false_and, and_false, false_or, or_false, b_max, b_min, b_minL, b_absL, b_ixD, b_ixH, b_copy, tk_0, tk_s, dr_0, dr_s, pu_s, pu_n, ca_0, ca_1, clr_0, clr_s, e_nop, e_goto, e_if_eq, e_if_ne, e_if_lt, e_if_ge, e_if_gt, e_if_le, e_ic_eq, e_ic_ne, e_ic_lt, e_ic_ge, e_ic_gt, e_ic_le, e_tsw, e_lsw, sw_0, sw_s, e_iret, e_zret, e_lret, e_aret, e_ret, en_0, en_n, en_i, en_a, en_l, List.getElem?_cons_zero, List.getElem?_cons_succ, List.set_cons_zero, List.set_cons_succ, len_s, List.length_nil, ne_eq, x_within, x_in, eT1, eT2, eT3, eT4, eT5, eT6, eM1, eM2, eM3, eM4, eM5, eM6, Nat.one_mul, Nat.mul_one, Nat.zero_add, nN, q1, mm', es, q2']
    · have q2' : 9999 < (vC 1 μ 0 2).toInt + (N : Int) := by omega
      constructor
      · refine PR.er (k := 3) h (by decide) (by decide) ?_ (fun μ1 f => ?_)
        · simp -implicitDefEqProofs only [cl_67, u_67_0, cl_92, u_92_0, u_92_1, u_92_2, u_92_3, u_92_4, u_92_6, u_92_7, u_92_8, u_92_9, e_iload_n, e_iload, e_lload_n, e_lload, e_aload_n, e_aload, e_istore_n, e_istore, e_astore_n, e_astore, e_lstore_n, e_lstore, e_iinc, e_iconst, e_bipush, e_sipush, e_ldc_w, e_ldc, e_ldcS, e_lconst, e_ldc2_w, e_iadd, e_isub, e_imul, e_iand, e_ixor, e_ishl, e_ishr, e_iushr, e_idiv, e_irem, e_ineg, e_i2b, e_i2s, e_i2c, e_ladd, e_lsub, e_lmul, e_land, e_lor, e_ldiv, e_lrem, e_lneg, e_lshl, e_lshr, e_lushr, e_i2l, e_l2i, e_lcmp, e_dupI, e_dupA, e_dup2, e_getI, e_getA, e_putI, e_putZ, e_getstatic, e_iaload, e_iastore, e_aaload10, e_alen10, e_aaload11, e_alen11, e_aaload12, e_alen12, e_aaload13, e_alen13, e_alen, e_invokevirtual, e_invokevirtualB, e_invokestatic, e_invokestaticB, ct_0, ct_i, ct_a, ct_l, os_0, os_s, rc_0, rc_s, sl_0, sl_i, sl_a, sl_l, simprocAttr, ix, z_em, up_eq, up_j, Nat.le_refl, true_or, or_true, true_and, and_true, and_self, or_self, beq_self_eq_true, if_true, if_false, ite_self, ca_f, ca_t, aLen, Int32.lt_iff_toInt_lt, Int32.le_iff_toInt_le, z_ite, z_iten, z_ite1, ite_not, not_true_eq_false, not_false_eq_true, false_and, and_false, false_or, or_false, b_max, b_min, b_minL, b_absL, b_ixD, b_ixH, b_copy, tk_0, tk_s, dr_0, dr_s, pu_s, pu_n, ca_0, ca_1, clr_0, clr_s, e_nop, e_goto, e_if_eq, e_if_ne, e_if_lt, e_if_ge, e_if_gt, e_if_le, e_ic_eq, e_ic_ne, e_ic_lt, e_ic_ge, e_ic_gt, e_ic_le, e_tsw, e_lsw, sw_0, sw_s, e_iret, e_zret, e_lret, e_aret, e_ret, en_0, en_n, en_i, en_a, en_l, List.getElem?_cons_zero, List.getElem?_cons_succ, List.set_cons_zero, List.set_cons_succ, len_s, List.length_nil, ne_eq, x_within, x_in, eT1, eT2, eT3, eT4, eT5, eT6, eM1, eM2, eM3, eM4, eM5, eM6, Nat.one_mul, Nat.mul_one, Nat.zero_add, nN, q1, em, es, q2']
        · have mm' : μ1 113 2 = vC 1 μ 0 2 := by rw [f 113 (by decide)]; exact mm
          simp -implicitDefEqProofs only [cl_154, u_154_0, u_154_1, u_154_2, u_154_3, u_154_4, e_iload_n, e_iload, e_lload_n, e_lload, e_aload_n, e_aload, e_istore_n, e_istore, e_astore_n, e_astore, e_lstore_n, e_lstore, e_iinc, e_iconst, e_bipush, e_sipush, e_ldc_w, e_ldc, e_ldcS, e_lconst, e_ldc2_w, e_iadd, e_isub, e_imul, e_iand, e_ixor, e_ishl, e_ishr, e_iushr, e_idiv, e_irem, e_ineg, e_i2b, e_i2s, e_i2c, e_ladd, e_lsub, e_lmul, e_land, e_lor, e_ldiv, e_lrem, e_lneg, e_lshl, e_lshr, e_lushr, e_i2l, e_l2i, e_lcmp, e_dupI, e_dupA, e_dup2, e_getI, e_getA, e_putI, e_putZ, e_getstatic, e_iaload, e_iastore, e_aaload10, e_alen10, e_aaload11, e_alen11, e_aaload12, e_alen12, e_aaload13, e_alen13, e_alen, e_invokevirtual, e_invokevirtualB, e_invokestatic, e_invokestaticB, ct_0, ct_i, ct_a, ct_l, os_0, os_s, rc_0, rc_s, sl_0, sl_i, sl_a, sl_l, simprocAttr, ix, z_em, up_eq, up_j, Nat.le_refl, true_or, or_true, true_and, and_true, and_self, or_self, beq_self_eq_true, if_true, if_false, ite_self, ca_f, ca_t, aLen, Int32.lt_iff_toInt_lt, Int32.le_iff_toInt_le, z_ite, z_iten, z_ite1, ite_not, not_true_eq_false, not_false_eq_true, false_and, and_false, false_or, or_false, b_max, b_min, b_minL, b_absL, b_ixD, b_ixH, b_copy, tk_0, tk_s, dr_0, dr_s, pu_s, pu_n, ca_0, ca_1, clr_0, clr_s, e_nop, e_goto, e_if_eq, e_if_ne, e_if_lt, e_if_ge, e_if_gt, e_if_le, e_ic_eq, e_ic_ne, e_ic_lt, e_ic_ge, e_ic_gt, e_ic_le, e_tsw, e_lsw, sw_0, sw_s, e_iret, e_zret, e_lret, e_aret, e_ret, en_0, en_n, en_i, en_a, en_l, List.getElem?_cons_zero, List.getElem?_cons_succ, List.set_cons_zero, List.set_cons_succ, len_s, List.length_nil, ne_eq, x_within, x_in, eT1, eT2, eT3, eT4, eT5, eT6, eM1, eM2, eM3, eM4, eM5, eM6, Nat.one_mul, Nat.mul_one, Nat.zero_add, nN, q1, mm', es, q2']
      · refine PR.er (k := 3) h (by decide) (by decide) ?_ (fun μ1 f => ?_)
        · simp -implicitDefEqProofs only [cl_68, u_68_0, cl_92, u_92_0, u_92_1, u_92_2, u_92_3, u_92_4, u_92_6, u_92_7, u_92_8, u_92_9, e_iload_n, e_iload, e_lload_n, e_lload, e_aload_n, e_aload, e_istore_n, e_istore, e_astore_n, e_astore, e_lstore_n, e_lstore, e_iinc, e_iconst, e_bipush, e_sipush, e_ldc_w, e_ldc, e_ldcS, e_lconst, e_ldc2_w, e_iadd, e_isub, e_imul, e_iand, e_ixor, e_ishl, e_ishr, e_iushr, e_idiv, e_irem, e_ineg, e_i2b, e_i2s, e_i2c, e_ladd, e_lsub, e_lmul, e_land, e_lor, e_ldiv, e_lrem, e_lneg, e_lshl, e_lshr, e_lushr, e_i2l, e_l2i, e_lcmp, e_dupI, e_dupA, e_dup2, e_getI, e_getA, e_putI, e_putZ, e_getstatic, e_iaload, e_iastore, e_aaload10, e_alen10, e_aaload11, e_alen11, e_aaload12, e_alen12, e_aaload13, e_alen13, e_alen, e_invokevirtual, e_invokevirtualB, e_invokestatic, e_invokestaticB, ct_0, ct_i, ct_a, ct_l, os_0, os_s, rc_0, rc_s, sl_0, sl_i, sl_a, sl_l, simprocAttr, ix, z_em, up_eq, up_j, Nat.le_refl, true_or, or_true, true_and, and_true, and_self, or_self, beq_self_eq_true, if_true, if_false, ite_self, ca_f, ca_t, aLen, Int32.lt_iff_toInt_lt, Int32.le_iff_toInt_le, z_ite, z_iten, z_ite1, ite_not, not_true_eq_false, not_false_eq_true, false_and, and_false, false_or, or_false, b_max, b_min, b_minL, b_absL, b_ixD, b_ixH, b_copy, tk_0, tk_s, dr_0, dr_s, pu_s, pu_n, ca_0, ca_1, clr_0, clr_s, e_nop, e_goto, e_if_eq, e_if_ne, e_if_lt, e_if_ge, e_if_gt, e_if_le, e_ic_eq, e_ic_ne, e_ic_lt, e_ic_ge, e_ic_gt, e_ic_le, e_tsw, e_lsw, sw_0, sw_s, e_iret, e_zret, e_lret, e_aret, e_ret, en_0, en_n, en_i, en_a, en_l, List.getElem?_cons_zero, List.getElem?_cons_succ, List.set_cons_zero, List.set_cons_succ, len_s, List.length_nil, ne_eq, x_within, x_in, eT1, eT2, eT3, eT4, eT5, eT6, eM1, eM2, eM3, eM4, eM5, eM6, Nat.one_mul, Nat.mul_one, Nat.zero_add, nN, q1, em, es, q2']
        · have mm' : μ1 113 2 = vC 1 μ 0 2 := by rw [f 113 (by decide)]; exact mm
          simp -implicitDefEqProofs only [cl_157, u_157_0, u_157_1, u_157_2, u_157_3, u_157_4, u_157_6, u_157_8, u_157_9, u_157_10, e_iload_n, e_iload, e_lload_n, e_lload, e_aload_n, e_aload, e_istore_n, e_istore, e_astore_n, e_astore, e_lstore_n, e_lstore, e_iinc, e_iconst, e_bipush, e_sipush, e_ldc_w, e_ldc, e_ldcS, e_lconst, e_ldc2_w, e_iadd, e_isub, e_imul, e_iand, e_ixor, e_ishl, e_ishr, e_iushr, e_idiv, e_irem, e_ineg, e_i2b, e_i2s, e_i2c, e_ladd, e_lsub, e_lmul, e_land, e_lor, e_ldiv, e_lrem, e_lneg, e_lshl, e_lshr, e_lushr, e_i2l, e_l2i, e_lcmp, e_dupI, e_dupA, e_dup2, e_getI, e_getA, e_putI, e_putZ, e_getstatic, e_iaload, e_iastore, e_aaload10, e_alen10, e_aaload11, e_alen11, e_aaload12, e_alen12, e_aaload13, e_alen13, e_alen, e_invokevirtual, e_invokevirtualB, e_invokestatic, e_invokestaticB, ct_0, ct_i, ct_a, ct_l, os_0, os_s, rc_0, rc_s, sl_0, sl_i, sl_a, sl_l, simprocAttr, ix, z_em, up_eq, up_j, Nat.le_refl, true_or, or_true, true_and, and_true, and_self, or_self, beq_self_eq_true, if_true, if_false, ite_self, ca_f, ca_t, aLen, Int32.lt_iff_toInt_lt, Int32.le_iff_toInt_le, z_ite, z_iten, z_ite1, ite_not, not_true_eq_false, not_false_eq_true, false_and, and_false, false_or, or_false, b_max, b_min, b_minL, b_absL, b_ixD, b_ixH, b_copy, tk_0, tk_s, dr_0, dr_s, pu_s, pu_n, ca_0, ca_1, clr_0, clr_s, e_nop, e_goto, e_if_eq, e_if_ne, e_if_lt, e_if_ge, e_if_gt, e_if_le, e_ic_eq, e_ic_ne, e_ic_lt, e_ic_ge, e_ic_gt, e_ic_le, e_tsw, e_lsw, sw_0, sw_s, e_iret, e_zret, e_lret, e_aret, e_ret, en_0, en_n, en_i, en_a, en_l, List.getElem?_cons_zero, List.getElem?_cons_succ, List.set_cons_zero, List.set_cons_succ, len_s, List.length_nil, ne_eq, x_within, x_in, eT1, eT2, eT3, eT4, eT5, eT6, eM1, eM2, eM3, eM4, eM5, eM6, Nat.one_mul, Nat.mul_one, Nat.zero_add, nN, q1, mm', es, q2']
  · constructor
    · refine PR.er (k := 1) h (by decide) (by decide) ?_ (fun μ1 f => ?_)
      · simp -implicitDefEqProofs only [cl_67, u_67_0, cl_92, u_92_0, u_92_1, u_92_2, u_92_3, u_92_4, u_92_6, u_92_7, u_92_8, u_92_9, e_iload_n, e_iload, e_lload_n, e_lload, e_aload_n, e_aload, e_istore_n, e_istore, e_astore_n, e_astore, e_lstore_n, e_lstore, e_iinc, e_iconst, e_bipush, e_sipush, e_ldc_w, e_ldc, e_ldcS, e_lconst, e_ldc2_w, e_iadd, e_isub, e_imul, e_iand, e_ixor, e_ishl, e_ishr, e_iushr, e_idiv, e_irem, e_ineg, e_i2b, e_i2s, e_i2c, e_ladd, e_lsub, e_lmul, e_land, e_lor, e_ldiv, e_lrem, e_lneg, e_lshl, e_lshr, e_lushr, e_i2l, e_l2i, e_lcmp, e_dupI, e_dupA, e_dup2, e_getI, e_getA, e_putI, e_putZ, e_getstatic, e_iaload, e_iastore, e_aaload10, e_alen10, e_aaload11, e_alen11, e_aaload12, e_alen12, e_aaload13, e_alen13, e_alen, e_invokevirtual, e_invokevirtualB, e_invokestatic, e_invokestaticB, ct_0, ct_i, ct_a, ct_l, os_0, os_s, rc_0, rc_s, sl_0, sl_i, sl_a, sl_l, simprocAttr, ix, z_em, up_eq, up_j, Nat.le_refl, true_or, or_true, true_and, and_true, and_self, or_self, beq_self_eq_true, if_true, if_false, ite_self, ca_f, ca_t, aLen, Int32.lt_iff_toInt_lt, Int32.le_iff_toInt_le, z_ite, z_iten, z_ite1, ite_not, not_true_eq_false, not_false_eq_true, false_and, and_false, false_or, or_false, b_max, b_min, b_minL, b_absL, b_ixD, b_ixH, b_copy, tk_0, tk_s, dr_0, dr_s, pu_s, pu_n, ca_0, ca_1, clr_0, clr_s, e_nop, e_goto, e_if_eq, e_if_ne, e_if_lt, e_if_ge, e_if_gt, e_if_le, e_ic_eq, e_ic_ne, e_ic_lt, e_ic_ge, e_ic_gt, e_ic_le, e_tsw, e_lsw, sw_0, sw_s, e_iret, e_zret, e_lret, e_aret, e_ret, en_0, en_n, en_i, en_a, en_l, List.getElem?_cons_zero, List.getElem?_cons_succ, List.set_cons_zero, List.set_cons_succ, len_s, List.length_nil, ne_eq, x_within, x_in, eT1, eT2, eT3, eT4, eT5, eT6, eM1, eM2, eM3, eM4, eM5, eM6, Nat.one_mul, Nat.mul_one, Nat.zero_add, q1]
      · simp -implicitDefEqProofs only [cl_154, u_154_0, u_154_1, u_154_2, u_154_3, u_154_4, e_iload_n, e_iload, e_lload_n, e_lload, e_aload_n, e_aload, e_istore_n, e_istore, e_astore_n, e_astore, e_lstore_n, e_lstore, e_iinc, e_iconst, e_bipush, e_sipush, e_ldc_w, e_ldc, e_ldcS, e_lconst, e_ldc2_w, e_iadd, e_isub, e_imul, e_iand, e_ixor, e_ishl, e_ishr, e_iushr, e_idiv, e_irem, e_ineg, e_i2b, e_i2s, e_i2c, e_ladd, e_lsub, e_lmul, e_land, e_lor, e_ldiv, e_lrem, e_lneg, e_lshl, e_lshr, e_lushr, e_i2l, e_l2i, e_lcmp, e_dupI, e_dupA, e_dup2, e_getI, e_getA, e_putI, e_putZ, e_getstatic, e_iaload, e_iastore, e_aaload10, e_alen10, e_aaload11, e_alen11, e_aaload12, e_alen12, e_aaload13, e_alen13, e_alen, e_invokevirtual, e_invokevirtualB, e_invokestatic, e_invokestaticB, ct_0, ct_i, ct_a, ct_l, os_0, os_s, rc_0, rc_s, sl_0, sl_i, sl_a, sl_l, simprocAttr, ix, z_em, up_eq, up_j, Nat.le_refl, true_or, or_true, true_and, and_true, and_self, or_self, beq_self_eq_true, if_true, if_false, ite_self, ca_f, ca_t, aLen, Int32.lt_iff_toInt_lt, Int32.le_iff_toInt_le, z_ite, z_iten, z_ite1, ite_not, not_true_eq_false, not_false_eq_true, false_and, and_false, false_or, or_false, b_max, b_min, b_minL, b_absL, b_ixD, b_ixH, b_copy, tk_0, tk_s, dr_0, dr_s, pu_s, pu_n, ca_0, ca_1, clr_0, clr_s, e_nop, e_goto, e_if_eq, e_if_ne, e_if_lt, e_if_ge, e_if_gt, e_if_le, e_ic_eq, e_ic_ne, e_ic_lt, e_ic_ge, e_ic_gt, e_ic_le, e_tsw, e_lsw, sw_0, sw_s, e_iret, e_zret, e_lret, e_aret, e_ret, en_0, en_n, en_i, en_a, en_l, List.getElem?_cons_zero, List.getElem?_cons_succ, List.set_cons_zero, List.set_cons_succ, len_s, List.length_nil, ne_eq, x_within, x_in, eT1, eT2, eT3, eT4, eT5, eT6, eM1, eM2, eM3, eM4, eM5, eM6, Nat.one_mul, Nat.mul_one, Nat.zero_add, q1]
    · refine PR.er (k := 1) h (by decide) (by decide) ?_ (fun μ1 f => ?_)
      · simp -implicitDefEqProofs only [cl_68, u_68_0, cl_92, u_92_0, u_92_1, u_92_2, u_92_3, u_92_4, u_92_6, u_92_7, u_92_8, u_92_9, e_iload_n, e_iload, e_lload_n, e_lload, e_aload_n, e_aload, e_istore_n, e_istore, e_astore_n, e_astore, e_lstore_n, e_lstore, e_iinc, e_iconst, e_bipush, e_sipush, e_ldc_w, e_ldc, e_ldcS, e_lconst, e_ldc2_w, e_iadd, e_isub, e_imul, e_iand, e_ixor, e_ishl, e_ishr, e_iushr, e_idiv, e_irem, e_ineg, e_i2b, e_i2s, e_i2c, e_ladd, e_lsub, e_lmul, e_land, e_lor, e_ldiv, e_lrem, e_lneg, e_lshl, e_lshr, e_lushr, e_i2l, e_l2i, e_lcmp, e_dupI, e_dupA, e_dup2, e_getI, e_getA, e_putI, e_putZ, e_getstatic, e_iaload, e_iastore, e_aaload10, e_alen10, e_aaload11, e_alen11, e_aaload12, e_alen12, e_aaload13, e_alen13, e_alen, e_invokevirtual, e_invokevirtualB, e_invokestatic, e_invokestaticB, ct_0, ct_i, ct_a, ct_l, os_0, os_s, rc_0, rc_s, sl_0, sl_i, sl_a, sl_l, simprocAttr, ix, z_em, up_eq, up_j, Nat.le_refl, true_or, or_true, true_and, and_true, and_self, or_self, beq_self_eq_true, if_true, if_false, ite_self, ca_f, ca_t, aLen, Int32.lt_iff_toInt_lt, Int32.le_iff_toInt_le, z_ite, z_iten, z_ite1, ite_not, not_true_eq_false, not_false_eq_true, false_and, and_false, false_or, or_false, b_max, b_min, b_minL, b_absL, b_ixD, b_ixH, b_copy, tk_0, tk_s, dr_0, dr_s, pu_s, pu_n, ca_0, ca_1, clr_0, clr_s, e_nop, e_goto, e_if_eq, e_if_ne, e_if_lt, e_if_ge, e_if_gt, e_if_le, e_ic_eq, e_ic_ne, e_ic_lt, e_ic_ge, e_ic_gt, e_ic_le, e_tsw, e_lsw, sw_0, sw_s, e_iret, e_zret, e_lret, e_aret, e_ret, en_0, en_n, en_i, en_a, en_l, List.getElem?_cons_zero, List.getElem?_cons_succ, List.set_cons_zero, List.set_cons_succ, len_s, List.length_nil, ne_eq, x_within, x_in, eT1, eT2, eT3, eT4, eT5, eT6, eM1, eM2, eM3, eM4, eM5, eM6, Nat.one_mul, Nat.mul_one, Nat.zero_add, q1]
      · simp -implicitDefEqProofs only [cl_157, u_157_0, u_157_1, u_157_2, u_157_3, u_157_4, u_157_6, u_157_8, u_157_9, u_157_10, e_iload_n, e_iload, e_lload_n, e_lload, e_aload_n, e_aload, e_istore_n, e_istore, e_astore_n, e_astore, e_lstore_n, e_lstore, e_iinc, e_iconst, e_bipush, e_sipush, e_ldc_w, e_ldc, e_ldcS, e_lconst, e_ldc2_w, e_iadd, e_isub, e_imul, e_iand, e_ixor, e_ishl, e_ishr, e_iushr, e_idiv, e_irem, e_ineg, e_i2b, e_i2s, e_i2c, e_ladd, e_lsub, e_lmul, e_land, e_lor, e_ldiv, e_lrem, e_lneg, e_lshl, e_lshr, e_lushr, e_i2l, e_l2i, e_lcmp, e_dupI, e_dupA, e_dup2, e_getI, e_getA, e_putI, e_putZ, e_getstatic, e_iaload, e_iastore, e_aaload10, e_alen10, e_aaload11, e_alen11, e_aaload12, e_alen12, e_aaload13, e_alen13, e_alen, e_invokevirtual, e_invokevirtualB, e_invokestatic, e_invokestaticB, ct_0, ct_i, ct_a, ct_l, os_0, os_s, rc_0, rc_s, sl_0, sl_i, sl_a, sl_l, simprocAttr, ix, z_em, up_eq, up_j, Nat.le_refl, true_or, or_true, true_and, and_true, and_self, or_self, beq_self_eq_true, if_true, if_false, ite_self, ca_f, ca_t, aLen, Int32.lt_iff_toInt_lt, Int32.le_iff_toInt_le, z_ite, z_iten, z_ite1, ite_not, not_true_eq_false, not_false_eq_true, false_and, and_false, false_or, or_false, b_max, b_min, b_minL, b_absL, b_ixD, b_ixH, b_copy, tk_0, tk_s, dr_0, dr_s, pu_s, pu_n, ca_0, ca_1, clr_0, clr_s, e_nop, e_goto, e_if_eq, e_if_ne, e_if_lt, e_if_ge, e_if_gt, e_if_le, e_ic_eq, e_ic_ne, e_ic_lt, e_ic_ge, e_ic_gt, e_ic_le, e_tsw, e_lsw, sw_0, sw_s, e_iret, e_zret, e_lret, e_aret, e_ret, en_0, en_n, en_i, en_a, en_l, List.getElem?_cons_zero, List.getElem?_cons_succ, List.set_cons_zero, List.set_cons_succ, len_s, List.length_nil, ne_eq, x_within, x_in, eT1, eT2, eT3, eT4, eT5, eT6, eM1, eM2, eM3, eM4, eM5, eM6, Nat.one_mul, Nat.mul_one, Nat.zero_add, q1]
