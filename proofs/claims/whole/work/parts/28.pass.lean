/-! THE CLASS'S MINUTE: its loops. -/
theorem rs_sm {tx : TX} {g : Int32 → Int32} {only : Int32} {V : Mem} {r k : Nat} (hk : ¬ k = 5) : restP g tx only V r 0 k = V 0 k := by
  unfold restP
  split
  · split
    · rw [up_o (by omega)]
    · unfold comeP leaveP
      split
      · rw [up_o (by omega), up_o (by omega), up_o (by omega), up_j hk, up_o (by omega)]
      · rw [up_o (by omega), up_j hk, up_o (by omega)]
  · rfl
theorem wk_sm {tx : TX} {V : Mem} {w k : Nat} : workP tx V w 0 k = V 0 k := by
  unfold workP wkP
  simp only []
  split
  · split
    · rfl
    · split
      · rw [up_o (by omega), up_o (by omega)]
      · split
        · rw [up_o (by omega), up_o (by omega), up_o (by omega), up_o (by omega), up_o (by omega)]
        · rw [up_o (by omega), up_o (by omega), up_o (by omega), up_o (by omega)]
  · rw [up_o (by omega)]
theorem l_rests {d b R : Nat} {only : Int32} {tx : TX} {V0 : Mem} (hR : R ≤ 8) : ∀ n k μ x3, k + n = R → μ b 6 = nI R → LW b μ → WFV (vC b μ) → (μ b 9).toInt ≤ 15000 → txC b μ = tx → vC b μ = itN (restP (mn 99999) tx only) k V0 → ∃ μ', res d 43 1 [some (vR 6 b), some (vI only), some (vI (nI k)), x3] [] μ = res d 43 7 [some (vR 6 b), some (vI only), some (vI 0), x3] [] μ' ∧ vC b μ' = itN (restP (mn 99999) tx only) R V0 ∧ WFV (vC b μ') ∧ FrC b μ μ' ∧ ∀ k, ¬ k = 5 → vC b μ' 0 k = vC b μ 0 k := by
  intro n
  induction n with
  | zero =>
    intro k μ x3 hk hr hL hW hm ht hv
    have hk : k = R := by omega
    subst hk
    refine ⟨μ, ?_, hv, hW, FrC.rf, fun _ _ => rfl⟩
    rw [u_43_1]
    simp -implicitDefEqProofs only [u_43_0, u_43_2, u_43_3, u_43_4, u_43_5, u_43_6, u_43_8, u_43_9, u_43_10, u_43_11, u_43_12, u_43_13, u_43_14, u_43_15, u_43_16, e_iload_n, e_iload, e_lload_n, e_lload, e_aload_n, e_aload, e_istore_n, e_istore, e_astore_n, e_astore, e_lstore_n, e_lstore, e_iinc, e_iconst, e_bipush, e_sipush, e_ldc_w, e_ldc, e_ldcS, e_lconst, e_ldc2_w, e_iadd, e_isub, e_imul, e_iand, e_ixor, e_ishl, e_ishr, e_iushr, e_idiv, e_irem, e_ineg, e_i2b, e_i2s, e_i2c, e_ladd, e_lsub, e_lmul, e_land, e_lor, e_ldiv, e_lrem, e_lneg, e_lshl, e_lshr, e_lushr, e_i2l, e_l2i, e_lcmp, e_dupI, e_dupA, e_dup2, e_getI, e_getA, e_putI, e_putZ, e_getstatic, e_iaload, e_iastore, e_aaload10, e_alen10, e_aaload11, e_alen11, e_aaload12, e_alen12, e_aaload13, e_alen13, e_alen, e_invokevirtual, e_invokevirtualB, e_invokestatic, e_invokestaticB, ct_0, ct_i, ct_a, ct_l, os_0, os_s, rc_0, rc_s, sl_0, sl_i, sl_a, sl_l, simprocAttr, ix, z_em, up_eq, up_j, Nat.le_refl, true_or, or_true, true_and, and_true, and_self, or_self, beq_self_eq_true, if_true, if_false, ite_self, ca_f, ca_t, aLen, Int32.lt_iff_toInt_lt, Int32.le_iff_toInt_le, z_ite, z_iten, z_ite1, ite_not, not_true_eq_false, not_false_eq_true, false_and, and_false, false_or, or_false, b_max, b_min, b_minL, b_absL, b_ixD, b_ixH, b_copy, tk_0, tk_s, dr_0, dr_s, pu_s, pu_n, ca_0, ca_1, clr_0, clr_s, e_nop, e_goto, e_if_eq, e_if_ne, e_if_lt, e_if_ge, e_if_gt, e_if_le, e_ic_eq, e_ic_ne, e_ic_lt, e_ic_ge, e_ic_gt, e_ic_le, e_tsw, e_lsw, sw_0, sw_s, e_iret, e_zret, e_lret, e_aret, e_ret, en_0, en_n, en_i, en_a, en_l, List.getElem?_cons_zero, List.getElem?_cons_succ, List.set_cons_zero, List.set_cons_succ, len_s, List.length_nil, ne_eq, hr, nI_toInt (show k < 2147483648 by omega), Int.lt_irrefl]
  | succ n ih =>
    intro k μ x3 hk hr hL hW hm ht hv
    have h1 : ((k : Nat) : Int) < (R : Int) := by omega
    have h2 : ((k : Nat) : Int) < 8 := by omega
    have h3 : (0 : Int) ≤ (k : Int) := by omega
    have hk8 : k < 8 := by omega
    have nk : (nI k).toInt = k := nI_toInt (by omega)
    have nR : (nI R).toInt = R := nI_toInt (by omega)
    have ck : (nI k).toNatClampNeg = k := ix_nI (by omega)
    have e18 : b + 2 + 16 + 1 * k = b + 18 + k := by omega
    have g2 := gr2 hW hk8
    have g22 := hW.2.2 k hk8 (by rw [← cs1, hr, nR]; exact h1)
    have hS : itN (restP (mn 99999) tx only) (k + 1) V0 = restP (mn 99999) tx only (vC b μ) k := by rw [hv]; rfl
    have hW1 : WFV (restP (mn 99999) tx only (vC b μ) k) := wf_rest hW hk8
    have key : ∃ μ1, res d 43 1 [some (vR 6 b), some (vI only), some (vI (nI k)), x3] [] μ = res d 43 1 [some (vR 6 b), some (vI only), some (vI (nI (k + 1))), x3] [] μ1 ∧ vC b μ1 = restP (mn 99999) tx only (vC b μ) k ∧ FrC b μ μ1 := by
      rw [← cr2 hk8] at g2 g22
      rw [← cs0] at g22
      have t1 : (1 : Int32).toInt = 1 := rfl
      have g0 := gs0 hW
      rw [← cs0] at g0
      have e5 : (μ b 5 - 1).toInt = (μ b 5).toInt - 1 := by rw [ts] <;> rw [t1] <;> omega
      have hw4 : (μ (b + 18 + k) 2).toNatClampNeg < 4 := ix_lt g2.1 (by omega)
      obtain ⟨μ1, c1, c2, c3⟩ := x_comeUp (d := d) (b := b) (r := k) (μ := μ) hk8 hL ⟨g2.1, by omega⟩ (by omega) rfl (by rw [cw0 (b := b) (μ := μ) hw4]; exact (gw0 hW hw4).1) (by rw [cw4 (b := b) (μ := μ) hw4]; exact (gw4 hW hw4).1)
      have c1' : cl d 44 [Sum.inr (Sum.inr (6, b)), Sum.inr (Sum.inr (2, b + 18 + k))] μ = _ := c1
      have hx : cl d 21 [Sum.inr (Sum.inr (2, b + 18 + k)), vI only] μ = _ := x_isAheadOf
      unfold restP
      rw [← ht, ← c2, ← cr6 hk8, ← cr2 hk8, ← cr7 hk8, ← cs2]
      rw [u_43_1]
      simp -implicitDefEqProofs only [u_43_0, u_43_2, u_43_3, u_43_4, u_43_5, u_43_6, u_43_8, u_43_9, u_43_10, u_43_11, u_43_12, u_43_13, u_43_14, u_43_15, u_43_16, e_iload_n, e_iload, e_lload_n, e_lload, e_aload_n, e_aload, e_istore_n, e_istore, e_astore_n, e_astore, e_lstore_n, e_lstore, e_iinc, e_iconst, e_bipush, e_sipush, e_ldc_w, e_ldc, e_ldcS, e_lconst, e_ldc2_w, e_iadd, e_isub, e_imul, e_iand, e_ixor, e_ishl, e_ishr, e_iushr, e_idiv, e_irem, e_ineg, e_i2b, e_i2s, e_i2c, e_ladd, e_lsub, e_lmul, e_land, e_lor, e_ldiv, e_lrem, e_lneg, e_lshl, e_lshr, e_lushr, e_i2l, e_l2i, e_lcmp, e_dupI, e_dupA, e_dup2, e_getI, e_getA, e_putI, e_putZ, e_getstatic, e_iaload, e_iastore, e_aaload10, e_alen10, e_aaload11, e_alen11, e_aaload12, e_alen12, e_aaload13, e_alen13, e_alen, e_invokevirtual, e_invokevirtualB, e_invokestatic, e_invokestaticB, ct_0, ct_i, ct_a, ct_l, os_0, os_s, rc_0, rc_s, sl_0, sl_i, sl_a, sl_l, simprocAttr, ix, z_em, up_eq, up_j, Nat.le_refl, true_or, or_true, true_and, and_true, and_self, or_self, beq_self_eq_true, if_true, if_false, ite_self, ca_f, ca_t, aLen, Int32.lt_iff_toInt_lt, Int32.le_iff_toInt_le, z_ite, z_iten, z_ite1, ite_not, not_true_eq_false, not_false_eq_true, false_and, and_false, false_or, or_false, b_max, b_min, b_minL, b_absL, b_ixD, b_ixH, b_copy, tk_0, tk_s, dr_0, dr_s, pu_s, pu_n, ca_0, ca_1, clr_0, clr_s, e_nop, e_goto, e_if_eq, e_if_ne, e_if_lt, e_if_ge, e_if_gt, e_if_le, e_ic_eq, e_ic_ne, e_ic_lt, e_ic_ge, e_ic_gt, e_ic_le, e_tsw, e_lsw, sw_0, sw_s, e_iret, e_zret, e_lret, e_aret, e_ret, en_0, en_n, en_i, en_a, en_l, List.getElem?_cons_zero, List.getElem?_cons_succ, List.set_cons_zero, List.set_cons_succ, len_s, List.length_nil, ne_eq, hr, nk, nR, ck, h1, h2, h3, e18, hx, c1', ← nI_succ]
      by_cases q1 : μ (b + 18 + k) 7 = 0 ∧ (only = -1 ∨ μ (b + 18 + k) 2 = only)
      · by_cases q2 : (μ (b + 18 + k) 4).toInt ≤ (μ b 9).toInt
        · refine ⟨μ1, ?_, by rw [if_pos ⟨q1.1, q1.2, q2⟩], c3⟩
          simp only [if_pos q1, if_neg (Int.not_lt.mpr q2)]
        · refine ⟨μ, ?_, by rw [if_neg (fun q => q2 q.2.2)], FrC.rf⟩
          simp only [if_pos q1, if_pos (Int.not_le.mp q2)]
      · refine ⟨μ, ?_, by rw [if_neg (fun q => q1 ⟨q.1, q.2.1⟩)], FrC.rf⟩
        simp only [if_neg q1]
    obtain ⟨μ1, k1, k2, k3⟩ := key
    have hs1 : ∀ k', ¬ k' = 5 → vC b μ1 0 k' = vC b μ 0 k' := fun k' h => by rw [k2]; exact rs_sm h
    obtain ⟨μ', i1, i2, i3, i4, i5⟩ := ih (k + 1) μ1 x3 (by omega) (by rw [cs1 (b := b) (μ := μ1), hs1 1 (by decide), ← cs1]; exact hr) (k3.lw hL) (by rw [k2]; exact hW1) (by rw [cs2 (b := b) (μ := μ1), hs1 2 (by decide), ← cs2]; exact hm) (by rw [k3.tx]; exact ht) (by rw [k2, hS])
    exact ⟨μ', k1.trans i1, i2, i3, k3.tr i4, fun k' h => (i5 k' h).trans (hs1 k' h)⟩
theorem l_works {d b N : Nat} {only : Int32} {tx : TX} {V0 : Mem} (hN : N ≤ 4) : ∀ n k μ x3, k + n = N → μ b 5 = nI N → LW b μ → WFV (vC b μ) → (μ b 9).toInt ≤ 15000 → txC b μ = tx → vC b μ = itN (wrkP tx only) k V0 → ∃ μ', res d 43 7 [some (vR 6 b), some (vI only), some (vI (nI k)), x3] [] μ = some (none, μ') ∧ vC b μ' = up (itN (wrkP tx only) N V0) 0 2 (μ b 9 + 1) ∧ WFV (itN (wrkP tx only) N V0) ∧ FrC b μ μ' := by
  intro n
  induction n with
  | zero =>
    intro k μ x3 hk hr hL hW hm ht hv
    have hk : k = N := by omega
    subst hk
    refine ⟨up μ b 9 (μ b 9 + 1), ?_, ?_, hv ▸ hW, FrC.rf.up (by omega)⟩
    · rw [u_43_7]
      simp -implicitDefEqProofs only [u_43_0, u_43_2, u_43_3, u_43_4, u_43_5, u_43_6, u_43_8, u_43_9, u_43_10, u_43_11, u_43_12, u_43_13, u_43_14, u_43_15, u_43_16, e_iload_n, e_iload, e_lload_n, e_lload, e_aload_n, e_aload, e_istore_n, e_istore, e_astore_n, e_astore, e_lstore_n, e_lstore, e_iinc, e_iconst, e_bipush, e_sipush, e_ldc_w, e_ldc, e_ldcS, e_lconst, e_ldc2_w, e_iadd, e_isub, e_imul, e_iand, e_ixor, e_ishl, e_ishr, e_iushr, e_idiv, e_irem, e_ineg, e_i2b, e_i2s, e_i2c, e_ladd, e_lsub, e_lmul, e_land, e_lor, e_ldiv, e_lrem, e_lneg, e_lshl, e_lshr, e_lushr, e_i2l, e_l2i, e_lcmp, e_dupI, e_dupA, e_dup2, e_getI, e_getA, e_putI, e_putZ, e_getstatic, e_iaload, e_iastore, e_aaload10, e_alen10, e_aaload11, e_alen11, e_aaload12, e_alen12, e_aaload13, e_alen13, e_alen, e_invokevirtual, e_invokevirtualB, e_invokestatic, e_invokestaticB, ct_0, ct_i, ct_a, ct_l, os_0, os_s, rc_0, rc_s, sl_0, sl_i, sl_a, sl_l, simprocAttr, ix, z_em, up_eq, up_j, Nat.le_refl, true_or, or_true, true_and, and_true, and_self, or_self, beq_self_eq_true, if_true, if_false, ite_self, ca_f, ca_t, aLen, Int32.lt_iff_toInt_lt, Int32.le_iff_toInt_le, z_ite, z_iten, z_ite1, ite_not, not_true_eq_false, not_false_eq_true, false_and, and_false, false_or, or_false, b_max, b_min, b_minL, b_absL, b_ixD, b_ixH, b_copy, tk_0, tk_s, dr_0, dr_s, pu_s, pu_n, ca_0, ca_1, clr_0, clr_s, e_nop, e_goto, e_if_eq, e_if_ne, e_if_lt, e_if_ge, e_if_gt, e_if_le, e_ic_eq, e_ic_ne, e_ic_lt, e_ic_ge, e_ic_gt, e_ic_le, e_tsw, e_lsw, sw_0, sw_s, e_iret, e_zret, e_lret, e_aret, e_ret, en_0, en_n, en_i, en_a, en_l, List.getElem?_cons_zero, List.getElem?_cons_succ, List.set_cons_zero, List.set_cons_succ, len_s, List.length_nil, ne_eq, hr, nI_toInt (show k < 2147483648 by omega), Int.lt_irrefl]
    · rw [us2, hv]
  | succ n ih =>
    intro k μ x3 hk hr hL hW hm ht hv
    have h1 : ((k : Nat) : Int) < (N : Int) := by omega
    have h2 : ((k : Nat) : Int) < 4 := by omega
    have h3 : (0 : Int) ≤ (k : Int) := by omega
    have hk4 : k < 4 := by omega
    have nk : (nI k).toInt = k := nI_toInt (by omega)
    have nR : (nI N).toInt = N := nI_toInt (by omega)
    have ck : (nI k).toNatClampNeg = k := ix_nI (by omega)
    have e6 : b + 1 + 5 + 3 * k = b + 6 + 3 * k := by omega
    have hS : itN (wrkP tx only) (k + 1) V0 = wrkP tx only (vC b μ) k := by rw [hv]; rfl
    have hWw : WFV (workP tx (vC b μ) k) := wf_work hW hk4 hm
    have hW1 : WFV (wrkP tx only (vC b μ) k) := by
      unfold wrkP
      split
      · exact hWw
      · exact hW
    have hx : cl d 36 [Sum.inr (Sum.inr (5, b + 6 + 3 * k))] μ = _ := x_isAtStep
    have g2 := gw2 hW hk4
    have g4 := gw4 hW hk4
    have g21 := hW.2.1 k hk4
    have g1 := gw1 hW hk4
    rw [← cw4 hk4] at g4
    rw [← cw2 hk4, ← cw1 hk4] at g21
    rw [← cw2 hk4] at g2
    rw [← cw1 hk4] at g1
    have body : ∃ μ1, res d 43 11 [some (vR 6 b), some (vI only), some (vI (nI k)), some (vR 5 (b + 6 + 3 * k))] [] μ = res d 43 7 [some (vR 6 b), some (vI only), some (vI (nI (k + 1))), some (vR 5 (b + 6 + 3 * k))] [] μ1 ∧ vC b μ1 = workP tx (vC b μ) k ∧ FrC b μ μ1 := by
      unfold workP
      rw [← cw4 hk4, ← cw2 hk4, ← cw1 hk4]
      by_cases q1 : 0 < (μ (b + 6 + 3 * k) 6).toInt
      · have q1' : ¬ μ (b + 6 + 3 * k) 6 = 0 := by
          intro q
          rw [q] at q1
          exact absurd q1 (by decide)
        refine ⟨up μ (b + 6 + 3 * k) 6 (μ (b + 6 + 3 * k) 6 - 1), ?_, by rw [if_neg q1', uw4 hk4], FrC.rf.up (by omega)⟩
        simp -implicitDefEqProofs only [u_43_0, u_43_2, u_43_3, u_43_4, u_43_5, u_43_6, u_43_8, u_43_9, u_43_10, u_43_11, u_43_12, u_43_13, u_43_14, u_43_15, u_43_16, e_iload_n, e_iload, e_lload_n, e_lload, e_aload_n, e_aload, e_istore_n, e_istore, e_astore_n, e_astore, e_lstore_n, e_lstore, e_iinc, e_iconst, e_bipush, e_sipush, e_ldc_w, e_ldc, e_ldcS, e_lconst, e_ldc2_w, e_iadd, e_isub, e_imul, e_iand, e_ixor, e_ishl, e_ishr, e_iushr, e_idiv, e_irem, e_ineg, e_i2b, e_i2s, e_i2c, e_ladd, e_lsub, e_lmul, e_land, e_lor, e_ldiv, e_lrem, e_lneg, e_lshl, e_lshr, e_lushr, e_i2l, e_l2i, e_lcmp, e_dupI, e_dupA, e_dup2, e_getI, e_getA, e_putI, e_putZ, e_getstatic, e_iaload, e_iastore, e_aaload10, e_alen10, e_aaload11, e_alen11, e_aaload12, e_alen12, e_aaload13, e_alen13, e_alen, e_invokevirtual, e_invokevirtualB, e_invokestatic, e_invokestaticB, ct_0, ct_i, ct_a, ct_l, os_0, os_s, rc_0, rc_s, sl_0, sl_i, sl_a, sl_l, simprocAttr, ix, z_em, up_eq, up_j, Nat.le_refl, true_or, or_true, true_and, and_true, and_self, or_self, beq_self_eq_true, if_true, if_false, ite_self, ca_f, ca_t, aLen, Int32.lt_iff_toInt_lt, Int32.le_iff_toInt_le, z_ite, z_iten, z_ite1, ite_not, not_true_eq_false, not_false_eq_true, false_and, and_false, false_or, or_false, b_max, b_min, b_minL, b_absL, b_ixD, b_ixH, b_copy, tk_0, tk_s, dr_0, dr_s, pu_s, pu_n, ca_0, ca_1, clr_0, clr_s, e_nop, e_goto, e_if_eq, e_if_ne, e_if_lt, e_if_ge, e_if_gt, e_if_le, e_ic_eq, e_ic_ne, e_ic_lt, e_ic_ge, e_ic_gt, e_ic_le, e_tsw, e_lsw, sw_0, sw_s, e_iret, e_zret, e_lret, e_aret, e_ret, en_0, en_n, en_i, en_a, en_l, List.getElem?_cons_zero, List.getElem?_cons_succ, List.set_cons_zero, List.set_cons_succ, len_s, List.length_nil, ne_eq, if_pos q1, ← nI_succ]
      · have q1' : μ (b + 6 + 3 * k) 6 = 0 := Int32.toInt_inj.mp (by have z : (0 : Int32).toInt = 0 := rfl; omega)
        rw [if_pos q1']
        by_cases q2 : μ (b + 6 + 3 * k) 4 = μ (b + 6 + 3 * k) 3
        · refine ⟨μ, ?_, by rw [if_pos q2], FrC.rf⟩
          have hn : ¬ (0 ≤ (μ (b + 6 + 3 * k) 4).toInt ∧ (μ (b + 6 + 3 * k) 4).toInt < (μ (b + 6 + 3 * k) 3).toInt ∧ (μ (b + 6 + 3 * k) 4).toInt < 8) := by
            rw [q2]
            omega
          simp -implicitDefEqProofs only [u_43_0, u_43_2, u_43_3, u_43_4, u_43_5, u_43_6, u_43_8, u_43_9, u_43_10, u_43_11, u_43_12, u_43_13, u_43_14, u_43_15, u_43_16, e_iload_n, e_iload, e_lload_n, e_lload, e_aload_n, e_aload, e_istore_n, e_istore, e_astore_n, e_astore, e_lstore_n, e_lstore, e_iinc, e_iconst, e_bipush, e_sipush, e_ldc_w, e_ldc, e_ldcS, e_lconst, e_ldc2_w, e_iadd, e_isub, e_imul, e_iand, e_ixor, e_ishl, e_ishr, e_iushr, e_idiv, e_irem, e_ineg, e_i2b, e_i2s, e_i2c, e_ladd, e_lsub, e_lmul, e_land, e_lor, e_ldiv, e_lrem, e_lneg, e_lshl, e_lshr, e_lushr, e_i2l, e_l2i, e_lcmp, e_dupI, e_dupA, e_dup2, e_getI, e_getA, e_putI, e_putZ, e_getstatic, e_iaload, e_iastore, e_aaload10, e_alen10, e_aaload11, e_alen11, e_aaload12, e_alen12, e_aaload13, e_alen13, e_alen, e_invokevirtual, e_invokevirtualB, e_invokestatic, e_invokestaticB, ct_0, ct_i, ct_a, ct_l, os_0, os_s, rc_0, rc_s, sl_0, sl_i, sl_a, sl_l, simprocAttr, ix, z_em, up_eq, up_j, Nat.le_refl, true_or, or_true, true_and, and_true, and_self, or_self, beq_self_eq_true, if_true, if_false, ite_self, ca_f, ca_t, aLen, Int32.lt_iff_toInt_lt, Int32.le_iff_toInt_le, z_ite, z_iten, z_ite1, ite_not, not_true_eq_false, not_false_eq_true, false_and, and_false, false_or, or_false, b_max, b_min, b_minL, b_absL, b_ixD, b_ixH, b_copy, tk_0, tk_s, dr_0, dr_s, pu_s, pu_n, ca_0, ca_1, clr_0, clr_s, e_nop, e_goto, e_if_eq, e_if_ne, e_if_lt, e_if_ge, e_if_gt, e_if_le, e_ic_eq, e_ic_ne, e_ic_lt, e_ic_ge, e_ic_gt, e_ic_le, e_tsw, e_lsw, sw_0, sw_s, e_iret, e_zret, e_lret, e_aret, e_ret, en_0, en_n, en_i, en_a, en_l, List.getElem?_cons_zero, List.getElem?_cons_succ, List.set_cons_zero, List.set_cons_succ, len_s, List.length_nil, ne_eq, if_neg q1, hx, if_neg hn, ← nI_succ]
        · have hne : ¬ (μ (b + 6 + 3 * k) 4).toInt = (μ (b + 6 + 3 * k) 3).toInt := fun q => q2 (Int32.toInt_inj.mp q)
          have hn : 0 ≤ (μ (b + 6 + 3 * k) 4).toInt ∧ (μ (b + 6 + 3 * k) 4).toInt < (μ (b + 6 + 3 * k) 3).toInt ∧ (μ (b + 6 + 3 * k) 4).toInt < 8 := by omega
          have hi8 : (μ (b + 6 + 3 * k) 4).toNatClampNeg < 8 := ix_lt hn.1 (by omega)
          have gh := gwh hW hk4 hi8
          rw [← cwh hk4 hi8, show b + 8 + 3 * k = b + 6 + 3 * k + 2 by omega] at gh
          obtain ⟨μa, a1, a2⟩ := x_goes (d := d) (b := b) (w := k) (μ := μ) hk4 hL ⟨hn.1, hn.2.2⟩ gh
          have fa := a2.fr
          have ra : ∀ o, b ≤ o → o < b + 26 → μa o = μ o := fun o h1 h2 => a2 o (by omega) (by omega)
          obtain ⟨μ1, b1, b2, b3⟩ := x_work (d := d) (b := b) (w := k) (g := goesP (txC b μ) (vC b μ) k) (m := μ b 9) (μ := μa) hk4 (by rw [ra _ (by omega) (by omega)]; exact hn)
          have a1' : cl d 47 [Sum.inr (Sum.inr (6, b)), Sum.inr (Sum.inr (5, b + 6 + 3 * k))] μ = _ := a1
          have b1' : cl d 38 [Sum.inr (Sum.inr (5, b + 6 + 3 * k)), vI (goesP (txC b μ) (vC b μ) k), vI (μ b 9)] μa = _ := b1
          have r9 : μa b 9 = μ b 9 := by rw [ra _ (by omega) (by omega)]
          refine ⟨μ1, ?_, ?_, fa.tr b3⟩
          · simp -implicitDefEqProofs only [u_43_0, u_43_2, u_43_3, u_43_4, u_43_5, u_43_6, u_43_8, u_43_9, u_43_10, u_43_11, u_43_12, u_43_13, u_43_14, u_43_15, u_43_16, e_iload_n, e_iload, e_lload_n, e_lload, e_aload_n, e_aload, e_istore_n, e_istore, e_astore_n, e_astore, e_lstore_n, e_lstore, e_iinc, e_iconst, e_bipush, e_sipush, e_ldc_w, e_ldc, e_ldcS, e_lconst, e_ldc2_w, e_iadd, e_isub, e_imul, e_iand, e_ixor, e_ishl, e_ishr, e_iushr, e_idiv, e_irem, e_ineg, e_i2b, e_i2s, e_i2c, e_ladd, e_lsub, e_lmul, e_land, e_lor, e_ldiv, e_lrem, e_lneg, e_lshl, e_lshr, e_lushr, e_i2l, e_l2i, e_lcmp, e_dupI, e_dupA, e_dup2, e_getI, e_getA, e_putI, e_putZ, e_getstatic, e_iaload, e_iastore, e_aaload10, e_alen10, e_aaload11, e_alen11, e_aaload12, e_alen12, e_aaload13, e_alen13, e_alen, e_invokevirtual, e_invokevirtualB, e_invokestatic, e_invokestaticB, ct_0, ct_i, ct_a, ct_l, os_0, os_s, rc_0, rc_s, sl_0, sl_i, sl_a, sl_l, simprocAttr, ix, z_em, up_eq, up_j, Nat.le_refl, true_or, or_true, true_and, and_true, and_self, or_self, beq_self_eq_true, if_true, if_false, ite_self, ca_f, ca_t, aLen, Int32.lt_iff_toInt_lt, Int32.le_iff_toInt_le, z_ite, z_iten, z_ite1, ite_not, not_true_eq_false, not_false_eq_true, false_and, and_false, false_or, or_false, b_max, b_min, b_minL, b_absL, b_ixD, b_ixH, b_copy, tk_0, tk_s, dr_0, dr_s, pu_s, pu_n, ca_0, ca_1, clr_0, clr_s, e_nop, e_goto, e_if_eq, e_if_ne, e_if_lt, e_if_ge, e_if_gt, e_if_le, e_ic_eq, e_ic_ne, e_ic_lt, e_ic_ge, e_ic_gt, e_ic_le, e_tsw, e_lsw, sw_0, sw_s, e_iret, e_zret, e_lret, e_aret, e_ret, en_0, en_n, en_i, en_a, en_l, List.getElem?_cons_zero, List.getElem?_cons_succ, List.set_cons_zero, List.set_cons_succ, len_s, List.length_nil, ne_eq, if_neg q1, hx, if_pos hn, a1', r9, b1', ← nI_succ]
          · rw [if_neg q2, b2, a2.vC, ht, ← cs2]
    have key : ∃ μ1, res d 43 7 [some (vR 6 b), some (vI only), some (vI (nI k)), x3] [] μ = res d 43 7 [some (vR 6 b), some (vI only), some (vI (nI (k + 1))), some (vR 5 (b + 6 + 3 * k))] [] μ1 ∧ vC b μ1 = wrkP tx only (vC b μ) k ∧ FrC b μ μ1 := by
      obtain ⟨μb, y1, y2, y3⟩ := body
      unfold wrkP
      by_cases q0 : only = -1 ∨ only = nI k
      · refine ⟨μb, ?_, by rw [if_pos q0]; exact y2, y3⟩
        rw [← y1, u_43_7]
        rcases q0 with q0 | q0
        · simp -implicitDefEqProofs only [u_43_8, u_43_9, e_iload_n, e_iload, e_lload_n, e_lload, e_aload_n, e_aload, e_istore_n, e_istore, e_astore_n, e_astore, e_lstore_n, e_lstore, e_iinc, e_iconst, e_bipush, e_sipush, e_ldc_w, e_ldc, e_ldcS, e_lconst, e_ldc2_w, e_iadd, e_isub, e_imul, e_iand, e_ixor, e_ishl, e_ishr, e_iushr, e_idiv, e_irem, e_ineg, e_i2b, e_i2s, e_i2c, e_ladd, e_lsub, e_lmul, e_land, e_lor, e_ldiv, e_lrem, e_lneg, e_lshl, e_lshr, e_lushr, e_i2l, e_l2i, e_lcmp, e_dupI, e_dupA, e_dup2, e_getI, e_getA, e_putI, e_putZ, e_getstatic, e_iaload, e_iastore, e_aaload10, e_alen10, e_aaload11, e_alen11, e_aaload12, e_alen12, e_aaload13, e_alen13, e_alen, e_invokevirtual, e_invokevirtualB, e_invokestatic, e_invokestaticB, ct_0, ct_i, ct_a, ct_l, os_0, os_s, rc_0, rc_s, sl_0, sl_i, sl_a, sl_l, simprocAttr, ix, z_em, up_eq, up_j, Nat.le_refl, true_or, or_true, true_and, and_true, and_self, or_self, beq_self_eq_true, if_true, if_false, ite_self, ca_f, ca_t, aLen, Int32.lt_iff_toInt_lt, Int32.le_iff_toInt_le, z_ite, z_iten, z_ite1, ite_not, not_true_eq_false, not_false_eq_true, false_and, and_false, false_or, or_false, b_max, b_min, b_minL, b_absL, b_ixD, b_ixH, b_copy, tk_0, tk_s, dr_0, dr_s, pu_s, pu_n, ca_0, ca_1, clr_0, clr_s, e_nop, e_goto, e_if_eq, e_if_ne, e_if_lt, e_if_ge, e_if_gt, e_if_le, e_ic_eq, e_ic_ne, e_ic_lt, e_ic_ge, e_ic_gt, e_ic_le, e_tsw, e_lsw, sw_0, sw_s, e_iret, e_zret, e_lret, e_aret, e_ret, en_0, en_n, en_i, en_a, en_l, List.getElem?_cons_zero, List.getElem?_cons_succ, List.set_cons_zero, List.set_cons_succ, len_s, List.length_nil, ne_eq, hr, nk, nR, ck, h1, h2, h3, e6, q0]
        · simp -implicitDefEqProofs only [u_43_8, u_43_9, e_iload_n, e_iload, e_lload_n, e_lload, e_aload_n, e_aload, e_istore_n, e_istore, e_astore_n, e_astore, e_lstore_n, e_lstore, e_iinc, e_iconst, e_bipush, e_sipush, e_ldc_w, e_ldc, e_ldcS, e_lconst, e_ldc2_w, e_iadd, e_isub, e_imul, e_iand, e_ixor, e_ishl, e_ishr, e_iushr, e_idiv, e_irem, e_ineg, e_i2b, e_i2s, e_i2c, e_ladd, e_lsub, e_lmul, e_land, e_lor, e_ldiv, e_lrem, e_lneg, e_lshl, e_lshr, e_lushr, e_i2l, e_l2i, e_lcmp, e_dupI, e_dupA, e_dup2, e_getI, e_getA, e_putI, e_putZ, e_getstatic, e_iaload, e_iastore, e_aaload10, e_alen10, e_aaload11, e_alen11, e_aaload12, e_alen12, e_aaload13, e_alen13, e_alen, e_invokevirtual, e_invokevirtualB, e_invokestatic, e_invokestaticB, ct_0, ct_i, ct_a, ct_l, os_0, os_s, rc_0, rc_s, sl_0, sl_i, sl_a, sl_l, simprocAttr, ix, z_em, up_eq, up_j, Nat.le_refl, true_or, or_true, true_and, and_true, and_self, or_self, beq_self_eq_true, if_true, if_false, ite_self, ca_f, ca_t, aLen, Int32.lt_iff_toInt_lt, Int32.le_iff_toInt_le, z_ite, z_iten, z_ite1, ite_not, not_true_eq_false, not_false_eq_true, false_and, and_false, false_or, or_false, b_max, b_min, b_minL, b_absL, b_ixD, b_ixH, b_copy, tk_0, tk_s, dr_0, dr_s, pu_s, pu_n, ca_0, ca_1, clr_0, clr_s, e_nop, e_goto, e_if_eq, e_if_ne, e_if_lt, e_if_ge, e_if_gt, e_if_le, e_ic_eq, e_ic_ne, e_ic_lt, e_ic_ge, e_ic_gt, e_ic_le, e_tsw, e_lsw, sw_0, sw_s, e_iret, e_zret, e_lret, e_aret, e_ret, en_0, en_n, en_i, en_a, en_l, List.getElem?_cons_zero, List.getElem?_cons_succ, List.set_cons_zero, List.set_cons_succ, len_s, List.length_nil, ne_eq, hr, nk, nR, ck, h1, h2, h3, e6, q0]
      · refine ⟨μ, ?_, by rw [if_neg q0], FrC.rf⟩
        have q3 : ¬ only = -1 := fun q => q0 (Or.inl q)
        have q4 : ¬ only = nI k := fun q => q0 (Or.inr q)
        rw [u_43_7]
        simp -implicitDefEqProofs only [u_43_8, u_43_9, u_43_10, u_43_15, e_iload_n, e_iload, e_lload_n, e_lload, e_aload_n, e_aload, e_istore_n, e_istore, e_astore_n, e_astore, e_lstore_n, e_lstore, e_iinc, e_iconst, e_bipush, e_sipush, e_ldc_w, e_ldc, e_ldcS, e_lconst, e_ldc2_w, e_iadd, e_isub, e_imul, e_iand, e_ixor, e_ishl, e_ishr, e_iushr, e_idiv, e_irem, e_ineg, e_i2b, e_i2s, e_i2c, e_ladd, e_lsub, e_lmul, e_land, e_lor, e_ldiv, e_lrem, e_lneg, e_lshl, e_lshr, e_lushr, e_i2l, e_l2i, e_lcmp, e_dupI, e_dupA, e_dup2, e_getI, e_getA, e_putI, e_putZ, e_getstatic, e_iaload, e_iastore, e_aaload10, e_alen10, e_aaload11, e_alen11, e_aaload12, e_alen12, e_aaload13, e_alen13, e_alen, e_invokevirtual, e_invokevirtualB, e_invokestatic, e_invokestaticB, ct_0, ct_i, ct_a, ct_l, os_0, os_s, rc_0, rc_s, sl_0, sl_i, sl_a, sl_l, simprocAttr, ix, z_em, up_eq, up_j, Nat.le_refl, true_or, or_true, true_and, and_true, and_self, or_self, beq_self_eq_true, if_true, if_false, ite_self, ca_f, ca_t, aLen, Int32.lt_iff_toInt_lt, Int32.le_iff_toInt_le, z_ite, z_iten, z_ite1, ite_not, not_true_eq_false, not_false_eq_true, false_and, and_false, false_or, or_false, b_max, b_min, b_minL, b_absL, b_ixD, b_ixH, b_copy, tk_0, tk_s, dr_0, dr_s, pu_s, pu_n, ca_0, ca_1, clr_0, clr_s, e_nop, e_goto, e_if_eq, e_if_ne, e_if_lt, e_if_ge, e_if_gt, e_if_le, e_ic_eq, e_ic_ne, e_ic_lt, e_ic_ge, e_ic_gt, e_ic_le, e_tsw, e_lsw, sw_0, sw_s, e_iret, e_zret, e_lret, e_aret, e_ret, en_0, en_n, en_i, en_a, en_l, List.getElem?_cons_zero, List.getElem?_cons_succ, List.set_cons_zero, List.set_cons_succ, len_s, List.length_nil, ne_eq, hr, nk, nR, ck, h1, h2, h3, e6, q3, q4, ← nI_succ]
    obtain ⟨μ1, k1, k2, k3⟩ := key
    have hs1 : ∀ k', vC b μ1 0 k' = vC b μ 0 k' := fun k' => by
      rw [k2]
      unfold wrkP
      split
      · exact wk_sm
      · rfl
    obtain ⟨μ', i1, i2, i3, i4⟩ := ih (k + 1) μ1 _ (by omega) (by rw [cs0 (b := b) (μ := μ1), hs1 0, ← cs0]; exact hr) (k3.lw hL) (by rw [k2]; exact hW1) (by rw [cs2 (b := b) (μ := μ1), hs1 2, ← cs2]; exact hm) (by rw [k3.tx]; exact ht) (by rw [k2, hS])
    refine ⟨μ', k1.trans i1, ?_, i3, k3.tr i4⟩
    rw [i2, cs2 (b := b) (μ := μ1), hs1 2, ← cs2]
