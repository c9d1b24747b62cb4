/-! THE CLASS'S END. -/
/-- behind the last step nothing changes the end -/
theorem end_stays {tx : TX} {only : Int32} {V : Mem} {w : Nat} (hW : WFV V) (hw : w < 4) (hat : V (1 + w) 2 = V (1 + w) 1) : minP (mn 99999) tx only V (1 + w) 7 = V (1 + w) 7 ∧ minP (mn 99999) tx only V (1 + w) 2 = V (1 + w) 2 ∧ minP (mn 99999) tx only V (1 + w) 1 = V (1 + w) 1 := by
  have hr : ∀ {V2 : Mem} {r k : Nat} , (k = 1 ∨ k = 2 ∨ k = 7) → restP (mn 99999) tx only V2 r (1 + w) k = V2 (1 + w) k ∨ 8 ≤ r := by
    intro V2 r k hk
    by_cases h8 : 8 ≤ r
    · exact Or.inr h8
    left
    unfold restP comeP leaveP
    simp only []
    split
    · split
      · rw [up_o (by omega)]
      · split
        · by_cases q : 1 + w = 1 + (V2 (10 + r) 2).toNatClampNeg
          · rw [up_j (by omega), up_j (by omega), up_j (by omega), up_o (by omega), up_o (by omega)]
          · rw [up_o q, up_o q, up_o q, up_o (by omega), up_o (by omega)]
        · by_cases q : 1 + w = 1 + (V2 (10 + r) 2).toNatClampNeg
          · rw [up_j (by omega), up_o (by omega), up_o (by omega)]
          · rw [up_o q, up_o (by omega), up_o (by omega)]
    · rfl
  have hk : ∀ {V2 : Mem} {x k : Nat}, V2 (1 + w) 2 = V2 (1 + w) 1 → (k = 1 ∨ k = 2 ∨ k = 7) → wrkP tx only V2 x (1 + w) k = V2 (1 + w) k := by
    intro V2 x k h2 hk
    unfold wrkP
    split
    · by_cases q : w = x
      · subst q
        unfold workP
        rw [if_pos h2]
        split
        · rfl
        · rw [up_j (by omega)]
      · unfold workP wkP
        simp only []
        have q2 : ¬ 1 + w = 1 + x := by omega
        split
        · split
          · rfl
          · split
            · rw [up_o q2, up_o q2]
            · split
              · rw [up_o q2, up_o q2, up_o q2, up_o q2, up_o q2]
              · rw [up_o q2, up_o q2, up_o q2, up_o q2]
        · rw [up_o q2]
    · rfl
  have g1 := gs1 hW
  have e1 : (V 0 1).toNatClampNeg = (V 0 1).toInt.toNat := rfl
  have a := itN_inv (f := restP (mn 99999) tx only) (P := fun V' => V' (1 + w) 7 = V (1 + w) 7 ∧ V' (1 + w) 2 = V (1 + w) 2 ∧ V' (1 + w) 1 = V (1 + w) 1) (N := (V 0 1).toNatClampNeg) (fun n V' hn q => ⟨((hr (V2 := V') (r := n) (k := 7) (by omega)).resolve_right (by omega)).trans q.1, ((hr (V2 := V') (r := n) (k := 2) (by omega)).resolve_right (by omega)).trans q.2.1, ((hr (V2 := V') (r := n) (k := 1) (by omega)).resolve_right (by omega)).trans q.2.2⟩) _ V (Nat.le_refl _) ⟨rfl, rfl, rfl⟩
  have b := itN_inv (f := wrkP tx only) (P := fun V' => V' (1 + w) 7 = V (1 + w) 7 ∧ V' (1 + w) 2 = V (1 + w) 2 ∧ V' (1 + w) 1 = V (1 + w) 1) (N := (restsP (mn 99999) tx only V 0 0).toNatClampNeg) (fun n V' hn q => by
    have h2 : V' (1 + w) 2 = V' (1 + w) 1 := by rw [q.2.1, q.2.2, hat]
    exact ⟨(hk h2 (by omega)).trans q.1, (hk h2 (by omega)).trans q.2.1, (hk h2 (by omega)).trans q.2.2⟩) _ (restsP (mn 99999) tx only V) (Nat.le_refl _) a
  unfold minP
  rw [up_o (by omega), up_o (by omega), up_o (by omega)]
  exact b
theorem end_stays_n {tx : TX} {only : Int32} {V : Mem} {w : Nat} (hW : WFV V) (hw : w < 4) (hat : V (1 + w) 2 = V (1 + w) 1) : ∀ n : Nat, (V 0 2).toInt + n ≤ 15001 → timesP (minP (mn 99999) tx only) n V (1 + w) 7 = V (1 + w) 7 ∧ timesP (minP (mn 99999) tx only) n V (1 + w) 2 = timesP (minP (mn 99999) tx only) n V (1 + w) 1 := by
  intro n
  induction n with
  | zero => exact fun _ => ⟨rfl, hat⟩
  | succ n ih =>
    intro hn
    obtain ⟨a1, a2, a3⟩ := tm_keep (tx := tx) (only := only) hW n (by omega)
    obtain ⟨i1, i2⟩ := ih (by omega)
    obtain ⟨b1, b2, b3⟩ := end_stays (tx := tx) (only := only) a1 hw i2
    exact ⟨b1.trans i1, b2.trans (i2.trans b3.symm)⟩
theorem times_add {f : Mem → Mem} {V : Mem} {k : Nat} : ∀ m, timesP f (m + k) V = timesP f m (timesP f k V) := by
  intro m
  induction m with
  | zero => rw [Nat.zero_add]; rfl
  | succ m ih =>
    rw [show m + 1 + k = (m + k) + 1 by omega]
    show f (timesP f (m + k) V) = f (timesP f m (timesP f k V))
    rw [ih]
theorem l_end {d b w N : Nat} {tx : TX} {V0 : Mem} (hw : w < 4) (hN : N ≤ 10000) (h0 : WFV V0) (hm : (V0 0 2).toInt + N ≤ 15001) : ∀ n k μ, k + n = N → LW b μ → txC b μ = tx → vC b μ = timesP (minP (mn 99999) tx (nI w)) k V0 → ∃ μ', res d 49 1 [some (vR 6 b), some (vI (nI w)), some (vI (nI N)), some (vR 5 (b + 6 + 3 * w)), some (vI (nI k))] [] μ = some (some (vI (timesP (minP (mn 99999) tx (nI w)) N V0 (1 + w) 7)), μ') ∧ FrC b μ μ' ∧ WFV (vC b μ') := by
  intro n
  induction n with
  | zero =>
    intro k μ hk hL ht hv
    have hk : k = N := by omega
    subst hk
    refine ⟨μ, ?_, FrC.rf, by rw [hv]; exact (tm_keep (tx := tx) (only := nI w) h0 k (by omega)).1⟩
    rw [← hv, ← cw7 hw, u_49_1]
    simp -implicitDefEqProofs only [u_49_0, u_49_2, u_49_3, u_49_4, e_iload_n, e_iload, e_lload_n, e_lload, e_aload_n, e_aload, e_istore_n, e_istore, e_astore_n, e_astore, e_lstore_n, e_lstore, e_iinc, e_iconst, e_bipush, e_sipush, e_ldc_w, e_ldc, e_ldcS, e_lconst, e_ldc2_w, e_iadd, e_isub, e_imul, e_iand, e_ixor, e_ishl, e_ishr, e_iushr, e_idiv, e_irem, e_ineg, e_i2b, e_i2s, e_i2c, e_ladd, e_lsub, e_lmul, e_land, e_lor, e_ldiv, e_lrem, e_lneg, e_lshl, e_lshr, e_lushr, e_i2l, e_l2i, e_lcmp, e_dupI, e_dupA, e_dup2, e_getI, e_getA, e_putI, e_putZ, e_getstatic, e_iaload, e_iastore, e_aaload10, e_alen10, e_aaload11, e_alen11, e_aaload12, e_alen12, e_aaload13, e_alen13, e_alen, e_invokevirtual, e_invokevirtualB, e_invokestatic, e_invokestaticB, ct_0, ct_i, ct_a, ct_l, os_0, os_s, rc_0, rc_s, sl_0, sl_i, sl_a, sl_l, simprocAttr, ix, z_em, up_eq, up_j, Nat.le_refl, true_or, or_true, true_and, and_true, and_self, or_self, beq_self_eq_true, if_true, if_false, ite_self, ca_f, ca_t, aLen, Int32.lt_iff_toInt_lt, Int32.le_iff_toInt_le, z_ite, z_iten, z_ite1, ite_not, not_true_eq_false, not_false_eq_true, false_and, and_false, false_or, or_false, b_max, b_min, b_minL, b_absL, b_ixD, b_ixH, b_copy, tk_0, tk_s, dr_0, dr_s, pu_s, pu_n, ca_0, ca_1, clr_0, clr_s, e_nop, e_goto, e_if_eq, e_if_ne, e_if_lt, e_if_ge, e_if_gt, e_if_le, e_ic_eq, e_ic_ne, e_ic_lt, e_ic_ge, e_ic_gt, e_ic_le, e_tsw, e_lsw, sw_0, sw_s, e_iret, e_zret, e_lret, e_aret, e_ret, en_0, en_n, en_i, en_a, en_l, List.getElem?_cons_zero, List.getElem?_cons_succ, List.set_cons_zero, List.set_cons_succ, len_s, List.length_nil, ne_eq, Int.lt_irrefl]
  | succ n ih =>
    intro k μ hk hL ht hv
    have h1 : ((k : Nat) : Int) < (N : Int) := by omega
    have nk : (nI k).toInt = k := nI_toInt (by omega)
    have nR : (nI N).toInt = N := nI_toInt (by omega)
    obtain ⟨w1, w2, w3⟩ := tm_keep (tx := tx) (only := nI w) h0 k (by omega)
    have hx : cl d 36 [Sum.inr (Sum.inr (5, b + 6 + 3 * w))] μ = _ := x_isAtStep
    by_cases q : V0 = V0 ∧ timesP (minP (mn 99999) tx (nI w)) k V0 (1 + w) 2 = timesP (minP (mn 99999) tx (nI w)) k V0 (1 + w) 1
    · refine ⟨μ, ?_, FrC.rf, by rw [hv]; exact w1⟩
      have e := (end_stays_n (tx := tx) (only := nI w) w1 hw q.2 (n + 1) (by omega)).1
      rw [← times_add, show n + 1 + k = N by omega] at e
      rw [e]
      have q2 := q.2
      rw [← hv, ← cw2 hw, ← cw1 hw] at q2
      rw [← hv, ← cw7 hw, u_49_1]
      have hn : ¬ (0 ≤ (μ (b + 6 + 3 * w) 4).toInt ∧ (μ (b + 6 + 3 * w) 4).toInt < (μ (b + 6 + 3 * w) 3).toInt ∧ (μ (b + 6 + 3 * w) 4).toInt < 8) := by
        rw [q2]
        omega
      simp -implicitDefEqProofs only [u_49_0, u_49_2, u_49_3, u_49_4, e_iload_n, e_iload, e_lload_n, e_lload, e_aload_n, e_aload, e_istore_n, e_istore, e_astore_n, e_astore, e_lstore_n, e_lstore, e_iinc, e_iconst, e_bipush, e_sipush, e_ldc_w, e_ldc, e_ldcS, e_lconst, e_ldc2_w, e_iadd, e_isub, e_imul, e_iand, e_ixor, e_ishl, e_ishr, e_iushr, e_idiv, e_irem, e_ineg, e_i2b, e_i2s, e_i2c, e_ladd, e_lsub, e_lmul, e_land, e_lor, e_ldiv, e_lrem, e_lneg, e_lshl, e_lshr, e_lushr, e_i2l, e_l2i, e_lcmp, e_dupI, e_dupA, e_dup2, e_getI, e_getA, e_putI, e_putZ, e_getstatic, e_iaload, e_iastore, e_aaload10, e_alen10, e_aaload11, e_alen11, e_aaload12, e_alen12, e_aaload13, e_alen13, e_alen, e_invokevirtual, e_invokevirtualB, e_invokestatic, e_invokestaticB, ct_0, ct_i, ct_a, ct_l, os_0, os_s, rc_0, rc_s, sl_0, sl_i, sl_a, sl_l, simprocAttr, ix, z_em, up_eq, up_j, Nat.le_refl, true_or, or_true, true_and, and_true, and_self, or_self, beq_self_eq_true, if_true, if_false, ite_self, ca_f, ca_t, aLen, Int32.lt_iff_toInt_lt, Int32.le_iff_toInt_le, z_ite, z_iten, z_ite1, ite_not, not_true_eq_false, not_false_eq_true, false_and, and_false, false_or, or_false, b_max, b_min, b_minL, b_absL, b_ixD, b_ixH, b_copy, tk_0, tk_s, dr_0, dr_s, pu_s, pu_n, ca_0, ca_1, clr_0, clr_s, e_nop, e_goto, e_if_eq, e_if_ne, e_if_lt, e_if_ge, e_if_gt, e_if_le, e_ic_eq, e_ic_ne, e_ic_lt, e_ic_ge, e_ic_gt, e_ic_le, e_tsw, e_lsw, sw_0, sw_s, e_iret, e_zret, e_lret, e_aret, e_ret, en_0, en_n, en_i, en_a, en_l, List.getElem?_cons_zero, List.getElem?_cons_succ, List.set_cons_zero, List.set_cons_succ, len_s, List.length_nil, ne_eq, nk, nR, h1, hx, if_neg hn]
    · have q2 : ¬ timesP (minP (mn 99999) tx (nI w)) k V0 (1 + w) 2 = timesP (minP (mn 99999) tx (nI w)) k V0 (1 + w) 1 := fun z => q ⟨rfl, z⟩
      rw [← hv] at w1 w2 q2
      have g2 := gw2 w1 hw
      have g1 := gw1 w1 hw
      have g21 := w1.2.1 w hw
      have hne : ¬ (vC b μ (1 + w) 2).toInt = (vC b μ (1 + w) 1).toInt := fun z => q2 (Int32.toInt_inj.mp z)
      have hn : 0 ≤ (μ (b + 6 + 3 * w) 4).toInt ∧ (μ (b + 6 + 3 * w) 4).toInt < (μ (b + 6 + 3 * w) 3).toInt ∧ (μ (b + 6 + 3 * w) 4).toInt < 8 := by
        rw [cw2 (b := b) (μ := μ) hw, cw1 (b := b) (μ := μ) hw]
        omega
      obtain ⟨μ1, a1, a2, a3⟩ := x_pass (d := d) (b := b) (only := nI w) (μ := μ) hL w1 (by omega)
      have a1' : cl d 43 [Sum.inr (Sum.inr (6, b)), vI (nI w)] μ = _ := a1
      obtain ⟨μ2, b1, b3, b4⟩ := ih (k + 1) μ1 (by omega) (a3.lw hL) (a3.tx.trans ht) (by rw [a2, ht, hv]; rfl)
      refine ⟨μ2, ?_, a3.tr b3, b4⟩
      rw [← b1, u_49_1]
      simp -implicitDefEqProofs only [u_49_0, u_49_2, u_49_3, u_49_4, e_iload_n, e_iload, e_lload_n, e_lload, e_aload_n, e_aload, e_istore_n, e_istore, e_astore_n, e_astore, e_lstore_n, e_lstore, e_iinc, e_iconst, e_bipush, e_sipush, e_ldc_w, e_ldc, e_ldcS, e_lconst, e_ldc2_w, e_iadd, e_isub, e_imul, e_iand, e_ixor, e_ishl, e_ishr, e_iushr, e_idiv, e_irem, e_ineg, e_i2b, e_i2s, e_i2c, e_ladd, e_lsub, e_lmul, e_land, e_lor, e_ldiv, e_lrem, e_lneg, e_lshl, e_lshr, e_lushr, e_i2l, e_l2i, e_lcmp, e_dupI, e_dupA, e_dup2, e_getI, e_getA, e_putI, e_putZ, e_getstatic, e_iaload, e_iastore, e_aaload10, e_alen10, e_aaload11, e_alen11, e_aaload12, e_alen12, e_aaload13, e_alen13, e_alen, e_invokevirtual, e_invokevirtualB, e_invokestatic, e_invokestaticB, ct_0, ct_i, ct_a, ct_l, os_0, os_s, rc_0, rc_s, sl_0, sl_i, sl_a, sl_l, simprocAttr, ix, z_em, up_eq, up_j, Nat.le_refl, true_or, or_true, true_and, and_true, and_self, or_self, beq_self_eq_true, if_true, if_false, ite_self, ca_f, ca_t, aLen, Int32.lt_iff_toInt_lt, Int32.le_iff_toInt_le, z_ite, z_iten, z_ite1, ite_not, not_true_eq_false, not_false_eq_true, false_and, and_false, false_or, or_false, b_max, b_min, b_minL, b_absL, b_ixD, b_ixH, b_copy, tk_0, tk_s, dr_0, dr_s, pu_s, pu_n, ca_0, ca_1, clr_0, clr_s, e_nop, e_goto, e_if_eq, e_if_ne, e_if_lt, e_if_ge, e_if_gt, e_if_le, e_ic_eq, e_ic_ne, e_ic_lt, e_ic_ge, e_ic_gt, e_ic_le, e_tsw, e_lsw, sw_0, sw_s, e_iret, e_zret, e_lret, e_aret, e_ret, en_0, en_n, en_i, en_a, en_l, List.getElem?_cons_zero, List.getElem?_cons_succ, List.set_cons_zero, List.set_cons_succ, len_s, List.length_nil, ne_eq, nk, nR, h1, hx, if_pos hn, a1', ← nI_succ]
theorem x_end {d b w : Nat} {n : Int32} {μ : Mem} (hw : w < 4) (hL : LW b μ) (hW : WFV (vC b μ)) (h0 : 0 ≤ n.toInt ∧ n.toInt ≤ 10000) (hm : (vC b μ 0 2).toInt + n.toInt ≤ 15001) : ∃ μ', cl d 49 [vR 6 b, vI (nI w), vI n] μ = some (some (vI (timesP (minP (mn 99999) (txC b μ) (nI w)) n.toNatClampNeg (vC b μ) (1 + w) 7)), μ') ∧ FrC b μ μ' ∧ WFV (vC b μ') := by
  have e0 : n.toNatClampNeg = n.toInt.toNat := rfl
  obtain ⟨μ1, a1, a3, a4⟩ := l_end (d := d) (b := b) (w := w) (N := n.toNatClampNeg) (tx := txC b μ) (V0 := vC b μ) hw (by omega) hW (by omega) n.toNatClampNeg 0 μ (by omega) hL rfl rfl
  refine ⟨μ1, ?_, a3, a4⟩
  rw [nI_ix h0.1] at a1
  rw [← a1]
  have nw : (nI w).toInt = w := nI_toInt (by omega)
  have cw : (nI w).toNatClampNeg = w := ix_nI (by omega)
  have bw : (0 : Int) ≤ (w : Int) ∧ (w : Int) < 4 := by omega
  have e6 : b + 1 + 5 + 3 * w = b + 6 + 3 * w := by omega
  simp -implicitDefEqProofs only [cl_49, u_49_0, e_iload_n, e_iload, e_lload_n, e_lload, e_aload_n, e_aload, e_istore_n, e_istore, e_astore_n, e_astore, e_lstore_n, e_lstore, e_iinc, e_iconst, e_bipush, e_sipush, e_ldc_w, e_ldc, e_ldcS, e_lconst, e_ldc2_w, e_iadd, e_isub, e_imul, e_iand, e_ixor, e_ishl, e_ishr, e_iushr, e_idiv, e_irem, e_ineg, e_i2b, e_i2s, e_i2c, e_ladd, e_lsub, e_lmul, e_land, e_lor, e_ldiv, e_lrem, e_lneg, e_lshl, e_lshr, e_lushr, e_i2l, e_l2i, e_lcmp, e_dupI, e_dupA, e_dup2, e_getI, e_getA, e_putI, e_putZ, e_getstatic, e_iaload, e_iastore, e_aaload10, e_alen10, e_aaload11, e_alen11, e_aaload12, e_alen12, e_aaload13, e_alen13, e_alen, e_invokevirtual, e_invokevirtualB, e_invokestatic, e_invokestaticB, ct_0, ct_i, ct_a, ct_l, os_0, os_s, rc_0, rc_s, sl_0, sl_i, sl_a, sl_l, simprocAttr, ix, z_em, up_eq, up_j, Nat.le_refl, true_or, or_true, true_and, and_true, and_self, or_self, beq_self_eq_true, if_true, if_false, ite_self, ca_f, ca_t, aLen, Int32.lt_iff_toInt_lt, Int32.le_iff_toInt_le, z_ite, z_iten, z_ite1, ite_not, not_true_eq_false, not_false_eq_true, false_and, and_false, false_or, or_false, b_max, b_min, b_minL, b_absL, b_ixD, b_ixH, b_copy, tk_0, tk_s, dr_0, dr_s, pu_s, pu_n, ca_0, ca_1, clr_0, clr_s, e_nop, e_goto, e_if_eq, e_if_ne, e_if_lt, e_if_ge, e_if_gt, e_if_le, e_ic_eq, e_ic_ne, e_ic_lt, e_ic_ge, e_ic_gt, e_ic_le, e_tsw, e_lsw, sw_0, sw_s, e_iret, e_zret, e_lret, e_aret, e_ret, en_0, en_n, en_i, en_a, en_l, List.getElem?_cons_zero, List.getElem?_cons_succ, List.set_cons_zero, List.set_cons_succ, len_s, List.length_nil, nw, cw, if_pos bw, e6]
  rfl
