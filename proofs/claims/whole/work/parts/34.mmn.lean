/-! THE MODEL'S MINUTE: its loops. -/
theorem y_isQuiet {d r : Nat} {μ : Mem} (hr : r < 8) : cl d 149 [vR 8 112, vI (nI r)] μ = some (some (vI (if (vM 113 μ (10 + r) 0 = 1 ∨ vM 113 μ (10 + r) 0 = 4) ∧ (vM 113 μ 0 3).toInt ≤ (vM 113 μ 0 2).toInt ∧ (vM 113 μ 0 2).toInt < (vM 113 μ 0 4).toInt then 1 else 0)), μ) := by
  rw [← ms2, ← ms3, ← ms4]
  simp -implicitDefEqProofs only [cl_149, u_149_0, u_149_1, u_149_2, u_149_3, u_149_4, u_149_5, u_149_6, e_iload_n, e_iload, e_lload_n, e_lload, e_aload_n, e_aload, e_istore_n, e_istore, e_astore_n, e_astore, e_lstore_n, e_lstore, e_iinc, e_iconst, e_bipush, e_sipush, e_ldc_w, e_ldc, e_ldcS, e_lconst, e_ldc2_w, e_iadd, e_isub, e_imul, e_iand, e_ixor, e_ishl, e_ishr, e_iushr, e_idiv, e_irem, e_ineg, e_i2b, e_i2s, e_i2c, e_ladd, e_lsub, e_lmul, e_land, e_lor, e_ldiv, e_lrem, e_lneg, e_lshl, e_lshr, e_lushr, e_i2l, e_l2i, e_lcmp, e_dupI, e_dupA, e_dup2, e_getI, e_getA, e_putI, e_putZ, e_getstatic, e_iaload, e_iastore, e_aaload10, e_alen10, e_aaload11, e_alen11, e_aaload12, e_alen12, e_aaload13, e_alen13, e_alen, e_invokevirtual, e_invokevirtualB, e_invokestatic, e_invokestaticB, ct_0, ct_i, ct_a, ct_l, os_0, os_s, rc_0, rc_s, sl_0, sl_i, sl_a, sl_l, simprocAttr, ix, z_em, up_eq, up_j, Nat.le_refl, true_or, or_true, true_and, and_true, and_self, or_self, beq_self_eq_true, if_true, if_false, ite_self, ca_f, ca_t, aLen, Int32.lt_iff_toInt_lt, Int32.le_iff_toInt_le, z_ite, z_iten, z_ite1, ite_not, not_true_eq_false, not_false_eq_true, false_and, and_false, false_or, or_false, b_max, b_min, b_minL, b_absL, b_ixD, b_ixH, b_copy, tk_0, tk_s, dr_0, dr_s, pu_s, pu_n, ca_0, ca_1, clr_0, clr_s, e_nop, e_goto, e_if_eq, e_if_ne, e_if_lt, e_if_ge, e_if_gt, e_if_le, e_ic_eq, e_ic_ne, e_ic_lt, e_ic_ge, e_ic_gt, e_ic_le, e_tsw, e_lsw, sw_0, sw_s, e_iret, e_zret, e_lret, e_aret, e_ret, en_0, en_n, en_i, en_a, en_l, List.getElem?_cons_zero, List.getElem?_cons_succ, List.set_cons_zero, List.set_cons_succ, len_s, List.length_nil, ne_eq, yo0 hr]
  by_cases c1 : vM 113 μ (10 + r) 0 = 1
  · simp only [if_pos c1]
    by_cases c2 : (μ 113 2).toInt < (μ 113 3).toInt
    · rw [if_pos c2, if_neg (by omega)]
    · rw [if_neg c2]
      by_cases c3 : (μ 113 2).toInt < (μ 113 4).toInt
      · rw [if_pos c3, if_pos ⟨Or.inl c1, by omega, c3⟩]
      · rw [if_neg c3, if_neg (fun q => c3 q.2.2)]
  · simp only [if_neg c1]
    by_cases c4 : vM 113 μ (10 + r) 0 = 4
    · simp only [if_pos c4]
      by_cases c2 : (μ 113 2).toInt < (μ 113 3).toInt
      · rw [if_pos c2, if_neg (by omega)]
      · rw [if_neg c2]
        by_cases c3 : (μ 113 2).toInt < (μ 113 4).toInt
        · rw [if_pos c3, if_pos ⟨Or.inr c4, by omega, c3⟩]
        · rw [if_neg c3, if_neg (fun q => c3 q.2.2)]
    · rw [if_neg c4, if_neg (fun q => q.1.elim c1 c4)]
theorem k_rests {d R : Nat} {tx : TX} {V0 : Mem} (hR : R ≤ 8) : ∀ n k μ, k + n = R → μ 113 1 = nI R → LWM μ → WFV (vM 113 μ) → WFD (vM 113 μ) → (μ 113 2).toInt ≤ 15000 → txM μ = tx → vM 113 μ = itN (restP (mn 99999) tx (-1)) k V0 → ∃ μ', res d 152 1 [some (vR 8 112), some (vI (nI k))] [] μ = res d 152 9 [some (vR 8 112), some (vI 0)] [] μ' ∧ vM 113 μ' = itN (restP (mn 99999) tx (-1)) R V0 ∧ (WFV (vM 113 μ') ∧ WFD (vM 113 μ')) ∧ FrM μ μ' ∧ ∀ k, ¬ k = 5 → vM 113 μ' 0 k = vM 113 μ 0 k := by
  intro n
  induction n with
  | zero =>
    intro k μ hk hr hL hW hD hm ht hv
    have hk : k = R := by omega
    subst hk
    refine ⟨μ, ?_, hv, ⟨hW, hD⟩, FrM.rf, fun _ _ => rfl⟩
    rw [u_152_1]
    simp -implicitDefEqProofs only [u_152_0, u_152_2, u_152_3, u_152_4, u_152_5, u_152_6, u_152_7, u_152_8, u_152_10, u_152_11, e_iload_n, e_iload, e_lload_n, e_lload, e_aload_n, e_aload, e_istore_n, e_istore, e_astore_n, e_astore, e_lstore_n, e_lstore, e_iinc, e_iconst, e_bipush, e_sipush, e_ldc_w, e_ldc, e_ldcS, e_lconst, e_ldc2_w, e_iadd, e_isub, e_imul, e_iand, e_ixor, e_ishl, e_ishr, e_iushr, e_idiv, e_irem, e_ineg, e_i2b, e_i2s, e_i2c, e_ladd, e_lsub, e_lmul, e_land, e_lor, e_ldiv, e_lrem, e_lneg, e_lshl, e_lshr, e_lushr, e_i2l, e_l2i, e_lcmp, e_dupI, e_dupA, e_dup2, e_getI, e_getA, e_putI, e_putZ, e_getstatic, e_iaload, e_iastore, e_aaload10, e_alen10, e_aaload11, e_alen11, e_aaload12, e_alen12, e_aaload13, e_alen13, e_alen, e_invokevirtual, e_invokevirtualB, e_invokestatic, e_invokestaticB, ct_0, ct_i, ct_a, ct_l, os_0, os_s, rc_0, rc_s, sl_0, sl_i, sl_a, sl_l, simprocAttr, ix, z_em, up_eq, up_j, Nat.le_refl, true_or, or_true, true_and, and_true, and_self, or_self, beq_self_eq_true, if_true, if_false, ite_self, ca_f, ca_t, aLen, Int32.lt_iff_toInt_lt, Int32.le_iff_toInt_le, z_ite, z_iten, z_ite1, ite_not, not_true_eq_false, not_false_eq_true, false_and, and_false, false_or, or_false, b_max, b_min, b_minL, b_absL, b_ixD, b_ixH, b_copy, tk_0, tk_s, dr_0, dr_s, pu_s, pu_n, ca_0, ca_1, clr_0, clr_s, e_nop, e_goto, e_if_eq, e_if_ne, e_if_lt, e_if_ge, e_if_gt, e_if_le, e_ic_eq, e_ic_ne, e_ic_lt, e_ic_ge, e_ic_gt, e_ic_le, e_tsw, e_lsw, sw_0, sw_s, e_iret, e_zret, e_lret, e_aret, e_ret, en_0, en_n, en_i, en_a, en_l, List.getElem?_cons_zero, List.getElem?_cons_succ, List.set_cons_zero, List.set_cons_succ, len_s, List.length_nil, ne_eq, hr, nI_toInt (show k < 2147483648 by omega), Int.lt_irrefl]
  | succ n ih =>
    intro k μ hk hr hL hW hD hm ht hv
    have h1 : ((k : Nat) : Int) < (R : Int) := by omega
    have hk8 : k < 8 := by omega
    have nk : (nI k).toInt = k := nI_toInt (by omega)
    have nR : (nI R).toInt = R := nI_toInt (by omega)
    have g2 := gr2 hW hk8
    have g6 := gr6 hW hk8
    have hS : itN (restP (mn 99999) tx (-1)) (k + 1) V0 = restP (mn 99999) tx (-1) (vM 113 μ) k := by rw [hv]; rfl
    have hW1 : WFV (restP (mn 99999) tx (-1) (vM 113 μ) k) := wf_rest hW hk8
    have hD1 : WFD (restP (mn 99999) tx (-1) (vM 113 μ) k) := wd_rest hW hD hk8 (by rw [← ms2]; exact hm)
    have key : ∃ μ1, res d 152 1 [some (vR 8 112), some (vI (nI k))] [] μ = res d 152 1 [some (vR 8 112), some (vI (nI (k + 1)))] [] μ1 ∧ vM 113 μ1 = restP (mn 99999) tx (-1) (vM 113 μ) k ∧ FrM μ μ1 := by
      have hw4 : (vM 113 μ (10 + k) 2).toNatClampNeg < 4 := ix_lt g2.1 (by omega)
      have hwe : vM 113 μ (10 + k) 2 = nI (vM 113 μ (10 + k) 2).toNatClampNeg := (nI_ix g2.1).symm
      have aR : 106 + 8 * nI k + 7 = nI (106 + 8 * k + 7) := ad_r hk8 (by decide) rfl
      have iR : (nI (106 + 8 * k + 7)).toInt = (106 + 8 * k + 7 : Nat) := nI_toInt (by omega)
      have dR : (nI (106 + 8 * k + 7)).toNatClampNeg = 106 + 8 * k + 7 := ix_nI (by omega)
      have bR : (0 : Int) ≤ ((106 + 8 * k + 7 : Nat) : Int) ∧ ((106 + 8 * k + 7 : Nat) : Int) < 504 := by omega
      unfold restP
      rw [← ms2, ← ms3, ← ms4]
      by_cases q1 : vM 113 μ (10 + k) 6 = 0 ∧ (vM 113 μ (10 + k) 7).toInt ≤ (μ 113 2).toInt
      · have q6 : ¬ vM 113 μ (10 + k) 6 = 1 := by rw [q1.1]; decide
        by_cases q2 : (vM 113 μ (10 + k) 0 = 1 ∨ vM 113 μ (10 + k) 0 = 4) ∧ (μ 113 3).toInt ≤ (μ 113 2).toInt ∧ (μ 113 2).toInt < (μ 113 4).toInt
        · refine ⟨up μ 113 (106 + 8 * k + 7) (μ 113 4), ?_, by rw [umr hk8 (by decide), if_pos ⟨q1.1, Or.inl rfl, q1.2⟩, if_pos q2], FrM.rf.up (by omega)⟩
          rw [u_152_1]
          have hq := y_isQuiet (d := d) (μ := μ) hk8
          rw [← ms2, ← ms3, ← ms4, if_pos q2] at hq
          have hq' : cl d 149 [Sum.inr (Sum.inr (8, 112)), vI (nI k)] μ = _ := hq
          simp -implicitDefEqProofs only [u_152_0, u_152_2, u_152_3, u_152_4, u_152_5, u_152_6, u_152_7, u_152_8, u_152_10, u_152_11, e_iload_n, e_iload, e_lload_n, e_lload, e_aload_n, e_aload, e_istore_n, e_istore, e_astore_n, e_astore, e_lstore_n, e_lstore, e_iinc, e_iconst, e_bipush, e_sipush, e_ldc_w, e_ldc, e_ldcS, e_lconst, e_ldc2_w, e_iadd, e_isub, e_imul, e_iand, e_ixor, e_ishl, e_ishr, e_iushr, e_idiv, e_irem, e_ineg, e_i2b, e_i2s, e_i2c, e_ladd, e_lsub, e_lmul, e_land, e_lor, e_ldiv, e_lrem, e_lneg, e_lshl, e_lshr, e_lushr, e_i2l, e_l2i, e_lcmp, e_dupI, e_dupA, e_dup2, e_getI, e_getA, e_putI, e_putZ, e_getstatic, e_iaload, e_iastore, e_aaload10, e_alen10, e_aaload11, e_alen11, e_aaload12, e_alen12, e_aaload13, e_alen13, e_alen, e_invokevirtual, e_invokevirtualB, e_invokestatic, e_invokestaticB, ct_0, ct_i, ct_a, ct_l, os_0, os_s, rc_0, rc_s, sl_0, sl_i, sl_a, sl_l, simprocAttr, ix, z_em, up_eq, up_j, Nat.le_refl, true_or, or_true, true_and, and_true, and_self, or_self, beq_self_eq_true, if_true, if_false, ite_self, ca_f, ca_t, aLen, Int32.lt_iff_toInt_lt, Int32.le_iff_toInt_le, z_ite, z_iten, z_ite1, ite_not, not_true_eq_false, not_false_eq_true, false_and, and_false, false_or, or_false, b_max, b_min, b_minL, b_absL, b_ixD, b_ixH, b_copy, tk_0, tk_s, dr_0, dr_s, pu_s, pu_n, ca_0, ca_1, clr_0, clr_s, e_nop, e_goto, e_if_eq, e_if_ne, e_if_lt, e_if_ge, e_if_gt, e_if_le, e_ic_eq, e_ic_ne, e_ic_lt, e_ic_ge, e_ic_gt, e_ic_le, e_tsw, e_lsw, sw_0, sw_s, e_iret, e_zret, e_lret, e_aret, e_ret, en_0, en_n, en_i, en_a, en_l, List.getElem?_cons_zero, List.getElem?_cons_succ, List.set_cons_zero, List.set_cons_succ, len_s, List.length_nil, ne_eq, hr, nk, nR, h1, y_has hk8, if_neg q6, yo7 hk8, if_neg (Int.not_lt.mpr q1.2), hq', aR, iR, dR, if_pos bR, ← nI_succ]
        · obtain ⟨μ1, c1, c2, c3⟩ := y_comes (d := d) (μ := μ) hk8 hw4 hwe hL hW hD (by rw [← ms2]; exact hm) (by rw [← ms2]; exact q1.2)
          refine ⟨μ1, ?_, by rw [c2, ht, if_pos ⟨q1.1, Or.inl rfl, q1.2⟩, if_neg q2], c3⟩
          rw [u_152_1]
          have hq := y_isQuiet (d := d) (μ := μ) hk8
          rw [← ms2, ← ms3, ← ms4, if_neg q2] at hq
          have hq' : cl d 149 [Sum.inr (Sum.inr (8, 112)), vI (nI k)] μ = _ := hq
          have c1' : cl d 150 [Sum.inr (Sum.inr (8, 112)), vI (nI k)] μ = _ := c1
          simp -implicitDefEqProofs only [u_152_0, u_152_2, u_152_3, u_152_4, u_152_5, u_152_6, u_152_7, u_152_8, u_152_10, u_152_11, e_iload_n, e_iload, e_lload_n, e_lload, e_aload_n, e_aload, e_istore_n, e_istore, e_astore_n, e_astore, e_lstore_n, e_lstore, e_iinc, e_iconst, e_bipush, e_sipush, e_ldc_w, e_ldc, e_ldcS, e_lconst, e_ldc2_w, e_iadd, e_isub, e_imul, e_iand, e_ixor, e_ishl, e_ishr, e_iushr, e_idiv, e_irem, e_ineg, e_i2b, e_i2s, e_i2c, e_ladd, e_lsub, e_lmul, e_land, e_lor, e_ldiv, e_lrem, e_lneg, e_lshl, e_lshr, e_lushr, e_i2l, e_l2i, e_lcmp, e_dupI, e_dupA, e_dup2, e_getI, e_getA, e_putI, e_putZ, e_getstatic, e_iaload, e_iastore, e_aaload10, e_alen10, e_aaload11, e_alen11, e_aaload12, e_alen12, e_aaload13, e_alen13, e_alen, e_invokevirtual, e_invokevirtualB, e_invokestatic, e_invokestaticB, ct_0, ct_i, ct_a, ct_l, os_0, os_s, rc_0, rc_s, sl_0, sl_i, sl_a, sl_l, simprocAttr, ix, z_em, up_eq, up_j, Nat.le_refl, true_or, or_true, true_and, and_true, and_self, or_self, beq_self_eq_true, if_true, if_false, ite_self, ca_f, ca_t, aLen, Int32.lt_iff_toInt_lt, Int32.le_iff_toInt_le, z_ite, z_iten, z_ite1, ite_not, not_true_eq_false, not_false_eq_true, false_and, and_false, false_or, or_false, b_max, b_min, b_minL, b_absL, b_ixD, b_ixH, b_copy, tk_0, tk_s, dr_0, dr_s, pu_s, pu_n, ca_0, ca_1, clr_0, clr_s, e_nop, e_goto, e_if_eq, e_if_ne, e_if_lt, e_if_ge, e_if_gt, e_if_le, e_ic_eq, e_ic_ne, e_ic_lt, e_ic_ge, e_ic_gt, e_ic_le, e_tsw, e_lsw, sw_0, sw_s, e_iret, e_zret, e_lret, e_aret, e_ret, en_0, en_n, en_i, en_a, en_l, List.getElem?_cons_zero, List.getElem?_cons_succ, List.set_cons_zero, List.set_cons_succ, len_s, List.length_nil, ne_eq, hr, nk, nR, h1, y_has hk8, if_neg q6, yo7 hk8, if_neg (Int.not_lt.mpr q1.2), hq', c1', ← nI_succ]
      · refine ⟨μ, ?_, by rw [if_neg (fun q => q1 ⟨q.1, q.2.2⟩)], FrM.rf⟩
        rw [u_152_1]
        by_cases q6 : vM 113 μ (10 + k) 6 = 1
        · simp -implicitDefEqProofs only [u_152_0, u_152_2, u_152_3, u_152_4, u_152_5, u_152_6, u_152_7, u_152_8, u_152_10, u_152_11, e_iload_n, e_iload, e_lload_n, e_lload, e_aload_n, e_aload, e_istore_n, e_istore, e_astore_n, e_astore, e_lstore_n, e_lstore, e_iinc, e_iconst, e_bipush, e_sipush, e_ldc_w, e_ldc, e_ldcS, e_lconst, e_ldc2_w, e_iadd, e_isub, e_imul, e_iand, e_ixor, e_ishl, e_ishr, e_iushr, e_idiv, e_irem, e_ineg, e_i2b, e_i2s, e_i2c, e_ladd, e_lsub, e_lmul, e_land, e_lor, e_ldiv, e_lrem, e_lneg, e_lshl, e_lshr, e_lushr, e_i2l, e_l2i, e_lcmp, e_dupI, e_dupA, e_dup2, e_getI, e_getA, e_putI, e_putZ, e_getstatic, e_iaload, e_iastore, e_aaload10, e_alen10, e_aaload11, e_alen11, e_aaload12, e_alen12, e_aaload13, e_alen13, e_alen, e_invokevirtual, e_invokevirtualB, e_invokestatic, e_invokestaticB, ct_0, ct_i, ct_a, ct_l, os_0, os_s, rc_0, rc_s, sl_0, sl_i, sl_a, sl_l, simprocAttr, ix, z_em, up_eq, up_j, Nat.le_refl, true_or, or_true, true_and, and_true, and_self, or_self, beq_self_eq_true, if_true, if_false, ite_self, ca_f, ca_t, aLen, Int32.lt_iff_toInt_lt, Int32.le_iff_toInt_le, z_ite, z_iten, z_ite1, ite_not, not_true_eq_false, not_false_eq_true, false_and, and_false, false_or, or_false, b_max, b_min, b_minL, b_absL, b_ixD, b_ixH, b_copy, tk_0, tk_s, dr_0, dr_s, pu_s, pu_n, ca_0, ca_1, clr_0, clr_s, e_nop, e_goto, e_if_eq, e_if_ne, e_if_lt, e_if_ge, e_if_gt, e_if_le, e_ic_eq, e_ic_ne, e_ic_lt, e_ic_ge, e_ic_gt, e_ic_le, e_tsw, e_lsw, sw_0, sw_s, e_iret, e_zret, e_lret, e_aret, e_ret, en_0, en_n, en_i, en_a, en_l, List.getElem?_cons_zero, List.getElem?_cons_succ, List.set_cons_zero, List.set_cons_succ, len_s, List.length_nil, ne_eq, hr, nk, nR, h1, y_has hk8, if_pos q6, ← nI_succ]
        · have q60 : vM 113 μ (10 + k) 6 = 0 := by
            have hn : ¬ (vM 113 μ (10 + k) 6).toInt = 1 := fun q => q6 (Int32.toInt_inj.mp q)
            exact Int32.toInt_inj.mp (by have z : (0 : Int32).toInt = 0 := rfl; omega)
          have q7 : (μ 113 2).toInt < (vM 113 μ (10 + k) 7).toInt := Int.not_le.mp (fun q => q1 ⟨q60, q⟩)
          simp -implicitDefEqProofs only [u_152_0, u_152_2, u_152_3, u_152_4, u_152_5, u_152_6, u_152_7, u_152_8, u_152_10, u_152_11, e_iload_n, e_iload, e_lload_n, e_lload, e_aload_n, e_aload, e_istore_n, e_istore, e_astore_n, e_astore, e_lstore_n, e_lstore, e_iinc, e_iconst, e_bipush, e_sipush, e_ldc_w, e_ldc, e_ldcS, e_lconst, e_ldc2_w, e_iadd, e_isub, e_imul, e_iand, e_ixor, e_ishl, e_ishr, e_iushr, e_idiv, e_irem, e_ineg, e_i2b, e_i2s, e_i2c, e_ladd, e_lsub, e_lmul, e_land, e_lor, e_ldiv, e_lrem, e_lneg, e_lshl, e_lshr, e_lushr, e_i2l, e_l2i, e_lcmp, e_dupI, e_dupA, e_dup2, e_getI, e_getA, e_putI, e_putZ, e_getstatic, e_iaload, e_iastore, e_aaload10, e_alen10, e_aaload11, e_alen11, e_aaload12, e_alen12, e_aaload13, e_alen13, e_alen, e_invokevirtual, e_invokevirtualB, e_invokestatic, e_invokestaticB, ct_0, ct_i, ct_a, ct_l, os_0, os_s, rc_0, rc_s, sl_0, sl_i, sl_a, sl_l, simprocAttr, ix, z_em, up_eq, up_j, Nat.le_refl, true_or, or_true, true_and, and_true, and_self, or_self, beq_self_eq_true, if_true, if_false, ite_self, ca_f, ca_t, aLen, Int32.lt_iff_toInt_lt, Int32.le_iff_toInt_le, z_ite, z_iten, z_ite1, ite_not, not_true_eq_false, not_false_eq_true, false_and, and_false, false_or, or_false, b_max, b_min, b_minL, b_absL, b_ixD, b_ixH, b_copy, tk_0, tk_s, dr_0, dr_s, pu_s, pu_n, ca_0, ca_1, clr_0, clr_s, e_nop, e_goto, e_if_eq, e_if_ne, e_if_lt, e_if_ge, e_if_gt, e_if_le, e_ic_eq, e_ic_ne, e_ic_lt, e_ic_ge, e_ic_gt, e_ic_le, e_tsw, e_lsw, sw_0, sw_s, e_iret, e_zret, e_lret, e_aret, e_ret, en_0, en_n, en_i, en_a, en_l, List.getElem?_cons_zero, List.getElem?_cons_succ, List.set_cons_zero, List.set_cons_succ, len_s, List.length_nil, ne_eq, hr, nk, nR, h1, y_has hk8, if_neg q6, yo7 hk8, if_pos q7, ← nI_succ]
    obtain ⟨μ1, k1, k2, k3⟩ := key
    have hs1 : ∀ k', ¬ k' = 5 → vM 113 μ1 0 k' = vM 113 μ 0 k' := fun k' h => by rw [k2]; exact rs_sm h
    obtain ⟨μ', i1, i2, i3, i4, i5⟩ := ih (k + 1) μ1 (by omega) (by rw [ms1 (m := 113) (μ := μ1), hs1 1 (by decide), ← ms1]; exact hr) (k3.lw hL) (by rw [k2]; exact hW1) (by rw [k2]; exact hD1) (by rw [ms2 (m := 113) (μ := μ1), hs1 2 (by decide), ← ms2]; exact hm) (by rw [k3.tx]; exact ht) (by rw [k2, hS])
    exact ⟨μ', k1.trans i1, i2, i3, k3.tr i4, fun k' h => (i5 k' h).trans (hs1 k' h)⟩
theorem k_works {d N : Nat} {tx : TX} {V0 : Mem} (hN : N ≤ 4) : ∀ n k μ, k + n = N → μ 113 0 = nI N → LWM μ → WFV (vM 113 μ) → (μ 113 2).toInt ≤ 15000 → txM μ = tx → vM 113 μ = itN (wrkP tx (-1)) k V0 → ∃ μ', res d 152 9 [some (vR 8 112), some (vI (nI k))] [] μ = some (none, μ') ∧ vM 113 μ' = up (itN (wrkP tx (-1)) N V0) 0 2 (μ 113 2 + 1) ∧ FrM μ μ' := by
  intro n
  induction n with
  | zero =>
    intro k μ hk hr hL hW hm ht hv
    have hk : k = N := by omega
    subst hk
    refine ⟨up μ 113 2 (μ 113 2 + 1), ?_, by rw [ums2, hv], FrM.rf.up (by omega)⟩
    rw [u_152_9]
    simp -implicitDefEqProofs only [u_152_0, u_152_2, u_152_3, u_152_4, u_152_5, u_152_6, u_152_7, u_152_8, u_152_10, u_152_11, e_iload_n, e_iload, e_lload_n, e_lload, e_aload_n, e_aload, e_istore_n, e_istore, e_astore_n, e_astore, e_lstore_n, e_lstore, e_iinc, e_iconst, e_bipush, e_sipush, e_ldc_w, e_ldc, e_ldcS, e_lconst, e_ldc2_w, e_iadd, e_isub, e_imul, e_iand, e_ixor, e_ishl, e_ishr, e_iushr, e_idiv, e_irem, e_ineg, e_i2b, e_i2s, e_i2c, e_ladd, e_lsub, e_lmul, e_land, e_lor, e_ldiv, e_lrem, e_lneg, e_lshl, e_lshr, e_lushr, e_i2l, e_l2i, e_lcmp, e_dupI, e_dupA, e_dup2, e_getI, e_getA, e_putI, e_putZ, e_getstatic, e_iaload, e_iastore, e_aaload10, e_alen10, e_aaload11, e_alen11, e_aaload12, e_alen12, e_aaload13, e_alen13, e_alen, e_invokevirtual, e_invokevirtualB, e_invokestatic, e_invokestaticB, ct_0, ct_i, ct_a, ct_l, os_0, os_s, rc_0, rc_s, sl_0, sl_i, sl_a, sl_l, simprocAttr, ix, z_em, up_eq, up_j, Nat.le_refl, true_or, or_true, true_and, and_true, and_self, or_self, beq_self_eq_true, if_true, if_false, ite_self, ca_f, ca_t, aLen, Int32.lt_iff_toInt_lt, Int32.le_iff_toInt_le, z_ite, z_iten, z_ite1, ite_not, not_true_eq_false, not_false_eq_true, false_and, and_false, false_or, or_false, b_max, b_min, b_minL, b_absL, b_ixD, b_ixH, b_copy, tk_0, tk_s, dr_0, dr_s, pu_s, pu_n, ca_0, ca_1, clr_0, clr_s, e_nop, e_goto, e_if_eq, e_if_ne, e_if_lt, e_if_ge, e_if_gt, e_if_le, e_ic_eq, e_ic_ne, e_ic_lt, e_ic_ge, e_ic_gt, e_ic_le, e_tsw, e_lsw, sw_0, sw_s, e_iret, e_zret, e_lret, e_aret, e_ret, en_0, en_n, en_i, en_a, en_l, List.getElem?_cons_zero, List.getElem?_cons_succ, List.set_cons_zero, List.set_cons_succ, len_s, List.length_nil, ne_eq, hr, nI_toInt (show k < 2147483648 by omega), Int.lt_irrefl]
  | succ n ih =>
    intro k μ hk hr hL hW hm ht hv
    have h1 : ((k : Nat) : Int) < (N : Int) := by omega
    have hk4 : k < 4 := by omega
    have nk : (nI k).toInt = k := nI_toInt (by omega)
    have nR : (nI N).toInt = N := nI_toInt (by omega)
    have hS : itN (wrkP tx (-1)) (k + 1) V0 = workP tx (vM 113 μ) k := by
      rw [hv]
      show wrkP tx (-1) _ k = _
      exact if_pos (Or.inl rfl)
    have hWw : WFV (workP tx (vM 113 μ) k) := wf_work hW hk4 (by rw [← ms2]; exact hm)
    obtain ⟨μ1, c1, c2, c3⟩ := y_works (d := d) (μ := μ) hk4 hL hW (by rw [← ms2]; exact hm)
    have c1' : cl d 151 [Sum.inr (Sum.inr (8, 112)), vI (nI k)] μ = _ := c1
    rw [ht] at c2
    have hs1 : ∀ k', vM 113 μ1 0 k' = vM 113 μ 0 k' := fun k' => by rw [c2]; exact wk_sm
    obtain ⟨μ', i1, i2, i3⟩ := ih (k + 1) μ1 (by omega) (by rw [ms0 (m := 113) (μ := μ1), hs1 0, ← ms0]; exact hr) (c3.lw hL) (by rw [c2]; exact hWw) (by rw [ms2 (m := 113) (μ := μ1), hs1 2, ← ms2]; exact hm) (by rw [c3.tx]; exact ht) (by rw [c2, hS])
    refine ⟨μ', ?_, ?_, c3.tr i3⟩
    · rw [← i1, u_152_9]
      simp -implicitDefEqProofs only [u_152_0, u_152_2, u_152_3, u_152_4, u_152_5, u_152_6, u_152_7, u_152_8, u_152_10, u_152_11, e_iload_n, e_iload, e_lload_n, e_lload, e_aload_n, e_aload, e_istore_n, e_istore, e_astore_n, e_astore, e_lstore_n, e_lstore, e_iinc, e_iconst, e_bipush, e_sipush, e_ldc_w, e_ldc, e_ldcS, e_lconst, e_ldc2_w, e_iadd, e_isub, e_imul, e_iand, e_ixor, e_ishl, e_ishr, e_iushr, e_idiv, e_irem, e_ineg, e_i2b, e_i2s, e_i2c, e_ladd, e_lsub, e_lmul, e_land, e_lor, e_ldiv, e_lrem, e_lneg, e_lshl, e_lshr, e_lushr, e_i2l, e_l2i, e_lcmp, e_dupI, e_dupA, e_dup2, e_getI, e_getA, e_putI, e_putZ, e_getstatic, e_iaload, e_iastore, e_aaload10, e_alen10, e_aaload11, e_alen11, e_aaload12, e_alen12, e_aaload13, e_alen13, e_alen, e_invokevirtual, e_invokevirtualB, e_invokestatic, e_invokestaticB, ct_0, ct_i, ct_a, ct_l, os_0, os_s, rc_0, rc_s, sl_0, sl_i, sl_a, sl_l, simprocAttr, ix, z_em, up_eq, up_j, Nat.le_refl, true_or, or_true, true_and, and_true, and_self, or_self, beq_self_eq_true, if_true, if_false, ite_self, ca_f, ca_t, aLen, Int32.lt_iff_toInt_lt, Int32.le_iff_toInt_le, z_ite, z_iten, z_ite1, ite_not, not_true_eq_false, not_false_eq_true, false_and, and_false, false_or, or_false, b_max, b_min, b_minL, b_absL, b_ixD, b_ixH, b_copy, tk_0, tk_s, dr_0, dr_s, pu_s, pu_n, ca_0, ca_1, clr_0, clr_s, e_nop, e_goto, e_if_eq, e_if_ne, e_if_lt, e_if_ge, e_if_gt, e_if_le, e_ic_eq, e_ic_ne, e_ic_lt, e_ic_ge, e_ic_gt, e_ic_le, e_tsw, e_lsw, sw_0, sw_s, e_iret, e_zret, e_lret, e_aret, e_ret, en_0, en_n, en_i, en_a, en_l, List.getElem?_cons_zero, List.getElem?_cons_succ, List.set_cons_zero, List.set_cons_succ, len_s, List.length_nil, ne_eq, hr, nk, nR, h1, c1', ← nI_succ]
    · rw [i2, ms2 (m := 113) (μ := μ1), hs1 2, ← ms2]
theorem y_minute {d : Nat} {μ : Mem} (hL : LWM μ) (hW : WFV (vM 113 μ)) (hD : WFD (vM 113 μ)) (hm : (vM 113 μ 0 2).toInt ≤ 15000) : ∃ μ', cl d 152 [vR 8 112] μ = some (none, μ') ∧ vM 113 μ' = minP (mn 99999) (txM μ) (-1) (vM 113 μ) ∧ FrM μ μ' := by
  have g1 := gs1 hW
  have g0 := gs0 hW
  have e1 : (vM 113 μ 0 1).toNatClampNeg = (vM 113 μ 0 1).toInt.toNat := rfl
  have e0 : (vM 113 μ 0 0).toNatClampNeg = (vM 113 μ 0 0).toInt.toNat := rfl
  obtain ⟨μ1, a1, a2, a3, a4, a5⟩ := k_rests (d := d) (R := (vM 113 μ 0 1).toNatClampNeg) (tx := txM μ) (V0 := vM 113 μ) (by omega) (vM 113 μ 0 1).toNatClampNeg 0 μ (by omega) (by rw [nI_ix g1.1]; exact ms1) hL hW hD (by rw [ms2 (m := 113) (μ := μ)]; exact hm) rfl rfl
  have h01 : vM 113 μ1 0 0 = vM 113 μ 0 0 := a5 0 (by decide)
  have h21 : vM 113 μ1 0 2 = vM 113 μ 0 2 := a5 2 (by decide)
  obtain ⟨μ2, b1, b2, b4⟩ := k_works (d := d) (N := (vM 113 μ 0 0).toNatClampNeg) (tx := txM μ) (V0 := vM 113 μ1) (by omega) (vM 113 μ 0 0).toNatClampNeg 0 μ1 (by omega) (by rw [nI_ix g0.1, ← h01]; exact ms0) (a4.lw hL) a3.1 (by rw [ms2 (m := 113) (μ := μ1), h21]; exact hm) a4.tx rfl
  refine ⟨μ2, ?_, ?_, a4.tr b4⟩
  · have z : (vI 0 : AV) = vI (nI 0) := rfl
    rw [z] at a1
    rw [b1] at a1
    rw [← a1]
    simp -implicitDefEqProofs only [cl_152, u_152_0, e_iload_n, e_iload, e_lload_n, e_lload, e_aload_n, e_aload, e_istore_n, e_istore, e_astore_n, e_astore, e_lstore_n, e_lstore, e_iinc, e_iconst, e_bipush, e_sipush, e_ldc_w, e_ldc, e_ldcS, e_lconst, e_ldc2_w, e_iadd, e_isub, e_imul, e_iand, e_ixor, e_ishl, e_ishr, e_iushr, e_idiv, e_irem, e_ineg, e_i2b, e_i2s, e_i2c, e_ladd, e_lsub, e_lmul, e_land, e_lor, e_ldiv, e_lrem, e_lneg, e_lshl, e_lshr, e_lushr, e_i2l, e_l2i, e_lcmp, e_dupI, e_dupA, e_dup2, e_getI, e_getA, e_putI, e_putZ, e_getstatic, e_iaload, e_iastore, e_aaload10, e_alen10, e_aaload11, e_alen11, e_aaload12, e_alen12, e_aaload13, e_alen13, e_alen, e_invokevirtual, e_invokevirtualB, e_invokestatic, e_invokestaticB, ct_0, ct_i, ct_a, ct_l, os_0, os_s, rc_0, rc_s, sl_0, sl_i, sl_a, sl_l, simprocAttr, ix, z_em, up_eq, up_j, Nat.le_refl, true_or, or_true, true_and, and_true, and_self, or_self, beq_self_eq_true, if_true, if_false, ite_self, ca_f, ca_t, aLen, Int32.lt_iff_toInt_lt, Int32.le_iff_toInt_le, z_ite, z_iten, z_ite1, ite_not, not_true_eq_false, not_false_eq_true, false_and, and_false, false_or, or_false, b_max, b_min, b_minL, b_absL, b_ixD, b_ixH, b_copy, tk_0, tk_s, dr_0, dr_s, pu_s, pu_n, ca_0, ca_1, clr_0, clr_s, e_nop, e_goto, e_if_eq, e_if_ne, e_if_lt, e_if_ge, e_if_gt, e_if_le, e_ic_eq, e_ic_ne, e_ic_lt, e_ic_ge, e_ic_gt, e_ic_le, e_tsw, e_lsw, sw_0, sw_s, e_iret, e_zret, e_lret, e_aret, e_ret, en_0, en_n, en_i, en_a, en_l, List.getElem?_cons_zero, List.getElem?_cons_succ, List.set_cons_zero, List.set_cons_succ, len_s, List.length_nil]
    rfl
  · rw [b2]
    unfold minP
    simp only []
    have ew : worksP (txM μ) (-1) (restsP (mn 99999) (txM μ) (-1) (vM 113 μ)) 0 2 = vM 113 μ 0 2 := by rw [wks_sm, rss_sm (by decide)]
    rw [ew]
    have er : restsP (mn 99999) (txM μ) (-1) (vM 113 μ) = vM 113 μ1 := a2.symm
    rw [er, ms2 (m := 113) (μ := μ1), h21]
    unfold worksP
    rw [h01]
theorem k_go {d N : Nat} {tx : TX} {V0 : Mem} (hN : N ≤ 10000) (h0 : WFV V0) (hD : WFD V0) (hm : (V0 0 2).toInt + N ≤ 15001) : ∀ n k μ, k + n = N → LWM μ → txM μ = tx → vM 113 μ = timesP (minP (mn 99999) tx (-1)) k V0 → ∃ μ', res d 153 1 [some (vR 8 112), some (vI (nI N)), some (vI (nI k))] [] μ = some (none, μ') ∧ vM 113 μ' = timesP (minP (mn 99999) tx (-1)) N V0 ∧ FrM μ μ' := by
  intro n
  induction n with
  | zero =>
    intro k μ hk hL ht hv
    have hk : k = N := by omega
    subst hk
    refine ⟨μ, ?_, hv, FrM.rf⟩
    rw [u_153_1]
    simp -implicitDefEqProofs only [u_153_0, u_153_2, u_153_3, e_iload_n, e_iload, e_lload_n, e_lload, e_aload_n, e_aload, e_istore_n, e_istore, e_astore_n, e_astore, e_lstore_n, e_lstore, e_iinc, e_iconst, e_bipush, e_sipush, e_ldc_w, e_ldc, e_ldcS, e_lconst, e_ldc2_w, e_iadd, e_isub, e_imul, e_iand, e_ixor, e_ishl, e_ishr, e_iushr, e_idiv, e_irem, e_ineg, e_i2b, e_i2s, e_i2c, e_ladd, e_lsub, e_lmul, e_land, e_lor, e_ldiv, e_lrem, e_lneg, e_lshl, e_lshr, e_lushr, e_i2l, e_l2i, e_lcmp, e_dupI, e_dupA, e_dup2, e_getI, e_getA, e_putI, e_putZ, e_getstatic, e_iaload, e_iastore, e_aaload10, e_alen10, e_aaload11, e_alen11, e_aaload12, e_alen12, e_aaload13, e_alen13, e_alen, e_invokevirtual, e_invokevirtualB, e_invokestatic, e_invokestaticB, ct_0, ct_i, ct_a, ct_l, os_0, os_s, rc_0, rc_s, sl_0, sl_i, sl_a, sl_l, simprocAttr, ix, z_em, up_eq, up_j, Nat.le_refl, true_or, or_true, true_and, and_true, and_self, or_self, beq_self_eq_true, if_true, if_false, ite_self, ca_f, ca_t, aLen, Int32.lt_iff_toInt_lt, Int32.le_iff_toInt_le, z_ite, z_iten, z_ite1, ite_not, not_true_eq_false, not_false_eq_true, false_and, and_false, false_or, or_false, b_max, b_min, b_minL, b_absL, b_ixD, b_ixH, b_copy, tk_0, tk_s, dr_0, dr_s, pu_s, pu_n, ca_0, ca_1, clr_0, clr_s, e_nop, e_goto, e_if_eq, e_if_ne, e_if_lt, e_if_ge, e_if_gt, e_if_le, e_ic_eq, e_ic_ne, e_ic_lt, e_ic_ge, e_ic_gt, e_ic_le, e_tsw, e_lsw, sw_0, sw_s, e_iret, e_zret, e_lret, e_aret, e_ret, en_0, en_n, en_i, en_a, en_l, List.getElem?_cons_zero, List.getElem?_cons_succ, List.set_cons_zero, List.set_cons_succ, len_s, List.length_nil, ne_eq, Int.lt_irrefl]
  | succ n ih =>
    intro k μ hk hL ht hv
    have h1 : ((k : Nat) : Int) < (N : Int) := by omega
    have nk : (nI k).toInt = k := nI_toInt (by omega)
    have nR : (nI N).toInt = N := nI_toInt (by omega)
    obtain ⟨w1, w2, w3⟩ := tm_keep (tx := tx) (only := -1) h0 k (by omega)
    have w4 := td_keep (tx := tx) (only := -1) h0 hD k (by omega)
    rw [← hv] at w1 w2 w4
    obtain ⟨μ1, a1, a2, a3⟩ := y_minute (d := d) (μ := μ) hL w1 w4 (by omega)
    have a1' : cl d 152 [Sum.inr (Sum.inr (8, 112))] μ = _ := a1
    obtain ⟨μ2, b1, b2, b3⟩ := ih (k + 1) μ1 (by omega) (a3.lw hL) (a3.tx.trans ht) (by rw [a2, ht, hv]; rfl)
    refine ⟨μ2, ?_, b2, a3.tr b3⟩
    rw [← b1, u_153_1]
    simp -implicitDefEqProofs only [u_153_0, u_153_2, u_153_3, e_iload_n, e_iload, e_lload_n, e_lload, e_aload_n, e_aload, e_istore_n, e_istore, e_astore_n, e_astore, e_lstore_n, e_lstore, e_iinc, e_iconst, e_bipush, e_sipush, e_ldc_w, e_ldc, e_ldcS, e_lconst, e_ldc2_w, e_iadd, e_isub, e_imul, e_iand, e_ixor, e_ishl, e_ishr, e_iushr, e_idiv, e_irem, e_ineg, e_i2b, e_i2s, e_i2c, e_ladd, e_lsub, e_lmul, e_land, e_lor, e_ldiv, e_lrem, e_lneg, e_lshl, e_lshr, e_lushr, e_i2l, e_l2i, e_lcmp, e_dupI, e_dupA, e_dup2, e_getI, e_getA, e_putI, e_putZ, e_getstatic, e_iaload, e_iastore, e_aaload10, e_alen10, e_aaload11, e_alen11, e_aaload12, e_alen12, e_aaload13, e_alen13, e_alen, e_invokevirtual, e_invokevirtualB, e_invokestatic, e_invokestaticB, ct_0, ct_i, ct_a, ct_l, os_0, os_s, rc_0, rc_s, sl_0, sl_i, sl_a, sl_l, simprocAttr, ix, z_em, up_eq, up_j, Nat.le_refl, true_or, or_true, true_and, and_true, and_self, or_self, beq_self_eq_true, if_true, if_false, ite_self, ca_f, ca_t, aLen, Int32.lt_iff_toInt_lt, Int32.le_iff_toInt_le, z_ite, z_iten, z_ite1, ite_not, not_true_eq_false, not_false_eq_true, false_and, and_false, false_or, or_false, b_max, b_min, b_minL, b_absL, b_ixD, b_ixH, b_copy, tk_0, tk_s, dr_0, dr_s, pu_s, pu_n, ca_0, ca_1, clr_0, clr_s, e_nop, e_goto, e_if_eq, e_if_ne, e_if_lt, e_if_ge, e_if_gt, e_if_le, e_ic_eq, e_ic_ne, e_ic_lt, e_ic_ge, e_ic_gt, e_ic_le, e_tsw, e_lsw, sw_0, sw_s, e_iret, e_zret, e_lret, e_aret, e_ret, en_0, en_n, en_i, en_a, en_l, List.getElem?_cons_zero, List.getElem?_cons_succ, List.set_cons_zero, List.set_cons_succ, len_s, List.length_nil, ne_eq, nk, nR, h1, a1', ← nI_succ]
theorem y_go {d : Nat} {n : Int32} {μ : Mem} (hL : LWM μ) (hW : WFV (vM 113 μ)) (hD : WFD (vM 113 μ)) (h0 : 0 ≤ n.toInt ∧ n.toInt ≤ 10000) (hm : (vM 113 μ 0 2).toInt + n.toInt ≤ 15001) : ∃ μ', cl d 153 [vR 8 112, vI n] μ = some (none, μ') ∧ vM 113 μ' = timesP (minP (mn 99999) (txM μ) (-1)) n.toNatClampNeg (vM 113 μ) ∧ FrM μ μ' := by
  have e0 : n.toNatClampNeg = n.toInt.toNat := rfl
  obtain ⟨μ1, a1, a2, a3⟩ := k_go (d := d) (N := n.toNatClampNeg) (tx := txM μ) (V0 := vM 113 μ) (by omega) hW hD (by omega) n.toNatClampNeg 0 μ (by omega) hL rfl rfl
  refine ⟨μ1, ?_, a2, a3⟩
  rw [nI_ix h0.1] at a1
  rw [← a1]
  simp -implicitDefEqProofs only [cl_153, u_153_0, e_iload_n, e_iload, e_lload_n, e_lload, e_aload_n, e_aload, e_istore_n, e_istore, e_astore_n, e_astore, e_lstore_n, e_lstore, e_iinc, e_iconst, e_bipush, e_sipush, e_ldc_w, e_ldc, e_ldcS, e_lconst, e_ldc2_w, e_iadd, e_isub, e_imul, e_iand, e_ixor, e_ishl, e_ishr, e_iushr, e_idiv, e_irem, e_ineg, e_i2b, e_i2s, e_i2c, e_ladd, e_lsub, e_lmul, e_land, e_lor, e_ldiv, e_lrem, e_lneg, e_lshl, e_lshr, e_lushr, e_i2l, e_l2i, e_lcmp, e_dupI, e_dupA, e_dup2, e_getI, e_getA, e_putI, e_putZ, e_getstatic, e_iaload, e_iastore, e_aaload10, e_alen10, e_aaload11, e_alen11, e_aaload12, e_alen12, e_aaload13, e_alen13, e_alen, e_invokevirtual, e_invokevirtualB, e_invokestatic, e_invokestaticB, ct_0, ct_i, ct_a, ct_l, os_0, os_s, rc_0, rc_s, sl_0, sl_i, sl_a, sl_l, simprocAttr, ix, z_em, up_eq, up_j, Nat.le_refl, true_or, or_true, true_and, and_true, and_self, or_self, beq_self_eq_true, if_true, if_false, ite_self, ca_f, ca_t, aLen, Int32.lt_iff_toInt_lt, Int32.le_iff_toInt_le, z_ite, z_iten, z_ite1, ite_not, not_true_eq_false, not_false_eq_true, false_and, and_false, false_or, or_false, b_max, b_min, b_minL, b_absL, b_ixD, b_ixH, b_copy, tk_0, tk_s, dr_0, dr_s, pu_s, pu_n, ca_0, ca_1, clr_0, clr_s, e_nop, e_goto, e_if_eq, e_if_ne, e_if_lt, e_if_ge, e_if_gt, e_if_le, e_ic_eq, e_ic_ne, e_ic_lt, e_ic_ge, e_ic_gt, e_ic_le, e_tsw, e_lsw, sw_0, sw_s, e_iret, e_zret, e_lret, e_aret, e_ret, en_0, en_n, en_i, en_a, en_l, List.getElem?_cons_zero, List.getElem?_cons_succ, List.set_cons_zero, List.set_cons_succ, len_s, List.length_nil]
  rfl
