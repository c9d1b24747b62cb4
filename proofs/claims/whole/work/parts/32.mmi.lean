/-! THE MODEL'S MINUTE. -/
theorem held_mn {h v : Int32} (hv : 0 ≤ v.toInt) : heldP v 0 h = mn h v := by
  have z : (0 : Int32).toInt = 0 := rfl
  unfold heldP mn
  rw [if_neg (by omega)]
  by_cases q : h.toInt < v.toInt
  · rw [if_pos q, if_neg (by omega)]
  · rw [if_neg q]
    by_cases q2 : v.toInt < h.toInt
    · rw [if_pos q2]
    · rw [if_neg q2]
      exact Int32.toInt_inj.mp (by omega)
theorem y_sinks {d w : Nat} {x : Int32} {μ : Mem} (hw : w < 4) : cl d 148 [vR 8 112, vI (nI w), vI x] μ = some (none, up (up μ 113 (10 + 24 * w + 6) (heldP (vM 113 μ (1 + w) 6 + vM 113 μ (1 + w) 0 - x) 0 99999)) 113 (10 + 24 * w + 0) x) := by
  simp -implicitDefEqProofs only [cl_148, u_148_0, e_iload_n, e_iload, e_lload_n, e_lload, e_aload_n, e_aload, e_istore_n, e_istore, e_astore_n, e_astore, e_lstore_n, e_lstore, e_iinc, e_iconst, e_bipush, e_sipush, e_ldc_w, e_ldc, e_ldcS, e_lconst, e_ldc2_w, e_iadd, e_isub, e_imul, e_iand, e_ixor, e_ishl, e_ishr, e_iushr, e_idiv, e_irem, e_ineg, e_i2b, e_i2s, e_i2c, e_ladd, e_lsub, e_lmul, e_land, e_lor, e_ldiv, e_lrem, e_lneg, e_lshl, e_lshr, e_lushr, e_i2l, e_l2i, e_lcmp, e_dupI, e_dupA, e_dup2, e_getI, e_getA, e_putI, e_putZ, e_getstatic, e_iaload, e_iastore, e_aaload10, e_alen10, e_aaload11, e_alen11, e_aaload12, e_alen12, e_aaload13, e_alen13, e_alen, e_invokevirtual, e_invokevirtualB, e_invokestatic, e_invokestaticB, ct_0, ct_i, ct_a, ct_l, os_0, os_s, rc_0, rc_s, sl_0, sl_i, sl_a, sl_l, simprocAttr, ix, z_em, up_eq, up_j, Nat.le_refl, true_or, or_true, true_and, and_true, and_self, or_self, beq_self_eq_true, if_true, if_false, ite_self, ca_f, ca_t, aLen, Int32.lt_iff_toInt_lt, Int32.le_iff_toInt_le, z_ite, z_iten, z_ite1, ite_not, not_true_eq_false, not_false_eq_true, false_and, and_false, false_or, or_false, b_max, b_min, b_minL, b_absL, b_ixD, b_ixH, b_copy, tk_0, tk_s, dr_0, dr_s, pu_s, pu_n, ca_0, ca_1, clr_0, clr_s, e_nop, e_goto, e_if_eq, e_if_ne, e_if_lt, e_if_ge, e_if_gt, e_if_le, e_ic_eq, e_ic_ne, e_ic_lt, e_ic_ge, e_ic_gt, e_ic_le, e_tsw, e_lsw, sw_0, sw_s, e_iret, e_zret, e_lret, e_aret, e_ret, en_0, en_n, en_i, en_a, en_l, List.getElem?_cons_zero, List.getElem?_cons_succ, List.set_cons_zero, List.set_cons_succ, len_s, List.length_nil, ne_eq, yi0 hw, yi6 hw, yl6 hw, yl0 hw, x_held]
theorem y_hasText0 {d : Nat} {μ : Mem} : cl d 140 [vR 8 112, vI 0] μ = some (some (vI (if (μ 113 170).toInt ≤ 0 then 0 else 1)), μ) := by
  simp -implicitDefEqProofs only [cl_140, u_140_0, u_140_1, u_140_2, u_140_3, e_iload_n, e_iload, e_lload_n, e_lload, e_aload_n, e_aload, e_istore_n, e_istore, e_astore_n, e_astore, e_lstore_n, e_lstore, e_iinc, e_iconst, e_bipush, e_sipush, e_ldc_w, e_ldc, e_ldcS, e_lconst, e_ldc2_w, e_iadd, e_isub, e_imul, e_iand, e_ixor, e_ishl, e_ishr, e_iushr, e_idiv, e_irem, e_ineg, e_i2b, e_i2s, e_i2c, e_ladd, e_lsub, e_lmul, e_land, e_lor, e_ldiv, e_lrem, e_lneg, e_lshl, e_lshr, e_lushr, e_i2l, e_l2i, e_lcmp, e_dupI, e_dupA, e_dup2, e_getI, e_getA, e_putI, e_putZ, e_getstatic, e_iaload, e_iastore, e_aaload10, e_alen10, e_aaload11, e_alen11, e_aaload12, e_alen12, e_aaload13, e_alen13, e_alen, e_invokevirtual, e_invokevirtualB, e_invokestatic, e_invokestaticB, ct_0, ct_i, ct_a, ct_l, os_0, os_s, rc_0, rc_s, sl_0, sl_i, sl_a, sl_l, simprocAttr, ix, z_em, up_eq, up_j, Nat.le_refl, true_or, or_true, true_and, and_true, and_self, or_self, beq_self_eq_true, if_true, if_false, ite_self, ca_f, ca_t, aLen, Int32.lt_iff_toInt_lt, Int32.le_iff_toInt_le, z_ite, z_iten, z_ite1, ite_not, not_true_eq_false, not_false_eq_true, false_and, and_false, false_or, or_false, b_max, b_min, b_minL, b_absL, b_ixD, b_ixH, b_copy, tk_0, tk_s, dr_0, dr_s, pu_s, pu_n, ca_0, ca_1, clr_0, clr_s, e_nop, e_goto, e_if_eq, e_if_ne, e_if_lt, e_if_ge, e_if_gt, e_if_le, e_ic_eq, e_ic_ne, e_ic_lt, e_ic_ge, e_ic_gt, e_ic_le, e_tsw, e_lsw, sw_0, sw_s, e_iret, e_zret, e_lret, e_aret, e_ret, en_0, en_n, en_i, en_a, en_l, List.getElem?_cons_zero, List.getElem?_cons_succ, List.set_cons_zero, List.set_cons_succ, len_s, List.length_nil, ne_eq]
  by_cases q : (μ 113 170).toInt ≤ 0
  · rw [if_pos q, if_neg (by omega)]
  · rw [if_neg q, if_pos (by omega)]
theorem y_hasText1 {d : Nat} {μ : Mem} : cl d 140 [vR 8 112, vI 1] μ = some (some (vI (if (μ 113 295).toInt ≤ 0 then 0 else 1)), μ) := by
  simp -implicitDefEqProofs only [cl_140, u_140_0, u_140_1, u_140_2, u_140_3, e_iload_n, e_iload, e_lload_n, e_lload, e_aload_n, e_aload, e_istore_n, e_istore, e_astore_n, e_astore, e_lstore_n, e_lstore, e_iinc, e_iconst, e_bipush, e_sipush, e_ldc_w, e_ldc, e_ldcS, e_lconst, e_ldc2_w, e_iadd, e_isub, e_imul, e_iand, e_ixor, e_ishl, e_ishr, e_iushr, e_idiv, e_irem, e_ineg, e_i2b, e_i2s, e_i2c, e_ladd, e_lsub, e_lmul, e_land, e_lor, e_ldiv, e_lrem, e_lneg, e_lshl, e_lshr, e_lushr, e_i2l, e_l2i, e_lcmp, e_dupI, e_dupA, e_dup2, e_getI, e_getA, e_putI, e_putZ, e_getstatic, e_iaload, e_iastore, e_aaload10, e_alen10, e_aaload11, e_alen11, e_aaload12, e_alen12, e_aaload13, e_alen13, e_alen, e_invokevirtual, e_invokevirtualB, e_invokestatic, e_invokestaticB, ct_0, ct_i, ct_a, ct_l, os_0, os_s, rc_0, rc_s, sl_0, sl_i, sl_a, sl_l, simprocAttr, ix, z_em, up_eq, up_j, Nat.le_refl, true_or, or_true, true_and, and_true, and_self, or_self, beq_self_eq_true, if_true, if_false, ite_self, ca_f, ca_t, aLen, Int32.lt_iff_toInt_lt, Int32.le_iff_toInt_le, z_ite, z_iten, z_ite1, ite_not, not_true_eq_false, not_false_eq_true, false_and, and_false, false_or, or_false, b_max, b_min, b_minL, b_absL, b_ixD, b_ixH, b_copy, tk_0, tk_s, dr_0, dr_s, pu_s, pu_n, ca_0, ca_1, clr_0, clr_s, e_nop, e_goto, e_if_eq, e_if_ne, e_if_lt, e_if_ge, e_if_gt, e_if_le, e_ic_eq, e_ic_ne, e_ic_lt, e_ic_ge, e_ic_gt, e_ic_le, e_tsw, e_lsw, sw_0, sw_s, e_iret, e_zret, e_lret, e_aret, e_ret, en_0, en_n, en_i, en_a, en_l, List.getElem?_cons_zero, List.getElem?_cons_succ, List.set_cons_zero, List.set_cons_succ, len_s, List.length_nil, ne_eq]
  by_cases q : (μ 113 295).toInt ≤ 0
  · rw [if_pos q, if_neg (by omega)]
  · rw [if_neg q, if_pos (by omega)]
theorem y_leaves {d r w : Nat} {μ : Mem} (hr : r < 8) (hw : w < 4) (hwe : vM 113 μ (10 + r) 2 = nI w) (hL : LWM μ) : ∃ μ', cl d 145 [vR 8 112, vI (nI r)] μ = some (some (vI ((txM μ 0 (vM 113 μ (1 + w) 0) (vM 113 μ (10 + r) 4) (vM 113 μ (1 + w) 5) (vM 113 μ (10 + r) 1)).getD (vM 113 μ (1 + w) 0 - vM 113 μ (10 + r) 4))), μ') ∧ AgN μ μ' := by
  have hv : ∀ {j : Nat} {v : Int32} {μ2 : Mem}, vM 113 (up μ2 118 j v) = vM 113 μ2 := fun {j v μ2} => vM_un (by decide)
  by_cases ht : (μ 113 170).toInt ≤ 0
  · refine ⟨μ, ?_, AgN.rf⟩
    have htx : txM μ 0 (vM 113 μ (1 + w) 0) (vM 113 μ (10 + r) 4) (vM 113 μ (1 + w) 5) (vM 113 μ (10 + r) 1) = none := if_pos ht
    rw [htx]
    simp -implicitDefEqProofs only [cl_145, u_145_0, u_145_1, u_145_2, e_iload_n, e_iload, e_lload_n, e_lload, e_aload_n, e_aload, e_istore_n, e_istore, e_astore_n, e_astore, e_lstore_n, e_lstore, e_iinc, e_iconst, e_bipush, e_sipush, e_ldc_w, e_ldc, e_ldcS, e_lconst, e_ldc2_w, e_iadd, e_isub, e_imul, e_iand, e_ixor, e_ishl, e_ishr, e_iushr, e_idiv, e_irem, e_ineg, e_i2b, e_i2s, e_i2c, e_ladd, e_lsub, e_lmul, e_land, e_lor, e_ldiv, e_lrem, e_lneg, e_lshl, e_lshr, e_lushr, e_i2l, e_l2i, e_lcmp, e_dupI, e_dupA, e_dup2, e_getI, e_getA, e_putI, e_putZ, e_getstatic, e_iaload, e_iastore, e_aaload10, e_alen10, e_aaload11, e_alen11, e_aaload12, e_alen12, e_aaload13, e_alen13, e_alen, e_invokevirtual, e_invokevirtualB, e_invokestatic, e_invokestaticB, ct_0, ct_i, ct_a, ct_l, os_0, os_s, rc_0, rc_s, sl_0, sl_i, sl_a, sl_l, simprocAttr, ix, z_em, up_eq, up_j, Nat.le_refl, true_or, or_true, true_and, and_true, and_self, or_self, beq_self_eq_true, if_true, if_false, ite_self, ca_f, ca_t, aLen, Int32.lt_iff_toInt_lt, Int32.le_iff_toInt_le, z_ite, z_iten, z_ite1, ite_not, not_true_eq_false, not_false_eq_true, false_and, and_false, false_or, or_false, b_max, b_min, b_minL, b_absL, b_ixD, b_ixH, b_copy, tk_0, tk_s, dr_0, dr_s, pu_s, pu_n, ca_0, ca_1, clr_0, clr_s, e_nop, e_goto, e_if_eq, e_if_ne, e_if_lt, e_if_ge, e_if_gt, e_if_le, e_ic_eq, e_ic_ne, e_ic_lt, e_ic_ge, e_ic_gt, e_ic_le, e_tsw, e_lsw, sw_0, sw_s, e_iret, e_zret, e_lret, e_aret, e_ret, en_0, en_n, en_i, en_a, en_l, List.getElem?_cons_zero, List.getElem?_cons_succ, List.set_cons_zero, List.set_cons_succ, len_s, List.length_nil, ne_eq, yo2 hr, hwe, yi0 hw, yi5 hw, yo4 hr, yo1 hr, y_hasText0, if_pos ht, Option.getD]
  · have htx : txM μ 0 (vM 113 μ (1 + w) 0) (vM 113 μ (10 + r) 4) (vM 113 μ (1 + w) 5) (vM 113 μ (10 + r) 1) = some (evP (vM 113 μ (1 + w) 0) (vM 113 μ (10 + r) 4) (vM 113 μ (1 + w) 5) (vM 113 μ (10 + r) 1) (codeM (μ 113) 0) (μ 113 170).toNatClampNeg) := if_neg ht
    rw [htx]
    obtain ⟨l1, l2⟩ := hL 0 (by decide)
    obtain ⟨l3, l4⟩ := l2 (by show 0 < (μ 113 170).toInt; omega)
    have e17 : (μ 113 170).toNatClampNeg = (μ 113 170).toInt.toNat := rfl
    have l1' : (μ 113 170).toInt ≤ 60 := l1
    obtain ⟨μ', h1, h2⟩ := y_worked (d := d) (u := 0) (N := (μ 113 170).toNatClampNeg) (a1 := vM 113 μ (1 + w) 0) (a2 := vM 113 μ (10 + r) 4) (a3 := vM 113 μ (1 + w) 5) (a4 := vM 113 μ (10 + r) 1) (μ := up (up (up (up μ 118 100 (vM 113 μ (1 + w) 0)) 118 116 (vM 113 μ (10 + r) 4)) 118 110 (vM 113 μ (1 + w) 5)) 118 109 (vM 113 μ (10 + r) 1)) (by decide) (by omega) l4 (nI_ix (by show 0 ≤ (μ 113 170).toInt; omega)).symm l3 (fun v hv => by
      rcases hv with q | ⟨_, q | q | q⟩ | ⟨q, _⟩
      · subst q; rfl
      · subst q; rfl
      · subst q; rfl
      · subst q; rfl
      · exact absurd q (by decide))
    have h1' : cl d 144 [Sum.inr (Sum.inr (8, 112)), vI 0] _ = _ := h1
    refine ⟨μ', ?_, fun o h3 h4 => (h2 o h4).trans (by rw [up_ne h3, up_ne h3, up_ne h3, up_ne h3])⟩
    simp -implicitDefEqProofs only [cl_145, u_145_0, u_145_1, u_145_2, e_iload_n, e_iload, e_lload_n, e_lload, e_aload_n, e_aload, e_istore_n, e_istore, e_astore_n, e_astore, e_lstore_n, e_lstore, e_iinc, e_iconst, e_bipush, e_sipush, e_ldc_w, e_ldc, e_ldcS, e_lconst, e_ldc2_w, e_iadd, e_isub, e_imul, e_iand, e_ixor, e_ishl, e_ishr, e_iushr, e_idiv, e_irem, e_ineg, e_i2b, e_i2s, e_i2c, e_ladd, e_lsub, e_lmul, e_land, e_lor, e_ldiv, e_lrem, e_lneg, e_lshl, e_lshr, e_lushr, e_i2l, e_l2i, e_lcmp, e_dupI, e_dupA, e_dup2, e_getI, e_getA, e_putI, e_putZ, e_getstatic, e_iaload, e_iastore, e_aaload10, e_alen10, e_aaload11, e_alen11, e_aaload12, e_alen12, e_aaload13, e_alen13, e_alen, e_invokevirtual, e_invokevirtualB, e_invokestatic, e_invokestaticB, ct_0, ct_i, ct_a, ct_l, os_0, os_s, rc_0, rc_s, sl_0, sl_i, sl_a, sl_l, simprocAttr, ix, z_em, up_eq, up_j, Nat.le_refl, true_or, or_true, true_and, and_true, and_self, or_self, beq_self_eq_true, if_true, if_false, ite_self, ca_f, ca_t, aLen, Int32.lt_iff_toInt_lt, Int32.le_iff_toInt_le, z_ite, z_iten, z_ite1, ite_not, not_true_eq_false, not_false_eq_true, false_and, and_false, false_or, or_false, b_max, b_min, b_minL, b_absL, b_ixD, b_ixH, b_copy, tk_0, tk_s, dr_0, dr_s, pu_s, pu_n, ca_0, ca_1, clr_0, clr_s, e_nop, e_goto, e_if_eq, e_if_ne, e_if_lt, e_if_ge, e_if_gt, e_if_le, e_ic_eq, e_ic_ne, e_ic_lt, e_ic_ge, e_ic_gt, e_ic_le, e_tsw, e_lsw, sw_0, sw_s, e_iret, e_zret, e_lret, e_aret, e_ret, en_0, en_n, en_i, en_a, en_l, List.getElem?_cons_zero, List.getElem?_cons_succ, List.set_cons_zero, List.set_cons_succ, len_s, List.length_nil, ne_eq, yo2 hr, hwe, yi0 hw, yi5 hw, yo4 hr, yo1 hr, y_hasText0, if_neg ht, hv, h1', Option.getD]
    rfl
theorem y_goes {d w : Nat} {μ : Mem} (hw : w < 4) (hL : LWM μ) (hW : WFV (vM 113 μ)) (hat : (vM 113 μ (1 + w) 2).toNatClampNeg < 8) : ∃ μ', cl d 147 [vR 8 112, vI (nI w)] μ = some (some (vI (goesP (txM μ) (vM 113 μ) w)), μ') ∧ AgN μ μ' := by
  have hv : ∀ {j : Nat} {v : Int32} {μ2 : Mem}, vM 113 (up μ2 118 j v) = vM 113 μ2 := fun {j v μ2} => vM_un (by decide)
  have g2 := gw2 hW hw
  have gh := gwh hW hw hat
  have e8 : 8 + 2 * vM 113 μ (1 + w) 2 = nI (8 + 2 * (vM 113 μ (1 + w) 2).toNatClampNeg) := by
    have q1 := nIm (a := 2) (b := (vM 113 μ (1 + w) 2).toNatClampNeg) (by omega) (by omega) (by omega)
    have q2 := nIa (a := 8) (b := 2 * (vM 113 μ (1 + w) 2).toNatClampNeg) (by omega)
    rw [nI_ix g2.1] at q1
    show nI 8 + nI 2 * vM 113 μ (1 + w) 2 = _
    rw [q1, q2]
  have e9 : 8 + 2 * vM 113 μ (1 + w) 2 + 1 = nI (9 + 2 * (vM 113 μ (1 + w) 2).toNatClampNeg) := by
    rw [e8, ← nI_succ]
    exact congrArg nI (by omega)
  have y8 : ∀ μ2, cl d 111 [Sum.inr (Sum.inr (8, 112)), vI (nI w), vI (8 + 2 * vM 113 μ (1 + w) 2)] μ2 = _ := fun μ2 => y_its (d := d) (μ := μ2) hw (show 8 + 2 * (vM 113 μ (1 + w) 2).toNatClampNeg < 24 by omega) e8
  have y9 : ∀ μ2, cl d 111 [Sum.inr (Sum.inr (8, 112)), vI (nI w), vI (8 + 2 * vM 113 μ (1 + w) 2 + 1)] μ2 = _ := fun μ2 => y_its (d := d) (μ := μ2) hw (show 9 + 2 * (vM 113 μ (1 + w) 2).toNatClampNeg < 24 by omega) e9
  unfold goesP
  generalize hi : (vM 113 μ (1 + w) 2).toNatClampNeg = i at *
  by_cases ht : (μ 113 295).toInt ≤ 0
  · refine ⟨μ, ?_, AgN.rf⟩
    have htx : ∀ a1 a2 a3 a4, txM μ 1 a1 a2 a3 a4 = none := fun _ _ _ _ => if_pos ht
    have hq : ¬ vM 113 μ (1 + w) (9 + 2 * i) + 1 = 0 := by
      intro q
      have := congrArg Int32.toInt q
      rw [ta (by simp only [tl 1 (by omega)]; omega) (by simp only [tl 1 (by omega)]; omega), tl 1 (by omega)] at this
      have z : (0 : Int32).toInt = 0 := rfl
      omega
    rw [htx]
    simp -implicitDefEqProofs only [cl_147, u_147_0, u_147_1, u_147_2, e_iload_n, e_iload, e_lload_n, e_lload, e_aload_n, e_aload, e_istore_n, e_istore, e_astore_n, e_astore, e_lstore_n, e_lstore, e_iinc, e_iconst, e_bipush, e_sipush, e_ldc_w, e_ldc, e_ldcS, e_lconst, e_ldc2_w, e_iadd, e_isub, e_imul, e_iand, e_ixor, e_ishl, e_ishr, e_iushr, e_idiv, e_irem, e_ineg, e_i2b, e_i2s, e_i2c, e_ladd, e_lsub, e_lmul, e_land, e_lor, e_ldiv, e_lrem, e_lneg, e_lshl, e_lshr, e_lushr, e_i2l, e_l2i, e_lcmp, e_dupI, e_dupA, e_dup2, e_getI, e_getA, e_putI, e_putZ, e_getstatic, e_iaload, e_iastore, e_aaload10, e_alen10, e_aaload11, e_alen11, e_aaload12, e_alen12, e_aaload13, e_alen13, e_alen, e_invokevirtual, e_invokevirtualB, e_invokestatic, e_invokestaticB, ct_0, ct_i, ct_a, ct_l, os_0, os_s, rc_0, rc_s, sl_0, sl_i, sl_a, sl_l, simprocAttr, ix, z_em, up_eq, up_j, Nat.le_refl, true_or, or_true, true_and, and_true, and_self, or_self, beq_self_eq_true, if_true, if_false, ite_self, ca_f, ca_t, aLen, Int32.lt_iff_toInt_lt, Int32.le_iff_toInt_le, z_ite, z_iten, z_ite1, ite_not, not_true_eq_false, not_false_eq_true, false_and, and_false, false_or, or_false, b_max, b_min, b_minL, b_absL, b_ixD, b_ixH, b_copy, tk_0, tk_s, dr_0, dr_s, pu_s, pu_n, ca_0, ca_1, clr_0, clr_s, e_nop, e_goto, e_if_eq, e_if_ne, e_if_lt, e_if_ge, e_if_gt, e_if_le, e_ic_eq, e_ic_ne, e_ic_lt, e_ic_ge, e_ic_gt, e_ic_le, e_tsw, e_lsw, sw_0, sw_s, e_iret, e_zret, e_lret, e_aret, e_ret, en_0, en_n, en_i, en_a, en_l, List.getElem?_cons_zero, List.getElem?_cons_succ, List.set_cons_zero, List.set_cons_succ, len_s, List.length_nil, ne_eq, yi0 hw, yi2 hw, y8, y9, y_hasText1, if_pos ht, Option.getD, if_neg hq, x_held]
  · have htx : ∀ a1 a2 a3 a4, txM μ 1 a1 a2 a3 a4 = some (evP a1 a2 a3 a4 (codeM (μ 113) 1) (μ 113 295).toNatClampNeg) := fun _ _ _ _ => if_neg ht
    rw [htx]
    obtain ⟨l1, l2⟩ := hL 1 (by decide)
    obtain ⟨l3, l4⟩ := l2 (by show 0 < (μ 113 295).toInt; omega)
    have e17 : (μ 113 295).toNatClampNeg = (μ 113 295).toInt.toNat := rfl
    have l1' : (μ 113 295).toInt ≤ 60 := l1
    obtain ⟨μ', h1, h2⟩ := y_worked (d := d) (u := 1) (N := (μ 113 295).toNatClampNeg) (a1 := vM 113 μ (1 + w) 0) (a2 := vM 113 μ (1 + w) (9 + 2 * i)) (a3 := vM 113 μ (1 + w) (8 + 2 * i)) (a4 := 0) (μ := up (up (up μ 118 100 (vM 113 μ (1 + w) 0)) 118 104 (vM 113 μ (1 + w) (9 + 2 * i))) 118 108 (vM 113 μ (1 + w) (8 + 2 * i))) (by decide) (by omega) l4 (nI_ix (by show 0 ≤ (μ 113 295).toInt; omega)).symm l3 (fun v hv => by
      rcases hv with q | ⟨q, _⟩ | ⟨_, q | q⟩
      · subst q; rfl
      · exact absurd q (by decide)
      · subst q; rfl
      · subst q; rfl)
    have h1' : cl d 144 [Sum.inr (Sum.inr (8, 112)), vI 1] _ = _ := h1
    refine ⟨μ', ?_, fun o h3 h4 => (h2 o h4).trans (by rw [up_ne h3, up_ne h3, up_ne h3])⟩
    simp -implicitDefEqProofs only [cl_147, u_147_0, u_147_1, u_147_2, e_iload_n, e_iload, e_lload_n, e_lload, e_aload_n, e_aload, e_istore_n, e_istore, e_astore_n, e_astore, e_lstore_n, e_lstore, e_iinc, e_iconst, e_bipush, e_sipush, e_ldc_w, e_ldc, e_ldcS, e_lconst, e_ldc2_w, e_iadd, e_isub, e_imul, e_iand, e_ixor, e_ishl, e_ishr, e_iushr, e_idiv, e_irem, e_ineg, e_i2b, e_i2s, e_i2c, e_ladd, e_lsub, e_lmul, e_land, e_lor, e_ldiv, e_lrem, e_lneg, e_lshl, e_lshr, e_lushr, e_i2l, e_l2i, e_lcmp, e_dupI, e_dupA, e_dup2, e_getI, e_getA, e_putI, e_putZ, e_getstatic, e_iaload, e_iastore, e_aaload10, e_alen10, e_aaload11, e_alen11, e_aaload12, e_alen12, e_aaload13, e_alen13, e_alen, e_invokevirtual, e_invokevirtualB, e_invokestatic, e_invokestaticB, ct_0, ct_i, ct_a, ct_l, os_0, os_s, rc_0, rc_s, sl_0, sl_i, sl_a, sl_l, simprocAttr, ix, z_em, up_eq, up_j, Nat.le_refl, true_or, or_true, true_and, and_true, and_self, or_self, beq_self_eq_true, if_true, if_false, ite_self, ca_f, ca_t, aLen, Int32.lt_iff_toInt_lt, Int32.le_iff_toInt_le, z_ite, z_iten, z_ite1, ite_not, not_true_eq_false, not_false_eq_true, false_and, and_false, false_or, or_false, b_max, b_min, b_minL, b_absL, b_ixD, b_ixH, b_copy, tk_0, tk_s, dr_0, dr_s, pu_s, pu_n, ca_0, ca_1, clr_0, clr_s, e_nop, e_goto, e_if_eq, e_if_ne, e_if_lt, e_if_ge, e_if_gt, e_if_le, e_ic_eq, e_ic_ne, e_ic_lt, e_ic_ge, e_ic_gt, e_ic_le, e_tsw, e_lsw, sw_0, sw_s, e_iret, e_zret, e_lret, e_aret, e_ret, en_0, en_n, en_i, en_a, en_l, List.getElem?_cons_zero, List.getElem?_cons_succ, List.set_cons_zero, List.set_cons_succ, len_s, List.length_nil, ne_eq, yi0 hw, yi2 hw, y8, y9, y_hasText1, if_neg ht, hv, h1', Option.getD, x_held]
    rfl
theorem y_keeps {d r w : Nat} {μ : Mem} (hr : r < 8) (hw : w < 4) (hwe : vM 113 μ (10 + r) 2 = nI w) (hL : LWM μ) : ∃ μ', cl d 146 [vR 8 112, vI (nI r)] μ = some (some (vI (keepsP (txM μ) (vM 113 μ) w r)), μ') ∧ AgN μ μ' := by
  obtain ⟨μ', h1, hA⟩ := y_leaves (d := d) hr hw hwe hL
  have h1' : cl d 145 [Sum.inr (Sum.inr (8, 112)), vI (nI r)] μ = _ := h1
  unfold keepsP
  simp -implicitDefEqProofs only [cl_146, u_146_0, u_146_1, u_146_2, u_146_3, u_146_4, u_146_5, u_146_6, u_146_7, u_146_8, u_146_9, u_146_10, u_146_11, u_146_12, u_146_13, u_146_14, u_146_15, u_146_16, e_iload_n, e_iload, e_lload_n, e_lload, e_aload_n, e_aload, e_istore_n, e_istore, e_astore_n, e_astore, e_lstore_n, e_lstore, e_iinc, e_iconst, e_bipush, e_sipush, e_ldc_w, e_ldc, e_ldcS, e_lconst, e_ldc2_w, e_iadd, e_isub, e_imul, e_iand, e_ixor, e_ishl, e_ishr, e_iushr, e_idiv, e_irem, e_ineg, e_i2b, e_i2s, e_i2c, e_ladd, e_lsub, e_lmul, e_land, e_lor, e_ldiv, e_lrem, e_lneg, e_lshl, e_lshr, e_lushr, e_i2l, e_l2i, e_lcmp, e_dupI, e_dupA, e_dup2, e_getI, e_getA, e_putI, e_putZ, e_getstatic, e_iaload, e_iastore, e_aaload10, e_alen10, e_aaload11, e_alen11, e_aaload12, e_alen12, e_aaload13, e_alen13, e_alen, e_invokevirtual, e_invokevirtualB, e_invokestatic, e_invokestaticB, ct_0, ct_i, ct_a, ct_l, os_0, os_s, rc_0, rc_s, sl_0, sl_i, sl_a, sl_l, simprocAttr, ix, z_em, up_eq, up_j, Nat.le_refl, true_or, or_true, true_and, and_true, and_self, or_self, beq_self_eq_true, if_true, if_false, ite_self, ca_f, ca_t, aLen, Int32.lt_iff_toInt_lt, Int32.le_iff_toInt_le, z_ite, z_iten, z_ite1, ite_not, not_true_eq_false, not_false_eq_true, false_and, and_false, false_or, or_false, b_max, b_min, b_minL, b_absL, b_ixD, b_ixH, b_copy, tk_0, tk_s, dr_0, dr_s, pu_s, pu_n, ca_0, ca_1, clr_0, clr_s, e_nop, e_goto, e_if_eq, e_if_ne, e_if_lt, e_if_ge, e_if_gt, e_if_le, e_ic_eq, e_ic_ne, e_ic_lt, e_ic_ge, e_ic_gt, e_ic_le, e_tsw, e_lsw, sw_0, sw_s, e_iret, e_zret, e_lret, e_aret, e_ret, en_0, en_n, en_i, en_a, en_l, List.getElem?_cons_zero, List.getElem?_cons_succ, List.set_cons_zero, List.set_cons_succ, len_s, List.length_nil, ne_eq, yo2 hr, hwe, yi0 hw, yi5 hw, yi3 hw, yo0 hr, yo1 hr, h1', x_held]
  by_cases k6 : vM 113 μ (10 + r) 0 = 6
  · have d1 : ¬ vM 113 μ (10 + r) 0 = 1 := by rw [k6]; decide
    have d2 : ¬ vM 113 μ (10 + r) 0 = 2 := by rw [k6]; decide
    have d3 : ¬ vM 113 μ (10 + r) 0 = 3 := by rw [k6]; decide
    have d4 : ¬ vM 113 μ (10 + r) 0 = 4 := by rw [k6]; decide
    have d5 : ¬ vM 113 μ (10 + r) 0 = 5 := by rw [k6]; decide
    simp only [if_neg d1, if_neg d2, if_neg d3, if_neg d4, if_neg d5, if_pos k6]
    exact ⟨μ', rfl, hA⟩
  · simp only [if_neg k6]
    refine ⟨μ, ?_, AgN.rf⟩
    by_cases k1 : vM 113 μ (10 + r) 0 = 1
    · simp only [if_pos k1]
    simp only [if_neg k1]
    by_cases k2 : vM 113 μ (10 + r) 0 = 2
    · simp only [if_pos k2]
    simp only [if_neg k2]
    by_cases k3 : vM 113 μ (10 + r) 0 = 3
    · simp only [if_pos k3]
      by_cases q : vM 113 μ (1 + w) 5 = 1
      · simp only [if_pos q]
      · simp only [if_neg q]
    simp only [if_neg k3]
    by_cases k4 : vM 113 μ (10 + r) 0 = 4
    · simp only [if_pos k4]
      by_cases q : 0 < (vM 113 μ (1 + w) 3).toInt
      · simp only [if_pos q]
      · simp only [if_neg q]
    simp only [if_neg k4]
    by_cases k5 : vM 113 μ (10 + r) 0 = 5
    · simp only [if_pos k5]
      by_cases q : vM 113 μ (1 + w) 3 = 0
      · simp only [if_pos q]
      · simp only [if_neg q]
    simp only [if_neg k5]
