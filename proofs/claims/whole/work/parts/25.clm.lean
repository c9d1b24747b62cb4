/-! THE CLASS'S MINUTE. -/
theorem x_goes {d b w : Nat} {μ : Mem} (hw : w < 4) (hL : LW b μ) (hat : 0 ≤ (μ (b + 6 + 3 * w) 4).toInt ∧ (μ (b + 6 + 3 * w) 4).toInt < 8) (hh : 0 ≤ (μ (b + 6 + 3 * w + 2) (μ (b + 6 + 3 * w) 4).toNatClampNeg).toInt ∧ (μ (b + 6 + 3 * w + 2) (μ (b + 6 + 3 * w) 4).toNatClampNeg).toInt ≤ 9) : ∃ μ', cl d 47 [vR 6 b, vR 5 (b + 6 + 3 * w)] μ = some (some (vI (goesP (txC b μ) (vC b μ) w)), μ') ∧ AgS b μ μ' := by
  have hi : (μ (b + 6 + 3 * w) 4).toNatClampNeg < 8 := ix_lt hat.1 hat.2
  obtain ⟨h1, h2⟩ := hL 1 (by decide)
  have e29 : b + 3 + 23 + 3 = b + 29 := by omega
  have e99 : (0 : Int32).toInt ≤ (99 : Int32).toInt := by decide
  have hs : μ (b + 29) 2 = nI (μ (b + 29) 2).toNatClampNeg := (nI_ix h1).symm
  have hV : goesP (txC b μ) (vC b μ) w = heldP ((txC b μ 1 (μ (b + 6 + 3 * w) 2) (μ (b + 6 + 3 * w + 2) (μ (b + 6 + 3 * w) 4).toNatClampNeg) (μ (b + 6 + 3 * w + 1) (μ (b + 6 + 3 * w) 4).toNatClampNeg) 0).getD (μ (b + 6 + 3 * w) 2 / (μ (b + 6 + 3 * w + 2) (μ (b + 6 + 3 * w) 4).toNatClampNeg + 1) + 2)) 0 99 := by
    unfold goesP
    rw [← cw2 hw]
    rw [← cw0 hw, ← cwl hw hi, ← cwh hw hi, show b + 7 + 3 * w = b + 6 + 3 * w + 1 by omega, show b + 8 + 3 * w = b + 6 + 3 * w + 2 by omega]
  rw [hV]
  by_cases hz : μ (b + 29) 3 = 0
  · refine ⟨μ, ?_, AgS.rf⟩
    have hq : ¬ μ (b + 6 + 3 * w + 2) (μ (b + 6 + 3 * w) 4).toNatClampNeg + 1 = 0 := by
      intro q
      have := congrArg Int32.toInt q
      rw [ta (by simp only [tl 1 (by omega)]; omega) (by simp only [tl 1 (by omega)]; omega), tl 1 (by omega)] at this
      have z : (0 : Int32).toInt = 0 := rfl
      omega
    simp -implicitDefEqProofs only [cl_47, u_47_0, u_47_1, u_47_2, u_47_3, e_iload_n, e_iload, e_lload_n, e_lload, e_aload_n, e_aload, e_istore_n, e_istore, e_astore_n, e_astore, e_lstore_n, e_lstore, e_iinc, e_iconst, e_bipush, e_sipush, e_ldc_w, e_ldc, e_ldcS, e_lconst, e_ldc2_w, e_iadd, e_isub, e_imul, e_iand, e_ixor, e_ishl, e_ishr, e_iushr, e_idiv, e_irem, e_ineg, e_i2b, e_i2s, e_i2c, e_ladd, e_lsub, e_lmul, e_land, e_lor, e_ldiv, e_lrem, e_lneg, e_lshl, e_lshr, e_lushr, e_i2l, e_l2i, e_lcmp, e_dupI, e_dupA, e_dup2, e_getI, e_getA, e_putI, e_putZ, e_getstatic, e_iaload, e_iastore, e_aaload10, e_alen10, e_aaload11, e_alen11, e_aaload12, e_alen12, e_aaload13, e_alen13, e_alen, e_invokevirtual, e_invokevirtualB, e_invokestatic, e_invokestaticB, ct_0, ct_i, ct_a, ct_l, os_0, os_s, rc_0, rc_s, sl_0, sl_i, sl_a, sl_l, simprocAttr, ix, z_em, up_eq, up_j, Nat.le_refl, true_or, or_true, true_and, and_true, and_self, or_self, beq_self_eq_true, if_true, if_false, ite_self, ca_f, ca_t, aLen, Int32.lt_iff_toInt_lt, Int32.le_iff_toInt_le, z_ite, z_iten, z_ite1, ite_not, not_true_eq_false, not_false_eq_true, false_and, and_false, false_or, or_false, b_max, b_min, b_minL, b_absL, b_ixD, b_ixH, b_copy, tk_0, tk_s, dr_0, dr_s, pu_s, pu_n, ca_0, ca_1, clr_0, clr_s, e_nop, e_goto, e_if_eq, e_if_ne, e_if_lt, e_if_ge, e_if_gt, e_if_le, e_ic_eq, e_ic_ne, e_ic_lt, e_ic_ge, e_ic_gt, e_ic_le, e_tsw, e_lsw, sw_0, sw_s, e_iret, e_zret, e_lret, e_aret, e_ret, en_0, en_n, en_i, en_a, en_l, List.getElem?_cons_zero, List.getElem?_cons_succ, List.set_cons_zero, List.set_cons_succ, len_s, List.length_nil, e29, hz, hat, x_hold e99, x_quotient hq, txC, Option.getD, Nat.mul_one]
  · obtain ⟨μ', hw', hA⟩ := x_workOut (d := d) (lo := b + 29) (a1 := μ (b + 6 + 3 * w) 2) (a2 := μ (b + 6 + 3 * w + 2) (μ (b + 6 + 3 * w) 4).toNatClampNeg) (a3 := μ (b + 6 + 3 * w + 1) (μ (b + 6 + 3 * w) 4).toNatClampNeg) (a4 := 0) (N := (μ (b + 29) 2).toNatClampNeg) (by have e : (μ (b + 29) 2).toNatClampNeg = (μ (b + 29) 2).toInt.toNat := rfl; have : (μ (b + 29) 2).toInt ≤ 60 := h2; omega) hs
    refine ⟨μ', ?_, fun o h1 h2 => hA o (by omega)⟩
    simp -implicitDefEqProofs only [cl_47, u_47_0, u_47_1, u_47_2, u_47_3, e_iload_n, e_iload, e_lload_n, e_lload, e_aload_n, e_aload, e_istore_n, e_istore, e_astore_n, e_astore, e_lstore_n, e_lstore, e_iinc, e_iconst, e_bipush, e_sipush, e_ldc_w, e_ldc, e_ldcS, e_lconst, e_ldc2_w, e_iadd, e_isub, e_imul, e_iand, e_ixor, e_ishl, e_ishr, e_iushr, e_idiv, e_irem, e_ineg, e_i2b, e_i2s, e_i2c, e_ladd, e_lsub, e_lmul, e_land, e_lor, e_ldiv, e_lrem, e_lneg, e_lshl, e_lshr, e_lushr, e_i2l, e_l2i, e_lcmp, e_dupI, e_dupA, e_dup2, e_getI, e_getA, e_putI, e_putZ, e_getstatic, e_iaload, e_iastore, e_aaload10, e_alen10, e_aaload11, e_alen11, e_aaload12, e_alen12, e_aaload13, e_alen13, e_alen, e_invokevirtual, e_invokevirtualB, e_invokestatic, e_invokestaticB, ct_0, ct_i, ct_a, ct_l, os_0, os_s, rc_0, rc_s, sl_0, sl_i, sl_a, sl_l, simprocAttr, ix, z_em, up_eq, up_j, Nat.le_refl, true_or, or_true, true_and, and_true, and_self, or_self, beq_self_eq_true, if_true, if_false, ite_self, ca_f, ca_t, aLen, Int32.lt_iff_toInt_lt, Int32.le_iff_toInt_le, z_ite, z_iten, z_ite1, ite_not, not_true_eq_false, not_false_eq_true, false_and, and_false, false_or, or_false, b_max, b_min, b_minL, b_absL, b_ixD, b_ixH, b_copy, tk_0, tk_s, dr_0, dr_s, pu_s, pu_n, ca_0, ca_1, clr_0, clr_s, e_nop, e_goto, e_if_eq, e_if_ne, e_if_lt, e_if_ge, e_if_gt, e_if_le, e_ic_eq, e_ic_ne, e_ic_lt, e_ic_ge, e_ic_gt, e_ic_le, e_tsw, e_lsw, sw_0, sw_s, e_iret, e_zret, e_lret, e_aret, e_ret, en_0, en_n, en_i, en_a, en_l, List.getElem?_cons_zero, List.getElem?_cons_succ, List.set_cons_zero, List.set_cons_succ, len_s, List.length_nil, e29, if_neg hz, hat, hw', x_hold e99, txC, Option.getD, Nat.mul_one]
/-- outside the world, but for the rows on which the texts pile, nothing changes -/
def FrC (b : Nat) (μ μ' : Mem) : Prop := ∀ o, (o < b ∨ b + 26 ≤ o) → o ≠ b + 28 → o ≠ b + 31 → μ' o = μ o
theorem FrC.rf {b : Nat} {μ : Mem} : FrC b μ μ := fun _ _ _ _ => rfl
theorem FrC.tr {b : Nat} {μ μ' μ2 : Mem} (h : FrC b μ μ') (h2 : FrC b μ' μ2) : FrC b μ μ2 := fun o h3 h4 h5 => (h2 o h3 h4 h5).trans (h o h3 h4 h5)
theorem FrC.up {b O K : Nat} {v : Int32} {μ μ' : Mem} (h : FrC b μ μ') (hO : b ≤ O ∧ O < b + 26) : FrC b μ (up μ' O K v) := fun o h3 h4 h5 => (up_ne (by omega)).trans (h o h3 h4 h5)
theorem AgS.fr {b : Nat} {μ μ' : Mem} (h : AgS b μ μ') : FrC b μ μ' := fun o _ h4 h5 => h o h4 h5
theorem FrC.tx {b : Nat} {μ μ' : Mem} (h : FrC b μ μ') : txC b μ' = txC b μ := by
  funext u a1 a2 a3 a4
  unfold txC
  rw [h (b + 26 + 3 * u) (by omega) (by omega) (by omega), h (b + 27 + 3 * u) (by omega) (by omega) (by omega)]
theorem FrC.lw {b : Nat} {μ μ' : Mem} (h : FrC b μ μ') (hL : LW b μ) : LW b μ' := fun u hu => by
  rw [h (b + 26 + 3 * u) (by omega) (by omega) (by omega)]
  exact hL u hu
theorem x_work {d b w : Nat} {g m : Int32} {μ : Mem} (hw : w < 4) (hat : 0 ≤ (μ (b + 6 + 3 * w) 4).toInt ∧ (μ (b + 6 + 3 * w) 4).toInt < (μ (b + 6 + 3 * w) 3).toInt ∧ (μ (b + 6 + 3 * w) 4).toInt < 8) : ∃ μ', cl d 38 [vR 5 (b + 6 + 3 * w), vI g, vI m] μ = some (none, μ') ∧ vC b μ' = wkP (vC b μ) w g m ∧ FrC b μ μ' := by
  have n1 : ¬ b + 6 + 3 * w + 1 = b + 6 + 3 * w := by omega
  have hi : (μ (b + 6 + 3 * w) 4).toNatClampNeg < 8 := ix_lt hat.1 hat.2.2
  have hO : b ≤ b + 6 + 3 * w ∧ b + 6 + 3 * w < b + 26 := by omega
  simp -implicitDefEqProofs only [cl_38, u_38_0, u_38_1, u_38_2, u_38_3, u_38_4, e_iload_n, e_iload, e_lload_n, e_lload, e_aload_n, e_aload, e_istore_n, e_istore, e_astore_n, e_astore, e_lstore_n, e_lstore, e_iinc, e_iconst, e_bipush, e_sipush, e_ldc_w, e_ldc, e_ldcS, e_lconst, e_ldc2_w, e_iadd, e_isub, e_imul, e_iand, e_ixor, e_ishl, e_ishr, e_iushr, e_idiv, e_irem, e_ineg, e_i2b, e_i2s, e_i2c, e_ladd, e_lsub, e_lmul, e_land, e_lor, e_ldiv, e_lrem, e_lneg, e_lshl, e_lshr, e_lushr, e_i2l, e_l2i, e_lcmp, e_dupI, e_dupA, e_dup2, e_getI, e_getA, e_putI, e_putZ, e_getstatic, e_iaload, e_iastore, e_aaload10, e_alen10, e_aaload11, e_alen11, e_aaload12, e_alen12, e_aaload13, e_alen13, e_alen, e_invokevirtual, e_invokevirtualB, e_invokestatic, e_invokestaticB, ct_0, ct_i, ct_a, ct_l, os_0, os_s, rc_0, rc_s, sl_0, sl_i, sl_a, sl_l, simprocAttr, ix, z_em, up_eq, up_j, Nat.le_refl, true_or, or_true, true_and, and_true, and_self, or_self, beq_self_eq_true, if_true, if_false, ite_self, ca_f, ca_t, aLen, Int32.lt_iff_toInt_lt, Int32.le_iff_toInt_le, z_ite, z_iten, z_ite1, ite_not, not_true_eq_false, not_false_eq_true, false_and, and_false, false_or, or_false, b_max, b_min, b_minL, b_absL, b_ixD, b_ixH, b_copy, tk_0, tk_s, dr_0, dr_s, pu_s, pu_n, ca_0, ca_1, clr_0, clr_s, e_nop, e_goto, e_if_eq, e_if_ne, e_if_lt, e_if_ge, e_if_gt, e_if_le, e_ic_eq, e_ic_ne, e_ic_lt, e_ic_ge, e_ic_gt, e_ic_le, e_tsw, e_lsw, sw_0, sw_s, e_iret, e_zret, e_lret, e_aret, e_ret, en_0, en_n, en_i, en_a, en_l, List.getElem?_cons_zero, List.getElem?_cons_succ, List.set_cons_zero, List.set_cons_succ, len_s, List.length_nil, ne_eq, x_isAtStep, up_o n1, if_pos hat, if_pos (And.intro hat.1 hat.2.2)]
  unfold wkP
  have t99 : (99 : Int32).toInt = 99 := rfl
  simp only [mn, t99]
  rw [← cw2 hw]
  rw [← cw3 hw, ← cw0 hw, ← cw1 hw, ← cwl hw hi, show b + 7 + 3 * w = b + 6 + 3 * w + 1 by omega]
  by_cases h1 : (μ (b + 6 + 3 * w) 5 + g).toInt < (μ (b + 6 + 3 * w + 1) (μ (b + 6 + 3 * w) 4).toNatClampNeg * 10).toInt
  · simp only [if_pos h1]
    exact ⟨_, rfl, by rw [uw0 hw, uw3 hw], (FrC.rf.up hO).up hO⟩
  · simp only [if_neg h1]
    by_cases h2 : μ (b + 6 + 3 * w) 4 + 1 = μ (b + 6 + 3 * w) 3
    · simp only [if_pos h2]
      exact ⟨_, rfl, by rw [uw7 hw, uw3 hw, uw2 hw, uw0 hw, uw3 hw], ((((FrC.rf.up hO).up hO).up hO).up hO).up hO⟩
    · simp only [if_neg h2]
      exact ⟨_, rfl, by rw [uw3 hw, uw2 hw, uw0 hw, uw3 hw], (((FrC.rf.up hO).up hO).up hO).up hO⟩
theorem i_div1 {x : Int32} : x / 1 = x := by
  apply Int32.toInt_inj.mp
  rw [Int32.toInt_div, show (1 : Int32).toInt = 1 from rfl, Int.tdiv_one]
  exact bm_id (Int32.le_toInt x) (Int32.toInt_lt x)
theorem x_keeps {d b r w : Nat} {μ : Mem} (hr : r < 8) (hL : LW b μ) (hw : 0 ≤ (μ (b + 18 + r) 2).toInt ∧ (μ (b + 18 + r) 2).toInt ≤ (μ b 5 - 1).toInt) (hw4 : (μ (b + 18 + r) 2).toInt < 4) (hwe : (μ (b + 18 + r) 2).toNatClampNeg = w) (hd : 0 ≤ (μ (b + 6 + 3 * w) 2).toInt) : ∃ μ', cl d 45 [vR 6 b, vR 2 (b + 18 + r)] μ = some (some (vI (keepsP (txC b μ) (vC b μ) w r)), μ') ∧ AgS b μ μ' := by
  have h4 : w < 4 := hwe ▸ ix_lt hw.1 hw4
  have e6 : b + 1 + 5 + 3 * w = b + 6 + 3 * w := by omega
  have z : (0 : Int32).toInt ≤ (μ (b + 6 + 3 * w) 2).toInt := hd
  obtain ⟨μ', hl, hA⟩ := x_leaves (d := d) (b := b) (a1 := μ (b + 6 + 3 * w) 2) (a2 := μ (b + 18 + r) 5) (a3 := μ (b + 6 + 3 * w) 7) (a4 := μ (b + 18 + r) 1) hL
  have hl' : cl d 46 [Sum.inr (Sum.inr (6, b)), vI (μ (b + 6 + 3 * w) 2), vI (μ (b + 18 + r) 5), vI (μ (b + 6 + 3 * w) 7), vI (μ (b + 18 + r) 1)] μ = _ := hl
  unfold keepsP
  rw [← cr0 hr, ← cr1 hr, ← cr4 hr, ← cw0 h4, ← cw5 h4, ← cw3 h4]
  simp -implicitDefEqProofs only [cl_45, u_45_0, u_45_1, u_45_2, u_45_3, u_45_4, u_45_5, u_45_6, u_45_7, u_45_8, u_45_9, u_45_10, u_45_11, u_45_12, u_45_13, u_45_14, u_45_15, u_45_16, u_45_17, u_45_18, u_45_19, e_iload_n, e_iload, e_lload_n, e_lload, e_aload_n, e_aload, e_istore_n, e_istore, e_astore_n, e_astore, e_lstore_n, e_lstore, e_iinc, e_iconst, e_bipush, e_sipush, e_ldc_w, e_ldc, e_ldcS, e_lconst, e_ldc2_w, e_iadd, e_isub, e_imul, e_iand, e_ixor, e_ishl, e_ishr, e_iushr, e_idiv, e_irem, e_ineg, e_i2b, e_i2s, e_i2c, e_ladd, e_lsub, e_lmul, e_land, e_lor, e_ldiv, e_lrem, e_lneg, e_lshl, e_lshr, e_lushr, e_i2l, e_l2i, e_lcmp, e_dupI, e_dupA, e_dup2, e_getI, e_getA, e_putI, e_putZ, e_getstatic, e_iaload, e_iastore, e_aaload10, e_alen10, e_aaload11, e_alen11, e_aaload12, e_alen12, e_aaload13, e_alen13, e_alen, e_invokevirtual, e_invokevirtualB, e_invokestatic, e_invokestaticB, ct_0, ct_i, ct_a, ct_l, os_0, os_s, rc_0, rc_s, sl_0, sl_i, sl_a, sl_l, simprocAttr, ix, z_em, up_eq, up_j, Nat.le_refl, true_or, or_true, true_and, and_true, and_self, or_self, beq_self_eq_true, if_true, if_false, ite_self, ca_f, ca_t, aLen, Int32.lt_iff_toInt_lt, Int32.le_iff_toInt_le, z_ite, z_iten, z_ite1, ite_not, not_true_eq_false, not_false_eq_true, false_and, and_false, false_or, or_false, b_max, b_min, b_minL, b_absL, b_ixD, b_ixH, b_copy, tk_0, tk_s, dr_0, dr_s, pu_s, pu_n, ca_0, ca_1, clr_0, clr_s, e_nop, e_goto, e_if_eq, e_if_ne, e_if_lt, e_if_ge, e_if_gt, e_if_le, e_ic_eq, e_ic_ne, e_ic_lt, e_ic_ge, e_ic_gt, e_ic_le, e_tsw, e_lsw, sw_0, sw_s, e_iret, e_zret, e_lret, e_aret, e_ret, en_0, en_n, en_i, en_a, en_l, List.getElem?_cons_zero, List.getElem?_cons_succ, List.set_cons_zero, List.set_cons_succ, len_s, List.length_nil, ne_eq, x_hasWorker, hw, hw4, hwe, e6, x_hold z, hl', i_div1]
  by_cases k6 : μ (b + 18 + r) 0 = 6
  · have d1 : ¬ μ (b + 18 + r) 0 = 1 := by rw [k6]; decide
    have d2 : ¬ μ (b + 18 + r) 0 = 2 := by rw [k6]; decide
    have d3 : ¬ μ (b + 18 + r) 0 = 3 := by rw [k6]; decide
    have d4 : ¬ μ (b + 18 + r) 0 = 4 := by rw [k6]; decide
    have d5 : ¬ μ (b + 18 + r) 0 = 5 := by rw [k6]; decide
    simp only [if_neg d1, if_neg d2, if_neg d3, if_neg d4, if_neg d5, if_pos k6]
    have hd' : μ' (b + 6 + 3 * w) = μ (b + 6 + 3 * w) := hA _ (by omega) (by omega)
    refine ⟨μ', ?_, hA⟩
    have z' : (0 : Int32).toInt ≤ (μ' (b + 6 + 3 * w) 2).toInt := by rw [hd']; exact hd
    simp -implicitDefEqProofs only [cl_45, u_45_0, u_45_1, u_45_2, u_45_3, u_45_4, u_45_5, u_45_6, u_45_7, u_45_8, u_45_9, u_45_10, u_45_11, u_45_12, u_45_13, u_45_14, u_45_15, u_45_16, u_45_17, u_45_18, u_45_19, e_iload_n, e_iload, e_lload_n, e_lload, e_aload_n, e_aload, e_istore_n, e_istore, e_astore_n, e_astore, e_lstore_n, e_lstore, e_iinc, e_iconst, e_bipush, e_sipush, e_ldc_w, e_ldc, e_ldcS, e_lconst, e_ldc2_w, e_iadd, e_isub, e_imul, e_iand, e_ixor, e_ishl, e_ishr, e_iushr, e_idiv, e_irem, e_ineg, e_i2b, e_i2s, e_i2c, e_ladd, e_lsub, e_lmul, e_land, e_lor, e_ldiv, e_lrem, e_lneg, e_lshl, e_lshr, e_lushr, e_i2l, e_l2i, e_lcmp, e_dupI, e_dupA, e_dup2, e_getI, e_getA, e_putI, e_putZ, e_getstatic, e_iaload, e_iastore, e_aaload10, e_alen10, e_aaload11, e_alen11, e_aaload12, e_alen12, e_aaload13, e_alen13, e_alen, e_invokevirtual, e_invokevirtualB, e_invokestatic, e_invokestaticB, ct_0, ct_i, ct_a, ct_l, os_0, os_s, rc_0, rc_s, sl_0, sl_i, sl_a, sl_l, simprocAttr, ix, z_em, up_eq, up_j, Nat.le_refl, true_or, or_true, true_and, and_true, and_self, or_self, beq_self_eq_true, if_true, if_false, ite_self, ca_f, ca_t, aLen, Int32.lt_iff_toInt_lt, Int32.le_iff_toInt_le, z_ite, z_iten, z_ite1, ite_not, not_true_eq_false, not_false_eq_true, false_and, and_false, false_or, or_false, b_max, b_min, b_minL, b_absL, b_ixD, b_ixH, b_copy, tk_0, tk_s, dr_0, dr_s, pu_s, pu_n, ca_0, ca_1, clr_0, clr_s, e_nop, e_goto, e_if_eq, e_if_ne, e_if_lt, e_if_ge, e_if_gt, e_if_le, e_ic_eq, e_ic_ne, e_ic_lt, e_ic_ge, e_ic_gt, e_ic_le, e_tsw, e_lsw, sw_0, sw_s, e_iret, e_zret, e_lret, e_aret, e_ret, en_0, en_n, en_i, en_a, en_l, List.getElem?_cons_zero, List.getElem?_cons_succ, List.set_cons_zero, List.set_cons_succ, len_s, List.length_nil, ne_eq, x_hold z, x_hold z']
  · simp only [if_neg k6]
    refine ⟨μ, ?_, AgS.rf⟩
    by_cases k1 : μ (b + 18 + r) 0 = 1
    · simp only [if_pos k1]
    simp only [if_neg k1]
    by_cases k2 : μ (b + 18 + r) 0 = 2
    · simp only [if_pos k2]
    simp only [if_neg k2]
    by_cases k3 : μ (b + 18 + r) 0 = 3
    · simp only [if_pos k3]
      by_cases q : μ (b + 6 + 3 * w) 7 = 1
      · simp only [if_pos q]
      · simp only [if_neg q]
    simp only [if_neg k3]
    by_cases k4 : μ (b + 18 + r) 0 = 4
    · simp only [if_pos k4]
      by_cases q : 0 < (μ (b + 6 + 3 * w) 5).toInt
      · simp only [if_pos q]
      · simp only [if_neg q]
    simp only [if_neg k4]
    by_cases k5 : μ (b + 18 + r) 0 = 5
    · simp only [if_pos k5]
      by_cases q : μ (b + 6 + 3 * w) 5 = 0
      · simp only [if_pos q]
      · simp only [if_neg q]
    simp only [if_neg k5]
theorem kp_up {tx : TX} {V : Mem} {w r K K2 : Nat} {x y : Int32} (hw : w < 4) (hK : ¬ K = 0 ∧ ¬ K = 1 ∧ ¬ K = 4) : keepsP tx (up (up V (10 + r) K x) 0 K2 y) w r = keepsP tx V w r := by
  have n1 : ∀ k, up (up V (10 + r) K x) 0 K2 y (1 + w) k = V (1 + w) k := fun k => by rw [up_o (by omega), up_o (by omega)]
  have n2 : ∀ k, ¬ k = K → up (up V (10 + r) K x) 0 K2 y (10 + r) k = V (10 + r) k := fun k h => by rw [up_o (by omega), up_j h]
  unfold keepsP
  simp only [n1, n2 0 (fun q => hK.1 q.symm), n2 1 (fun q => hK.2.1 q.symm), n2 4 (fun q => hK.2.2 q.symm)]
theorem x_comeUp {d b r w : Nat} {μ : Mem} (hr : r < 8) (hL : LW b μ) (hw : 0 ≤ (μ (b + 18 + r) 2).toInt ∧ (μ (b + 18 + r) 2).toInt ≤ (μ b 5 - 1).toInt) (hw4 : (μ (b + 18 + r) 2).toInt < 4) (hwe : (μ (b + 18 + r) 2).toNatClampNeg = w) (hd : 0 ≤ (μ (b + 6 + 3 * w) 2).toInt) (ha : 0 ≤ (μ (b + 6 + 3 * w) 6).toInt) : ∃ μ', cl d 44 [vR 6 b, vR 2 (b + 18 + r)] μ = some (none, μ') ∧ vC b μ' = (if (vC b μ (10 + r) 0 = 1 ∨ vC b μ (10 + r) 0 = 4) ∧ (vC b μ 0 3).toInt ≤ (vC b μ 0 2).toInt ∧ (vC b μ 0 2).toInt < (vC b μ 0 4).toInt then up (vC b μ) (10 + r) 7 (vC b μ 0 4) else comeP (mn 99999) (txC b μ) (vC b μ) r) ∧ FrC b μ μ' := by
  have h4 : w < 4 := hwe ▸ ix_lt hw.1 hw4
  have n1 : ¬ b = b + 18 + r := by omega
  have n2 : ¬ b + 18 + r = b := by omega
  have n3 : ¬ b + 6 + 3 * w = b := by omega
  have n4 : ¬ b + 6 + 3 * w = b + 18 + r := by omega
  have hOr : b ≤ b + 18 + r ∧ b + 18 + r < b + 26 := by omega
  have hOw : b ≤ b + 6 + 3 * w ∧ b + 6 + 3 * w < b + 26 := by omega
  have hOb : b ≤ b ∧ b < b + 26 := by omega
  have e6 : b + 1 + 5 + 3 * w = b + 6 + 3 * w := by omega
  have t99 : (99999 : Int32).toInt = 99999 := rfl
  have t9 : (999 : Int32).toInt = 999 := rfl
  have hM : ∃ μ2, μ2 = up (up μ (b + 18 + r) 7 1) b 10 (if (μ b 10 + μ b 9 - μ (b + 18 + r) 3).toInt < 99999 then μ b 10 + μ b 9 - μ (b + 18 + r) 3 else 99999) := ⟨_, rfl⟩
  obtain ⟨μ2, e2⟩ := hM
  have f2 : FrC b μ μ2 := by rw [e2]; exact (FrC.rf.up hOr).up hOb
  have v2 : vC b μ2 = up (up (vC b μ) (10 + r) 6 1) 0 5 (mn 99999 (vC b μ 0 5 + vC b μ 0 2 - vC b μ (10 + r) 3)) := by
    rw [e2, us5, ur6 hr, ← cs5, ← cs2, ← cr3 hr, mn, t99]
  have rw2 : ∀ k, μ2 (b + 6 + 3 * w) k = μ (b + 6 + 3 * w) k := fun k => by rw [e2, up_o n3, up_o n4]
  have rr2 : ∀ k, ¬ k = 7 → μ2 (b + 18 + r) k = μ (b + 18 + r) k := fun k h => by rw [e2, up_o n2, up_j h]
  have rb2 : μ2 b 5 = μ b 5 := by rw [e2, up_j (by decide), up_o n1]
  obtain ⟨μ3, hk, hA⟩ := x_keeps (d := d) (b := b) (r := r) (w := w) (μ := μ2) hr (f2.lw hL) (by rw [rr2 2 (by decide), rb2]; exact hw) (by rw [rr2 2 (by decide)]; exact hw4) (by rw [rr2 2 (by decide)]; exact hwe) (by rw [rw2]; exact hd)
  rw [v2, f2.tx, kp_up h4 (by decide)] at hk
  have hk' : cl d 45 [Sum.inr (Sum.inr (6, b)), Sum.inr (Sum.inr (2, b + 18 + r))] μ2 = _ := hk
  have v3 : vC b μ3 = vC b μ2 := hA.vC
  have r3 : ∀ o, b ≤ o → o < b + 26 → μ3 o = μ2 o := fun o h1 h2 => hA o (by omega) (by omega)
  have hcome : ∃ μ', (if 0 < (μ (b + 6 + 3 * w) 6).toInt then some (none, up μ2 (b + 6 + 3 * w) 6 (if (μ (b + 6 + 3 * w) 6 + μ (b + 18 + r) 5).toInt < 999 then μ (b + 6 + 3 * w) 6 + μ (b + 18 + r) 5 else 999)) else some ((none : Option AV), up (up (up μ3 (b + 6 + 3 * w) 8 (if (μ (b + 6 + 3 * w) 8 + μ (b + 6 + 3 * w) 2 - keepsP (txC b μ) (vC b μ) w r).toInt < 99999 then μ (b + 6 + 3 * w) 8 + μ (b + 6 + 3 * w) 2 - keepsP (txC b μ) (vC b μ) w r else 99999)) (b + 6 + 3 * w) 2 (keepsP (txC b μ) (vC b μ) w r)) (b + 6 + 3 * w) 6 (μ (b + 18 + r) 5))) = some (none, μ') ∧ vC b μ' = comeP (mn 99999) (txC b μ) (vC b μ) r ∧ FrC b μ μ' := by
    have z : (0 : Int32).toInt = 0 := rfl
    unfold comeP
    simp only []
    rw [← v2, ← cr2 hr, hwe, ← cr4 hr, ← cw4 h4]
    by_cases h0 : 0 < (μ (b + 6 + 3 * w) 6).toInt
    · have hne : ¬ μ (b + 6 + 3 * w) 6 = 0 := by
        intro q
        rw [q] at h0
        omega
      rw [if_pos h0, if_neg hne]
      refine ⟨_, rfl, ?_, f2.up hOw⟩
      rw [uw4 h4, mn, t9]
    · rw [if_neg h0, if_pos (Int32.toInt_inj.mp (by omega))]
      refine ⟨_, rfl, ?_, ((((f2.tr hA.fr).up hOw).up hOw).up hOw)⟩
      rw [uw4 h4, uw0 h4, uw6 h4, v3]
      unfold leaveP
      rw [← cw6 h4, ← cw0 h4, rw2, rw2, mn, t99]
  obtain ⟨μ', h1, h2, h3⟩ := hcome
  have rw3 : ∀ k, μ3 (b + 6 + 3 * w) k = μ (b + 6 + 3 * w) k := fun k => by rw [r3 _ hOw.1 hOw.2, rw2]
  have rr3 : μ3 (b + 18 + r) 5 = μ (b + 18 + r) 5 := by rw [r3 _ hOr.1 hOr.2, rr2 5 (by decide)]
  have hl : ∀ x m, cl d 37 [Sum.inr (Sum.inr (5, b + 6 + 3 * w)), vI x, vI m] μ3 = _ := fun x m => x_leave
  rw [← cr0 hr, ← cs3, ← cs2, ← cs4]
  by_cases hp : (μ (b + 18 + r) 0 = 1 ∨ μ (b + 18 + r) 0 = 4) ∧ (μ b 11).toInt ≤ (μ b 9).toInt ∧ (μ b 9).toInt < (μ b 12).toInt
  · refine ⟨up μ (b + 18 + r) 4 (μ b 12), ?_, by rw [if_pos hp, ur7 hr], FrC.rf.up hOr⟩
    simp -implicitDefEqProofs only [cl_44, u_44_0, u_44_1, u_44_2, u_44_3, u_44_4, u_44_5, u_44_6, u_44_7, u_44_8, u_44_9, e_iload_n, e_iload, e_lload_n, e_lload, e_aload_n, e_aload, e_istore_n, e_istore, e_astore_n, e_astore, e_lstore_n, e_lstore, e_iinc, e_iconst, e_bipush, e_sipush, e_ldc_w, e_ldc, e_ldcS, e_lconst, e_ldc2_w, e_iadd, e_isub, e_imul, e_iand, e_ixor, e_ishl, e_ishr, e_iushr, e_idiv, e_irem, e_ineg, e_i2b, e_i2s, e_i2c, e_ladd, e_lsub, e_lmul, e_land, e_lor, e_ldiv, e_lrem, e_lneg, e_lshl, e_lshr, e_lushr, e_i2l, e_l2i, e_lcmp, e_dupI, e_dupA, e_dup2, e_getI, e_getA, e_putI, e_putZ, e_getstatic, e_iaload, e_iastore, e_aaload10, e_alen10, e_aaload11, e_alen11, e_aaload12, e_alen12, e_aaload13, e_alen13, e_alen, e_invokevirtual, e_invokevirtualB, e_invokestatic, e_invokestaticB, ct_0, ct_i, ct_a, ct_l, os_0, os_s, rc_0, rc_s, sl_0, sl_i, sl_a, sl_l, simprocAttr, ix, z_em, up_eq, up_j, Nat.le_refl, true_or, or_true, true_and, and_true, and_self, or_self, beq_self_eq_true, if_true, if_false, ite_self, ca_f, ca_t, aLen, Int32.lt_iff_toInt_lt, Int32.le_iff_toInt_le, z_ite, z_iten, z_ite1, ite_not, not_true_eq_false, not_false_eq_true, false_and, and_false, false_or, or_false, b_max, b_min, b_minL, b_absL, b_ixD, b_ixH, b_copy, tk_0, tk_s, dr_0, dr_s, pu_s, pu_n, ca_0, ca_1, clr_0, clr_s, e_nop, e_goto, e_if_eq, e_if_ne, e_if_lt, e_if_ge, e_if_gt, e_if_le, e_ic_eq, e_ic_ne, e_ic_lt, e_ic_ge, e_ic_gt, e_ic_le, e_tsw, e_lsw, sw_0, sw_s, e_iret, e_zret, e_lret, e_aret, e_ret, en_0, en_n, en_i, en_a, en_l, List.getElem?_cons_zero, List.getElem?_cons_succ, List.set_cons_zero, List.set_cons_succ, len_s, List.length_nil, ne_eq, x_hasWorker, up_o n1, up_o n2, e6, up_o n3, up_o n4, hw, hw4, hwe, x_isAsked, if_pos hp.1, if_neg (Int.not_lt.mpr hp.2.1), if_pos hp.2.2]
  · refine ⟨μ', ?_, by rw [if_neg hp]; exact h2, h3⟩
    rw [← h1]
    simp -implicitDefEqProofs only [cl_44, u_44_0, u_44_1, u_44_2, u_44_3, u_44_4, u_44_5, u_44_6, u_44_7, u_44_8, u_44_9, e_iload_n, e_iload, e_lload_n, e_lload, e_aload_n, e_aload, e_istore_n, e_istore, e_astore_n, e_astore, e_lstore_n, e_lstore, e_iinc, e_iconst, e_bipush, e_sipush, e_ldc_w, e_ldc, e_ldcS, e_lconst, e_ldc2_w, e_iadd, e_isub, e_imul, e_iand, e_ixor, e_ishl, e_ishr, e_iushr, e_idiv, e_irem, e_ineg, e_i2b, e_i2s, e_i2c, e_ladd, e_lsub, e_lmul, e_land, e_lor, e_ldiv, e_lrem, e_lneg, e_lshl, e_lshr, e_lushr, e_i2l, e_l2i, e_lcmp, e_dupI, e_dupA, e_dup2, e_getI, e_getA, e_putI, e_putZ, e_getstatic, e_iaload, e_iastore, e_aaload10, e_alen10, e_aaload11, e_alen11, e_aaload12, e_alen12, e_aaload13, e_alen13, e_alen, e_invokevirtual, e_invokevirtualB, e_invokestatic, e_invokestaticB, ct_0, ct_i, ct_a, ct_l, os_0, os_s, rc_0, rc_s, sl_0, sl_i, sl_a, sl_l, simprocAttr, ix, z_em, up_eq, up_j, Nat.le_refl, true_or, or_true, true_and, and_true, and_self, or_self, beq_self_eq_true, if_true, if_false, ite_self, ca_f, ca_t, aLen, Int32.lt_iff_toInt_lt, Int32.le_iff_toInt_le, z_ite, z_iten, z_ite1, ite_not, not_true_eq_false, not_false_eq_true, false_and, and_false, false_or, or_false, b_max, b_min, b_minL, b_absL, b_ixD, b_ixH, b_copy, tk_0, tk_s, dr_0, dr_s, pu_s, pu_n, ca_0, ca_1, clr_0, clr_s, e_nop, e_goto, e_if_eq, e_if_ne, e_if_lt, e_if_ge, e_if_gt, e_if_le, e_ic_eq, e_ic_ne, e_ic_lt, e_ic_ge, e_ic_gt, e_ic_le, e_tsw, e_lsw, sw_0, sw_s, e_iret, e_zret, e_lret, e_aret, e_ret, en_0, en_n, en_i, en_a, en_l, List.getElem?_cons_zero, List.getElem?_cons_succ, List.set_cons_zero, List.set_cons_succ, len_s, List.length_nil, ne_eq, x_hasWorker, up_o n1, up_o n2, e6, up_o n3, up_o n4, hw, hw4, hwe, x_isAsked, ← e2, hk', hl, rw3, rr3, rb2, rw2, rr2 2 (show ¬ 2 = 7 by decide), rr2 5 (show ¬ 5 = 7 by decide)]
    by_cases ha1 : μ (b + 18 + r) 0 = 1 ∨ μ (b + 18 + r) 0 = 4
    · simp only [if_pos ha1]
      by_cases ha2 : (μ b 9).toInt < (μ b 11).toInt
      · simp only [if_pos ha2]
      · simp only [if_neg ha2, if_neg (fun q => hp ⟨ha1, by omega, q⟩)]
    · simp only [if_neg ha1]
