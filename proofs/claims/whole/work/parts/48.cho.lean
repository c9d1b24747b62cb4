/-! WHICH BREAKS STILL COME. -/
def bitE (c k : Int32) : Int32 := (c.toUInt32 >>> (k.toUInt32 &&& Int32.toUInt32 31)).toInt32 &&& 1
def chV (only c : Int32) (V : Mem) : Nat → Mem
  | 0 => V
  | n + 1 => if V (10 + n) 6 = 0 ∧ (only = -1 ∨ V (10 + n) 2 = only) then up (chV only c V n) (10 + n) 6 (if bitE c (nI (cntP only V n)) = 1 then 0 else 1) else chV only c V n
def chL (only c : Int32) (V : Mem) : Nat → Int64
  | 0 => 1
  | n + 1 => if V (10 + n) 6 = 0 ∧ (only = -1 ∨ V (10 + n) 2 = only) then chL only c V n * (if bitE c (nI (cntP only V n)) = 1 then (V (10 + n) 5).toInt64 else (10 - V (10 + n) 5).toInt64) else chL only c V n
theorem chV_hi {only c : Int32} {V : Mem} : ∀ n o j, 10 + n ≤ o → chV only c V n o j = V o j := by
  intro n
  induction n with
  | zero => exact fun _ _ _ => rfl
  | succ n ih =>
    intro o j h
    unfold chV
    split
    · rw [up_o (by omega)]
      exact ih o j (by omega)
    · exact ih o j (by omega)
theorem chV_lo {only c : Int32} {V : Mem} : ∀ n o j, (o < 10 ∨ ¬ j = 6) → chV only c V n o j = V o j := by
  intro n
  induction n with
  | zero => exact fun _ _ _ => rfl
  | succ n ih =>
    intro o j h
    unfold chV
    split
    · rcases h with h | h
      · rw [up_o (by omega)]
        exact ih o j (Or.inl h)
      · rw [up_j h]
        exact ih o j (Or.inr h)
    · exact ih o j h
theorem wf_6 {V : Mem} {r : Nat} {v : Int32} (h : WFV V) (hr : r < 8) (hv : v = 0 ∨ v = 1) : WFV (up V (10 + r) 6 v) := by
  refine wf_up h (by unfold plV; omega) ?_
  rw [(lr6 hr).1, (lr6 hr).2]
  rcases hv with rfl | rfl <;> decide
theorem wf_ch {only c : Int32} {V : Mem} (h : WFV V) : ∀ n, n ≤ 8 → WFV (chV only c V n) := by
  intro n
  induction n with
  | zero => exact fun _ => h
  | succ n ih =>
    intro hn
    unfold chV
    split
    · refine wf_6 (ih (by omega)) (by omega) ?_
      split
      · exact Or.inl rfl
      · exact Or.inr rfl
    · exact ih (by omega)
theorem l_choose {d b R : Nat} {w c : Int32} {V0 : Mem} (hR : R ≤ 8) (hr : V0 0 1 = nI R) : ∀ n k μ (x7 x8 : Option AV), k + n = R → vC b μ = chV w c V0 k → ∃ μ', res d 52 1 [some (vR 6 b), some (vI w), some (vI c), some (vL (chL w c V0 k)), none, some (vI (nI (cntP w V0 k))), some (vI (nI k)), x7, x8] [] μ = some (some (vL (chL w c V0 R)), μ') ∧ vC b μ' = chV w c V0 R ∧ FrC b μ μ' := by
  intro n
  induction n with
  | zero =>
    intro k μ x7 x8 hk hv
    have hk : k = R := by omega
    subst hk
    have hc : μ b 6 = nI k := by rw [cs1 (b := b) (μ := μ), hv, chV_lo _ _ _ (Or.inl (by decide)), hr]
    refine ⟨μ, ?_, hv, FrC.rf⟩
    rw [u_52_1]
    simp -implicitDefEqProofs only [u_52_0, u_52_2, u_52_3, u_52_4, u_52_5, u_52_6, u_52_7, u_52_8, u_52_9, u_52_10, u_52_11, u_52_12, u_52_13, u_52_14, e_iload_n, e_iload, e_lload_n, e_lload, e_aload_n, e_aload, e_istore_n, e_istore, e_astore_n, e_astore, e_lstore_n, e_lstore, e_iinc, e_iconst, e_bipush, e_sipush, e_ldc_w, e_ldc, e_ldcS, e_lconst, e_ldc2_w, e_iadd, e_isub, e_imul, e_iand, e_ixor, e_ishl, e_ishr, e_iushr, e_idiv, e_irem, e_ineg, e_i2b, e_i2s, e_i2c, e_ladd, e_lsub, e_lmul, e_land, e_lor, e_ldiv, e_lrem, e_lneg, e_lshl, e_lshr, e_lushr, e_i2l, e_l2i, e_lcmp, e_dupI, e_dupA, e_dup2, e_getI, e_getA, e_putI, e_putZ, e_getstatic, e_iaload, e_iastore, e_aaload10, e_alen10, e_aaload11, e_alen11, e_aaload12, e_alen12, e_aaload13, e_alen13, e_alen, e_invokevirtual, e_invokevirtualB, e_invokestatic, e_invokestaticB, ct_0, ct_i, ct_a, ct_l, os_0, os_s, rc_0, rc_s, sl_0, sl_i, sl_a, sl_l, simprocAttr, ix, z_em, up_eq, up_j, Nat.le_refl, true_or, or_true, true_and, and_true, and_self, or_self, beq_self_eq_true, if_true, if_false, ite_self, ca_f, ca_t, aLen, Int32.lt_iff_toInt_lt, Int32.le_iff_toInt_le, z_ite, z_iten, z_ite1, ite_not, not_true_eq_false, not_false_eq_true, false_and, and_false, false_or, or_false, b_max, b_min, b_minL, b_absL, b_ixD, b_ixH, b_copy, tk_0, tk_s, dr_0, dr_s, pu_s, pu_n, ca_0, ca_1, clr_0, clr_s, e_nop, e_goto, e_if_eq, e_if_ne, e_if_lt, e_if_ge, e_if_gt, e_if_le, e_ic_eq, e_ic_ne, e_ic_lt, e_ic_ge, e_ic_gt, e_ic_le, e_tsw, e_lsw, sw_0, sw_s, e_iret, e_zret, e_lret, e_aret, e_ret, en_0, en_n, en_i, en_a, en_l, List.getElem?_cons_zero, List.getElem?_cons_succ, List.set_cons_zero, List.set_cons_succ, len_s, List.length_nil, ne_eq, hc, Int.lt_irrefl]
  | succ n ih =>
    intro k μ x7 x8 hk hv
    have hc : μ b 6 = nI R := by rw [cs1 (b := b) (μ := μ), hv, chV_lo _ _ _ (Or.inl (by decide)), hr]
    have hk8 : k < 8 := by omega
    have h1 : ((k : Nat) : Int) < (R : Int) := by omega
    have h2 : ((k : Nat) : Int) < 8 := by omega
    have h3 : (0 : Int) ≤ ((k : Nat) : Int) := by omega
    have nk : (nI k).toInt = k := nI_toInt (by omega)
    have nR : (nI R).toInt = R := nI_toInt (by omega)
    have ck : (nI k).toNatClampNeg = k := ix_nI (by omega)
    have e6 : b + 2 + 16 + 1 * k = b + 18 + k := by omega
    have n3 : ¬ b + 18 + k = b := by omega
    have hO : b ≤ b + 18 + k ∧ b + 18 + k < b + 26 := by omega
    have hx : ∀ μ, cl d 21 [Sum.inr (Sum.inr (2, b + 18 + k)), vI w] μ = _ := fun μ => x_isAheadOf
    have r6 : μ (b + 18 + k) 7 = V0 (10 + k) 6 := by rw [cr6 (b := b) (μ := μ) hk8, hv, chV_hi _ _ _ (Nat.le_refl _)]
    have r2 : μ (b + 18 + k) 2 = V0 (10 + k) 2 := by rw [cr2 (b := b) (μ := μ) hk8, hv, chV_hi _ _ _ (Nat.le_refl _)]
    have r5 : μ (b + 18 + k) 6 = V0 (10 + k) 5 := by rw [cr5 (b := b) (μ := μ) hk8, hv, chV_hi _ _ _ (Nat.le_refl _)]
    by_cases q1 : V0 (10 + k) 6 = 0 ∧ (w = -1 ∨ V0 (10 + k) 2 = w)
    · have ec : cntP w V0 (k + 1) = cntP w V0 k + 1 := if_pos q1
      have ev : chV w c V0 (k + 1) = up (chV w c V0 k) (10 + k) 6 (if bitE c (nI (cntP w V0 k)) = 1 then 0 else 1) := if_pos q1
      have el : chL w c V0 (k + 1) = chL w c V0 k * (if bitE c (nI (cntP w V0 k)) = 1 then (V0 (10 + k) 5).toInt64 else (10 - V0 (10 + k) 5).toInt64) := if_pos q1
      obtain ⟨μ', b1, b2, b3⟩ := ih (k + 1) (up μ (b + 18 + k) 7 (if bitE c (nI (cntP w V0 k)) = 1 then 0 else 1)) (some (vR 2 (b + 18 + k))) (some (vI (if bitE c (nI (cntP w V0 k)) = 1 then 1 else 0))) (by omega) (by rw [ur6 hk8, hv, ev])
      refine ⟨μ', ?_, b2, (FrC.rf.up hO).tr b3⟩
      rw [← b1, u_52_1, el, ec]
      by_cases q2 : bitE c (nI (cntP w V0 k)) = 1
      · have q2' := q2
        unfold bitE at q2'
        simp -implicitDefEqProofs only [u_52_0, u_52_2, u_52_3, u_52_4, u_52_5, u_52_6, u_52_7, u_52_8, u_52_9, u_52_10, u_52_11, u_52_12, u_52_13, u_52_14, e_iload_n, e_iload, e_lload_n, e_lload, e_aload_n, e_aload, e_istore_n, e_istore, e_astore_n, e_astore, e_lstore_n, e_lstore, e_iinc, e_iconst, e_bipush, e_sipush, e_ldc_w, e_ldc, e_ldcS, e_lconst, e_ldc2_w, e_iadd, e_isub, e_imul, e_iand, e_ixor, e_ishl, e_ishr, e_iushr, e_idiv, e_irem, e_ineg, e_i2b, e_i2s, e_i2c, e_ladd, e_lsub, e_lmul, e_land, e_lor, e_ldiv, e_lrem, e_lneg, e_lshl, e_lshr, e_lushr, e_i2l, e_l2i, e_lcmp, e_dupI, e_dupA, e_dup2, e_getI, e_getA, e_putI, e_putZ, e_getstatic, e_iaload, e_iastore, e_aaload10, e_alen10, e_aaload11, e_alen11, e_aaload12, e_alen12, e_aaload13, e_alen13, e_alen, e_invokevirtual, e_invokevirtualB, e_invokestatic, e_invokestaticB, ct_0, ct_i, ct_a, ct_l, os_0, os_s, rc_0, rc_s, sl_0, sl_i, sl_a, sl_l, simprocAttr, ix, z_em, up_eq, up_j, Nat.le_refl, true_or, or_true, true_and, and_true, and_self, or_self, beq_self_eq_true, if_true, if_false, ite_self, ca_f, ca_t, aLen, Int32.lt_iff_toInt_lt, Int32.le_iff_toInt_le, z_ite, z_iten, z_ite1, ite_not, not_true_eq_false, not_false_eq_true, false_and, and_false, false_or, or_false, b_max, b_min, b_minL, b_absL, b_ixD, b_ixH, b_copy, tk_0, tk_s, dr_0, dr_s, pu_s, pu_n, ca_0, ca_1, clr_0, clr_s, e_nop, e_goto, e_if_eq, e_if_ne, e_if_lt, e_if_ge, e_if_gt, e_if_le, e_ic_eq, e_ic_ne, e_ic_lt, e_ic_ge, e_ic_gt, e_ic_le, e_tsw, e_lsw, sw_0, sw_s, e_iret, e_zret, e_lret, e_aret, e_ret, en_0, en_n, en_i, en_a, en_l, List.getElem?_cons_zero, List.getElem?_cons_succ, List.set_cons_zero, List.set_cons_succ, len_s, List.length_nil, ne_eq, hc, nk, nR, ck, h1, h2, h3, e6, hx, r6, r2, r5, if_pos q1, if_pos q2, if_pos q2', q2', ← nI_succ]
      · have q2' := q2
        unfold bitE at q2'
        simp -implicitDefEqProofs only [u_52_0, u_52_2, u_52_3, u_52_4, u_52_5, u_52_6, u_52_7, u_52_8, u_52_9, u_52_10, u_52_11, u_52_12, u_52_13, u_52_14, e_iload_n, e_iload, e_lload_n, e_lload, e_aload_n, e_aload, e_istore_n, e_istore, e_astore_n, e_astore, e_lstore_n, e_lstore, e_iinc, e_iconst, e_bipush, e_sipush, e_ldc_w, e_ldc, e_ldcS, e_lconst, e_ldc2_w, e_iadd, e_isub, e_imul, e_iand, e_ixor, e_ishl, e_ishr, e_iushr, e_idiv, e_irem, e_ineg, e_i2b, e_i2s, e_i2c, e_ladd, e_lsub, e_lmul, e_land, e_lor, e_ldiv, e_lrem, e_lneg, e_lshl, e_lshr, e_lushr, e_i2l, e_l2i, e_lcmp, e_dupI, e_dupA, e_dup2, e_getI, e_getA, e_putI, e_putZ, e_getstatic, e_iaload, e_iastore, e_aaload10, e_alen10, e_aaload11, e_alen11, e_aaload12, e_alen12, e_aaload13, e_alen13, e_alen, e_invokevirtual, e_invokevirtualB, e_invokestatic, e_invokestaticB, ct_0, ct_i, ct_a, ct_l, os_0, os_s, rc_0, rc_s, sl_0, sl_i, sl_a, sl_l, simprocAttr, ix, z_em, up_eq, up_j, Nat.le_refl, true_or, or_true, true_and, and_true, and_self, or_self, beq_self_eq_true, if_true, if_false, ite_self, ca_f, ca_t, aLen, Int32.lt_iff_toInt_lt, Int32.le_iff_toInt_le, z_ite, z_iten, z_ite1, ite_not, not_true_eq_false, not_false_eq_true, false_and, and_false, false_or, or_false, b_max, b_min, b_minL, b_absL, b_ixD, b_ixH, b_copy, tk_0, tk_s, dr_0, dr_s, pu_s, pu_n, ca_0, ca_1, clr_0, clr_s, e_nop, e_goto, e_if_eq, e_if_ne, e_if_lt, e_if_ge, e_if_gt, e_if_le, e_ic_eq, e_ic_ne, e_ic_lt, e_ic_ge, e_ic_gt, e_ic_le, e_tsw, e_lsw, sw_0, sw_s, e_iret, e_zret, e_lret, e_aret, e_ret, en_0, en_n, en_i, en_a, en_l, List.getElem?_cons_zero, List.getElem?_cons_succ, List.set_cons_zero, List.set_cons_succ, len_s, List.length_nil, ne_eq, hc, nk, nR, ck, h1, h2, h3, e6, hx, r6, r2, r5, if_pos q1, if_neg q2, if_neg q2', q2', ← nI_succ]
    · have ec : cntP w V0 (k + 1) = cntP w V0 k := if_neg q1
      have ev : chV w c V0 (k + 1) = chV w c V0 k := if_neg q1
      have el : chL w c V0 (k + 1) = chL w c V0 k := if_neg q1
      obtain ⟨μ', b1, b2, b3⟩ := ih (k + 1) μ (some (vR 2 (b + 18 + k))) x8 (by omega) (by rw [hv, ev])
      refine ⟨μ', ?_, b2, b3⟩
      rw [← b1, u_52_1, el, ec]
      simp -implicitDefEqProofs only [u_52_0, u_52_2, u_52_3, u_52_4, u_52_5, u_52_6, u_52_7, u_52_8, u_52_9, u_52_10, u_52_11, u_52_12, u_52_13, u_52_14, e_iload_n, e_iload, e_lload_n, e_lload, e_aload_n, e_aload, e_istore_n, e_istore, e_astore_n, e_astore, e_lstore_n, e_lstore, e_iinc, e_iconst, e_bipush, e_sipush, e_ldc_w, e_ldc, e_ldcS, e_lconst, e_ldc2_w, e_iadd, e_isub, e_imul, e_iand, e_ixor, e_ishl, e_ishr, e_iushr, e_idiv, e_irem, e_ineg, e_i2b, e_i2s, e_i2c, e_ladd, e_lsub, e_lmul, e_land, e_lor, e_ldiv, e_lrem, e_lneg, e_lshl, e_lshr, e_lushr, e_i2l, e_l2i, e_lcmp, e_dupI, e_dupA, e_dup2, e_getI, e_getA, e_putI, e_putZ, e_getstatic, e_iaload, e_iastore, e_aaload10, e_alen10, e_aaload11, e_alen11, e_aaload12, e_alen12, e_aaload13, e_alen13, e_alen, e_invokevirtual, e_invokevirtualB, e_invokestatic, e_invokestaticB, ct_0, ct_i, ct_a, ct_l, os_0, os_s, rc_0, rc_s, sl_0, sl_i, sl_a, sl_l, simprocAttr, ix, z_em, up_eq, up_j, Nat.le_refl, true_or, or_true, true_and, and_true, and_self, or_self, beq_self_eq_true, if_true, if_false, ite_self, ca_f, ca_t, aLen, Int32.lt_iff_toInt_lt, Int32.le_iff_toInt_le, z_ite, z_iten, z_ite1, ite_not, not_true_eq_false, not_false_eq_true, false_and, and_false, false_or, or_false, b_max, b_min, b_minL, b_absL, b_ixD, b_ixH, b_copy, tk_0, tk_s, dr_0, dr_s, pu_s, pu_n, ca_0, ca_1, clr_0, clr_s, e_nop, e_goto, e_if_eq, e_if_ne, e_if_lt, e_if_ge, e_if_gt, e_if_le, e_ic_eq, e_ic_ne, e_ic_lt, e_ic_ge, e_ic_gt, e_ic_le, e_tsw, e_lsw, sw_0, sw_s, e_iret, e_zret, e_lret, e_aret, e_ret, en_0, en_n, en_i, en_a, en_l, List.getElem?_cons_zero, List.getElem?_cons_succ, List.set_cons_zero, List.set_cons_succ, len_s, List.length_nil, ne_eq, hc, nk, nR, ck, h1, h2, h3, e6, hx, r6, r2, if_neg q1, ← nI_succ]
theorem x_choose {d b : Nat} {w c : Int32} {μ : Mem} (hW : WFV (vC b μ)) : ∃ μ', cl d 52 [vR 6 b, vI w, vI c] μ = some (some (vL (chL w c (vC b μ) (vC b μ 0 1).toNatClampNeg)), μ') ∧ vC b μ' = chV w c (vC b μ) (vC b μ 0 1).toNatClampNeg ∧ FrC b μ μ' := by
  have g1 := gs1 hW
  have e1 : (vC b μ 0 1).toNatClampNeg = (vC b μ 0 1).toInt.toNat := rfl
  obtain ⟨μ1, a1, a2, a3⟩ := l_choose (d := d) (b := b) (w := w) (c := c) (R := (vC b μ 0 1).toNatClampNeg) (V0 := vC b μ) (by omega) (nI_ix g1.1).symm (vC b μ 0 1).toNatClampNeg 0 μ none none (by omega) rfl
  refine ⟨μ1, ?_, a2, a3⟩
  rw [← a1]
  simp -implicitDefEqProofs only [cl_52, u_52_0, e_iload_n, e_iload, e_lload_n, e_lload, e_aload_n, e_aload, e_istore_n, e_istore, e_astore_n, e_astore, e_lstore_n, e_lstore, e_iinc, e_iconst, e_bipush, e_sipush, e_ldc_w, e_ldc, e_ldcS, e_lconst, e_ldc2_w, e_iadd, e_isub, e_imul, e_iand, e_ixor, e_ishl, e_ishr, e_iushr, e_idiv, e_irem, e_ineg, e_i2b, e_i2s, e_i2c, e_ladd, e_lsub, e_lmul, e_land, e_lor, e_ldiv, e_lrem, e_lneg, e_lshl, e_lshr, e_lushr, e_i2l, e_l2i, e_lcmp, e_dupI, e_dupA, e_dup2, e_getI, e_getA, e_putI, e_putZ, e_getstatic, e_iaload, e_iastore, e_aaload10, e_alen10, e_aaload11, e_alen11, e_aaload12, e_alen12, e_aaload13, e_alen13, e_alen, e_invokevirtual, e_invokevirtualB, e_invokestatic, e_invokestaticB, ct_0, ct_i, ct_a, ct_l, os_0, os_s, rc_0, rc_s, sl_0, sl_i, sl_a, sl_l, simprocAttr, ix, z_em, up_eq, up_j, Nat.le_refl, true_or, or_true, true_and, and_true, and_self, or_self, beq_self_eq_true, if_true, if_false, ite_self, ca_f, ca_t, aLen, Int32.lt_iff_toInt_lt, Int32.le_iff_toInt_le, z_ite, z_iten, z_ite1, ite_not, not_true_eq_false, not_false_eq_true, false_and, and_false, false_or, or_false, b_max, b_min, b_minL, b_absL, b_ixD, b_ixH, b_copy, tk_0, tk_s, dr_0, dr_s, pu_s, pu_n, ca_0, ca_1, clr_0, clr_s, e_nop, e_goto, e_if_eq, e_if_ne, e_if_lt, e_if_ge, e_if_gt, e_if_le, e_ic_eq, e_ic_ne, e_ic_lt, e_ic_ge, e_ic_gt, e_ic_le, e_tsw, e_lsw, sw_0, sw_s, e_iret, e_zret, e_lret, e_aret, e_ret, en_0, en_n, en_i, en_a, en_l, List.getElem?_cons_zero, List.getElem?_cons_succ, List.set_cons_zero, List.set_cons_succ, len_s, List.length_nil]
  rfl
