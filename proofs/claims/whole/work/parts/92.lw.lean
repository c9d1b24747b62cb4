/-! THE LAW'S LOOP: its cases. -/
abbrev lwV (L i : Nat) : LV := [some (vR (1000 + L) 202), some (vR 7 0), some (vR 8 112), some (vI (nI i))]
theorem lw_ix {L i j : Nat} (hL : L < 2147483000) (hi : i + 6 ≤ L) (hj : j < 6) : nI i + nI j = nI (i + j) ∧ (nI (i + j)).toInt = (i + j : Nat) ∧ (nI (i + j)).toNatClampNeg = i + j ∧ ((0 : Int) ≤ ((i + j : Nat) : Int) ∧ ((i + j : Nat) : Int) < (L : Int)) :=
  ⟨nIa (by omega), nI_toInt (by omega), ix_nI (by omega), by omega, by omega⟩
theorem lg_self (a : Int64) : lg_cmp a a = 0 := by
  unfold lg_cmp
  simp
theorem q_worker {fz : Mem} {d L i : Nat} {μ : Mem} (h : RR fz μ) (hz : FZ fz) (hL : L < 2147483000) (hi : i + 6 ≤ L) : ∃ μ', RR fz μ' ∧ res (d + 8) 196 3 (lwV L i) [] μ = res (d + 8) 196 77 (lwV L i) [] μ' := by
  obtain ⟨a1, n1, c1, b1⟩ := lw_ix (j := 1) hL hi (by decide)
  rw [show nI 1 = (1 : Int32) from rfl] at a1
  have k1 : 100 ≤ 1000 + L := by omega
  have k2 : ¬ 1000 + L < 1000 := by omega
  have k3 : 1000 + L - 1000 = L := by omega
  obtain ⟨a, μ1, μ2, e0, e1, e2, hR⟩ := p_worker (d := d + 8) (note := μ 202 (i + 1)) h
  have s2 : μ1 202 = μ 202 := e0.trans h.u2.symm
  have e1' : cl (d + 8) 54 [Sum.inr (Sum.inr (7, 0)), vI (μ 202 (i + 1))] μ = _ := e1
  have e2' : cl (d + 8) 115 [Sum.inr (Sum.inr (8, 112)), vI (μ 202 (i + 1))] μ1 = _ := e2
  refine ⟨μ2, hR, ?_⟩
  simp -implicitDefEqProofs only [u_196_3, u_196_4, e_iload_n, e_iload, e_lload_n, e_lload, e_aload_n, e_aload, e_istore_n, e_istore, e_astore_n, e_astore, e_lstore_n, e_lstore, e_iinc, e_iconst, e_bipush, e_sipush, e_ldc_w, e_ldc, e_ldcS, e_lconst, e_ldc2_w, e_iadd, e_isub, e_imul, e_iand, e_ixor, e_ishl, e_ishr, e_iushr, e_idiv, e_irem, e_ineg, e_i2b, e_i2s, e_i2c, e_ladd, e_lsub, e_lmul, e_land, e_lor, e_ldiv, e_lrem, e_lneg, e_lshl, e_lshr, e_lushr, e_i2l, e_l2i, e_lcmp, e_dupI, e_dupA, e_dup2, e_getI, e_getA, e_putI, e_putZ, e_getstatic, e_iaload, e_iastore, e_aaload10, e_alen10, e_aaload11, e_alen11, e_aaload12, e_alen12, e_aaload13, e_alen13, e_alen, e_invokevirtual, e_invokevirtualB, e_invokestatic, e_invokestaticB, ct_0, ct_i, ct_a, ct_l, os_0, os_s, rc_0, rc_s, sl_0, sl_i, sl_a, sl_l, simprocAttr, ix, z_em, up_eq, up_j, Nat.le_refl, true_or, or_true, true_and, and_true, and_self, or_self, beq_self_eq_true, if_true, if_false, ite_self, ca_f, ca_t, aLen, Int32.lt_iff_toInt_lt, Int32.le_iff_toInt_le, z_ite, z_iten, z_ite1, ite_not, not_true_eq_false, not_false_eq_true, false_and, and_false, false_or, or_false, b_max, b_min, b_minL, b_absL, b_ixD, b_ixH, b_copy, tk_0, tk_s, dr_0, dr_s, pu_s, pu_n, ca_0, ca_1, clr_0, clr_s, e_nop, e_goto, e_if_eq, e_if_ne, e_if_lt, e_if_ge, e_if_gt, e_if_le, e_ic_eq, e_ic_ne, e_ic_lt, e_ic_ge, e_ic_gt, e_ic_le, e_tsw, e_lsw, sw_0, sw_s, e_iret, e_zret, e_lret, e_aret, e_ret, en_0, en_n, en_i, en_a, en_l, List.getElem?_cons_zero, List.getElem?_cons_succ, List.set_cons_zero, List.set_cons_succ, len_s, List.length_nil, a1, n1, c1, b1, k1, k2, k3, s2, e1', e2']
theorem q_workerIs {fz : Mem} {d L i : Nat} {μ : Mem} (h : RR fz μ) (hz : FZ fz) (hL : L < 2147483000) (hi : i + 6 ≤ L) : ∃ μ', RR fz μ' ∧ res (d + 8) 196 5 (lwV L i) [] μ = res (d + 8) 196 77 (lwV L i) [] μ' := by
  obtain ⟨a1, n1, c1, b1⟩ := lw_ix (j := 1) hL hi (by decide)
  rw [show nI 1 = (1 : Int32) from rfl] at a1
  obtain ⟨a2, n2, c2, b2⟩ := lw_ix (j := 2) hL hi (by decide)
  rw [show nI 2 = (2 : Int32) from rfl] at a2
  have k1 : 100 ≤ 1000 + L := by omega
  have k2 : ¬ 1000 + L < 1000 := by omega
  have k3 : 1000 + L - 1000 = L := by omega
  obtain ⟨a, μ1, μ2, e0, e1, e2, hR⟩ := p_workerIs (d := d + 8) (w := μ 202 (i + 1)) (k := μ 202 (i + 2)) h
  have s2 : μ1 202 = μ 202 := e0.trans h.u2.symm
  have e1' : cl (d + 8) 55 [Sum.inr (Sum.inr (7, 0)), vI (μ 202 (i + 1)), vI (μ 202 (i + 2))] μ = _ := e1
  have e2' : cl (d + 8) 116 [Sum.inr (Sum.inr (8, 112)), vI (μ 202 (i + 1)), vI (μ 202 (i + 2))] μ1 = _ := e2
  refine ⟨μ2, hR, ?_⟩
  simp -implicitDefEqProofs only [u_196_5, u_196_6, e_iload_n, e_iload, e_lload_n, e_lload, e_aload_n, e_aload, e_istore_n, e_istore, e_astore_n, e_astore, e_lstore_n, e_lstore, e_iinc, e_iconst, e_bipush, e_sipush, e_ldc_w, e_ldc, e_ldcS, e_lconst, e_ldc2_w, e_iadd, e_isub, e_imul, e_iand, e_ixor, e_ishl, e_ishr, e_iushr, e_idiv, e_irem, e_ineg, e_i2b, e_i2s, e_i2c, e_ladd, e_lsub, e_lmul, e_land, e_lor, e_ldiv, e_lrem, e_lneg, e_lshl, e_lshr, e_lushr, e_i2l, e_l2i, e_lcmp, e_dupI, e_dupA, e_dup2, e_getI, e_getA, e_putI, e_putZ, e_getstatic, e_iaload, e_iastore, e_aaload10, e_alen10, e_aaload11, e_alen11, e_aaload12, e_alen12, e_aaload13, e_alen13, e_alen, e_invokevirtual, e_invokevirtualB, e_invokestatic, e_invokestaticB, ct_0, ct_i, ct_a, ct_l, os_0, os_s, rc_0, rc_s, sl_0, sl_i, sl_a, sl_l, simprocAttr, ix, z_em, up_eq, up_j, Nat.le_refl, true_or, or_true, true_and, and_true, and_self, or_self, beq_self_eq_true, if_true, if_false, ite_self, ca_f, ca_t, aLen, Int32.lt_iff_toInt_lt, Int32.le_iff_toInt_le, z_ite, z_iten, z_ite1, ite_not, not_true_eq_false, not_false_eq_true, false_and, and_false, false_or, or_false, b_max, b_min, b_minL, b_absL, b_ixD, b_ixH, b_copy, tk_0, tk_s, dr_0, dr_s, pu_s, pu_n, ca_0, ca_1, clr_0, clr_s, e_nop, e_goto, e_if_eq, e_if_ne, e_if_lt, e_if_ge, e_if_gt, e_if_le, e_ic_eq, e_ic_ne, e_ic_lt, e_ic_ge, e_ic_gt, e_ic_le, e_tsw, e_lsw, sw_0, sw_s, e_iret, e_zret, e_lret, e_aret, e_ret, en_0, en_n, en_i, en_a, en_l, List.getElem?_cons_zero, List.getElem?_cons_succ, List.set_cons_zero, List.set_cons_succ, len_s, List.length_nil, a1, n1, c1, b1, a2, n2, c2, b2, k1, k2, k3, s2, e1', e2']
theorem q_setWorker {fz : Mem} {d L i : Nat} {μ : Mem} (h : RR fz μ) (hz : FZ fz) (hL : L < 2147483000) (hi : i + 6 ≤ L) : ∃ μ', RR fz μ' ∧ res (d + 8) 196 7 (lwV L i) [] μ = res (d + 8) 196 77 (lwV L i) [] μ' := by
  obtain ⟨a1, n1, c1, b1⟩ := lw_ix (j := 1) hL hi (by decide)
  rw [show nI 1 = (1 : Int32) from rfl] at a1
  obtain ⟨a2, n2, c2, b2⟩ := lw_ix (j := 2) hL hi (by decide)
  rw [show nI 2 = (2 : Int32) from rfl] at a2
  obtain ⟨a3, n3, c3, b3⟩ := lw_ix (j := 3) hL hi (by decide)
  rw [show nI 3 = (3 : Int32) from rfl] at a3
  have k1 : 100 ≤ 1000 + L := by omega
  have k2 : ¬ 1000 + L < 1000 := by omega
  have k3 : 1000 + L - 1000 = L := by omega
  obtain ⟨a, μ1, μ2, e0, e1, e2, hR⟩ := p_setWorker (d := d + 8) (w := μ 202 (i + 1)) (k := μ 202 (i + 2)) (v := μ 202 (i + 3)) h
  have s2 : μ1 202 = μ 202 := e0.trans h.u2.symm
  have e1' : cl (d + 8) 56 [Sum.inr (Sum.inr (7, 0)), vI (μ 202 (i + 1)), vI (μ 202 (i + 2)), vI (μ 202 (i + 3))] μ = _ := e1
  have e2' : cl (d + 8) 117 [Sum.inr (Sum.inr (8, 112)), vI (μ 202 (i + 1)), vI (μ 202 (i + 2)), vI (μ 202 (i + 3))] μ1 = _ := e2
  refine ⟨μ2, hR, ?_⟩
  simp -implicitDefEqProofs only [u_196_7, u_196_8, e_iload_n, e_iload, e_lload_n, e_lload, e_aload_n, e_aload, e_istore_n, e_istore, e_astore_n, e_astore, e_lstore_n, e_lstore, e_iinc, e_iconst, e_bipush, e_sipush, e_ldc_w, e_ldc, e_ldcS, e_lconst, e_ldc2_w, e_iadd, e_isub, e_imul, e_iand, e_ixor, e_ishl, e_ishr, e_iushr, e_idiv, e_irem, e_ineg, e_i2b, e_i2s, e_i2c, e_ladd, e_lsub, e_lmul, e_land, e_lor, e_ldiv, e_lrem, e_lneg, e_lshl, e_lshr, e_lushr, e_i2l, e_l2i, e_lcmp, e_dupI, e_dupA, e_dup2, e_getI, e_getA, e_putI, e_putZ, e_getstatic, e_iaload, e_iastore, e_aaload10, e_alen10, e_aaload11, e_alen11, e_aaload12, e_alen12, e_aaload13, e_alen13, e_alen, e_invokevirtual, e_invokevirtualB, e_invokestatic, e_invokestaticB, ct_0, ct_i, ct_a, ct_l, os_0, os_s, rc_0, rc_s, sl_0, sl_i, sl_a, sl_l, simprocAttr, ix, z_em, up_eq, up_j, Nat.le_refl, true_or, or_true, true_and, and_true, and_self, or_self, beq_self_eq_true, if_true, if_false, ite_self, ca_f, ca_t, aLen, Int32.lt_iff_toInt_lt, Int32.le_iff_toInt_le, z_ite, z_iten, z_ite1, ite_not, not_true_eq_false, not_false_eq_true, false_and, and_false, false_or, or_false, b_max, b_min, b_minL, b_absL, b_ixD, b_ixH, b_copy, tk_0, tk_s, dr_0, dr_s, pu_s, pu_n, ca_0, ca_1, clr_0, clr_s, e_nop, e_goto, e_if_eq, e_if_ne, e_if_lt, e_if_ge, e_if_gt, e_if_le, e_ic_eq, e_ic_ne, e_ic_lt, e_ic_ge, e_ic_gt, e_ic_le, e_tsw, e_lsw, sw_0, sw_s, e_iret, e_zret, e_lret, e_aret, e_ret, en_0, en_n, en_i, en_a, en_l, List.getElem?_cons_zero, List.getElem?_cons_succ, List.set_cons_zero, List.set_cons_succ, len_s, List.length_nil, a1, n1, c1, b1, a2, n2, c2, b2, a3, n3, c3, b3, k1, k2, k3, s2, e1', e2']
theorem q_step {fz : Mem} {d L i : Nat} {μ : Mem} (h : RR fz μ) (hz : FZ fz) (hL : L < 2147483000) (hi : i + 6 ≤ L) : ∃ μ', RR fz μ' ∧ res (d + 8) 196 9 (lwV L i) [] μ = res (d + 8) 196 77 (lwV L i) [] μ' := by
  obtain ⟨a1, n1, c1, b1⟩ := lw_ix (j := 1) hL hi (by decide)
  rw [show nI 1 = (1 : Int32) from rfl] at a1
  obtain ⟨a2, n2, c2, b2⟩ := lw_ix (j := 2) hL hi (by decide)
  rw [show nI 2 = (2 : Int32) from rfl] at a2
  obtain ⟨a3, n3, c3, b3⟩ := lw_ix (j := 3) hL hi (by decide)
  rw [show nI 3 = (3 : Int32) from rfl] at a3
  have k1 : 100 ≤ 1000 + L := by omega
  have k2 : ¬ 1000 + L < 1000 := by omega
  have k3 : 1000 + L - 1000 = L := by omega
  obtain ⟨a, μ1, μ2, e0, e1, e2, hR⟩ := p_step (d := d + 8) (w := μ 202 (i + 1)) (t := μ 202 (i + 2)) (k := μ 202 (i + 3)) h
  have s2 : μ1 202 = μ 202 := e0.trans h.u2.symm
  have e1' : cl (d + 8) 57 [Sum.inr (Sum.inr (7, 0)), vI (μ 202 (i + 1)), vI (μ 202 (i + 2)), vI (μ 202 (i + 3))] μ = _ := e1
  have e2' : cl (d + 8) 120 [Sum.inr (Sum.inr (8, 112)), vI (μ 202 (i + 1)), vI (μ 202 (i + 2)), vI (μ 202 (i + 3))] μ1 = _ := e2
  refine ⟨μ2, hR, ?_⟩
  simp -implicitDefEqProofs only [u_196_9, u_196_10, e_iload_n, e_iload, e_lload_n, e_lload, e_aload_n, e_aload, e_istore_n, e_istore, e_astore_n, e_astore, e_lstore_n, e_lstore, e_iinc, e_iconst, e_bipush, e_sipush, e_ldc_w, e_ldc, e_ldcS, e_lconst, e_ldc2_w, e_iadd, e_isub, e_imul, e_iand, e_ixor, e_ishl, e_ishr, e_iushr, e_idiv, e_irem, e_ineg, e_i2b, e_i2s, e_i2c, e_ladd, e_lsub, e_lmul, e_land, e_lor, e_ldiv, e_lrem, e_lneg, e_lshl, e_lshr, e_lushr, e_i2l, e_l2i, e_lcmp, e_dupI, e_dupA, e_dup2, e_getI, e_getA, e_putI, e_putZ, e_getstatic, e_iaload, e_iastore, e_aaload10, e_alen10, e_aaload11, e_alen11, e_aaload12, e_alen12, e_aaload13, e_alen13, e_alen, e_invokevirtual, e_invokevirtualB, e_invokestatic, e_invokestaticB, ct_0, ct_i, ct_a, ct_l, os_0, os_s, rc_0, rc_s, sl_0, sl_i, sl_a, sl_l, simprocAttr, ix, z_em, up_eq, up_j, Nat.le_refl, true_or, or_true, true_and, and_true, and_self, or_self, beq_self_eq_true, if_true, if_false, ite_self, ca_f, ca_t, aLen, Int32.lt_iff_toInt_lt, Int32.le_iff_toInt_le, z_ite, z_iten, z_ite1, ite_not, not_true_eq_false, not_false_eq_true, false_and, and_false, false_or, or_false, b_max, b_min, b_minL, b_absL, b_ixD, b_ixH, b_copy, tk_0, tk_s, dr_0, dr_s, pu_s, pu_n, ca_0, ca_1, clr_0, clr_s, e_nop, e_goto, e_if_eq, e_if_ne, e_if_lt, e_if_ge, e_if_gt, e_if_le, e_ic_eq, e_ic_ne, e_ic_lt, e_ic_ge, e_ic_gt, e_ic_le, e_tsw, e_lsw, sw_0, sw_s, e_iret, e_zret, e_lret, e_aret, e_ret, en_0, en_n, en_i, en_a, en_l, List.getElem?_cons_zero, List.getElem?_cons_succ, List.set_cons_zero, List.set_cons_succ, len_s, List.length_nil, a1, n1, c1, b1, a2, n2, c2, b2, a3, n3, c3, b3, k1, k2, k3, s2, e1', e2']
theorem q_stepIs {fz : Mem} {d L i : Nat} {μ : Mem} (h : RR fz μ) (hz : FZ fz) (hL : L < 2147483000) (hi : i + 6 ≤ L) : ∃ μ', RR fz μ' ∧ res (d + 8) 196 11 (lwV L i) [] μ = res (d + 8) 196 77 (lwV L i) [] μ' := by
  obtain ⟨a1, n1, c1, b1⟩ := lw_ix (j := 1) hL hi (by decide)
  rw [show nI 1 = (1 : Int32) from rfl] at a1
  obtain ⟨a2, n2, c2, b2⟩ := lw_ix (j := 2) hL hi (by decide)
  rw [show nI 2 = (2 : Int32) from rfl] at a2
  obtain ⟨a3, n3, c3, b3⟩ := lw_ix (j := 3) hL hi (by decide)
  rw [show nI 3 = (3 : Int32) from rfl] at a3
  have k1 : 100 ≤ 1000 + L := by omega
  have k2 : ¬ 1000 + L < 1000 := by omega
  have k3 : 1000 + L - 1000 = L := by omega
  obtain ⟨a, μ1, μ2, e0, e1, e2, hR⟩ := p_stepIs (d := d + 8) (w := μ 202 (i + 1)) (s := μ 202 (i + 2)) (k := μ 202 (i + 3)) h
  have s2 : μ1 202 = μ 202 := e0.trans h.u2.symm
  have e1' : cl (d + 8) 58 [Sum.inr (Sum.inr (7, 0)), vI (μ 202 (i + 1)), vI (μ 202 (i + 2)), vI (μ 202 (i + 3))] μ = _ := e1
  have e2' : cl (d + 8) 121 [Sum.inr (Sum.inr (8, 112)), vI (μ 202 (i + 1)), vI (μ 202 (i + 2)), vI (μ 202 (i + 3))] μ1 = _ := e2
  refine ⟨μ2, hR, ?_⟩
  simp -implicitDefEqProofs only [u_196_11, u_196_12, e_iload_n, e_iload, e_lload_n, e_lload, e_aload_n, e_aload, e_istore_n, e_istore, e_astore_n, e_astore, e_lstore_n, e_lstore, e_iinc, e_iconst, e_bipush, e_sipush, e_ldc_w, e_ldc, e_ldcS, e_lconst, e_ldc2_w, e_iadd, e_isub, e_imul, e_iand, e_ixor, e_ishl, e_ishr, e_iushr, e_idiv, e_irem, e_ineg, e_i2b, e_i2s, e_i2c, e_ladd, e_lsub, e_lmul, e_land, e_lor, e_ldiv, e_lrem, e_lneg, e_lshl, e_lshr, e_lushr, e_i2l, e_l2i, e_lcmp, e_dupI, e_dupA, e_dup2, e_getI, e_getA, e_putI, e_putZ, e_getstatic, e_iaload, e_iastore, e_aaload10, e_alen10, e_aaload11, e_alen11, e_aaload12, e_alen12, e_aaload13, e_alen13, e_alen, e_invokevirtual, e_invokevirtualB, e_invokestatic, e_invokestaticB, ct_0, ct_i, ct_a, ct_l, os_0, os_s, rc_0, rc_s, sl_0, sl_i, sl_a, sl_l, simprocAttr, ix, z_em, up_eq, up_j, Nat.le_refl, true_or, or_true, true_and, and_true, and_self, or_self, beq_self_eq_true, if_true, if_false, ite_self, ca_f, ca_t, aLen, Int32.lt_iff_toInt_lt, Int32.le_iff_toInt_le, z_ite, z_iten, z_ite1, ite_not, not_true_eq_false, not_false_eq_true, false_and, and_false, false_or, or_false, b_max, b_min, b_minL, b_absL, b_ixD, b_ixH, b_copy, tk_0, tk_s, dr_0, dr_s, pu_s, pu_n, ca_0, ca_1, clr_0, clr_s, e_nop, e_goto, e_if_eq, e_if_ne, e_if_lt, e_if_ge, e_if_gt, e_if_le, e_ic_eq, e_ic_ne, e_ic_lt, e_ic_ge, e_ic_gt, e_ic_le, e_tsw, e_lsw, sw_0, sw_s, e_iret, e_zret, e_lret, e_aret, e_ret, en_0, en_n, en_i, en_a, en_l, List.getElem?_cons_zero, List.getElem?_cons_succ, List.set_cons_zero, List.set_cons_succ, len_s, List.length_nil, a1, n1, c1, b1, a2, n2, c2, b2, a3, n3, c3, b3, k1, k2, k3, s2, e1', e2']
theorem q_rest {fz : Mem} {d L i : Nat} {μ : Mem} (h : RR fz μ) (hz : FZ fz) (hL : L < 2147483000) (hi : i + 6 ≤ L) : ∃ μ', RR fz μ' ∧ res (d + 8) 196 13 (lwV L i) [] μ = res (d + 8) 196 77 (lwV L i) [] μ' := by
  obtain ⟨a1, n1, c1, b1⟩ := lw_ix (j := 1) hL hi (by decide)
  rw [show nI 1 = (1 : Int32) from rfl] at a1
  obtain ⟨a2, n2, c2, b2⟩ := lw_ix (j := 2) hL hi (by decide)
  rw [show nI 2 = (2 : Int32) from rfl] at a2
  obtain ⟨a3, n3, c3, b3⟩ := lw_ix (j := 3) hL hi (by decide)
  rw [show nI 3 = (3 : Int32) from rfl] at a3
  obtain ⟨a4, n4, c4, b4⟩ := lw_ix (j := 4) hL hi (by decide)
  rw [show nI 4 = (4 : Int32) from rfl] at a4
  have k1 : 100 ≤ 1000 + L := by omega
  have k2 : ¬ 1000 + L < 1000 := by omega
  have k3 : 1000 + L - 1000 = L := by omega
  obtain ⟨a, μ1, μ2, e0, e1, e2, hR⟩ := p_rest (d := d + 8) (km := μ 202 (i + 1)) (w := μ 202 (i + 2)) (due := μ 202 (i + 3)) (t := μ 202 (i + 4)) h
  have s2 : μ1 202 = μ 202 := e0.trans h.u2.symm
  have e1' : cl (d + 8) 59 [Sum.inr (Sum.inr (7, 0)), vI (μ 202 (i + 1)), vI (μ 202 (i + 2)), vI (μ 202 (i + 3)), vI (μ 202 (i + 4))] μ = _ := e1
  have e2' : cl (d + 8) 122 [Sum.inr (Sum.inr (8, 112)), vI (μ 202 (i + 1)), vI (μ 202 (i + 2)), vI (μ 202 (i + 3)), vI (μ 202 (i + 4))] μ1 = _ := e2
  refine ⟨μ2, hR, ?_⟩
  simp -implicitDefEqProofs only [u_196_13, u_196_14, e_iload_n, e_iload, e_lload_n, e_lload, e_aload_n, e_aload, e_istore_n, e_istore, e_astore_n, e_astore, e_lstore_n, e_lstore, e_iinc, e_iconst, e_bipush, e_sipush, e_ldc_w, e_ldc, e_ldcS, e_lconst, e_ldc2_w, e_iadd, e_isub, e_imul, e_iand, e_ixor, e_ishl, e_ishr, e_iushr, e_idiv, e_irem, e_ineg, e_i2b, e_i2s, e_i2c, e_ladd, e_lsub, e_lmul, e_land, e_lor, e_ldiv, e_lrem, e_lneg, e_lshl, e_lshr, e_lushr, e_i2l, e_l2i, e_lcmp, e_dupI, e_dupA, e_dup2, e_getI, e_getA, e_putI, e_putZ, e_getstatic, e_iaload, e_iastore, e_aaload10, e_alen10, e_aaload11, e_alen11, e_aaload12, e_alen12, e_aaload13, e_alen13, e_alen, e_invokevirtual, e_invokevirtualB, e_invokestatic, e_invokestaticB, ct_0, ct_i, ct_a, ct_l, os_0, os_s, rc_0, rc_s, sl_0, sl_i, sl_a, sl_l, simprocAttr, ix, z_em, up_eq, up_j, Nat.le_refl, true_or, or_true, true_and, and_true, and_self, or_self, beq_self_eq_true, if_true, if_false, ite_self, ca_f, ca_t, aLen, Int32.lt_iff_toInt_lt, Int32.le_iff_toInt_le, z_ite, z_iten, z_ite1, ite_not, not_true_eq_false, not_false_eq_true, false_and, and_false, false_or, or_false, b_max, b_min, b_minL, b_absL, b_ixD, b_ixH, b_copy, tk_0, tk_s, dr_0, dr_s, pu_s, pu_n, ca_0, ca_1, clr_0, clr_s, e_nop, e_goto, e_if_eq, e_if_ne, e_if_lt, e_if_ge, e_if_gt, e_if_le, e_ic_eq, e_ic_ne, e_ic_lt, e_ic_ge, e_ic_gt, e_ic_le, e_tsw, e_lsw, sw_0, sw_s, e_iret, e_zret, e_lret, e_aret, e_ret, en_0, en_n, en_i, en_a, en_l, List.getElem?_cons_zero, List.getElem?_cons_succ, List.set_cons_zero, List.set_cons_succ, len_s, List.length_nil, a1, n1, c1, b1, a2, n2, c2, b2, a3, n3, c3, b3, a4, n4, c4, b4, k1, k2, k3, s2, e1', e2']
theorem q_restIs {fz : Mem} {d L i : Nat} {μ : Mem} (h : RR fz μ) (hz : FZ fz) (hL : L < 2147483000) (hi : i + 6 ≤ L) : ∃ μ', RR fz μ' ∧ res (d + 8) 196 15 (lwV L i) [] μ = res (d + 8) 196 77 (lwV L i) [] μ' := by
  obtain ⟨a1, n1, c1, b1⟩ := lw_ix (j := 1) hL hi (by decide)
  rw [show nI 1 = (1 : Int32) from rfl] at a1
  obtain ⟨a2, n2, c2, b2⟩ := lw_ix (j := 2) hL hi (by decide)
  rw [show nI 2 = (2 : Int32) from rfl] at a2
  have k1 : 100 ≤ 1000 + L := by omega
  have k2 : ¬ 1000 + L < 1000 := by omega
  have k3 : 1000 + L - 1000 = L := by omega
  obtain ⟨a, μ1, μ2, e0, e1, e2, hR⟩ := p_restIs (d := d + 8) (r := μ 202 (i + 1)) (k := μ 202 (i + 2)) h
  have s2 : μ1 202 = μ 202 := e0.trans h.u2.symm
  have e1' : cl (d + 8) 60 [Sum.inr (Sum.inr (7, 0)), vI (μ 202 (i + 1)), vI (μ 202 (i + 2))] μ = _ := e1
  have e2' : cl (d + 8) 123 [Sum.inr (Sum.inr (8, 112)), vI (μ 202 (i + 1)), vI (μ 202 (i + 2))] μ1 = _ := e2
  refine ⟨μ2, hR, ?_⟩
  simp -implicitDefEqProofs only [u_196_15, u_196_16, e_iload_n, e_iload, e_lload_n, e_lload, e_aload_n, e_aload, e_istore_n, e_istore, e_astore_n, e_astore, e_lstore_n, e_lstore, e_iinc, e_iconst, e_bipush, e_sipush, e_ldc_w, e_ldc, e_ldcS, e_lconst, e_ldc2_w, e_iadd, e_isub, e_imul, e_iand, e_ixor, e_ishl, e_ishr, e_iushr, e_idiv, e_irem, e_ineg, e_i2b, e_i2s, e_i2c, e_ladd, e_lsub, e_lmul, e_land, e_lor, e_ldiv, e_lrem, e_lneg, e_lshl, e_lshr, e_lushr, e_i2l, e_l2i, e_lcmp, e_dupI, e_dupA, e_dup2, e_getI, e_getA, e_putI, e_putZ, e_getstatic, e_iaload, e_iastore, e_aaload10, e_alen10, e_aaload11, e_alen11, e_aaload12, e_alen12, e_aaload13, e_alen13, e_alen, e_invokevirtual, e_invokevirtualB, e_invokestatic, e_invokestaticB, ct_0, ct_i, ct_a, ct_l, os_0, os_s, rc_0, rc_s, sl_0, sl_i, sl_a, sl_l, simprocAttr, ix, z_em, up_eq, up_j, Nat.le_refl, true_or, or_true, true_and, and_true, and_self, or_self, beq_self_eq_true, if_true, if_false, ite_self, ca_f, ca_t, aLen, Int32.lt_iff_toInt_lt, Int32.le_iff_toInt_le, z_ite, z_iten, z_ite1, ite_not, not_true_eq_false, not_false_eq_true, false_and, and_false, false_or, or_false, b_max, b_min, b_minL, b_absL, b_ixD, b_ixH, b_copy, tk_0, tk_s, dr_0, dr_s, pu_s, pu_n, ca_0, ca_1, clr_0, clr_s, e_nop, e_goto, e_if_eq, e_if_ne, e_if_lt, e_if_ge, e_if_gt, e_if_le, e_ic_eq, e_ic_ne, e_ic_lt, e_ic_ge, e_ic_gt, e_ic_le, e_tsw, e_lsw, sw_0, sw_s, e_iret, e_zret, e_lret, e_aret, e_ret, en_0, en_n, en_i, en_a, en_l, List.getElem?_cons_zero, List.getElem?_cons_succ, List.set_cons_zero, List.set_cons_succ, len_s, List.length_nil, a1, n1, c1, b1, a2, n2, c2, b2, k1, k2, k3, s2, e1', e2']
theorem q_as {fz : Mem} {d L i : Nat} {μ : Mem} (h : RR fz μ) (hz : FZ fz) (hL : L < 2147483000) (hi : i + 6 ≤ L) : ∃ μ', RR fz μ' ∧ res (d + 8) 196 17 (lwV L i) [] μ = res (d + 8) 196 77 (lwV L i) [] μ' := by
  obtain ⟨a1, n1, c1, b1⟩ := lw_ix (j := 1) hL hi (by decide)
  rw [show nI 1 = (1 : Int32) from rfl] at a1
  obtain ⟨a2, n2, c2, b2⟩ := lw_ix (j := 2) hL hi (by decide)
  rw [show nI 2 = (2 : Int32) from rfl] at a2
  have k1 : 100 ≤ 1000 + L := by omega
  have k2 : ¬ 1000 + L < 1000 := by omega
  have k3 : 1000 + L - 1000 = L := by omega
  obtain ⟨a, μ1, μ2, e0, e1, e2, hR⟩ := p_as (d := d + 8) (r := μ 202 (i + 1)) (k := μ 202 (i + 2)) h hz
  have s2 : μ1 202 = μ 202 := e0.trans h.u2.symm
  have e1' : cl (d + 8) 61 [Sum.inr (Sum.inr (7, 0)), vI (μ 202 (i + 1)), vI (μ 202 (i + 2))] μ = _ := e1
  have e2' : cl (d + 8) 125 [Sum.inr (Sum.inr (8, 112)), vI (μ 202 (i + 1)), vI (μ 202 (i + 2))] μ1 = _ := e2
  refine ⟨μ2, hR, ?_⟩
  simp -implicitDefEqProofs only [u_196_17, u_196_18, e_iload_n, e_iload, e_lload_n, e_lload, e_aload_n, e_aload, e_istore_n, e_istore, e_astore_n, e_astore, e_lstore_n, e_lstore, e_iinc, e_iconst, e_bipush, e_sipush, e_ldc_w, e_ldc, e_ldcS, e_lconst, e_ldc2_w, e_iadd, e_isub, e_imul, e_iand, e_ixor, e_ishl, e_ishr, e_iushr, e_idiv, e_irem, e_ineg, e_i2b, e_i2s, e_i2c, e_ladd, e_lsub, e_lmul, e_land, e_lor, e_ldiv, e_lrem, e_lneg, e_lshl, e_lshr, e_lushr, e_i2l, e_l2i, e_lcmp, e_dupI, e_dupA, e_dup2, e_getI, e_getA, e_putI, e_putZ, e_getstatic, e_iaload, e_iastore, e_aaload10, e_alen10, e_aaload11, e_alen11, e_aaload12, e_alen12, e_aaload13, e_alen13, e_alen, e_invokevirtual, e_invokevirtualB, e_invokestatic, e_invokestaticB, ct_0, ct_i, ct_a, ct_l, os_0, os_s, rc_0, rc_s, sl_0, sl_i, sl_a, sl_l, simprocAttr, ix, z_em, up_eq, up_j, Nat.le_refl, true_or, or_true, true_and, and_true, and_self, or_self, beq_self_eq_true, if_true, if_false, ite_self, ca_f, ca_t, aLen, Int32.lt_iff_toInt_lt, Int32.le_iff_toInt_le, z_ite, z_iten, z_ite1, ite_not, not_true_eq_false, not_false_eq_true, false_and, and_false, false_or, or_false, b_max, b_min, b_minL, b_absL, b_ixD, b_ixH, b_copy, tk_0, tk_s, dr_0, dr_s, pu_s, pu_n, ca_0, ca_1, clr_0, clr_s, e_nop, e_goto, e_if_eq, e_if_ne, e_if_lt, e_if_ge, e_if_gt, e_if_le, e_ic_eq, e_ic_ne, e_ic_lt, e_ic_ge, e_ic_gt, e_ic_le, e_tsw, e_lsw, sw_0, sw_s, e_iret, e_zret, e_lret, e_aret, e_ret, en_0, en_n, en_i, en_a, en_l, List.getElem?_cons_zero, List.getElem?_cons_succ, List.set_cons_zero, List.set_cons_succ, len_s, List.length_nil, a1, n1, c1, b1, a2, n2, c2, b2, k1, k2, k3, s2, e1', e2']
theorem q_setRest {fz : Mem} {d L i : Nat} {μ : Mem} (h : RR fz μ) (hz : FZ fz) (hL : L < 2147483000) (hi : i + 6 ≤ L) : ∃ μ', RR fz μ' ∧ res (d + 8) 196 19 (lwV L i) [] μ = res (d + 8) 196 77 (lwV L i) [] μ' := by
  obtain ⟨a1, n1, c1, b1⟩ := lw_ix (j := 1) hL hi (by decide)
  rw [show nI 1 = (1 : Int32) from rfl] at a1
  obtain ⟨a2, n2, c2, b2⟩ := lw_ix (j := 2) hL hi (by decide)
  rw [show nI 2 = (2 : Int32) from rfl] at a2
  obtain ⟨a3, n3, c3, b3⟩ := lw_ix (j := 3) hL hi (by decide)
  rw [show nI 3 = (3 : Int32) from rfl] at a3
  have k1 : 100 ≤ 1000 + L := by omega
  have k2 : ¬ 1000 + L < 1000 := by omega
  have k3 : 1000 + L - 1000 = L := by omega
  obtain ⟨a, μ1, μ2, e0, e1, e2, hR⟩ := p_setRest (d := d + 8) (r := μ 202 (i + 1)) (k := μ 202 (i + 2)) (v := μ 202 (i + 3)) h
  have s2 : μ1 202 = μ 202 := e0.trans h.u2.symm
  have e1' : cl (d + 8) 62 [Sum.inr (Sum.inr (7, 0)), vI (μ 202 (i + 1)), vI (μ 202 (i + 2)), vI (μ 202 (i + 3))] μ = _ := e1
  have e2' : cl (d + 8) 127 [Sum.inr (Sum.inr (8, 112)), vI (μ 202 (i + 1)), vI (μ 202 (i + 2)), vI (μ 202 (i + 3))] μ1 = _ := e2
  refine ⟨μ2, hR, ?_⟩
  simp -implicitDefEqProofs only [u_196_19, u_196_20, e_iload_n, e_iload, e_lload_n, e_lload, e_aload_n, e_aload, e_istore_n, e_istore, e_astore_n, e_astore, e_lstore_n, e_lstore, e_iinc, e_iconst, e_bipush, e_sipush, e_ldc_w, e_ldc, e_ldcS, e_lconst, e_ldc2_w, e_iadd, e_isub, e_imul, e_iand, e_ixor, e_ishl, e_ishr, e_iushr, e_idiv, e_irem, e_ineg, e_i2b, e_i2s, e_i2c, e_ladd, e_lsub, e_lmul, e_land, e_lor, e_ldiv, e_lrem, e_lneg, e_lshl, e_lshr, e_lushr, e_i2l, e_l2i, e_lcmp, e_dupI, e_dupA, e_dup2, e_getI, e_getA, e_putI, e_putZ, e_getstatic, e_iaload, e_iastore, e_aaload10, e_alen10, e_aaload11, e_alen11, e_aaload12, e_alen12, e_aaload13, e_alen13, e_alen, e_invokevirtual, e_invokevirtualB, e_invokestatic, e_invokestaticB, ct_0, ct_i, ct_a, ct_l, os_0, os_s, rc_0, rc_s, sl_0, sl_i, sl_a, sl_l, simprocAttr, ix, z_em, up_eq, up_j, Nat.le_refl, true_or, or_true, true_and, and_true, and_self, or_self, beq_self_eq_true, if_true, if_false, ite_self, ca_f, ca_t, aLen, Int32.lt_iff_toInt_lt, Int32.le_iff_toInt_le, z_ite, z_iten, z_ite1, ite_not, not_true_eq_false, not_false_eq_true, false_and, and_false, false_or, or_false, b_max, b_min, b_minL, b_absL, b_ixD, b_ixH, b_copy, tk_0, tk_s, dr_0, dr_s, pu_s, pu_n, ca_0, ca_1, clr_0, clr_s, e_nop, e_goto, e_if_eq, e_if_ne, e_if_lt, e_if_ge, e_if_gt, e_if_le, e_ic_eq, e_ic_ne, e_ic_lt, e_ic_ge, e_ic_gt, e_ic_le, e_tsw, e_lsw, sw_0, sw_s, e_iret, e_zret, e_lret, e_aret, e_ret, en_0, en_n, en_i, en_a, en_l, List.getElem?_cons_zero, List.getElem?_cons_succ, List.set_cons_zero, List.set_cons_succ, len_s, List.length_nil, a1, n1, c1, b1, a2, n2, c2, b2, a3, n3, c3, b3, k1, k2, k3, s2, e1', e2']
theorem q_quiet {fz : Mem} {d L i : Nat} {μ : Mem} (h : RR fz μ) (hz : FZ fz) (hL : L < 2147483000) (hi : i + 6 ≤ L) : ∃ μ', RR fz μ' ∧ res (d + 8) 196 21 (lwV L i) [] μ = res (d + 8) 196 77 (lwV L i) [] μ' := by
  obtain ⟨a1, n1, c1, b1⟩ := lw_ix (j := 1) hL hi (by decide)
  rw [show nI 1 = (1 : Int32) from rfl] at a1
  obtain ⟨a2, n2, c2, b2⟩ := lw_ix (j := 2) hL hi (by decide)
  rw [show nI 2 = (2 : Int32) from rfl] at a2
  have k1 : 100 ≤ 1000 + L := by omega
  have k2 : ¬ 1000 + L < 1000 := by omega
  have k3 : 1000 + L - 1000 = L := by omega
  obtain ⟨a, μ1, μ2, e0, e1, e2, hR⟩ := p_quiet (d := d + 8) (k := μ 202 (i + 1)) (v := μ 202 (i + 2)) h
  have s2 : μ1 202 = μ 202 := e0.trans h.u2.symm
  have e1' : cl (d + 8) 63 [Sum.inr (Sum.inr (7, 0)), vI (μ 202 (i + 1)), vI (μ 202 (i + 2))] μ = _ := e1
  have e2' : cl (d + 8) 128 [Sum.inr (Sum.inr (8, 112)), vI (μ 202 (i + 1)), vI (μ 202 (i + 2))] μ1 = _ := e2
  refine ⟨μ2, hR, ?_⟩
  simp -implicitDefEqProofs only [u_196_21, u_196_22, e_iload_n, e_iload, e_lload_n, e_lload, e_aload_n, e_aload, e_istore_n, e_istore, e_astore_n, e_astore, e_lstore_n, e_lstore, e_iinc, e_iconst, e_bipush, e_sipush, e_ldc_w, e_ldc, e_ldcS, e_lconst, e_ldc2_w, e_iadd, e_isub, e_imul, e_iand, e_ixor, e_ishl, e_ishr, e_iushr, e_idiv, e_irem, e_ineg, e_i2b, e_i2s, e_i2c, e_ladd, e_lsub, e_lmul, e_land, e_lor, e_ldiv, e_lrem, e_lneg, e_lshl, e_lshr, e_lushr, e_i2l, e_l2i, e_lcmp, e_dupI, e_dupA, e_dup2, e_getI, e_getA, e_putI, e_putZ, e_getstatic, e_iaload, e_iastore, e_aaload10, e_alen10, e_aaload11, e_alen11, e_aaload12, e_alen12, e_aaload13, e_alen13, e_alen, e_invokevirtual, e_invokevirtualB, e_invokestatic, e_invokestaticB, ct_0, ct_i, ct_a, ct_l, os_0, os_s, rc_0, rc_s, sl_0, sl_i, sl_a, sl_l, simprocAttr, ix, z_em, up_eq, up_j, Nat.le_refl, true_or, or_true, true_and, and_true, and_self, or_self, beq_self_eq_true, if_true, if_false, ite_self, ca_f, ca_t, aLen, Int32.lt_iff_toInt_lt, Int32.le_iff_toInt_le, z_ite, z_iten, z_ite1, ite_not, not_true_eq_false, not_false_eq_true, false_and, and_false, false_or, or_false, b_max, b_min, b_minL, b_absL, b_ixD, b_ixH, b_copy, tk_0, tk_s, dr_0, dr_s, pu_s, pu_n, ca_0, ca_1, clr_0, clr_s, e_nop, e_goto, e_if_eq, e_if_ne, e_if_lt, e_if_ge, e_if_gt, e_if_le, e_ic_eq, e_ic_ne, e_ic_lt, e_ic_ge, e_ic_gt, e_ic_le, e_tsw, e_lsw, sw_0, sw_s, e_iret, e_zret, e_lret, e_aret, e_ret, en_0, en_n, en_i, en_a, en_l, List.getElem?_cons_zero, List.getElem?_cons_succ, List.set_cons_zero, List.set_cons_succ, len_s, List.length_nil, a1, n1, c1, b1, a2, n2, c2, b2, k1, k2, k3, s2, e1', e2']
theorem q_feed {fz : Mem} {d L i : Nat} {μ : Mem} (h : RR fz μ) (hz : FZ fz) (hL : L < 2147483000) (hi : i + 6 ≤ L) : ∃ μ', RR fz μ' ∧ res (d + 8) 196 23 (lwV L i) [] μ = res (d + 8) 196 77 (lwV L i) [] μ' := by
  obtain ⟨a1, n1, c1, b1⟩ := lw_ix (j := 1) hL hi (by decide)
  rw [show nI 1 = (1 : Int32) from rfl] at a1
  obtain ⟨a2, n2, c2, b2⟩ := lw_ix (j := 2) hL hi (by decide)
  rw [show nI 2 = (2 : Int32) from rfl] at a2
  obtain ⟨a3, n3, c3, b3⟩ := lw_ix (j := 3) hL hi (by decide)
  rw [show nI 3 = (3 : Int32) from rfl] at a3
  have k1 : 100 ≤ 1000 + L := by omega
  have k2 : ¬ 1000 + L < 1000 := by omega
  have k3 : 1000 + L - 1000 = L := by omega
  obtain ⟨a, μ1, μ2, e0, e1, e2, hR⟩ := p_feed (d := d + 8) (w := ((μ 202 (i + 1)).toInt64 <<< ((32 : Int32).toInt64 &&& 63) ||| ((μ 202 (i + 2)).toInt64 &&& 4294967295))) (n := μ 202 (i + 3)) h
  have s2 : μ1 202 = μ 202 := e0.trans h.u2.symm
  have e1' : cl (d + 8) 64 [Sum.inr (Sum.inr (7, 0)), vL ((μ 202 (i + 1)).toInt64 <<< ((32 : Int32).toInt64 &&& 63) ||| ((μ 202 (i + 2)).toInt64 &&& 4294967295)), vI (μ 202 (i + 3))] μ = _ := e1
  have e2' : cl (d + 8) 129 [Sum.inr (Sum.inr (8, 112)), vL ((μ 202 (i + 1)).toInt64 <<< ((32 : Int32).toInt64 &&& 63) ||| ((μ 202 (i + 2)).toInt64 &&& 4294967295)), vI (μ 202 (i + 3))] μ1 = _ := e2
  refine ⟨μ2, hR, ?_⟩
  simp -implicitDefEqProofs only [u_196_23, u_196_24, e_iload_n, e_iload, e_lload_n, e_lload, e_aload_n, e_aload, e_istore_n, e_istore, e_astore_n, e_astore, e_lstore_n, e_lstore, e_iinc, e_iconst, e_bipush, e_sipush, e_ldc_w, e_ldc, e_ldcS, e_lconst, e_ldc2_w, e_iadd, e_isub, e_imul, e_iand, e_ixor, e_ishl, e_ishr, e_iushr, e_idiv, e_irem, e_ineg, e_i2b, e_i2s, e_i2c, e_ladd, e_lsub, e_lmul, e_land, e_lor, e_ldiv, e_lrem, e_lneg, e_lshl, e_lshr, e_lushr, e_i2l, e_l2i, e_lcmp, e_dupI, e_dupA, e_dup2, e_getI, e_getA, e_putI, e_putZ, e_getstatic, e_iaload, e_iastore, e_aaload10, e_alen10, e_aaload11, e_alen11, e_aaload12, e_alen12, e_aaload13, e_alen13, e_alen, e_invokevirtual, e_invokevirtualB, e_invokestatic, e_invokestaticB, ct_0, ct_i, ct_a, ct_l, os_0, os_s, rc_0, rc_s, sl_0, sl_i, sl_a, sl_l, simprocAttr, ix, z_em, up_eq, up_j, Nat.le_refl, true_or, or_true, true_and, and_true, and_self, or_self, beq_self_eq_true, if_true, if_false, ite_self, ca_f, ca_t, aLen, Int32.lt_iff_toInt_lt, Int32.le_iff_toInt_le, z_ite, z_iten, z_ite1, ite_not, not_true_eq_false, not_false_eq_true, false_and, and_false, false_or, or_false, b_max, b_min, b_minL, b_absL, b_ixD, b_ixH, b_copy, tk_0, tk_s, dr_0, dr_s, pu_s, pu_n, ca_0, ca_1, clr_0, clr_s, e_nop, e_goto, e_if_eq, e_if_ne, e_if_lt, e_if_ge, e_if_gt, e_if_le, e_ic_eq, e_ic_ne, e_ic_lt, e_ic_ge, e_ic_gt, e_ic_le, e_tsw, e_lsw, sw_0, sw_s, e_iret, e_zret, e_lret, e_aret, e_ret, en_0, en_n, en_i, en_a, en_l, List.getElem?_cons_zero, List.getElem?_cons_succ, List.set_cons_zero, List.set_cons_succ, len_s, List.length_nil, a1, n1, c1, b1, a2, n2, c2, b2, a3, n3, c3, b3, k1, k2, k3, s2, e1', e2']
theorem q_text {fz : Mem} {d L i : Nat} {μ : Mem} (h : RR fz μ) (hz : FZ fz) (hL : L < 2147483000) (hi : i + 6 ≤ L) : ∃ μ', RR fz μ' ∧ res (d + 8) 196 25 (lwV L i) [] μ = res (d + 8) 196 77 (lwV L i) [] μ' := by
  obtain ⟨a1, n1, c1, b1⟩ := lw_ix (j := 1) hL hi (by decide)
  rw [show nI 1 = (1 : Int32) from rfl] at a1
  have k1 : 100 ≤ 1000 + L := by omega
  have k2 : ¬ 1000 + L < 1000 := by omega
  have k3 : 1000 + L - 1000 = L := by omega
  obtain ⟨a, μ1, μ2, e0, e1, e2, hR⟩ := p_text (d := d + 2) (u := μ 202 (i + 1)) h
  have s2 : μ1 202 = μ 202 := e0.trans h.u2.symm
  have e1' : cl (d + 8) 65 [Sum.inr (Sum.inr (7, 0)), vI (μ 202 (i + 1))] μ = _ := e1
  have e2' : cl (d + 8) 141 [Sum.inr (Sum.inr (8, 112)), vI (μ 202 (i + 1))] μ1 = _ := e2
  refine ⟨μ2, hR, ?_⟩
  simp -implicitDefEqProofs only [u_196_25, u_196_26, e_iload_n, e_iload, e_lload_n, e_lload, e_aload_n, e_aload, e_istore_n, e_istore, e_astore_n, e_astore, e_lstore_n, e_lstore, e_iinc, e_iconst, e_bipush, e_sipush, e_ldc_w, e_ldc, e_ldcS, e_lconst, e_ldc2_w, e_iadd, e_isub, e_imul, e_iand, e_ixor, e_ishl, e_ishr, e_iushr, e_idiv, e_irem, e_ineg, e_i2b, e_i2s, e_i2c, e_ladd, e_lsub, e_lmul, e_land, e_lor, e_ldiv, e_lrem, e_lneg, e_lshl, e_lshr, e_lushr, e_i2l, e_l2i, e_lcmp, e_dupI, e_dupA, e_dup2, e_getI, e_getA, e_putI, e_putZ, e_getstatic, e_iaload, e_iastore, e_aaload10, e_alen10, e_aaload11, e_alen11, e_aaload12, e_alen12, e_aaload13, e_alen13, e_alen, e_invokevirtual, e_invokevirtualB, e_invokestatic, e_invokestaticB, ct_0, ct_i, ct_a, ct_l, os_0, os_s, rc_0, rc_s, sl_0, sl_i, sl_a, sl_l, simprocAttr, ix, z_em, up_eq, up_j, Nat.le_refl, true_or, or_true, true_and, and_true, and_self, or_self, beq_self_eq_true, if_true, if_false, ite_self, ca_f, ca_t, aLen, Int32.lt_iff_toInt_lt, Int32.le_iff_toInt_le, z_ite, z_iten, z_ite1, ite_not, not_true_eq_false, not_false_eq_true, false_and, and_false, false_or, or_false, b_max, b_min, b_minL, b_absL, b_ixD, b_ixH, b_copy, tk_0, tk_s, dr_0, dr_s, pu_s, pu_n, ca_0, ca_1, clr_0, clr_s, e_nop, e_goto, e_if_eq, e_if_ne, e_if_lt, e_if_ge, e_if_gt, e_if_le, e_ic_eq, e_ic_ne, e_ic_lt, e_ic_ge, e_ic_gt, e_ic_le, e_tsw, e_lsw, sw_0, sw_s, e_iret, e_zret, e_lret, e_aret, e_ret, en_0, en_n, en_i, en_a, en_l, List.getElem?_cons_zero, List.getElem?_cons_succ, List.set_cons_zero, List.set_cons_succ, len_s, List.length_nil, a1, n1, c1, b1, k1, k2, k3, s2, e1', e2']
theorem q_untell {fz : Mem} {d L i : Nat} {μ : Mem} (h : RR fz μ) (hz : FZ fz) (hL : L < 2147483000) (hi : i + 6 ≤ L) : ∃ μ', RR fz μ' ∧ res (d + 8) 196 27 (lwV L i) [] μ = res (d + 8) 196 77 (lwV L i) [] μ' := by
  obtain ⟨a1, n1, c1, b1⟩ := lw_ix (j := 1) hL hi (by decide)
  rw [show nI 1 = (1 : Int32) from rfl] at a1
  have k1 : 100 ≤ 1000 + L := by omega
  have k2 : ¬ 1000 + L < 1000 := by omega
  have k3 : 1000 + L - 1000 = L := by omega
  obtain ⟨a, μ1, μ2, e0, e1, e2, hR⟩ := p_untell (d := d + 8) (u := μ 202 (i + 1)) h
  have s2 : μ1 202 = μ 202 := e0.trans h.u2.symm
  have e1' : cl (d + 8) 66 [Sum.inr (Sum.inr (7, 0)), vI (μ 202 (i + 1))] μ = _ := e1
  have e2' : cl (d + 8) 142 [Sum.inr (Sum.inr (8, 112)), vI (μ 202 (i + 1))] μ1 = _ := e2
  refine ⟨μ2, hR, ?_⟩
  simp -implicitDefEqProofs only [u_196_27, u_196_28, e_iload_n, e_iload, e_lload_n, e_lload, e_aload_n, e_aload, e_istore_n, e_istore, e_astore_n, e_astore, e_lstore_n, e_lstore, e_iinc, e_iconst, e_bipush, e_sipush, e_ldc_w, e_ldc, e_ldcS, e_lconst, e_ldc2_w, e_iadd, e_isub, e_imul, e_iand, e_ixor, e_ishl, e_ishr, e_iushr, e_idiv, e_irem, e_ineg, e_i2b, e_i2s, e_i2c, e_ladd, e_lsub, e_lmul, e_land, e_lor, e_ldiv, e_lrem, e_lneg, e_lshl, e_lshr, e_lushr, e_i2l, e_l2i, e_lcmp, e_dupI, e_dupA, e_dup2, e_getI, e_getA, e_putI, e_putZ, e_getstatic, e_iaload, e_iastore, e_aaload10, e_alen10, e_aaload11, e_alen11, e_aaload12, e_alen12, e_aaload13, e_alen13, e_alen, e_invokevirtual, e_invokevirtualB, e_invokestatic, e_invokestaticB, ct_0, ct_i, ct_a, ct_l, os_0, os_s, rc_0, rc_s, sl_0, sl_i, sl_a, sl_l, simprocAttr, ix, z_em, up_eq, up_j, Nat.le_refl, true_or, or_true, true_and, and_true, and_self, or_self, beq_self_eq_true, if_true, if_false, ite_self, ca_f, ca_t, aLen, Int32.lt_iff_toInt_lt, Int32.le_iff_toInt_le, z_ite, z_iten, z_ite1, ite_not, not_true_eq_false, not_false_eq_true, false_and, and_false, false_or, or_false, b_max, b_min, b_minL, b_absL, b_ixD, b_ixH, b_copy, tk_0, tk_s, dr_0, dr_s, pu_s, pu_n, ca_0, ca_1, clr_0, clr_s, e_nop, e_goto, e_if_eq, e_if_ne, e_if_lt, e_if_ge, e_if_gt, e_if_le, e_ic_eq, e_ic_ne, e_ic_lt, e_ic_ge, e_ic_gt, e_ic_le, e_tsw, e_lsw, sw_0, sw_s, e_iret, e_zret, e_lret, e_aret, e_ret, en_0, en_n, en_i, en_a, en_l, List.getElem?_cons_zero, List.getElem?_cons_succ, List.set_cons_zero, List.set_cons_succ, len_s, List.length_nil, a1, n1, c1, b1, k1, k2, k3, s2, e1', e2']
theorem q_minutes {fz : Mem} {d L i : Nat} {μ : Mem} (h : RR fz μ) (hz : FZ fz) (hL : L < 2147483000) (hi : i + 6 ≤ L) : ∃ μ', RR fz μ' ∧ res (d + 8) 196 29 (lwV L i) [] μ = res (d + 8) 196 77 (lwV L i) [] μ' := by
  obtain ⟨a1, n1, c1, b1⟩ := lw_ix (j := 1) hL hi (by decide)
  rw [show nI 1 = (1 : Int32) from rfl] at a1
  have k1 : 100 ≤ 1000 + L := by omega
  have k2 : ¬ 1000 + L < 1000 := by omega
  have k3 : 1000 + L - 1000 = L := by omega
  obtain ⟨a, μ1, μ2, e0, e1, e2, hR⟩ := (p_min (d := d + 8) (n := μ 202 (i + 1)) h).1
  have s2 : μ1 202 = μ 202 := e0.trans h.u2.symm
  have e1' : cl (d + 8) 67 [Sum.inr (Sum.inr (7, 0)), vI (μ 202 (i + 1))] μ = _ := e1
  have e2' : cl (d + 8) 154 [Sum.inr (Sum.inr (8, 112)), vI (μ 202 (i + 1))] μ1 = _ := e2
  refine ⟨μ2, hR, ?_⟩
  simp -implicitDefEqProofs only [u_196_29, u_196_30, e_iload_n, e_iload, e_lload_n, e_lload, e_aload_n, e_aload, e_istore_n, e_istore, e_astore_n, e_astore, e_lstore_n, e_lstore, e_iinc, e_iconst, e_bipush, e_sipush, e_ldc_w, e_ldc, e_ldcS, e_lconst, e_ldc2_w, e_iadd, e_isub, e_imul, e_iand, e_ixor, e_ishl, e_ishr, e_iushr, e_idiv, e_irem, e_ineg, e_i2b, e_i2s, e_i2c, e_ladd, e_lsub, e_lmul, e_land, e_lor, e_ldiv, e_lrem, e_lneg, e_lshl, e_lshr, e_lushr, e_i2l, e_l2i, e_lcmp, e_dupI, e_dupA, e_dup2, e_getI, e_getA, e_putI, e_putZ, e_getstatic, e_iaload, e_iastore, e_aaload10, e_alen10, e_aaload11, e_alen11, e_aaload12, e_alen12, e_aaload13, e_alen13, e_alen, e_invokevirtual, e_invokevirtualB, e_invokestatic, e_invokestaticB, ct_0, ct_i, ct_a, ct_l, os_0, os_s, rc_0, rc_s, sl_0, sl_i, sl_a, sl_l, simprocAttr, ix, z_em, up_eq, up_j, Nat.le_refl, true_or, or_true, true_and, and_true, and_self, or_self, beq_self_eq_true, if_true, if_false, ite_self, ca_f, ca_t, aLen, Int32.lt_iff_toInt_lt, Int32.le_iff_toInt_le, z_ite, z_iten, z_ite1, ite_not, not_true_eq_false, not_false_eq_true, false_and, and_false, false_or, or_false, b_max, b_min, b_minL, b_absL, b_ixD, b_ixH, b_copy, tk_0, tk_s, dr_0, dr_s, pu_s, pu_n, ca_0, ca_1, clr_0, clr_s, e_nop, e_goto, e_if_eq, e_if_ne, e_if_lt, e_if_ge, e_if_gt, e_if_le, e_ic_eq, e_ic_ne, e_ic_lt, e_ic_ge, e_ic_gt, e_ic_le, e_tsw, e_lsw, sw_0, sw_s, e_iret, e_zret, e_lret, e_aret, e_ret, en_0, en_n, en_i, en_a, en_l, List.getElem?_cons_zero, List.getElem?_cons_succ, List.set_cons_zero, List.set_cons_succ, len_s, List.length_nil, a1, n1, c1, b1, k1, k2, k3, s2, e1', e2']
theorem q_loose {fz : Mem} {d L i : Nat} {μ : Mem} (h : RR fz μ) (hz : FZ fz) (hL : L < 2147483000) (hi : i + 6 ≤ L) : ∃ μ', RR fz μ' ∧ res (d + 8) 196 31 (lwV L i) [] μ = res (d + 8) 196 77 (lwV L i) [] μ' := by
  obtain ⟨a1, n1, c1, b1⟩ := lw_ix (j := 1) hL hi (by decide)
  rw [show nI 1 = (1 : Int32) from rfl] at a1
  have k1 : 100 ≤ 1000 + L := by omega
  have k2 : ¬ 1000 + L < 1000 := by omega
  have k3 : 1000 + L - 1000 = L := by omega
  obtain ⟨a, μ1, μ2, e0, e1, e2, hR⟩ := (p_min (d := d + 8) (n := μ 202 (i + 1)) h).2
  have s2 : μ1 202 = μ 202 := e0.trans h.u2.symm
  have e1' : cl (d + 8) 68 [Sum.inr (Sum.inr (7, 0)), vI (μ 202 (i + 1))] μ = _ := e1
  have e2' : cl (d + 8) 157 [Sum.inr (Sum.inr (8, 112)), vI (μ 202 (i + 1))] μ1 = _ := e2
  refine ⟨μ2, hR, ?_⟩
  simp -implicitDefEqProofs only [u_196_31, u_196_32, e_iload_n, e_iload, e_lload_n, e_lload, e_aload_n, e_aload, e_istore_n, e_istore, e_astore_n, e_astore, e_lstore_n, e_lstore, e_iinc, e_iconst, e_bipush, e_sipush, e_ldc_w, e_ldc, e_ldcS, e_lconst, e_ldc2_w, e_iadd, e_isub, e_imul, e_iand, e_ixor, e_ishl, e_ishr, e_iushr, e_idiv, e_irem, e_ineg, e_i2b, e_i2s, e_i2c, e_ladd, e_lsub, e_lmul, e_land, e_lor, e_ldiv, e_lrem, e_lneg, e_lshl, e_lshr, e_lushr, e_i2l, e_l2i, e_lcmp, e_dupI, e_dupA, e_dup2, e_getI, e_getA, e_putI, e_putZ, e_getstatic, e_iaload, e_iastore, e_aaload10, e_alen10, e_aaload11, e_alen11, e_aaload12, e_alen12, e_aaload13, e_alen13, e_alen, e_invokevirtual, e_invokevirtualB, e_invokestatic, e_invokestaticB, ct_0, ct_i, ct_a, ct_l, os_0, os_s, rc_0, rc_s, sl_0, sl_i, sl_a, sl_l, simprocAttr, ix, z_em, up_eq, up_j, Nat.le_refl, true_or, or_true, true_and, and_true, and_self, or_self, beq_self_eq_true, if_true, if_false, ite_self, ca_f, ca_t, aLen, Int32.lt_iff_toInt_lt, Int32.le_iff_toInt_le, z_ite, z_iten, z_ite1, ite_not, not_true_eq_false, not_false_eq_true, false_and, and_false, false_or, or_false, b_max, b_min, b_minL, b_absL, b_ixD, b_ixH, b_copy, tk_0, tk_s, dr_0, dr_s, pu_s, pu_n, ca_0, ca_1, clr_0, clr_s, e_nop, e_goto, e_if_eq, e_if_ne, e_if_lt, e_if_ge, e_if_gt, e_if_le, e_ic_eq, e_ic_ne, e_ic_lt, e_ic_ge, e_ic_gt, e_ic_le, e_tsw, e_lsw, sw_0, sw_s, e_iret, e_zret, e_lret, e_aret, e_ret, en_0, en_n, en_i, en_a, en_l, List.getElem?_cons_zero, List.getElem?_cons_succ, List.set_cons_zero, List.set_cons_succ, len_s, List.length_nil, a1, n1, c1, b1, k1, k2, k3, s2, e1', e2']
theorem q_seed {fz : Mem} {d L i : Nat} {μ : Mem} (h : RR fz μ) (hz : FZ fz) (hL : L < 2147483000) (hi : i + 6 ≤ L) : ∃ μ', RR fz μ' ∧ res (d + 8) 196 33 (lwV L i) [] μ = res (d + 8) 196 77 (lwV L i) [] μ' := by
  obtain ⟨a1, n1, c1, b1⟩ := lw_ix (j := 1) hL hi (by decide)
  rw [show nI 1 = (1 : Int32) from rfl] at a1
  have k1 : 100 ≤ 1000 + L := by omega
  have k2 : ¬ 1000 + L < 1000 := by omega
  have k3 : 1000 + L - 1000 = L := by omega
  obtain ⟨a, μ1, μ2, e0, e1, e2, hR⟩ := p_seed (d := d + 8) (v := μ 202 (i + 1)) h
  have s2 : μ1 202 = μ 202 := e0.trans h.u2.symm
  have e1' : cl (d + 8) 69 [Sum.inr (Sum.inr (7, 0)), vI (μ 202 (i + 1))] μ = _ := e1
  have e2' : cl (d + 8) 158 [Sum.inr (Sum.inr (8, 112)), vI (μ 202 (i + 1))] μ1 = _ := e2
  refine ⟨μ2, hR, ?_⟩
  simp -implicitDefEqProofs only [u_196_33, u_196_34, e_iload_n, e_iload, e_lload_n, e_lload, e_aload_n, e_aload, e_istore_n, e_istore, e_astore_n, e_astore, e_lstore_n, e_lstore, e_iinc, e_iconst, e_bipush, e_sipush, e_ldc_w, e_ldc, e_ldcS, e_lconst, e_ldc2_w, e_iadd, e_isub, e_imul, e_iand, e_ixor, e_ishl, e_ishr, e_iushr, e_idiv, e_irem, e_ineg, e_i2b, e_i2s, e_i2c, e_ladd, e_lsub, e_lmul, e_land, e_lor, e_ldiv, e_lrem, e_lneg, e_lshl, e_lshr, e_lushr, e_i2l, e_l2i, e_lcmp, e_dupI, e_dupA, e_dup2, e_getI, e_getA, e_putI, e_putZ, e_getstatic, e_iaload, e_iastore, e_aaload10, e_alen10, e_aaload11, e_alen11, e_aaload12, e_alen12, e_aaload13, e_alen13, e_alen, e_invokevirtual, e_invokevirtualB, e_invokestatic, e_invokestaticB, ct_0, ct_i, ct_a, ct_l, os_0, os_s, rc_0, rc_s, sl_0, sl_i, sl_a, sl_l, simprocAttr, ix, z_em, up_eq, up_j, Nat.le_refl, true_or, or_true, true_and, and_true, and_self, or_self, beq_self_eq_true, if_true, if_false, ite_self, ca_f, ca_t, aLen, Int32.lt_iff_toInt_lt, Int32.le_iff_toInt_le, z_ite, z_iten, z_ite1, ite_not, not_true_eq_false, not_false_eq_true, false_and, and_false, false_or, or_false, b_max, b_min, b_minL, b_absL, b_ixD, b_ixH, b_copy, tk_0, tk_s, dr_0, dr_s, pu_s, pu_n, ca_0, ca_1, clr_0, clr_s, e_nop, e_goto, e_if_eq, e_if_ne, e_if_lt, e_if_ge, e_if_gt, e_if_le, e_ic_eq, e_ic_ne, e_ic_lt, e_ic_ge, e_ic_gt, e_ic_le, e_tsw, e_lsw, sw_0, sw_s, e_iret, e_zret, e_lret, e_aret, e_ret, en_0, en_n, en_i, en_a, en_l, List.getElem?_cons_zero, List.getElem?_cons_succ, List.set_cons_zero, List.set_cons_succ, len_s, List.length_nil, a1, n1, c1, b1, k1, k2, k3, s2, e1', e2']
theorem q_then {fz : Mem} {d L i : Nat} {μ : Mem} (h : RR fz μ) (hz : FZ fz) (hL : L < 2147483000) (hi : i + 6 ≤ L) : ∃ μ', RR fz μ' ∧ res (d + 8) 196 35 (lwV L i) [] μ = res (d + 8) 196 77 (lwV L i) [] μ' := by
  obtain ⟨a1, n1, c1, b1⟩ := lw_ix (j := 1) hL hi (by decide)
  rw [show nI 1 = (1 : Int32) from rfl] at a1
  obtain ⟨a2, n2, c2, b2⟩ := lw_ix (j := 2) hL hi (by decide)
  rw [show nI 2 = (2 : Int32) from rfl] at a2
  obtain ⟨a3, n3, c3, b3⟩ := lw_ix (j := 3) hL hi (by decide)
  rw [show nI 3 = (3 : Int32) from rfl] at a3
  have k1 : 100 ≤ 1000 + L := by omega
  have k2 : ¬ 1000 + L < 1000 := by omega
  have k3 : 1000 + L - 1000 = L := by omega
  obtain ⟨a, μ1, μ2, e0, e1, e2, hR⟩ := p_then (d := d + 8) (n := μ 202 (i + 1)) (w := μ 202 (i + 2)) (k := μ 202 (i + 3)) h
  have s2 : μ1 202 = μ 202 := e0.trans h.u2.symm
  have e1' : cl (d + 8) 70 [Sum.inr (Sum.inr (7, 0)), vI (μ 202 (i + 1)), vI (μ 202 (i + 2)), vI (μ 202 (i + 3))] μ = _ := e1
  have e2' : cl (d + 8) 160 [Sum.inr (Sum.inr (8, 112)), vI (μ 202 (i + 1)), vI (μ 202 (i + 2)), vI (μ 202 (i + 3))] μ1 = _ := e2
  refine ⟨μ2, hR, ?_⟩
  simp -implicitDefEqProofs only [u_196_35, u_196_36, e_iload_n, e_iload, e_lload_n, e_lload, e_aload_n, e_aload, e_istore_n, e_istore, e_astore_n, e_astore, e_lstore_n, e_lstore, e_iinc, e_iconst, e_bipush, e_sipush, e_ldc_w, e_ldc, e_ldcS, e_lconst, e_ldc2_w, e_iadd, e_isub, e_imul, e_iand, e_ixor, e_ishl, e_ishr, e_iushr, e_idiv, e_irem, e_ineg, e_i2b, e_i2s, e_i2c, e_ladd, e_lsub, e_lmul, e_land, e_lor, e_ldiv, e_lrem, e_lneg, e_lshl, e_lshr, e_lushr, e_i2l, e_l2i, e_lcmp, e_dupI, e_dupA, e_dup2, e_getI, e_getA, e_putI, e_putZ, e_getstatic, e_iaload, e_iastore, e_aaload10, e_alen10, e_aaload11, e_alen11, e_aaload12, e_alen12, e_aaload13, e_alen13, e_alen, e_invokevirtual, e_invokevirtualB, e_invokestatic, e_invokestaticB, ct_0, ct_i, ct_a, ct_l, os_0, os_s, rc_0, rc_s, sl_0, sl_i, sl_a, sl_l, simprocAttr, ix, z_em, up_eq, up_j, Nat.le_refl, true_or, or_true, true_and, and_true, and_self, or_self, beq_self_eq_true, if_true, if_false, ite_self, ca_f, ca_t, aLen, Int32.lt_iff_toInt_lt, Int32.le_iff_toInt_le, z_ite, z_iten, z_ite1, ite_not, not_true_eq_false, not_false_eq_true, false_and, and_false, false_or, or_false, b_max, b_min, b_minL, b_absL, b_ixD, b_ixH, b_copy, tk_0, tk_s, dr_0, dr_s, pu_s, pu_n, ca_0, ca_1, clr_0, clr_s, e_nop, e_goto, e_if_eq, e_if_ne, e_if_lt, e_if_ge, e_if_gt, e_if_le, e_ic_eq, e_ic_ne, e_ic_lt, e_ic_ge, e_ic_gt, e_ic_le, e_tsw, e_lsw, sw_0, sw_s, e_iret, e_zret, e_lret, e_aret, e_ret, en_0, en_n, en_i, en_a, en_l, List.getElem?_cons_zero, List.getElem?_cons_succ, List.set_cons_zero, List.set_cons_succ, len_s, List.length_nil, a1, n1, c1, b1, a2, n2, c2, b2, a3, n3, c3, b3, k1, k2, k3, s2, e1', e2']
theorem q_waits {fz : Mem} {d L i : Nat} {μ : Mem} (h : RR fz μ) (hz : FZ fz) (hL : L < 2147483000) (hi : i + 6 ≤ L) : ∃ μ', RR fz μ' ∧ res (d + 8) 196 37 (lwV L i) [] μ = res (d + 8) 196 77 (lwV L i) [] μ' := by
  obtain ⟨a1, n1, c1, b1⟩ := lw_ix (j := 1) hL hi (by decide)
  rw [show nI 1 = (1 : Int32) from rfl] at a1
  have k1 : 100 ≤ 1000 + L := by omega
  have k2 : ¬ 1000 + L < 1000 := by omega
  have k3 : 1000 + L - 1000 = L := by omega
  obtain ⟨a, μ1, μ2, e0, e1, e2, hR⟩ := p_waits (d := d + 8) (n := μ 202 (i + 1)) h
  have s2 : μ1 202 = μ 202 := e0.trans h.u2.symm
  have e1' : cl (d + 8) 71 [Sum.inr (Sum.inr (7, 0)), vI (μ 202 (i + 1))] μ = _ := e1
  have e2' : cl (d + 8) 162 [Sum.inr (Sum.inr (8, 112)), vI (μ 202 (i + 1))] μ1 = _ := e2
  refine ⟨μ2, hR, ?_⟩
  simp -implicitDefEqProofs only [u_196_37, u_196_38, e_iload_n, e_iload, e_lload_n, e_lload, e_aload_n, e_aload, e_istore_n, e_istore, e_astore_n, e_astore, e_lstore_n, e_lstore, e_iinc, e_iconst, e_bipush, e_sipush, e_ldc_w, e_ldc, e_ldcS, e_lconst, e_ldc2_w, e_iadd, e_isub, e_imul, e_iand, e_ixor, e_ishl, e_ishr, e_iushr, e_idiv, e_irem, e_ineg, e_i2b, e_i2s, e_i2c, e_ladd, e_lsub, e_lmul, e_land, e_lor, e_ldiv, e_lrem, e_lneg, e_lshl, e_lshr, e_lushr, e_i2l, e_l2i, e_lcmp, e_dupI, e_dupA, e_dup2, e_getI, e_getA, e_putI, e_putZ, e_getstatic, e_iaload, e_iastore, e_aaload10, e_alen10, e_aaload11, e_alen11, e_aaload12, e_alen12, e_aaload13, e_alen13, e_alen, e_invokevirtual, e_invokevirtualB, e_invokestatic, e_invokestaticB, ct_0, ct_i, ct_a, ct_l, os_0, os_s, rc_0, rc_s, sl_0, sl_i, sl_a, sl_l, simprocAttr, ix, z_em, up_eq, up_j, Nat.le_refl, true_or, or_true, true_and, and_true, and_self, or_self, beq_self_eq_true, if_true, if_false, ite_self, ca_f, ca_t, aLen, Int32.lt_iff_toInt_lt, Int32.le_iff_toInt_le, z_ite, z_iten, z_ite1, ite_not, not_true_eq_false, not_false_eq_true, false_and, and_false, false_or, or_false, b_max, b_min, b_minL, b_absL, b_ixD, b_ixH, b_copy, tk_0, tk_s, dr_0, dr_s, pu_s, pu_n, ca_0, ca_1, clr_0, clr_s, e_nop, e_goto, e_if_eq, e_if_ne, e_if_lt, e_if_ge, e_if_gt, e_if_le, e_ic_eq, e_ic_ne, e_ic_lt, e_ic_ge, e_ic_gt, e_ic_le, e_tsw, e_lsw, sw_0, sw_s, e_iret, e_zret, e_lret, e_aret, e_ret, en_0, en_n, en_i, en_a, en_l, List.getElem?_cons_zero, List.getElem?_cons_succ, List.set_cons_zero, List.set_cons_succ, len_s, List.length_nil, a1, n1, c1, b1, k1, k2, k3, s2, e1', e2']
theorem q_cost {fz : Mem} {d L i : Nat} {μ : Mem} (h : RR fz μ) (hz : FZ fz) (hL : L < 2147483000) (hi : i + 6 ≤ L) : ∃ μ', RR fz μ' ∧ res (d + 8) 196 39 (lwV L i) [] μ = res (d + 8) 196 77 (lwV L i) [] μ' := by
  obtain ⟨a1, n1, c1, b1⟩ := lw_ix (j := 1) hL hi (by decide)
  rw [show nI 1 = (1 : Int32) from rfl] at a1
  obtain ⟨a2, n2, c2, b2⟩ := lw_ix (j := 2) hL hi (by decide)
  rw [show nI 2 = (2 : Int32) from rfl] at a2
  have k1 : 100 ≤ 1000 + L := by omega
  have k2 : ¬ 1000 + L < 1000 := by omega
  have k3 : 1000 + L - 1000 = L := by omega
  obtain ⟨a, μ1, μ2, e0, e1, e2, hR⟩ := p_cost (d := d + 8) (r := μ 202 (i + 1)) (n := μ 202 (i + 2)) h
  have s2 : μ1 202 = μ 202 := e0.trans h.u2.symm
  have e1' : cl (d + 8) 72 [Sum.inr (Sum.inr (7, 0)), vI (μ 202 (i + 1)), vI (μ 202 (i + 2))] μ = _ := e1
  have e2' : cl (d + 8) 165 [Sum.inr (Sum.inr (8, 112)), vI (μ 202 (i + 1)), vI (μ 202 (i + 2))] μ1 = _ := e2
  refine ⟨μ2, hR, ?_⟩
  simp -implicitDefEqProofs only [u_196_39, u_196_40, e_iload_n, e_iload, e_lload_n, e_lload, e_aload_n, e_aload, e_istore_n, e_istore, e_astore_n, e_astore, e_lstore_n, e_lstore, e_iinc, e_iconst, e_bipush, e_sipush, e_ldc_w, e_ldc, e_ldcS, e_lconst, e_ldc2_w, e_iadd, e_isub, e_imul, e_iand, e_ixor, e_ishl, e_ishr, e_iushr, e_idiv, e_irem, e_ineg, e_i2b, e_i2s, e_i2c, e_ladd, e_lsub, e_lmul, e_land, e_lor, e_ldiv, e_lrem, e_lneg, e_lshl, e_lshr, e_lushr, e_i2l, e_l2i, e_lcmp, e_dupI, e_dupA, e_dup2, e_getI, e_getA, e_putI, e_putZ, e_getstatic, e_iaload, e_iastore, e_aaload10, e_alen10, e_aaload11, e_alen11, e_aaload12, e_alen12, e_aaload13, e_alen13, e_alen, e_invokevirtual, e_invokevirtualB, e_invokestatic, e_invokestaticB, ct_0, ct_i, ct_a, ct_l, os_0, os_s, rc_0, rc_s, sl_0, sl_i, sl_a, sl_l, simprocAttr, ix, z_em, up_eq, up_j, Nat.le_refl, true_or, or_true, true_and, and_true, and_self, or_self, beq_self_eq_true, if_true, if_false, ite_self, ca_f, ca_t, aLen, Int32.lt_iff_toInt_lt, Int32.le_iff_toInt_le, z_ite, z_iten, z_ite1, ite_not, not_true_eq_false, not_false_eq_true, false_and, and_false, false_or, or_false, b_max, b_min, b_minL, b_absL, b_ixD, b_ixH, b_copy, tk_0, tk_s, dr_0, dr_s, pu_s, pu_n, ca_0, ca_1, clr_0, clr_s, e_nop, e_goto, e_if_eq, e_if_ne, e_if_lt, e_if_ge, e_if_gt, e_if_le, e_ic_eq, e_ic_ne, e_ic_lt, e_ic_ge, e_ic_gt, e_ic_le, e_tsw, e_lsw, sw_0, sw_s, e_iret, e_zret, e_lret, e_aret, e_ret, en_0, en_n, en_i, en_a, en_l, List.getElem?_cons_zero, List.getElem?_cons_succ, List.set_cons_zero, List.set_cons_succ, len_s, List.length_nil, a1, n1, c1, b1, a2, n2, c2, b2, k1, k2, k3, s2, e1', e2']
theorem q_refuse {fz : Mem} {d L i : Nat} {μ : Mem} (h : RR fz μ) (hz : FZ fz) (hL : L < 2147483000) (hi : i + 6 ≤ L) : ∃ μ', RR fz μ' ∧ res (d + 8) 196 41 (lwV L i) [] μ = res (d + 8) 196 77 (lwV L i) [] μ' := by
  obtain ⟨a1, n1, c1, b1⟩ := lw_ix (j := 1) hL hi (by decide)
  rw [show nI 1 = (1 : Int32) from rfl] at a1
  obtain ⟨a2, n2, c2, b2⟩ := lw_ix (j := 2) hL hi (by decide)
  rw [show nI 2 = (2 : Int32) from rfl] at a2
  have k1 : 100 ≤ 1000 + L := by omega
  have k2 : ¬ 1000 + L < 1000 := by omega
  have k3 : 1000 + L - 1000 = L := by omega
  obtain ⟨a, μ1, μ2, e0, e1, e2, hR⟩ := p_refuse (d := d + 8) (w := μ 202 (i + 1)) (n := μ 202 (i + 2)) h
  have s2 : μ1 202 = μ 202 := e0.trans h.u2.symm
  have e1' : cl (d + 8) 73 [Sum.inr (Sum.inr (7, 0)), vI (μ 202 (i + 1)), vI (μ 202 (i + 2))] μ = _ := e1
  have e2' : cl (d + 8) 166 [Sum.inr (Sum.inr (8, 112)), vI (μ 202 (i + 1)), vI (μ 202 (i + 2))] μ1 = _ := e2
  refine ⟨μ2, hR, ?_⟩
  simp -implicitDefEqProofs only [u_196_41, u_196_42, e_iload_n, e_iload, e_lload_n, e_lload, e_aload_n, e_aload, e_istore_n, e_istore, e_astore_n, e_astore, e_lstore_n, e_lstore, e_iinc, e_iconst, e_bipush, e_sipush, e_ldc_w, e_ldc, e_ldcS, e_lconst, e_ldc2_w, e_iadd, e_isub, e_imul, e_iand, e_ixor, e_ishl, e_ishr, e_iushr, e_idiv, e_irem, e_ineg, e_i2b, e_i2s, e_i2c, e_ladd, e_lsub, e_lmul, e_land, e_lor, e_ldiv, e_lrem, e_lneg, e_lshl, e_lshr, e_lushr, e_i2l, e_l2i, e_lcmp, e_dupI, e_dupA, e_dup2, e_getI, e_getA, e_putI, e_putZ, e_getstatic, e_iaload, e_iastore, e_aaload10, e_alen10, e_aaload11, e_alen11, e_aaload12, e_alen12, e_aaload13, e_alen13, e_alen, e_invokevirtual, e_invokevirtualB, e_invokestatic, e_invokestaticB, ct_0, ct_i, ct_a, ct_l, os_0, os_s, rc_0, rc_s, sl_0, sl_i, sl_a, sl_l, simprocAttr, ix, z_em, up_eq, up_j, Nat.le_refl, true_or, or_true, true_and, and_true, and_self, or_self, beq_self_eq_true, if_true, if_false, ite_self, ca_f, ca_t, aLen, Int32.lt_iff_toInt_lt, Int32.le_iff_toInt_le, z_ite, z_iten, z_ite1, ite_not, not_true_eq_false, not_false_eq_true, false_and, and_false, false_or, or_false, b_max, b_min, b_minL, b_absL, b_ixD, b_ixH, b_copy, tk_0, tk_s, dr_0, dr_s, pu_s, pu_n, ca_0, ca_1, clr_0, clr_s, e_nop, e_goto, e_if_eq, e_if_ne, e_if_lt, e_if_ge, e_if_gt, e_if_le, e_ic_eq, e_ic_ne, e_ic_lt, e_ic_ge, e_ic_gt, e_ic_le, e_tsw, e_lsw, sw_0, sw_s, e_iret, e_zret, e_lret, e_aret, e_ret, en_0, en_n, en_i, en_a, en_l, List.getElem?_cons_zero, List.getElem?_cons_succ, List.set_cons_zero, List.set_cons_succ, len_s, List.length_nil, a1, n1, c1, b1, a2, n2, c2, b2, k1, k2, k3, s2, e1', e2']
theorem q_best {fz : Mem} {d L i : Nat} {μ : Mem} (h : RR fz μ) (hz : FZ fz) (hL : L < 2147483000) (hi : i + 6 ≤ L) : ∃ μ', RR fz μ' ∧ res (d + 8) 196 43 (lwV L i) [] μ = res (d + 8) 196 77 (lwV L i) [] μ' := by
  obtain ⟨a1, n1, c1, b1⟩ := lw_ix (j := 1) hL hi (by decide)
  rw [show nI 1 = (1 : Int32) from rfl] at a1
  obtain ⟨a2, n2, c2, b2⟩ := lw_ix (j := 2) hL hi (by decide)
  rw [show nI 2 = (2 : Int32) from rfl] at a2
  have k1 : 100 ≤ 1000 + L := by omega
  have k2 : ¬ 1000 + L < 1000 := by omega
  have k3 : 1000 + L - 1000 = L := by omega
  obtain ⟨a, μ1, μ2, e0, e1, e2, hR⟩ := p_best (d := d + 8) (r := μ 202 (i + 1)) (n := μ 202 (i + 2)) h
  have s2 : μ1 202 = μ 202 := e0.trans h.u2.symm
  have e1' : cl (d + 8) 74 [Sum.inr (Sum.inr (7, 0)), vI (μ 202 (i + 1)), vI (μ 202 (i + 2))] μ = _ := e1
  have e2' : cl (d + 8) 167 [Sum.inr (Sum.inr (8, 112)), vI (μ 202 (i + 1)), vI (μ 202 (i + 2))] μ1 = _ := e2
  refine ⟨μ2, hR, ?_⟩
  simp -implicitDefEqProofs only [u_196_43, u_196_44, e_iload_n, e_iload, e_lload_n, e_lload, e_aload_n, e_aload, e_istore_n, e_istore, e_astore_n, e_astore, e_lstore_n, e_lstore, e_iinc, e_iconst, e_bipush, e_sipush, e_ldc_w, e_ldc, e_ldcS, e_lconst, e_ldc2_w, e_iadd, e_isub, e_imul, e_iand, e_ixor, e_ishl, e_ishr, e_iushr, e_idiv, e_irem, e_ineg, e_i2b, e_i2s, e_i2c, e_ladd, e_lsub, e_lmul, e_land, e_lor, e_ldiv, e_lrem, e_lneg, e_lshl, e_lshr, e_lushr, e_i2l, e_l2i, e_lcmp, e_dupI, e_dupA, e_dup2, e_getI, e_getA, e_putI, e_putZ, e_getstatic, e_iaload, e_iastore, e_aaload10, e_alen10, e_aaload11, e_alen11, e_aaload12, e_alen12, e_aaload13, e_alen13, e_alen, e_invokevirtual, e_invokevirtualB, e_invokestatic, e_invokestaticB, ct_0, ct_i, ct_a, ct_l, os_0, os_s, rc_0, rc_s, sl_0, sl_i, sl_a, sl_l, simprocAttr, ix, z_em, up_eq, up_j, Nat.le_refl, true_or, or_true, true_and, and_true, and_self, or_self, beq_self_eq_true, if_true, if_false, ite_self, ca_f, ca_t, aLen, Int32.lt_iff_toInt_lt, Int32.le_iff_toInt_le, z_ite, z_iten, z_ite1, ite_not, not_true_eq_false, not_false_eq_true, false_and, and_false, false_or, or_false, b_max, b_min, b_minL, b_absL, b_ixD, b_ixH, b_copy, tk_0, tk_s, dr_0, dr_s, pu_s, pu_n, ca_0, ca_1, clr_0, clr_s, e_nop, e_goto, e_if_eq, e_if_ne, e_if_lt, e_if_ge, e_if_gt, e_if_le, e_ic_eq, e_ic_ne, e_ic_lt, e_ic_ge, e_ic_gt, e_ic_le, e_tsw, e_lsw, sw_0, sw_s, e_iret, e_zret, e_lret, e_aret, e_ret, en_0, en_n, en_i, en_a, en_l, List.getElem?_cons_zero, List.getElem?_cons_succ, List.set_cons_zero, List.set_cons_succ, len_s, List.length_nil, a1, n1, c1, b1, a2, n2, c2, b2, k1, k2, k3, s2, e1', e2']
theorem q_heap {fz : Mem} {d L i : Nat} {μ : Mem} (h : RR fz μ) (hz : FZ fz) (hL : L < 2147483000) (hi : i + 6 ≤ L) : ∃ μ', RR fz μ' ∧ res (d + 8) 196 45 (lwV L i) [] μ = res (d + 8) 196 77 (lwV L i) [] μ' := by
  obtain ⟨a1, n1, c1, b1⟩ := lw_ix (j := 1) hL hi (by decide)
  rw [show nI 1 = (1 : Int32) from rfl] at a1
  have k1 : 100 ≤ 1000 + L := by omega
  have k2 : ¬ 1000 + L < 1000 := by omega
  have k3 : 1000 + L - 1000 = L := by omega
  obtain ⟨a, μ1, μ2, e0, e1, e2, hR⟩ := p_heap (d := d + 8) (h := μ 202 (i + 1)) h
  have s2 : μ1 202 = μ 202 := e0.trans h.u2.symm
  have e1' : cl (d + 8) 75 [Sum.inr (Sum.inr (7, 0)), vI (μ 202 (i + 1))] μ = _ := e1
  have e2' : cl (d + 8) 168 [Sum.inr (Sum.inr (8, 112)), vI (μ 202 (i + 1))] μ1 = _ := e2
  refine ⟨μ2, hR, ?_⟩
  simp -implicitDefEqProofs only [u_196_45, u_196_46, e_iload_n, e_iload, e_lload_n, e_lload, e_aload_n, e_aload, e_istore_n, e_istore, e_astore_n, e_astore, e_lstore_n, e_lstore, e_iinc, e_iconst, e_bipush, e_sipush, e_ldc_w, e_ldc, e_ldcS, e_lconst, e_ldc2_w, e_iadd, e_isub, e_imul, e_iand, e_ixor, e_ishl, e_ishr, e_iushr, e_idiv, e_irem, e_ineg, e_i2b, e_i2s, e_i2c, e_ladd, e_lsub, e_lmul, e_land, e_lor, e_ldiv, e_lrem, e_lneg, e_lshl, e_lshr, e_lushr, e_i2l, e_l2i, e_lcmp, e_dupI, e_dupA, e_dup2, e_getI, e_getA, e_putI, e_putZ, e_getstatic, e_iaload, e_iastore, e_aaload10, e_alen10, e_aaload11, e_alen11, e_aaload12, e_alen12, e_aaload13, e_alen13, e_alen, e_invokevirtual, e_invokevirtualB, e_invokestatic, e_invokestaticB, ct_0, ct_i, ct_a, ct_l, os_0, os_s, rc_0, rc_s, sl_0, sl_i, sl_a, sl_l, simprocAttr, ix, z_em, up_eq, up_j, Nat.le_refl, true_or, or_true, true_and, and_true, and_self, or_self, beq_self_eq_true, if_true, if_false, ite_self, ca_f, ca_t, aLen, Int32.lt_iff_toInt_lt, Int32.le_iff_toInt_le, z_ite, z_iten, z_ite1, ite_not, not_true_eq_false, not_false_eq_true, false_and, and_false, false_or, or_false, b_max, b_min, b_minL, b_absL, b_ixD, b_ixH, b_copy, tk_0, tk_s, dr_0, dr_s, pu_s, pu_n, ca_0, ca_1, clr_0, clr_s, e_nop, e_goto, e_if_eq, e_if_ne, e_if_lt, e_if_ge, e_if_gt, e_if_le, e_ic_eq, e_ic_ne, e_ic_lt, e_ic_ge, e_ic_gt, e_ic_le, e_tsw, e_lsw, sw_0, sw_s, e_iret, e_zret, e_lret, e_aret, e_ret, en_0, en_n, en_i, en_a, en_l, List.getElem?_cons_zero, List.getElem?_cons_succ, List.set_cons_zero, List.set_cons_succ, len_s, List.length_nil, a1, n1, c1, b1, k1, k2, k3, s2, e1', e2']
theorem q_odds {fz : Mem} {d L i : Nat} {μ : Mem} (h : RR fz μ) (hz : FZ fz) (hL : L < 2147483000) (hi : i + 6 ≤ L) : ∃ μ', RR fz μ' ∧ res (d + 8) 196 47 (lwV L i) [] μ = res (d + 8) 196 77 (lwV L i) [] μ' := by
  obtain ⟨a1, n1, c1, b1⟩ := lw_ix (j := 1) hL hi (by decide)
  rw [show nI 1 = (1 : Int32) from rfl] at a1
  obtain ⟨a2, n2, c2, b2⟩ := lw_ix (j := 2) hL hi (by decide)
  rw [show nI 2 = (2 : Int32) from rfl] at a2
  obtain ⟨a3, n3, c3, b3⟩ := lw_ix (j := 3) hL hi (by decide)
  rw [show nI 3 = (3 : Int32) from rfl] at a3
  obtain ⟨a4, n4, c4, b4⟩ := lw_ix (j := 4) hL hi (by decide)
  rw [show nI 4 = (4 : Int32) from rfl] at a4
  have k1 : 100 ≤ 1000 + L := by omega
  have k2 : ¬ 1000 + L < 1000 := by omega
  have k3 : 1000 + L - 1000 = L := by omega
  obtain ⟨a, μ1, μ2, e0, e1, e2, hR⟩ := p_odds (d := d + 8) (w := μ 202 (i + 1)) (n := μ 202 (i + 2)) (t := μ 202 (i + 3)) (p := μ 202 (i + 4)) h
  have s2 : μ1 202 = μ 202 := e0.trans h.u2.symm
  have e1' : cl (d + 8) 76 [Sum.inr (Sum.inr (7, 0)), vI (μ 202 (i + 1)), vI (μ 202 (i + 2)), vI (μ 202 (i + 3)), vI (μ 202 (i + 4))] μ = _ := e1
  have e2' : cl (d + 8) 170 [Sum.inr (Sum.inr (8, 112)), vI (μ 202 (i + 1)), vI (μ 202 (i + 2)), vI (μ 202 (i + 3)), vI (μ 202 (i + 4))] μ1 = _ := e2
  refine ⟨μ2, hR, ?_⟩
  simp -implicitDefEqProofs only [u_196_47, u_196_48, e_iload_n, e_iload, e_lload_n, e_lload, e_aload_n, e_aload, e_istore_n, e_istore, e_astore_n, e_astore, e_lstore_n, e_lstore, e_iinc, e_iconst, e_bipush, e_sipush, e_ldc_w, e_ldc, e_ldcS, e_lconst, e_ldc2_w, e_iadd, e_isub, e_imul, e_iand, e_ixor, e_ishl, e_ishr, e_iushr, e_idiv, e_irem, e_ineg, e_i2b, e_i2s, e_i2c, e_ladd, e_lsub, e_lmul, e_land, e_lor, e_ldiv, e_lrem, e_lneg, e_lshl, e_lshr, e_lushr, e_i2l, e_l2i, e_lcmp, e_dupI, e_dupA, e_dup2, e_getI, e_getA, e_putI, e_putZ, e_getstatic, e_iaload, e_iastore, e_aaload10, e_alen10, e_aaload11, e_alen11, e_aaload12, e_alen12, e_aaload13, e_alen13, e_alen, e_invokevirtual, e_invokevirtualB, e_invokestatic, e_invokestaticB, ct_0, ct_i, ct_a, ct_l, os_0, os_s, rc_0, rc_s, sl_0, sl_i, sl_a, sl_l, simprocAttr, ix, z_em, up_eq, up_j, Nat.le_refl, true_or, or_true, true_and, and_true, and_self, or_self, beq_self_eq_true, if_true, if_false, ite_self, ca_f, ca_t, aLen, Int32.lt_iff_toInt_lt, Int32.le_iff_toInt_le, z_ite, z_iten, z_ite1, ite_not, not_true_eq_false, not_false_eq_true, false_and, and_false, false_or, or_false, b_max, b_min, b_minL, b_absL, b_ixD, b_ixH, b_copy, tk_0, tk_s, dr_0, dr_s, pu_s, pu_n, ca_0, ca_1, clr_0, clr_s, e_nop, e_goto, e_if_eq, e_if_ne, e_if_lt, e_if_ge, e_if_gt, e_if_le, e_ic_eq, e_ic_ne, e_ic_lt, e_ic_ge, e_ic_gt, e_ic_le, e_tsw, e_lsw, sw_0, sw_s, e_iret, e_zret, e_lret, e_aret, e_ret, en_0, en_n, en_i, en_a, en_l, List.getElem?_cons_zero, List.getElem?_cons_succ, List.set_cons_zero, List.set_cons_succ, len_s, List.length_nil, a1, n1, c1, b1, a2, n2, c2, b2, a3, n3, c3, b3, a4, n4, c4, b4, k1, k2, k3, s2, e1', e2', lg_self]
theorem q_voice {fz : Mem} {d L i : Nat} {μ : Mem} (h : RR fz μ) (hz : FZ fz) (hL : L < 2147483000) (hi : i + 6 ≤ L) : ∃ μ', RR fz μ' ∧ res (d + 8) 196 49 (lwV L i) [] μ = res (d + 8) 196 77 (lwV L i) [] μ' := by
  obtain ⟨a1, n1, c1, b1⟩ := lw_ix (j := 1) hL hi (by decide)
  rw [show nI 1 = (1 : Int32) from rfl] at a1
  obtain ⟨a2, n2, c2, b2⟩ := lw_ix (j := 2) hL hi (by decide)
  rw [show nI 2 = (2 : Int32) from rfl] at a2
  obtain ⟨a3, n3, c3, b3⟩ := lw_ix (j := 3) hL hi (by decide)
  rw [show nI 3 = (3 : Int32) from rfl] at a3
  have k1 : 100 ≤ 1000 + L := by omega
  have k2 : ¬ 1000 + L < 1000 := by omega
  have k3 : 1000 + L - 1000 = L := by omega
  obtain ⟨a, μ1, μ2, e0, e1, e2, hR⟩ := p_voice (d := d) (r := μ 202 (i + 1)) (v := μ 202 (i + 2)) (x := μ 202 (i + 3)) h hz
  have s2 : μ1 202 = μ 202 := e0.trans h.u2.symm
  have e1' : cl (d + 8) 77 [Sum.inr (Sum.inr (7, 0)), vI (μ 202 (i + 1)), vI (μ 202 (i + 2)), vI (μ 202 (i + 3))] μ = _ := e1
  have e2' : cl (d + 8) 179 [Sum.inr (Sum.inr (8, 112)), vI (μ 202 (i + 1)), vI (μ 202 (i + 2)), vI (μ 202 (i + 3))] μ1 = _ := e2
  refine ⟨μ2, hR, ?_⟩
  simp -implicitDefEqProofs only [u_196_49, u_196_50, e_iload_n, e_iload, e_lload_n, e_lload, e_aload_n, e_aload, e_istore_n, e_istore, e_astore_n, e_astore, e_lstore_n, e_lstore, e_iinc, e_iconst, e_bipush, e_sipush, e_ldc_w, e_ldc, e_ldcS, e_lconst, e_ldc2_w, e_iadd, e_isub, e_imul, e_iand, e_ixor, e_ishl, e_ishr, e_iushr, e_idiv, e_irem, e_ineg, e_i2b, e_i2s, e_i2c, e_ladd, e_lsub, e_lmul, e_land, e_lor, e_ldiv, e_lrem, e_lneg, e_lshl, e_lshr, e_lushr, e_i2l, e_l2i, e_lcmp, e_dupI, e_dupA, e_dup2, e_getI, e_getA, e_putI, e_putZ, e_getstatic, e_iaload, e_iastore, e_aaload10, e_alen10, e_aaload11, e_alen11, e_aaload12, e_alen12, e_aaload13, e_alen13, e_alen, e_invokevirtual, e_invokevirtualB, e_invokestatic, e_invokestaticB, ct_0, ct_i, ct_a, ct_l, os_0, os_s, rc_0, rc_s, sl_0, sl_i, sl_a, sl_l, simprocAttr, ix, z_em, up_eq, up_j, Nat.le_refl, true_or, or_true, true_and, and_true, and_self, or_self, beq_self_eq_true, if_true, if_false, ite_self, ca_f, ca_t, aLen, Int32.lt_iff_toInt_lt, Int32.le_iff_toInt_le, z_ite, z_iten, z_ite1, ite_not, not_true_eq_false, not_false_eq_true, false_and, and_false, false_or, or_false, b_max, b_min, b_minL, b_absL, b_ixD, b_ixH, b_copy, tk_0, tk_s, dr_0, dr_s, pu_s, pu_n, ca_0, ca_1, clr_0, clr_s, e_nop, e_goto, e_if_eq, e_if_ne, e_if_lt, e_if_ge, e_if_gt, e_if_le, e_ic_eq, e_ic_ne, e_ic_lt, e_ic_ge, e_ic_gt, e_ic_le, e_tsw, e_lsw, sw_0, sw_s, e_iret, e_zret, e_lret, e_aret, e_ret, en_0, en_n, en_i, en_a, en_l, List.getElem?_cons_zero, List.getElem?_cons_succ, List.set_cons_zero, List.set_cons_succ, len_s, List.length_nil, a1, n1, c1, b1, a2, n2, c2, b2, a3, n3, c3, b3, k1, k2, k3, s2, e1', e2']
theorem q_body {fz : Mem} {d L i : Nat} {μ : Mem} (h : RR fz μ) (hz : FZ fz) (hL : L < 2147483000) (hi : i + 6 ≤ L) : ∃ μ', RR fz μ' ∧ res (d + 8) 196 51 (lwV L i) [] μ = res (d + 8) 196 77 (lwV L i) [] μ' := by
  obtain ⟨a1, n1, c1, b1⟩ := lw_ix (j := 1) hL hi (by decide)
  rw [show nI 1 = (1 : Int32) from rfl] at a1
  have k1 : 100 ≤ 1000 + L := by omega
  have k2 : ¬ 1000 + L < 1000 := by omega
  have k3 : 1000 + L - 1000 = L := by omega
  obtain ⟨a, μ1, μ2, e0, e1, e2, hR⟩ := p_body (d := d + 8) (i := μ 202 (i + 1)) h
  have s2 : μ1 202 = μ 202 := e0.trans h.u2.symm
  have e1' : cl (d + 8) 78 [Sum.inr (Sum.inr (7, 0)), vI (μ 202 (i + 1))] μ = _ := e1
  have e2' : cl (d + 8) 180 [Sum.inr (Sum.inr (8, 112)), vI (μ 202 (i + 1))] μ1 = _ := e2
  refine ⟨μ2, hR, ?_⟩
  simp -implicitDefEqProofs only [u_196_51, u_196_52, e_iload_n, e_iload, e_lload_n, e_lload, e_aload_n, e_aload, e_istore_n, e_istore, e_astore_n, e_astore, e_lstore_n, e_lstore, e_iinc, e_iconst, e_bipush, e_sipush, e_ldc_w, e_ldc, e_ldcS, e_lconst, e_ldc2_w, e_iadd, e_isub, e_imul, e_iand, e_ixor, e_ishl, e_ishr, e_iushr, e_idiv, e_irem, e_ineg, e_i2b, e_i2s, e_i2c, e_ladd, e_lsub, e_lmul, e_land, e_lor, e_ldiv, e_lrem, e_lneg, e_lshl, e_lshr, e_lushr, e_i2l, e_l2i, e_lcmp, e_dupI, e_dupA, e_dup2, e_getI, e_getA, e_putI, e_putZ, e_getstatic, e_iaload, e_iastore, e_aaload10, e_alen10, e_aaload11, e_alen11, e_aaload12, e_alen12, e_aaload13, e_alen13, e_alen, e_invokevirtual, e_invokevirtualB, e_invokestatic, e_invokestaticB, ct_0, ct_i, ct_a, ct_l, os_0, os_s, rc_0, rc_s, sl_0, sl_i, sl_a, sl_l, simprocAttr, ix, z_em, up_eq, up_j, Nat.le_refl, true_or, or_true, true_and, and_true, and_self, or_self, beq_self_eq_true, if_true, if_false, ite_self, ca_f, ca_t, aLen, Int32.lt_iff_toInt_lt, Int32.le_iff_toInt_le, z_ite, z_iten, z_ite1, ite_not, not_true_eq_false, not_false_eq_true, false_and, and_false, false_or, or_false, b_max, b_min, b_minL, b_absL, b_ixD, b_ixH, b_copy, tk_0, tk_s, dr_0, dr_s, pu_s, pu_n, ca_0, ca_1, clr_0, clr_s, e_nop, e_goto, e_if_eq, e_if_ne, e_if_lt, e_if_ge, e_if_gt, e_if_le, e_ic_eq, e_ic_ne, e_ic_lt, e_ic_ge, e_ic_gt, e_ic_le, e_tsw, e_lsw, sw_0, sw_s, e_iret, e_zret, e_lret, e_aret, e_ret, en_0, en_n, en_i, en_a, en_l, List.getElem?_cons_zero, List.getElem?_cons_succ, List.set_cons_zero, List.set_cons_succ, len_s, List.length_nil, a1, n1, c1, b1, k1, k2, k3, s2, e1', e2']
theorem q_sheet {fz : Mem} {d L i : Nat} {μ : Mem} (h : RR fz μ) (hz : FZ fz) (hL : L < 2147483000) (hi : i + 6 ≤ L) : ∃ μ', RR fz μ' ∧ res (d + 8) 196 53 (lwV L i) [] μ = res (d + 8) 196 77 (lwV L i) [] μ' := by
  obtain ⟨a1, n1, c1, b1⟩ := lw_ix (j := 1) hL hi (by decide)
  rw [show nI 1 = (1 : Int32) from rfl] at a1
  obtain ⟨a2, n2, c2, b2⟩ := lw_ix (j := 2) hL hi (by decide)
  rw [show nI 2 = (2 : Int32) from rfl] at a2
  obtain ⟨a3, n3, c3, b3⟩ := lw_ix (j := 3) hL hi (by decide)
  rw [show nI 3 = (3 : Int32) from rfl] at a3
  have k1 : 100 ≤ 1000 + L := by omega
  have k2 : ¬ 1000 + L < 1000 := by omega
  have k3 : 1000 + L - 1000 = L := by omega
  obtain ⟨a, μ1, μ2, e0, e1, e2, hR⟩ := p_sheet (d := d + 8) (s := μ 202 (i + 1)) (b := μ 202 (i + 2)) (n := μ 202 (i + 3)) h
  have s2 : μ1 202 = μ 202 := e0.trans h.u2.symm
  have e1' : cl (d + 8) 79 [Sum.inr (Sum.inr (7, 0)), vI (μ 202 (i + 1)), vI (μ 202 (i + 2)), vI (μ 202 (i + 3))] μ = _ := e1
  have e2' : cl (d + 8) 182 [Sum.inr (Sum.inr (8, 112)), vI (μ 202 (i + 1)), vI (μ 202 (i + 2)), vI (μ 202 (i + 3))] μ1 = _ := e2
  refine ⟨μ2, hR, ?_⟩
  simp -implicitDefEqProofs only [u_196_53, u_196_54, e_iload_n, e_iload, e_lload_n, e_lload, e_aload_n, e_aload, e_istore_n, e_istore, e_astore_n, e_astore, e_lstore_n, e_lstore, e_iinc, e_iconst, e_bipush, e_sipush, e_ldc_w, e_ldc, e_ldcS, e_lconst, e_ldc2_w, e_iadd, e_isub, e_imul, e_iand, e_ixor, e_ishl, e_ishr, e_iushr, e_idiv, e_irem, e_ineg, e_i2b, e_i2s, e_i2c, e_ladd, e_lsub, e_lmul, e_land, e_lor, e_ldiv, e_lrem, e_lneg, e_lshl, e_lshr, e_lushr, e_i2l, e_l2i, e_lcmp, e_dupI, e_dupA, e_dup2, e_getI, e_getA, e_putI, e_putZ, e_getstatic, e_iaload, e_iastore, e_aaload10, e_alen10, e_aaload11, e_alen11, e_aaload12, e_alen12, e_aaload13, e_alen13, e_alen, e_invokevirtual, e_invokevirtualB, e_invokestatic, e_invokestaticB, ct_0, ct_i, ct_a, ct_l, os_0, os_s, rc_0, rc_s, sl_0, sl_i, sl_a, sl_l, simprocAttr, ix, z_em, up_eq, up_j, Nat.le_refl, true_or, or_true, true_and, and_true, and_self, or_self, beq_self_eq_true, if_true, if_false, ite_self, ca_f, ca_t, aLen, Int32.lt_iff_toInt_lt, Int32.le_iff_toInt_le, z_ite, z_iten, z_ite1, ite_not, not_true_eq_false, not_false_eq_true, false_and, and_false, false_or, or_false, b_max, b_min, b_minL, b_absL, b_ixD, b_ixH, b_copy, tk_0, tk_s, dr_0, dr_s, pu_s, pu_n, ca_0, ca_1, clr_0, clr_s, e_nop, e_goto, e_if_eq, e_if_ne, e_if_lt, e_if_ge, e_if_gt, e_if_le, e_ic_eq, e_ic_ne, e_ic_lt, e_ic_ge, e_ic_gt, e_ic_le, e_tsw, e_lsw, sw_0, sw_s, e_iret, e_zret, e_lret, e_aret, e_ret, en_0, en_n, en_i, en_a, en_l, List.getElem?_cons_zero, List.getElem?_cons_succ, List.set_cons_zero, List.set_cons_succ, len_s, List.length_nil, a1, n1, c1, b1, a2, n2, c2, b2, a3, n3, c3, b3, k1, k2, k3, s2, e1', e2']
theorem q_put {fz : Mem} {d L i : Nat} {μ : Mem} (h : RR fz μ) (hz : FZ fz) (hL : L < 2147483000) (hi : i + 6 ≤ L) : ∃ μ', RR fz μ' ∧ res (d + 8) 196 55 (lwV L i) [] μ = res (d + 8) 196 77 (lwV L i) [] μ' := by
  obtain ⟨a1, n1, c1, b1⟩ := lw_ix (j := 1) hL hi (by decide)
  rw [show nI 1 = (1 : Int32) from rfl] at a1
  obtain ⟨a2, n2, c2, b2⟩ := lw_ix (j := 2) hL hi (by decide)
  rw [show nI 2 = (2 : Int32) from rfl] at a2
  obtain ⟨a3, n3, c3, b3⟩ := lw_ix (j := 3) hL hi (by decide)
  rw [show nI 3 = (3 : Int32) from rfl] at a3
  have k1 : 100 ≤ 1000 + L := by omega
  have k2 : ¬ 1000 + L < 1000 := by omega
  have k3 : 1000 + L - 1000 = L := by omega
  obtain ⟨a, μ1, μ2, e0, e1, e2, hR⟩ := p_put (d := d + 8) (s := μ 202 (i + 1)) (i := μ 202 (i + 2)) (v := μ 202 (i + 3)) h
  have s2 : μ1 202 = μ 202 := e0.trans h.u2.symm
  have e1' : cl (d + 8) 80 [Sum.inr (Sum.inr (7, 0)), vI (μ 202 (i + 1)), vI (μ 202 (i + 2)), vI (μ 202 (i + 3))] μ = _ := e1
  have e2' : cl (d + 8) 183 [Sum.inr (Sum.inr (8, 112)), vI (μ 202 (i + 1)), vI (μ 202 (i + 2)), vI (μ 202 (i + 3))] μ1 = _ := e2
  refine ⟨μ2, hR, ?_⟩
  simp -implicitDefEqProofs only [u_196_55, u_196_56, e_iload_n, e_iload, e_lload_n, e_lload, e_aload_n, e_aload, e_istore_n, e_istore, e_astore_n, e_astore, e_lstore_n, e_lstore, e_iinc, e_iconst, e_bipush, e_sipush, e_ldc_w, e_ldc, e_ldcS, e_lconst, e_ldc2_w, e_iadd, e_isub, e_imul, e_iand, e_ixor, e_ishl, e_ishr, e_iushr, e_idiv, e_irem, e_ineg, e_i2b, e_i2s, e_i2c, e_ladd, e_lsub, e_lmul, e_land, e_lor, e_ldiv, e_lrem, e_lneg, e_lshl, e_lshr, e_lushr, e_i2l, e_l2i, e_lcmp, e_dupI, e_dupA, e_dup2, e_getI, e_getA, e_putI, e_putZ, e_getstatic, e_iaload, e_iastore, e_aaload10, e_alen10, e_aaload11, e_alen11, e_aaload12, e_alen12, e_aaload13, e_alen13, e_alen, e_invokevirtual, e_invokevirtualB, e_invokestatic, e_invokestaticB, ct_0, ct_i, ct_a, ct_l, os_0, os_s, rc_0, rc_s, sl_0, sl_i, sl_a, sl_l, simprocAttr, ix, z_em, up_eq, up_j, Nat.le_refl, true_or, or_true, true_and, and_true, and_self, or_self, beq_self_eq_true, if_true, if_false, ite_self, ca_f, ca_t, aLen, Int32.lt_iff_toInt_lt, Int32.le_iff_toInt_le, z_ite, z_iten, z_ite1, ite_not, not_true_eq_false, not_false_eq_true, false_and, and_false, false_or, or_false, b_max, b_min, b_minL, b_absL, b_ixD, b_ixH, b_copy, tk_0, tk_s, dr_0, dr_s, pu_s, pu_n, ca_0, ca_1, clr_0, clr_s, e_nop, e_goto, e_if_eq, e_if_ne, e_if_lt, e_if_ge, e_if_gt, e_if_le, e_ic_eq, e_ic_ne, e_ic_lt, e_ic_ge, e_ic_gt, e_ic_le, e_tsw, e_lsw, sw_0, sw_s, e_iret, e_zret, e_lret, e_aret, e_ret, en_0, en_n, en_i, en_a, en_l, List.getElem?_cons_zero, List.getElem?_cons_succ, List.set_cons_zero, List.set_cons_succ, len_s, List.length_nil, a1, n1, c1, b1, a2, n2, c2, b2, a3, n3, c3, b3, k1, k2, k3, s2, e1', e2']
theorem q_move {fz : Mem} {d L i : Nat} {μ : Mem} (h : RR fz μ) (hz : FZ fz) (hL : L < 2147483000) (hi : i + 6 ≤ L) : ∃ μ', RR fz μ' ∧ res (d + 8) 196 57 (lwV L i) [] μ = res (d + 8) 196 77 (lwV L i) [] μ' := by
  obtain ⟨a1, n1, c1, b1⟩ := lw_ix (j := 1) hL hi (by decide)
  rw [show nI 1 = (1 : Int32) from rfl] at a1
  obtain ⟨a2, n2, c2, b2⟩ := lw_ix (j := 2) hL hi (by decide)
  rw [show nI 2 = (2 : Int32) from rfl] at a2
  obtain ⟨a3, n3, c3, b3⟩ := lw_ix (j := 3) hL hi (by decide)
  rw [show nI 3 = (3 : Int32) from rfl] at a3
  obtain ⟨a4, n4, c4, b4⟩ := lw_ix (j := 4) hL hi (by decide)
  rw [show nI 4 = (4 : Int32) from rfl] at a4
  obtain ⟨a5, n5, c5, b5⟩ := lw_ix (j := 5) hL hi (by decide)
  rw [show nI 5 = (5 : Int32) from rfl] at a5
  have k1 : 100 ≤ 1000 + L := by omega
  have k2 : ¬ 1000 + L < 1000 := by omega
  have k3 : 1000 + L - 1000 = L := by omega
  obtain ⟨a, μ1, μ2, e0, e1, e2, hR⟩ := p_move (d := d + 8) (s := μ 202 (i + 1)) (i := μ 202 (i + 2)) (t := μ 202 (i + 3)) (j := μ 202 (i + 4)) (n := μ 202 (i + 5)) h
  have s2 : μ1 202 = μ 202 := e0.trans h.u2.symm
  have e1' : cl (d + 8) 81 [Sum.inr (Sum.inr (7, 0)), vI (μ 202 (i + 1)), vI (μ 202 (i + 2)), vI (μ 202 (i + 3)), vI (μ 202 (i + 4)), vI (μ 202 (i + 5))] μ = _ := e1
  have e2' : cl (d + 8) 184 [Sum.inr (Sum.inr (8, 112)), vI (μ 202 (i + 1)), vI (μ 202 (i + 2)), vI (μ 202 (i + 3)), vI (μ 202 (i + 4)), vI (μ 202 (i + 5))] μ1 = _ := e2
  refine ⟨μ2, hR, ?_⟩
  simp -implicitDefEqProofs only [u_196_57, u_196_58, e_iload_n, e_iload, e_lload_n, e_lload, e_aload_n, e_aload, e_istore_n, e_istore, e_astore_n, e_astore, e_lstore_n, e_lstore, e_iinc, e_iconst, e_bipush, e_sipush, e_ldc_w, e_ldc, e_ldcS, e_lconst, e_ldc2_w, e_iadd, e_isub, e_imul, e_iand, e_ixor, e_ishl, e_ishr, e_iushr, e_idiv, e_irem, e_ineg, e_i2b, e_i2s, e_i2c, e_ladd, e_lsub, e_lmul, e_land, e_lor, e_ldiv, e_lrem, e_lneg, e_lshl, e_lshr, e_lushr, e_i2l, e_l2i, e_lcmp, e_dupI, e_dupA, e_dup2, e_getI, e_getA, e_putI, e_putZ, e_getstatic, e_iaload, e_iastore, e_aaload10, e_alen10, e_aaload11, e_alen11, e_aaload12, e_alen12, e_aaload13, e_alen13, e_alen, e_invokevirtual, e_invokevirtualB, e_invokestatic, e_invokestaticB, ct_0, ct_i, ct_a, ct_l, os_0, os_s, rc_0, rc_s, sl_0, sl_i, sl_a, sl_l, simprocAttr, ix, z_em, up_eq, up_j, Nat.le_refl, true_or, or_true, true_and, and_true, and_self, or_self, beq_self_eq_true, if_true, if_false, ite_self, ca_f, ca_t, aLen, Int32.lt_iff_toInt_lt, Int32.le_iff_toInt_le, z_ite, z_iten, z_ite1, ite_not, not_true_eq_false, not_false_eq_true, false_and, and_false, false_or, or_false, b_max, b_min, b_minL, b_absL, b_ixD, b_ixH, b_copy, tk_0, tk_s, dr_0, dr_s, pu_s, pu_n, ca_0, ca_1, clr_0, clr_s, e_nop, e_goto, e_if_eq, e_if_ne, e_if_lt, e_if_ge, e_if_gt, e_if_le, e_ic_eq, e_ic_ne, e_ic_lt, e_ic_ge, e_ic_gt, e_ic_le, e_tsw, e_lsw, sw_0, sw_s, e_iret, e_zret, e_lret, e_aret, e_ret, en_0, en_n, en_i, en_a, en_l, List.getElem?_cons_zero, List.getElem?_cons_succ, List.set_cons_zero, List.set_cons_succ, len_s, List.length_nil, a1, n1, c1, b1, a2, n2, c2, b2, a3, n3, c3, b3, a4, n4, c4, b4, a5, n5, c5, b5, k1, k2, k3, s2, e1', e2']
theorem q_steps {fz : Mem} {d L i : Nat} {μ : Mem} (h : RR fz μ) (hz : FZ fz) (hL : L < 2147483000) (hi : i + 6 ≤ L) : ∃ μ', RR fz μ' ∧ res (d + 8) 196 59 (lwV L i) [] μ = res (d + 8) 196 77 (lwV L i) [] μ' := by
  obtain ⟨a1, n1, c1, b1⟩ := lw_ix (j := 1) hL hi (by decide)
  rw [show nI 1 = (1 : Int32) from rfl] at a1
  obtain ⟨a2, n2, c2, b2⟩ := lw_ix (j := 2) hL hi (by decide)
  rw [show nI 2 = (2 : Int32) from rfl] at a2
  have k1 : 100 ≤ 1000 + L := by omega
  have k2 : ¬ 1000 + L < 1000 := by omega
  have k3 : 1000 + L - 1000 = L := by omega
  obtain ⟨a, μ1, μ2, e0, e1, e2, hR⟩ := p_steps (d := d + 8) (s := μ 202 (i + 1)) (w := μ 202 (i + 2)) h
  have s2 : μ1 202 = μ 202 := e0.trans h.u2.symm
  have e1' : cl (d + 8) 82 [Sum.inr (Sum.inr (7, 0)), vI (μ 202 (i + 1)), vI (μ 202 (i + 2))] μ = _ := e1
  have e2' : cl (d + 8) 186 [Sum.inr (Sum.inr (8, 112)), vI (μ 202 (i + 1)), vI (μ 202 (i + 2))] μ1 = _ := e2
  refine ⟨μ2, hR, ?_⟩
  simp -implicitDefEqProofs only [u_196_59, u_196_60, e_iload_n, e_iload, e_lload_n, e_lload, e_aload_n, e_aload, e_istore_n, e_istore, e_astore_n, e_astore, e_lstore_n, e_lstore, e_iinc, e_iconst, e_bipush, e_sipush, e_ldc_w, e_ldc, e_ldcS, e_lconst, e_ldc2_w, e_iadd, e_isub, e_imul, e_iand, e_ixor, e_ishl, e_ishr, e_iushr, e_idiv, e_irem, e_ineg, e_i2b, e_i2s, e_i2c, e_ladd, e_lsub, e_lmul, e_land, e_lor, e_ldiv, e_lrem, e_lneg, e_lshl, e_lshr, e_lushr, e_i2l, e_l2i, e_lcmp, e_dupI, e_dupA, e_dup2, e_getI, e_getA, e_putI, e_putZ, e_getstatic, e_iaload, e_iastore, e_aaload10, e_alen10, e_aaload11, e_alen11, e_aaload12, e_alen12, e_aaload13, e_alen13, e_alen, e_invokevirtual, e_invokevirtualB, e_invokestatic, e_invokestaticB, ct_0, ct_i, ct_a, ct_l, os_0, os_s, rc_0, rc_s, sl_0, sl_i, sl_a, sl_l, simprocAttr, ix, z_em, up_eq, up_j, Nat.le_refl, true_or, or_true, true_and, and_true, and_self, or_self, beq_self_eq_true, if_true, if_false, ite_self, ca_f, ca_t, aLen, Int32.lt_iff_toInt_lt, Int32.le_iff_toInt_le, z_ite, z_iten, z_ite1, ite_not, not_true_eq_false, not_false_eq_true, false_and, and_false, false_or, or_false, b_max, b_min, b_minL, b_absL, b_ixD, b_ixH, b_copy, tk_0, tk_s, dr_0, dr_s, pu_s, pu_n, ca_0, ca_1, clr_0, clr_s, e_nop, e_goto, e_if_eq, e_if_ne, e_if_lt, e_if_ge, e_if_gt, e_if_le, e_ic_eq, e_ic_ne, e_ic_lt, e_ic_ge, e_ic_gt, e_ic_le, e_tsw, e_lsw, sw_0, sw_s, e_iret, e_zret, e_lret, e_aret, e_ret, en_0, en_n, en_i, en_a, en_l, List.getElem?_cons_zero, List.getElem?_cons_succ, List.set_cons_zero, List.set_cons_succ, len_s, List.length_nil, a1, n1, c1, b1, a2, n2, c2, b2, k1, k2, k3, s2, e1', e2']
theorem q_off {fz : Mem} {d L i : Nat} {μ : Mem} (h : RR fz μ) (hz : FZ fz) (hL : L < 2147483000) (hi : i + 6 ≤ L) : ∃ μ', RR fz μ' ∧ res (d + 8) 196 61 (lwV L i) [] μ = res (d + 8) 196 77 (lwV L i) [] μ' := by
  obtain ⟨a1, n1, c1, b1⟩ := lw_ix (j := 1) hL hi (by decide)
  rw [show nI 1 = (1 : Int32) from rfl] at a1
  obtain ⟨a2, n2, c2, b2⟩ := lw_ix (j := 2) hL hi (by decide)
  rw [show nI 2 = (2 : Int32) from rfl] at a2
  have k1 : 100 ≤ 1000 + L := by omega
  have k2 : ¬ 1000 + L < 1000 := by omega
  have k3 : 1000 + L - 1000 = L := by omega
  obtain ⟨a, μ1, μ2, e0, e1, e2, hR⟩ := p_off (d := d + 8) (s := μ 202 (i + 1)) (w := μ 202 (i + 2)) h
  have s2 : μ1 202 = μ 202 := e0.trans h.u2.symm
  have e1' : cl (d + 8) 83 [Sum.inr (Sum.inr (7, 0)), vI (μ 202 (i + 1)), vI (μ 202 (i + 2))] μ = _ := e1
  have e2' : cl (d + 8) 188 [Sum.inr (Sum.inr (8, 112)), vI (μ 202 (i + 1)), vI (μ 202 (i + 2))] μ1 = _ := e2
  refine ⟨μ2, hR, ?_⟩
  simp -implicitDefEqProofs only [u_196_61, u_196_62, e_iload_n, e_iload, e_lload_n, e_lload, e_aload_n, e_aload, e_istore_n, e_istore, e_astore_n, e_astore, e_lstore_n, e_lstore, e_iinc, e_iconst, e_bipush, e_sipush, e_ldc_w, e_ldc, e_ldcS, e_lconst, e_ldc2_w, e_iadd, e_isub, e_imul, e_iand, e_ixor, e_ishl, e_ishr, e_iushr, e_idiv, e_irem, e_ineg, e_i2b, e_i2s, e_i2c, e_ladd, e_lsub, e_lmul, e_land, e_lor, e_ldiv, e_lrem, e_lneg, e_lshl, e_lshr, e_lushr, e_i2l, e_l2i, e_lcmp, e_dupI, e_dupA, e_dup2, e_getI, e_getA, e_putI, e_putZ, e_getstatic, e_iaload, e_iastore, e_aaload10, e_alen10, e_aaload11, e_alen11, e_aaload12, e_alen12, e_aaload13, e_alen13, e_alen, e_invokevirtual, e_invokevirtualB, e_invokestatic, e_invokestaticB, ct_0, ct_i, ct_a, ct_l, os_0, os_s, rc_0, rc_s, sl_0, sl_i, sl_a, sl_l, simprocAttr, ix, z_em, up_eq, up_j, Nat.le_refl, true_or, or_true, true_and, and_true, and_self, or_self, beq_self_eq_true, if_true, if_false, ite_self, ca_f, ca_t, aLen, Int32.lt_iff_toInt_lt, Int32.le_iff_toInt_le, z_ite, z_iten, z_ite1, ite_not, not_true_eq_false, not_false_eq_true, false_and, and_false, false_or, or_false, b_max, b_min, b_minL, b_absL, b_ixD, b_ixH, b_copy, tk_0, tk_s, dr_0, dr_s, pu_s, pu_n, ca_0, ca_1, clr_0, clr_s, e_nop, e_goto, e_if_eq, e_if_ne, e_if_lt, e_if_ge, e_if_gt, e_if_le, e_ic_eq, e_ic_ne, e_ic_lt, e_ic_ge, e_ic_gt, e_ic_le, e_tsw, e_lsw, sw_0, sw_s, e_iret, e_zret, e_lret, e_aret, e_ret, en_0, en_n, en_i, en_a, en_l, List.getElem?_cons_zero, List.getElem?_cons_succ, List.set_cons_zero, List.set_cons_succ, len_s, List.length_nil, a1, n1, c1, b1, a2, n2, c2, b2, k1, k2, k3, s2, e1', e2']
theorem q_fits {fz : Mem} {d L i : Nat} {μ : Mem} (h : RR fz μ) (hz : FZ fz) (hL : L < 2147483000) (hi : i + 6 ≤ L) : ∃ μ', RR fz μ' ∧ res (d + 8) 196 63 (lwV L i) [] μ = res (d + 8) 196 77 (lwV L i) [] μ' := by
  obtain ⟨a1, n1, c1, b1⟩ := lw_ix (j := 1) hL hi (by decide)
  rw [show nI 1 = (1 : Int32) from rfl] at a1
  obtain ⟨a2, n2, c2, b2⟩ := lw_ix (j := 2) hL hi (by decide)
  rw [show nI 2 = (2 : Int32) from rfl] at a2
  have k1 : 100 ≤ 1000 + L := by omega
  have k2 : ¬ 1000 + L < 1000 := by omega
  have k3 : 1000 + L - 1000 = L := by omega
  obtain ⟨a, μ1, μ2, e0, e1, e2, hR⟩ := p_fits (d := d + 8) (s := μ 202 (i + 1)) (r := μ 202 (i + 2)) h
  have s2 : μ1 202 = μ 202 := e0.trans h.u2.symm
  have e1' : cl (d + 8) 84 [Sum.inr (Sum.inr (7, 0)), vI (μ 202 (i + 1)), vI (μ 202 (i + 2))] μ = _ := e1
  have e2' : cl (d + 8) 189 [Sum.inr (Sum.inr (8, 112)), vI (μ 202 (i + 1)), vI (μ 202 (i + 2))] μ1 = _ := e2
  refine ⟨μ2, hR, ?_⟩
  simp -implicitDefEqProofs only [u_196_63, u_196_64, e_iload_n, e_iload, e_lload_n, e_lload, e_aload_n, e_aload, e_istore_n, e_istore, e_astore_n, e_astore, e_lstore_n, e_lstore, e_iinc, e_iconst, e_bipush, e_sipush, e_ldc_w, e_ldc, e_ldcS, e_lconst, e_ldc2_w, e_iadd, e_isub, e_imul, e_iand, e_ixor, e_ishl, e_ishr, e_iushr, e_idiv, e_irem, e_ineg, e_i2b, e_i2s, e_i2c, e_ladd, e_lsub, e_lmul, e_land, e_lor, e_ldiv, e_lrem, e_lneg, e_lshl, e_lshr, e_lushr, e_i2l, e_l2i, e_lcmp, e_dupI, e_dupA, e_dup2, e_getI, e_getA, e_putI, e_putZ, e_getstatic, e_iaload, e_iastore, e_aaload10, e_alen10, e_aaload11, e_alen11, e_aaload12, e_alen12, e_aaload13, e_alen13, e_alen, e_invokevirtual, e_invokevirtualB, e_invokestatic, e_invokestaticB, ct_0, ct_i, ct_a, ct_l, os_0, os_s, rc_0, rc_s, sl_0, sl_i, sl_a, sl_l, simprocAttr, ix, z_em, up_eq, up_j, Nat.le_refl, true_or, or_true, true_and, and_true, and_self, or_self, beq_self_eq_true, if_true, if_false, ite_self, ca_f, ca_t, aLen, Int32.lt_iff_toInt_lt, Int32.le_iff_toInt_le, z_ite, z_iten, z_ite1, ite_not, not_true_eq_false, not_false_eq_true, false_and, and_false, false_or, or_false, b_max, b_min, b_minL, b_absL, b_ixD, b_ixH, b_copy, tk_0, tk_s, dr_0, dr_s, pu_s, pu_n, ca_0, ca_1, clr_0, clr_s, e_nop, e_goto, e_if_eq, e_if_ne, e_if_lt, e_if_ge, e_if_gt, e_if_le, e_ic_eq, e_ic_ne, e_ic_lt, e_ic_ge, e_ic_gt, e_ic_le, e_tsw, e_lsw, sw_0, sw_s, e_iret, e_zret, e_lret, e_aret, e_ret, en_0, en_n, en_i, en_a, en_l, List.getElem?_cons_zero, List.getElem?_cons_succ, List.set_cons_zero, List.set_cons_succ, len_s, List.length_nil, a1, n1, c1, b1, a2, n2, c2, b2, k1, k2, k3, s2, e1', e2']
theorem q_image {fz : Mem} {d L i : Nat} {μ : Mem} (h : RR fz μ) (hz : FZ fz) (hL : L < 2147483000) (hi : i + 6 ≤ L) : ∃ μ', RR fz μ' ∧ res (d + 8) 196 65 (lwV L i) [] μ = res (d + 8) 196 77 (lwV L i) [] μ' := by
  have k1 : 100 ≤ 1000 + L := by omega
  have k2 : ¬ 1000 + L < 1000 := by omega
  have k3 : 1000 + L - 1000 = L := by omega
  obtain ⟨a, μ1, μ2, e0, e1, e2, hR⟩ := p_image (d := d + 8)  h
  have s2 : μ1 202 = μ 202 := e0.trans h.u2.symm
  have e1' : cl (d + 8) 85 [Sum.inr (Sum.inr (7, 0))] μ = _ := e1
  have e2' : cl (d + 8) 190 [Sum.inr (Sum.inr (8, 112))] μ1 = _ := e2
  refine ⟨μ2, hR, ?_⟩
  simp -implicitDefEqProofs only [u_196_65, u_196_66, e_iload_n, e_iload, e_lload_n, e_lload, e_aload_n, e_aload, e_istore_n, e_istore, e_astore_n, e_astore, e_lstore_n, e_lstore, e_iinc, e_iconst, e_bipush, e_sipush, e_ldc_w, e_ldc, e_ldcS, e_lconst, e_ldc2_w, e_iadd, e_isub, e_imul, e_iand, e_ixor, e_ishl, e_ishr, e_iushr, e_idiv, e_irem, e_ineg, e_i2b, e_i2s, e_i2c, e_ladd, e_lsub, e_lmul, e_land, e_lor, e_ldiv, e_lrem, e_lneg, e_lshl, e_lshr, e_lushr, e_i2l, e_l2i, e_lcmp, e_dupI, e_dupA, e_dup2, e_getI, e_getA, e_putI, e_putZ, e_getstatic, e_iaload, e_iastore, e_aaload10, e_alen10, e_aaload11, e_alen11, e_aaload12, e_alen12, e_aaload13, e_alen13, e_alen, e_invokevirtual, e_invokevirtualB, e_invokestatic, e_invokestaticB, ct_0, ct_i, ct_a, ct_l, os_0, os_s, rc_0, rc_s, sl_0, sl_i, sl_a, sl_l, simprocAttr, ix, z_em, up_eq, up_j, Nat.le_refl, true_or, or_true, true_and, and_true, and_self, or_self, beq_self_eq_true, if_true, if_false, ite_self, ca_f, ca_t, aLen, Int32.lt_iff_toInt_lt, Int32.le_iff_toInt_le, z_ite, z_iten, z_ite1, ite_not, not_true_eq_false, not_false_eq_true, false_and, and_false, false_or, or_false, b_max, b_min, b_minL, b_absL, b_ixD, b_ixH, b_copy, tk_0, tk_s, dr_0, dr_s, pu_s, pu_n, ca_0, ca_1, clr_0, clr_s, e_nop, e_goto, e_if_eq, e_if_ne, e_if_lt, e_if_ge, e_if_gt, e_if_le, e_ic_eq, e_ic_ne, e_ic_lt, e_ic_ge, e_ic_gt, e_ic_le, e_tsw, e_lsw, sw_0, sw_s, e_iret, e_zret, e_lret, e_aret, e_ret, en_0, en_n, en_i, en_a, en_l, List.getElem?_cons_zero, List.getElem?_cons_succ, List.set_cons_zero, List.set_cons_succ, len_s, List.length_nil, k1, k2, k3, s2, e1', e2']
theorem q_restore {fz : Mem} {d L i : Nat} {μ : Mem} (h : RR fz μ) (hz : FZ fz) (hL : L < 2147483000) (hi : i + 6 ≤ L) : ∃ μ', RR fz μ' ∧ res (d + 8) 196 67 (lwV L i) [] μ = res (d + 8) 196 77 (lwV L i) [] μ' := by
  have k1 : 100 ≤ 1000 + L := by omega
  have k2 : ¬ 1000 + L < 1000 := by omega
  have k3 : 1000 + L - 1000 = L := by omega
  obtain ⟨a, μ1, μ2, e0, e1, e2, hR⟩ := p_restore (d := d + 8)  h
  have s2 : μ1 202 = μ 202 := e0.trans h.u2.symm
  have e1' : cl (d + 8) 86 [Sum.inr (Sum.inr (7, 0))] μ = _ := e1
  have e2' : cl (d + 8) 191 [Sum.inr (Sum.inr (8, 112))] μ1 = _ := e2
  refine ⟨μ2, hR, ?_⟩
  simp -implicitDefEqProofs only [u_196_67, u_196_68, e_iload_n, e_iload, e_lload_n, e_lload, e_aload_n, e_aload, e_istore_n, e_istore, e_astore_n, e_astore, e_lstore_n, e_lstore, e_iinc, e_iconst, e_bipush, e_sipush, e_ldc_w, e_ldc, e_ldcS, e_lconst, e_ldc2_w, e_iadd, e_isub, e_imul, e_iand, e_ixor, e_ishl, e_ishr, e_iushr, e_idiv, e_irem, e_ineg, e_i2b, e_i2s, e_i2c, e_ladd, e_lsub, e_lmul, e_land, e_lor, e_ldiv, e_lrem, e_lneg, e_lshl, e_lshr, e_lushr, e_i2l, e_l2i, e_lcmp, e_dupI, e_dupA, e_dup2, e_getI, e_getA, e_putI, e_putZ, e_getstatic, e_iaload, e_iastore, e_aaload10, e_alen10, e_aaload11, e_alen11, e_aaload12, e_alen12, e_aaload13, e_alen13, e_alen, e_invokevirtual, e_invokevirtualB, e_invokestatic, e_invokestaticB, ct_0, ct_i, ct_a, ct_l, os_0, os_s, rc_0, rc_s, sl_0, sl_i, sl_a, sl_l, simprocAttr, ix, z_em, up_eq, up_j, Nat.le_refl, true_or, or_true, true_and, and_true, and_self, or_self, beq_self_eq_true, if_true, if_false, ite_self, ca_f, ca_t, aLen, Int32.lt_iff_toInt_lt, Int32.le_iff_toInt_le, z_ite, z_iten, z_ite1, ite_not, not_true_eq_false, not_false_eq_true, false_and, and_false, false_or, or_false, b_max, b_min, b_minL, b_absL, b_ixD, b_ixH, b_copy, tk_0, tk_s, dr_0, dr_s, pu_s, pu_n, ca_0, ca_1, clr_0, clr_s, e_nop, e_goto, e_if_eq, e_if_ne, e_if_lt, e_if_ge, e_if_gt, e_if_le, e_ic_eq, e_ic_ne, e_ic_lt, e_ic_ge, e_ic_gt, e_ic_le, e_tsw, e_lsw, sw_0, sw_s, e_iret, e_zret, e_lret, e_aret, e_ret, en_0, en_n, en_i, en_a, en_l, List.getElem?_cons_zero, List.getElem?_cons_succ, List.set_cons_zero, List.set_cons_succ, len_s, List.length_nil, k1, k2, k3, s2, e1', e2']
theorem q_tell {fz : Mem} {d L i : Nat} {μ : Mem} (h : RR fz μ) (hz : FZ fz) (hL : L < 2147483000) (hi : i + 6 ≤ L) : ∃ μ', RR fz μ' ∧ res (d + 8) 196 69 (lwV L i) [] μ = res (d + 8) 196 77 (lwV L i) [] μ' := by
  obtain ⟨a1, n1, c1, b1⟩ := lw_ix (j := 1) hL hi (by decide)
  rw [show nI 1 = (1 : Int32) from rfl] at a1
  have k1 : 100 ≤ 1000 + L := by omega
  have k2 : ¬ 1000 + L < 1000 := by omega
  have k3 : 1000 + L - 1000 = L := by omega
  obtain ⟨a, μ1, μ2, e0, e1, e2, hR⟩ := p_tell (d := d + 8) (v := μ 202 (i + 1)) h
  have s2 : μ1 202 = μ 202 := e0.trans h.u2.symm
  have e1' : cl (d + 8) 87 [Sum.inr (Sum.inr (7, 0)), vI (μ 202 (i + 1))] μ = _ := e1
  have e2' : cl (d + 8) 192 [Sum.inr (Sum.inr (8, 112)), vI (μ 202 (i + 1))] μ1 = _ := e2
  refine ⟨μ2, hR, ?_⟩
  simp -implicitDefEqProofs only [u_196_69, u_196_70, e_iload_n, e_iload, e_lload_n, e_lload, e_aload_n, e_aload, e_istore_n, e_istore, e_astore_n, e_astore, e_lstore_n, e_lstore, e_iinc, e_iconst, e_bipush, e_sipush, e_ldc_w, e_ldc, e_ldcS, e_lconst, e_ldc2_w, e_iadd, e_isub, e_imul, e_iand, e_ixor, e_ishl, e_ishr, e_iushr, e_idiv, e_irem, e_ineg, e_i2b, e_i2s, e_i2c, e_ladd, e_lsub, e_lmul, e_land, e_lor, e_ldiv, e_lrem, e_lneg, e_lshl, e_lshr, e_lushr, e_i2l, e_l2i, e_lcmp, e_dupI, e_dupA, e_dup2, e_getI, e_getA, e_putI, e_putZ, e_getstatic, e_iaload, e_iastore, e_aaload10, e_alen10, e_aaload11, e_alen11, e_aaload12, e_alen12, e_aaload13, e_alen13, e_alen, e_invokevirtual, e_invokevirtualB, e_invokestatic, e_invokestaticB, ct_0, ct_i, ct_a, ct_l, os_0, os_s, rc_0, rc_s, sl_0, sl_i, sl_a, sl_l, simprocAttr, ix, z_em, up_eq, up_j, Nat.le_refl, true_or, or_true, true_and, and_true, and_self, or_self, beq_self_eq_true, if_true, if_false, ite_self, ca_f, ca_t, aLen, Int32.lt_iff_toInt_lt, Int32.le_iff_toInt_le, z_ite, z_iten, z_ite1, ite_not, not_true_eq_false, not_false_eq_true, false_and, and_false, false_or, or_false, b_max, b_min, b_minL, b_absL, b_ixD, b_ixH, b_copy, tk_0, tk_s, dr_0, dr_s, pu_s, pu_n, ca_0, ca_1, clr_0, clr_s, e_nop, e_goto, e_if_eq, e_if_ne, e_if_lt, e_if_ge, e_if_gt, e_if_le, e_ic_eq, e_ic_ne, e_ic_lt, e_ic_ge, e_ic_gt, e_ic_le, e_tsw, e_lsw, sw_0, sw_s, e_iret, e_zret, e_lret, e_aret, e_ret, en_0, en_n, en_i, en_a, en_l, List.getElem?_cons_zero, List.getElem?_cons_succ, List.set_cons_zero, List.set_cons_succ, len_s, List.length_nil, a1, n1, c1, b1, k1, k2, k3, s2, e1', e2']
theorem q_check {fz : Mem} {d L i : Nat} {μ : Mem} (h : RR fz μ) (hz : FZ fz) (hL : L < 2147483000) (hi : i + 6 ≤ L) : ∃ μ', RR fz μ' ∧ res (d + 8) 196 71 (lwV L i) [] μ = res (d + 8) 196 77 (lwV L i) [] μ' := by
  have k1 : 100 ≤ 1000 + L := by omega
  have k2 : ¬ 1000 + L < 1000 := by omega
  have k3 : 1000 + L - 1000 = L := by omega
  obtain ⟨a, μ1, μ2, e0, e1, e2, hR⟩ := p_check (d := d + 8)  h
  have s2 : μ1 202 = μ 202 := e0.trans h.u2.symm
  have e1' : cl (d + 8) 88 [Sum.inr (Sum.inr (7, 0))] μ = _ := e1
  have e2' : cl (d + 8) 193 [Sum.inr (Sum.inr (8, 112))] μ1 = _ := e2
  refine ⟨μ2, hR, ?_⟩
  simp -implicitDefEqProofs only [u_196_71, u_196_72, e_iload_n, e_iload, e_lload_n, e_lload, e_aload_n, e_aload, e_istore_n, e_istore, e_astore_n, e_astore, e_lstore_n, e_lstore, e_iinc, e_iconst, e_bipush, e_sipush, e_ldc_w, e_ldc, e_ldcS, e_lconst, e_ldc2_w, e_iadd, e_isub, e_imul, e_iand, e_ixor, e_ishl, e_ishr, e_iushr, e_idiv, e_irem, e_ineg, e_i2b, e_i2s, e_i2c, e_ladd, e_lsub, e_lmul, e_land, e_lor, e_ldiv, e_lrem, e_lneg, e_lshl, e_lshr, e_lushr, e_i2l, e_l2i, e_lcmp, e_dupI, e_dupA, e_dup2, e_getI, e_getA, e_putI, e_putZ, e_getstatic, e_iaload, e_iastore, e_aaload10, e_alen10, e_aaload11, e_alen11, e_aaload12, e_alen12, e_aaload13, e_alen13, e_alen, e_invokevirtual, e_invokevirtualB, e_invokestatic, e_invokestaticB, ct_0, ct_i, ct_a, ct_l, os_0, os_s, rc_0, rc_s, sl_0, sl_i, sl_a, sl_l, simprocAttr, ix, z_em, up_eq, up_j, Nat.le_refl, true_or, or_true, true_and, and_true, and_self, or_self, beq_self_eq_true, if_true, if_false, ite_self, ca_f, ca_t, aLen, Int32.lt_iff_toInt_lt, Int32.le_iff_toInt_le, z_ite, z_iten, z_ite1, ite_not, not_true_eq_false, not_false_eq_true, false_and, and_false, false_or, or_false, b_max, b_min, b_minL, b_absL, b_ixD, b_ixH, b_copy, tk_0, tk_s, dr_0, dr_s, pu_s, pu_n, ca_0, ca_1, clr_0, clr_s, e_nop, e_goto, e_if_eq, e_if_ne, e_if_lt, e_if_ge, e_if_gt, e_if_le, e_ic_eq, e_ic_ne, e_ic_lt, e_ic_ge, e_ic_gt, e_ic_le, e_tsw, e_lsw, sw_0, sw_s, e_iret, e_zret, e_lret, e_aret, e_ret, en_0, en_n, en_i, en_a, en_l, List.getElem?_cons_zero, List.getElem?_cons_succ, List.set_cons_zero, List.set_cons_succ, len_s, List.length_nil, k1, k2, k3, s2, e1', e2']
theorem q_count {fz : Mem} {d L i : Nat} {μ : Mem} (h : RR fz μ) (hz : FZ fz) (hL : L < 2147483000) (hi : i + 6 ≤ L) : ∃ μ', RR fz μ' ∧ res (d + 8) 196 73 (lwV L i) [] μ = res (d + 8) 196 77 (lwV L i) [] μ' := by
  obtain ⟨a1, n1, c1, b1⟩ := lw_ix (j := 1) hL hi (by decide)
  rw [show nI 1 = (1 : Int32) from rfl] at a1
  have k1 : 100 ≤ 1000 + L := by omega
  have k2 : ¬ 1000 + L < 1000 := by omega
  have k3 : 1000 + L - 1000 = L := by omega
  obtain ⟨a, μ1, μ2, e0, e1, e2, hR⟩ := p_count (d := d + 8) (k := μ 202 (i + 1)) h
  have s2 : μ1 202 = μ 202 := e0.trans h.u2.symm
  have e1' : cl (d + 8) 89 [Sum.inr (Sum.inr (7, 0)), vI (μ 202 (i + 1))] μ = _ := e1
  have e2' : cl (d + 8) 194 [Sum.inr (Sum.inr (8, 112)), vI (μ 202 (i + 1))] μ1 = _ := e2
  refine ⟨μ2, hR, ?_⟩
  simp -implicitDefEqProofs only [u_196_73, u_196_74, e_iload_n, e_iload, e_lload_n, e_lload, e_aload_n, e_aload, e_istore_n, e_istore, e_astore_n, e_astore, e_lstore_n, e_lstore, e_iinc, e_iconst, e_bipush, e_sipush, e_ldc_w, e_ldc, e_ldcS, e_lconst, e_ldc2_w, e_iadd, e_isub, e_imul, e_iand, e_ixor, e_ishl, e_ishr, e_iushr, e_idiv, e_irem, e_ineg, e_i2b, e_i2s, e_i2c, e_ladd, e_lsub, e_lmul, e_land, e_lor, e_ldiv, e_lrem, e_lneg, e_lshl, e_lshr, e_lushr, e_i2l, e_l2i, e_lcmp, e_dupI, e_dupA, e_dup2, e_getI, e_getA, e_putI, e_putZ, e_getstatic, e_iaload, e_iastore, e_aaload10, e_alen10, e_aaload11, e_alen11, e_aaload12, e_alen12, e_aaload13, e_alen13, e_alen, e_invokevirtual, e_invokevirtualB, e_invokestatic, e_invokestaticB, ct_0, ct_i, ct_a, ct_l, os_0, os_s, rc_0, rc_s, sl_0, sl_i, sl_a, sl_l, simprocAttr, ix, z_em, up_eq, up_j, Nat.le_refl, true_or, or_true, true_and, and_true, and_self, or_self, beq_self_eq_true, if_true, if_false, ite_self, ca_f, ca_t, aLen, Int32.lt_iff_toInt_lt, Int32.le_iff_toInt_le, z_ite, z_iten, z_ite1, ite_not, not_true_eq_false, not_false_eq_true, false_and, and_false, false_or, or_false, b_max, b_min, b_minL, b_absL, b_ixD, b_ixH, b_copy, tk_0, tk_s, dr_0, dr_s, pu_s, pu_n, ca_0, ca_1, clr_0, clr_s, e_nop, e_goto, e_if_eq, e_if_ne, e_if_lt, e_if_ge, e_if_gt, e_if_le, e_ic_eq, e_ic_ne, e_ic_lt, e_ic_ge, e_ic_gt, e_ic_le, e_tsw, e_lsw, sw_0, sw_s, e_iret, e_zret, e_lret, e_aret, e_ret, en_0, en_n, en_i, en_a, en_l, List.getElem?_cons_zero, List.getElem?_cons_succ, List.set_cons_zero, List.set_cons_succ, len_s, List.length_nil, a1, n1, c1, b1, k1, k2, k3, s2, e1', e2']
theorem q_told {fz : Mem} {d L i : Nat} {μ : Mem} (h : RR fz μ) (hz : FZ fz) (hL : L < 2147483000) (hi : i + 6 ≤ L) : ∃ μ', RR fz μ' ∧ res (d + 8) 196 75 (lwV L i) [] μ = res (d + 8) 196 77 (lwV L i) [] μ' := by
  obtain ⟨a1, n1, c1, b1⟩ := lw_ix (j := 1) hL hi (by decide)
  rw [show nI 1 = (1 : Int32) from rfl] at a1
  have k1 : 100 ≤ 1000 + L := by omega
  have k2 : ¬ 1000 + L < 1000 := by omega
  have k3 : 1000 + L - 1000 = L := by omega
  obtain ⟨a, μ1, μ2, e0, e1, e2, hR⟩ := p_told (d := d + 8) (k := μ 202 (i + 1)) h
  have s2 : μ1 202 = μ 202 := e0.trans h.u2.symm
  have e1' : cl (d + 8) 90 [Sum.inr (Sum.inr (7, 0)), vI (μ 202 (i + 1))] μ = _ := e1
  have e2' : cl (d + 8) 195 [Sum.inr (Sum.inr (8, 112)), vI (μ 202 (i + 1))] μ1 = _ := e2
  refine ⟨μ2, hR, ?_⟩
  simp -implicitDefEqProofs only [u_196_75, u_196_76, e_iload_n, e_iload, e_lload_n, e_lload, e_aload_n, e_aload, e_istore_n, e_istore, e_astore_n, e_astore, e_lstore_n, e_lstore, e_iinc, e_iconst, e_bipush, e_sipush, e_ldc_w, e_ldc, e_ldcS, e_lconst, e_ldc2_w, e_iadd, e_isub, e_imul, e_iand, e_ixor, e_ishl, e_ishr, e_iushr, e_idiv, e_irem, e_ineg, e_i2b, e_i2s, e_i2c, e_ladd, e_lsub, e_lmul, e_land, e_lor, e_ldiv, e_lrem, e_lneg, e_lshl, e_lshr, e_lushr, e_i2l, e_l2i, e_lcmp, e_dupI, e_dupA, e_dup2, e_getI, e_getA, e_putI, e_putZ, e_getstatic, e_iaload, e_iastore, e_aaload10, e_alen10, e_aaload11, e_alen11, e_aaload12, e_alen12, e_aaload13, e_alen13, e_alen, e_invokevirtual, e_invokevirtualB, e_invokestatic, e_invokestaticB, ct_0, ct_i, ct_a, ct_l, os_0, os_s, rc_0, rc_s, sl_0, sl_i, sl_a, sl_l, simprocAttr, ix, z_em, up_eq, up_j, Nat.le_refl, true_or, or_true, true_and, and_true, and_self, or_self, beq_self_eq_true, if_true, if_false, ite_self, ca_f, ca_t, aLen, Int32.lt_iff_toInt_lt, Int32.le_iff_toInt_le, z_ite, z_iten, z_ite1, ite_not, not_true_eq_false, not_false_eq_true, false_and, and_false, false_or, or_false, b_max, b_min, b_minL, b_absL, b_ixD, b_ixH, b_copy, tk_0, tk_s, dr_0, dr_s, pu_s, pu_n, ca_0, ca_1, clr_0, clr_s, e_nop, e_goto, e_if_eq, e_if_ne, e_if_lt, e_if_ge, e_if_gt, e_if_le, e_ic_eq, e_ic_ne, e_ic_lt, e_ic_ge, e_ic_gt, e_ic_le, e_tsw, e_lsw, sw_0, sw_s, e_iret, e_zret, e_lret, e_aret, e_ret, en_0, en_n, en_i, en_a, en_l, List.getElem?_cons_zero, List.getElem?_cons_succ, List.set_cons_zero, List.set_cons_succ, len_s, List.length_nil, a1, n1, c1, b1, k1, k2, k3, s2, e1', e2']
theorem sw_c {j : Nat → LV → List AV → Mem → Rs} {lv : LV} {st : List AV} {μ : Mem} {a k : Int32} {e t : Nat} {l : List (Int32 × Nat)} {P : Rs → Prop} (h1 : P (j t lv st μ)) (h2 : P (swJ j lv st μ a e l)) : P (swJ j lv st μ a e ((k, t) :: l)) := by
  rw [sw_s]
  by_cases q : a = k
  · rw [if_pos q]
    exact h1
  · rw [if_neg q]
    exact h2
theorem qA_step {fz : Mem} {d L i : Nat} {μ : Mem} (h : RR fz μ) (hz : FZ fz) (hL : L < 2147483000) (hi : i + 6 ≤ L) : ∃ μ', RR fz μ' ∧ res (d + 8) 196 2 (lwV L i) [] μ = res (d + 8) 196 77 (lwV L i) [] μ' := by
  have n0 : (nI i).toInt = i := nI_toInt (by omega)
  have c0 : (nI i).toNatClampNeg = i := ix_nI (by omega)
  have b0 : (0 : Int) ≤ (i : Int) := by omega
  have b1 : (i : Int) < (L : Int) := by omega
  have k1 : 100 ≤ 1000 + L := by omega
  have k2 : ¬ 1000 + L < 1000 := by omega
  have k3 : 1000 + L - 1000 = L := by omega
  have e : res (d + 8) 196 2 (lwV L i) [] μ = swJ (res (d + 8) 196) (lwV L i) [] μ (μ 202 i &&& 63) 77 [(0, 3), (1, 5), (2, 7), (3, 9), (4, 11), (5, 13), (6, 15), (7, 17), (8, 19), (9, 21), (10, 23), (11, 25), (12, 27), (13, 29), (14, 31), (15, 33), (16, 35), (17, 37), (18, 39), (19, 41), (20, 43), (21, 45), (22, 47), (23, 49), (24, 51), (25, 53), (26, 55), (27, 57), (28, 59), (29, 61), (30, 63), (31, 65), (32, 67), (33, 69), (34, 71), (35, 73), (36, 75)] := by
    simp -implicitDefEqProofs only [u_196_2, e_iload_n, e_iload, e_lload_n, e_lload, e_aload_n, e_aload, e_istore_n, e_istore, e_astore_n, e_astore, e_lstore_n, e_lstore, e_iinc, e_iconst, e_bipush, e_sipush, e_ldc_w, e_ldc, e_ldcS, e_lconst, e_ldc2_w, e_iadd, e_isub, e_imul, e_iand, e_ixor, e_ishl, e_ishr, e_iushr, e_idiv, e_irem, e_ineg, e_i2b, e_i2s, e_i2c, e_ladd, e_lsub, e_lmul, e_land, e_lor, e_ldiv, e_lrem, e_lneg, e_lshl, e_lshr, e_lushr, e_i2l, e_l2i, e_lcmp, e_dupI, e_dupA, e_dup2, e_getI, e_getA, e_putI, e_putZ, e_getstatic, e_iaload, e_iastore, e_aaload10, e_alen10, e_aaload11, e_alen11, e_aaload12, e_alen12, e_aaload13, e_alen13, e_alen, e_invokevirtual, e_invokevirtualB, e_invokestatic, e_invokestaticB, ct_0, ct_i, ct_a, ct_l, os_0, os_s, rc_0, rc_s, sl_0, sl_i, sl_a, sl_l, simprocAttr, ix, z_em, up_eq, up_j, Nat.le_refl, true_or, or_true, true_and, and_true, and_self, or_self, beq_self_eq_true, if_true, if_false, ite_self, ca_f, ca_t, aLen, Int32.lt_iff_toInt_lt, Int32.le_iff_toInt_le, z_ite, z_iten, z_ite1, ite_not, not_true_eq_false, not_false_eq_true, false_and, and_false, false_or, or_false, b_max, b_min, b_minL, b_absL, b_ixD, b_ixH, b_copy, tk_0, tk_s, dr_0, dr_s, pu_s, pu_n, ca_0, ca_1, clr_0, clr_s, e_nop, e_goto, e_if_eq, e_if_ne, e_if_lt, e_if_ge, e_if_gt, e_if_le, e_ic_eq, e_ic_ne, e_ic_lt, e_ic_ge, e_ic_gt, e_ic_le, e_tsw, e_lsw, e_iret, e_zret, e_lret, e_aret, e_ret, en_0, en_n, en_i, en_a, en_l, List.getElem?_cons_zero, List.getElem?_cons_succ, List.set_cons_zero, List.set_cons_succ, len_s, List.length_nil, n0, c0, b0, b1, k1, k2, k3]
  rw [e]
  exact (sw_c (P := fun z => ∃ μ', RR fz μ' ∧ z = res (d + 8) 196 77 (lwV L i) [] μ') (q_worker h hz hL hi) (sw_c (P := fun z => ∃ μ', RR fz μ' ∧ z = res (d + 8) 196 77 (lwV L i) [] μ') (q_workerIs h hz hL hi) (sw_c (P := fun z => ∃ μ', RR fz μ' ∧ z = res (d + 8) 196 77 (lwV L i) [] μ') (q_setWorker h hz hL hi) (sw_c (P := fun z => ∃ μ', RR fz μ' ∧ z = res (d + 8) 196 77 (lwV L i) [] μ') (q_step h hz hL hi) (sw_c (P := fun z => ∃ μ', RR fz μ' ∧ z = res (d + 8) 196 77 (lwV L i) [] μ') (q_stepIs h hz hL hi) (sw_c (P := fun z => ∃ μ', RR fz μ' ∧ z = res (d + 8) 196 77 (lwV L i) [] μ') (q_rest h hz hL hi) (sw_c (P := fun z => ∃ μ', RR fz μ' ∧ z = res (d + 8) 196 77 (lwV L i) [] μ') (q_restIs h hz hL hi) (sw_c (P := fun z => ∃ μ', RR fz μ' ∧ z = res (d + 8) 196 77 (lwV L i) [] μ') (q_as h hz hL hi) (sw_c (P := fun z => ∃ μ', RR fz μ' ∧ z = res (d + 8) 196 77 (lwV L i) [] μ') (q_setRest h hz hL hi) (sw_c (P := fun z => ∃ μ', RR fz μ' ∧ z = res (d + 8) 196 77 (lwV L i) [] μ') (q_quiet h hz hL hi) (sw_c (P := fun z => ∃ μ', RR fz μ' ∧ z = res (d + 8) 196 77 (lwV L i) [] μ') (q_feed h hz hL hi) (sw_c (P := fun z => ∃ μ', RR fz μ' ∧ z = res (d + 8) 196 77 (lwV L i) [] μ') (q_text h hz hL hi) (sw_c (P := fun z => ∃ μ', RR fz μ' ∧ z = res (d + 8) 196 77 (lwV L i) [] μ') (q_untell h hz hL hi) (sw_c (P := fun z => ∃ μ', RR fz μ' ∧ z = res (d + 8) 196 77 (lwV L i) [] μ') (q_minutes h hz hL hi) (sw_c (P := fun z => ∃ μ', RR fz μ' ∧ z = res (d + 8) 196 77 (lwV L i) [] μ') (q_loose h hz hL hi) (sw_c (P := fun z => ∃ μ', RR fz μ' ∧ z = res (d + 8) 196 77 (lwV L i) [] μ') (q_seed h hz hL hi) (sw_c (P := fun z => ∃ μ', RR fz μ' ∧ z = res (d + 8) 196 77 (lwV L i) [] μ') (q_then h hz hL hi) (sw_c (P := fun z => ∃ μ', RR fz μ' ∧ z = res (d + 8) 196 77 (lwV L i) [] μ') (q_waits h hz hL hi) (sw_c (P := fun z => ∃ μ', RR fz μ' ∧ z = res (d + 8) 196 77 (lwV L i) [] μ') (q_cost h hz hL hi) (sw_c (P := fun z => ∃ μ', RR fz μ' ∧ z = res (d + 8) 196 77 (lwV L i) [] μ') (q_refuse h hz hL hi) (sw_c (P := fun z => ∃ μ', RR fz μ' ∧ z = res (d + 8) 196 77 (lwV L i) [] μ') (q_best h hz hL hi) (sw_c (P := fun z => ∃ μ', RR fz μ' ∧ z = res (d + 8) 196 77 (lwV L i) [] μ') (q_heap h hz hL hi) (sw_c (P := fun z => ∃ μ', RR fz μ' ∧ z = res (d + 8) 196 77 (lwV L i) [] μ') (q_odds h hz hL hi) (sw_c (P := fun z => ∃ μ', RR fz μ' ∧ z = res (d + 8) 196 77 (lwV L i) [] μ') (q_voice h hz hL hi) (sw_c (P := fun z => ∃ μ', RR fz μ' ∧ z = res (d + 8) 196 77 (lwV L i) [] μ') (q_body h hz hL hi) (sw_c (P := fun z => ∃ μ', RR fz μ' ∧ z = res (d + 8) 196 77 (lwV L i) [] μ') (q_sheet h hz hL hi) (sw_c (P := fun z => ∃ μ', RR fz μ' ∧ z = res (d + 8) 196 77 (lwV L i) [] μ') (q_put h hz hL hi) (sw_c (P := fun z => ∃ μ', RR fz μ' ∧ z = res (d + 8) 196 77 (lwV L i) [] μ') (q_move h hz hL hi) (sw_c (P := fun z => ∃ μ', RR fz μ' ∧ z = res (d + 8) 196 77 (lwV L i) [] μ') (q_steps h hz hL hi) (sw_c (P := fun z => ∃ μ', RR fz μ' ∧ z = res (d + 8) 196 77 (lwV L i) [] μ') (q_off h hz hL hi) (sw_c (P := fun z => ∃ μ', RR fz μ' ∧ z = res (d + 8) 196 77 (lwV L i) [] μ') (q_fits h hz hL hi) (sw_c (P := fun z => ∃ μ', RR fz μ' ∧ z = res (d + 8) 196 77 (lwV L i) [] μ') (q_image h hz hL hi) (sw_c (P := fun z => ∃ μ', RR fz μ' ∧ z = res (d + 8) 196 77 (lwV L i) [] μ') (q_restore h hz hL hi) (sw_c (P := fun z => ∃ μ', RR fz μ' ∧ z = res (d + 8) 196 77 (lwV L i) [] μ') (q_tell h hz hL hi) (sw_c (P := fun z => ∃ μ', RR fz μ' ∧ z = res (d + 8) 196 77 (lwV L i) [] μ') (q_check h hz hL hi) (sw_c (P := fun z => ∃ μ', RR fz μ' ∧ z = res (d + 8) 196 77 (lwV L i) [] μ') (q_count h hz hL hi) (sw_c (P := fun z => ∃ μ', RR fz μ' ∧ z = res (d + 8) 196 77 (lwV L i) [] μ') (q_told h hz hL hi) ⟨μ, h, rfl⟩)))))))))))))))))))))))))))))))))))))
/-- THE LAW ANSWERS 1 from its loop's head. -/
theorem law_loop {fz : Mem} {d L : Nat} (hz : FZ fz) (hL : L < 2147483000) : ∀ n i μ, L ≤ n + i → i ≤ L + 6 → RR fz μ → ∃ μ', res (d + 8) 196 1 (lwV L i) [] μ = some (some (vI 1), μ') := by
  intro n
  induction n with
  | zero =>
    intro i μ hn h6 h
    have n0 : (nI i).toInt = i := nI_toInt (by omega)
    have nL6 : (nI L - 6).toInt = (L : Int) - 6 := by
      have e6 : (6 : Int32).toInt = 6 := rfl
      rw [ts] <;> rw [nI_toInt (by omega), e6] <;> omega
    have q : (L : Int) - 6 < (i : Int) := by omega
    have k1 : 100 ≤ 1000 + L := by omega
    have k2 : ¬ 1000 + L < 1000 := by omega
    have k3 : 1000 + L - 1000 = L := by omega
    refine ⟨μ, ?_⟩
    simp -implicitDefEqProofs only [u_196_1, u_196_78, e_iload_n, e_iload, e_lload_n, e_lload, e_aload_n, e_aload, e_istore_n, e_istore, e_astore_n, e_astore, e_lstore_n, e_lstore, e_iinc, e_iconst, e_bipush, e_sipush, e_ldc_w, e_ldc, e_ldcS, e_lconst, e_ldc2_w, e_iadd, e_isub, e_imul, e_iand, e_ixor, e_ishl, e_ishr, e_iushr, e_idiv, e_irem, e_ineg, e_i2b, e_i2s, e_i2c, e_ladd, e_lsub, e_lmul, e_land, e_lor, e_ldiv, e_lrem, e_lneg, e_lshl, e_lshr, e_lushr, e_i2l, e_l2i, e_lcmp, e_dupI, e_dupA, e_dup2, e_getI, e_getA, e_putI, e_putZ, e_getstatic, e_iaload, e_iastore, e_aaload10, e_alen10, e_aaload11, e_alen11, e_aaload12, e_alen12, e_aaload13, e_alen13, e_alen, e_invokevirtual, e_invokevirtualB, e_invokestatic, e_invokestaticB, ct_0, ct_i, ct_a, ct_l, os_0, os_s, rc_0, rc_s, sl_0, sl_i, sl_a, sl_l, simprocAttr, ix, z_em, up_eq, up_j, Nat.le_refl, true_or, or_true, true_and, and_true, and_self, or_self, beq_self_eq_true, if_true, if_false, ite_self, ca_f, ca_t, aLen, Int32.lt_iff_toInt_lt, Int32.le_iff_toInt_le, z_ite, z_iten, z_ite1, ite_not, not_true_eq_false, not_false_eq_true, false_and, and_false, false_or, or_false, b_max, b_min, b_minL, b_absL, b_ixD, b_ixH, b_copy, tk_0, tk_s, dr_0, dr_s, pu_s, pu_n, ca_0, ca_1, clr_0, clr_s, e_nop, e_goto, e_if_eq, e_if_ne, e_if_lt, e_if_ge, e_if_gt, e_if_le, e_ic_eq, e_ic_ne, e_ic_lt, e_ic_ge, e_ic_gt, e_ic_le, e_tsw, e_lsw, sw_0, sw_s, e_iret, e_zret, e_lret, e_aret, e_ret, en_0, en_n, en_i, en_a, en_l, List.getElem?_cons_zero, List.getElem?_cons_succ, List.set_cons_zero, List.set_cons_succ, len_s, List.length_nil, n0, nL6, q, k1, k2, k3]
  | succ n ih =>
    intro i μ hn h6 h
    have n0 : (nI i).toInt = i := nI_toInt (by omega)
    have nL6 : (nI L - 6).toInt = (L : Int) - 6 := by
      have e6 : (6 : Int32).toInt = 6 := rfl
      rw [ts] <;> rw [nI_toInt (by omega), e6] <;> omega
    have k1 : 100 ≤ 1000 + L := by omega
    have k2 : ¬ 1000 + L < 1000 := by omega
    have k3 : 1000 + L - 1000 = L := by omega
    by_cases q : (L : Int) - 6 < (i : Int)
    · refine ⟨μ, ?_⟩
      simp -implicitDefEqProofs only [u_196_1, u_196_78, e_iload_n, e_iload, e_lload_n, e_lload, e_aload_n, e_aload, e_istore_n, e_istore, e_astore_n, e_astore, e_lstore_n, e_lstore, e_iinc, e_iconst, e_bipush, e_sipush, e_ldc_w, e_ldc, e_ldcS, e_lconst, e_ldc2_w, e_iadd, e_isub, e_imul, e_iand, e_ixor, e_ishl, e_ishr, e_iushr, e_idiv, e_irem, e_ineg, e_i2b, e_i2s, e_i2c, e_ladd, e_lsub, e_lmul, e_land, e_lor, e_ldiv, e_lrem, e_lneg, e_lshl, e_lshr, e_lushr, e_i2l, e_l2i, e_lcmp, e_dupI, e_dupA, e_dup2, e_getI, e_getA, e_putI, e_putZ, e_getstatic, e_iaload, e_iastore, e_aaload10, e_alen10, e_aaload11, e_alen11, e_aaload12, e_alen12, e_aaload13, e_alen13, e_alen, e_invokevirtual, e_invokevirtualB, e_invokestatic, e_invokestaticB, ct_0, ct_i, ct_a, ct_l, os_0, os_s, rc_0, rc_s, sl_0, sl_i, sl_a, sl_l, simprocAttr, ix, z_em, up_eq, up_j, Nat.le_refl, true_or, or_true, true_and, and_true, and_self, or_self, beq_self_eq_true, if_true, if_false, ite_self, ca_f, ca_t, aLen, Int32.lt_iff_toInt_lt, Int32.le_iff_toInt_le, z_ite, z_iten, z_ite1, ite_not, not_true_eq_false, not_false_eq_true, false_and, and_false, false_or, or_false, b_max, b_min, b_minL, b_absL, b_ixD, b_ixH, b_copy, tk_0, tk_s, dr_0, dr_s, pu_s, pu_n, ca_0, ca_1, clr_0, clr_s, e_nop, e_goto, e_if_eq, e_if_ne, e_if_lt, e_if_ge, e_if_gt, e_if_le, e_ic_eq, e_ic_ne, e_ic_lt, e_ic_ge, e_ic_gt, e_ic_le, e_tsw, e_lsw, sw_0, sw_s, e_iret, e_zret, e_lret, e_aret, e_ret, en_0, en_n, en_i, en_a, en_l, List.getElem?_cons_zero, List.getElem?_cons_succ, List.set_cons_zero, List.set_cons_succ, len_s, List.length_nil, n0, nL6, q, k1, k2, k3]
    · obtain ⟨μ1, r1, e1⟩ := qA_step (d := d) h hz hL (show i + 6 ≤ L by omega)
      obtain ⟨μ2, e2⟩ := ih (i + 6) μ1 (by omega) (by omega) r1
      have a6 : nI i + 6 = nI (i + 6) := nIa (show i + 6 < 2147483648 by omega)
      refine ⟨μ2, ?_⟩
      rw [← e2]
      have e3 : res (d + 8) 196 1 (lwV L i) [] μ = res (d + 8) 196 2 (lwV L i) [] μ := by
        rw [u_196_1]
        simp -implicitDefEqProofs only [e_iload_n, e_iload, e_lload_n, e_lload, e_aload_n, e_aload, e_istore_n, e_istore, e_astore_n, e_astore, e_lstore_n, e_lstore, e_iinc, e_iconst, e_bipush, e_sipush, e_ldc_w, e_ldc, e_ldcS, e_lconst, e_ldc2_w, e_iadd, e_isub, e_imul, e_iand, e_ixor, e_ishl, e_ishr, e_iushr, e_idiv, e_irem, e_ineg, e_i2b, e_i2s, e_i2c, e_ladd, e_lsub, e_lmul, e_land, e_lor, e_ldiv, e_lrem, e_lneg, e_lshl, e_lshr, e_lushr, e_i2l, e_l2i, e_lcmp, e_dupI, e_dupA, e_dup2, e_getI, e_getA, e_putI, e_putZ, e_getstatic, e_iaload, e_iastore, e_aaload10, e_alen10, e_aaload11, e_alen11, e_aaload12, e_alen12, e_aaload13, e_alen13, e_alen, e_invokevirtual, e_invokevirtualB, e_invokestatic, e_invokestaticB, ct_0, ct_i, ct_a, ct_l, os_0, os_s, rc_0, rc_s, sl_0, sl_i, sl_a, sl_l, simprocAttr, ix, z_em, up_eq, up_j, Nat.le_refl, true_or, or_true, true_and, and_true, and_self, or_self, beq_self_eq_true, if_true, if_false, ite_self, ca_f, ca_t, aLen, Int32.lt_iff_toInt_lt, Int32.le_iff_toInt_le, z_ite, z_iten, z_ite1, ite_not, not_true_eq_false, not_false_eq_true, false_and, and_false, false_or, or_false, b_max, b_min, b_minL, b_absL, b_ixD, b_ixH, b_copy, tk_0, tk_s, dr_0, dr_s, pu_s, pu_n, ca_0, ca_1, clr_0, clr_s, e_nop, e_goto, e_if_eq, e_if_ne, e_if_lt, e_if_ge, e_if_gt, e_if_le, e_ic_eq, e_ic_ne, e_ic_lt, e_ic_ge, e_ic_gt, e_ic_le, e_tsw, e_lsw, sw_0, sw_s, e_iret, e_zret, e_lret, e_aret, e_ret, en_0, en_n, en_i, en_a, en_l, List.getElem?_cons_zero, List.getElem?_cons_succ, List.set_cons_zero, List.set_cons_succ, len_s, List.length_nil, n0, nL6, q, k1, k2, k3]
      have e4 : res (d + 8) 196 77 (lwV L i) [] μ1 = res (d + 8) 196 1 (lwV L (i + 6)) [] μ1 := by
        rw [u_196_77]
        simp -implicitDefEqProofs only [e_iload_n, e_iload, e_lload_n, e_lload, e_aload_n, e_aload, e_istore_n, e_istore, e_astore_n, e_astore, e_lstore_n, e_lstore, e_iinc, e_iconst, e_bipush, e_sipush, e_ldc_w, e_ldc, e_ldcS, e_lconst, e_ldc2_w, e_iadd, e_isub, e_imul, e_iand, e_ixor, e_ishl, e_ishr, e_iushr, e_idiv, e_irem, e_ineg, e_i2b, e_i2s, e_i2c, e_ladd, e_lsub, e_lmul, e_land, e_lor, e_ldiv, e_lrem, e_lneg, e_lshl, e_lshr, e_lushr, e_i2l, e_l2i, e_lcmp, e_dupI, e_dupA, e_dup2, e_getI, e_getA, e_putI, e_putZ, e_getstatic, e_iaload, e_iastore, e_aaload10, e_alen10, e_aaload11, e_alen11, e_aaload12, e_alen12, e_aaload13, e_alen13, e_alen, e_invokevirtual, e_invokevirtualB, e_invokestatic, e_invokestaticB, ct_0, ct_i, ct_a, ct_l, os_0, os_s, rc_0, rc_s, sl_0, sl_i, sl_a, sl_l, simprocAttr, ix, z_em, up_eq, up_j, Nat.le_refl, true_or, or_true, true_and, and_true, and_self, or_self, beq_self_eq_true, if_true, if_false, ite_self, ca_f, ca_t, aLen, Int32.lt_iff_toInt_lt, Int32.le_iff_toInt_le, z_ite, z_iten, z_ite1, ite_not, not_true_eq_false, not_false_eq_true, false_and, and_false, false_or, or_false, b_max, b_min, b_minL, b_absL, b_ixD, b_ixH, b_copy, tk_0, tk_s, dr_0, dr_s, pu_s, pu_n, ca_0, ca_1, clr_0, clr_s, e_nop, e_goto, e_if_eq, e_if_ne, e_if_lt, e_if_ge, e_if_gt, e_if_le, e_ic_eq, e_ic_ne, e_ic_lt, e_ic_ge, e_ic_gt, e_ic_le, e_tsw, e_lsw, sw_0, sw_s, e_iret, e_zret, e_lret, e_aret, e_ret, en_0, en_n, en_i, en_a, en_l, List.getElem?_cons_zero, List.getElem?_cons_succ, List.set_cons_zero, List.set_cons_succ, len_s, List.length_nil, a6]
      rw [e3, e1, e4]
