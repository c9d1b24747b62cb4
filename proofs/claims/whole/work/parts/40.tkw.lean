/-! THE CLASS TAKES A WORLD OVER: its loops. -/
def IW (b c k : Nat) (μ0 μ : Mem) : Prop :=
  (∀ w, w < k → (∀ j, 2 ≤ j → j ≤ 9 → μ (b + 6 + 3 * w) j = μ0 (c + 6 + 3 * w) j) ∧ (∀ i, i < 8 → μ (b + 6 + 3 * w + 1) i = μ0 (c + 6 + 3 * w + 1) i) ∧ ∀ i, i < 8 → μ (b + 6 + 3 * w + 2) i = μ0 (c + 6 + 3 * w + 2) i) ∧
  ∀ a, (a < b + 6 ∨ b + 6 + 3 * k ≤ a) → μ a = μ0 a
theorem l_tw {d b c N : Nat} {μ0 : Mem} (hN : N ≤ 4) (hbc : b + 32 ≤ c ∨ c + 32 ≤ b) (hc : μ0 b 5 = nI N) : ∀ n k μ, k + n = N → IW b c k μ0 μ → ∃ μ', res d 39 1 [some (vR 6 b), some (vR 6 c), some (vI (nI k))] [] μ = res d 39 4 [some (vR 6 b), some (vR 6 c), some (vI 0)] [] μ' ∧ IW b c N μ0 μ' := by
  intro n
  induction n with
  | zero =>
    intro k μ hk hI
    have hk : k = N := by omega
    subst hk
    refine ⟨μ, ?_, hI⟩
    have hr : μ b 5 = nI k := by rw [hI.2 b (by omega)]; exact hc
    rw [u_39_1]
    simp -implicitDefEqProofs only [u_39_0, u_39_2, u_39_3, u_39_5, u_39_6, u_39_8, u_39_9, e_iload_n, e_iload, e_lload_n, e_lload, e_aload_n, e_aload, e_istore_n, e_istore, e_astore_n, e_astore, e_lstore_n, e_lstore, e_iinc, e_iconst, e_bipush, e_sipush, e_ldc_w, e_ldc, e_ldcS, e_lconst, e_ldc2_w, e_iadd, e_isub, e_imul, e_iand, e_ixor, e_ishl, e_ishr, e_iushr, e_idiv, e_irem, e_ineg, e_i2b, e_i2s, e_i2c, e_ladd, e_lsub, e_lmul, e_land, e_lor, e_ldiv, e_lrem, e_lneg, e_lshl, e_lshr, e_lushr, e_i2l, e_l2i, e_lcmp, e_dupI, e_dupA, e_dup2, e_getI, e_getA, e_putI, e_putZ, e_getstatic, e_iaload, e_iastore, e_aaload10, e_alen10, e_aaload11, e_alen11, e_aaload12, e_alen12, e_aaload13, e_alen13, e_alen, e_invokevirtual, e_invokevirtualB, e_invokestatic, e_invokestaticB, ct_0, ct_i, ct_a, ct_l, os_0, os_s, rc_0, rc_s, sl_0, sl_i, sl_a, sl_l, simprocAttr, ix, z_em, up_eq, up_j, Nat.le_refl, true_or, or_true, true_and, and_true, and_self, or_self, beq_self_eq_true, if_true, if_false, ite_self, ca_f, ca_t, aLen, Int32.lt_iff_toInt_lt, Int32.le_iff_toInt_le, z_ite, z_iten, z_ite1, ite_not, not_true_eq_false, not_false_eq_true, false_and, and_false, false_or, or_false, b_max, b_min, b_minL, b_absL, b_ixD, b_ixH, b_copy, tk_0, tk_s, dr_0, dr_s, pu_s, pu_n, ca_0, ca_1, clr_0, clr_s, e_nop, e_goto, e_if_eq, e_if_ne, e_if_lt, e_if_ge, e_if_gt, e_if_le, e_ic_eq, e_ic_ne, e_ic_lt, e_ic_ge, e_ic_gt, e_ic_le, e_tsw, e_lsw, sw_0, sw_s, e_iret, e_zret, e_lret, e_aret, e_ret, en_0, en_n, en_i, en_a, en_l, List.getElem?_cons_zero, List.getElem?_cons_succ, List.set_cons_zero, List.set_cons_succ, len_s, List.length_nil, ne_eq, hr, Int.lt_irrefl]
  | succ n ih =>
    intro k μ hk hI
    have hr : μ b 5 = nI N := by rw [hI.2 b (by omega)]; exact hc
    have h1 : ((k : Nat) : Int) < (N : Int) := by omega
    have h2 : ((k : Nat) : Int) < 4 := by omega
    have h3 : (0 : Int) ≤ ((k : Nat) : Int) := by omega
    have nk : (nI k).toInt = k := nI_toInt (by omega)
    have nR : (nI N).toInt = N := nI_toInt (by omega)
    have ck : (nI k).toNatClampNeg = k := ix_nI (by omega)
    have e6 : b + 1 + 5 + 3 * k = b + 6 + 3 * k := by omega
    have e6c : c + 1 + 5 + 3 * k = c + 6 + 3 * k := by omega
    obtain ⟨μ1, a1, a2, a3, a4, a5⟩ := x_wTake (d := d) (o := b + 6 + 3 * k) (p := c + 6 + 3 * k) (μ := μ) (by omega)
    have a1' : cl d 33 [Sum.inr (Sum.inr (5, b + 6 + 3 * k)), Sum.inr (Sum.inr (5, c + 6 + 3 * k))] μ = _ := a1
    have hI1 : IW b c (k + 1) μ0 μ1 := by
      refine ⟨fun w hw => ?_, fun a ha => by rw [a5 a (by omega) (by omega) (by omega)]; exact hI.2 a (by omega)⟩
      by_cases q : w = k
      · subst q
        refine ⟨fun j p1 p2 => by rw [a2 j p1 p2, hI.2 _ (by omega)], fun i p1 => by rw [a3 i p1, hI.2 _ (by omega)], fun i p1 => by rw [a4 i p1, hI.2 _ (by omega)]⟩
      · have f : ∀ t, t < 3 → μ1 (b + 6 + 3 * w + t) = μ (b + 6 + 3 * w + t) := fun t ht => a5 _ (by omega) (by omega) (by omega)
        obtain ⟨i1, i2, i3⟩ := hI.1 w (by omega)
        exact ⟨fun j p1 p2 => (congrFun (f 0 (by omega)) j).trans (i1 j p1 p2), fun i p1 => by rw [f 1 (by omega)]; exact i2 i p1, fun i p1 => by rw [f 2 (by omega)]; exact i3 i p1⟩
    obtain ⟨μ', b1, b2⟩ := ih (k + 1) μ1 (by omega) hI1
    refine ⟨μ', ?_, b2⟩
    rw [← b1, u_39_1]
    simp -implicitDefEqProofs only [u_39_0, u_39_2, u_39_3, u_39_5, u_39_6, u_39_8, u_39_9, e_iload_n, e_iload, e_lload_n, e_lload, e_aload_n, e_aload, e_istore_n, e_istore, e_astore_n, e_astore, e_lstore_n, e_lstore, e_iinc, e_iconst, e_bipush, e_sipush, e_ldc_w, e_ldc, e_ldcS, e_lconst, e_ldc2_w, e_iadd, e_isub, e_imul, e_iand, e_ixor, e_ishl, e_ishr, e_iushr, e_idiv, e_irem, e_ineg, e_i2b, e_i2s, e_i2c, e_ladd, e_lsub, e_lmul, e_land, e_lor, e_ldiv, e_lrem, e_lneg, e_lshl, e_lshr, e_lushr, e_i2l, e_l2i, e_lcmp, e_dupI, e_dupA, e_dup2, e_getI, e_getA, e_putI, e_putZ, e_getstatic, e_iaload, e_iastore, e_aaload10, e_alen10, e_aaload11, e_alen11, e_aaload12, e_alen12, e_aaload13, e_alen13, e_alen, e_invokevirtual, e_invokevirtualB, e_invokestatic, e_invokestaticB, ct_0, ct_i, ct_a, ct_l, os_0, os_s, rc_0, rc_s, sl_0, sl_i, sl_a, sl_l, simprocAttr, ix, z_em, up_eq, up_j, Nat.le_refl, true_or, or_true, true_and, and_true, and_self, or_self, beq_self_eq_true, if_true, if_false, ite_self, ca_f, ca_t, aLen, Int32.lt_iff_toInt_lt, Int32.le_iff_toInt_le, z_ite, z_iten, z_ite1, ite_not, not_true_eq_false, not_false_eq_true, false_and, and_false, false_or, or_false, b_max, b_min, b_minL, b_absL, b_ixD, b_ixH, b_copy, tk_0, tk_s, dr_0, dr_s, pu_s, pu_n, ca_0, ca_1, clr_0, clr_s, e_nop, e_goto, e_if_eq, e_if_ne, e_if_lt, e_if_ge, e_if_gt, e_if_le, e_ic_eq, e_ic_ne, e_ic_lt, e_ic_ge, e_ic_gt, e_ic_le, e_tsw, e_lsw, sw_0, sw_s, e_iret, e_zret, e_lret, e_aret, e_ret, en_0, en_n, en_i, en_a, en_l, List.getElem?_cons_zero, List.getElem?_cons_succ, List.set_cons_zero, List.set_cons_succ, len_s, List.length_nil, ne_eq, hr, nk, nR, ck, h1, h2, h3, e6, e6c, a1', ← nI_succ]
def IR (b c k : Nat) (μ0 μ : Mem) : Prop :=
  (∀ r, r < k → ∀ j, j ≤ 7 → μ (b + 18 + r) j = μ0 (c + 18 + r) j) ∧ ∀ a, (a < b + 18 ∨ b + 18 + k ≤ a) → μ a = μ0 a
theorem l_tr {d b c N : Nat} {μ0 : Mem} (hN : N ≤ 8) (hbc : b + 32 ≤ c ∨ c + 32 ≤ b) (hc : μ0 b 6 = nI N) : ∀ n k μ, k + n = N → IR b c k μ0 μ → ∃ μ', res d 39 4 [some (vR 6 b), some (vR 6 c), some (vI (nI k))] [] μ = res d 39 7 [some (vR 6 b), some (vR 6 c), some (vI 0)] [] μ' ∧ IR b c N μ0 μ' := by
  intro n
  induction n with
  | zero =>
    intro k μ hk hI
    have hk : k = N := by omega
    subst hk
    refine ⟨μ, ?_, hI⟩
    have hr : μ b 6 = nI k := by rw [hI.2 b (by omega)]; exact hc
    rw [u_39_4]
    simp -implicitDefEqProofs only [u_39_0, u_39_2, u_39_3, u_39_5, u_39_6, u_39_8, u_39_9, e_iload_n, e_iload, e_lload_n, e_lload, e_aload_n, e_aload, e_istore_n, e_istore, e_astore_n, e_astore, e_lstore_n, e_lstore, e_iinc, e_iconst, e_bipush, e_sipush, e_ldc_w, e_ldc, e_ldcS, e_lconst, e_ldc2_w, e_iadd, e_isub, e_imul, e_iand, e_ixor, e_ishl, e_ishr, e_iushr, e_idiv, e_irem, e_ineg, e_i2b, e_i2s, e_i2c, e_ladd, e_lsub, e_lmul, e_land, e_lor, e_ldiv, e_lrem, e_lneg, e_lshl, e_lshr, e_lushr, e_i2l, e_l2i, e_lcmp, e_dupI, e_dupA, e_dup2, e_getI, e_getA, e_putI, e_putZ, e_getstatic, e_iaload, e_iastore, e_aaload10, e_alen10, e_aaload11, e_alen11, e_aaload12, e_alen12, e_aaload13, e_alen13, e_alen, e_invokevirtual, e_invokevirtualB, e_invokestatic, e_invokestaticB, ct_0, ct_i, ct_a, ct_l, os_0, os_s, rc_0, rc_s, sl_0, sl_i, sl_a, sl_l, simprocAttr, ix, z_em, up_eq, up_j, Nat.le_refl, true_or, or_true, true_and, and_true, and_self, or_self, beq_self_eq_true, if_true, if_false, ite_self, ca_f, ca_t, aLen, Int32.lt_iff_toInt_lt, Int32.le_iff_toInt_le, z_ite, z_iten, z_ite1, ite_not, not_true_eq_false, not_false_eq_true, false_and, and_false, false_or, or_false, b_max, b_min, b_minL, b_absL, b_ixD, b_ixH, b_copy, tk_0, tk_s, dr_0, dr_s, pu_s, pu_n, ca_0, ca_1, clr_0, clr_s, e_nop, e_goto, e_if_eq, e_if_ne, e_if_lt, e_if_ge, e_if_gt, e_if_le, e_ic_eq, e_ic_ne, e_ic_lt, e_ic_ge, e_ic_gt, e_ic_le, e_tsw, e_lsw, sw_0, sw_s, e_iret, e_zret, e_lret, e_aret, e_ret, en_0, en_n, en_i, en_a, en_l, List.getElem?_cons_zero, List.getElem?_cons_succ, List.set_cons_zero, List.set_cons_succ, len_s, List.length_nil, ne_eq, hr, Int.lt_irrefl]
  | succ n ih =>
    intro k μ hk hI
    have hr : μ b 6 = nI N := by rw [hI.2 b (by omega)]; exact hc
    have h1 : ((k : Nat) : Int) < (N : Int) := by omega
    have h2 : ((k : Nat) : Int) < 8 := by omega
    have h3 : (0 : Int) ≤ ((k : Nat) : Int) := by omega
    have nk : (nI k).toInt = k := nI_toInt (by omega)
    have nR : (nI N).toInt = N := nI_toInt (by omega)
    have ck : (nI k).toNatClampNeg = k := ix_nI (by omega)
    have e6 : b + 2 + 16 + 1 * k = b + 18 + k := by omega
    have e6c : c + 2 + 16 + 1 * k = c + 18 + k := by omega
    obtain ⟨μ1, a1, a2, a5⟩ := x_rTake (d := d) (o := b + 18 + k) (p := c + 18 + k) (μ := μ) (by omega)
    have a1' : cl d 17 [Sum.inr (Sum.inr (2, b + 18 + k)), Sum.inr (Sum.inr (2, c + 18 + k))] μ = _ := a1
    have hI1 : IR b c (k + 1) μ0 μ1 := by
      refine ⟨fun w hw j hj => ?_, fun a ha => by rw [a5 a (by omega)]; exact hI.2 a (by omega)⟩
      by_cases q : w = k
      · subst q
        rw [a2 j hj, hI.2 _ (by omega)]
      · rw [a5 _ (by omega)]
        exact hI.1 w (by omega) j hj
    obtain ⟨μ', b1, b2⟩ := ih (k + 1) μ1 (by omega) hI1
    refine ⟨μ', ?_, b2⟩
    rw [← b1, u_39_4]
    simp -implicitDefEqProofs only [u_39_0, u_39_2, u_39_3, u_39_5, u_39_6, u_39_8, u_39_9, e_iload_n, e_iload, e_lload_n, e_lload, e_aload_n, e_aload, e_istore_n, e_istore, e_astore_n, e_astore, e_lstore_n, e_lstore, e_iinc, e_iconst, e_bipush, e_sipush, e_ldc_w, e_ldc, e_ldcS, e_lconst, e_ldc2_w, e_iadd, e_isub, e_imul, e_iand, e_ixor, e_ishl, e_ishr, e_iushr, e_idiv, e_irem, e_ineg, e_i2b, e_i2s, e_i2c, e_ladd, e_lsub, e_lmul, e_land, e_lor, e_ldiv, e_lrem, e_lneg, e_lshl, e_lshr, e_lushr, e_i2l, e_l2i, e_lcmp, e_dupI, e_dupA, e_dup2, e_getI, e_getA, e_putI, e_putZ, e_getstatic, e_iaload, e_iastore, e_aaload10, e_alen10, e_aaload11, e_alen11, e_aaload12, e_alen12, e_aaload13, e_alen13, e_alen, e_invokevirtual, e_invokevirtualB, e_invokestatic, e_invokestaticB, ct_0, ct_i, ct_a, ct_l, os_0, os_s, rc_0, rc_s, sl_0, sl_i, sl_a, sl_l, simprocAttr, ix, z_em, up_eq, up_j, Nat.le_refl, true_or, or_true, true_and, and_true, and_self, or_self, beq_self_eq_true, if_true, if_false, ite_self, ca_f, ca_t, aLen, Int32.lt_iff_toInt_lt, Int32.le_iff_toInt_le, z_ite, z_iten, z_ite1, ite_not, not_true_eq_false, not_false_eq_true, false_and, and_false, false_or, or_false, b_max, b_min, b_minL, b_absL, b_ixD, b_ixH, b_copy, tk_0, tk_s, dr_0, dr_s, pu_s, pu_n, ca_0, ca_1, clr_0, clr_s, e_nop, e_goto, e_if_eq, e_if_ne, e_if_lt, e_if_ge, e_if_gt, e_if_le, e_ic_eq, e_ic_ne, e_ic_lt, e_ic_ge, e_ic_gt, e_ic_le, e_tsw, e_lsw, sw_0, sw_s, e_iret, e_zret, e_lret, e_aret, e_ret, en_0, en_n, en_i, en_a, en_l, List.getElem?_cons_zero, List.getElem?_cons_succ, List.set_cons_zero, List.set_cons_succ, len_s, List.length_nil, ne_eq, hr, nk, nR, ck, h1, h2, h3, e6, e6c, a1', ← nI_succ]
