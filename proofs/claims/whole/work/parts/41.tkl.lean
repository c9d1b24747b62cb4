/-! THE CLASS TAKES A WORLD OVER: its texts, and what it ends with. -/
def IL (b c k : Nat) (μ0 μ : Mem) : Prop :=
  (∀ u, u < k → μ (b + 26 + 3 * u) 2 = μ0 (c + 26 + 3 * u) 2 ∧ μ (b + 26 + 3 * u) 3 = μ0 (c + 26 + 3 * u) 3 ∧ ∀ i, i < (μ0 (c + 26 + 3 * u) 2).toNatClampNeg → μ (b + 27 + 3 * u) i = μ0 (c + 27 + 3 * u) i) ∧ ∀ a, (a < b + 26 ∨ b + 32 ≤ a) → μ a = μ0 a
theorem l_tl {d b c : Nat} {μ0 : Mem} (hbc : b + 32 ≤ c ∨ c + 32 ≤ b) (hL : LW c μ0) (h3 : ∀ u, u < 2 → μ0 (c + 26 + 3 * u) 3 = 0 ∨ μ0 (c + 26 + 3 * u) 3 = 1) (ht : 0 ≤ (μ0 b 7).toInt ∧ (μ0 b 7).toInt ≤ 60) (hq : 0 ≤ (μ0 b 8).toInt ∧ (μ0 b 8).toInt ≤ 24) : ∀ n k μ, k + n = 2 → IL b c k μ0 μ → ∃ μ', res d 39 7 [some (vR 6 b), some (vR 6 c), some (vI (nI k))] [] μ = some (none, cpy (cpy μ' (c + 4) 0 (b + 4) 0 (μ0 b 7).toNatClampNeg) (c + 5) 0 (b + 5) 0 (μ0 b 8).toNatClampNeg) ∧ IL b c 2 μ0 μ' := by
  intro n
  induction n with
  | zero =>
    intro k μ hk hI
    have hk : k = 2 := by omega
    subst hk
    refine ⟨μ, ?_, hI⟩
    have n2 : (nI 2).toInt = 2 := nI_toInt (by omega)
    have r7 : μ b 7 = μ0 b 7 := by rw [hI.2 b (by omega)]
    have r8 : ∀ x y z, cpy μ x 0 (b + 4) y z b 8 = μ0 b 8 := fun x y z => by rw [cpy_o (by omega), hI.2 b (by omega)]
    have bt : 0 ≤ (μ0 b 7).toInt ∧ 0 + (μ0 b 7).toInt ≤ 60 := by omega
    have bq : 0 ≤ (μ0 b 8).toInt ∧ 0 + (μ0 b 8).toInt ≤ 24 := by omega
    rw [u_39_7]
    simp -implicitDefEqProofs only [u_39_0, u_39_2, u_39_3, u_39_5, u_39_6, u_39_8, u_39_9, e_iload_n, e_iload, e_lload_n, e_lload, e_aload_n, e_aload, e_istore_n, e_istore, e_astore_n, e_astore, e_lstore_n, e_lstore, e_iinc, e_iconst, e_bipush, e_sipush, e_ldc_w, e_ldc, e_ldcS, e_lconst, e_ldc2_w, e_iadd, e_isub, e_imul, e_iand, e_ixor, e_ishl, e_ishr, e_iushr, e_idiv, e_irem, e_ineg, e_i2b, e_i2s, e_i2c, e_ladd, e_lsub, e_lmul, e_land, e_lor, e_ldiv, e_lrem, e_lneg, e_lshl, e_lshr, e_lushr, e_i2l, e_l2i, e_lcmp, e_dupI, e_dupA, e_dup2, e_getI, e_getA, e_putI, e_putZ, e_getstatic, e_iaload, e_iastore, e_aaload10, e_alen10, e_aaload11, e_alen11, e_aaload12, e_alen12, e_aaload13, e_alen13, e_alen, e_invokevirtual, e_invokevirtualB, e_invokestatic, e_invokestaticB, ct_0, ct_i, ct_a, ct_l, os_0, os_s, rc_0, rc_s, sl_0, sl_i, sl_a, sl_l, simprocAttr, ix, z_em, up_eq, up_j, Nat.le_refl, true_or, or_true, true_and, and_true, and_self, or_self, beq_self_eq_true, if_true, if_false, ite_self, ca_f, ca_t, aLen, Int32.lt_iff_toInt_lt, Int32.le_iff_toInt_le, z_ite, z_iten, z_ite1, ite_not, not_true_eq_false, not_false_eq_true, false_and, and_false, false_or, or_false, b_max, b_min, b_minL, b_absL, b_ixD, b_ixH, b_copy, tk_0, tk_s, dr_0, dr_s, pu_s, pu_n, ca_0, ca_1, clr_0, clr_s, e_nop, e_goto, e_if_eq, e_if_ne, e_if_lt, e_if_ge, e_if_gt, e_if_le, e_ic_eq, e_ic_ne, e_ic_lt, e_ic_ge, e_ic_gt, e_ic_le, e_tsw, e_lsw, sw_0, sw_s, e_iret, e_zret, e_lret, e_aret, e_ret, en_0, en_n, en_i, en_a, en_l, List.getElem?_cons_zero, List.getElem?_cons_succ, List.set_cons_zero, List.set_cons_succ, len_s, List.length_nil, ne_eq, n2, Int.lt_irrefl, r7, r8, if_pos bt, if_pos bq]
  | succ n ih =>
    intro k μ hk hI
    have h1 : ((k : Nat) : Int) < 2 := by omega
    have hk2 : k < 2 := by omega
    have h30 : (0 : Int) ≤ ((k : Nat) : Int) := by omega
    have nk : (nI k).toInt = k := nI_toInt (by omega)
    have ck : (nI k).toNatClampNeg = k := ix_nI (by omega)
    have e6 : b + 3 + 23 + 3 * k = b + 26 + 3 * k := by omega
    have e6c : c + 3 + 23 + 3 * k = c + 26 + 3 * k := by omega
    have hcs : μ (c + 26 + 3 * k) = μ0 (c + 26 + 3 * k) := hI.2 _ (by omega)
    obtain ⟨μ1, a1, a2, a3, a4, a5⟩ := x_lTake (d := d) (o := b + 26 + 3 * k) (p := c + 26 + 3 * k) (μ := μ) (by omega) (by rw [hcs]; exact hL k hk2) (by rw [hcs]; exact h3 k hk2)
    have a1' : cl d 1 [Sum.inr (Sum.inr (0, b + 26 + 3 * k)), Sum.inr (Sum.inr (0, c + 26 + 3 * k))] μ = _ := a1
    have hI1 : IL b c (k + 1) μ0 μ1 := by
      refine ⟨fun u hu => ?_, fun a ha => by rw [a5 a (by omega) (by omega)]; exact hI.2 a ha⟩
      by_cases q : u = k
      · subst q
        refine ⟨by rw [a2, hcs], by rw [a3, hcs], fun i hi => ?_⟩
        have e1 : b + 27 + 3 * u = b + 26 + 3 * u + 1 := by omega
        have e2 : c + 27 + 3 * u = c + 26 + 3 * u + 1 := by omega
        rw [e1, e2, a4 i (by rw [hcs]; exact hi), hI.2 _ (by omega)]
      · rw [a5 _ (by omega) (by omega), a5 _ (by omega) (by omega)]
        exact hI.1 u (by omega)
    obtain ⟨μ', b1, b2⟩ := ih (k + 1) μ1 (by omega) hI1
    refine ⟨μ', ?_, b2⟩
    rw [← b1, u_39_7]
    simp -implicitDefEqProofs only [u_39_0, u_39_2, u_39_3, u_39_5, u_39_6, u_39_8, u_39_9, e_iload_n, e_iload, e_lload_n, e_lload, e_aload_n, e_aload, e_istore_n, e_istore, e_astore_n, e_astore, e_lstore_n, e_lstore, e_iinc, e_iconst, e_bipush, e_sipush, e_ldc_w, e_ldc, e_ldcS, e_lconst, e_ldc2_w, e_iadd, e_isub, e_imul, e_iand, e_ixor, e_ishl, e_ishr, e_iushr, e_idiv, e_irem, e_ineg, e_i2b, e_i2s, e_i2c, e_ladd, e_lsub, e_lmul, e_land, e_lor, e_ldiv, e_lrem, e_lneg, e_lshl, e_lshr, e_lushr, e_i2l, e_l2i, e_lcmp, e_dupI, e_dupA, e_dup2, e_getI, e_getA, e_putI, e_putZ, e_getstatic, e_iaload, e_iastore, e_aaload10, e_alen10, e_aaload11, e_alen11, e_aaload12, e_alen12, e_aaload13, e_alen13, e_alen, e_invokevirtual, e_invokevirtualB, e_invokestatic, e_invokestaticB, ct_0, ct_i, ct_a, ct_l, os_0, os_s, rc_0, rc_s, sl_0, sl_i, sl_a, sl_l, simprocAttr, ix, z_em, up_eq, up_j, Nat.le_refl, true_or, or_true, true_and, and_true, and_self, or_self, beq_self_eq_true, if_true, if_false, ite_self, ca_f, ca_t, aLen, Int32.lt_iff_toInt_lt, Int32.le_iff_toInt_le, z_ite, z_iten, z_ite1, ite_not, not_true_eq_false, not_false_eq_true, false_and, and_false, false_or, or_false, b_max, b_min, b_minL, b_absL, b_ixD, b_ixH, b_copy, tk_0, tk_s, dr_0, dr_s, pu_s, pu_n, ca_0, ca_1, clr_0, clr_s, e_nop, e_goto, e_if_eq, e_if_ne, e_if_lt, e_if_ge, e_if_gt, e_if_le, e_ic_eq, e_ic_ne, e_ic_lt, e_ic_ge, e_ic_gt, e_ic_le, e_tsw, e_lsw, sw_0, sw_s, e_iret, e_zret, e_lret, e_aret, e_ret, en_0, en_n, en_i, en_a, en_l, List.getElem?_cons_zero, List.getElem?_cons_succ, List.set_cons_zero, List.set_cons_succ, len_s, List.length_nil, ne_eq, nk, ck, h1, h30, e6, e6c, a1', ← nI_succ]
