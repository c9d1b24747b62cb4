/-! THE CLASS TAKES A WORLD OVER, whole. -/
theorem x_take {d b c N R : Nat} {μ : Mem} (hbc : b + 32 ≤ c ∨ c + 32 ≤ b) (hN : N ≤ 4) (hR : R ≤ 8) (h5 : μ c 5 = nI N) (h6 : μ c 6 = nI R) (hL : LW c μ) (h3 : ∀ u, u < 2 → μ (c + 26 + 3 * u) 3 = 0 ∨ μ (c + 26 + 3 * u) 3 = 1) (ht : 0 ≤ (μ c 7).toInt ∧ (μ c 7).toInt ≤ 60) (hq : 0 ≤ (μ c 8).toInt ∧ (μ c 8).toInt ≤ 24) :
    ∃ μs μ1 μ2 μ3, cl d 39 [vR 6 b, vR 6 c] μ = some (none, cpy (cpy μ3 (c + 4) 0 (b + 4) 0 (μ c 7).toNatClampNeg) (c + 5) 0 (b + 5) 0 (μ c 8).toNatClampNeg) ∧ (∀ a, a ≠ b → μs a = μ a) ∧ (∀ j, 5 ≤ j → j ≤ 13 → μs b j = μ c j) ∧ IW b c N μs μ1 ∧ IR b c R μ1 μ2 ∧ IL b c 2 μ2 μ3 := by
  have hM : ∃ μs, μs = up (up (up (up (up (up (up (up (up μ b 5 (μ c 5)) b 6 (μ c 6)) b 7 (μ c 7)) b 8 (μ c 8)) b 9 (μ c 9)) b 10 (μ c 10)) b 11 (μ c 11)) b 12 (μ c 12)) b 13 (μ c 13) := ⟨_, rfl⟩
  obtain ⟨μs, es⟩ := hM
  have ncb : ¬ c = b := by omega
  have hs : ∀ a, a ≠ b → μs a = μ a := fun a ha => by rw [es, up_ne ha, up_ne ha, up_ne ha, up_ne ha, up_ne ha, up_ne ha, up_ne ha, up_ne ha, up_ne ha]
  have hj : ∀ j, 5 ≤ j → j ≤ 13 → μs b j = μ c j := fun j p1 p2 => by
    rw [es]
    have : j = 5 ∨ j = 6 ∨ j = 7 ∨ j = 8 ∨ j = 9 ∨ j = 10 ∨ j = 11 ∨ j = 12 ∨ j = 13 := by omega
    rcases this with rfl | rfl | rfl | rfl | rfl | rfl | rfl | rfl | rfl
    all_goals (simp only [up]; simp)
  obtain ⟨μ1, a1, i1⟩ := l_tw (d := d) (μ0 := μs) hN hbc (by rw [hj 5 (by omega) (by omega)]; exact h5) N 0 μs (by omega) ⟨fun w hw => absurd hw (by omega), fun _ _ => rfl⟩
  have f1 : ∀ a, (a < b + 6 ∨ b + 18 ≤ a) → μ1 a = μs a := fun a h => i1.2 a (by omega)
  obtain ⟨μ2, a2, i2⟩ := l_tr (d := d) (μ0 := μ1) hR hbc (by rw [f1 b (by omega), hj 6 (by omega) (by omega)]; exact h6) R 0 μ1 (by omega) ⟨fun w hw => absurd hw (by omega), fun _ _ => rfl⟩
  have f2 : ∀ a, (a < b + 18 ∨ b + 26 ≤ a) → μ2 a = μ1 a := fun a h => i2.2 a (by omega)
  have g : ∀ a, a ≠ b → (a < b + 6 ∨ b + 26 ≤ a) → μ2 a = μ a := fun a h1 h2 => by rw [f2 a (by omega), f1 a (by omega), hs a h1]
  have gb : μ2 b = μs b := by rw [f2 b (by omega), f1 b (by omega)]
  obtain ⟨μ3, a3, i3⟩ := l_tl (d := d) (μ0 := μ2) hbc (fun u hu => by rw [g _ (by omega) (by omega)]; exact hL u hu) (fun u hu => by rw [g _ (by omega) (by omega)]; exact h3 u hu) (by rw [gb, hj 7 (by omega) (by omega)]; exact ht) (by rw [gb, hj 8 (by omega) (by omega)]; exact hq) 2 0 μ2 (by omega) ⟨fun w hw => absurd hw (by omega), fun _ _ => rfl⟩
  refine ⟨μs, μ1, μ2, μ3, ?_, hs, hj, i1, i2, i3⟩
  rw [gb, hj 7 (by omega) (by omega), hj 8 (by omega) (by omega)] at a3
  have z : (vI 0 : AV) = vI (nI 0) := rfl
  rw [z] at a1 a2
  rw [a3] at a2
  rw [a2] at a1
  rw [← a1]
  simp -implicitDefEqProofs only [cl_39, u_39_0, e_iload_n, e_iload, e_lload_n, e_lload, e_aload_n, e_aload, e_istore_n, e_istore, e_astore_n, e_astore, e_lstore_n, e_lstore, e_iinc, e_iconst, e_bipush, e_sipush, e_ldc_w, e_ldc, e_ldcS, e_lconst, e_ldc2_w, e_iadd, e_isub, e_imul, e_iand, e_ixor, e_ishl, e_ishr, e_iushr, e_idiv, e_irem, e_ineg, e_i2b, e_i2s, e_i2c, e_ladd, e_lsub, e_lmul, e_land, e_lor, e_ldiv, e_lrem, e_lneg, e_lshl, e_lshr, e_lushr, e_i2l, e_l2i, e_lcmp, e_dupI, e_dupA, e_dup2, e_getI, e_getA, e_putI, e_putZ, e_getstatic, e_iaload, e_iastore, e_aaload10, e_alen10, e_aaload11, e_alen11, e_aaload12, e_alen12, e_aaload13, e_alen13, e_alen, e_invokevirtual, e_invokevirtualB, e_invokestatic, e_invokestaticB, ct_0, ct_i, ct_a, ct_l, os_0, os_s, rc_0, rc_s, sl_0, sl_i, sl_a, sl_l, simprocAttr, ix, z_em, up_eq, up_j, Nat.le_refl, true_or, or_true, true_and, and_true, and_self, or_self, beq_self_eq_true, if_true, if_false, ite_self, ca_f, ca_t, aLen, Int32.lt_iff_toInt_lt, Int32.le_iff_toInt_le, z_ite, z_iten, z_ite1, ite_not, not_true_eq_false, not_false_eq_true, false_and, and_false, false_or, or_false, b_max, b_min, b_minL, b_absL, b_ixD, b_ixH, b_copy, tk_0, tk_s, dr_0, dr_s, pu_s, pu_n, ca_0, ca_1, clr_0, clr_s, e_nop, e_goto, e_if_eq, e_if_ne, e_if_lt, e_if_ge, e_if_gt, e_if_le, e_ic_eq, e_ic_ne, e_ic_lt, e_ic_ge, e_ic_gt, e_ic_le, e_tsw, e_lsw, sw_0, sw_s, e_iret, e_zret, e_lret, e_aret, e_ret, en_0, en_n, en_i, en_a, en_l, List.getElem?_cons_zero, List.getElem?_cons_succ, List.set_cons_zero, List.set_cons_succ, len_s, List.length_nil, ne_eq, up_o ncb, ← es]
  rfl
