/-! ODDS: the class's loop. -/
theorem l_oddsC {fz μ0 : Mem} {d c w R A : Nat} {n t p : Int32} (h00 : RR fz μ0) (hw : w < 4) (hwc : (w : Int) < (vC 1 μ0 0 0).toInt) (hR : vC 1 μ0 0 1 = nI R) (hR8 : R ≤ 8) (hc : c = nb (aS (nI w) (vM 113 μ0)) R) (hc6 : c ≤ 6) (h0 : 0 ≤ n.toInt ∧ n.toInt ≤ 600) (ht0 : 0 ≤ t.toInt) (hA : (A : Int) = sumN (fun i => eW (aS (nI w) (vM 113 μ0)) true (tnS (vM 113 μ0)) i R * inT (txM μ0) n t w (eV (aS (nI w) (vM 113 μ0)) true (vM 113 μ0) i R)) (2 ^ c)) (hA2 : A ≤ 10 ^ c) : ∀ m i μ (ab : Int64) (x9 x11 : Option AV), i + m = 2 ^ c → RR fz μ → (∀ o, (o < 33 ∨ 65 ≤ o) → μ o = μ0 o) → ab.toInt = sumN (fun i => eW (aS (nI w) (vM 113 μ0)) true (tnS (vM 113 μ0)) i R * inT (txM μ0) n t w (eV (aS (nI w) (vM 113 μ0)) true (vM 113 μ0) i R)) i → ∃ μ', res d 76 9 [some (vR 7 0), some (vI (nI w)), some (vI n), some (vI t), some (vI p), some (vI (nI c)), some (vL ab), none, some (vI (nI i)), x9, none, x11] [] μ = some (some (vL (nL (if p = 0 then A / Nat.gcd A (10 ^ c) else 10 ^ c / Nat.gcd A (10 ^ c)))), μ') ∧ RR fz μ' ∧ ∀ o, (o < 33 ∨ 65 ≤ o) → μ' o = μ0 o := by
  generalize hf : (fun i => eW (aS (nI w) (vM 113 μ0)) true (tnS (vM 113 μ0)) i R * inT (txM μ0) n t w (eV (aS (nI w) (vM 113 μ0)) true (vM 113 μ0) i R)) = f at *
  have hp6 := p10_6 hc6
  have P64 : 2 ^ c ≤ 64 := Nat.le_trans (Nat.pow_le_pow_right (by decide) hc6) (by decide)
  have hsh : (1 : Int32) <<< (nI c &&& 31) = nI (2 ^ c) := shl_ok ⟨c, by omega⟩
  have nP : (nI (2 ^ c)).toInt = ((2 ^ c : Nat) : Int) := nI_toInt (by omega)
  have W0 := h00.1.1.2
  have fnn : ∀ i, 0 ≤ f i := fun i => by
    rw [← hf]
    exact Int.mul_nonneg (eW_rg R (fun r hr => gr5 W0 (by omega))).1 (inT_rg _).1
  intro m
  induction m with
  | zero =>
    intro i μ ab x9 x11 hi hRR hF hab
    have hi : i = 2 ^ c := by omega
    subst hi
    have ea : ab = nL A := Int64.toInt_inj.mp (by rw [hab, ← hA, nL_toInt (by omega)])
    have hl := x_lowest (d := d) (p := p) (μ := μ) hc6 hA2
    refine ⟨μ, ?_, hRR, hF⟩
    rw [u_76_9, ea]
    simp -implicitDefEqProofs only [u_76_0, u_76_1, u_76_2, u_76_3, u_76_4, u_76_5, u_76_6, u_76_7, u_76_8, u_76_10, u_76_11, u_76_12, u_76_13, u_76_14, u_76_15, u_76_16, u_76_17, e_iload_n, e_iload, e_lload_n, e_lload, e_aload_n, e_aload, e_istore_n, e_istore, e_astore_n, e_astore, e_lstore_n, e_lstore, e_iinc, e_iconst, e_bipush, e_sipush, e_ldc_w, e_ldc, e_ldcS, e_lconst, e_ldc2_w, e_iadd, e_isub, e_imul, e_iand, e_ixor, e_ishl, e_ishr, e_iushr, e_idiv, e_irem, e_ineg, e_i2b, e_i2s, e_i2c, e_ladd, e_lsub, e_lmul, e_land, e_lor, e_ldiv, e_lrem, e_lneg, e_lshl, e_lshr, e_lushr, e_i2l, e_l2i, e_lcmp, e_dupI, e_dupA, e_dup2, e_getI, e_getA, e_putI, e_putZ, e_getstatic, e_iaload, e_iastore, e_aaload10, e_alen10, e_aaload11, e_alen11, e_aaload12, e_alen12, e_aaload13, e_alen13, e_alen, e_invokevirtual, e_invokevirtualB, e_invokestatic, e_invokestaticB, ct_0, ct_i, ct_a, ct_l, os_0, os_s, rc_0, rc_s, sl_0, sl_i, sl_a, sl_l, simprocAttr, ix, z_em, up_eq, up_j, Nat.le_refl, true_or, or_true, true_and, and_true, and_self, or_self, beq_self_eq_true, if_true, if_false, ite_self, ca_f, ca_t, aLen, Int32.lt_iff_toInt_lt, Int32.le_iff_toInt_le, z_ite, z_iten, z_ite1, ite_not, not_true_eq_false, not_false_eq_true, false_and, and_false, false_or, or_false, b_max, b_min, b_minL, b_absL, b_ixD, b_ixH, b_copy, tk_0, tk_s, dr_0, dr_s, pu_s, pu_n, ca_0, ca_1, clr_0, clr_s, e_nop, e_goto, e_if_eq, e_if_ne, e_if_lt, e_if_ge, e_if_gt, e_if_le, e_ic_eq, e_ic_ne, e_ic_lt, e_ic_ge, e_ic_gt, e_ic_le, e_tsw, e_lsw, sw_0, sw_s, e_iret, e_zret, e_lret, e_aret, e_ret, en_0, en_n, en_i, en_a, en_l, List.getElem?_cons_zero, List.getElem?_cons_succ, List.set_cons_zero, List.set_cons_succ, len_s, List.length_nil, ne_eq, x_within, x_in, eT1, eT2, eT3, eT4, eT5, eT6, eM1, eM2, eM3, eM4, eM5, eM6, Nat.one_mul, Nat.mul_one, Nat.zero_add, hsh, Int.lt_irrefl, hl]
  | succ m ih =>
    intro i μ ab x9 x11 hi hRR hF hab
    have ni : (nI i).toInt = i := nI_toInt (by omega)
    have h1 : ((i : Nat) : Int) < ((2 ^ c : Nat) : Int) := by omega
    have m13 : vM 113 μ = vM 113 μ0 := vM_congr (hF 113 (by omega))
    have tx3 : txM μ = txM μ0 := txM_congr (hF 113 (by omega))
    have vc1 : vC 1 μ = vC 1 μ0 := vC_congr fun o p1 p2 => hF o (by omega)
    obtain ⟨μ1, a1, a2, a3, a4, a5, a6, a7, a8, a9, a10, a11, a12⟩ := x_trial (d := d) hRR
    rw [m13] at a7
    rw [tx3] at a8
    have r33 : (vC 33 μ1 0 1).toNatClampNeg = R := by rw [a11 1 (by decide), vc1, hR, ix_nI (by omega)]
    have rI : (vC 33 μ1 0 1).toInt = R := by rw [a11 1 (by decide), vc1, hR, nI_toInt (by omega)]
    obtain ⟨μ2, b1, b2, b3⟩ := x_choose (d := d) (b := 33) (w := nI w) (c := nI i) (μ := μ1) a10
    rw [r33] at b1 b2
    have eqr : ∀ r, r < R → ∀ k, k < 8 → vM 113 μ0 (10 + r) k = vC 33 μ1 (10 + r) k := fun r hr k hk => a7.2.2.1 r (by omega) (by omega) k hk
    have sel : ∀ r, r < R → aS (nI w) (vC 33 μ1) r = aS (nI w) (vM 113 μ0) r ∧ tnS (vC 33 μ1) r = tnS (vM 113 μ0) r := fun r hr => by
      unfold aS tnS
      rw [eqr r hr 6 (by decide), eqr r hr 2 (by decide), eqr r hr 5 (by decide)]
      exact ⟨rfl, rfl⟩
    obtain ⟨s1, s2, s3⟩ := e_sel (one := true) (V := vC 33 μ1) (c := i) R sel
    have ew := ch_w (only := nI w) (c := i) a10 (by omega) R hR8 (by omega)
    rw [s3] at ew
    have ev := ch_e (only := nI w) (V := vC 33 μ1) (c := i) (by omega) R hR8
    rw [s2] at ev
    rw [ev] at b2
    have wr := eW_rg (sel := aS (nI w) (vM 113 μ0)) (one := true) (tn := tnS (vM 113 μ0)) (c := i) R (fun r hr => gr5 W0 (by omega))
    generalize hwt : chL (nI w) (nI i) (vC 33 μ1) R = wt at *
    have b1' : cl d 52 [Sum.inr (Sum.inr (6, 33)), vI (nI w), vI (nI i)] μ1 = _ := b1
    have W2 : WFV (vC 33 μ2) := by rw [b2]; exact eV_wf a10 R hR8
    have RR2 : RR fz μ2 := a2.ct b3 W2
    have F2 : ∀ o, (o < 33 ∨ 65 ≤ o) → μ2 o = μ0 o := fun o p => by rw [b3 o (by omega) (by omega) (by omega), a6 o p, hF o p]
    have z0 : (0 : Int64).toInt = 0 := rfl
    have gm9 := h00.1.2.2.1
    have fi : f i = wt.toInt * inT (txM μ0) n t w (eV (aS (nI w) (vM 113 μ0)) true (vM 113 μ0) i R) := by rw [ew, ← hf]
    have fs : sumN f (i + 1) = sumN f i + f i := rfl
    have sl := sumN_le (f := f) (n := 2 ^ c) (i := i + 1) (fun j _ => fnn j) (by omega)
    have sl0 := sumN_le (f := f) (n := 2 ^ c) (i := i) (fun j _ => fnn j) (by omega)
    rw [← hA] at sl sl0
    rw [u_76_9]
    by_cases qw : (0 : Int64) < wt
    · have E2 := (eV_eqv (sel := aS (nI w) (vM 113 μ0)) (one := true) (c := i) a7 R hR8).r1 (w := w) (eV_wf a10 R hR8) (by rw [eV_lo R 0 0 (Or.inl (by decide)), a11 0 (by decide), vc1]; exact hwc)
      rw [← b2] at E2
      obtain ⟨μ3, c1, c2, c3⟩ := x_endR (d := d) (n := n) (V' := eV (aS (nI w) (vM 113 μ0)) true (vM 113 μ0) i R) (tx' := txM μ0) hw (b3.lw a9) W2 (eV_wf W0 R hR8) h0 (by rw [b2, eV_lo R 0 2 (Or.inl (by decide)), a11 2 (by decide), vc1]; omega) E2 (fun u hu => by rw [b3.tx]; exact a8 u hu)
      have RR3 : RR fz μ3 := RR2.ct c2 c3
      have F3 : ∀ o, (o < 33 ∨ 65 ≤ o) → μ3 o = μ0 o := fun o p => by rw [c2 o (by omega) (by omega) (by omega), F2 o p]
      have qw' : 0 < (lg_cmp wt 0).toInt := by rw [lgg]; exact qw
      generalize hee : timesP (minP (mn 99999) (txM μ0) (-1)) n.toNatClampNeg (eV (aS (nI w) (vM 113 μ0)) true (vM 113 μ0) i R) (1 + w) 7 = ee at c1
      have hin : inT (txM μ0) n t w (eV (aS (nI w) (vM 113 μ0)) true (vM 113 μ0) i R) = if 0 ≤ ee.toInt ∧ ee.toInt ≤ t.toInt then 1 else 0 := by
        unfold inT eeT
        rw [hee]
      by_cases q1 : 0 ≤ ee.toInt ∧ ee.toInt ≤ t.toInt
      · rw [hin, if_pos q1, Int.mul_one] at fi
        have es : (ab + wt).toInt = sumN f (i + 1) := by
          rw [Int64.toInt_add, hab, fs, fi, Int.bmod_eq_of_le] <;> omega
        obtain ⟨μ', r1, r2⟩ := ih (i + 1) μ3 (ab + wt) (some (vL wt)) (some (vI ee)) (by omega) RR3 F3 es
        refine ⟨μ', ?_, r2⟩
        rw [← r1]
        have q1a : ¬ ee.toInt < 0 := by omega
        have q1b : ¬ t.toInt < ee.toInt := by omega
        simp -implicitDefEqProofs only [u_76_0, u_76_1, u_76_2, u_76_3, u_76_4, u_76_5, u_76_6, u_76_7, u_76_8, u_76_10, u_76_11, u_76_12, u_76_13, u_76_14, u_76_15, u_76_16, u_76_17, e_iload_n, e_iload, e_lload_n, e_lload, e_aload_n, e_aload, e_istore_n, e_istore, e_astore_n, e_astore, e_lstore_n, e_lstore, e_iinc, e_iconst, e_bipush, e_sipush, e_ldc_w, e_ldc, e_ldcS, e_lconst, e_ldc2_w, e_iadd, e_isub, e_imul, e_iand, e_ixor, e_ishl, e_ishr, e_iushr, e_idiv, e_irem, e_ineg, e_i2b, e_i2s, e_i2c, e_ladd, e_lsub, e_lmul, e_land, e_lor, e_ldiv, e_lrem, e_lneg, e_lshl, e_lshr, e_lushr, e_i2l, e_l2i, e_lcmp, e_dupI, e_dupA, e_dup2, e_getI, e_getA, e_putI, e_putZ, e_getstatic, e_iaload, e_iastore, e_aaload10, e_alen10, e_aaload11, e_alen11, e_aaload12, e_alen12, e_aaload13, e_alen13, e_alen, e_invokevirtual, e_invokevirtualB, e_invokestatic, e_invokestaticB, ct_0, ct_i, ct_a, ct_l, os_0, os_s, rc_0, rc_s, sl_0, sl_i, sl_a, sl_l, simprocAttr, ix, z_em, up_eq, up_j, Nat.le_refl, true_or, or_true, true_and, and_true, and_self, or_self, beq_self_eq_true, if_true, if_false, ite_self, ca_f, ca_t, aLen, Int32.lt_iff_toInt_lt, Int32.le_iff_toInt_le, z_ite, z_iten, z_ite1, ite_not, not_true_eq_false, not_false_eq_true, false_and, and_false, false_or, or_false, b_max, b_min, b_minL, b_absL, b_ixD, b_ixH, b_copy, tk_0, tk_s, dr_0, dr_s, pu_s, pu_n, ca_0, ca_1, clr_0, clr_s, e_nop, e_goto, e_if_eq, e_if_ne, e_if_lt, e_if_ge, e_if_gt, e_if_le, e_ic_eq, e_ic_ne, e_ic_lt, e_ic_ge, e_ic_gt, e_ic_le, e_tsw, e_lsw, sw_0, sw_s, e_iret, e_zret, e_lret, e_aret, e_ret, en_0, en_n, en_i, en_a, en_l, List.getElem?_cons_zero, List.getElem?_cons_succ, List.set_cons_zero, List.set_cons_succ, len_s, List.length_nil, ne_eq, x_within, x_in, eT1, eT2, eT3, eT4, eT5, eT6, eM1, eM2, eM3, eM4, eM5, eM6, Nat.one_mul, Nat.mul_one, Nat.zero_add, hsh, nP, ni, h1, a1, b1', c1, qw', q1a, q1b, ← nI_succ]
      · rw [hin, if_neg q1, Int.mul_zero] at fi
        have es : (ab + 0).toInt = sumN f (i + 1) := by
          rw [Int64.add_zero, hab]
          omega
        obtain ⟨μ', r1, r2⟩ := ih (i + 1) μ3 (ab + 0) (some (vL wt)) (some (vI ee)) (by omega) RR3 F3 es
        refine ⟨μ', ?_, r2⟩
        rw [← r1]
        by_cases q1a : ee.toInt < 0
        · simp -implicitDefEqProofs only [u_76_0, u_76_1, u_76_2, u_76_3, u_76_4, u_76_5, u_76_6, u_76_7, u_76_8, u_76_10, u_76_11, u_76_12, u_76_13, u_76_14, u_76_15, u_76_16, u_76_17, e_iload_n, e_iload, e_lload_n, e_lload, e_aload_n, e_aload, e_istore_n, e_istore, e_astore_n, e_astore, e_lstore_n, e_lstore, e_iinc, e_iconst, e_bipush, e_sipush, e_ldc_w, e_ldc, e_ldcS, e_lconst, e_ldc2_w, e_iadd, e_isub, e_imul, e_iand, e_ixor, e_ishl, e_ishr, e_iushr, e_idiv, e_irem, e_ineg, e_i2b, e_i2s, e_i2c, e_ladd, e_lsub, e_lmul, e_land, e_lor, e_ldiv, e_lrem, e_lneg, e_lshl, e_lshr, e_lushr, e_i2l, e_l2i, e_lcmp, e_dupI, e_dupA, e_dup2, e_getI, e_getA, e_putI, e_putZ, e_getstatic, e_iaload, e_iastore, e_aaload10, e_alen10, e_aaload11, e_alen11, e_aaload12, e_alen12, e_aaload13, e_alen13, e_alen, e_invokevirtual, e_invokevirtualB, e_invokestatic, e_invokestaticB, ct_0, ct_i, ct_a, ct_l, os_0, os_s, rc_0, rc_s, sl_0, sl_i, sl_a, sl_l, simprocAttr, ix, z_em, up_eq, up_j, Nat.le_refl, true_or, or_true, true_and, and_true, and_self, or_self, beq_self_eq_true, if_true, if_false, ite_self, ca_f, ca_t, aLen, Int32.lt_iff_toInt_lt, Int32.le_iff_toInt_le, z_ite, z_iten, z_ite1, ite_not, not_true_eq_false, not_false_eq_true, false_and, and_false, false_or, or_false, b_max, b_min, b_minL, b_absL, b_ixD, b_ixH, b_copy, tk_0, tk_s, dr_0, dr_s, pu_s, pu_n, ca_0, ca_1, clr_0, clr_s, e_nop, e_goto, e_if_eq, e_if_ne, e_if_lt, e_if_ge, e_if_gt, e_if_le, e_ic_eq, e_ic_ne, e_ic_lt, e_ic_ge, e_ic_gt, e_ic_le, e_tsw, e_lsw, sw_0, sw_s, e_iret, e_zret, e_lret, e_aret, e_ret, en_0, en_n, en_i, en_a, en_l, List.getElem?_cons_zero, List.getElem?_cons_succ, List.set_cons_zero, List.set_cons_succ, len_s, List.length_nil, ne_eq, x_within, x_in, eT1, eT2, eT3, eT4, eT5, eT6, eM1, eM2, eM3, eM4, eM5, eM6, Nat.one_mul, Nat.mul_one, Nat.zero_add, hsh, nP, ni, h1, a1, b1', c1, qw', q1a, ← nI_succ]
        · have q1b : t.toInt < ee.toInt := by omega
          simp -implicitDefEqProofs only [u_76_0, u_76_1, u_76_2, u_76_3, u_76_4, u_76_5, u_76_6, u_76_7, u_76_8, u_76_10, u_76_11, u_76_12, u_76_13, u_76_14, u_76_15, u_76_16, u_76_17, e_iload_n, e_iload, e_lload_n, e_lload, e_aload_n, e_aload, e_istore_n, e_istore, e_astore_n, e_astore, e_lstore_n, e_lstore, e_iinc, e_iconst, e_bipush, e_sipush, e_ldc_w, e_ldc, e_ldcS, e_lconst, e_ldc2_w, e_iadd, e_isub, e_imul, e_iand, e_ixor, e_ishl, e_ishr, e_iushr, e_idiv, e_irem, e_ineg, e_i2b, e_i2s, e_i2c, e_ladd, e_lsub, e_lmul, e_land, e_lor, e_ldiv, e_lrem, e_lneg, e_lshl, e_lshr, e_lushr, e_i2l, e_l2i, e_lcmp, e_dupI, e_dupA, e_dup2, e_getI, e_getA, e_putI, e_putZ, e_getstatic, e_iaload, e_iastore, e_aaload10, e_alen10, e_aaload11, e_alen11, e_aaload12, e_alen12, e_aaload13, e_alen13, e_alen, e_invokevirtual, e_invokevirtualB, e_invokestatic, e_invokestaticB, ct_0, ct_i, ct_a, ct_l, os_0, os_s, rc_0, rc_s, sl_0, sl_i, sl_a, sl_l, simprocAttr, ix, z_em, up_eq, up_j, Nat.le_refl, true_or, or_true, true_and, and_true, and_self, or_self, beq_self_eq_true, if_true, if_false, ite_self, ca_f, ca_t, aLen, Int32.lt_iff_toInt_lt, Int32.le_iff_toInt_le, z_ite, z_iten, z_ite1, ite_not, not_true_eq_false, not_false_eq_true, false_and, and_false, false_or, or_false, b_max, b_min, b_minL, b_absL, b_ixD, b_ixH, b_copy, tk_0, tk_s, dr_0, dr_s, pu_s, pu_n, ca_0, ca_1, clr_0, clr_s, e_nop, e_goto, e_if_eq, e_if_ne, e_if_lt, e_if_ge, e_if_gt, e_if_le, e_ic_eq, e_ic_ne, e_ic_lt, e_ic_ge, e_ic_gt, e_ic_le, e_tsw, e_lsw, sw_0, sw_s, e_iret, e_zret, e_lret, e_aret, e_ret, en_0, en_n, en_i, en_a, en_l, List.getElem?_cons_zero, List.getElem?_cons_succ, List.set_cons_zero, List.set_cons_succ, len_s, List.length_nil, ne_eq, x_within, x_in, eT1, eT2, eT3, eT4, eT5, eT6, eM1, eM2, eM3, eM4, eM5, eM6, Nat.one_mul, Nat.mul_one, Nat.zero_add, hsh, nP, ni, h1, a1, b1', c1, qw', q1a, q1b, ← nI_succ]
    · have qw' : ¬ 0 < (lg_cmp wt 0).toInt := by rw [lgg]; exact qw
      have w0 : wt.toInt = 0 := by
        rw [Int64.lt_iff_toInt_lt, z0] at qw
        omega
      rw [w0, Int.zero_mul] at fi
      obtain ⟨μ', r1, r2⟩ := ih (i + 1) μ2 ab (some (vL wt)) x11 (by omega) RR2 F2 (by omega)
      refine ⟨μ', ?_, r2⟩
      rw [← r1]
      simp -implicitDefEqProofs only [u_76_0, u_76_1, u_76_2, u_76_3, u_76_4, u_76_5, u_76_6, u_76_7, u_76_8, u_76_10, u_76_11, u_76_12, u_76_13, u_76_14, u_76_15, u_76_16, u_76_17, e_iload_n, e_iload, e_lload_n, e_lload, e_aload_n, e_aload, e_istore_n, e_istore, e_astore_n, e_astore, e_lstore_n, e_lstore, e_iinc, e_iconst, e_bipush, e_sipush, e_ldc_w, e_ldc, e_ldcS, e_lconst, e_ldc2_w, e_iadd, e_isub, e_imul, e_iand, e_ixor, e_ishl, e_ishr, e_iushr, e_idiv, e_irem, e_ineg, e_i2b, e_i2s, e_i2c, e_ladd, e_lsub, e_lmul, e_land, e_lor, e_ldiv, e_lrem, e_lneg, e_lshl, e_lshr, e_lushr, e_i2l, e_l2i, e_lcmp, e_dupI, e_dupA, e_dup2, e_getI, e_getA, e_putI, e_putZ, e_getstatic, e_iaload, e_iastore, e_aaload10, e_alen10, e_aaload11, e_alen11, e_aaload12, e_alen12, e_aaload13, e_alen13, e_alen, e_invokevirtual, e_invokevirtualB, e_invokestatic, e_invokestaticB, ct_0, ct_i, ct_a, ct_l, os_0, os_s, rc_0, rc_s, sl_0, sl_i, sl_a, sl_l, simprocAttr, ix, z_em, up_eq, up_j, Nat.le_refl, true_or, or_true, true_and, and_true, and_self, or_self, beq_self_eq_true, if_true, if_false, ite_self, ca_f, ca_t, aLen, Int32.lt_iff_toInt_lt, Int32.le_iff_toInt_le, z_ite, z_iten, z_ite1, ite_not, not_true_eq_false, not_false_eq_true, false_and, and_false, false_or, or_false, b_max, b_min, b_minL, b_absL, b_ixD, b_ixH, b_copy, tk_0, tk_s, dr_0, dr_s, pu_s, pu_n, ca_0, ca_1, clr_0, clr_s, e_nop, e_goto, e_if_eq, e_if_ne, e_if_lt, e_if_ge, e_if_gt, e_if_le, e_ic_eq, e_ic_ne, e_ic_lt, e_ic_ge, e_ic_gt, e_ic_le, e_tsw, e_lsw, sw_0, sw_s, e_iret, e_zret, e_lret, e_aret, e_ret, en_0, en_n, en_i, en_a, en_l, List.getElem?_cons_zero, List.getElem?_cons_succ, List.set_cons_zero, List.set_cons_succ, len_s, List.length_nil, ne_eq, x_within, x_in, eT1, eT2, eT3, eT4, eT5, eT6, eM1, eM2, eM3, eM4, eM5, eM6, Nat.one_mul, Nat.mul_one, Nat.zero_add, hsh, nP, ni, h1, a1, b1', qw', ← nI_succ]
