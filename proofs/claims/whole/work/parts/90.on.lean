/-! ODDS: the model's loop over all choices. -/
theorem l_never {fz μ0 : Mem} {d w R m : Nat} {n t p : Int32} {al : Int64} {sel : Nat → Bool} {f : Nat → Int} (h00 : RR fz μ0) (hw : w < 4) (hR8 : R ≤ 8) (hm : m = nb sel R) (hm6 : m ≤ 6) (h0 : 0 ≤ n.toInt ∧ n.toInt ≤ 600) (hf : ∀ i, f i = eW sel false (tnS (vM 113 μ0)) i R * inT (txM μ0) n t w (eV sel false (vM 113 μ0) i R)) (hT : sumN f (2 ^ m) ≤ 1000000) : ∀ (k i : Nat) (μ : Mem) (sm : Int64) (x11 x12 x13 x14 x15 : Option AV), i + k = 2 ^ m → FM sel R μ0 μ → (∀ o c, offS sel R o c → vM 113 μ o c = vM 113 μ0 o c) → sm.toInt = sumN f i → ∃ (μ' : Mem) (sm' : Int64) (y11 y12 y13 y14 y15 : Option AV), res d 170 16 [some (vR 8 112), some (vI (nI w)), some (vI n), some (vI t), some (vI p), some (vI (nI m)), some (vL sm), none, some (vL al), none, some (vI (nI i)), x11, x12, x13, x14, x15] [] μ = res d 170 37 [some (vR 8 112), some (vI (nI w)), some (vI n), some (vI t), some (vI p), some (vI (nI m)), some (vL sm'), none, some (vL al), none, some (vI (nI 0)), y11, y12, y13, y14, y15] [] μ' ∧ FM sel R μ0 μ' ∧ sm'.toInt = sumN f (2 ^ m) := by
  have P64 : 2 ^ m ≤ 64 := Nat.le_trans (Nat.pow_le_pow_right (by decide) hm6) (by decide)
  have hsh : (1 : Int32) <<< (nI m &&& 31) = nI (2 ^ m) := shl_ok ⟨m, by omega⟩
  have nP : (nI (2 ^ m)).toInt = ((2 ^ m : Nat) : Int) := nI_toInt (by omega)
  have W0 := h00.1.1.2
  have gm9 := h00.1.2.2.1
  have mm : vM 113 μ0 0 2 = vC 1 μ0 0 2 := h00.e0 (by decide)
  have en : n.toNatClampNeg = n.toInt.toNat := rfl
  have z0 : (0 : Int64).toInt = 0 := rfl
  have t1 : (-1 : Int32).toInt = -1 := rfl
  have fnn : ∀ i, 0 ≤ f i := fun i => by
    rw [hf]
    exact Int.mul_nonneg (eW_rg R (fun r hr => gr5 W0 (by omega))).1 (inT_rg _).1
  intro k
  induction k with
  | zero =>
    intro i μ sm x11 x12 x13 x14 x15 hi hF hB hs
    have hi : i = 2 ^ m := by omega
    subst hi
    refine ⟨μ, sm, x11, x12, x13, x14, x15, ?_, hF, hs⟩
    rw [u_170_16]
    simp -implicitDefEqProofs only [u_170_36, e_iload_n, e_iload, e_lload_n, e_lload, e_aload_n, e_aload, e_istore_n, e_istore, e_astore_n, e_astore, e_lstore_n, e_lstore, e_iinc, e_iconst, e_bipush, e_sipush, e_ldc_w, e_ldc, e_ldcS, e_lconst, e_ldc2_w, e_iadd, e_isub, e_imul, e_iand, e_ixor, e_ishl, e_ishr, e_iushr, e_idiv, e_irem, e_ineg, e_i2b, e_i2s, e_i2c, e_ladd, e_lsub, e_lmul, e_land, e_lor, e_ldiv, e_lrem, e_lneg, e_lshl, e_lshr, e_lushr, e_i2l, e_l2i, e_lcmp, e_dupI, e_dupA, e_dup2, e_getI, e_getA, e_putI, e_putZ, e_getstatic, e_iaload, e_iastore, e_aaload10, e_alen10, e_aaload11, e_alen11, e_aaload12, e_alen12, e_aaload13, e_alen13, e_alen, e_invokevirtual, e_invokevirtualB, e_invokestatic, e_invokestaticB, ct_0, ct_i, ct_a, ct_l, os_0, os_s, rc_0, rc_s, sl_0, sl_i, sl_a, sl_l, simprocAttr, ix, z_em, up_eq, up_j, Nat.le_refl, true_or, or_true, true_and, and_true, and_self, or_self, beq_self_eq_true, if_true, if_false, ite_self, ca_f, ca_t, aLen, Int32.lt_iff_toInt_lt, Int32.le_iff_toInt_le, z_ite, z_iten, z_ite1, ite_not, not_true_eq_false, not_false_eq_true, false_and, and_false, false_or, or_false, b_max, b_min, b_minL, b_absL, b_ixD, b_ixH, b_copy, tk_0, tk_s, dr_0, dr_s, pu_s, pu_n, ca_0, ca_1, clr_0, clr_s, e_nop, e_goto, e_if_eq, e_if_ne, e_if_lt, e_if_ge, e_if_gt, e_if_le, e_ic_eq, e_ic_ne, e_ic_lt, e_ic_ge, e_ic_gt, e_ic_le, e_tsw, e_lsw, sw_0, sw_s, e_iret, e_zret, e_lret, e_aret, e_ret, en_0, en_n, en_i, en_a, en_l, List.getElem?_cons_zero, List.getElem?_cons_succ, List.set_cons_zero, List.set_cons_succ, len_s, List.length_nil, ne_eq, x_within, x_in, eT1, eT2, eT3, eT4, eT5, eT6, eM1, eM2, eM3, eM4, eM5, eM6, Nat.one_mul, Nat.mul_one, Nat.zero_add, hsh, Int.lt_irrefl]
    rfl
  | succ k ih =>
    intro i μ sm x11 x12 x13 x14 x15 hi hF hB hs
    have ni : (nI i).toInt = i := nI_toInt (by omega)
    have h1 : ((i : Nat) : Int) < ((2 ^ m : Nat) : Int) := by omega
    have e5 : ∀ r, r < R → vM 113 μ (10 + r) 5 = vM 113 μ0 (10 + r) 5 := fun r hr => hB _ _ (fun x _ _ z => by omega)
    obtain ⟨μ1, wt, y14, y15, a1, a2, a3, a4⟩ := l_pass (d := d) (i := i) (a1 := nI w) (a2 := n) (a3 := t) (a4 := p) (sm := sm) (al := al) (μ0 := μ0) (W := vM 113 μ) (tn := tnS (vM 113 μ0)) hR8 hm hm6 (by omega) (fun r hr => ⟨by rw [e5 r hr]; rfl, gr5 W0 (by omega)⟩) R 0 μ 1 x14 x15 (by omega) rfl rfl hF
    rw [eV_base hB] at a2
    have a1' : res d 170 18 [some (vR 8 112), some (vI (nI w)), some (vI n), some (vI t), some (vI p), some (vI (nI m)), some (vL sm), none, some (vL al), none, some (vI (nI i)), some (vL 1), none, some (vI 0), x14, x15] [] μ = _ := a1
    have wr := eW_rg (sel := sel) (one := false) (tn := tnS (vM 113 μ0)) (c := i) R (fun r hr => gr5 W0 (by omega))
    have fi : f i = wt.toInt * inT (txM μ0) n t w (eV sel false (vM 113 μ0) i R) := by rw [a3, hf]
    have fs : sumN f (i + 1) = sumN f i + f i := rfl
    have sl := sumN_le (f := f) (n := 2 ^ m) (i := i + 1) (fun j _ => fnn j) (by omega)
    have sl0 := sumN_le (f := f) (n := 2 ^ m) (i := i) (fun j _ => fnn j) (by omega)
    have hB1 : ∀ μ2 : Mem, μ2 113 = μ1 113 → ∀ o c, offS sel R o c → vM 113 μ2 o c = vM 113 μ0 o c := fun μ2 e o c ho => by
      rw [vM_congr e, a2, eV_out R o c ho]
    by_cases qw : (0 : Int64) < wt
    · have qw' : 0 < (lg_cmp wt 0).toInt := by rw [lgg]; exact qw
      obtain ⟨ν, hν⟩ : ∃ ν : Mem, ν = fun o => if o = 113 then μ1 113 else μ0 o := ⟨_, rfl⟩
      have ν13 : ν 113 = μ1 113 := by rw [hν]; rfl
      have νF : FrM μ0 ν := ⟨fun o p1 _ _ => by rw [hν]; exact if_neg p1, fun c hc => by
        rw [ν13]
        exact a4.2.1 c (fun r hr _ z => by omega)⟩
      have lwm : LWM μ1 := by
        have q := νF.lw h00.1.2.2.2.2.lwm
        unfold LWM at q ⊢
        rw [ν13] at q
        exact q
      have txe : txM μ1 = txM μ0 := by rw [← νF.tx]; exact txM_congr ν13.symm
      have wf1 : WFV (vM 113 μ1) := by rw [a2]; exact eV_wf W0 R hR8
      have wd1 : WFD (vM 113 μ1) := by
        rw [a2]
        exact ⟨fun r hr => by rw [eV_lo R (10 + r) 3 (Or.inr (by decide)), eV_lo R (10 + r) 7 (Or.inr (by decide))]; exact h00.1.2.1.2.1 r hr, by rw [eV_lo R 0 5 (Or.inl (by decide))]; exact h00.1.2.1.2.2⟩
      have m2 : (vM 113 μ1 0 2).toInt ≤ 9999 := by rw [a2, eV_lo R 0 2 (Or.inl (by decide)), mm]; exact gm9
      obtain ⟨μ2, b1, b2⟩ := y_endBy (d := d) (w := w) (n := n) (μ := μ1) hw lwm wf1 wd1 (by omega) (by omega)
      rw [txe, a2] at b1
      have rg := (gw7 (tm_keep (tx := txM μ0) (only := -1) (V := eV sel false (vM 113 μ0) i R) (eV_wf W0 R hR8) n.toNatClampNeg (by rw [eV_lo R 0 2 (Or.inl (by decide)), mm]; omega)).1 hw).1
      generalize hee : timesP (minP (mn 99999) (txM μ0) (-1)) n.toNatClampNeg (eV sel false (vM 113 μ0) i R) (1 + w) 7 = ee at b1 rg
      have b1' : cl d 163 [Sum.inr (Sum.inr (8, 112)), vI (nI w), vI n] μ1 = _ := b1
      have hin : inT (txM μ0) n t w (eV sel false (vM 113 μ0) i R) = if 0 ≤ ee.toInt ∧ ee.toInt ≤ t.toInt then 1 else 0 := by
        unfold inT eeT
        rw [hee]
      have F2 := a4.fa b2
      have B2 := hB1 μ2 (b2 113 (by decide) (by decide) (by decide))
      by_cases q1 : 0 ≤ ee.toInt ∧ ee.toInt ≤ t.toInt
      · rw [hin, if_pos q1, Int.mul_one] at fi
        have es : (sm + wt).toInt = sumN f (i + 1) := by
          rw [Int64.toInt_add, hs, fs, fi, Int.bmod_eq_of_le] <;> omega
        obtain ⟨μ', sm', u11, u12, u13, u14, u15, r1, r2⟩ := ih (i + 1) μ2 (sm + wt) (some (vL wt)) none (some (vI ee)) y14 y15 (by omega) F2 B2 es
        refine ⟨μ', sm', u11, u12, u13, u14, u15, ?_, r2⟩
        have q1a : ¬ ee = -1 := fun z => by rw [z, t1] at q1; omega
        have q1b : ¬ t.toInt < ee.toInt := by omega
        rw [← r1, u_170_16]
        simp -implicitDefEqProofs only [u_170_17, u_170_29, u_170_30, u_170_31, u_170_32, u_170_33, u_170_34, u_170_35, e_iload_n, e_iload, e_lload_n, e_lload, e_aload_n, e_aload, e_istore_n, e_istore, e_astore_n, e_astore, e_lstore_n, e_lstore, e_iinc, e_iconst, e_bipush, e_sipush, e_ldc_w, e_ldc, e_ldcS, e_lconst, e_ldc2_w, e_iadd, e_isub, e_imul, e_iand, e_ixor, e_ishl, e_ishr, e_iushr, e_idiv, e_irem, e_ineg, e_i2b, e_i2s, e_i2c, e_ladd, e_lsub, e_lmul, e_land, e_lor, e_ldiv, e_lrem, e_lneg, e_lshl, e_lshr, e_lushr, e_i2l, e_l2i, e_lcmp, e_dupI, e_dupA, e_dup2, e_getI, e_getA, e_putI, e_putZ, e_getstatic, e_iaload, e_iastore, e_aaload10, e_alen10, e_aaload11, e_alen11, e_aaload12, e_alen12, e_aaload13, e_alen13, e_alen, e_invokevirtual, e_invokevirtualB, e_invokestatic, e_invokestaticB, ct_0, ct_i, ct_a, ct_l, os_0, os_s, rc_0, rc_s, sl_0, sl_i, sl_a, sl_l, simprocAttr, ix, z_em, up_eq, up_j, Nat.le_refl, true_or, or_true, true_and, and_true, and_self, or_self, beq_self_eq_true, if_true, if_false, ite_self, ca_f, ca_t, aLen, Int32.lt_iff_toInt_lt, Int32.le_iff_toInt_le, z_ite, z_iten, z_ite1, ite_not, not_true_eq_false, not_false_eq_true, false_and, and_false, false_or, or_false, b_max, b_min, b_minL, b_absL, b_ixD, b_ixH, b_copy, tk_0, tk_s, dr_0, dr_s, pu_s, pu_n, ca_0, ca_1, clr_0, clr_s, e_nop, e_goto, e_if_eq, e_if_ne, e_if_lt, e_if_ge, e_if_gt, e_if_le, e_ic_eq, e_ic_ne, e_ic_lt, e_ic_ge, e_ic_gt, e_ic_le, e_tsw, e_lsw, sw_0, sw_s, e_iret, e_zret, e_lret, e_aret, e_ret, en_0, en_n, en_i, en_a, en_l, List.getElem?_cons_zero, List.getElem?_cons_succ, List.set_cons_zero, List.set_cons_succ, len_s, List.length_nil, ne_eq, x_within, x_in, eT1, eT2, eT3, eT4, eT5, eT6, eM1, eM2, eM3, eM4, eM5, eM6, Nat.one_mul, Nat.mul_one, Nat.zero_add, hsh, nP, ni, h1, a1', b1', qw', q1a, q1b, ← nI_succ]
      · rw [hin, if_neg q1, Int.mul_zero] at fi
        have es : (sm + 0).toInt = sumN f (i + 1) := by
          rw [Int64.add_zero, hs]
          omega
        obtain ⟨μ', sm', u11, u12, u13, u14, u15, r1, r2⟩ := ih (i + 1) μ2 (sm + 0) (some (vL wt)) none (some (vI ee)) y14 y15 (by omega) F2 B2 es
        refine ⟨μ', sm', u11, u12, u13, u14, u15, ?_, r2⟩
        rw [← r1, u_170_16]
        by_cases q1a : ee = -1
        · simp -implicitDefEqProofs only [u_170_17, u_170_29, u_170_30, u_170_31, u_170_32, u_170_33, u_170_34, u_170_35, e_iload_n, e_iload, e_lload_n, e_lload, e_aload_n, e_aload, e_istore_n, e_istore, e_astore_n, e_astore, e_lstore_n, e_lstore, e_iinc, e_iconst, e_bipush, e_sipush, e_ldc_w, e_ldc, e_ldcS, e_lconst, e_ldc2_w, e_iadd, e_isub, e_imul, e_iand, e_ixor, e_ishl, e_ishr, e_iushr, e_idiv, e_irem, e_ineg, e_i2b, e_i2s, e_i2c, e_ladd, e_lsub, e_lmul, e_land, e_lor, e_ldiv, e_lrem, e_lneg, e_lshl, e_lshr, e_lushr, e_i2l, e_l2i, e_lcmp, e_dupI, e_dupA, e_dup2, e_getI, e_getA, e_putI, e_putZ, e_getstatic, e_iaload, e_iastore, e_aaload10, e_alen10, e_aaload11, e_alen11, e_aaload12, e_alen12, e_aaload13, e_alen13, e_alen, e_invokevirtual, e_invokevirtualB, e_invokestatic, e_invokestaticB, ct_0, ct_i, ct_a, ct_l, os_0, os_s, rc_0, rc_s, sl_0, sl_i, sl_a, sl_l, simprocAttr, ix, z_em, up_eq, up_j, Nat.le_refl, true_or, or_true, true_and, and_true, and_self, or_self, beq_self_eq_true, if_true, if_false, ite_self, ca_f, ca_t, aLen, Int32.lt_iff_toInt_lt, Int32.le_iff_toInt_le, z_ite, z_iten, z_ite1, ite_not, not_true_eq_false, not_false_eq_true, false_and, and_false, false_or, or_false, b_max, b_min, b_minL, b_absL, b_ixD, b_ixH, b_copy, tk_0, tk_s, dr_0, dr_s, pu_s, pu_n, ca_0, ca_1, clr_0, clr_s, e_nop, e_goto, e_if_eq, e_if_ne, e_if_lt, e_if_ge, e_if_gt, e_if_le, e_ic_eq, e_ic_ne, e_ic_lt, e_ic_ge, e_ic_gt, e_ic_le, e_tsw, e_lsw, sw_0, sw_s, e_iret, e_zret, e_lret, e_aret, e_ret, en_0, en_n, en_i, en_a, en_l, List.getElem?_cons_zero, List.getElem?_cons_succ, List.set_cons_zero, List.set_cons_succ, len_s, List.length_nil, ne_eq, x_within, x_in, eT1, eT2, eT3, eT4, eT5, eT6, eM1, eM2, eM3, eM4, eM5, eM6, Nat.one_mul, Nat.mul_one, Nat.zero_add, hsh, nP, ni, h1, a1', b1', qw', q1a, ← nI_succ]
        · have q1c : ¬ ee.toInt = -1 := fun z => q1a (Int32.toInt_inj.mp z)
          have q1b : t.toInt < ee.toInt := by omega
          simp -implicitDefEqProofs only [u_170_17, u_170_29, u_170_30, u_170_31, u_170_32, u_170_33, u_170_34, u_170_35, e_iload_n, e_iload, e_lload_n, e_lload, e_aload_n, e_aload, e_istore_n, e_istore, e_astore_n, e_astore, e_lstore_n, e_lstore, e_iinc, e_iconst, e_bipush, e_sipush, e_ldc_w, e_ldc, e_ldcS, e_lconst, e_ldc2_w, e_iadd, e_isub, e_imul, e_iand, e_ixor, e_ishl, e_ishr, e_iushr, e_idiv, e_irem, e_ineg, e_i2b, e_i2s, e_i2c, e_ladd, e_lsub, e_lmul, e_land, e_lor, e_ldiv, e_lrem, e_lneg, e_lshl, e_lshr, e_lushr, e_i2l, e_l2i, e_lcmp, e_dupI, e_dupA, e_dup2, e_getI, e_getA, e_putI, e_putZ, e_getstatic, e_iaload, e_iastore, e_aaload10, e_alen10, e_aaload11, e_alen11, e_aaload12, e_alen12, e_aaload13, e_alen13, e_alen, e_invokevirtual, e_invokevirtualB, e_invokestatic, e_invokestaticB, ct_0, ct_i, ct_a, ct_l, os_0, os_s, rc_0, rc_s, sl_0, sl_i, sl_a, sl_l, simprocAttr, ix, z_em, up_eq, up_j, Nat.le_refl, true_or, or_true, true_and, and_true, and_self, or_self, beq_self_eq_true, if_true, if_false, ite_self, ca_f, ca_t, aLen, Int32.lt_iff_toInt_lt, Int32.le_iff_toInt_le, z_ite, z_iten, z_ite1, ite_not, not_true_eq_false, not_false_eq_true, false_and, and_false, false_or, or_false, b_max, b_min, b_minL, b_absL, b_ixD, b_ixH, b_copy, tk_0, tk_s, dr_0, dr_s, pu_s, pu_n, ca_0, ca_1, clr_0, clr_s, e_nop, e_goto, e_if_eq, e_if_ne, e_if_lt, e_if_ge, e_if_gt, e_if_le, e_ic_eq, e_ic_ne, e_ic_lt, e_ic_ge, e_ic_gt, e_ic_le, e_tsw, e_lsw, sw_0, sw_s, e_iret, e_zret, e_lret, e_aret, e_ret, en_0, en_n, en_i, en_a, en_l, List.getElem?_cons_zero, List.getElem?_cons_succ, List.set_cons_zero, List.set_cons_succ, len_s, List.length_nil, ne_eq, x_within, x_in, eT1, eT2, eT3, eT4, eT5, eT6, eM1, eM2, eM3, eM4, eM5, eM6, Nat.one_mul, Nat.mul_one, Nat.zero_add, hsh, nP, ni, h1, a1', b1', qw', q1a, q1b, ← nI_succ]
    · have qw' : ¬ 0 < (lg_cmp wt 0).toInt := by rw [lgg]; exact qw
      have w0 : wt.toInt = 0 := by
        rw [Int64.lt_iff_toInt_lt, z0] at qw
        omega
      rw [w0, Int.zero_mul] at fi
      obtain ⟨μ', sm', u11, u12, u13, u14, u15, r1, r2⟩ := ih (i + 1) μ1 sm (some (vL wt)) none (some (vI (nI m))) y14 y15 (by omega) a4 (hB1 μ1 rfl) (by omega)
      refine ⟨μ', sm', u11, u12, u13, u14, u15, ?_, r2⟩
      rw [← r1, u_170_16]
      simp -implicitDefEqProofs only [u_170_17, u_170_29, u_170_35, e_iload_n, e_iload, e_lload_n, e_lload, e_aload_n, e_aload, e_istore_n, e_istore, e_astore_n, e_astore, e_lstore_n, e_lstore, e_iinc, e_iconst, e_bipush, e_sipush, e_ldc_w, e_ldc, e_ldcS, e_lconst, e_ldc2_w, e_iadd, e_isub, e_imul, e_iand, e_ixor, e_ishl, e_ishr, e_iushr, e_idiv, e_irem, e_ineg, e_i2b, e_i2s, e_i2c, e_ladd, e_lsub, e_lmul, e_land, e_lor, e_ldiv, e_lrem, e_lneg, e_lshl, e_lshr, e_lushr, e_i2l, e_l2i, e_lcmp, e_dupI, e_dupA, e_dup2, e_getI, e_getA, e_putI, e_putZ, e_getstatic, e_iaload, e_iastore, e_aaload10, e_alen10, e_aaload11, e_alen11, e_aaload12, e_alen12, e_aaload13, e_alen13, e_alen, e_invokevirtual, e_invokevirtualB, e_invokestatic, e_invokestaticB, ct_0, ct_i, ct_a, ct_l, os_0, os_s, rc_0, rc_s, sl_0, sl_i, sl_a, sl_l, simprocAttr, ix, z_em, up_eq, up_j, Nat.le_refl, true_or, or_true, true_and, and_true, and_self, or_self, beq_self_eq_true, if_true, if_false, ite_self, ca_f, ca_t, aLen, Int32.lt_iff_toInt_lt, Int32.le_iff_toInt_le, z_ite, z_iten, z_ite1, ite_not, not_true_eq_false, not_false_eq_true, false_and, and_false, false_or, or_false, b_max, b_min, b_minL, b_absL, b_ixD, b_ixH, b_copy, tk_0, tk_s, dr_0, dr_s, pu_s, pu_n, ca_0, ca_1, clr_0, clr_s, e_nop, e_goto, e_if_eq, e_if_ne, e_if_lt, e_if_ge, e_if_gt, e_if_le, e_ic_eq, e_ic_ne, e_ic_lt, e_ic_ge, e_ic_gt, e_ic_le, e_tsw, e_lsw, sw_0, sw_s, e_iret, e_zret, e_lret, e_aret, e_ret, en_0, en_n, en_i, en_a, en_l, List.getElem?_cons_zero, List.getElem?_cons_succ, List.set_cons_zero, List.set_cons_succ, len_s, List.length_nil, ne_eq, x_within, x_in, eT1, eT2, eT3, eT4, eT5, eT6, eM1, eM2, eM3, eM4, eM5, eM6, Nat.one_mul, Nat.mul_one, Nat.zero_add, hsh, nP, ni, h1, a1', qw', ← nI_succ]
