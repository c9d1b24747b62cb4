/-! ODDS: one choice in the model; what it puts back. -/
def FM (sel : Nat → Bool) (R : Nat) (μ0 μ : Mem) : Prop := (∀ o, o ≠ 113 → o ≠ 115 → o ≠ 118 → o ≠ 119 → o ≠ 121 → μ o = μ0 o) ∧ (∀ c, (∀ r, r < R → sel r = true → ¬ c = 106 + 8 * r + 6) → μ 113 c = μ0 113 c) ∧ ∀ r, r < R → sel r = true → μ 121 (nb sel r) = nI r
theorem FM.u6 {sel : Nat → Bool} {R r : Nat} {μ0 μ : Mem} {v : Int32} (h : FM sel R μ0 μ) (hr : r < R) (hs : sel r = true) : FM sel R μ0 (up μ 113 (106 + 8 * r + 6) v) :=
  ⟨fun o p1 p2 p3 p4 p5 => by rw [up_ne p1]; exact h.1 o p1 p2 p3 p4 p5, fun c hc => by rw [up_j (hc r hr hs)]; exact h.2.1 c hc, fun x hx hs2 => by rw [up_o (by decide)]; exact h.2.2 x hx hs2⟩
theorem FM.fa {sel : Nat → Bool} {R : Nat} {μ0 μ μ' : Mem} (h : FM sel R μ0 μ) (hf : FrA μ μ') : FM sel R μ0 μ' :=
  ⟨fun o p1 p2 p3 p4 p5 => by rw [hf o p2 p3 p4]; exact h.1 o p1 p2 p3 p4 p5, fun c hc => by rw [hf 113 (by decide) (by decide) (by decide)]; exact h.2.1 c hc, fun x hx hs2 => by rw [hf 121 (by decide) (by decide) (by decide)]; exact h.2.2 x hx hs2⟩
theorem l_pass {d R i m : Nat} {a1 a2 a3 a4 : Int32} {sm al : Int64} {μ0 W : Mem} {sel : Nat → Bool} {tn : Nat → Int} (hR : R ≤ 8) (hm : m = nb sel R) (hm6 : m ≤ 6) (hi : i < 64) (htn : ∀ r, r < R → tn r = (W (10 + r) 5).toInt ∧ 0 ≤ tn r ∧ tn r ≤ 10) : ∀ (n r : Nat) (μ : Mem) (wt : Int64) (x14 x15 : Option AV), r + n = R → vM 113 μ = eV sel false W i r → wt.toInt = eW sel false tn i r → FM sel R μ0 μ → ∃ (μ' : Mem) (wt' : Int64) (y14 y15 : Option AV), res d 170 18 [some (vR 8 112), some (vI a1), some (vI a2), some (vI a3), some (vI a4), some (vI (nI m)), some (vL sm), none, some (vL al), none, some (vI (nI i)), some (vL wt), none, some (vI (nI (nb sel r))), x14, x15] [] μ = res d 170 29 [some (vR 8 112), some (vI a1), some (vI a2), some (vI a3), some (vI a4), some (vI (nI m)), some (vL sm), none, some (vL al), none, some (vI (nI i)), some (vL wt'), none, some (vI (nI m)), y14, y15] [] μ' ∧ vM 113 μ' = eV sel false W i R ∧ wt'.toInt = eW sel false tn i R ∧ FM sel R μ0 μ' := by
  have nm : (nI m).toInt = m := nI_toInt (by omega)
  intro n
  induction n with
  | zero =>
    intro r μ wt x14 x15 hr hv hw hF
    have hr : r = R := by omega
    subst hr
    refine ⟨μ, wt, x14, x15, ?_, hv, hw, hF⟩
    rw [u_170_18, ← hm]
    simp -implicitDefEqProofs only [e_iload_n, e_iload, e_lload_n, e_lload, e_aload_n, e_aload, e_istore_n, e_istore, e_astore_n, e_astore, e_lstore_n, e_lstore, e_iinc, e_iconst, e_bipush, e_sipush, e_ldc_w, e_ldc, e_ldcS, e_lconst, e_ldc2_w, e_iadd, e_isub, e_imul, e_iand, e_ixor, e_ishl, e_ishr, e_iushr, e_idiv, e_irem, e_ineg, e_i2b, e_i2s, e_i2c, e_ladd, e_lsub, e_lmul, e_land, e_lor, e_ldiv, e_lrem, e_lneg, e_lshl, e_lshr, e_lushr, e_i2l, e_l2i, e_lcmp, e_dupI, e_dupA, e_dup2, e_getI, e_getA, e_putI, e_putZ, e_getstatic, e_iaload, e_iastore, e_aaload10, e_alen10, e_aaload11, e_alen11, e_aaload12, e_alen12, e_aaload13, e_alen13, e_alen, e_invokevirtual, e_invokevirtualB, e_invokestatic, e_invokestaticB, ct_0, ct_i, ct_a, ct_l, os_0, os_s, rc_0, rc_s, sl_0, sl_i, sl_a, sl_l, simprocAttr, ix, z_em, up_eq, up_j, Nat.le_refl, true_or, or_true, true_and, and_true, and_self, or_self, beq_self_eq_true, if_true, if_false, ite_self, ca_f, ca_t, aLen, Int32.lt_iff_toInt_lt, Int32.le_iff_toInt_le, z_ite, z_iten, z_ite1, ite_not, not_true_eq_false, not_false_eq_true, false_and, and_false, false_or, or_false, b_max, b_min, b_minL, b_absL, b_ixD, b_ixH, b_copy, tk_0, tk_s, dr_0, dr_s, pu_s, pu_n, ca_0, ca_1, clr_0, clr_s, e_nop, e_goto, e_if_eq, e_if_ne, e_if_lt, e_if_ge, e_if_gt, e_if_le, e_ic_eq, e_ic_ne, e_ic_lt, e_ic_ge, e_ic_gt, e_ic_le, e_tsw, e_lsw, sw_0, sw_s, e_iret, e_zret, e_lret, e_aret, e_ret, en_0, en_n, en_i, en_a, en_l, List.getElem?_cons_zero, List.getElem?_cons_succ, List.set_cons_zero, List.set_cons_succ, len_s, List.length_nil, ne_eq, x_within, x_in, eT1, eT2, eT3, eT4, eT5, eT6, eM1, eM2, eM3, eM4, eM5, eM6, Nat.one_mul, Nat.mul_one, Nat.zero_add, Int.lt_irrefl]
  | succ n ih =>
    intro r μ wt x14 x15 hr hv hw hF
    have rR : r < R := by omega
    have r8 : r < 8 := by omega
    by_cases q : sel r = true
    · have e : nb sel (r + 1) = nb sel r + 1 := if_pos q
      have nlt := nb_lt (sel := sel) rR q
      have eS : eV sel false W i (r + 1) = up (eV sel false W i r) (10 + r) 6 (if i.testBit (nb sel r) = false then 0 else 1) := by rw [eV_s, if_pos q]
      have eT : eW sel false tn i (r + 1) = eW sel false tn i r * (if i.testBit (nb sel r) = false then tn r else 10 - tn r) := by rw [eW_s, if_pos q]
      have h121 := hF.2.2 r rR q
      obtain ⟨t1, t2, t3⟩ := htn r rR
      have g5 : vM 113 μ (10 + r) 5 = W (10 + r) 5 := by rw [hv, eV_lo r (10 + r) 5 (Or.inr (by decide))]
      have ho := yo5 (d := d) (μ := μ) r8
      rw [g5] at ho
      have ho' : cl d 113 [Sum.inr (Sum.inr (8, 112)), vI (nI r), vI 5] μ = _ := ho
      have wr := eW_rg (sel := sel) (one := false) (tn := tn) (c := i) r (fun x hx => (htn x (by omega)).2)
      have e6 := ip6 (k := nb sel r) (by omega)
      have b := bitm_ok ⟨i, hi⟩ ⟨nb sel r, by omega⟩
      have b : (nI i >>> (nI (nb sel r) &&& 31)) &&& 1 = 1 ↔ i.testBit (nb sel r) = true := b
      obtain ⟨K, hK⟩ : ∃ K, K = nb sel r := ⟨_, rfl⟩
      rw [← hK] at e nlt eS eT h121 e6 b wr ⊢
      have nK : (nI K).toInt = K := nI_toInt (by omega)
      have cK : (nI K).toNatClampNeg = K := ix_nI (by omega)
      have k0 : (0 : Int) ≤ (K : Int) := by omega
      have k8 : (K : Int) < 8 := by omega
      have km : (K : Int) < (m : Int) := by omega
      have ea : 106 + 8 * nI r + 6 = nI (106 + 8 * r + 6) := ad_r r8 (by decide) rfl
      have iR : (nI (106 + 8 * r + 6)).toInt = (106 + 8 * r + 6 : Nat) := nI_toInt (by omega)
      have cR : (nI (106 + 8 * r + 6)).toNatClampNeg = 106 + 8 * r + 6 := ix_nI (by omega)
      have bR : (0 : Int) ≤ ((106 + 8 * r + 6 : Nat) : Int) ∧ ((106 + 8 * r + 6 : Nat) : Int) < 504 := by omega
      have um : ∀ v : Int32, vM 113 (up μ 113 (106 + 8 * r + 6) v) = up (eV sel false W i r) (10 + r) 6 v := fun v => by rw [umr r8 (by decide), hv]
      by_cases q2 : i.testBit K = true
      · have qb := b.mpr q2
        have t10 : (10 : Int32).toInt = 10 := rfl
        have et : (10 - W (10 + r) 5).toInt = 10 - tn r := by rw [ts] <;> rw [t10] <;> omega
        have ew : (wt * (10 - W (10 + r) 5).toInt64).toInt = eW sel false tn i (r + 1) := by
          rw [eT, q2, if_neg (by decide)]
          exact i64m hw ((Int32.toInt_toInt64 _).trans et) (by omega) (by omega)
        obtain ⟨μ', wt', y14, y15, s1, s2⟩ := ih (r + 1) (up μ 113 (106 + 8 * r + 6) 1) (wt * (10 - W (10 + r) 5).toInt64) (some (vI 1)) (some (vI (W (10 + r) 5))) (by omega) (by rw [um, eS, q2, if_neg (by decide)]) ew (hF.u6 rR q)
        refine ⟨μ', wt', y14, y15, ?_, s2⟩
        rw [← s1, e, u_170_18]
        simp -implicitDefEqProofs only [u_170_19, u_170_20, u_170_21, u_170_22, u_170_23, u_170_24, u_170_25, u_170_26, u_170_27, u_170_28, e_iload_n, e_iload, e_lload_n, e_lload, e_aload_n, e_aload, e_istore_n, e_istore, e_astore_n, e_astore, e_lstore_n, e_lstore, e_iinc, e_iconst, e_bipush, e_sipush, e_ldc_w, e_ldc, e_ldcS, e_lconst, e_ldc2_w, e_iadd, e_isub, e_imul, e_iand, e_ixor, e_ishl, e_ishr, e_iushr, e_idiv, e_irem, e_ineg, e_i2b, e_i2s, e_i2c, e_ladd, e_lsub, e_lmul, e_land, e_lor, e_ldiv, e_lrem, e_lneg, e_lshl, e_lshr, e_lushr, e_i2l, e_l2i, e_lcmp, e_dupI, e_dupA, e_dup2, e_getI, e_getA, e_putI, e_putZ, e_getstatic, e_iaload, e_iastore, e_aaload10, e_alen10, e_aaload11, e_alen11, e_aaload12, e_alen12, e_aaload13, e_alen13, e_alen, e_invokevirtual, e_invokevirtualB, e_invokestatic, e_invokestaticB, ct_0, ct_i, ct_a, ct_l, os_0, os_s, rc_0, rc_s, sl_0, sl_i, sl_a, sl_l, simprocAttr, ix, z_em, up_eq, up_j, Nat.le_refl, true_or, or_true, true_and, and_true, and_self, or_self, beq_self_eq_true, if_true, if_false, ite_self, ca_f, ca_t, aLen, Int32.lt_iff_toInt_lt, Int32.le_iff_toInt_le, z_ite, z_iten, z_ite1, ite_not, not_true_eq_false, not_false_eq_true, false_and, and_false, false_or, or_false, b_max, b_min, b_minL, b_absL, b_ixD, b_ixH, b_copy, tk_0, tk_s, dr_0, dr_s, pu_s, pu_n, ca_0, ca_1, clr_0, clr_s, e_nop, e_goto, e_if_eq, e_if_ne, e_if_lt, e_if_ge, e_if_gt, e_if_le, e_ic_eq, e_ic_ne, e_ic_lt, e_ic_ge, e_ic_gt, e_ic_le, e_tsw, e_lsw, sw_0, sw_s, e_iret, e_zret, e_lret, e_aret, e_ret, en_0, en_n, en_i, en_a, en_l, List.getElem?_cons_zero, List.getElem?_cons_succ, List.set_cons_zero, List.set_cons_succ, len_s, List.length_nil, ne_eq, x_within, x_in, eT1, eT2, eT3, eT4, eT5, eT6, eM1, eM2, eM3, eM4, eM5, eM6, Nat.one_mul, Nat.mul_one, Nat.zero_add, nm, nK, cK, k0, k8, km, qb, h121, ho', ea, iR, cR, if_pos bR, ← nI_succ]
      · have qb : ¬ (nI i >>> (nI K &&& 31)) &&& 1 = 1 := fun z => q2 (b.mp z)
        have q3 : i.testBit K = false := by
          cases z : i.testBit K with
          | true => exact absurd z q2
          | false => rfl
        have ew : (wt * (W (10 + r) 5).toInt64).toInt = eW sel false tn i (r + 1) := by
          rw [eT, q3, if_pos rfl]
          exact i64m hw ((Int32.toInt_toInt64 _).trans t1.symm) (by omega) (by omega)
        obtain ⟨μ', wt', y14, y15, s1, s2⟩ := ih (r + 1) (up μ 113 (106 + 8 * r + 6) 0) (wt * (W (10 + r) 5).toInt64) (some (vI 0)) (some (vI (W (10 + r) 5))) (by omega) (by rw [um, eS, q3, if_pos rfl]) ew (hF.u6 rR q)
        refine ⟨μ', wt', y14, y15, ?_, s2⟩
        rw [← s1, e, u_170_18]
        simp -implicitDefEqProofs only [u_170_19, u_170_20, u_170_21, u_170_22, u_170_23, u_170_24, u_170_25, u_170_26, u_170_27, u_170_28, e_iload_n, e_iload, e_lload_n, e_lload, e_aload_n, e_aload, e_istore_n, e_istore, e_astore_n, e_astore, e_lstore_n, e_lstore, e_iinc, e_iconst, e_bipush, e_sipush, e_ldc_w, e_ldc, e_ldcS, e_lconst, e_ldc2_w, e_iadd, e_isub, e_imul, e_iand, e_ixor, e_ishl, e_ishr, e_iushr, e_idiv, e_irem, e_ineg, e_i2b, e_i2s, e_i2c, e_ladd, e_lsub, e_lmul, e_land, e_lor, e_ldiv, e_lrem, e_lneg, e_lshl, e_lshr, e_lushr, e_i2l, e_l2i, e_lcmp, e_dupI, e_dupA, e_dup2, e_getI, e_getA, e_putI, e_putZ, e_getstatic, e_iaload, e_iastore, e_aaload10, e_alen10, e_aaload11, e_alen11, e_aaload12, e_alen12, e_aaload13, e_alen13, e_alen, e_invokevirtual, e_invokevirtualB, e_invokestatic, e_invokestaticB, ct_0, ct_i, ct_a, ct_l, os_0, os_s, rc_0, rc_s, sl_0, sl_i, sl_a, sl_l, simprocAttr, ix, z_em, up_eq, up_j, Nat.le_refl, true_or, or_true, true_and, and_true, and_self, or_self, beq_self_eq_true, if_true, if_false, ite_self, ca_f, ca_t, aLen, Int32.lt_iff_toInt_lt, Int32.le_iff_toInt_le, z_ite, z_iten, z_ite1, ite_not, not_true_eq_false, not_false_eq_true, false_and, and_false, false_or, or_false, b_max, b_min, b_minL, b_absL, b_ixD, b_ixH, b_copy, tk_0, tk_s, dr_0, dr_s, pu_s, pu_n, ca_0, ca_1, clr_0, clr_s, e_nop, e_goto, e_if_eq, e_if_ne, e_if_lt, e_if_ge, e_if_gt, e_if_le, e_ic_eq, e_ic_ne, e_ic_lt, e_ic_ge, e_ic_gt, e_ic_le, e_tsw, e_lsw, sw_0, sw_s, e_iret, e_zret, e_lret, e_aret, e_ret, en_0, en_n, en_i, en_a, en_l, List.getElem?_cons_zero, List.getElem?_cons_succ, List.set_cons_zero, List.set_cons_succ, len_s, List.length_nil, ne_eq, x_within, x_in, eT1, eT2, eT3, eT4, eT5, eT6, eM1, eM2, eM3, eM4, eM5, eM6, Nat.one_mul, Nat.mul_one, Nat.zero_add, nm, nK, cK, k0, k8, km, qb, h121, ho', ea, iR, cR, if_pos bR, ← nI_succ]
    · have e : nb sel (r + 1) = nb sel r := if_neg q
      have i1 := ih (r + 1) μ wt x14 x15 (by omega) (by rw [eV_s, if_neg q]; exact hv) (by rw [eW_s, if_neg q]; exact hw) hF
      rw [e] at i1
      exact i1
theorem l_back {d R m : Nat} {a1 a2 a3 a4 : Int32} {sm al : Int64} {μ0 : Mem} {sel : Nat → Bool} (hR : R ≤ 8) (hm : m = nb sel R) : ∀ (n r : Nat) (μ : Mem) (x11 x12 x13 x14 x15 : Option AV), r + n = R → FM sel R μ0 μ → (∀ x, x < r → sel x = true → μ 113 (106 + 8 * x + 6) = 0) → ∃ (μ' : Mem), res d 170 37 [some (vR 8 112), some (vI a1), some (vI a2), some (vI a3), some (vI a4), some (vI (nI m)), some (vL sm), none, some (vL al), none, some (vI (nI (nb sel r))), x11, x12, x13, x14, x15] [] μ = res d 170 40 [some (vR 8 112), some (vI a1), some (vI a2), some (vI a3), some (vI a4), some (vI (nI m)), some (vL sm), none, some (vL al), none, some (vL sm), none, some (vL al), none, x14, x15] [] μ' ∧ FM sel R μ0 μ' ∧ ∀ x, x < R → sel x = true → μ' 113 (106 + 8 * x + 6) = 0 := by
  have nl := nb_le (sel := sel) R
  have nm : (nI m).toInt = m := nI_toInt (by omega)
  intro n
  induction n with
  | zero =>
    intro r μ x11 x12 x13 x14 x15 hr hF h0
    have hr : r = R := by omega
    subst hr
    refine ⟨μ, ?_, hF, h0⟩
    rw [u_170_37, ← hm]
    simp -implicitDefEqProofs only [u_170_39, e_iload_n, e_iload, e_lload_n, e_lload, e_aload_n, e_aload, e_istore_n, e_istore, e_astore_n, e_astore, e_lstore_n, e_lstore, e_iinc, e_iconst, e_bipush, e_sipush, e_ldc_w, e_ldc, e_ldcS, e_lconst, e_ldc2_w, e_iadd, e_isub, e_imul, e_iand, e_ixor, e_ishl, e_ishr, e_iushr, e_idiv, e_irem, e_ineg, e_i2b, e_i2s, e_i2c, e_ladd, e_lsub, e_lmul, e_land, e_lor, e_ldiv, e_lrem, e_lneg, e_lshl, e_lshr, e_lushr, e_i2l, e_l2i, e_lcmp, e_dupI, e_dupA, e_dup2, e_getI, e_getA, e_putI, e_putZ, e_getstatic, e_iaload, e_iastore, e_aaload10, e_alen10, e_aaload11, e_alen11, e_aaload12, e_alen12, e_aaload13, e_alen13, e_alen, e_invokevirtual, e_invokevirtualB, e_invokestatic, e_invokestaticB, ct_0, ct_i, ct_a, ct_l, os_0, os_s, rc_0, rc_s, sl_0, sl_i, sl_a, sl_l, simprocAttr, ix, z_em, up_eq, up_j, Nat.le_refl, true_or, or_true, true_and, and_true, and_self, or_self, beq_self_eq_true, if_true, if_false, ite_self, ca_f, ca_t, aLen, Int32.lt_iff_toInt_lt, Int32.le_iff_toInt_le, z_ite, z_iten, z_ite1, ite_not, not_true_eq_false, not_false_eq_true, false_and, and_false, false_or, or_false, b_max, b_min, b_minL, b_absL, b_ixD, b_ixH, b_copy, tk_0, tk_s, dr_0, dr_s, pu_s, pu_n, ca_0, ca_1, clr_0, clr_s, e_nop, e_goto, e_if_eq, e_if_ne, e_if_lt, e_if_ge, e_if_gt, e_if_le, e_ic_eq, e_ic_ne, e_ic_lt, e_ic_ge, e_ic_gt, e_ic_le, e_tsw, e_lsw, sw_0, sw_s, e_iret, e_zret, e_lret, e_aret, e_ret, en_0, en_n, en_i, en_a, en_l, List.getElem?_cons_zero, List.getElem?_cons_succ, List.set_cons_zero, List.set_cons_succ, len_s, List.length_nil, ne_eq, x_within, x_in, eT1, eT2, eT3, eT4, eT5, eT6, eM1, eM2, eM3, eM4, eM5, eM6, Nat.one_mul, Nat.mul_one, Nat.zero_add, Int.lt_irrefl]
  | succ n ih =>
    intro r μ x11 x12 x13 x14 x15 hr hF h0
    have rR : r < R := by omega
    have r8 : r < 8 := by omega
    by_cases q : sel r = true
    · have e : nb sel (r + 1) = nb sel r + 1 := if_pos q
      have nlt := nb_lt (sel := sel) rR q
      have h121 := hF.2.2 r rR q
      obtain ⟨K, hK⟩ : ∃ K, K = nb sel r := ⟨_, rfl⟩
      rw [← hK] at e nlt h121 ⊢
      have nK : (nI K).toInt = K := nI_toInt (by omega)
      have cK : (nI K).toNatClampNeg = K := ix_nI (by omega)
      have k0 : (0 : Int) ≤ (K : Int) := by omega
      have k8 : (K : Int) < 8 := by omega
      have km : (K : Int) < (m : Int) := by omega
      have ea : 106 + 8 * nI r + 6 = nI (106 + 8 * r + 6) := ad_r r8 (by decide) rfl
      have iR : (nI (106 + 8 * r + 6)).toInt = (106 + 8 * r + 6 : Nat) := nI_toInt (by omega)
      have cR : (nI (106 + 8 * r + 6)).toNatClampNeg = 106 + 8 * r + 6 := ix_nI (by omega)
      have bR : (0 : Int) ≤ ((106 + 8 * r + 6 : Nat) : Int) ∧ ((106 + 8 * r + 6 : Nat) : Int) < 504 := by omega
      obtain ⟨μ', s1, s2⟩ := ih (r + 1) (up μ 113 (106 + 8 * r + 6) 0) x11 x12 x13 x14 x15 (by omega) (hF.u6 rR q) (fun x hx hs => by
        by_cases qx : x = r
        · rw [qx, up_eq]
        · rw [up_j (by omega)]
          exact h0 x (by omega) hs)
      refine ⟨μ', ?_, s2⟩
      rw [← s1, e, u_170_37]
      simp -implicitDefEqProofs only [u_170_38, e_iload_n, e_iload, e_lload_n, e_lload, e_aload_n, e_aload, e_istore_n, e_istore, e_astore_n, e_astore, e_lstore_n, e_lstore, e_iinc, e_iconst, e_bipush, e_sipush, e_ldc_w, e_ldc, e_ldcS, e_lconst, e_ldc2_w, e_iadd, e_isub, e_imul, e_iand, e_ixor, e_ishl, e_ishr, e_iushr, e_idiv, e_irem, e_ineg, e_i2b, e_i2s, e_i2c, e_ladd, e_lsub, e_lmul, e_land, e_lor, e_ldiv, e_lrem, e_lneg, e_lshl, e_lshr, e_lushr, e_i2l, e_l2i, e_lcmp, e_dupI, e_dupA, e_dup2, e_getI, e_getA, e_putI, e_putZ, e_getstatic, e_iaload, e_iastore, e_aaload10, e_alen10, e_aaload11, e_alen11, e_aaload12, e_alen12, e_aaload13, e_alen13, e_alen, e_invokevirtual, e_invokevirtualB, e_invokestatic, e_invokestaticB, ct_0, ct_i, ct_a, ct_l, os_0, os_s, rc_0, rc_s, sl_0, sl_i, sl_a, sl_l, simprocAttr, ix, z_em, up_eq, up_j, Nat.le_refl, true_or, or_true, true_and, and_true, and_self, or_self, beq_self_eq_true, if_true, if_false, ite_self, ca_f, ca_t, aLen, Int32.lt_iff_toInt_lt, Int32.le_iff_toInt_le, z_ite, z_iten, z_ite1, ite_not, not_true_eq_false, not_false_eq_true, false_and, and_false, false_or, or_false, b_max, b_min, b_minL, b_absL, b_ixD, b_ixH, b_copy, tk_0, tk_s, dr_0, dr_s, pu_s, pu_n, ca_0, ca_1, clr_0, clr_s, e_nop, e_goto, e_if_eq, e_if_ne, e_if_lt, e_if_ge, e_if_gt, e_if_le, e_ic_eq, e_ic_ne, e_ic_lt, e_ic_ge, e_ic_gt, e_ic_le, e_tsw, e_lsw, sw_0, sw_s, e_iret, e_zret, e_lret, e_aret, e_ret, en_0, en_n, en_i, en_a, en_l, List.getElem?_cons_zero, List.getElem?_cons_succ, List.set_cons_zero, List.set_cons_succ, len_s, List.length_nil, ne_eq, x_within, x_in, eT1, eT2, eT3, eT4, eT5, eT6, eM1, eM2, eM3, eM4, eM5, eM6, Nat.one_mul, Nat.mul_one, Nat.zero_add, nm, nK, cK, k0, k8, km, h121, ea, iR, cR, if_pos bR, ← nI_succ]
    · have e : nb sel (r + 1) = nb sel r := if_neg q
      have i1 := ih (r + 1) μ x11 x12 x13 x14 x15 (by omega) hF (fun x hx hs => by
        by_cases qx : x = r
        · rw [qx] at hs
          exact absurd hs q
        · exact h0 x (by omega) hs)
      rw [e] at i1
      exact i1
