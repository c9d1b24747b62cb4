/-! ODDS: the model's small loops. -/
theorem bitm_ok : ∀ c : Fin 64, ∀ k : Fin 8, ((nI c.val >>> (nI k.val &&& 31)) &&& 1 = 1 ↔ c.val.testBit k.val = true) := by decide +kernel
theorem eV_in {sel : Nat → Bool} {one : Bool} {V : Mem} {c : Nat} : ∀ n r, r < n → sel r = true → eV sel one V c n (10 + r) 6 = if c.testBit (nb sel r) = one then 0 else 1 := by
  intro n
  induction n with
  | zero => exact fun r h => absurd h (Nat.not_lt_zero r)
  | succ n ih =>
    intro r hr hs
    rw [eV_s]
    by_cases q : r = n
    · subst q
      rw [if_pos hs, up_eq]
    · split
      · rw [up_o (by omega)]
        exact ih r (by omega) hs
      · exact ih r (by omega) hs
theorem eV_out {sel : Nat → Bool} {one : Bool} {V : Mem} {c : Nat} : ∀ n o k, (∀ r, r < n → sel r = true → ¬ (o = 10 + r ∧ k = 6)) → eV sel one V c n o k = V o k := by
  intro n
  induction n with
  | zero => exact fun _ _ _ => rfl
  | succ n ih =>
    intro o k h
    have i := ih o k (fun r hr => h r (by omega))
    rw [eV_s]
    by_cases q : sel n = true
    · rw [if_pos q]
      have hn := h n (by omega) q
      show (if o = 10 + n ∧ k = 6 then _ else eV sel one V c n o k) = _
      rw [if_neg hn]
      exact i
    · rw [if_neg q]
      exact i
def offS (sel : Nat → Bool) (R o k : Nat) : Prop := ∀ r, r < R → sel r = true → ¬ (o = 10 + r ∧ k = 6)
theorem eV_base {sel : Nat → Bool} {one : Bool} {V W : Mem} {c R : Nat} (h : ∀ o k, offS sel R o k → W o k = V o k) : eV sel one W c R = eV sel one V c R := by
  funext o k
  by_cases q : ∃ r, r < R ∧ sel r = true ∧ o = 10 + r ∧ k = 6
  · obtain ⟨r, q1, q2, rfl, rfl⟩ := q
    rw [eV_in R r q1 q2, eV_in R r q1 q2]
  · have hq : offS sel R o k := fun r q1 q2 z => q ⟨r, q1, q2, z⟩
    rw [eV_out R o k hq, eV_out R o k hq]
    exact h o k hq
theorem l_gcd {d S T : Nat} {a1 a2 a3 a4 a5 : Int32} {m : Int32} {μ : Mem} (hS : S < 1073741824) (hT : T < 1073741824) : ∀ n a b (x14 x15 : Option AV), b < n → a < 1073741824 → b < 1073741824 → 0 < Nat.gcd a b → res d 170 40 [some (vR 8 112), some (vI a1), some (vI a2), some (vI a3), some (vI a4), some (vI m), some (vL (nL S)), none, some (vL (nL T)), none, some (vL (nL a)), none, some (vL (nL b)), none, x14, x15] [] μ = some (some (vL (nL (if a4 = 0 then S / Nat.gcd a b else T / Nat.gcd a b))), μ) := by
  intro n
  induction n with
  | zero => exact fun a b _ _ h => absurd h (Nat.not_lt_zero b)
  | succ n ih =>
    intro a b x14 x15 hb ha hb2 hg
    rw [u_170_40]
    have zb : (nL b = 0) = (b = 0) := nLz hb2
    by_cases q : b = 0
    · subst q
      have za : (nL a = 0) = (a = 0) := nLz ha
      rw [Nat.gcd_zero_right] at hg ⊢
      have na : ¬ a = 0 := by omega
      have d1 : nL S / nL a = nL (S / a) := nLd hS ⟨hg, ha⟩
      have d2 : nL T / nL a = nL (T / a) := nLd hT ⟨hg, ha⟩
      have z00 : (nL 0 = 0) = True := by decide
      by_cases q4 : a4 = 0
      · simp -implicitDefEqProofs only [u_170_0, u_170_1, u_170_2, u_170_3, u_170_4, u_170_5, u_170_6, u_170_7, u_170_9, u_170_10, u_170_11, u_170_12, u_170_14, u_170_15, u_170_17, u_170_19, u_170_20, u_170_21, u_170_22, u_170_23, u_170_24, u_170_25, u_170_26, u_170_27, u_170_28, u_170_29, u_170_30, u_170_31, u_170_32, u_170_33, u_170_34, u_170_35, u_170_36, u_170_38, u_170_39, u_170_41, u_170_42, u_170_43, u_170_44, u_170_45, e_iload_n, e_iload, e_lload_n, e_lload, e_aload_n, e_aload, e_istore_n, e_istore, e_astore_n, e_astore, e_lstore_n, e_lstore, e_iinc, e_iconst, e_bipush, e_sipush, e_ldc_w, e_ldc, e_ldcS, e_lconst, e_ldc2_w, e_iadd, e_isub, e_imul, e_iand, e_ixor, e_ishl, e_ishr, e_iushr, e_idiv, e_irem, e_ineg, e_i2b, e_i2s, e_i2c, e_ladd, e_lsub, e_lmul, e_land, e_lor, e_ldiv, e_lrem, e_lneg, e_lshl, e_lshr, e_lushr, e_i2l, e_l2i, e_lcmp, e_dupI, e_dupA, e_dup2, e_getI, e_getA, e_putI, e_putZ, e_getstatic, e_iaload, e_iastore, e_aaload10, e_alen10, e_aaload11, e_alen11, e_aaload12, e_alen12, e_aaload13, e_alen13, e_alen, e_invokevirtual, e_invokevirtualB, e_invokestatic, e_invokestaticB, ct_0, ct_i, ct_a, ct_l, os_0, os_s, rc_0, rc_s, sl_0, sl_i, sl_a, sl_l, simprocAttr, ix, z_em, up_eq, up_j, Nat.le_refl, true_or, or_true, true_and, and_true, and_self, or_self, beq_self_eq_true, if_true, if_false, ite_self, ca_f, ca_t, aLen, Int32.lt_iff_toInt_lt, Int32.le_iff_toInt_le, z_ite, z_iten, z_ite1, ite_not, not_true_eq_false, not_false_eq_true, false_and, and_false, false_or, or_false, b_max, b_min, b_minL, b_absL, b_ixD, b_ixH, b_copy, tk_0, tk_s, dr_0, dr_s, pu_s, pu_n, ca_0, ca_1, clr_0, clr_s, e_nop, e_goto, e_if_eq, e_if_ne, e_if_lt, e_if_ge, e_if_gt, e_if_le, e_ic_eq, e_ic_ne, e_ic_lt, e_ic_ge, e_ic_gt, e_ic_le, e_tsw, e_lsw, sw_0, sw_s, e_iret, e_zret, e_lret, e_aret, e_ret, en_0, en_n, en_i, en_a, en_l, List.getElem?_cons_zero, List.getElem?_cons_succ, List.set_cons_zero, List.set_cons_succ, len_s, List.length_nil, ne_eq, x_within, x_in, eT1, eT2, eT3, eT4, eT5, eT6, eM1, eM2, eM3, eM4, eM5, eM6, Nat.one_mul, Nat.mul_one, Nat.zero_add, lge, z00, za, na, d1, d2, q4]
      · simp -implicitDefEqProofs only [u_170_0, u_170_1, u_170_2, u_170_3, u_170_4, u_170_5, u_170_6, u_170_7, u_170_9, u_170_10, u_170_11, u_170_12, u_170_14, u_170_15, u_170_17, u_170_19, u_170_20, u_170_21, u_170_22, u_170_23, u_170_24, u_170_25, u_170_26, u_170_27, u_170_28, u_170_29, u_170_30, u_170_31, u_170_32, u_170_33, u_170_34, u_170_35, u_170_36, u_170_38, u_170_39, u_170_41, u_170_42, u_170_43, u_170_44, u_170_45, e_iload_n, e_iload, e_lload_n, e_lload, e_aload_n, e_aload, e_istore_n, e_istore, e_astore_n, e_astore, e_lstore_n, e_lstore, e_iinc, e_iconst, e_bipush, e_sipush, e_ldc_w, e_ldc, e_ldcS, e_lconst, e_ldc2_w, e_iadd, e_isub, e_imul, e_iand, e_ixor, e_ishl, e_ishr, e_iushr, e_idiv, e_irem, e_ineg, e_i2b, e_i2s, e_i2c, e_ladd, e_lsub, e_lmul, e_land, e_lor, e_ldiv, e_lrem, e_lneg, e_lshl, e_lshr, e_lushr, e_i2l, e_l2i, e_lcmp, e_dupI, e_dupA, e_dup2, e_getI, e_getA, e_putI, e_putZ, e_getstatic, e_iaload, e_iastore, e_aaload10, e_alen10, e_aaload11, e_alen11, e_aaload12, e_alen12, e_aaload13, e_alen13, e_alen, e_invokevirtual, e_invokevirtualB, e_invokestatic, e_invokestaticB, ct_0, ct_i, ct_a, ct_l, os_0, os_s, rc_0, rc_s, sl_0, sl_i, sl_a, sl_l, simprocAttr, ix, z_em, up_eq, up_j, Nat.le_refl, true_or, or_true, true_and, and_true, and_self, or_self, beq_self_eq_true, if_true, if_false, ite_self, ca_f, ca_t, aLen, Int32.lt_iff_toInt_lt, Int32.le_iff_toInt_le, z_ite, z_iten, z_ite1, ite_not, not_true_eq_false, not_false_eq_true, false_and, and_false, false_or, or_false, b_max, b_min, b_minL, b_absL, b_ixD, b_ixH, b_copy, tk_0, tk_s, dr_0, dr_s, pu_s, pu_n, ca_0, ca_1, clr_0, clr_s, e_nop, e_goto, e_if_eq, e_if_ne, e_if_lt, e_if_ge, e_if_gt, e_if_le, e_ic_eq, e_ic_ne, e_ic_lt, e_ic_ge, e_ic_gt, e_ic_le, e_tsw, e_lsw, sw_0, sw_s, e_iret, e_zret, e_lret, e_aret, e_ret, en_0, en_n, en_i, en_a, en_l, List.getElem?_cons_zero, List.getElem?_cons_succ, List.set_cons_zero, List.set_cons_succ, len_s, List.length_nil, ne_eq, x_within, x_in, eT1, eT2, eT3, eT4, eT5, eT6, eM1, eM2, eM3, eM4, eM5, eM6, Nat.one_mul, Nat.mul_one, Nat.zero_add, lge, z00, za, na, d1, d2, q4]
    · have eg : Nat.gcd a b = Nat.gcd b (a % b) := by rw [Nat.gcd_comm a b, Nat.gcd_rec b a, Nat.gcd_comm]
      have hm : a % b < b := Nat.mod_lt a (by omega)
      have er : nL a - nL a / nL b * nL b = nL (a % b) := nLr ha ⟨by omega, hb2⟩
      rw [eg] at hg ⊢
      rw [← ih b (a % b) (some (vL (nL (a % b)))) none (by omega) hb2 (by omega) hg]
      simp -implicitDefEqProofs only [u_170_0, u_170_1, u_170_2, u_170_3, u_170_4, u_170_5, u_170_6, u_170_7, u_170_9, u_170_10, u_170_11, u_170_12, u_170_14, u_170_15, u_170_17, u_170_19, u_170_20, u_170_21, u_170_22, u_170_23, u_170_24, u_170_25, u_170_26, u_170_27, u_170_28, u_170_29, u_170_30, u_170_31, u_170_32, u_170_33, u_170_34, u_170_35, u_170_36, u_170_38, u_170_39, u_170_41, u_170_42, u_170_43, u_170_44, u_170_45, e_iload_n, e_iload, e_lload_n, e_lload, e_aload_n, e_aload, e_istore_n, e_istore, e_astore_n, e_astore, e_lstore_n, e_lstore, e_iinc, e_iconst, e_bipush, e_sipush, e_ldc_w, e_ldc, e_ldcS, e_lconst, e_ldc2_w, e_iadd, e_isub, e_imul, e_iand, e_ixor, e_ishl, e_ishr, e_iushr, e_idiv, e_irem, e_ineg, e_i2b, e_i2s, e_i2c, e_ladd, e_lsub, e_lmul, e_land, e_lor, e_ldiv, e_lrem, e_lneg, e_lshl, e_lshr, e_lushr, e_i2l, e_l2i, e_lcmp, e_dupI, e_dupA, e_dup2, e_getI, e_getA, e_putI, e_putZ, e_getstatic, e_iaload, e_iastore, e_aaload10, e_alen10, e_aaload11, e_alen11, e_aaload12, e_alen12, e_aaload13, e_alen13, e_alen, e_invokevirtual, e_invokevirtualB, e_invokestatic, e_invokestaticB, ct_0, ct_i, ct_a, ct_l, os_0, os_s, rc_0, rc_s, sl_0, sl_i, sl_a, sl_l, simprocAttr, ix, z_em, up_eq, up_j, Nat.le_refl, true_or, or_true, true_and, and_true, and_self, or_self, beq_self_eq_true, if_true, if_false, ite_self, ca_f, ca_t, aLen, Int32.lt_iff_toInt_lt, Int32.le_iff_toInt_le, z_ite, z_iten, z_ite1, ite_not, not_true_eq_false, not_false_eq_true, false_and, and_false, false_or, or_false, b_max, b_min, b_minL, b_absL, b_ixD, b_ixH, b_copy, tk_0, tk_s, dr_0, dr_s, pu_s, pu_n, ca_0, ca_1, clr_0, clr_s, e_nop, e_goto, e_if_eq, e_if_ne, e_if_lt, e_if_ge, e_if_gt, e_if_le, e_ic_eq, e_ic_ne, e_ic_lt, e_ic_ge, e_ic_gt, e_ic_le, e_tsw, e_lsw, sw_0, sw_s, e_iret, e_zret, e_lret, e_aret, e_ret, en_0, en_n, en_i, en_a, en_l, List.getElem?_cons_zero, List.getElem?_cons_succ, List.set_cons_zero, List.set_cons_succ, len_s, List.length_nil, ne_eq, x_within, x_in, eT1, eT2, eT3, eT4, eT5, eT6, eM1, eM2, eM3, eM4, eM5, eM6, Nat.one_mul, Nat.mul_one, Nat.zero_add, lge, zb, q, er]
theorem l_all {d m : Nat} {a1 a2 a3 a4 : Int32} {μ : Mem} (hm : m ≤ 6) : ∀ n k, k + n = m → res d 170 13 [some (vR 8 112), some (vI a1), some (vI a2), some (vI a3), some (vI a4), some (vI (nI m)), some (vL 0), none, some (vL (nL (10 ^ k))), none, some (vI (nI k)), none, none, none, none, none] [] μ = res d 170 16 [some (vR 8 112), some (vI a1), some (vI a2), some (vI a3), some (vI a4), some (vI (nI m)), some (vL 0), none, some (vL (nL (10 ^ m))), none, some (vI (nI 0)), none, none, none, none, none] [] μ := by
  have nm : (nI m).toInt = m := nI_toInt (by omega)
  intro n
  induction n with
  | zero =>
    intro k hk
    have hk : k = m := by omega
    subst hk
    rw [u_170_13]
    simp -implicitDefEqProofs only [u_170_15, e_iload_n, e_iload, e_lload_n, e_lload, e_aload_n, e_aload, e_istore_n, e_istore, e_astore_n, e_astore, e_lstore_n, e_lstore, e_iinc, e_iconst, e_bipush, e_sipush, e_ldc_w, e_ldc, e_ldcS, e_lconst, e_ldc2_w, e_iadd, e_isub, e_imul, e_iand, e_ixor, e_ishl, e_ishr, e_iushr, e_idiv, e_irem, e_ineg, e_i2b, e_i2s, e_i2c, e_ladd, e_lsub, e_lmul, e_land, e_lor, e_ldiv, e_lrem, e_lneg, e_lshl, e_lshr, e_lushr, e_i2l, e_l2i, e_lcmp, e_dupI, e_dupA, e_dup2, e_getI, e_getA, e_putI, e_putZ, e_getstatic, e_iaload, e_iastore, e_aaload10, e_alen10, e_aaload11, e_alen11, e_aaload12, e_alen12, e_aaload13, e_alen13, e_alen, e_invokevirtual, e_invokevirtualB, e_invokestatic, e_invokestaticB, ct_0, ct_i, ct_a, ct_l, os_0, os_s, rc_0, rc_s, sl_0, sl_i, sl_a, sl_l, simprocAttr, ix, z_em, up_eq, up_j, Nat.le_refl, true_or, or_true, true_and, and_true, and_self, or_self, beq_self_eq_true, if_true, if_false, ite_self, ca_f, ca_t, aLen, Int32.lt_iff_toInt_lt, Int32.le_iff_toInt_le, z_ite, z_iten, z_ite1, ite_not, not_true_eq_false, not_false_eq_true, false_and, and_false, false_or, or_false, b_max, b_min, b_minL, b_absL, b_ixD, b_ixH, b_copy, tk_0, tk_s, dr_0, dr_s, pu_s, pu_n, ca_0, ca_1, clr_0, clr_s, e_nop, e_goto, e_if_eq, e_if_ne, e_if_lt, e_if_ge, e_if_gt, e_if_le, e_ic_eq, e_ic_ne, e_ic_lt, e_ic_ge, e_ic_gt, e_ic_le, e_tsw, e_lsw, sw_0, sw_s, e_iret, e_zret, e_lret, e_aret, e_ret, en_0, en_n, en_i, en_a, en_l, List.getElem?_cons_zero, List.getElem?_cons_succ, List.set_cons_zero, List.set_cons_succ, len_s, List.length_nil, ne_eq, x_within, x_in, eT1, eT2, eT3, eT4, eT5, eT6, eM1, eM2, eM3, eM4, eM5, eM6, Nat.one_mul, Nat.mul_one, Nat.zero_add, Int.lt_irrefl]
    rfl
  | succ n ih =>
    intro k hk
    have nk : (nI k).toInt = k := nI_toInt (by omega)
    have h1 : ((k : Nat) : Int) < (m : Int) := by omega
    have hp := p10_6 (c := k) (by omega)
    have e : nL (10 ^ k) * 10 = nL (10 ^ (k + 1)) := by
      rw [Nat.pow_succ]
      exact nLm (by omega) (by decide)
    rw [← ih (k + 1) (by omega), u_170_13]
    simp -implicitDefEqProofs only [u_170_14, e_iload_n, e_iload, e_lload_n, e_lload, e_aload_n, e_aload, e_istore_n, e_istore, e_astore_n, e_astore, e_lstore_n, e_lstore, e_iinc, e_iconst, e_bipush, e_sipush, e_ldc_w, e_ldc, e_ldcS, e_lconst, e_ldc2_w, e_iadd, e_isub, e_imul, e_iand, e_ixor, e_ishl, e_ishr, e_iushr, e_idiv, e_irem, e_ineg, e_i2b, e_i2s, e_i2c, e_ladd, e_lsub, e_lmul, e_land, e_lor, e_ldiv, e_lrem, e_lneg, e_lshl, e_lshr, e_lushr, e_i2l, e_l2i, e_lcmp, e_dupI, e_dupA, e_dup2, e_getI, e_getA, e_putI, e_putZ, e_getstatic, e_iaload, e_iastore, e_aaload10, e_alen10, e_aaload11, e_alen11, e_aaload12, e_alen12, e_aaload13, e_alen13, e_alen, e_invokevirtual, e_invokevirtualB, e_invokestatic, e_invokestaticB, ct_0, ct_i, ct_a, ct_l, os_0, os_s, rc_0, rc_s, sl_0, sl_i, sl_a, sl_l, simprocAttr, ix, z_em, up_eq, up_j, Nat.le_refl, true_or, or_true, true_and, and_true, and_self, or_self, beq_self_eq_true, if_true, if_false, ite_self, ca_f, ca_t, aLen, Int32.lt_iff_toInt_lt, Int32.le_iff_toInt_le, z_ite, z_iten, z_ite1, ite_not, not_true_eq_false, not_false_eq_true, false_and, and_false, false_or, or_false, b_max, b_min, b_minL, b_absL, b_ixD, b_ixH, b_copy, tk_0, tk_s, dr_0, dr_s, pu_s, pu_n, ca_0, ca_1, clr_0, clr_s, e_nop, e_goto, e_if_eq, e_if_ne, e_if_lt, e_if_ge, e_if_gt, e_if_le, e_ic_eq, e_ic_ne, e_ic_lt, e_ic_ge, e_ic_gt, e_ic_le, e_tsw, e_lsw, sw_0, sw_s, e_iret, e_zret, e_lret, e_aret, e_ret, en_0, en_n, en_i, en_a, en_l, List.getElem?_cons_zero, List.getElem?_cons_succ, List.set_cons_zero, List.set_cons_succ, len_s, List.length_nil, ne_eq, x_within, x_in, eT1, eT2, eT3, eT4, eT5, eT6, eM1, eM2, eM3, eM4, eM5, eM6, Nat.one_mul, Nat.mul_one, Nat.zero_add, nm, nk, h1, e, ← nI_succ]
theorem nb_lt {sel : Nat → Bool} {r n : Nat} (h : r < n) (hs : sel r = true) : nb sel r < nb sel n := by
  have e : nb sel (r + 1) = nb sel r + 1 := if_pos hs
  have m := nb_mono (sel := sel) (m := r + 1) (n - (r + 1))
  rw [show r + 1 + (n - (r + 1)) = n by omega] at m
  omega
theorem l_still {d R : Nat} {a1 a2 a3 a4 : Int32} {μ0 : Mem} {sel : Nat → Bool} (hR : R ≤ 8) (hr : μ0 113 1 = nI R) (hsel : ∀ r, r < R → (sel r = true ↔ ¬ vM 113 μ0 (10 + r) 6 = 1)) : ∀ n k μ, k + n = R → (∀ o, o ≠ 121 → μ o = μ0 o) → (∀ r, r < k → sel r = true → μ 121 (nb sel r) = nI r) → ∃ μ', res d 170 8 [some (vR 8 112), some (vI a1), some (vI a2), some (vI a3), some (vI a4), some (vI (nI (nb sel k))), some (vI (nI k)), none, none, none, none, none, none, none, none, none] [] μ = res d 170 13 [some (vR 8 112), some (vI a1), some (vI a2), some (vI a3), some (vI a4), some (vI (nI (nb sel R))), some (vL 0), none, some (vL (nL (10 ^ 0))), none, some (vI (nI 0)), none, none, none, none, none] [] μ' ∧ (∀ o, o ≠ 121 → μ' o = μ0 o) ∧ ∀ r, r < R → sel r = true → μ' 121 (nb sel r) = nI r := by
  intro n
  induction n with
  | zero =>
    intro k μ hk hf hs
    have hk : k = R := by omega
    subst hk
    have h1 : μ 113 1 = nI k := by rw [hf 113 (by decide)]; exact hr
    refine ⟨μ, ?_, hf, hs⟩
    rw [u_170_8]
    simp -implicitDefEqProofs only [u_170_12, e_iload_n, e_iload, e_lload_n, e_lload, e_aload_n, e_aload, e_istore_n, e_istore, e_astore_n, e_astore, e_lstore_n, e_lstore, e_iinc, e_iconst, e_bipush, e_sipush, e_ldc_w, e_ldc, e_ldcS, e_lconst, e_ldc2_w, e_iadd, e_isub, e_imul, e_iand, e_ixor, e_ishl, e_ishr, e_iushr, e_idiv, e_irem, e_ineg, e_i2b, e_i2s, e_i2c, e_ladd, e_lsub, e_lmul, e_land, e_lor, e_ldiv, e_lrem, e_lneg, e_lshl, e_lshr, e_lushr, e_i2l, e_l2i, e_lcmp, e_dupI, e_dupA, e_dup2, e_getI, e_getA, e_putI, e_putZ, e_getstatic, e_iaload, e_iastore, e_aaload10, e_alen10, e_aaload11, e_alen11, e_aaload12, e_alen12, e_aaload13, e_alen13, e_alen, e_invokevirtual, e_invokevirtualB, e_invokestatic, e_invokestaticB, ct_0, ct_i, ct_a, ct_l, os_0, os_s, rc_0, rc_s, sl_0, sl_i, sl_a, sl_l, simprocAttr, ix, z_em, up_eq, up_j, Nat.le_refl, true_or, or_true, true_and, and_true, and_self, or_self, beq_self_eq_true, if_true, if_false, ite_self, ca_f, ca_t, aLen, Int32.lt_iff_toInt_lt, Int32.le_iff_toInt_le, z_ite, z_iten, z_ite1, ite_not, not_true_eq_false, not_false_eq_true, false_and, and_false, false_or, or_false, b_max, b_min, b_minL, b_absL, b_ixD, b_ixH, b_copy, tk_0, tk_s, dr_0, dr_s, pu_s, pu_n, ca_0, ca_1, clr_0, clr_s, e_nop, e_goto, e_if_eq, e_if_ne, e_if_lt, e_if_ge, e_if_gt, e_if_le, e_ic_eq, e_ic_ne, e_ic_lt, e_ic_ge, e_ic_gt, e_ic_le, e_tsw, e_lsw, sw_0, sw_s, e_iret, e_zret, e_lret, e_aret, e_ret, en_0, en_n, en_i, en_a, en_l, List.getElem?_cons_zero, List.getElem?_cons_succ, List.set_cons_zero, List.set_cons_succ, len_s, List.length_nil, ne_eq, x_within, x_in, eT1, eT2, eT3, eT4, eT5, eT6, eM1, eM2, eM3, eM4, eM5, eM6, Nat.one_mul, Nat.mul_one, Nat.zero_add, h1, Int.lt_irrefl]
    rfl
  | succ n ih =>
    intro k μ hk hf hs
    have h1 : μ 113 1 = nI R := by rw [hf 113 (by decide)]; exact hr
    have nk : (nI k).toInt = k := nI_toInt (by omega)
    have nR : (nI R).toInt = R := nI_toInt (by omega)
    have hlt : ((k : Nat) : Int) < (R : Int) := by omega
    have k8 : k < 8 := by omega
    have vm : vM 113 μ = vM 113 μ0 := vM_congr (hf 113 (by decide))
    have hh := y_has (d := d) (μ := μ) k8
    rw [vm] at hh
    have hh' : cl d 114 [Sum.inr (Sum.inr (8, 112)), vI (nI k)] μ = _ := hh
    by_cases q : sel k = true
    · have q6 := (hsel k (by omega)).mp q
      rw [if_neg q6] at hh'
      have e : nb sel (k + 1) = nb sel k + 1 := if_pos q
      have nl := nb_le (sel := sel) k
      have nn : (nI (nb sel k)).toInt = nb sel k := nI_toInt (by omega)
      have cn : (nI (nb sel k)).toNatClampNeg = nb sel k := ix_nI (by omega)
      have b0 : (0 : Int) ≤ ((nb sel k : Nat) : Int) := by omega
      have b8 : ((nb sel k : Nat) : Int) < 8 := by omega
      obtain ⟨μ', r1, r2⟩ := ih (k + 1) (up μ 121 (nb sel k) (nI k)) (by omega) (fun o p => by rw [up_ne p]; exact hf o p) (fun r hr2 hs2 => by
        by_cases qr : r = k
        · rw [qr, up_eq]
        · rw [up_j (by have := nb_lt (sel := sel) (r := r) (n := k) (by omega) hs2; omega)]
          exact hs r (by omega) hs2)
      refine ⟨μ', ?_, r2⟩
      rw [← r1, e, u_170_8]
      simp -implicitDefEqProofs only [u_170_9, u_170_10, u_170_11, e_iload_n, e_iload, e_lload_n, e_lload, e_aload_n, e_aload, e_istore_n, e_istore, e_astore_n, e_astore, e_lstore_n, e_lstore, e_iinc, e_iconst, e_bipush, e_sipush, e_ldc_w, e_ldc, e_ldcS, e_lconst, e_ldc2_w, e_iadd, e_isub, e_imul, e_iand, e_ixor, e_ishl, e_ishr, e_iushr, e_idiv, e_irem, e_ineg, e_i2b, e_i2s, e_i2c, e_ladd, e_lsub, e_lmul, e_land, e_lor, e_ldiv, e_lrem, e_lneg, e_lshl, e_lshr, e_lushr, e_i2l, e_l2i, e_lcmp, e_dupI, e_dupA, e_dup2, e_getI, e_getA, e_putI, e_putZ, e_getstatic, e_iaload, e_iastore, e_aaload10, e_alen10, e_aaload11, e_alen11, e_aaload12, e_alen12, e_aaload13, e_alen13, e_alen, e_invokevirtual, e_invokevirtualB, e_invokestatic, e_invokestaticB, ct_0, ct_i, ct_a, ct_l, os_0, os_s, rc_0, rc_s, sl_0, sl_i, sl_a, sl_l, simprocAttr, ix, z_em, up_eq, up_j, Nat.le_refl, true_or, or_true, true_and, and_true, and_self, or_self, beq_self_eq_true, if_true, if_false, ite_self, ca_f, ca_t, aLen, Int32.lt_iff_toInt_lt, Int32.le_iff_toInt_le, z_ite, z_iten, z_ite1, ite_not, not_true_eq_false, not_false_eq_true, false_and, and_false, false_or, or_false, b_max, b_min, b_minL, b_absL, b_ixD, b_ixH, b_copy, tk_0, tk_s, dr_0, dr_s, pu_s, pu_n, ca_0, ca_1, clr_0, clr_s, e_nop, e_goto, e_if_eq, e_if_ne, e_if_lt, e_if_ge, e_if_gt, e_if_le, e_ic_eq, e_ic_ne, e_ic_lt, e_ic_ge, e_ic_gt, e_ic_le, e_tsw, e_lsw, sw_0, sw_s, e_iret, e_zret, e_lret, e_aret, e_ret, en_0, en_n, en_i, en_a, en_l, List.getElem?_cons_zero, List.getElem?_cons_succ, List.set_cons_zero, List.set_cons_succ, len_s, List.length_nil, ne_eq, x_within, x_in, eT1, eT2, eT3, eT4, eT5, eT6, eM1, eM2, eM3, eM4, eM5, eM6, Nat.one_mul, Nat.mul_one, Nat.zero_add, h1, nk, nR, hlt, hh', nn, cn, b0, b8, ← nI_succ]
    · have q6 : vM 113 μ0 (10 + k) 6 = 1 := Classical.byContradiction fun z => q ((hsel k (by omega)).mpr z)
      rw [if_pos q6] at hh'
      have e : nb sel (k + 1) = nb sel k := if_neg q
      obtain ⟨μ', r1, r2⟩ := ih (k + 1) μ (by omega) hf (fun r hr2 hs2 => by
        by_cases qr : r = k
        · rw [qr] at hs2
          exact absurd hs2 q
        · exact hs r (by omega) hs2)
      refine ⟨μ', ?_, r2⟩
      rw [← r1, e, u_170_8]
      simp -implicitDefEqProofs only [u_170_9, u_170_11, e_iload_n, e_iload, e_lload_n, e_lload, e_aload_n, e_aload, e_istore_n, e_istore, e_astore_n, e_astore, e_lstore_n, e_lstore, e_iinc, e_iconst, e_bipush, e_sipush, e_ldc_w, e_ldc, e_ldcS, e_lconst, e_ldc2_w, e_iadd, e_isub, e_imul, e_iand, e_ixor, e_ishl, e_ishr, e_iushr, e_idiv, e_irem, e_ineg, e_i2b, e_i2s, e_i2c, e_ladd, e_lsub, e_lmul, e_land, e_lor, e_ldiv, e_lrem, e_lneg, e_lshl, e_lshr, e_lushr, e_i2l, e_l2i, e_lcmp, e_dupI, e_dupA, e_dup2, e_getI, e_getA, e_putI, e_putZ, e_getstatic, e_iaload, e_iastore, e_aaload10, e_alen10, e_aaload11, e_alen11, e_aaload12, e_alen12, e_aaload13, e_alen13, e_alen, e_invokevirtual, e_invokevirtualB, e_invokestatic, e_invokestaticB, ct_0, ct_i, ct_a, ct_l, os_0, os_s, rc_0, rc_s, sl_0, sl_i, sl_a, sl_l, simprocAttr, ix, z_em, up_eq, up_j, Nat.le_refl, true_or, or_true, true_and, and_true, and_self, or_self, beq_self_eq_true, if_true, if_false, ite_self, ca_f, ca_t, aLen, Int32.lt_iff_toInt_lt, Int32.le_iff_toInt_le, z_ite, z_iten, z_ite1, ite_not, not_true_eq_false, not_false_eq_true, false_and, and_false, false_or, or_false, b_max, b_min, b_minL, b_absL, b_ixD, b_ixH, b_copy, tk_0, tk_s, dr_0, dr_s, pu_s, pu_n, ca_0, ca_1, clr_0, clr_s, e_nop, e_goto, e_if_eq, e_if_ne, e_if_lt, e_if_ge, e_if_gt, e_if_le, e_ic_eq, e_ic_ne, e_ic_lt, e_ic_ge, e_ic_gt, e_ic_le, e_tsw, e_lsw, sw_0, sw_s, e_iret, e_zret, e_lret, e_aret, e_ret, en_0, en_n, en_i, en_a, en_l, List.getElem?_cons_zero, List.getElem?_cons_succ, List.set_cons_zero, List.set_cons_succ, len_s, List.length_nil, ne_eq, x_within, x_in, eT1, eT2, eT3, eT4, eT5, eT6, eM1, eM2, eM3, eM4, eM5, eM6, Nat.one_mul, Nat.mul_one, Nat.zero_add, h1, nk, nR, hlt, hh', ← nI_succ]
