/-! PAIRS OF CALLS: feed. -/
def byC (w : Int64) (i : Int32) : Int32 := ((w.toUInt64 >>> ((8 * i).toInt64.toUInt64 &&& Int64.toUInt64 63)).toInt64.toInt32) &&& 255
def byM (w : Int64) (i : Int32) : Int32 := ((w >>> ((8 * i).toInt64 &&& 63)) &&& 255).toInt32
theorem an_rg {x : Int32} : 0 ≤ (x &&& 255).toInt ∧ (x &&& 255).toInt ≤ 255 := by
  have h1 : (x &&& 255).toBitVec.toNat ≤ 255 := by
    rw [Int32.toBitVec_and, BitVec.toNat_and]
    exact Nat.and_le_right
  have h2 : (x &&& 255).toInt = ((x &&& 255).toBitVec.toNat : Int) := BitVec.toInt_eq_toNat_of_lt (by omega)
  omega
theorem by_eq {w : Int64} {i : Nat} (hi : i < 8) : byM w (nI i) = byC w (nI i) := by
  apply Int32.toBitVec_inj.mp
  have h : i = 0 ∨ i = 1 ∨ i = 2 ∨ i = 3 ∨ i = 4 ∨ i = 5 ∨ i = 6 ∨ i = 7 := by omega
  have key : ∀ s : Nat, s < 57 → (BitVec.signExtend 32 (BitVec.sshiftRight w.toBitVec s &&& 255#64)) = (BitVec.signExtend 32 (w.toBitVec >>> s)) &&& 255#32 := by
    intro s hs
    apply BitVec.eq_of_getLsbD_eq
    intro j hj
    rw [BitVec.signExtend_eq_setWidth_of_le _ (by decide), BitVec.signExtend_eq_setWidth_of_le _ (by decide)]
    simp only [BitVec.getLsbD_setWidth, BitVec.getLsbD_and, BitVec.getLsbD_sshiftRight, BitVec.getLsbD_ushiftRight, hj, decide_true, Bool.true_and]
    by_cases h8 : j < 8
    · have e1 : (255#64).getLsbD j = true := by
        have : j = 0 ∨ j = 1 ∨ j = 2 ∨ j = 3 ∨ j = 4 ∨ j = 5 ∨ j = 6 ∨ j = 7 := by omega
        rcases this with rfl | rfl | rfl | rfl | rfl | rfl | rfl | rfl <;> decide
      have e2 : (255#32).getLsbD j = true := by
        have : j = 0 ∨ j = 1 ∨ j = 2 ∨ j = 3 ∨ j = 4 ∨ j = 5 ∨ j = 6 ∨ j = 7 := by omega
        rcases this with rfl | rfl | rfl | rfl | rfl | rfl | rfl | rfl <;> decide
      rw [e1, e2]
      have h64 : ¬ 64 ≤ j := by omega
      simp [h64, show s + j < 64 by omega]
    · have e1 : (255#64).getLsbD j = false := by
        rw [BitVec.getLsbD_ofNat]
        have : (255 : Nat).testBit j = false := Nat.testBit_lt_two_pow (Nat.lt_of_lt_of_le (by decide : 255 < 2 ^ 8) (Nat.pow_le_pow_right (by decide) (by omega)))
        simp [this]
      have e2 : (255#32).getLsbD j = false := by
        rw [BitVec.getLsbD_ofNat]
        have : (255 : Nat).testBit j = false := Nat.testBit_lt_two_pow (Nat.lt_of_lt_of_le (by decide : 255 < 2 ^ 8) (Nat.pow_le_pow_right (by decide) (by omega)))
        simp [this]
      rw [e1, e2, Bool.and_false, Bool.and_false]
  rcases h with rfl | rfl | rfl | rfl | rfl | rfl | rfl | rfl
  · exact key 0 (by decide)
  · exact key 8 (by decide)
  · exact key 16 (by decide)
  · exact key 24 (by decide)
  · exact key 32 (by decide)
  · exact key 40 (by decide)
  · exact key 48 (by decide)
  · exact key 56 (by decide)
def fdV (T : Nat) (f : Nat → Int32) (V : Mem) : Nat → Mem
  | 0 => V
  | n + 1 => up (up (fdV T f V n) 20 (T + n) (f n)) 0 6 (nI (T + n + 1))
theorem fd_wf {T : Nat} {f : Nat → Int32} {V : Mem} (h : WFV V) : ∀ n, T + n ≤ 60 → WFV (fdV T f V n) := by
  intro n
  induction n with
  | zero => exact fun _ => h
  | succ n ih =>
    intro hn
    refine wf_up (wf_v (ih (by omega)) (Or.inl rfl)) (by unfold plV; omega) ?_
    rw [nI_toInt (by omega)]
    show (0 : Int) ≤ _ ∧ _ ≤ (60 : Int)
    omega
theorem fd_wd {T : Nat} {f : Nat → Int32} {V : Mem} (h : WFD V) : ∀ n, WFD (fdV T f V n) := by
  intro n
  induction n with
  | zero => exact h
  | succ n ih => exact wd_up (wd_up ih (by omega)) (by omega)
theorem fd_6 {T : Nat} {f : Nat → Int32} {V : Mem} (h : V 0 6 = nI T) : ∀ n, fdV T f V n 0 6 = nI (T + n) := by
  intro n
  cases n with
  | zero => exact h
  | succ n => exact up_eq
theorem fd_sm {T k : Nat} {f : Nat → Int32} {V : Mem} (hk : ¬ k = 6) : ∀ n, fdV T f V n 0 k = V 0 k := by
  intro n
  induction n with
  | zero => rfl
  | succ n ih =>
    show up (up (fdV T f V n) 20 (T + n) (f n)) 0 6 (nI (T + n + 1)) 0 k = _
    rw [up_j hk, up_o (by decide), ih]
theorem fd_eq {T : Nat} {f : Nat → Int32} {V V' : Mem} (h : EQV V V') (hc : V 0 6 = nI T) (hf : ∀ n, 0 ≤ (f n).toInt ∧ (f n).toInt ≤ 255) : ∀ n, T + n ≤ 60 → EQV (fdV T f V n) (fdV T f V' n) := by
  intro n
  induction n with
  | zero => exact fun _ => h
  | succ n ih => exact fun hn => (ih (by omega)).aT (by omega) (fd_6 hc n) (hf n)
theorem l_feed {d T N : Nat} {w : Int64} {V0 : Mem} (hN : T + N ≤ 60) (hN8 : N ≤ 8) (hc : V0 0 6 = nI T) : ∀ n k μ, k + n = N → vC 1 μ = fdV T (fun i => byC w (nI i)) V0 k → ∃ μ', res d 64 5 [some (vR 7 0), some (vL w), none, some (vI (nI N)), some (vI (nI k))] [] μ = some (some (vI (nI (T + N))), μ') ∧ vC 1 μ' = fdV T (fun i => byC w (nI i)) V0 N ∧ ∀ o, o ≠ 1 → o ≠ 5 → μ' o = μ o := by
  intro n
  induction n with
  | zero =>
    intro k μ hk hv
    have hk : k = N := by omega
    subst hk
    have hr : μ 1 7 = nI (T + k) := by rw [cs6 (b := 1) (μ := μ), hv, fd_6 hc]
    refine ⟨μ, ?_, hv, fun _ _ _ => rfl⟩
    rw [u_64_5]
    simp -implicitDefEqProofs only [u_64_0, u_64_1, u_64_2, u_64_3, u_64_4, u_64_6, u_64_7, e_iload_n, e_iload, e_lload_n, e_lload, e_aload_n, e_aload, e_istore_n, e_istore, e_astore_n, e_astore, e_lstore_n, e_lstore, e_iinc, e_iconst, e_bipush, e_sipush, e_ldc_w, e_ldc, e_ldcS, e_lconst, e_ldc2_w, e_iadd, e_isub, e_imul, e_iand, e_ixor, e_ishl, e_ishr, e_iushr, e_idiv, e_irem, e_ineg, e_i2b, e_i2s, e_i2c, e_ladd, e_lsub, e_lmul, e_land, e_lor, e_ldiv, e_lrem, e_lneg, e_lshl, e_lshr, e_lushr, e_i2l, e_l2i, e_lcmp, e_dupI, e_dupA, e_dup2, e_getI, e_getA, e_putI, e_putZ, e_getstatic, e_iaload, e_iastore, e_aaload10, e_alen10, e_aaload11, e_alen11, e_aaload12, e_alen12, e_aaload13, e_alen13, e_alen, e_invokevirtual, e_invokevirtualB, e_invokestatic, e_invokestaticB, ct_0, ct_i, ct_a, ct_l, os_0, os_s, rc_0, rc_s, sl_0, sl_i, sl_a, sl_l, simprocAttr, ix, z_em, up_eq, up_j, Nat.le_refl, true_or, or_true, true_and, and_true, and_self, or_self, beq_self_eq_true, if_true, if_false, ite_self, ca_f, ca_t, aLen, Int32.lt_iff_toInt_lt, Int32.le_iff_toInt_le, z_ite, z_iten, z_ite1, ite_not, not_true_eq_false, not_false_eq_true, false_and, and_false, false_or, or_false, b_max, b_min, b_minL, b_absL, b_ixD, b_ixH, b_copy, tk_0, tk_s, dr_0, dr_s, pu_s, pu_n, ca_0, ca_1, clr_0, clr_s, e_nop, e_goto, e_if_eq, e_if_ne, e_if_lt, e_if_ge, e_if_gt, e_if_le, e_ic_eq, e_ic_ne, e_ic_lt, e_ic_ge, e_ic_gt, e_ic_le, e_tsw, e_lsw, sw_0, sw_s, e_iret, e_zret, e_lret, e_aret, e_ret, en_0, en_n, en_i, en_a, en_l, List.getElem?_cons_zero, List.getElem?_cons_succ, List.set_cons_zero, List.set_cons_succ, len_s, List.length_nil, ne_eq, x_within, x_in, eT1, eT2, eT3, eT4, eT5, eT6, eM1, eM2, eM3, eM4, eM5, eM6, Nat.one_mul, Nat.mul_one, Nat.zero_add, hr, Int.lt_irrefl]
  | succ n ih =>
    intro k μ hk hv
    have hr : μ 1 7 = nI (T + k) := by rw [cs6 (b := 1) (μ := μ), hv, fd_6 hc]
    have h1 : ((k : Nat) : Int) < (N : Int) := by omega
    have nk : (nI k).toInt = k := nI_toInt (by omega)
    have nN : (nI N).toInt = N := nI_toInt (by omega)
    have nT : (nI (T + k)).toInt = (T + k : Nat) := nI_toInt (by omega)
    have cT : (nI (T + k)).toNatClampNeg = T + k := ix_nI (by omega)
    have bT : (0 : Int) ≤ ((T + k : Nat) : Int) ∧ ((T + k : Nat) : Int) < 60 := by omega
    have n15 : ¬ (1 : Nat) = 5 := by decide
    obtain ⟨μ', b1, b2, b3⟩ := ih (k + 1) (up (up μ 5 (T + k) (byC w (nI k))) 1 7 (nI (T + k + 1))) (by omega) (by
      have q : vC 1 (up μ 5 (T + k) (byC w (nI k))) = up (vC 1 μ) 20 (T + k) (byC w (nI k)) := ut (b := 1) (by omega)
      rw [us6, q, hv]
      rfl)
    refine ⟨μ', ?_, b2, fun o p1 p2 => by rw [b3 o p1 p2, up_ne p1, up_ne p2]⟩
    rw [← b1, u_64_5]
    simp -implicitDefEqProofs only [u_64_0, u_64_1, u_64_2, u_64_3, u_64_4, u_64_6, u_64_7, e_iload_n, e_iload, e_lload_n, e_lload, e_aload_n, e_aload, e_istore_n, e_istore, e_astore_n, e_astore, e_lstore_n, e_lstore, e_iinc, e_iconst, e_bipush, e_sipush, e_ldc_w, e_ldc, e_ldcS, e_lconst, e_ldc2_w, e_iadd, e_isub, e_imul, e_iand, e_ixor, e_ishl, e_ishr, e_iushr, e_idiv, e_irem, e_ineg, e_i2b, e_i2s, e_i2c, e_ladd, e_lsub, e_lmul, e_land, e_lor, e_ldiv, e_lrem, e_lneg, e_lshl, e_lshr, e_lushr, e_i2l, e_l2i, e_lcmp, e_dupI, e_dupA, e_dup2, e_getI, e_getA, e_putI, e_putZ, e_getstatic, e_iaload, e_iastore, e_aaload10, e_alen10, e_aaload11, e_alen11, e_aaload12, e_alen12, e_aaload13, e_alen13, e_alen, e_invokevirtual, e_invokevirtualB, e_invokestatic, e_invokestaticB, ct_0, ct_i, ct_a, ct_l, os_0, os_s, rc_0, rc_s, sl_0, sl_i, sl_a, sl_l, simprocAttr, ix, z_em, up_eq, up_j, Nat.le_refl, true_or, or_true, true_and, and_true, and_self, or_self, beq_self_eq_true, if_true, if_false, ite_self, ca_f, ca_t, aLen, Int32.lt_iff_toInt_lt, Int32.le_iff_toInt_le, z_ite, z_iten, z_ite1, ite_not, not_true_eq_false, not_false_eq_true, false_and, and_false, false_or, or_false, b_max, b_min, b_minL, b_absL, b_ixD, b_ixH, b_copy, tk_0, tk_s, dr_0, dr_s, pu_s, pu_n, ca_0, ca_1, clr_0, clr_s, e_nop, e_goto, e_if_eq, e_if_ne, e_if_lt, e_if_ge, e_if_gt, e_if_le, e_ic_eq, e_ic_ne, e_ic_lt, e_ic_ge, e_ic_gt, e_ic_le, e_tsw, e_lsw, sw_0, sw_s, e_iret, e_zret, e_lret, e_aret, e_ret, en_0, en_n, en_i, en_a, en_l, List.getElem?_cons_zero, List.getElem?_cons_succ, List.set_cons_zero, List.set_cons_succ, len_s, List.length_nil, ne_eq, x_within, x_in, eT1, eT2, eT3, eT4, eT5, eT6, eM1, eM2, eM3, eM4, eM5, eM6, Nat.one_mul, Nat.mul_one, Nat.zero_add, hr, nk, nN, h1, nT, cT, if_pos bT, up_o n15, byC, ← nI_succ]
theorem k_feed {d T N : Nat} {w : Int64} {V0 : Mem} (hN : T + N ≤ 60) (hN8 : N ≤ 8) (hc : V0 0 6 = nI T) : ∀ n k μ, k + n = N → vM 113 μ = fdV T (fun i => byC w (nI i)) V0 k → ∃ μ', res d 129 5 [some (vR 8 112), some (vL w), none, some (vI (nI N)), some (vI (nI k))] [] μ = some (some (vI (nI (T + N))), μ') ∧ vM 113 μ' = fdV T (fun i => byC w (nI i)) V0 N ∧ (∀ o, o ≠ 113 → μ' o = μ o) ∧ ∀ k, 170 ≤ k → k < 420 → μ' 113 k = μ 113 k := by
  intro n
  induction n with
  | zero =>
    intro k μ hk hv
    have hk : k = N := by omega
    subst hk
    have hr : μ 113 6 = nI (T + k) := by rw [ms6 (m := 113) (μ := μ), hv, fd_6 hc]
    refine ⟨μ, ?_, hv, fun _ _ => rfl, fun _ _ _ => rfl⟩
    rw [u_129_5]
    simp -implicitDefEqProofs only [u_129_0, u_129_1, u_129_2, u_129_3, u_129_4, u_129_6, u_129_7, e_iload_n, e_iload, e_lload_n, e_lload, e_aload_n, e_aload, e_istore_n, e_istore, e_astore_n, e_astore, e_lstore_n, e_lstore, e_iinc, e_iconst, e_bipush, e_sipush, e_ldc_w, e_ldc, e_ldcS, e_lconst, e_ldc2_w, e_iadd, e_isub, e_imul, e_iand, e_ixor, e_ishl, e_ishr, e_iushr, e_idiv, e_irem, e_ineg, e_i2b, e_i2s, e_i2c, e_ladd, e_lsub, e_lmul, e_land, e_lor, e_ldiv, e_lrem, e_lneg, e_lshl, e_lshr, e_lushr, e_i2l, e_l2i, e_lcmp, e_dupI, e_dupA, e_dup2, e_getI, e_getA, e_putI, e_putZ, e_getstatic, e_iaload, e_iastore, e_aaload10, e_alen10, e_aaload11, e_alen11, e_aaload12, e_alen12, e_aaload13, e_alen13, e_alen, e_invokevirtual, e_invokevirtualB, e_invokestatic, e_invokestaticB, ct_0, ct_i, ct_a, ct_l, os_0, os_s, rc_0, rc_s, sl_0, sl_i, sl_a, sl_l, simprocAttr, ix, z_em, up_eq, up_j, Nat.le_refl, true_or, or_true, true_and, and_true, and_self, or_self, beq_self_eq_true, if_true, if_false, ite_self, ca_f, ca_t, aLen, Int32.lt_iff_toInt_lt, Int32.le_iff_toInt_le, z_ite, z_iten, z_ite1, ite_not, not_true_eq_false, not_false_eq_true, false_and, and_false, false_or, or_false, b_max, b_min, b_minL, b_absL, b_ixD, b_ixH, b_copy, tk_0, tk_s, dr_0, dr_s, pu_s, pu_n, ca_0, ca_1, clr_0, clr_s, e_nop, e_goto, e_if_eq, e_if_ne, e_if_lt, e_if_ge, e_if_gt, e_if_le, e_ic_eq, e_ic_ne, e_ic_lt, e_ic_ge, e_ic_gt, e_ic_le, e_tsw, e_lsw, sw_0, sw_s, e_iret, e_zret, e_lret, e_aret, e_ret, en_0, en_n, en_i, en_a, en_l, List.getElem?_cons_zero, List.getElem?_cons_succ, List.set_cons_zero, List.set_cons_succ, len_s, List.length_nil, ne_eq, x_within, x_in, eT1, eT2, eT3, eT4, eT5, eT6, eM1, eM2, eM3, eM4, eM5, eM6, Nat.one_mul, Nat.mul_one, Nat.zero_add, hr, Int.lt_irrefl]
  | succ n ih =>
    intro k μ hk hv
    have hr : μ 113 6 = nI (T + k) := by rw [ms6 (m := 113) (μ := μ), hv, fd_6 hc]
    have h1 : ((k : Nat) : Int) < (N : Int) := by omega
    have nk : (nI k).toInt = k := nI_toInt (by omega)
    have nN : (nI N).toInt = N := nI_toInt (by omega)
    have ea : 420 + nI (T + k) = nI (420 + (T + k)) := by
      show nI 420 + nI (T + k) = _
      exact nIa (by omega)
    have nT : (nI (420 + (T + k))).toInt = (420 + (T + k) : Nat) := nI_toInt (by omega)
    have cT : (nI (420 + (T + k))).toNatClampNeg = 420 + (T + k) := ix_nI (by omega)
    have bT : (0 : Int) ≤ ((420 + (T + k) : Nat) : Int) ∧ ((420 + (T + k) : Nat) : Int) < 504 := by omega
    have n6 : ¬ 6 = 420 + (T + k) := by omega
    obtain ⟨μ', b1, b2, b3, b4⟩ := ih (k + 1) (up (up μ 113 (420 + (T + k)) (byC w (nI k))) 113 6 (nI (T + k + 1))) (by omega) (by
      rw [ums6, umt (by omega), hv]
      rfl)
    refine ⟨μ', ?_, b2, fun o p1 => by rw [b3 o p1, up_ne p1, up_ne p1], fun c p1 p2 => by rw [b4 c p1 p2, up_j (by omega), up_j (by omega)]⟩
    rw [← b1, u_129_5, ← by_eq (show k < 8 by omega)]
    simp -implicitDefEqProofs only [u_129_0, u_129_1, u_129_2, u_129_3, u_129_4, u_129_6, u_129_7, e_iload_n, e_iload, e_lload_n, e_lload, e_aload_n, e_aload, e_istore_n, e_istore, e_astore_n, e_astore, e_lstore_n, e_lstore, e_iinc, e_iconst, e_bipush, e_sipush, e_ldc_w, e_ldc, e_ldcS, e_lconst, e_ldc2_w, e_iadd, e_isub, e_imul, e_iand, e_ixor, e_ishl, e_ishr, e_iushr, e_idiv, e_irem, e_ineg, e_i2b, e_i2s, e_i2c, e_ladd, e_lsub, e_lmul, e_land, e_lor, e_ldiv, e_lrem, e_lneg, e_lshl, e_lshr, e_lushr, e_i2l, e_l2i, e_lcmp, e_dupI, e_dupA, e_dup2, e_getI, e_getA, e_putI, e_putZ, e_getstatic, e_iaload, e_iastore, e_aaload10, e_alen10, e_aaload11, e_alen11, e_aaload12, e_alen12, e_aaload13, e_alen13, e_alen, e_invokevirtual, e_invokevirtualB, e_invokestatic, e_invokestaticB, ct_0, ct_i, ct_a, ct_l, os_0, os_s, rc_0, rc_s, sl_0, sl_i, sl_a, sl_l, simprocAttr, ix, z_em, up_eq, up_j, Nat.le_refl, true_or, or_true, true_and, and_true, and_self, or_self, beq_self_eq_true, if_true, if_false, ite_self, ca_f, ca_t, aLen, Int32.lt_iff_toInt_lt, Int32.le_iff_toInt_le, z_ite, z_iten, z_ite1, ite_not, not_true_eq_false, not_false_eq_true, false_and, and_false, false_or, or_false, b_max, b_min, b_minL, b_absL, b_ixD, b_ixH, b_copy, tk_0, tk_s, dr_0, dr_s, pu_s, pu_n, ca_0, ca_1, clr_0, clr_s, e_nop, e_goto, e_if_eq, e_if_ne, e_if_lt, e_if_ge, e_if_gt, e_if_le, e_ic_eq, e_ic_ne, e_ic_lt, e_ic_ge, e_ic_gt, e_ic_le, e_tsw, e_lsw, sw_0, sw_s, e_iret, e_zret, e_lret, e_aret, e_ret, en_0, en_n, en_i, en_a, en_l, List.getElem?_cons_zero, List.getElem?_cons_succ, List.set_cons_zero, List.set_cons_succ, len_s, List.length_nil, ne_eq, x_within, x_in, eT1, eT2, eT3, eT4, eT5, eT6, eM1, eM2, eM3, eM4, eM5, eM6, Nat.one_mul, Nat.mul_one, Nat.zero_add, hr, nk, nN, h1, ea, nT, cT, if_pos bT, up_j n6, byM, ← nI_succ]
theorem p_feed {fz : Mem} {d : Nat} {w : Int64} {n : Int32} {μ : Mem} (h : RR fz μ) : PR fz d 64 129 [vL w, vI n] μ := by
  by_cases q1 : 1 ≤ n.toInt ∧ n.toInt ≤ 8
  · have g := gs6 h.1.1.1
    obtain ⟨N, hN, rfl⟩ := nIof (v := n) (n := 9) (by omega) (by omega)
    have nN : (nI N).toInt = N := nI_toInt (by omega)
    rw [nN] at q1
    obtain ⟨T, hT, eT⟩ := nIof (v := vC 1 μ 0 6) (n := 61) g.1 (by omega)
    have e6 : μ 1 7 = nI T := cs6.trans eT
    have m6 : μ 113 6 = nI T := by rw [ms6 (m := 113) (μ := μ), h.e0 (by decide), eT]
    have es : nI T + nI N = nI (T + N) := nIa (by omega)
    have ns : (nI (T + N)).toInt = (T + N : Nat) := nI_toInt (by omega)
    by_cases q2 : T + N ≤ 60
    · have q2' : ¬ (60 : Int) < ((T + N : Nat) : Int) := by omega
      obtain ⟨μ1, a1, a2, a3⟩ := l_feed (d := d) (w := w) q2 (by omega) eT N 0 μ (by omega) rfl
      have f13 : μ1 113 = μ 113 := a3 113 (by decide) (by decide)
      have vm1 : vM 113 μ1 = vM 113 μ := vM_congr f13
      obtain ⟨μ2, b1, b2, b3, b4⟩ := k_feed (d := d) (w := w) (V0 := vM 113 μ) q2 (by omega) (by rw [h.e0 (by decide), eT]) N 0 μ1 (by omega) vm1
      have g2 : ∀ o, o ≠ 1 → o ≠ 5 → o ≠ 113 → μ2 o = μ o := fun o p1 p2 p3 => by rw [b3 o p3, a3 o p1 p2]
      have v2 : vC 1 μ2 = vC 1 μ1 := vC_congr fun o p1 p2 => b3 o (by omega)
      refine ⟨(nI (T + N)), μ1, μ2, (by rw [a3 202 (by decide) (by decide)]; exact h.u2), ?_, ?_, ?_⟩
      · rw [← a1]
        have z0 : (vI (nI 0) : AV) = vI 0 := rfl
        rw [z0]
        simp -implicitDefEqProofs only [cl_64, u_64_0, u_64_1, u_64_2, u_64_3, u_64_4, u_64_6, u_64_7, e_iload_n, e_iload, e_lload_n, e_lload, e_aload_n, e_aload, e_istore_n, e_istore, e_astore_n, e_astore, e_lstore_n, e_lstore, e_iinc, e_iconst, e_bipush, e_sipush, e_ldc_w, e_ldc, e_ldcS, e_lconst, e_ldc2_w, e_iadd, e_isub, e_imul, e_iand, e_ixor, e_ishl, e_ishr, e_iushr, e_idiv, e_irem, e_ineg, e_i2b, e_i2s, e_i2c, e_ladd, e_lsub, e_lmul, e_land, e_lor, e_ldiv, e_lrem, e_lneg, e_lshl, e_lshr, e_lushr, e_i2l, e_l2i, e_lcmp, e_dupI, e_dupA, e_dup2, e_getI, e_getA, e_putI, e_putZ, e_getstatic, e_iaload, e_iastore, e_aaload10, e_alen10, e_aaload11, e_alen11, e_aaload12, e_alen12, e_aaload13, e_alen13, e_alen, e_invokevirtual, e_invokevirtualB, e_invokestatic, e_invokestaticB, ct_0, ct_i, ct_a, ct_l, os_0, os_s, rc_0, rc_s, sl_0, sl_i, sl_a, sl_l, simprocAttr, ix, z_em, up_eq, up_j, Nat.le_refl, true_or, or_true, true_and, and_true, and_self, or_self, beq_self_eq_true, if_true, if_false, ite_self, ca_f, ca_t, aLen, Int32.lt_iff_toInt_lt, Int32.le_iff_toInt_le, z_ite, z_iten, z_ite1, ite_not, not_true_eq_false, not_false_eq_true, false_and, and_false, false_or, or_false, b_max, b_min, b_minL, b_absL, b_ixD, b_ixH, b_copy, tk_0, tk_s, dr_0, dr_s, pu_s, pu_n, ca_0, ca_1, clr_0, clr_s, e_nop, e_goto, e_if_eq, e_if_ne, e_if_lt, e_if_ge, e_if_gt, e_if_le, e_ic_eq, e_ic_ne, e_ic_lt, e_ic_ge, e_ic_gt, e_ic_le, e_tsw, e_lsw, sw_0, sw_s, e_iret, e_zret, e_lret, e_aret, e_ret, en_0, en_n, en_i, en_a, en_l, List.getElem?_cons_zero, List.getElem?_cons_succ, List.set_cons_zero, List.set_cons_succ, len_s, List.length_nil, ne_eq, x_within, x_in, eT1, eT2, eT3, eT4, eT5, eT6, eM1, eM2, eM3, eM4, eM5, eM6, Nat.one_mul, Nat.mul_one, Nat.zero_add, nN, q1, e6, es, ns, q2']
      · rw [← b1]
        have z0 : (vI (nI 0) : AV) = vI 0 := rfl
        have m6' : μ1 113 6 = nI T := by rw [f13]; exact m6
        rw [z0]
        simp -implicitDefEqProofs only [cl_129, u_129_0, u_129_1, u_129_2, u_129_3, u_129_4, u_129_6, u_129_7, e_iload_n, e_iload, e_lload_n, e_lload, e_aload_n, e_aload, e_istore_n, e_istore, e_astore_n, e_astore, e_lstore_n, e_lstore, e_iinc, e_iconst, e_bipush, e_sipush, e_ldc_w, e_ldc, e_ldcS, e_lconst, e_ldc2_w, e_iadd, e_isub, e_imul, e_iand, e_ixor, e_ishl, e_ishr, e_iushr, e_idiv, e_irem, e_ineg, e_i2b, e_i2s, e_i2c, e_ladd, e_lsub, e_lmul, e_land, e_lor, e_ldiv, e_lrem, e_lneg, e_lshl, e_lshr, e_lushr, e_i2l, e_l2i, e_lcmp, e_dupI, e_dupA, e_dup2, e_getI, e_getA, e_putI, e_putZ, e_getstatic, e_iaload, e_iastore, e_aaload10, e_alen10, e_aaload11, e_alen11, e_aaload12, e_alen12, e_aaload13, e_alen13, e_alen, e_invokevirtual, e_invokevirtualB, e_invokestatic, e_invokestaticB, ct_0, ct_i, ct_a, ct_l, os_0, os_s, rc_0, rc_s, sl_0, sl_i, sl_a, sl_l, simprocAttr, ix, z_em, up_eq, up_j, Nat.le_refl, true_or, or_true, true_and, and_true, and_self, or_self, beq_self_eq_true, if_true, if_false, ite_self, ca_f, ca_t, aLen, Int32.lt_iff_toInt_lt, Int32.le_iff_toInt_le, z_ite, z_iten, z_ite1, ite_not, not_true_eq_false, not_false_eq_true, false_and, and_false, false_or, or_false, b_max, b_min, b_minL, b_absL, b_ixD, b_ixH, b_copy, tk_0, tk_s, dr_0, dr_s, pu_s, pu_n, ca_0, ca_1, clr_0, clr_s, e_nop, e_goto, e_if_eq, e_if_ne, e_if_lt, e_if_ge, e_if_gt, e_if_le, e_ic_eq, e_ic_ne, e_ic_lt, e_ic_ge, e_ic_gt, e_ic_le, e_tsw, e_lsw, sw_0, sw_s, e_iret, e_zret, e_lret, e_aret, e_ret, en_0, en_n, en_i, en_a, en_l, List.getElem?_cons_zero, List.getElem?_cons_succ, List.set_cons_zero, List.set_cons_succ, len_s, List.length_nil, ne_eq, x_within, x_in, eT1, eT2, eT3, eT4, eT5, eT6, eM1, eM2, eM3, eM4, eM5, eM6, Nat.one_mul, Nat.mul_one, Nat.zero_add, nN, q1, m6', es, ns, q2']
      · refine h.w (fun o p1 p2 p3 p4 p5 => g2 o (by omega) (by omega) p3) (by rw [g2 100 (by decide) (by decide) (by decide)]) (by rw [g2 112 (by decide) (by decide) (by decide)]) (by rw [g2 112 (by decide) (by decide) (by decide)]) (fun k p1 p2 => by rw [b4 k p1 p2, f13]) (by rw [vC_congr (fun o p1 p2 => g2 o (by omega) (by omega) (by omega))]; exact h.2.2.2.1) (by rw [v2, a2]; exact fd_wf h.1.1.1 N q2) (by rw [b2]; exact fd_wf h.1.1.2 N q2) (by rw [v2, a2]; exact fd_wd h.1.2.1.1 N) (by rw [b2]; exact fd_wd h.1.2.1.2 N) (by rw [v2, a2, fd_sm (by decide)]; exact h.1.2.2.1) (by rw [v2, a2, b2]; exact fd_eq h.1.2.2.2.1 eT (fun i => an_rg) N q2)
    · have q2' : (60 : Int) < ((T + N : Nat) : Int) := by omega
      refine PR.er (k := 4) h (by decide) (by decide) ?_ (fun μ1 f => ?_)
      · simp -implicitDefEqProofs only [cl_64, u_64_0, u_64_1, u_64_2, u_64_3, u_64_4, u_64_6, u_64_7, e_iload_n, e_iload, e_lload_n, e_lload, e_aload_n, e_aload, e_istore_n, e_istore, e_astore_n, e_astore, e_lstore_n, e_lstore, e_iinc, e_iconst, e_bipush, e_sipush, e_ldc_w, e_ldc, e_ldcS, e_lconst, e_ldc2_w, e_iadd, e_isub, e_imul, e_iand, e_ixor, e_ishl, e_ishr, e_iushr, e_idiv, e_irem, e_ineg, e_i2b, e_i2s, e_i2c, e_ladd, e_lsub, e_lmul, e_land, e_lor, e_ldiv, e_lrem, e_lneg, e_lshl, e_lshr, e_lushr, e_i2l, e_l2i, e_lcmp, e_dupI, e_dupA, e_dup2, e_getI, e_getA, e_putI, e_putZ, e_getstatic, e_iaload, e_iastore, e_aaload10, e_alen10, e_aaload11, e_alen11, e_aaload12, e_alen12, e_aaload13, e_alen13, e_alen, e_invokevirtual, e_invokevirtualB, e_invokestatic, e_invokestaticB, ct_0, ct_i, ct_a, ct_l, os_0, os_s, rc_0, rc_s, sl_0, sl_i, sl_a, sl_l, simprocAttr, ix, z_em, up_eq, up_j, Nat.le_refl, true_or, or_true, true_and, and_true, and_self, or_self, beq_self_eq_true, if_true, if_false, ite_self, ca_f, ca_t, aLen, Int32.lt_iff_toInt_lt, Int32.le_iff_toInt_le, z_ite, z_iten, z_ite1, ite_not, not_true_eq_false, not_false_eq_true, false_and, and_false, false_or, or_false, b_max, b_min, b_minL, b_absL, b_ixD, b_ixH, b_copy, tk_0, tk_s, dr_0, dr_s, pu_s, pu_n, ca_0, ca_1, clr_0, clr_s, e_nop, e_goto, e_if_eq, e_if_ne, e_if_lt, e_if_ge, e_if_gt, e_if_le, e_ic_eq, e_ic_ne, e_ic_lt, e_ic_ge, e_ic_gt, e_ic_le, e_tsw, e_lsw, sw_0, sw_s, e_iret, e_zret, e_lret, e_aret, e_ret, en_0, en_n, en_i, en_a, en_l, List.getElem?_cons_zero, List.getElem?_cons_succ, List.set_cons_zero, List.set_cons_succ, len_s, List.length_nil, ne_eq, x_within, x_in, eT1, eT2, eT3, eT4, eT5, eT6, eM1, eM2, eM3, eM4, eM5, eM6, Nat.one_mul, Nat.mul_one, Nat.zero_add, nN, q1, e6, es, ns, q2']
      · have m1' : μ1 113 6 = nI T := by rw [f 113 (by decide)]; exact m6
        simp -implicitDefEqProofs only [cl_129, u_129_0, u_129_1, u_129_2, u_129_3, u_129_4, u_129_6, u_129_7, e_iload_n, e_iload, e_lload_n, e_lload, e_aload_n, e_aload, e_istore_n, e_istore, e_astore_n, e_astore, e_lstore_n, e_lstore, e_iinc, e_iconst, e_bipush, e_sipush, e_ldc_w, e_ldc, e_ldcS, e_lconst, e_ldc2_w, e_iadd, e_isub, e_imul, e_iand, e_ixor, e_ishl, e_ishr, e_iushr, e_idiv, e_irem, e_ineg, e_i2b, e_i2s, e_i2c, e_ladd, e_lsub, e_lmul, e_land, e_lor, e_ldiv, e_lrem, e_lneg, e_lshl, e_lshr, e_lushr, e_i2l, e_l2i, e_lcmp, e_dupI, e_dupA, e_dup2, e_getI, e_getA, e_putI, e_putZ, e_getstatic, e_iaload, e_iastore, e_aaload10, e_alen10, e_aaload11, e_alen11, e_aaload12, e_alen12, e_aaload13, e_alen13, e_alen, e_invokevirtual, e_invokevirtualB, e_invokestatic, e_invokestaticB, ct_0, ct_i, ct_a, ct_l, os_0, os_s, rc_0, rc_s, sl_0, sl_i, sl_a, sl_l, simprocAttr, ix, z_em, up_eq, up_j, Nat.le_refl, true_or, or_true, true_and, and_true, and_self, or_self, beq_self_eq_true, if_true, if_false, ite_self, ca_f, ca_t, aLen, Int32.lt_iff_toInt_lt, Int32.le_iff_toInt_le, z_ite, z_iten, z_ite1, ite_not, not_true_eq_false, not_false_eq_true, false_and, and_false, false_or, or_false, b_max, b_min, b_minL, b_absL, b_ixD, b_ixH, b_copy, tk_0, tk_s, dr_0, dr_s, pu_s, pu_n, ca_0, ca_1, clr_0, clr_s, e_nop, e_goto, e_if_eq, e_if_ne, e_if_lt, e_if_ge, e_if_gt, e_if_le, e_ic_eq, e_ic_ne, e_ic_lt, e_ic_ge, e_ic_gt, e_ic_le, e_tsw, e_lsw, sw_0, sw_s, e_iret, e_zret, e_lret, e_aret, e_ret, en_0, en_n, en_i, en_a, en_l, List.getElem?_cons_zero, List.getElem?_cons_succ, List.set_cons_zero, List.set_cons_succ, len_s, List.length_nil, ne_eq, x_within, x_in, eT1, eT2, eT3, eT4, eT5, eT6, eM1, eM2, eM3, eM4, eM5, eM6, Nat.one_mul, Nat.mul_one, Nat.zero_add, nN, q1, m1', es, ns, q2']
  · refine PR.er (k := 1) h (by decide) (by decide) ?_ (fun μ1 f => ?_)
    · simp -implicitDefEqProofs only [cl_64, u_64_0, u_64_1, u_64_2, u_64_3, u_64_4, u_64_6, u_64_7, e_iload_n, e_iload, e_lload_n, e_lload, e_aload_n, e_aload, e_istore_n, e_istore, e_astore_n, e_astore, e_lstore_n, e_lstore, e_iinc, e_iconst, e_bipush, e_sipush, e_ldc_w, e_ldc, e_ldcS, e_lconst, e_ldc2_w, e_iadd, e_isub, e_imul, e_iand, e_ixor, e_ishl, e_ishr, e_iushr, e_idiv, e_irem, e_ineg, e_i2b, e_i2s, e_i2c, e_ladd, e_lsub, e_lmul, e_land, e_lor, e_ldiv, e_lrem, e_lneg, e_lshl, e_lshr, e_lushr, e_i2l, e_l2i, e_lcmp, e_dupI, e_dupA, e_dup2, e_getI, e_getA, e_putI, e_putZ, e_getstatic, e_iaload, e_iastore, e_aaload10, e_alen10, e_aaload11, e_alen11, e_aaload12, e_alen12, e_aaload13, e_alen13, e_alen, e_invokevirtual, e_invokevirtualB, e_invokestatic, e_invokestaticB, ct_0, ct_i, ct_a, ct_l, os_0, os_s, rc_0, rc_s, sl_0, sl_i, sl_a, sl_l, simprocAttr, ix, z_em, up_eq, up_j, Nat.le_refl, true_or, or_true, true_and, and_true, and_self, or_self, beq_self_eq_true, if_true, if_false, ite_self, ca_f, ca_t, aLen, Int32.lt_iff_toInt_lt, Int32.le_iff_toInt_le, z_ite, z_iten, z_ite1, ite_not, not_true_eq_false, not_false_eq_true, false_and, and_false, false_or, or_false, b_max, b_min, b_minL, b_absL, b_ixD, b_ixH, b_copy, tk_0, tk_s, dr_0, dr_s, pu_s, pu_n, ca_0, ca_1, clr_0, clr_s, e_nop, e_goto, e_if_eq, e_if_ne, e_if_lt, e_if_ge, e_if_gt, e_if_le, e_ic_eq, e_ic_ne, e_ic_lt, e_ic_ge, e_ic_gt, e_ic_le, e_tsw, e_lsw, sw_0, sw_s, e_iret, e_zret, e_lret, e_aret, e_ret, en_0, en_n, en_i, en_a, en_l, List.getElem?_cons_zero, List.getElem?_cons_succ, List.set_cons_zero, List.set_cons_succ, len_s, List.length_nil, ne_eq, x_within, x_in, eT1, eT2, eT3, eT4, eT5, eT6, eM1, eM2, eM3, eM4, eM5, eM6, Nat.one_mul, Nat.mul_one, Nat.zero_add, q1]
    · simp -implicitDefEqProofs only [cl_129, u_129_0, u_129_1, u_129_2, u_129_3, u_129_4, u_129_6, u_129_7, e_iload_n, e_iload, e_lload_n, e_lload, e_aload_n, e_aload, e_istore_n, e_istore, e_astore_n, e_astore, e_lstore_n, e_lstore, e_iinc, e_iconst, e_bipush, e_sipush, e_ldc_w, e_ldc, e_ldcS, e_lconst, e_ldc2_w, e_iadd, e_isub, e_imul, e_iand, e_ixor, e_ishl, e_ishr, e_iushr, e_idiv, e_irem, e_ineg, e_i2b, e_i2s, e_i2c, e_ladd, e_lsub, e_lmul, e_land, e_lor, e_ldiv, e_lrem, e_lneg, e_lshl, e_lshr, e_lushr, e_i2l, e_l2i, e_lcmp, e_dupI, e_dupA, e_dup2, e_getI, e_getA, e_putI, e_putZ, e_getstatic, e_iaload, e_iastore, e_aaload10, e_alen10, e_aaload11, e_alen11, e_aaload12, e_alen12, e_aaload13, e_alen13, e_alen, e_invokevirtual, e_invokevirtualB, e_invokestatic, e_invokestaticB, ct_0, ct_i, ct_a, ct_l, os_0, os_s, rc_0, rc_s, sl_0, sl_i, sl_a, sl_l, simprocAttr, ix, z_em, up_eq, up_j, Nat.le_refl, true_or, or_true, true_and, and_true, and_self, or_self, beq_self_eq_true, if_true, if_false, ite_self, ca_f, ca_t, aLen, Int32.lt_iff_toInt_lt, Int32.le_iff_toInt_le, z_ite, z_iten, z_ite1, ite_not, not_true_eq_false, not_false_eq_true, false_and, and_false, false_or, or_false, b_max, b_min, b_minL, b_absL, b_ixD, b_ixH, b_copy, tk_0, tk_s, dr_0, dr_s, pu_s, pu_n, ca_0, ca_1, clr_0, clr_s, e_nop, e_goto, e_if_eq, e_if_ne, e_if_lt, e_if_ge, e_if_gt, e_if_le, e_ic_eq, e_ic_ne, e_ic_lt, e_ic_ge, e_ic_gt, e_ic_le, e_tsw, e_lsw, sw_0, sw_s, e_iret, e_zret, e_lret, e_aret, e_ret, en_0, en_n, en_i, en_a, en_l, List.getElem?_cons_zero, List.getElem?_cons_succ, List.set_cons_zero, List.set_cons_succ, len_s, List.length_nil, ne_eq, x_within, x_in, eT1, eT2, eT3, eT4, eT5, eT6, eM1, eM2, eM3, eM4, eM5, eM6, Nat.one_mul, Nat.mul_one, Nat.zero_add, q1]
