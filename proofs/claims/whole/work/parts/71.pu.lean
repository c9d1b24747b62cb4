/-! PAIRS OF CALLS: check. -/
theorem EQV.z7 {V V' : Mem} (h : EQV V V') : EQV (up V 0 7 0) (up V' 0 7 0) := by
  obtain ⟨e1, e2, e3, e4, e5⟩ := h
  have e : ∀ (W : Mem) a c, ¬ (a = 0 ∧ c = 7) → up W 0 7 0 a c = W a c := fun W a c p1 => if_neg p1
  refine ⟨fun k hk => ?_, fun w hw hwc k hk hu => ?_, fun r hr hrc k hk => ?_, fun i hi hic => ?_, fun i hi hic => ?_⟩
  · by_cases q : k = 7
    · subst q
      rw [up_eq, up_eq]
    · rw [e _ _ _ (by omega), e _ _ _ (by omega)]
      exact e1 k hk
  · rw [e _ _ _ (by omega)] at hwc
    unfold usK at hu
    rw [e _ _ _ (by omega)] at hu
    rw [e _ _ _ (by omega), e _ _ _ (by omega)]
    exact e2 w hw hwc k hk hu
  · rw [e _ _ _ (by omega)] at hrc
    rw [e _ _ _ (by omega), e _ _ _ (by omega)]
    exact e3 r hr hrc k hk
  · rw [e _ _ _ (by omega)] at hic
    rw [e _ _ _ (by omega), e _ _ _ (by omega)]
    exact e4 i hi hic
  · rw [up_eq] at hic
    have t0 : (0 : Int32).toInt = 0 := rfl
    omega
theorem wf_z7 {V : Mem} (h : WFV V) : WFV (up V 0 7 0) := by
  refine wf_up h (by unfold plV; omega) ?_
  show (0 : Int) ≤ (0 : Int32).toInt ∧ (0 : Int32).toInt ≤ (24 : Int)
  decide
theorem x_trialG {d : Nat} {μ V' : Mem} {tx' : TX} (hW1 : WFV (vC 1 μ)) (hW3 : WFV (vC 33 μ)) (hL : LW 1 μ) (h3 : told3 1 μ) (hE0 : EQV (vC 1 μ) V') (ht : ∀ u, u < 2 → txC 1 μ u = tx' u) : ∃ μ1, cl d 39 [Sum.inr (Sum.inr (6, 33)), Sum.inr (Sum.inr (6, 1))] μ = some (none, μ1) ∧ (∀ o, (o < 33 ∨ 65 ≤ o) → μ1 o = μ o) ∧ EQV (vC 33 μ1) V' ∧ (∀ u, u < 2 → txC 33 μ1 u = tx' u) ∧ LW 33 μ1 ∧ WFV (vC 33 μ1) ∧ (∀ k, k < 9 → vC 33 μ1 0 k = vC 1 μ 0 k) := by
  obtain ⟨μ1, a1, a2, a3, a4, -⟩ := x_takeW (d := d) (b := 33) (c := 1) (μ := μ) (by omega) hW1 hW3 hL h3
  have g0 := gs0 hW1
  have g1 := gs1 hW1
  have g6 := gs6 hW1
  have g7 := gs7 hW1
  have e0 : (vC 1 μ 0 0).toNatClampNeg = (vC 1 μ 0 0).toInt.toNat := rfl
  have e1 : (vC 1 μ 0 1).toNatClampNeg = (vC 1 μ 0 1).toInt.toNat := rfl
  have e6 : (vC 1 μ 0 6).toNatClampNeg = (vC 1 μ 0 6).toInt.toNat := rfl
  have e7 : (vC 1 μ 0 7).toNatClampNeg = (vC 1 μ 0 7).toInt.toNat := rfl
  obtain ⟨s0, s1, s2, s3, s4, s5⟩ := a2
  obtain ⟨q0, q1, q2, q3, q4⟩ := hE0
  have hSW : SW 33 1 μ μ1 := ⟨s0, s1, s2, s3, s4, s5⟩
  refine ⟨μ1, a1, a4, ?_, fun u hu => (hSW.tx u hu).trans (ht u hu), hSW.lw hL, a3, s0⟩
  refine ⟨fun k hk => by rw [s0 k hk]; exact q0 k hk, fun w hw hc k hk hu => ?_, fun r hr hc k hk => ?_, fun i hi hc => ?_, fun i hi hc => ?_⟩
  · rw [s0 0 (by decide)] at hc
    unfold usK at hu
    rw [s1 w (by omega) 1 (by decide)] at hu
    rw [s1 w (by omega) k hk]
    exact q1 w hw hc k hk hu
  · rw [s0 1 (by decide)] at hc
    rw [s2 r (by omega) k hk]
    exact q2 r hr hc k hk
  · rw [s0 6 (by decide)] at hc
    rw [s3 i (by omega)]
    exact q3 i hi hc
  · rw [s0 7 (by decide)] at hc
    rw [s4 i (by omega)]
    exact q4 i hi hc
theorem RR.z7 {fz μ : Mem} (h : RR fz μ) : RR fz (up (up μ 1 8 0) 113 7 0) := by
  have g2 : ∀ o, o ≠ 1 → o ≠ 113 → up (up μ 1 8 0) 113 7 0 o = μ o := fun o p1 p2 => by rw [up_ne p2, up_ne p1]
  have vc : vC 1 (up (up μ 1 8 0) 113 7 0) = up (vC 1 μ) 0 7 0 := by rw [vC_un (by omega), us7]
  have vm : vM 113 (up (up μ 1 8 0) 113 7 0) = up (vM 113 μ) 0 7 0 := by rw [ums7, vM_un (by omega)]
  refine h.w (fun o p1 p2 p3 p4 p5 => g2 o (by omega) p3) (by rw [g2 100 (by decide) (by decide)]) (by rw [g2 112 (by decide) (by decide)]) (by rw [g2 112 (by decide) (by decide)]) (fun k p1 p2 => by rw [up_j (by omega), up_ne (by omega)]) (by rw [vC_congr (fun o p1 p2 => g2 o (by omega) (by omega))]; exact h.2.2.2.1) (by rw [vc]; exact wf_z7 h.1.1.1) (by rw [vm]; exact wf_z7 h.1.1.2) (by rw [vc]; exact wd_up h.1.2.1.1 (by omega)) (by rw [vm]; exact wd_up h.1.2.1.2 (by omega)) (by rw [vc, up_j (by decide)]; exact h.1.2.2.1) (by rw [vc, vm]; exact h.1.2.2.2.1.z7)
theorem nI_ne {a b : Nat} (ha : a < 2147483648) (hb : b < 2147483648) (h : a ≠ b) : ¬ nI a = nI b := fun z => by
  have := congrArg Int32.toInt z
  rw [nI_toInt ha, nI_toInt hb] at this
  omega
theorem l_check {d T N B : Nat} {wa en : Nat → Int32} {μ : Mem} (hT : T ≤ 24) (hN : N ≤ 4) (hB : B = if T < N then T else N) (hc : μ 1 5 = nI N) (hw : ∀ i, i < B → μ 6 i = wa i) (he : ∀ i, i < B → μ (39 + 3 * i) 9 = en i) : ∀ n k, k + n = B → (∀ j, j < k → wa j = en j) → ∃ m, m ≤ B ∧ (∀ j, j < m → wa j = en j) ∧ (m = B ∨ wa m ≠ en m) ∧ res d 88 1 [some (vR 7 0), some (vI (nI T)), some (vI (nI B)), some (vI (nI k))] [] μ = some (some (vI (if m = T ∧ m = N then 0 else 1 + nI m)), μ) := by
  intro n
  induction n with
  | zero =>
    intro k hk hj
    have hk : k = B := by omega
    subst hk
    refine ⟨k, Nat.le_refl _, hj, Or.inl rfl, ?_⟩
    rw [u_88_1]
    by_cases q : T = N
    · have e : k = T ∧ k = N := by
        rw [hB]
        subst q
        simp
      rw [if_pos e, q]
      simp -implicitDefEqProofs only [u_88_0, u_88_2, u_88_3, u_88_4, u_88_5, u_88_6, u_88_7, u_88_8, e_iload_n, e_iload, e_lload_n, e_lload, e_aload_n, e_aload, e_istore_n, e_istore, e_astore_n, e_astore, e_lstore_n, e_lstore, e_iinc, e_iconst, e_bipush, e_sipush, e_ldc_w, e_ldc, e_ldcS, e_lconst, e_ldc2_w, e_iadd, e_isub, e_imul, e_iand, e_ixor, e_ishl, e_ishr, e_iushr, e_idiv, e_irem, e_ineg, e_i2b, e_i2s, e_i2c, e_ladd, e_lsub, e_lmul, e_land, e_lor, e_ldiv, e_lrem, e_lneg, e_lshl, e_lshr, e_lushr, e_i2l, e_l2i, e_lcmp, e_dupI, e_dupA, e_dup2, e_getI, e_getA, e_putI, e_putZ, e_getstatic, e_iaload, e_iastore, e_aaload10, e_alen10, e_aaload11, e_alen11, e_aaload12, e_alen12, e_aaload13, e_alen13, e_alen, e_invokevirtual, e_invokevirtualB, e_invokestatic, e_invokestaticB, ct_0, ct_i, ct_a, ct_l, os_0, os_s, rc_0, rc_s, sl_0, sl_i, sl_a, sl_l, simprocAttr, ix, z_em, up_eq, up_j, Nat.le_refl, true_or, or_true, true_and, and_true, and_self, or_self, beq_self_eq_true, if_true, if_false, ite_self, ca_f, ca_t, aLen, Int32.lt_iff_toInt_lt, Int32.le_iff_toInt_le, z_ite, z_iten, z_ite1, ite_not, not_true_eq_false, not_false_eq_true, false_and, and_false, false_or, or_false, b_max, b_min, b_minL, b_absL, b_ixD, b_ixH, b_copy, tk_0, tk_s, dr_0, dr_s, pu_s, pu_n, ca_0, ca_1, clr_0, clr_s, e_nop, e_goto, e_if_eq, e_if_ne, e_if_lt, e_if_ge, e_if_gt, e_if_le, e_ic_eq, e_ic_ne, e_ic_lt, e_ic_ge, e_ic_gt, e_ic_le, e_tsw, e_lsw, sw_0, sw_s, e_iret, e_zret, e_lret, e_aret, e_ret, en_0, en_n, en_i, en_a, en_l, List.getElem?_cons_zero, List.getElem?_cons_succ, List.set_cons_zero, List.set_cons_succ, len_s, List.length_nil, ne_eq, x_within, x_in, eT1, eT2, eT3, eT4, eT5, eT6, eM1, eM2, eM3, eM4, eM5, eM6, Nat.one_mul, Nat.mul_one, Nat.zero_add, Int.lt_irrefl, hc]
    · have e : ¬ (k = T ∧ k = N) := fun z => q (z.1.symm.trans z.2)
      rw [if_neg e]
      have ne := nI_ne (by omega) (by omega) q
      simp -implicitDefEqProofs only [u_88_0, u_88_2, u_88_3, u_88_4, u_88_5, u_88_6, u_88_7, u_88_8, e_iload_n, e_iload, e_lload_n, e_lload, e_aload_n, e_aload, e_istore_n, e_istore, e_astore_n, e_astore, e_lstore_n, e_lstore, e_iinc, e_iconst, e_bipush, e_sipush, e_ldc_w, e_ldc, e_ldcS, e_lconst, e_ldc2_w, e_iadd, e_isub, e_imul, e_iand, e_ixor, e_ishl, e_ishr, e_iushr, e_idiv, e_irem, e_ineg, e_i2b, e_i2s, e_i2c, e_ladd, e_lsub, e_lmul, e_land, e_lor, e_ldiv, e_lrem, e_lneg, e_lshl, e_lshr, e_lushr, e_i2l, e_l2i, e_lcmp, e_dupI, e_dupA, e_dup2, e_getI, e_getA, e_putI, e_putZ, e_getstatic, e_iaload, e_iastore, e_aaload10, e_alen10, e_aaload11, e_alen11, e_aaload12, e_alen12, e_aaload13, e_alen13, e_alen, e_invokevirtual, e_invokevirtualB, e_invokestatic, e_invokestaticB, ct_0, ct_i, ct_a, ct_l, os_0, os_s, rc_0, rc_s, sl_0, sl_i, sl_a, sl_l, simprocAttr, ix, z_em, up_eq, up_j, Nat.le_refl, true_or, or_true, true_and, and_true, and_self, or_self, beq_self_eq_true, if_true, if_false, ite_self, ca_f, ca_t, aLen, Int32.lt_iff_toInt_lt, Int32.le_iff_toInt_le, z_ite, z_iten, z_ite1, ite_not, not_true_eq_false, not_false_eq_true, false_and, and_false, false_or, or_false, b_max, b_min, b_minL, b_absL, b_ixD, b_ixH, b_copy, tk_0, tk_s, dr_0, dr_s, pu_s, pu_n, ca_0, ca_1, clr_0, clr_s, e_nop, e_goto, e_if_eq, e_if_ne, e_if_lt, e_if_ge, e_if_gt, e_if_le, e_ic_eq, e_ic_ne, e_ic_lt, e_ic_ge, e_ic_gt, e_ic_le, e_tsw, e_lsw, sw_0, sw_s, e_iret, e_zret, e_lret, e_aret, e_ret, en_0, en_n, en_i, en_a, en_l, List.getElem?_cons_zero, List.getElem?_cons_succ, List.set_cons_zero, List.set_cons_succ, len_s, List.length_nil, ne_eq, x_within, x_in, eT1, eT2, eT3, eT4, eT5, eT6, eM1, eM2, eM3, eM4, eM5, eM6, Nat.one_mul, Nat.mul_one, Nat.zero_add, Int.lt_irrefl, hc, ne]
  | succ n ih =>
    intro k hk hj
    have hBT : B ≤ T ∧ B ≤ N := by rw [hB]; split <;> omega
    have nk : (nI k).toInt = k := nI_toInt (by omega)
    have ck : (nI k).toNatClampNeg = k := ix_nI (by omega)
    have nB : (nI B).toInt = B := nI_toInt (by omega)
    have h1 : ((k : Nat) : Int) < (B : Int) := by omega
    have h24 : ((k : Nat) : Int) < 24 := by omega
    have h4 : ((k : Nat) : Int) < 4 := by omega
    have h0 : (0 : Int) ≤ ((k : Nat) : Int) := by omega
    have w1 := hw k (by omega)
    have e1 := he k (by omega)
    by_cases q : wa k = en k
    · obtain ⟨m, m1, m2, m3, m4⟩ := ih (k + 1) (by omega) (fun j hj2 => by
        by_cases z : j = k
        · rw [z]; exact q
        · exact hj j (by omega))
      refine ⟨m, m1, m2, m3, ?_⟩
      rw [← m4, u_88_1]
      simp -implicitDefEqProofs only [u_88_0, u_88_2, u_88_3, u_88_4, u_88_5, u_88_6, u_88_7, u_88_8, e_iload_n, e_iload, e_lload_n, e_lload, e_aload_n, e_aload, e_istore_n, e_istore, e_astore_n, e_astore, e_lstore_n, e_lstore, e_iinc, e_iconst, e_bipush, e_sipush, e_ldc_w, e_ldc, e_ldcS, e_lconst, e_ldc2_w, e_iadd, e_isub, e_imul, e_iand, e_ixor, e_ishl, e_ishr, e_iushr, e_idiv, e_irem, e_ineg, e_i2b, e_i2s, e_i2c, e_ladd, e_lsub, e_lmul, e_land, e_lor, e_ldiv, e_lrem, e_lneg, e_lshl, e_lshr, e_lushr, e_i2l, e_l2i, e_lcmp, e_dupI, e_dupA, e_dup2, e_getI, e_getA, e_putI, e_putZ, e_getstatic, e_iaload, e_iastore, e_aaload10, e_alen10, e_aaload11, e_alen11, e_aaload12, e_alen12, e_aaload13, e_alen13, e_alen, e_invokevirtual, e_invokevirtualB, e_invokestatic, e_invokestaticB, ct_0, ct_i, ct_a, ct_l, os_0, os_s, rc_0, rc_s, sl_0, sl_i, sl_a, sl_l, simprocAttr, ix, z_em, up_eq, up_j, Nat.le_refl, true_or, or_true, true_and, and_true, and_self, or_self, beq_self_eq_true, if_true, if_false, ite_self, ca_f, ca_t, aLen, Int32.lt_iff_toInt_lt, Int32.le_iff_toInt_le, z_ite, z_iten, z_ite1, ite_not, not_true_eq_false, not_false_eq_true, false_and, and_false, false_or, or_false, b_max, b_min, b_minL, b_absL, b_ixD, b_ixH, b_copy, tk_0, tk_s, dr_0, dr_s, pu_s, pu_n, ca_0, ca_1, clr_0, clr_s, e_nop, e_goto, e_if_eq, e_if_ne, e_if_lt, e_if_ge, e_if_gt, e_if_le, e_ic_eq, e_ic_ne, e_ic_lt, e_ic_ge, e_ic_gt, e_ic_le, e_tsw, e_lsw, sw_0, sw_s, e_iret, e_zret, e_lret, e_aret, e_ret, en_0, en_n, en_i, en_a, en_l, List.getElem?_cons_zero, List.getElem?_cons_succ, List.set_cons_zero, List.set_cons_succ, len_s, List.length_nil, ne_eq, x_within, x_in, eT1, eT2, eT3, eT4, eT5, eT6, eM1, eM2, eM3, eM4, eM5, eM6, Nat.one_mul, Nat.mul_one, Nat.zero_add, nk, ck, nB, h1, h24, h4, h0, w1, e1, q, ← nI_succ]
    · refine ⟨k, by omega, hj, Or.inr q, ?_⟩
      rw [if_neg (by omega), u_88_1]
      simp -implicitDefEqProofs only [u_88_0, u_88_2, u_88_3, u_88_4, u_88_5, u_88_6, u_88_7, u_88_8, e_iload_n, e_iload, e_lload_n, e_lload, e_aload_n, e_aload, e_istore_n, e_istore, e_astore_n, e_astore, e_lstore_n, e_lstore, e_iinc, e_iconst, e_bipush, e_sipush, e_ldc_w, e_ldc, e_ldcS, e_lconst, e_ldc2_w, e_iadd, e_isub, e_imul, e_iand, e_ixor, e_ishl, e_ishr, e_iushr, e_idiv, e_irem, e_ineg, e_i2b, e_i2s, e_i2c, e_ladd, e_lsub, e_lmul, e_land, e_lor, e_ldiv, e_lrem, e_lneg, e_lshl, e_lshr, e_lushr, e_i2l, e_l2i, e_lcmp, e_dupI, e_dupA, e_dup2, e_getI, e_getA, e_putI, e_putZ, e_getstatic, e_iaload, e_iastore, e_aaload10, e_alen10, e_aaload11, e_alen11, e_aaload12, e_alen12, e_aaload13, e_alen13, e_alen, e_invokevirtual, e_invokevirtualB, e_invokestatic, e_invokestaticB, ct_0, ct_i, ct_a, ct_l, os_0, os_s, rc_0, rc_s, sl_0, sl_i, sl_a, sl_l, simprocAttr, ix, z_em, up_eq, up_j, Nat.le_refl, true_or, or_true, true_and, and_true, and_self, or_self, beq_self_eq_true, if_true, if_false, ite_self, ca_f, ca_t, aLen, Int32.lt_iff_toInt_lt, Int32.le_iff_toInt_le, z_ite, z_iten, z_ite1, ite_not, not_true_eq_false, not_false_eq_true, false_and, and_false, false_or, or_false, b_max, b_min, b_minL, b_absL, b_ixD, b_ixH, b_copy, tk_0, tk_s, dr_0, dr_s, pu_s, pu_n, ca_0, ca_1, clr_0, clr_s, e_nop, e_goto, e_if_eq, e_if_ne, e_if_lt, e_if_ge, e_if_gt, e_if_le, e_ic_eq, e_ic_ne, e_ic_lt, e_ic_ge, e_ic_gt, e_ic_le, e_tsw, e_lsw, sw_0, sw_s, e_iret, e_zret, e_lret, e_aret, e_ret, en_0, en_n, en_i, en_a, en_l, List.getElem?_cons_zero, List.getElem?_cons_succ, List.set_cons_zero, List.set_cons_succ, len_s, List.length_nil, ne_eq, x_within, x_in, eT1, eT2, eT3, eT4, eT5, eT6, eM1, eM2, eM3, eM4, eM5, eM6, Nat.one_mul, Nat.mul_one, Nat.zero_add, nk, ck, nB, h1, h24, h4, h0, w1, e1, q]
theorem k_check {d T N : Nat} {wa en : Nat → Int32} {μ : Mem} (hT : T ≤ 24) (hN : N ≤ 4) (hc : μ 113 0 = nI N) (hw : ∀ i, i < T → i < N → μ 113 (480 + i) = wa i) (he : ∀ i, i < 4 → i < N → vM 113 μ (1 + i) 7 = en i) : ∀ n k (x : Option AV), k + n = (if T < N then T else N) → (∀ j, j < k → wa j = en j) → ∃ m, m ≤ (if T < N then T else N) ∧ (∀ j, j < m → wa j = en j) ∧ (m = (if T < N then T else N) ∨ wa m ≠ en m) ∧ res d 193 1 [some (vR 8 112), some (vI (nI T)), some (vI (nI k)), x] [] μ = some (some (vI (if m = T ∧ m = N then 0 else 1 + nI m)), cpR μ 115 113 504) := by
  have hcar : cl d 108 [Sum.inr (Sum.inr (604, 115)), Sum.inr (Sum.inr (604, 113))] μ = _ := y_carry (by decide)
  have nT : (nI T).toInt = T := nI_toInt (by omega)
  have nN : (nI N).toInt = N := nI_toInt (by omega)
  intro n
  induction n with
  | zero =>
    intro k x hk hj
    have hB : k ≤ T ∧ k ≤ N ∧ (k = T ∨ k = N) := by
      have : k = if T < N then T else N := by omega
      rw [this]
      split <;> omega
    refine ⟨k, by omega, hj, Or.inl (by omega), ?_⟩
    have nk : (nI k).toInt = k := nI_toInt (by omega)
    have h0 : (0 : Int) ≤ ((k : Nat) : Int) := by omega
    have hi : cl d 109 [Sum.inr (Sum.inr (8, 112)), vI (nI k)] μ = some (some (vI (if 0 ≤ (nI k).toInt ∧ (nI k).toInt ≤ (nI N - 1).toInt then 1 else 0)), μ) := by
      rw [← hc]
      exact x_isWorker
    have el := le_m1 (a := nI N) (z := (k : Int)) (by rw [nN]; omega)
    rw [nN] at el
    simp only [nk, el] at hi
    rw [u_193_1]
    by_cases kT : k = T
    · subst kT
      by_cases q : k = N
      · subst q
        rw [if_pos ⟨rfl, rfl⟩]
        simp -implicitDefEqProofs only [u_193_0, u_193_2, u_193_3, u_193_4, u_193_5, u_193_6, u_193_7, u_193_8, u_193_9, e_iload_n, e_iload, e_lload_n, e_lload, e_aload_n, e_aload, e_istore_n, e_istore, e_astore_n, e_astore, e_lstore_n, e_lstore, e_iinc, e_iconst, e_bipush, e_sipush, e_ldc_w, e_ldc, e_ldcS, e_lconst, e_ldc2_w, e_iadd, e_isub, e_imul, e_iand, e_ixor, e_ishl, e_ishr, e_iushr, e_idiv, e_irem, e_ineg, e_i2b, e_i2s, e_i2c, e_ladd, e_lsub, e_lmul, e_land, e_lor, e_ldiv, e_lrem, e_lneg, e_lshl, e_lshr, e_lushr, e_i2l, e_l2i, e_lcmp, e_dupI, e_dupA, e_dup2, e_getI, e_getA, e_putI, e_putZ, e_getstatic, e_iaload, e_iastore, e_aaload10, e_alen10, e_aaload11, e_alen11, e_aaload12, e_alen12, e_aaload13, e_alen13, e_alen, e_invokevirtual, e_invokevirtualB, e_invokestatic, e_invokestaticB, ct_0, ct_i, ct_a, ct_l, os_0, os_s, rc_0, rc_s, sl_0, sl_i, sl_a, sl_l, simprocAttr, ix, z_em, up_eq, up_j, Nat.le_refl, true_or, or_true, true_and, and_true, and_self, or_self, beq_self_eq_true, if_true, if_false, ite_self, ca_f, ca_t, aLen, Int32.lt_iff_toInt_lt, Int32.le_iff_toInt_le, z_ite, z_iten, z_ite1, ite_not, not_true_eq_false, not_false_eq_true, false_and, and_false, false_or, or_false, b_max, b_min, b_minL, b_absL, b_ixD, b_ixH, b_copy, tk_0, tk_s, dr_0, dr_s, pu_s, pu_n, ca_0, ca_1, clr_0, clr_s, e_nop, e_goto, e_if_eq, e_if_ne, e_if_lt, e_if_ge, e_if_gt, e_if_le, e_ic_eq, e_ic_ne, e_ic_lt, e_ic_ge, e_ic_gt, e_ic_le, e_tsw, e_lsw, sw_0, sw_s, e_iret, e_zret, e_lret, e_aret, e_ret, en_0, en_n, en_i, en_a, en_l, List.getElem?_cons_zero, List.getElem?_cons_succ, List.set_cons_zero, List.set_cons_succ, len_s, List.length_nil, ne_eq, x_within, x_in, eT1, eT2, eT3, eT4, eT5, eT6, eM1, eM2, eM3, eM4, eM5, eM6, Nat.one_mul, Nat.mul_one, Nat.zero_add, Int.lt_irrefl, hc, hcar]
      · rw [if_neg (fun z => q z.2)]
        have ne := nI_ne (by omega) (by omega) q
        simp -implicitDefEqProofs only [u_193_0, u_193_2, u_193_3, u_193_4, u_193_5, u_193_6, u_193_7, u_193_8, u_193_9, e_iload_n, e_iload, e_lload_n, e_lload, e_aload_n, e_aload, e_istore_n, e_istore, e_astore_n, e_astore, e_lstore_n, e_lstore, e_iinc, e_iconst, e_bipush, e_sipush, e_ldc_w, e_ldc, e_ldcS, e_lconst, e_ldc2_w, e_iadd, e_isub, e_imul, e_iand, e_ixor, e_ishl, e_ishr, e_iushr, e_idiv, e_irem, e_ineg, e_i2b, e_i2s, e_i2c, e_ladd, e_lsub, e_lmul, e_land, e_lor, e_ldiv, e_lrem, e_lneg, e_lshl, e_lshr, e_lushr, e_i2l, e_l2i, e_lcmp, e_dupI, e_dupA, e_dup2, e_getI, e_getA, e_putI, e_putZ, e_getstatic, e_iaload, e_iastore, e_aaload10, e_alen10, e_aaload11, e_alen11, e_aaload12, e_alen12, e_aaload13, e_alen13, e_alen, e_invokevirtual, e_invokevirtualB, e_invokestatic, e_invokestaticB, ct_0, ct_i, ct_a, ct_l, os_0, os_s, rc_0, rc_s, sl_0, sl_i, sl_a, sl_l, simprocAttr, ix, z_em, up_eq, up_j, Nat.le_refl, true_or, or_true, true_and, and_true, and_self, or_self, beq_self_eq_true, if_true, if_false, ite_self, ca_f, ca_t, aLen, Int32.lt_iff_toInt_lt, Int32.le_iff_toInt_le, z_ite, z_iten, z_ite1, ite_not, not_true_eq_false, not_false_eq_true, false_and, and_false, false_or, or_false, b_max, b_min, b_minL, b_absL, b_ixD, b_ixH, b_copy, tk_0, tk_s, dr_0, dr_s, pu_s, pu_n, ca_0, ca_1, clr_0, clr_s, e_nop, e_goto, e_if_eq, e_if_ne, e_if_lt, e_if_ge, e_if_gt, e_if_le, e_ic_eq, e_ic_ne, e_ic_lt, e_ic_ge, e_ic_gt, e_ic_le, e_tsw, e_lsw, sw_0, sw_s, e_iret, e_zret, e_lret, e_aret, e_ret, en_0, en_n, en_i, en_a, en_l, List.getElem?_cons_zero, List.getElem?_cons_succ, List.set_cons_zero, List.set_cons_succ, len_s, List.length_nil, ne_eq, x_within, x_in, eT1, eT2, eT3, eT4, eT5, eT6, eM1, eM2, eM3, eM4, eM5, eM6, Nat.one_mul, Nat.mul_one, Nat.zero_add, Int.lt_irrefl, hc, hcar, ne]
    · have kN : k = N := by omega
      subst kN
      have h1 : ((k : Nat) : Int) < (T : Int) := by omega
      rw [if_neg (fun z => kT z.1)]
      rw [if_neg (by omega)] at hi
      have ne := nI_ne (by omega) (by omega) kT
      simp -implicitDefEqProofs only [u_193_0, u_193_2, u_193_3, u_193_4, u_193_5, u_193_6, u_193_7, u_193_8, u_193_9, e_iload_n, e_iload, e_lload_n, e_lload, e_aload_n, e_aload, e_istore_n, e_istore, e_astore_n, e_astore, e_lstore_n, e_lstore, e_iinc, e_iconst, e_bipush, e_sipush, e_ldc_w, e_ldc, e_ldcS, e_lconst, e_ldc2_w, e_iadd, e_isub, e_imul, e_iand, e_ixor, e_ishl, e_ishr, e_iushr, e_idiv, e_irem, e_ineg, e_i2b, e_i2s, e_i2c, e_ladd, e_lsub, e_lmul, e_land, e_lor, e_ldiv, e_lrem, e_lneg, e_lshl, e_lshr, e_lushr, e_i2l, e_l2i, e_lcmp, e_dupI, e_dupA, e_dup2, e_getI, e_getA, e_putI, e_putZ, e_getstatic, e_iaload, e_iastore, e_aaload10, e_alen10, e_aaload11, e_alen11, e_aaload12, e_alen12, e_aaload13, e_alen13, e_alen, e_invokevirtual, e_invokevirtualB, e_invokestatic, e_invokestaticB, ct_0, ct_i, ct_a, ct_l, os_0, os_s, rc_0, rc_s, sl_0, sl_i, sl_a, sl_l, simprocAttr, ix, z_em, up_eq, up_j, Nat.le_refl, true_or, or_true, true_and, and_true, and_self, or_self, beq_self_eq_true, if_true, if_false, ite_self, ca_f, ca_t, aLen, Int32.lt_iff_toInt_lt, Int32.le_iff_toInt_le, z_ite, z_iten, z_ite1, ite_not, not_true_eq_false, not_false_eq_true, false_and, and_false, false_or, or_false, b_max, b_min, b_minL, b_absL, b_ixD, b_ixH, b_copy, tk_0, tk_s, dr_0, dr_s, pu_s, pu_n, ca_0, ca_1, clr_0, clr_s, e_nop, e_goto, e_if_eq, e_if_ne, e_if_lt, e_if_ge, e_if_gt, e_if_le, e_ic_eq, e_ic_ne, e_ic_lt, e_ic_ge, e_ic_gt, e_ic_le, e_tsw, e_lsw, sw_0, sw_s, e_iret, e_zret, e_lret, e_aret, e_ret, en_0, en_n, en_i, en_a, en_l, List.getElem?_cons_zero, List.getElem?_cons_succ, List.set_cons_zero, List.set_cons_succ, len_s, List.length_nil, ne_eq, x_within, x_in, eT1, eT2, eT3, eT4, eT5, eT6, eM1, eM2, eM3, eM4, eM5, eM6, Nat.one_mul, Nat.mul_one, Nat.zero_add, nk, nT, h1, hi, hc, hcar, ne]
  | succ n ih =>
    intro k x hk hj
    have hB : k < T ∧ k < N := by
      have : k < if T < N then T else N := by omega
      split at this <;> omega
    have nk : (nI k).toInt = k := nI_toInt (by omega)
    have h1 : ((k : Nat) : Int) < (T : Int) := by omega
    have h2 : ((k : Nat) : Int) < (N : Int) := by omega
    have h0 : (0 : Int) ≤ ((k : Nat) : Int) := by omega
    have hi : cl d 109 [Sum.inr (Sum.inr (8, 112)), vI (nI k)] μ = some (some (vI (if 0 ≤ (nI k).toInt ∧ (nI k).toInt ≤ (nI N - 1).toInt then 1 else 0)), μ) := by
      rw [← hc]
      exact x_isWorker
    have el := le_m1 (a := nI N) (z := (k : Int)) (by rw [nN]; omega)
    rw [nN] at el
    simp only [nk, el] at hi
    rw [if_pos ⟨h0, h2⟩] at hi
    have ew : 480 + nI k = nI (480 + k) := by
      show nI 480 + nI k = _
      exact nIa (by omega)
    have iw : (nI (480 + k)).toInt = (480 + k : Nat) := nI_toInt (by omega)
    have cw : (nI (480 + k)).toNatClampNeg = 480 + k := ix_nI (by omega)
    have bw : (0 : Int) ≤ ((480 + k : Nat) : Int) ∧ ((480 + k : Nat) : Int) < 504 := by omega
    have w1 := hw k hB.1 hB.2
    have e1 := yi7 (d := d) (μ := μ) (w := k) (by omega)
    rw [he k (by omega) hB.2] at e1
    have e1' : cl d 111 [Sum.inr (Sum.inr (8, 112)), vI (nI k), vI 7] μ = _ := e1
    by_cases q : wa k = en k
    · obtain ⟨m, m1, m2, m3, m4⟩ := ih (k + 1) x (by omega) (fun j hj2 => by
        by_cases z : j = k
        · rw [z]; exact q
        · exact hj j (by omega))
      refine ⟨m, m1, m2, m3, ?_⟩
      rw [← m4, u_193_1]
      simp -implicitDefEqProofs only [u_193_0, u_193_2, u_193_3, u_193_4, u_193_5, u_193_6, u_193_7, u_193_8, u_193_9, e_iload_n, e_iload, e_lload_n, e_lload, e_aload_n, e_aload, e_istore_n, e_istore, e_astore_n, e_astore, e_lstore_n, e_lstore, e_iinc, e_iconst, e_bipush, e_sipush, e_ldc_w, e_ldc, e_ldcS, e_lconst, e_ldc2_w, e_iadd, e_isub, e_imul, e_iand, e_ixor, e_ishl, e_ishr, e_iushr, e_idiv, e_irem, e_ineg, e_i2b, e_i2s, e_i2c, e_ladd, e_lsub, e_lmul, e_land, e_lor, e_ldiv, e_lrem, e_lneg, e_lshl, e_lshr, e_lushr, e_i2l, e_l2i, e_lcmp, e_dupI, e_dupA, e_dup2, e_getI, e_getA, e_putI, e_putZ, e_getstatic, e_iaload, e_iastore, e_aaload10, e_alen10, e_aaload11, e_alen11, e_aaload12, e_alen12, e_aaload13, e_alen13, e_alen, e_invokevirtual, e_invokevirtualB, e_invokestatic, e_invokestaticB, ct_0, ct_i, ct_a, ct_l, os_0, os_s, rc_0, rc_s, sl_0, sl_i, sl_a, sl_l, simprocAttr, ix, z_em, up_eq, up_j, Nat.le_refl, true_or, or_true, true_and, and_true, and_self, or_self, beq_self_eq_true, if_true, if_false, ite_self, ca_f, ca_t, aLen, Int32.lt_iff_toInt_lt, Int32.le_iff_toInt_le, z_ite, z_iten, z_ite1, ite_not, not_true_eq_false, not_false_eq_true, false_and, and_false, false_or, or_false, b_max, b_min, b_minL, b_absL, b_ixD, b_ixH, b_copy, tk_0, tk_s, dr_0, dr_s, pu_s, pu_n, ca_0, ca_1, clr_0, clr_s, e_nop, e_goto, e_if_eq, e_if_ne, e_if_lt, e_if_ge, e_if_gt, e_if_le, e_ic_eq, e_ic_ne, e_ic_lt, e_ic_ge, e_ic_gt, e_ic_le, e_tsw, e_lsw, sw_0, sw_s, e_iret, e_zret, e_lret, e_aret, e_ret, en_0, en_n, en_i, en_a, en_l, List.getElem?_cons_zero, List.getElem?_cons_succ, List.set_cons_zero, List.set_cons_succ, len_s, List.length_nil, ne_eq, x_within, x_in, eT1, eT2, eT3, eT4, eT5, eT6, eM1, eM2, eM3, eM4, eM5, eM6, Nat.one_mul, Nat.mul_one, Nat.zero_add, nk, nT, h1, hi, ew, iw, cw, if_pos bw, w1, e1', q, ← nI_succ]
    · refine ⟨k, by omega, hj, Or.inr q, ?_⟩
      rw [if_neg (by omega), u_193_1]
      have ne := nI_ne (by omega) (by omega) (show k ≠ T by omega)
      simp -implicitDefEqProofs only [u_193_0, u_193_2, u_193_3, u_193_4, u_193_5, u_193_6, u_193_7, u_193_8, u_193_9, e_iload_n, e_iload, e_lload_n, e_lload, e_aload_n, e_aload, e_istore_n, e_istore, e_astore_n, e_astore, e_lstore_n, e_lstore, e_iinc, e_iconst, e_bipush, e_sipush, e_ldc_w, e_ldc, e_ldcS, e_lconst, e_ldc2_w, e_iadd, e_isub, e_imul, e_iand, e_ixor, e_ishl, e_ishr, e_iushr, e_idiv, e_irem, e_ineg, e_i2b, e_i2s, e_i2c, e_ladd, e_lsub, e_lmul, e_land, e_lor, e_ldiv, e_lrem, e_lneg, e_lshl, e_lshr, e_lushr, e_i2l, e_l2i, e_lcmp, e_dupI, e_dupA, e_dup2, e_getI, e_getA, e_putI, e_putZ, e_getstatic, e_iaload, e_iastore, e_aaload10, e_alen10, e_aaload11, e_alen11, e_aaload12, e_alen12, e_aaload13, e_alen13, e_alen, e_invokevirtual, e_invokevirtualB, e_invokestatic, e_invokestaticB, ct_0, ct_i, ct_a, ct_l, os_0, os_s, rc_0, rc_s, sl_0, sl_i, sl_a, sl_l, simprocAttr, ix, z_em, up_eq, up_j, Nat.le_refl, true_or, or_true, true_and, and_true, and_self, or_self, beq_self_eq_true, if_true, if_false, ite_self, ca_f, ca_t, aLen, Int32.lt_iff_toInt_lt, Int32.le_iff_toInt_le, z_ite, z_iten, z_ite1, ite_not, not_true_eq_false, not_false_eq_true, false_and, and_false, false_or, or_false, b_max, b_min, b_minL, b_absL, b_ixD, b_ixH, b_copy, tk_0, tk_s, dr_0, dr_s, pu_s, pu_n, ca_0, ca_1, clr_0, clr_s, e_nop, e_goto, e_if_eq, e_if_ne, e_if_lt, e_if_ge, e_if_gt, e_if_le, e_ic_eq, e_ic_ne, e_ic_lt, e_ic_ge, e_ic_gt, e_ic_le, e_tsw, e_lsw, sw_0, sw_s, e_iret, e_zret, e_lret, e_aret, e_ret, en_0, en_n, en_i, en_a, en_l, List.getElem?_cons_zero, List.getElem?_cons_succ, List.set_cons_zero, List.set_cons_succ, len_s, List.length_nil, ne_eq, x_within, x_in, eT1, eT2, eT3, eT4, eT5, eT6, eM1, eM2, eM3, eM4, eM5, eM6, Nat.one_mul, Nat.mul_one, Nat.zero_add, nk, nT, h1, hi, ew, iw, cw, if_pos bw, w1, e1', q, hc, hcar, ne]
theorem times_un {tx : TX} {V : Mem} {o k : Nat} (hW : WFV V) (ho : 18 ≤ o) : ∀ n : Nat, (V 0 2).toInt + n ≤ 15001 → timesP (minP (mn 99999) tx (-1)) n V o k = V o k := by
  intro n
  induction n with
  | zero => exact fun _ => rfl
  | succ n ih =>
    intro hn
    obtain ⟨a1, a2, a3⟩ := tm_keep (tx := tx) (only := -1) hW n (by omega)
    exact (min_un a1 (by omega)).trans (ih (by omega))
theorem p_check {fz : Mem} {d : Nat} {μ : Mem} (h : RR fz μ) : PR fz d 88 193 [] μ := by
  have g0 := gs0 h.1.1.1
  have g7 := gs7 h.1.1.1
  have gm9 := h.1.2.2.1
  obtain ⟨N, hN, eN⟩ := nIof (v := vC 1 μ 0 0) (n := 5) g0.1 (by omega)
  obtain ⟨T, hT, eT⟩ := nIof (v := vC 1 μ 0 7) (n := 25) g7.1 (by omega)
  have nN : (nI N).toInt = N := nI_toInt (by omega)
  have nT : (nI T).toInt = T := nI_toInt (by omega)
  have hRz := h.z7
  have va : vC 1 (up μ 1 8 0) = up (vC 1 μ) 0 7 0 := us7
  have f33 : vC 33 (up μ 1 8 0) = vC 33 μ := vC_un (by omega)
  have fL : ∀ o, 27 ≤ o → up μ 1 8 0 o = μ o := fun o p => up_ne (by omega)
  have hLa : LW 1 (up μ 1 8 0) := fun u hu => by rw [fL _ (by omega)]; exact h.1.2.2.2.2.lw u hu
  have h3a : told3 1 (up μ 1 8 0) := fun u hu => by rw [fL _ (by omega)]; exact h.1.2.2.2.2.told u hu
  have hta : ∀ u, u < 2 → txC 1 (up μ 1 8 0) u = txM μ u := fun u hu => by
    rw [← h.1.2.2.2.2.tx u hu]
    funext a1 a2 a3 a4
    unfold txC
    rw [fL _ (by omega), fL _ (by omega)]
  obtain ⟨μ1, a1, a6, a7, a8, a9, a10, a11⟩ := x_trialG (d := d) (μ := up μ 1 8 0) (V' := up (vM 113 μ) 0 7 0) (tx' := txM μ) (by rw [va]; exact wf_z7 h.1.1.1) (by rw [f33]; exact h.2.2.2.1) hLa h3a (by rw [va]; exact h.1.2.2.2.1.z7) hta
  have m2 : vC 33 μ1 0 2 = vC 1 μ 0 2 := by rw [a11 2 (by decide), va, up_j (by decide)]
  obtain ⟨μ2, b1, b2, b3⟩ := x_goAhead (d := d) (b := 33) (n := 600) (only := -1) (μ := μ1) a9 a10 (by decide) (by rw [m2]; show _ + 600 ≤ (15001 : Int); omega)
  have b1' : cl d 48 [Sum.inr (Sum.inr (6, 33)), vI 600, vI (-1)] μ1 = _ := b1
  have wk := (tm_keep (tx := txC 33 μ1) (only := -1) a10 (600 : Int32).toNatClampNeg (by rw [m2]; show _ + 600 ≤ (15001 : Int); omega)).1
  obtain ⟨t1, t2⟩ := tm_eqA (n := (600 : Int32).toNatClampNeg) a7 a10 (wf_z7 h.1.1.2) (by rw [m2]; show _ + 600 ≤ (15001 : Int); omega) a8
  have k2 : ∀ o, (o < 33 ∨ 65 ≤ o) → μ2 o = up μ 1 8 0 o := fun o p => by rw [b3 o (by omega) (by omega) (by omega), a6 o p]
  have hB : ∃ B, B = if T < N then T else N := ⟨_, rfl⟩
  obtain ⟨B, hB⟩ := hB
  have hBT : B ≤ T ∧ B ≤ N := by rw [hB]; split <;> omega
  have c5 : μ2 1 5 = nI N := by rw [k2 1 (by omega), up_j (by decide)]; exact cs0.trans eN
  obtain ⟨m, m1, m2', m3, m4⟩ := l_check (d := d) (T := T) (N := N) (B := B) (wa := fun i => vC 1 μ 21 i) (en := fun i => vC 33 μ2 (1 + i) 7) (μ := μ2) (by omega) (by omega) hB c5 (fun i hi => by rw [k2 6 (by omega), up_ne (by decide)]; exact cq (b := 1) (by omega)) (fun i hi => cw7 (b := 33) (by omega)) B 0 (by omega) (fun j hj => by omega)
  -- the model
  have e13 : μ2 113 = μ 113 := by rw [k2 113 (by omega), up_ne (by decide)]
  have mz : vM 113 (up μ2 113 7 0) = up (vM 113 μ) 0 7 0 := by rw [ums7, vM_congr e13]
  have fz7 : FrM μ2 (up μ2 113 7 0) := FrM.rf.up (by omega)
  have tz : txM (up μ2 113 7 0) = txM μ := by rw [fz7.tx, txM_congr e13]
  obtain ⟨μ3, μ4, x1, x2, x3, x4, x5⟩ := y_look (d := d) (n := 600) (μ := up μ2 113 7 0) (fz7.lw (LWM_congr e13 h.1.2.2.2.2.lwm)) (by rw [mz]; exact wf_z7 h.1.1.2) (by rw [mz]; exact wd_up h.1.2.1.2 (by omega)) (by decide) (by rw [mz, up_j (by decide), h.e0 (by decide)]; show _ + 600 ≤ (15001 : Int); omega)
  rw [mz, tz] at x3
  have hm0 : (up (vM 113 μ) 0 7 0 0 2).toInt + ((600 : Int32).toNatClampNeg : Nat) ≤ 15001 := by rw [up_j (by decide), h.e0 (by decide)]; show _ + 600 ≤ (15001 : Int); omega
  obtain ⟨w1, w2, w3⟩ := tm_keep (tx := txM μ) (only := -1) (wf_z7 h.1.1.2) (600 : Int32).toNatClampNeg hm0
  have c0 : μ4 113 0 = nI N := by rw [ms0 (m := 113) (μ := μ4), x3, w3 0 (by decide) (by decide), up_j (by decide), h.e0 (by decide), eN]
  obtain ⟨m', n1, n2, n3, n4⟩ := k_check (d := d) (T := T) (N := N) (wa := fun i => vC 1 μ 21 i) (en := fun i => vC 33 μ2 (1 + i) 7) (μ := μ4) (by omega) (by omega) c0 (fun i h1 h2 => by
    rw [mq (m := 113) (μ := μ4) (show i < 24 by omega), x3, times_un (wf_z7 h.1.1.2) (by omega) _ hm0, up_o (by decide)]
    exact h.1.2.2.2.1.2.2.2.2 i (by omega) (by rw [eT, nT]; omega)) (fun i h1 h2 => by
    rw [x3, b2]
    exact t2 i h1 (by rw [a11 0 (by decide), va, up_j (by decide), eN, nN]; omega) 7 (by decide)) B 0 none (by omega) (fun j hj => by omega)
  have em : m' = m := by
    rcases Nat.lt_trichotomy m' m with q | q | q
    · rcases n3 with z | z
      · omega
      · exact absurd (m2' m' q) z
    · exact q
    · rcases m3 with z | z
      · omega
      · exact absurd (n2 m q) z
  subst em
  have z0 : (vI (nI 0) : AV) = vI 0 := rfl
  rw [z0] at m4 n4
  refine ⟨(if m' = T ∧ m' = N then 0 else 1 + nI m'), μ2, cpR μ4 115 113 504, (by rw [k2 202 (by omega), up_ne (by decide)]; exact h.u2), ?_, ?_, ?_⟩
  · rw [← m4]
    have e8 : μ 1 8 = nI T := cs7.trans eT
    have c51 : μ2 1 5 = nI N := c5
    have hmn : (if (N : Int) < (T : Int) then nI N else nI T) = nI B := by
      rw [hB]
      by_cases q : T < N
      · rw [if_pos q, if_neg (by omega)]
      · rw [if_neg q]
        by_cases q2 : N < T
        · rw [if_pos (by omega)]
        · rw [if_neg (by omega), show T = N by omega]
    simp -implicitDefEqProofs only [cl_88, u_88_0, u_88_2, u_88_3, u_88_4, u_88_5, u_88_6, u_88_7, u_88_8, e_iload_n, e_iload, e_lload_n, e_lload, e_aload_n, e_aload, e_istore_n, e_istore, e_astore_n, e_astore, e_lstore_n, e_lstore, e_iinc, e_iconst, e_bipush, e_sipush, e_ldc_w, e_ldc, e_ldcS, e_lconst, e_ldc2_w, e_iadd, e_isub, e_imul, e_iand, e_ixor, e_ishl, e_ishr, e_iushr, e_idiv, e_irem, e_ineg, e_i2b, e_i2s, e_i2c, e_ladd, e_lsub, e_lmul, e_land, e_lor, e_ldiv, e_lrem, e_lneg, e_lshl, e_lshr, e_lushr, e_i2l, e_l2i, e_lcmp, e_dupI, e_dupA, e_dup2, e_getI, e_getA, e_putI, e_putZ, e_getstatic, e_iaload, e_iastore, e_aaload10, e_alen10, e_aaload11, e_alen11, e_aaload12, e_alen12, e_aaload13, e_alen13, e_alen, e_invokevirtual, e_invokevirtualB, e_invokestatic, e_invokestaticB, ct_0, ct_i, ct_a, ct_l, os_0, os_s, rc_0, rc_s, sl_0, sl_i, sl_a, sl_l, simprocAttr, ix, z_em, up_eq, up_j, Nat.le_refl, true_or, or_true, true_and, and_true, and_self, or_self, beq_self_eq_true, if_true, if_false, ite_self, ca_f, ca_t, aLen, Int32.lt_iff_toInt_lt, Int32.le_iff_toInt_le, z_ite, z_iten, z_ite1, ite_not, not_true_eq_false, not_false_eq_true, false_and, and_false, false_or, or_false, b_max, b_min, b_minL, b_absL, b_ixD, b_ixH, b_copy, tk_0, tk_s, dr_0, dr_s, pu_s, pu_n, ca_0, ca_1, clr_0, clr_s, e_nop, e_goto, e_if_eq, e_if_ne, e_if_lt, e_if_ge, e_if_gt, e_if_le, e_ic_eq, e_ic_ne, e_ic_lt, e_ic_ge, e_ic_gt, e_ic_le, e_tsw, e_lsw, sw_0, sw_s, e_iret, e_zret, e_lret, e_aret, e_ret, en_0, en_n, en_i, en_a, en_l, List.getElem?_cons_zero, List.getElem?_cons_succ, List.set_cons_zero, List.set_cons_succ, len_s, List.length_nil, ne_eq, x_within, x_in, eT1, eT2, eT3, eT4, eT5, eT6, eM1, eM2, eM3, eM4, eM5, eM6, Nat.one_mul, Nat.mul_one, Nat.zero_add, e8, a1, b1', c51, nT, nN, hmn]
  · have e7 : μ2 113 7 = nI T := by rw [e13, ms7 (m := 113) (μ := μ), h.e0 (by decide), eT]
    rw [← n4]
    simp -implicitDefEqProofs only [cl_193, u_193_0, u_193_2, u_193_3, u_193_4, u_193_5, u_193_6, u_193_7, u_193_8, u_193_9, e_iload_n, e_iload, e_lload_n, e_lload, e_aload_n, e_aload, e_istore_n, e_istore, e_astore_n, e_astore, e_lstore_n, e_lstore, e_iinc, e_iconst, e_bipush, e_sipush, e_ldc_w, e_ldc, e_ldcS, e_lconst, e_ldc2_w, e_iadd, e_isub, e_imul, e_iand, e_ixor, e_ishl, e_ishr, e_iushr, e_idiv, e_irem, e_ineg, e_i2b, e_i2s, e_i2c, e_ladd, e_lsub, e_lmul, e_land, e_lor, e_ldiv, e_lrem, e_lneg, e_lshl, e_lshr, e_lushr, e_i2l, e_l2i, e_lcmp, e_dupI, e_dupA, e_dup2, e_getI, e_getA, e_putI, e_putZ, e_getstatic, e_iaload, e_iastore, e_aaload10, e_alen10, e_aaload11, e_alen11, e_aaload12, e_alen12, e_aaload13, e_alen13, e_alen, e_invokevirtual, e_invokevirtualB, e_invokestatic, e_invokestaticB, ct_0, ct_i, ct_a, ct_l, os_0, os_s, rc_0, rc_s, sl_0, sl_i, sl_a, sl_l, simprocAttr, ix, z_em, up_eq, up_j, Nat.le_refl, true_or, or_true, true_and, and_true, and_self, or_self, beq_self_eq_true, if_true, if_false, ite_self, ca_f, ca_t, aLen, Int32.lt_iff_toInt_lt, Int32.le_iff_toInt_le, z_ite, z_iten, z_ite1, ite_not, not_true_eq_false, not_false_eq_true, false_and, and_false, false_or, or_false, b_max, b_min, b_minL, b_absL, b_ixD, b_ixH, b_copy, tk_0, tk_s, dr_0, dr_s, pu_s, pu_n, ca_0, ca_1, clr_0, clr_s, e_nop, e_goto, e_if_eq, e_if_ne, e_if_lt, e_if_ge, e_if_gt, e_if_le, e_ic_eq, e_ic_ne, e_ic_lt, e_ic_ge, e_ic_gt, e_ic_le, e_tsw, e_lsw, sw_0, sw_s, e_iret, e_zret, e_lret, e_aret, e_ret, en_0, en_n, en_i, en_a, en_l, List.getElem?_cons_zero, List.getElem?_cons_succ, List.set_cons_zero, List.set_cons_succ, len_s, List.length_nil, ne_eq, x_within, x_in, eT1, eT2, eT3, eT4, eT5, eT6, eM1, eM2, eM3, eM4, eM5, eM6, Nat.one_mul, Nat.mul_one, Nat.zero_add, e7, x1, x2]
  · have g : ∀ o, (o < 33 ∨ 65 ≤ o) → o ≠ 115 → o ≠ 118 → o ≠ 119 → cpR μ4 115 113 504 o = up (up μ 1 8 0) 113 7 0 o := fun o p p1 p2 p3 => by
      rw [x5 o p1 p2 p3]
      by_cases q : o = 113
      · subst q
        funext c
        by_cases q7 : c = 7
        · rw [q7, up_eq, up_eq]
        · rw [up_j q7, up_j q7, up_o (by decide), e13]
      · rw [up_ne q, up_ne q, k2 o p]
    refine hRz.cg (fun o p1 p2 p3 => g o (by unfold junk at p1; omega) (by unfold junk at p1; omega) (by unfold junk at p1; omega) (by unfold junk at p1; omega)) (by rw [g 100 (by omega) (by omega) (by omega) (by omega)]) (by rw [g 112 (by omega) (by omega) (by omega) (by omega)]) (by rw [g 112 (by omega) (by omega) (by omega) (by omega)]) ?_
    have v : vC 33 (cpR μ4 115 113 504) = vC 33 μ2 := vC_congr fun o p1 p2 => by rw [x5 o (by omega) (by omega) (by omega), up_ne (by omega)]
    rw [v, b2]
    exact wk
