/-! PAIRS OF CALLS: image, restore, check, cost, heap. -/
theorem RWL.cp {b c m m' : Nat} {μ μ' : Mem} (h : RWL c m μ) (h2 : ∀ u, u < 2 → μ' (b + 26 + 3 * u) 2 = μ (c + 26 + 3 * u) 2 ∧ μ' (b + 26 + 3 * u) 3 = μ (c + 26 + 3 * u) 3 ∧ ∀ i, i < (μ (c + 26 + 3 * u) 2).toNatClampNeg → μ' (b + 27 + 3 * u) i = μ (c + 27 + 3 * u) i) (hm : ∀ k, k < 504 → μ' m' k = μ m k) : RWL b m' μ' := fun u hu => by
  obtain ⟨c1, c2, c3⟩ := h2 u hu
  have q := h u hu
  have e3 : μ' m' (170 + 125 * u) = μ m (170 + 125 * u) := hm _ (by omega)
  rw [c1, c2, e3]
  refine ⟨q.1, q.2.imp id (fun z => ?_)⟩
  obtain ⟨z1, z2, z3, z4, z5, z6⟩ := z
  have hz : (μ m (170 + 125 * u)).toNatClampNeg ≤ 60 := by
    have q1 := q.1.2
    rw [z2] at q1
    have e : (μ m (170 + 125 * u)).toNatClampNeg = (μ m (170 + 125 * u)).toInt.toNat := rfl
    omega
  have hc : ∀ i, i < (μ m (170 + 125 * u)).toNatClampNeg → codeM (μ' m') u i = codeM (μ m) u i := fun i hi => by
    unfold codeM
    rw [hm _ (by omega), hm _ (by omega)]
  refine ⟨z1, z2, z3, fun i hi => by rw [hc i hi, c3 i (by rw [z2]; exact hi)]; exact z4 i hi, fun k hk2 => ?_, by rw [runP_cg _ hc]; exact z6⟩
  have w := z5 k hk2
  rw [hm (170 + 125 * u + 1 + 2 * k) (by omega), hm (170 + 125 * u + 2 + 2 * k) (by omega), runP_cg k (fun i hi => hc i (by omega))]
  exact w
/-- the pair of worlds c, m copied to b, m' -/
theorem RW.cp {b c m m' : Nat} {μ μ' : Mem} (h : RW c m μ) (hS : SW b c μ μ') (hW : WFV (vC b μ')) (hQ : ∀ r, r < 8 → (∀ k, k < 8 → vC b μ' (10 + r) k = vC c μ (10 + r) k) ∨ (vC b μ' (10 + r) 3).toInt ≤ (vC b μ' (10 + r) 7).toInt) (hm : ∀ k, k < 504 → μ' m' k = μ m k) : RW b m' μ' := by
  obtain ⟨⟨a1, a2⟩, ⟨b1, b2⟩, c1, e1, l1⟩ := h
  obtain ⟨s0, s1, s2, s3, s4, s5⟩ := hS
  have vm : vM m' μ' = vM m μ := by
    funext o k
    unfold vM
    by_cases hi : inC o k
    · rw [if_pos hi, if_pos hi]
      refine hm _ ?_
      unfold inC at hi
      unfold mI
      rcases hi with hi | hi | hi | hi | hi <;> (repeat' split) <;> omega
    · rw [if_neg hi, if_neg hi]
  have g0 := gs0 a1
  have g1 := gs1 a1
  have g6 := gs6 a1
  have g7 := gs7 a1
  have e0 : (vC c μ 0 0).toNatClampNeg = (vC c μ 0 0).toInt.toNat := rfl
  have e1' : (vC c μ 0 1).toNatClampNeg = (vC c μ 0 1).toInt.toNat := rfl
  have e6 : (vC c μ 0 6).toNatClampNeg = (vC c μ 0 6).toInt.toNat := rfl
  have e7 : (vC c μ 0 7).toNatClampNeg = (vC c μ 0 7).toInt.toNat := rfl
  obtain ⟨q0, q1, q2, q3, q4⟩ := e1
  refine ⟨⟨hW, by rw [vm]; exact a2⟩, ⟨⟨fun r hr => ?_, by rw [s0 5 (by decide)]; exact b1.2⟩, by rw [vm]; exact b2⟩, by rw [s0 2 (by decide)]; exact c1, ?_, l1.cp s5 hm⟩
  · rcases hQ r hr with q | q
    · rw [q 3 (by decide), q 7 (by decide)]
      exact b1.1 r hr
    · exact q
  · rw [vm]
    refine ⟨fun k hk => by rw [s0 k hk]; exact q0 k hk, fun w hw hc k hk hu => ?_, fun r hr hc k hk => ?_, fun i hi hc => ?_, fun i hi hc => ?_⟩
    · rw [s0 0 (by decide)] at hc
      unfold usK at hu
      rw [s1 w (by omega) 1 (by decide)] at hu
      rw [s1 w (by omega) k hk]
      exact q1 w hw hc k hk hu
    · rw [s0 1 (by decide)] at hc
      rw [s2 r (by omega) k hk]
      exact q2 r hr hc k hk
    · rw [s0 6 (by decide)] at hc
      rw [s3 i (by omega)]
      exact q3 i hi hc
    · rw [s0 7 (by decide)] at hc
      rw [s4 i (by omega)]
      exact q4 i hi hc
theorem p_image {fz : Mem} {d : Nat} {μ : Mem} (h : RR fz μ) : PR fz d 85 190 [] μ := by
  obtain ⟨μ1, a1, a2, a3, a4, a5⟩ := x_takeW (d := d) (b := 65) (c := 1) (μ := μ) (by omega) h.1.1.1 h.2.2.2.2.1.1 h.1.2.2.2.2.lw h.1.2.2.2.2.told
  have a1' : cl d 39 [Sum.inr (Sum.inr (6, 65)), Sum.inr (Sum.inr (6, 1))] μ = _ := a1
  have hcar : ∀ μ, cl d 108 [Sum.inr (Sum.inr (604, 113)), Sum.inr (Sum.inr (604, 114))] μ = _ := fun μ => y_carry (by decide)
  have g : ∀ o, o ≠ 0 → o ≠ 112 → o ≠ 114 → (o < 65 ∨ 97 ≤ o) → up (cpR (up μ1 0 7 (μ1 0 7 + 1)) 113 114 504) 112 3 (μ1 112 3 + 1) o = μ o := fun o p1 p2 p3 p4 => by rw [up_ne p2, cp_o p3, up_ne p1, a4 o p4]
  have m07 : μ1 0 7 = μ 0 7 := by rw [a4 0 (by omega)]
  have m112 : μ1 112 3 = μ 112 3 := by rw [a4 112 (by omega)]
  refine ⟨(μ1 0 7 + 1), up μ1 0 7 (μ1 0 7 + 1), up (cpR (up μ1 0 7 (μ1 0 7 + 1)) 113 114 504) 112 3 (μ1 112 3 + 1), (by rw [up_ne (by decide), a4 202 (by omega)]; exact h.u2), ?_, ?_, ?_⟩
  · simp -implicitDefEqProofs only [cl_85, u_85_0, e_iload_n, e_iload, e_lload_n, e_lload, e_aload_n, e_aload, e_istore_n, e_istore, e_astore_n, e_astore, e_lstore_n, e_lstore, e_iinc, e_iconst, e_bipush, e_sipush, e_ldc_w, e_ldc, e_ldcS, e_lconst, e_ldc2_w, e_iadd, e_isub, e_imul, e_iand, e_ixor, e_ishl, e_ishr, e_iushr, e_idiv, e_irem, e_ineg, e_i2b, e_i2s, e_i2c, e_ladd, e_lsub, e_lmul, e_land, e_lor, e_ldiv, e_lrem, e_lneg, e_lshl, e_lshr, e_lushr, e_i2l, e_l2i, e_lcmp, e_dupI, e_dupA, e_dup2, e_getI, e_getA, e_putI, e_putZ, e_getstatic, e_iaload, e_iastore, e_aaload10, e_alen10, e_aaload11, e_alen11, e_aaload12, e_alen12, e_aaload13, e_alen13, e_alen, e_invokevirtual, e_invokevirtualB, e_invokestatic, e_invokestaticB, ct_0, ct_i, ct_a, ct_l, os_0, os_s, rc_0, rc_s, sl_0, sl_i, sl_a, sl_l, simprocAttr, ix, z_em, up_eq, up_j, Nat.le_refl, true_or, or_true, true_and, and_true, and_self, or_self, beq_self_eq_true, if_true, if_false, ite_self, ca_f, ca_t, aLen, Int32.lt_iff_toInt_lt, Int32.le_iff_toInt_le, z_ite, z_iten, z_ite1, ite_not, not_true_eq_false, not_false_eq_true, false_and, and_false, false_or, or_false, b_max, b_min, b_minL, b_absL, b_ixD, b_ixH, b_copy, tk_0, tk_s, dr_0, dr_s, pu_s, pu_n, ca_0, ca_1, clr_0, clr_s, e_nop, e_goto, e_if_eq, e_if_ne, e_if_lt, e_if_ge, e_if_gt, e_if_le, e_ic_eq, e_ic_ne, e_ic_lt, e_ic_ge, e_ic_gt, e_ic_le, e_tsw, e_lsw, sw_0, sw_s, e_iret, e_zret, e_lret, e_aret, e_ret, en_0, en_n, en_i, en_a, en_l, List.getElem?_cons_zero, List.getElem?_cons_succ, List.set_cons_zero, List.set_cons_succ, len_s, List.length_nil, ne_eq, x_within, x_in, eT1, eT2, eT3, eT4, eT5, eT6, eM1, eM2, eM3, eM4, eM5, eM6, Nat.one_mul, Nat.mul_one, Nat.zero_add, a1']
  · rw [m112, h.2.2.1, ← m07]
    have n3 : ∀ μ' : Mem, cpR μ' 113 114 504 112 3 = μ' 112 3 := fun μ' => by rw [cp_o (by decide)]
    simp -implicitDefEqProofs only [cl_190, u_190_0, e_iload_n, e_iload, e_lload_n, e_lload, e_aload_n, e_aload, e_istore_n, e_istore, e_astore_n, e_astore, e_lstore_n, e_lstore, e_iinc, e_iconst, e_bipush, e_sipush, e_ldc_w, e_ldc, e_ldcS, e_lconst, e_ldc2_w, e_iadd, e_isub, e_imul, e_iand, e_ixor, e_ishl, e_ishr, e_iushr, e_idiv, e_irem, e_ineg, e_i2b, e_i2s, e_i2c, e_ladd, e_lsub, e_lmul, e_land, e_lor, e_ldiv, e_lrem, e_lneg, e_lshl, e_lshr, e_lushr, e_i2l, e_l2i, e_lcmp, e_dupI, e_dupA, e_dup2, e_getI, e_getA, e_putI, e_putZ, e_getstatic, e_iaload, e_iastore, e_aaload10, e_alen10, e_aaload11, e_alen11, e_aaload12, e_alen12, e_aaload13, e_alen13, e_alen, e_invokevirtual, e_invokevirtualB, e_invokestatic, e_invokestaticB, ct_0, ct_i, ct_a, ct_l, os_0, os_s, rc_0, rc_s, sl_0, sl_i, sl_a, sl_l, simprocAttr, ix, z_em, up_eq, up_j, Nat.le_refl, true_or, or_true, true_and, and_true, and_self, or_self, beq_self_eq_true, if_true, if_false, ite_self, ca_f, ca_t, aLen, Int32.lt_iff_toInt_lt, Int32.le_iff_toInt_le, z_ite, z_iten, z_ite1, ite_not, not_true_eq_false, not_false_eq_true, false_and, and_false, false_or, or_false, b_max, b_min, b_minL, b_absL, b_ixD, b_ixH, b_copy, tk_0, tk_s, dr_0, dr_s, pu_s, pu_n, ca_0, ca_1, clr_0, clr_s, e_nop, e_goto, e_if_eq, e_if_ne, e_if_lt, e_if_ge, e_if_gt, e_if_le, e_ic_eq, e_ic_ne, e_ic_lt, e_ic_ge, e_ic_gt, e_ic_le, e_tsw, e_lsw, sw_0, sw_s, e_iret, e_zret, e_lret, e_aret, e_ret, en_0, en_n, en_i, en_a, en_l, List.getElem?_cons_zero, List.getElem?_cons_succ, List.set_cons_zero, List.set_cons_succ, len_s, List.length_nil, ne_eq, x_within, x_in, eT1, eT2, eT3, eT4, eT5, eT6, eM1, eM2, eM3, eM4, eM5, eM6, Nat.one_mul, Nat.mul_one, Nat.zero_add, hcar, n3, up_o (show ¬ (112 : Nat) = 0 by decide), m112, h.2.2.1, m07]
  · obtain ⟨b1, b2, b3, b4, b5, b6, b7, b8, b9⟩ := h
    generalize hM : up (cpR (up μ1 0 7 (μ1 0 7 + 1)) 113 114 504) 112 3 (μ1 112 3 + 1) = μ2 at *
    have c07 : μ2 0 7 = μ 0 7 + 1 := by rw [← hM, up_o (by decide), cp_o (by decide), up_eq, m07]
    have c112 : μ2 112 3 = μ 0 7 + 1 := by rw [← hM, up_eq, m112, b3]
    have c15 : μ2 112 15 = μ 112 15 := by rw [← hM, up_j (by decide), cp_o (by decide), up_o (by decide), a4 112 (by omega)]
    have k65 : ∀ o, 65 ≤ o → o < 97 → μ2 o = μ1 o := fun o p1 p2 => by rw [← hM, up_ne (by omega), cp_o (by omega), up_ne (by omega)]
    have v65 : vC 65 μ2 = vC 65 μ1 := vC_congr fun o p1 p2 => k65 o p1 (by omega)
    have hQ : WFQ (vC 65 μ2) := fun r hr => by
      rw [v65]
      rcases a5 r hr with q | q
      · rw [q 3 (by decide), q 7 (by decide)]
        exact b1.2.1.1.1 r hr
      · rw [q 3 (by decide), q 7 (by decide)]
        exact b5.2 r hr
    have hS : SW 65 1 μ μ2 := by
      obtain ⟨s0, s1, s2, s3, s4, s5⟩ := a2
      refine ⟨by rw [v65]; exact s0, by rw [v65]; exact s1, by rw [v65]; exact s2, by rw [v65]; exact s3, by rw [v65]; exact s4, fun u hu => ?_⟩
      rw [k65 _ (by omega) (by omega), k65 _ (by omega) (by omega)]
      exact s5 u hu
    have h65 : RW 65 114 μ2 := b1.cp hS (by rw [v65]; exact a3) (fun r hr => Or.inr (hQ r hr)) (fun k hk => by
      rw [← hM, up_o (by decide)]
      unfold cpR
      rw [if_pos ⟨rfl, hk⟩, up_o (by decide), a4 113 (by omega)])
    refine ⟨b1.cg (fun o p1 p2 p3 p4 => g o (by omega) (by omega) (by omega) (by omega)) (g 113 (by omega) (by omega) (by omega) (by omega)), Or.inr h65, by rw [c07, c112], by rw [vC_congr (fun o p1 p2 => g o (by omega) (by omega) (by omega) (by omega))]; exact b4, ⟨by rw [v65]; exact a3, hQ⟩, fun k p1 p2 => ?_, fun s hs => ?_, ?_, fun o p => ?_⟩
    · rw [g 116 (by omega) (by omega) (by omega) (by omega), g 103 (by omega) (by omega) (by omega) (by omega)]
      exact b6 k p1 p2
    · rw [g 123 (by omega) (by omega) (by omega) (by omega), g 124 (by omega) (by omega) (by omega) (by omega), g 125 (by omega) (by omega) (by omega) (by omega), g (104 + 2 * s) (by omega) (by omega) (by omega) (by omega), g (105 + 2 * s) (by omega) (by omega) (by omega) (by omega)]
      exact b7 s hs
    · unfold TRC
      rw [c15, g 100 (by omega) (by omega) (by omega) (by omega), g 122 (by omega) (by omega) (by omega) (by omega), g 101 (by omega) (by omega) (by omega) (by omega)]
      exact b8
    · rw [g o (by omega) (by omega) (by omega) (by omega)]
      exact b9 o p
theorem p_restore {fz : Mem} {d : Nat} {μ : Mem} (h : RR fz μ) : PR fz d 86 191 [] μ := by
  by_cases q0 : μ 0 7 = 0
  · refine PR.er (k := 2) h (by decide) (by decide) ?_ (fun μ1 f => ?_)
    · simp -implicitDefEqProofs only [cl_86, u_86_0, u_86_1, u_86_2, e_iload_n, e_iload, e_lload_n, e_lload, e_aload_n, e_aload, e_istore_n, e_istore, e_astore_n, e_astore, e_lstore_n, e_lstore, e_iinc, e_iconst, e_bipush, e_sipush, e_ldc_w, e_ldc, e_ldcS, e_lconst, e_ldc2_w, e_iadd, e_isub, e_imul, e_iand, e_ixor, e_ishl, e_ishr, e_iushr, e_idiv, e_irem, e_ineg, e_i2b, e_i2s, e_i2c, e_ladd, e_lsub, e_lmul, e_land, e_lor, e_ldiv, e_lrem, e_lneg, e_lshl, e_lshr, e_lushr, e_i2l, e_l2i, e_lcmp, e_dupI, e_dupA, e_dup2, e_getI, e_getA, e_putI, e_putZ, e_getstatic, e_iaload, e_iastore, e_aaload10, e_alen10, e_aaload11, e_alen11, e_aaload12, e_alen12, e_aaload13, e_alen13, e_alen, e_invokevirtual, e_invokevirtualB, e_invokestatic, e_invokestaticB, ct_0, ct_i, ct_a, ct_l, os_0, os_s, rc_0, rc_s, sl_0, sl_i, sl_a, sl_l, simprocAttr, ix, z_em, up_eq, up_j, Nat.le_refl, true_or, or_true, true_and, and_true, and_self, or_self, beq_self_eq_true, if_true, if_false, ite_self, ca_f, ca_t, aLen, Int32.lt_iff_toInt_lt, Int32.le_iff_toInt_le, z_ite, z_iten, z_ite1, ite_not, not_true_eq_false, not_false_eq_true, false_and, and_false, false_or, or_false, b_max, b_min, b_minL, b_absL, b_ixD, b_ixH, b_copy, tk_0, tk_s, dr_0, dr_s, pu_s, pu_n, ca_0, ca_1, clr_0, clr_s, e_nop, e_goto, e_if_eq, e_if_ne, e_if_lt, e_if_ge, e_if_gt, e_if_le, e_ic_eq, e_ic_ne, e_ic_lt, e_ic_ge, e_ic_gt, e_ic_le, e_tsw, e_lsw, sw_0, sw_s, e_iret, e_zret, e_lret, e_aret, e_ret, en_0, en_n, en_i, en_a, en_l, List.getElem?_cons_zero, List.getElem?_cons_succ, List.set_cons_zero, List.set_cons_succ, len_s, List.length_nil, ne_eq, x_within, x_in, eT1, eT2, eT3, eT4, eT5, eT6, eM1, eM2, eM3, eM4, eM5, eM6, Nat.one_mul, Nat.mul_one, Nat.zero_add, q0]
    · have e : μ1 112 3 = 0 := by rw [f 112 (by decide), h.2.2.1]; exact q0
      simp -implicitDefEqProofs only [cl_191, u_191_0, u_191_1, u_191_2, e_iload_n, e_iload, e_lload_n, e_lload, e_aload_n, e_aload, e_istore_n, e_istore, e_astore_n, e_astore, e_lstore_n, e_lstore, e_iinc, e_iconst, e_bipush, e_sipush, e_ldc_w, e_ldc, e_ldcS, e_lconst, e_ldc2_w, e_iadd, e_isub, e_imul, e_iand, e_ixor, e_ishl, e_ishr, e_iushr, e_idiv, e_irem, e_ineg, e_i2b, e_i2s, e_i2c, e_ladd, e_lsub, e_lmul, e_land, e_lor, e_ldiv, e_lrem, e_lneg, e_lshl, e_lshr, e_lushr, e_i2l, e_l2i, e_lcmp, e_dupI, e_dupA, e_dup2, e_getI, e_getA, e_putI, e_putZ, e_getstatic, e_iaload, e_iastore, e_aaload10, e_alen10, e_aaload11, e_alen11, e_aaload12, e_alen12, e_aaload13, e_alen13, e_alen, e_invokevirtual, e_invokevirtualB, e_invokestatic, e_invokestaticB, ct_0, ct_i, ct_a, ct_l, os_0, os_s, rc_0, rc_s, sl_0, sl_i, sl_a, sl_l, simprocAttr, ix, z_em, up_eq, up_j, Nat.le_refl, true_or, or_true, true_and, and_true, and_self, or_self, beq_self_eq_true, if_true, if_false, ite_self, ca_f, ca_t, aLen, Int32.lt_iff_toInt_lt, Int32.le_iff_toInt_le, z_ite, z_iten, z_ite1, ite_not, not_true_eq_false, not_false_eq_true, false_and, and_false, false_or, or_false, b_max, b_min, b_minL, b_absL, b_ixD, b_ixH, b_copy, tk_0, tk_s, dr_0, dr_s, pu_s, pu_n, ca_0, ca_1, clr_0, clr_s, e_nop, e_goto, e_if_eq, e_if_ne, e_if_lt, e_if_ge, e_if_gt, e_if_le, e_ic_eq, e_ic_ne, e_ic_lt, e_ic_ge, e_ic_gt, e_ic_le, e_tsw, e_lsw, sw_0, sw_s, e_iret, e_zret, e_lret, e_aret, e_ret, en_0, en_n, en_i, en_a, en_l, List.getElem?_cons_zero, List.getElem?_cons_succ, List.set_cons_zero, List.set_cons_succ, len_s, List.length_nil, ne_eq, x_within, x_in, eT1, eT2, eT3, eT4, eT5, eT6, eM1, eM2, eM3, eM4, eM5, eM6, Nat.one_mul, Nat.mul_one, Nat.zero_add, e]
  · have hk := h.2.1.resolve_left q0
    obtain ⟨μ1, a1, a2, a3, a4, a5⟩ := x_takeW (d := d) (b := 1) (c := 65) (μ := μ) (by omega) hk.1.1 h.1.1.1 hk.2.2.2.2.lw hk.2.2.2.2.told
    have a1' : cl d 39 [Sum.inr (Sum.inr (6, 1)), Sum.inr (Sum.inr (6, 65))] μ = _ := a1
    have hcar : ∀ μ, cl d 108 [Sum.inr (Sum.inr (604, 114)), Sum.inr (Sum.inr (604, 113))] μ = _ := fun μ => y_carry (by decide)
    have g : ∀ o, o ≠ 113 → (o < 1 ∨ 33 ≤ o) → cpR μ1 114 113 504 o = μ o := fun o p1 p2 => by rw [cp_o p1, a4 o p2]
    have m112 : μ1 112 3 = μ 0 7 := by rw [a4 112 (by omega)]; exact h.2.2.1
    generalize hM : cpR μ1 114 113 504 = μ2 at *
    have k1 : ∀ o, o < 113 → μ2 o = μ1 o := fun o p => by rw [← hM, cp_o (by omega)]
    have v1 : vC 1 μ2 = vC 1 μ1 := vC_congr fun o p1 p2 => k1 o (by omega)
    have hS : SW 1 65 μ μ2 := by
      obtain ⟨s0, s1, s2, s3, s4, s5⟩ := a2
      refine ⟨by rw [v1]; exact s0, by rw [v1]; exact s1, by rw [v1]; exact s2, by rw [v1]; exact s3, by rw [v1]; exact s4, fun u hu => ?_⟩
      rw [k1 _ (by omega), k1 _ (by omega)]
      exact s5 u hu
    have hR : RW 1 113 μ2 := hk.cp hS (by rw [v1]; exact a3) (fun r hr => by
      rw [v1]
      rcases a5 r hr with q | q
      · exact Or.inl q
      · rw [q 3 (by decide), q 7 (by decide)]
        exact Or.inr (h.1.2.1.1.1 r hr)) (fun k hk => by
      rw [← hM]
      unfold cpR
      rw [if_pos ⟨rfl, hk⟩, a4 114 (by omega)])
    refine ⟨(vC 1 μ2 0 2), μ1, μ2, (by rw [a4 202 (by omega)]; exact h.u2), ?_, ?_, h.rw' hR (fun o p1 p2 p3 p4 p5 => g o p3 p2) (by rw [g 100 (by omega) (by omega)]) (by rw [g 112 (by omega) (by omega)]) (by rw [g 112 (by omega) (by omega)]) (by rw [vC_congr (fun o p1 p2 => g o (by omega) (by omega))]; exact h.2.2.2.1)⟩
    · have e9 : μ1 1 9 = vC 1 μ2 0 2 := by rw [v1]; exact cs2
      simp -implicitDefEqProofs only [cl_86, u_86_0, u_86_1, u_86_2, e_iload_n, e_iload, e_lload_n, e_lload, e_aload_n, e_aload, e_istore_n, e_istore, e_astore_n, e_astore, e_lstore_n, e_lstore, e_iinc, e_iconst, e_bipush, e_sipush, e_ldc_w, e_ldc, e_ldcS, e_lconst, e_ldc2_w, e_iadd, e_isub, e_imul, e_iand, e_ixor, e_ishl, e_ishr, e_iushr, e_idiv, e_irem, e_ineg, e_i2b, e_i2s, e_i2c, e_ladd, e_lsub, e_lmul, e_land, e_lor, e_ldiv, e_lrem, e_lneg, e_lshl, e_lshr, e_lushr, e_i2l, e_l2i, e_lcmp, e_dupI, e_dupA, e_dup2, e_getI, e_getA, e_putI, e_putZ, e_getstatic, e_iaload, e_iastore, e_aaload10, e_alen10, e_aaload11, e_alen11, e_aaload12, e_alen12, e_aaload13, e_alen13, e_alen, e_invokevirtual, e_invokevirtualB, e_invokestatic, e_invokestaticB, ct_0, ct_i, ct_a, ct_l, os_0, os_s, rc_0, rc_s, sl_0, sl_i, sl_a, sl_l, simprocAttr, ix, z_em, up_eq, up_j, Nat.le_refl, true_or, or_true, true_and, and_true, and_self, or_self, beq_self_eq_true, if_true, if_false, ite_self, ca_f, ca_t, aLen, Int32.lt_iff_toInt_lt, Int32.le_iff_toInt_le, z_ite, z_iten, z_ite1, ite_not, not_true_eq_false, not_false_eq_true, false_and, and_false, false_or, or_false, b_max, b_min, b_minL, b_absL, b_ixD, b_ixH, b_copy, tk_0, tk_s, dr_0, dr_s, pu_s, pu_n, ca_0, ca_1, clr_0, clr_s, e_nop, e_goto, e_if_eq, e_if_ne, e_if_lt, e_if_ge, e_if_gt, e_if_le, e_ic_eq, e_ic_ne, e_ic_lt, e_ic_ge, e_ic_gt, e_ic_le, e_tsw, e_lsw, sw_0, sw_s, e_iret, e_zret, e_lret, e_aret, e_ret, en_0, en_n, en_i, en_a, en_l, List.getElem?_cons_zero, List.getElem?_cons_succ, List.set_cons_zero, List.set_cons_succ, len_s, List.length_nil, ne_eq, x_within, x_in, eT1, eT2, eT3, eT4, eT5, eT6, eM1, eM2, eM3, eM4, eM5, eM6, Nat.one_mul, Nat.mul_one, Nat.zero_add, if_neg q0, q0, a1', e9]
    · have e2 : μ2 113 2 = vC 1 μ2 0 2 := by rw [ms2 (m := 113) (μ := μ2), hR.2.2.2.1.1 2 (by decide)]
      simp -implicitDefEqProofs only [cl_191, u_191_0, u_191_1, u_191_2, e_iload_n, e_iload, e_lload_n, e_lload, e_aload_n, e_aload, e_istore_n, e_istore, e_astore_n, e_astore, e_lstore_n, e_lstore, e_iinc, e_iconst, e_bipush, e_sipush, e_ldc_w, e_ldc, e_ldcS, e_lconst, e_ldc2_w, e_iadd, e_isub, e_imul, e_iand, e_ixor, e_ishl, e_ishr, e_iushr, e_idiv, e_irem, e_ineg, e_i2b, e_i2s, e_i2c, e_ladd, e_lsub, e_lmul, e_land, e_lor, e_ldiv, e_lrem, e_lneg, e_lshl, e_lshr, e_lushr, e_i2l, e_l2i, e_lcmp, e_dupI, e_dupA, e_dup2, e_getI, e_getA, e_putI, e_putZ, e_getstatic, e_iaload, e_iastore, e_aaload10, e_alen10, e_aaload11, e_alen11, e_aaload12, e_alen12, e_aaload13, e_alen13, e_alen, e_invokevirtual, e_invokevirtualB, e_invokestatic, e_invokestaticB, ct_0, ct_i, ct_a, ct_l, os_0, os_s, rc_0, rc_s, sl_0, sl_i, sl_a, sl_l, simprocAttr, ix, z_em, up_eq, up_j, Nat.le_refl, true_or, or_true, true_and, and_true, and_self, or_self, beq_self_eq_true, if_true, if_false, ite_self, ca_f, ca_t, aLen, Int32.lt_iff_toInt_lt, Int32.le_iff_toInt_le, z_ite, z_iten, z_ite1, ite_not, not_true_eq_false, not_false_eq_true, false_and, and_false, false_or, or_false, b_max, b_min, b_minL, b_absL, b_ixD, b_ixH, b_copy, tk_0, tk_s, dr_0, dr_s, pu_s, pu_n, ca_0, ca_1, clr_0, clr_s, e_nop, e_goto, e_if_eq, e_if_ne, e_if_lt, e_if_ge, e_if_gt, e_if_le, e_ic_eq, e_ic_ne, e_ic_lt, e_ic_ge, e_ic_gt, e_ic_le, e_tsw, e_lsw, sw_0, sw_s, e_iret, e_zret, e_lret, e_aret, e_ret, en_0, en_n, en_i, en_a, en_l, List.getElem?_cons_zero, List.getElem?_cons_succ, List.set_cons_zero, List.set_cons_succ, len_s, List.length_nil, ne_eq, x_within, x_in, eT1, eT2, eT3, eT4, eT5, eT6, eM1, eM2, eM3, eM4, eM5, eM6, Nat.one_mul, Nat.mul_one, Nat.zero_add, m112, q0, hcar, hM, e2]
