/-! THE MODEL AHEAD: rows carried, and back. -/
def cpR (μ : Mem) (o1 o2 k : Nat) : Mem := fun a c => if a = o2 ∧ c < k then μ o1 c else μ a c
theorem cpR_s {μ : Mem} {o1 o2 k : Nat} (h : o1 ≠ o2) : up (cpR μ o1 o2 k) o2 k (cpR μ o1 o2 k o1 k) = cpR μ o1 o2 (k + 1) := by
  have e : cpR μ o1 o2 k o1 k = μ o1 k := if_neg (fun q => h q.1)
  rw [e]
  funext a c
  unfold up cpR
  by_cases q : a = o2 ∧ c = k
  · rw [if_pos q, if_pos ⟨q.1, by omega⟩, q.2]
  · rw [if_neg q]
    by_cases q2 : a = o2 ∧ c < k
    · rw [if_pos q2, if_pos ⟨q2.1, by omega⟩]
    · rw [if_neg q2, if_neg (fun q3 => by
        have : c = k ∨ c < k := by omega
        rcases this with q4 | q4
        · exact q ⟨q3.1, q4⟩
        · exact q2 ⟨q3.1, q4⟩)]
theorem k_carry {d o1 o2 : Nat} {μ : Mem} (ho : o1 ≠ o2) : ∀ n k, k + n = 504 → res d 108 1 [some (vR 604 o1), some (vR 604 o2), some (vI (nI k))] [] (cpR μ o1 o2 k) = some (none, cpR μ o1 o2 504) := by
  intro n
  induction n with
  | zero =>
    intro k hk
    have hk : k = 504 := by omega
    subst hk
    have n5 : (nI 504).toInt = 504 := nI_toInt (by omega)
    rw [u_108_1]
    simp -implicitDefEqProofs only [u_108_0, u_108_2, u_108_3, e_iload_n, e_iload, e_lload_n, e_lload, e_aload_n, e_aload, e_istore_n, e_istore, e_astore_n, e_astore, e_lstore_n, e_lstore, e_iinc, e_iconst, e_bipush, e_sipush, e_ldc_w, e_ldc, e_ldcS, e_lconst, e_ldc2_w, e_iadd, e_isub, e_imul, e_iand, e_ixor, e_ishl, e_ishr, e_iushr, e_idiv, e_irem, e_ineg, e_i2b, e_i2s, e_i2c, e_ladd, e_lsub, e_lmul, e_land, e_lor, e_ldiv, e_lrem, e_lneg, e_lshl, e_lshr, e_lushr, e_i2l, e_l2i, e_lcmp, e_dupI, e_dupA, e_dup2, e_getI, e_getA, e_putI, e_putZ, e_getstatic, e_iaload, e_iastore, e_aaload10, e_alen10, e_aaload11, e_alen11, e_aaload12, e_alen12, e_aaload13, e_alen13, e_alen, e_invokevirtual, e_invokevirtualB, e_invokestatic, e_invokestaticB, ct_0, ct_i, ct_a, ct_l, os_0, os_s, rc_0, rc_s, sl_0, sl_i, sl_a, sl_l, simprocAttr, ix, z_em, up_eq, up_j, Nat.le_refl, true_or, or_true, true_and, and_true, and_self, or_self, beq_self_eq_true, if_true, if_false, ite_self, ca_f, ca_t, aLen, Int32.lt_iff_toInt_lt, Int32.le_iff_toInt_le, z_ite, z_iten, z_ite1, ite_not, not_true_eq_false, not_false_eq_true, false_and, and_false, false_or, or_false, b_max, b_min, b_minL, b_absL, b_ixD, b_ixH, b_copy, tk_0, tk_s, dr_0, dr_s, pu_s, pu_n, ca_0, ca_1, clr_0, clr_s, e_nop, e_goto, e_if_eq, e_if_ne, e_if_lt, e_if_ge, e_if_gt, e_if_le, e_ic_eq, e_ic_ne, e_ic_lt, e_ic_ge, e_ic_gt, e_ic_le, e_tsw, e_lsw, sw_0, sw_s, e_iret, e_zret, e_lret, e_aret, e_ret, en_0, en_n, en_i, en_a, en_l, List.getElem?_cons_zero, List.getElem?_cons_succ, List.set_cons_zero, List.set_cons_succ, len_s, List.length_nil, ne_eq, n5, Int.lt_irrefl]
  | succ n ih =>
    intro k hk
    have nk : (nI k).toInt = k := nI_toInt (by omega)
    have ck : (nI k).toNatClampNeg = k := ix_nI (by omega)
    have h5 : ((k : Nat) : Int) < 504 := by omega
    have h3 : (0 : Int) ≤ ((k : Nat) : Int) := by omega
    have b5 : (0 : Int) ≤ ((k : Nat) : Int) ∧ ((k : Nat) : Int) < 504 := by omega
    rw [← ih (k + 1) (by omega), u_108_1]
    simp -implicitDefEqProofs only [u_108_0, u_108_2, u_108_3, e_iload_n, e_iload, e_lload_n, e_lload, e_aload_n, e_aload, e_istore_n, e_istore, e_astore_n, e_astore, e_lstore_n, e_lstore, e_iinc, e_iconst, e_bipush, e_sipush, e_ldc_w, e_ldc, e_ldcS, e_lconst, e_ldc2_w, e_iadd, e_isub, e_imul, e_iand, e_ixor, e_ishl, e_ishr, e_iushr, e_idiv, e_irem, e_ineg, e_i2b, e_i2s, e_i2c, e_ladd, e_lsub, e_lmul, e_land, e_lor, e_ldiv, e_lrem, e_lneg, e_lshl, e_lshr, e_lushr, e_i2l, e_l2i, e_lcmp, e_dupI, e_dupA, e_dup2, e_getI, e_getA, e_putI, e_putZ, e_getstatic, e_iaload, e_iastore, e_aaload10, e_alen10, e_aaload11, e_alen11, e_aaload12, e_alen12, e_aaload13, e_alen13, e_alen, e_invokevirtual, e_invokevirtualB, e_invokestatic, e_invokestaticB, ct_0, ct_i, ct_a, ct_l, os_0, os_s, rc_0, rc_s, sl_0, sl_i, sl_a, sl_l, simprocAttr, ix, z_em, up_eq, up_j, Nat.le_refl, true_or, or_true, true_and, and_true, and_self, or_self, beq_self_eq_true, if_true, if_false, ite_self, ca_f, ca_t, aLen, Int32.lt_iff_toInt_lt, Int32.le_iff_toInt_le, z_ite, z_iten, z_ite1, ite_not, not_true_eq_false, not_false_eq_true, false_and, and_false, false_or, or_false, b_max, b_min, b_minL, b_absL, b_ixD, b_ixH, b_copy, tk_0, tk_s, dr_0, dr_s, pu_s, pu_n, ca_0, ca_1, clr_0, clr_s, e_nop, e_goto, e_if_eq, e_if_ne, e_if_lt, e_if_ge, e_if_gt, e_if_le, e_ic_eq, e_ic_ne, e_ic_lt, e_ic_ge, e_ic_gt, e_ic_le, e_tsw, e_lsw, sw_0, sw_s, e_iret, e_zret, e_lret, e_aret, e_ret, en_0, en_n, en_i, en_a, en_l, List.getElem?_cons_zero, List.getElem?_cons_succ, List.set_cons_zero, List.set_cons_succ, len_s, List.length_nil, ne_eq, nk, ck, h5, h3, if_pos b5, cpR_s ho, ← nI_succ]
theorem y_carry {d o1 o2 : Nat} {μ : Mem} (ho : o1 ≠ o2) : cl d 108 [vR 604 o1, vR 604 o2] μ = some (none, cpR μ o1 o2 504) := by
  have h := k_carry (d := d) (μ := μ) ho 504 0 (by omega)
  have e : cpR μ o1 o2 0 = μ := by
    funext a c
    exact if_neg (fun q => absurd q.2 (Nat.not_lt_zero c))
  rw [e] at h
  rw [← h]
  simp -implicitDefEqProofs only [cl_108, u_108_0, e_iload_n, e_iload, e_lload_n, e_lload, e_aload_n, e_aload, e_istore_n, e_istore, e_astore_n, e_astore, e_lstore_n, e_lstore, e_iinc, e_iconst, e_bipush, e_sipush, e_ldc_w, e_ldc, e_ldcS, e_lconst, e_ldc2_w, e_iadd, e_isub, e_imul, e_iand, e_ixor, e_ishl, e_ishr, e_iushr, e_idiv, e_irem, e_ineg, e_i2b, e_i2s, e_i2c, e_ladd, e_lsub, e_lmul, e_land, e_lor, e_ldiv, e_lrem, e_lneg, e_lshl, e_lshr, e_lushr, e_i2l, e_l2i, e_lcmp, e_dupI, e_dupA, e_dup2, e_getI, e_getA, e_putI, e_putZ, e_getstatic, e_iaload, e_iastore, e_aaload10, e_alen10, e_aaload11, e_alen11, e_aaload12, e_alen12, e_aaload13, e_alen13, e_alen, e_invokevirtual, e_invokevirtualB, e_invokestatic, e_invokestaticB, ct_0, ct_i, ct_a, ct_l, os_0, os_s, rc_0, rc_s, sl_0, sl_i, sl_a, sl_l, simprocAttr, ix, z_em, up_eq, up_j, Nat.le_refl, true_or, or_true, true_and, and_true, and_self, or_self, beq_self_eq_true, if_true, if_false, ite_self, ca_f, ca_t, aLen, Int32.lt_iff_toInt_lt, Int32.le_iff_toInt_le, z_ite, z_iten, z_ite1, ite_not, not_true_eq_false, not_false_eq_true, false_and, and_false, false_or, or_false, b_max, b_min, b_minL, b_absL, b_ixD, b_ixH, b_copy, tk_0, tk_s, dr_0, dr_s, pu_s, pu_n, ca_0, ca_1, clr_0, clr_s, e_nop, e_goto, e_if_eq, e_if_ne, e_if_lt, e_if_ge, e_if_gt, e_if_le, e_ic_eq, e_ic_ne, e_ic_lt, e_ic_ge, e_ic_gt, e_ic_le, e_tsw, e_lsw, sw_0, sw_s, e_iret, e_zret, e_lret, e_aret, e_ret, en_0, en_n, en_i, en_a, en_l, List.getElem?_cons_zero, List.getElem?_cons_succ, List.set_cons_zero, List.set_cons_succ, len_s, List.length_nil]
  rfl
/-- behind a look ahead: the row that was put aside, the names and the pile may differ -/
def FrA (μ μ' : Mem) : Prop := ∀ o, o ≠ 115 → o ≠ 118 → o ≠ 119 → μ' o = μ o
theorem vM_cp {m m2 : Nat} {μ : Mem} : vM m2 (cpR μ m m2 504) = vM m μ := by
  funext o k
  unfold vM cpR
  by_cases hi : inC o k
  · rw [if_pos hi, if_pos hi]
    have h : mI o k < 504 := by
      unfold inC at hi
      unfold mI
      rcases hi with hi | hi | hi | hi | hi <;> (repeat' split) <;> omega
    rw [if_pos ⟨rfl, h⟩]
  · rw [if_neg hi, if_neg hi]
theorem txM_congr {μ μ' : Mem} (h : μ' 113 = μ 113) : txM μ' = txM μ := by
  unfold txM
  rw [h]
theorem LWM_congr {μ μ' : Mem} (h : μ' 113 = μ 113) (hL : LWM μ) : LWM μ' := by
  unfold LWM
  rw [h]
  exact hL
theorem cp_o {μ : Mem} {o1 o2 k o : Nat} (h : o ≠ o2) : cpR μ o1 o2 k o = μ o := by
  funext c
  exact if_neg (fun q => h q.1)
theorem look_back {μ μ2 : Mem} (h : FrM (cpR μ 113 115 504) μ2) : FrA μ (cpR μ2 115 113 504) := fun o h1 h2 h3 => by
  by_cases q : o = 113
  · subst q
    funext c
    unfold cpR
    by_cases hc : c < 504
    · rw [if_pos ⟨rfl, hc⟩, h.1 115 (by decide) (by decide) (by decide)]
      unfold cpR
      rw [if_pos ⟨rfl, hc⟩]
    · rw [if_neg (fun q => hc q.2), h.2 c (by omega), cp_o (by decide)]
  · rw [cp_o q, h.1 o q h2 h3, cp_o h1]
/-- a look ahead: what lies n minutes on, and the way back -/
theorem y_look {d : Nat} {n : Int32} {μ : Mem} (hL : LWM μ) (hW : WFV (vM 113 μ)) (hD : WFD (vM 113 μ)) (h0 : 0 ≤ n.toInt ∧ n.toInt ≤ 10000) (hm : (vM 113 μ 0 2).toInt + n.toInt ≤ 15001) : ∃ μ1 μ2, cl d 108 [Sum.inr (Sum.inr (604, 113)), Sum.inr (Sum.inr (604, 115))] μ = some (none, μ1) ∧ cl d 153 [Sum.inr (Sum.inr (8, 112)), vI n] μ1 = some (none, μ2) ∧ vM 113 μ2 = timesP (minP (mn 99999) (txM μ) (-1)) n.toNatClampNeg (vM 113 μ) ∧ cl d 108 [Sum.inr (Sum.inr (604, 115)), Sum.inr (Sum.inr (604, 113))] μ2 = some (none, cpR μ2 115 113 504) ∧ FrA μ (cpR μ2 115 113 504) := by
  have r1 : cpR μ 113 115 504 113 = μ 113 := cp_o (by decide)
  have v1 : vM 113 (cpR μ 113 115 504) = vM 113 μ := vM_congr r1
  obtain ⟨μ2, a1, a2, a3⟩ := y_go (d := d) (n := n) (μ := cpR μ 113 115 504) (LWM_congr r1 hL) (by rw [v1]; exact hW) (by rw [v1]; exact hD) h0 (by rw [v1]; exact hm)
  exact ⟨cpR μ 113 115 504, μ2, y_carry (by decide), a1, by rw [a2, v1, txM_congr r1], y_carry (by decide), look_back a3⟩
theorem y_endBy {d w : Nat} {n : Int32} {μ : Mem} (hw : w < 4) (hL : LWM μ) (hW : WFV (vM 113 μ)) (hD : WFD (vM 113 μ)) (h0 : 0 ≤ n.toInt ∧ n.toInt ≤ 10000) (hm : (vM 113 μ 0 2).toInt + n.toInt ≤ 15001) : ∃ μ', cl d 163 [vR 8 112, vI (nI w), vI n] μ = some (some (vI (timesP (minP (mn 99999) (txM μ) (-1)) n.toNatClampNeg (vM 113 μ) (1 + w) 7)), μ') ∧ FrA μ μ' := by
  obtain ⟨μ1, μ2, a1, a2, a3, a4, a5⟩ := y_look (d := d) hL hW hD h0 hm
  refine ⟨_, ?_, a5⟩
  rw [← a3]
  simp -implicitDefEqProofs only [cl_163, u_163_0, e_iload_n, e_iload, e_lload_n, e_lload, e_aload_n, e_aload, e_istore_n, e_istore, e_astore_n, e_astore, e_lstore_n, e_lstore, e_iinc, e_iconst, e_bipush, e_sipush, e_ldc_w, e_ldc, e_ldcS, e_lconst, e_ldc2_w, e_iadd, e_isub, e_imul, e_iand, e_ixor, e_ishl, e_ishr, e_iushr, e_idiv, e_irem, e_ineg, e_i2b, e_i2s, e_i2c, e_ladd, e_lsub, e_lmul, e_land, e_lor, e_ldiv, e_lrem, e_lneg, e_lshl, e_lshr, e_lushr, e_i2l, e_l2i, e_lcmp, e_dupI, e_dupA, e_dup2, e_getI, e_getA, e_putI, e_putZ, e_getstatic, e_iaload, e_iastore, e_aaload10, e_alen10, e_aaload11, e_alen11, e_aaload12, e_alen12, e_aaload13, e_alen13, e_alen, e_invokevirtual, e_invokevirtualB, e_invokestatic, e_invokestaticB, ct_0, ct_i, ct_a, ct_l, os_0, os_s, rc_0, rc_s, sl_0, sl_i, sl_a, sl_l, simprocAttr, ix, z_em, up_eq, up_j, Nat.le_refl, true_or, or_true, true_and, and_true, and_self, or_self, beq_self_eq_true, if_true, if_false, ite_self, ca_f, ca_t, aLen, Int32.lt_iff_toInt_lt, Int32.le_iff_toInt_le, z_ite, z_iten, z_ite1, ite_not, not_true_eq_false, not_false_eq_true, false_and, and_false, false_or, or_false, b_max, b_min, b_minL, b_absL, b_ixD, b_ixH, b_copy, tk_0, tk_s, dr_0, dr_s, pu_s, pu_n, ca_0, ca_1, clr_0, clr_s, e_nop, e_goto, e_if_eq, e_if_ne, e_if_lt, e_if_ge, e_if_gt, e_if_le, e_ic_eq, e_ic_ne, e_ic_lt, e_ic_ge, e_ic_gt, e_ic_le, e_tsw, e_lsw, sw_0, sw_s, e_iret, e_zret, e_lret, e_aret, e_ret, en_0, en_n, en_i, en_a, en_l, List.getElem?_cons_zero, List.getElem?_cons_succ, List.set_cons_zero, List.set_cons_succ, len_s, List.length_nil, ne_eq, a1, a2, yi7 hw, a4]
theorem y_waitedBy {d : Nat} {n : Int32} {μ : Mem} (hL : LWM μ) (hW : WFV (vM 113 μ)) (hD : WFD (vM 113 μ)) (h0 : 0 ≤ n.toInt ∧ n.toInt ≤ 10000) (hm : (vM 113 μ 0 2).toInt + n.toInt ≤ 15001) : ∃ μ', cl d 161 [vR 8 112, vI n] μ = some (some (vI (timesP (minP (mn 99999) (txM μ) (-1)) n.toNatClampNeg (vM 113 μ) 0 5)), μ') ∧ FrA μ μ' := by
  obtain ⟨μ1, μ2, a1, a2, a3, a4, a5⟩ := y_look (d := d) hL hW hD h0 hm
  refine ⟨_, ?_, a5⟩
  rw [← a3, ← ms5]
  simp -implicitDefEqProofs only [cl_161, u_161_0, e_iload_n, e_iload, e_lload_n, e_lload, e_aload_n, e_aload, e_istore_n, e_istore, e_astore_n, e_astore, e_lstore_n, e_lstore, e_iinc, e_iconst, e_bipush, e_sipush, e_ldc_w, e_ldc, e_ldcS, e_lconst, e_ldc2_w, e_iadd, e_isub, e_imul, e_iand, e_ixor, e_ishl, e_ishr, e_iushr, e_idiv, e_irem, e_ineg, e_i2b, e_i2s, e_i2c, e_ladd, e_lsub, e_lmul, e_land, e_lor, e_ldiv, e_lrem, e_lneg, e_lshl, e_lshr, e_lushr, e_i2l, e_l2i, e_lcmp, e_dupI, e_dupA, e_dup2, e_getI, e_getA, e_putI, e_putZ, e_getstatic, e_iaload, e_iastore, e_aaload10, e_alen10, e_aaload11, e_alen11, e_aaload12, e_alen12, e_aaload13, e_alen13, e_alen, e_invokevirtual, e_invokevirtualB, e_invokestatic, e_invokestaticB, ct_0, ct_i, ct_a, ct_l, os_0, os_s, rc_0, rc_s, sl_0, sl_i, sl_a, sl_l, simprocAttr, ix, z_em, up_eq, up_j, Nat.le_refl, true_or, or_true, true_and, and_true, and_self, or_self, beq_self_eq_true, if_true, if_false, ite_self, ca_f, ca_t, aLen, Int32.lt_iff_toInt_lt, Int32.le_iff_toInt_le, z_ite, z_iten, z_ite1, ite_not, not_true_eq_false, not_false_eq_true, false_and, and_false, false_or, or_false, b_max, b_min, b_minL, b_absL, b_ixD, b_ixH, b_copy, tk_0, tk_s, dr_0, dr_s, pu_s, pu_n, ca_0, ca_1, clr_0, clr_s, e_nop, e_goto, e_if_eq, e_if_ne, e_if_lt, e_if_ge, e_if_gt, e_if_le, e_ic_eq, e_ic_ne, e_ic_lt, e_ic_ge, e_ic_gt, e_ic_le, e_tsw, e_lsw, sw_0, sw_s, e_iret, e_zret, e_lret, e_aret, e_ret, en_0, en_n, en_i, en_a, en_l, List.getElem?_cons_zero, List.getElem?_cons_succ, List.set_cons_zero, List.set_cons_succ, len_s, List.length_nil, ne_eq, a1, a2, a4]
