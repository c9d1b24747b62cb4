/-! PAIRS OF CALLS: heap. -/
def hvv (V : Mem) (h : Int32) (n : Nat) : Int32 := if (V (10 + n) 6 = 0 ∧ (V (10 + n) 0 = 1 ∨ V (10 + n) 0 = 4)) ∧ (V (10 + n) 7).toInt < h.toInt then h else V (10 + n) 7
def hpV (h : Int32) (V : Mem) : Nat → Mem
  | 0 => V
  | n + 1 => up (hpV h V n) (10 + n) 7 (hvv V h n)
theorem hp_o {h : Int32} {V : Mem} {o k : Nat} : ∀ n, (o < 10 ∨ 10 + n ≤ o ∨ ¬ k = 7) → hpV h V n o k = V o k := by
  intro n
  induction n with
  | zero => exact fun _ => rfl
  | succ n ih =>
    intro hq
    have e : up (hpV h V n) (10 + n) 7 (hvv V h n) o k = hpV h V n o k := if_neg (by omega)
    exact e.trans (ih (by omega))
theorem hp_7 {h : Int32} {V : Mem} {r : Nat} : ∀ n, r < n → hpV h V n (10 + r) 7 = hvv V h r := by
  intro n
  induction n with
  | zero => intro hq; omega
  | succ n ih =>
    intro hq
    by_cases q : r = n
    · subst q
      exact up_eq
    · have e : up (hpV h V n) (10 + n) 7 (hvv V h n) (10 + r) 7 = hpV h V n (10 + r) 7 := up_o (by omega)
      exact e.trans (ih (by omega))
theorem hvv_rg {V : Mem} {h : Int32} {n : Nat} (hW : WFV V) (hn : n < 8) (hh : 0 ≤ h.toInt ∧ h.toInt ≤ 999) : (0 ≤ (hvv V h n).toInt ∧ (hvv V h n).toInt ≤ 20000) ∧ (V (10 + n) 7).toInt ≤ (hvv V h n).toInt := by
  have g := gr7 hW hn
  unfold hvv
  split
  · omega
  · omega
theorem hp_wf {V : Mem} {h : Int32} (hW : WFV V) (hh : 0 ≤ h.toInt ∧ h.toInt ≤ 999) : ∀ n, n ≤ 8 → WFV (hpV h V n) := by
  intro n
  induction n with
  | zero => exact fun _ => hW
  | succ n ih =>
    intro hn
    refine wf_up (ih (by omega)) (by unfold plV; omega) ?_
    rw [(lr7 (show n < 8 by omega)).1, (lr7 (show n < 8 by omega)).2]
    exact (hvv_rg hW (by omega) hh).1
theorem hp_wd {V : Mem} {h : Int32} (hW : WFV V) (hD : WFD V) (hh : 0 ≤ h.toInt ∧ h.toInt ≤ 999) {n : Nat} (hn : n ≤ 8) : WFD (hpV h V n) := by
  refine ⟨fun r hr => ?_, by rw [hp_o n (Or.inl (by omega))]; exact hD.2⟩
  rw [hp_o n (Or.inr (Or.inr (by decide)))]
  have q := hD.1 r hr
  by_cases z : r < n
  · rw [hp_7 n z]
    have := (hvv_rg (n := r) hW hr hh).2
    omega
  · rw [hp_o n (Or.inr (Or.inl (by omega)))]
    exact q
theorem hp_eq {V V' : Mem} {h : Int32} (hE : EQV V V') : ∀ (n : Nat), n ≤ 8 → (n : Int) ≤ (V 0 1).toInt → EQV (hpV h V n) (hpV h V' n) := by
  intro n
  induction n with
  | zero => exact fun _ _ => hE
  | succ n ih =>
    intro hn hc
    have he := hE.2.2.1 n (by omega) (by omega)
    have e : hvv V' h n = hvv V h n := by
      unfold hvv
      rw [he 6 (by decide), he 0 (by decide), he 7 (by decide)]
    show EQV (up (hpV h V n) (10 + n) 7 (hvv V h n)) (up (hpV h V' n) (10 + n) 7 (hvv V' h n))
    rw [e]
    exact (ih (by omega) (by omega)).b (by unfold plE; omega)
theorem l_heap {d R : Nat} {h wt : Int32} {V0 μ0 : Mem} (hR : R ≤ 8) (hr : V0 0 1 = nI R) (hW0 : WFV V0) (hh : 0 ≤ h.toInt ∧ h.toInt ≤ 999) (hm : (V0 0 2).toInt ≤ 9999) (hL : LW 33 μ0) : ∀ n k μ (x : Option AV), k + n = R → FrC 33 μ0 μ → vC 33 μ = hpV h V0 k → ∃ μ', res d 75 3 [some (vR 7 0), some (vI h), some (vI wt), some (vI (nI k)), x] [] μ = some (some (vI (vC 33 μ' 0 5 - wt)), μ') ∧ vC 33 μ' = timesP (minP (mn 99999) (txC 33 μ0) (-1)) 600 (hpV h V0 R) ∧ FrC 33 μ0 μ' := by
  intro n
  induction n with
  | zero =>
    intro k μ x hk hF hv
    have hk : k = R := by omega
    subst hk
    have hc : μ 33 6 = nI k := by rw [cs1 (b := 33) (μ := μ), hv, hp_o k (Or.inl (by decide)), hr]
    obtain ⟨μ2, b1, b2, b3⟩ := x_goAhead (d := d) (b := 33) (n := 600) (only := -1) (μ := μ) (hF.lw hL) (by rw [hv]; exact hp_wf hW0 hh k hR) (by decide) (by rw [hv, hp_o k (Or.inl (by decide))]; show _ + 600 ≤ (15001 : Int); omega)
    have b1' : cl d 48 [Sum.inr (Sum.inr (6, 33)), vI 600, vI (-1)] μ = _ := b1
    rw [hF.tx, hv] at b2
    refine ⟨μ2, ?_, b2, hF.tr b3⟩
    rw [u_75_3, ← cs5]
    simp -implicitDefEqProofs only [u_75_0, u_75_1, u_75_2, u_75_4, u_75_5, u_75_6, u_75_7, u_75_8, e_iload_n, e_iload, e_lload_n, e_lload, e_aload_n, e_aload, e_istore_n, e_istore, e_astore_n, e_astore, e_lstore_n, e_lstore, e_iinc, e_iconst, e_bipush, e_sipush, e_ldc_w, e_ldc, e_ldcS, e_lconst, e_ldc2_w, e_iadd, e_isub, e_imul, e_iand, e_ixor, e_ishl, e_ishr, e_iushr, e_idiv, e_irem, e_ineg, e_i2b, e_i2s, e_i2c, e_ladd, e_lsub, e_lmul, e_land, e_lor, e_ldiv, e_lrem, e_lneg, e_lshl, e_lshr, e_lushr, e_i2l, e_l2i, e_lcmp, e_dupI, e_dupA, e_dup2, e_getI, e_getA, e_putI, e_putZ, e_getstatic, e_iaload, e_iastore, e_aaload10, e_alen10, e_aaload11, e_alen11, e_aaload12, e_alen12, e_aaload13, e_alen13, e_alen, e_invokevirtual, e_invokevirtualB, e_invokestatic, e_invokestaticB, ct_0, ct_i, ct_a, ct_l, os_0, os_s, rc_0, rc_s, sl_0, sl_i, sl_a, sl_l, simprocAttr, ix, z_em, up_eq, up_j, Nat.le_refl, true_or, or_true, true_and, and_true, and_self, or_self, beq_self_eq_true, if_true, if_false, ite_self, ca_f, ca_t, aLen, Int32.lt_iff_toInt_lt, Int32.le_iff_toInt_le, z_ite, z_iten, z_ite1, ite_not, not_true_eq_false, not_false_eq_true, false_and, and_false, false_or, or_false, b_max, b_min, b_minL, b_absL, b_ixD, b_ixH, b_copy, tk_0, tk_s, dr_0, dr_s, pu_s, pu_n, ca_0, ca_1, clr_0, clr_s, e_nop, e_goto, e_if_eq, e_if_ne, e_if_lt, e_if_ge, e_if_gt, e_if_le, e_ic_eq, e_ic_ne, e_ic_lt, e_ic_ge, e_ic_gt, e_ic_le, e_tsw, e_lsw, sw_0, sw_s, e_iret, e_zret, e_lret, e_aret, e_ret, en_0, en_n, en_i, en_a, en_l, List.getElem?_cons_zero, List.getElem?_cons_succ, List.set_cons_zero, List.set_cons_succ, len_s, List.length_nil, ne_eq, x_within, x_in, eT1, eT2, eT3, eT4, eT5, eT6, eM1, eM2, eM3, eM4, eM5, eM6, Nat.one_mul, Nat.mul_one, Nat.zero_add, hc, Int.lt_irrefl, b1']
  | succ n ih =>
    intro k μ x hk hF hv
    have hc : μ 33 6 = nI R := by rw [cs1 (b := 33) (μ := μ), hv, hp_o k (Or.inl (by decide)), hr]
    have hk8 : k < 8 := by omega
    have nk : (nI k).toInt = k := nI_toInt (by omega)
    have ck : (nI k).toNatClampNeg = k := ix_nI (by omega)
    have nR : (nI R).toInt = R := nI_toInt (by omega)
    have h1 : ((k : Nat) : Int) < (R : Int) := by omega
    have h2 : ((k : Nat) : Int) < 8 := by omega
    have h0 : (0 : Int) ≤ ((k : Nat) : Int) := by omega
    have c6 : μ (51 + k) 7 = V0 (10 + k) 6 := (cr6 (b := 33) hk8).trans (by rw [hv, hp_o k (Or.inr (Or.inl (by omega)))])
    have c0 : μ (51 + k) 0 = V0 (10 + k) 0 := (cr0 (b := 33) hk8).trans (by rw [hv, hp_o k (Or.inr (Or.inl (by omega)))])
    have c7 : μ (51 + k) 4 = V0 (10 + k) 7 := (cr7 (b := 33) hk8).trans (by rw [hv, hp_o k (Or.inr (Or.inl (by omega)))])
    have hO : 33 ≤ 51 + k ∧ 51 + k < 33 + 26 := by omega
    have ha : cl d 20 [Sum.inr (Sum.inr (2, 51 + k))] μ = _ := x_isAsked
    rw [c0] at ha
    have eU : ∀ v, vC 33 (up μ (51 + k) 4 v) = up (vC 33 μ) (10 + k) 7 v := fun v => ur7 (b := 33) hk8
    by_cases q1 : V0 (10 + k) 6 = 0
    · by_cases q2 : V0 (10 + k) 0 = 1 ∨ V0 (10 + k) 0 = 4
      · rw [if_pos q2] at ha
        have e1 : (if (V0 (10 + k) 7).toInt < h.toInt then h else V0 (10 + k) 7) = hvv V0 h k := by
          unfold hvv
          by_cases q3 : (V0 (10 + k) 7).toInt < h.toInt
          · rw [if_pos q3, if_pos ⟨⟨q1, q2⟩, q3⟩]
          · rw [if_neg q3, if_neg (fun z => q3 z.2)]
        obtain ⟨μ', b1, b2, b3⟩ := ih (k + 1) (up μ (51 + k) 4 (hvv V0 h k)) (some (vR 2 (51 + k))) (by omega) (hF.up hO) (by rw [eU, hv]; rfl)
        refine ⟨μ', ?_, b2, b3⟩
        rw [← b1, u_75_3]
        simp -implicitDefEqProofs only [u_75_0, u_75_1, u_75_2, u_75_4, u_75_5, u_75_6, u_75_7, u_75_8, e_iload_n, e_iload, e_lload_n, e_lload, e_aload_n, e_aload, e_istore_n, e_istore, e_astore_n, e_astore, e_lstore_n, e_lstore, e_iinc, e_iconst, e_bipush, e_sipush, e_ldc_w, e_ldc, e_ldcS, e_lconst, e_ldc2_w, e_iadd, e_isub, e_imul, e_iand, e_ixor, e_ishl, e_ishr, e_iushr, e_idiv, e_irem, e_ineg, e_i2b, e_i2s, e_i2c, e_ladd, e_lsub, e_lmul, e_land, e_lor, e_ldiv, e_lrem, e_lneg, e_lshl, e_lshr, e_lushr, e_i2l, e_l2i, e_lcmp, e_dupI, e_dupA, e_dup2, e_getI, e_getA, e_putI, e_putZ, e_getstatic, e_iaload, e_iastore, e_aaload10, e_alen10, e_aaload11, e_alen11, e_aaload12, e_alen12, e_aaload13, e_alen13, e_alen, e_invokevirtual, e_invokevirtualB, e_invokestatic, e_invokestaticB, ct_0, ct_i, ct_a, ct_l, os_0, os_s, rc_0, rc_s, sl_0, sl_i, sl_a, sl_l, simprocAttr, ix, z_em, up_eq, up_j, Nat.le_refl, true_or, or_true, true_and, and_true, and_self, or_self, beq_self_eq_true, if_true, if_false, ite_self, ca_f, ca_t, aLen, Int32.lt_iff_toInt_lt, Int32.le_iff_toInt_le, z_ite, z_iten, z_ite1, ite_not, not_true_eq_false, not_false_eq_true, false_and, and_false, false_or, or_false, b_max, b_min, b_minL, b_absL, b_ixD, b_ixH, b_copy, tk_0, tk_s, dr_0, dr_s, pu_s, pu_n, ca_0, ca_1, clr_0, clr_s, e_nop, e_goto, e_if_eq, e_if_ne, e_if_lt, e_if_ge, e_if_gt, e_if_le, e_ic_eq, e_ic_ne, e_ic_lt, e_ic_ge, e_ic_gt, e_ic_le, e_tsw, e_lsw, sw_0, sw_s, e_iret, e_zret, e_lret, e_aret, e_ret, en_0, en_n, en_i, en_a, en_l, List.getElem?_cons_zero, List.getElem?_cons_succ, List.set_cons_zero, List.set_cons_succ, len_s, List.length_nil, ne_eq, x_within, x_in, eT1, eT2, eT3, eT4, eT5, eT6, eM1, eM2, eM3, eM4, eM5, eM6, Nat.one_mul, Nat.mul_one, Nat.zero_add, hc, nk, ck, nR, h1, h2, h0, c6, q1, ha, c7, e1, ← nI_succ]
      · rw [if_neg q2] at ha
        have e1 : hvv V0 h k = V0 (10 + k) 7 := if_neg (fun z => q2 z.1.2)
        obtain ⟨μ', b1, b2, b3⟩ := ih (k + 1) μ (some (vR 2 (51 + k))) (by omega) hF (by
          show vC 33 μ = up (hpV h V0 k) (10 + k) 7 (hvv V0 h k)
          rw [hv, up_self (by rw [e1, hp_o k (Or.inr (Or.inl (by omega)))])])
        refine ⟨μ', ?_, b2, b3⟩
        rw [← b1, u_75_3]
        simp -implicitDefEqProofs only [u_75_0, u_75_1, u_75_2, u_75_4, u_75_5, u_75_6, u_75_7, u_75_8, e_iload_n, e_iload, e_lload_n, e_lload, e_aload_n, e_aload, e_istore_n, e_istore, e_astore_n, e_astore, e_lstore_n, e_lstore, e_iinc, e_iconst, e_bipush, e_sipush, e_ldc_w, e_ldc, e_ldcS, e_lconst, e_ldc2_w, e_iadd, e_isub, e_imul, e_iand, e_ixor, e_ishl, e_ishr, e_iushr, e_idiv, e_irem, e_ineg, e_i2b, e_i2s, e_i2c, e_ladd, e_lsub, e_lmul, e_land, e_lor, e_ldiv, e_lrem, e_lneg, e_lshl, e_lshr, e_lushr, e_i2l, e_l2i, e_lcmp, e_dupI, e_dupA, e_dup2, e_getI, e_getA, e_putI, e_putZ, e_getstatic, e_iaload, e_iastore, e_aaload10, e_alen10, e_aaload11, e_alen11, e_aaload12, e_alen12, e_aaload13, e_alen13, e_alen, e_invokevirtual, e_invokevirtualB, e_invokestatic, e_invokestaticB, ct_0, ct_i, ct_a, ct_l, os_0, os_s, rc_0, rc_s, sl_0, sl_i, sl_a, sl_l, simprocAttr, ix, z_em, up_eq, up_j, Nat.le_refl, true_or, or_true, true_and, and_true, and_self, or_self, beq_self_eq_true, if_true, if_false, ite_self, ca_f, ca_t, aLen, Int32.lt_iff_toInt_lt, Int32.le_iff_toInt_le, z_ite, z_iten, z_ite1, ite_not, not_true_eq_false, not_false_eq_true, false_and, and_false, false_or, or_false, b_max, b_min, b_minL, b_absL, b_ixD, b_ixH, b_copy, tk_0, tk_s, dr_0, dr_s, pu_s, pu_n, ca_0, ca_1, clr_0, clr_s, e_nop, e_goto, e_if_eq, e_if_ne, e_if_lt, e_if_ge, e_if_gt, e_if_le, e_ic_eq, e_ic_ne, e_ic_lt, e_ic_ge, e_ic_gt, e_ic_le, e_tsw, e_lsw, sw_0, sw_s, e_iret, e_zret, e_lret, e_aret, e_ret, en_0, en_n, en_i, en_a, en_l, List.getElem?_cons_zero, List.getElem?_cons_succ, List.set_cons_zero, List.set_cons_succ, len_s, List.length_nil, ne_eq, x_within, x_in, eT1, eT2, eT3, eT4, eT5, eT6, eM1, eM2, eM3, eM4, eM5, eM6, Nat.one_mul, Nat.mul_one, Nat.zero_add, hc, nk, ck, nR, h1, h2, h0, c6, q1, ha, ← nI_succ]
    · have e1 : hvv V0 h k = V0 (10 + k) 7 := if_neg (fun z => q1 z.1.1)
      obtain ⟨μ', b1, b2, b3⟩ := ih (k + 1) μ (some (vR 2 (51 + k))) (by omega) hF (by
        show vC 33 μ = up (hpV h V0 k) (10 + k) 7 (hvv V0 h k)
        rw [hv, up_self (by rw [e1, hp_o k (Or.inr (Or.inl (by omega)))])])
      refine ⟨μ', ?_, b2, b3⟩
      rw [← b1, u_75_3]
      simp -implicitDefEqProofs only [u_75_0, u_75_1, u_75_2, u_75_4, u_75_5, u_75_6, u_75_7, u_75_8, e_iload_n, e_iload, e_lload_n, e_lload, e_aload_n, e_aload, e_istore_n, e_istore, e_astore_n, e_astore, e_lstore_n, e_lstore, e_iinc, e_iconst, e_bipush, e_sipush, e_ldc_w, e_ldc, e_ldcS, e_lconst, e_ldc2_w, e_iadd, e_isub, e_imul, e_iand, e_ixor, e_ishl, e_ishr, e_iushr, e_idiv, e_irem, e_ineg, e_i2b, e_i2s, e_i2c, e_ladd, e_lsub, e_lmul, e_land, e_lor, e_ldiv, e_lrem, e_lneg, e_lshl, e_lshr, e_lushr, e_i2l, e_l2i, e_lcmp, e_dupI, e_dupA, e_dup2, e_getI, e_getA, e_putI, e_putZ, e_getstatic, e_iaload, e_iastore, e_aaload10, e_alen10, e_aaload11, e_alen11, e_aaload12, e_alen12, e_aaload13, e_alen13, e_alen, e_invokevirtual, e_invokevirtualB, e_invokestatic, e_invokestaticB, ct_0, ct_i, ct_a, ct_l, os_0, os_s, rc_0, rc_s, sl_0, sl_i, sl_a, sl_l, simprocAttr, ix, z_em, up_eq, up_j, Nat.le_refl, true_or, or_true, true_and, and_true, and_self, or_self, beq_self_eq_true, if_true, if_false, ite_self, ca_f, ca_t, aLen, Int32.lt_iff_toInt_lt, Int32.le_iff_toInt_le, z_ite, z_iten, z_ite1, ite_not, not_true_eq_false, not_false_eq_true, false_and, and_false, false_or, or_false, b_max, b_min, b_minL, b_absL, b_ixD, b_ixH, b_copy, tk_0, tk_s, dr_0, dr_s, pu_s, pu_n, ca_0, ca_1, clr_0, clr_s, e_nop, e_goto, e_if_eq, e_if_ne, e_if_lt, e_if_ge, e_if_gt, e_if_le, e_ic_eq, e_ic_ne, e_ic_lt, e_ic_ge, e_ic_gt, e_ic_le, e_tsw, e_lsw, sw_0, sw_s, e_iret, e_zret, e_lret, e_aret, e_ret, en_0, en_n, en_i, en_a, en_l, List.getElem?_cons_zero, List.getElem?_cons_succ, List.set_cons_zero, List.set_cons_succ, len_s, List.length_nil, ne_eq, x_within, x_in, eT1, eT2, eT3, eT4, eT5, eT6, eM1, eM2, eM3, eM4, eM5, eM6, Nat.one_mul, Nat.mul_one, Nat.zero_add, hc, nk, ck, nR, h1, h2, h0, c6, q1, ← nI_succ]
def FrH (μ0 μ : Mem) : Prop := (∀ o, o ≠ 113 → o ≠ 115 → o ≠ 118 → o ≠ 119 → o ≠ 120 → μ o = μ0 o) ∧ ∀ c, (∀ r, r < 8 → c ≠ 106 + 8 * r + 7) → μ 113 c = μ0 113 c
/-- the way back: what was put off is put back -/
theorem k_heap2 {d R : Nat} {h wt wt2 : Int32} {μ0 : Mem} (hR : R ≤ 8) (hr : vM 113 μ0 0 1 = nI R) : ∀ n k μ, k + n = R → FrH μ0 μ → (∀ j, j < R → μ 120 j = vM 113 μ0 (10 + j) 7) → (∀ j, j < k → μ 113 (106 + 8 * j + 7) = vM 113 μ0 (10 + j) 7) → (∀ j, R ≤ j → j < 8 → μ 113 (106 + 8 * j + 7) = vM 113 μ0 (10 + j) 7) → ∃ μ', res d 168 15 [some (vR 8 112), some (vI h), some (vI wt), some (vI wt2), some (vI (nI k))] [] μ = some (some (vI (wt2 - wt)), μ') ∧ (∀ o, o ≠ 115 → o ≠ 118 → o ≠ 119 → o ≠ 120 → μ' o = μ0 o) := by
  intro n
  induction n with
  | zero =>
    intro k μ hk hF ho hj hj2
    have hk : k = R := by omega
    subst hk
    have hr1 : μ 113 1 = nI k := by rw [hF.2 1 (fun r hr => by omega), ms1 (m := 113) (μ := μ0), hr]
    refine ⟨μ, ?_, fun o p1 p2 p3 p4 => ?_⟩
    · rw [u_168_15]
      simp -implicitDefEqProofs only [u_168_0, u_168_1, u_168_2, u_168_4, u_168_5, u_168_6, u_168_7, u_168_8, u_168_9, u_168_10, u_168_11, u_168_12, u_168_13, u_168_14, u_168_16, u_168_17, e_iload_n, e_iload, e_lload_n, e_lload, e_aload_n, e_aload, e_istore_n, e_istore, e_astore_n, e_astore, e_lstore_n, e_lstore, e_iinc, e_iconst, e_bipush, e_sipush, e_ldc_w, e_ldc, e_ldcS, e_lconst, e_ldc2_w, e_iadd, e_isub, e_imul, e_iand, e_ixor, e_ishl, e_ishr, e_iushr, e_idiv, e_irem, e_ineg, e_i2b, e_i2s, e_i2c, e_ladd, e_lsub, e_lmul, e_land, e_lor, e_ldiv, e_lrem, e_lneg, e_lshl, e_lshr, e_lushr, e_i2l, e_l2i, e_lcmp, e_dupI, e_dupA, e_dup2, e_getI, e_getA, e_putI, e_putZ, e_getstatic, e_iaload, e_iastore, e_aaload10, e_alen10, e_aaload11, e_alen11, e_aaload12, e_alen12, e_aaload13, e_alen13, e_alen, e_invokevirtual, e_invokevirtualB, e_invokestatic, e_invokestaticB, ct_0, ct_i, ct_a, ct_l, os_0, os_s, rc_0, rc_s, sl_0, sl_i, sl_a, sl_l, simprocAttr, ix, z_em, up_eq, up_j, Nat.le_refl, true_or, or_true, true_and, and_true, and_self, or_self, beq_self_eq_true, if_true, if_false, ite_self, ca_f, ca_t, aLen, Int32.lt_iff_toInt_lt, Int32.le_iff_toInt_le, z_ite, z_iten, z_ite1, ite_not, not_true_eq_false, not_false_eq_true, false_and, and_false, false_or, or_false, b_max, b_min, b_minL, b_absL, b_ixD, b_ixH, b_copy, tk_0, tk_s, dr_0, dr_s, pu_s, pu_n, ca_0, ca_1, clr_0, clr_s, e_nop, e_goto, e_if_eq, e_if_ne, e_if_lt, e_if_ge, e_if_gt, e_if_le, e_ic_eq, e_ic_ne, e_ic_lt, e_ic_ge, e_ic_gt, e_ic_le, e_tsw, e_lsw, sw_0, sw_s, e_iret, e_zret, e_lret, e_aret, e_ret, en_0, en_n, en_i, en_a, en_l, List.getElem?_cons_zero, List.getElem?_cons_succ, List.set_cons_zero, List.set_cons_succ, len_s, List.length_nil, ne_eq, x_within, x_in, eT1, eT2, eT3, eT4, eT5, eT6, eM1, eM2, eM3, eM4, eM5, eM6, Nat.one_mul, Nat.mul_one, Nat.zero_add, hr1, Int.lt_irrefl]
    · by_cases q : o = 113
      · subst q
        funext c
        by_cases z : ∃ r, r < 8 ∧ c = 106 + 8 * r + 7
        · obtain ⟨r, hr8, rfl⟩ := z
          rw [mr (m := 113) (μ := μ0) hr8 (show 7 < 8 by decide)]
          by_cases y : r < k
          · exact hj r y
          · exact hj2 r (by omega) hr8
        · exact hF.2 c (fun r hr8 e => z ⟨r, hr8, e⟩)
      · exact hF.1 o q p1 p2 p3 p4
  | succ n ih =>
    intro k μ hk hF ho hj hj2
    have hr1 : μ 113 1 = nI R := by rw [hF.2 1 (fun r hr => by omega), ms1 (m := 113) (μ := μ0), hr]
    have hk8 : k < 8 := by omega
    have nk : (nI k).toInt = k := nI_toInt (by omega)
    have ck : (nI k).toNatClampNeg = k := ix_nI (by omega)
    have nR : (nI R).toInt = R := nI_toInt (by omega)
    have h1 : ((k : Nat) : Int) < (R : Int) := by omega
    have h2 : ((k : Nat) : Int) < 8 := by omega
    have h0 : (0 : Int) ≤ ((k : Nat) : Int) := by omega
    have a7 : 106 + 8 * nI k + 7 = nI (106 + 8 * k + 7) := ad_r hk8 (by decide) rfl
    have iA : (nI (106 + 8 * k + 7)).toInt = (106 + 8 * k + 7 : Nat) := nI_toInt (by omega)
    have cA : (nI (106 + 8 * k + 7)).toNatClampNeg = 106 + 8 * k + 7 := ix_nI (by omega)
    have bA : (0 : Int) ≤ ((106 + 8 * k + 7 : Nat) : Int) ∧ ((106 + 8 * k + 7 : Nat) : Int) < 504 := by omega
    have ok := ho k (by omega)
    obtain ⟨μ', b1, b2⟩ := ih (k + 1) (up μ 113 (106 + 8 * k + 7) (vM 113 μ0 (10 + k) 7)) (by omega) ⟨fun o p0 p1 p2 p3 p4 => by rw [up_ne p0]; exact hF.1 o p0 p1 p2 p3 p4, fun c hc => by rw [up_j (hc k hk8)]; exact hF.2 c hc⟩ (fun j hjR => by rw [up_o (by decide)]; exact ho j hjR) (fun j hjk => by
      by_cases q : j = k
      · subst q
        rw [up_eq]
      · rw [up_j (by omega)]
        exact hj j (by omega)) (fun j p1 p2 => by rw [up_j (by omega)]; exact hj2 j p1 p2)
    refine ⟨μ', ?_, b2⟩
    rw [← b1, u_168_15]
    simp -implicitDefEqProofs only [u_168_0, u_168_1, u_168_2, u_168_4, u_168_5, u_168_6, u_168_7, u_168_8, u_168_9, u_168_10, u_168_11, u_168_12, u_168_13, u_168_14, u_168_16, u_168_17, e_iload_n, e_iload, e_lload_n, e_lload, e_aload_n, e_aload, e_istore_n, e_istore, e_astore_n, e_astore, e_lstore_n, e_lstore, e_iinc, e_iconst, e_bipush, e_sipush, e_ldc_w, e_ldc, e_ldcS, e_lconst, e_ldc2_w, e_iadd, e_isub, e_imul, e_iand, e_ixor, e_ishl, e_ishr, e_iushr, e_idiv, e_irem, e_ineg, e_i2b, e_i2s, e_i2c, e_ladd, e_lsub, e_lmul, e_land, e_lor, e_ldiv, e_lrem, e_lneg, e_lshl, e_lshr, e_lushr, e_i2l, e_l2i, e_lcmp, e_dupI, e_dupA, e_dup2, e_getI, e_getA, e_putI, e_putZ, e_getstatic, e_iaload, e_iastore, e_aaload10, e_alen10, e_aaload11, e_alen11, e_aaload12, e_alen12, e_aaload13, e_alen13, e_alen, e_invokevirtual, e_invokevirtualB, e_invokestatic, e_invokestaticB, ct_0, ct_i, ct_a, ct_l, os_0, os_s, rc_0, rc_s, sl_0, sl_i, sl_a, sl_l, simprocAttr, ix, z_em, up_eq, up_j, Nat.le_refl, true_or, or_true, true_and, and_true, and_self, or_self, beq_self_eq_true, if_true, if_false, ite_self, ca_f, ca_t, aLen, Int32.lt_iff_toInt_lt, Int32.le_iff_toInt_le, z_ite, z_iten, z_ite1, ite_not, not_true_eq_false, not_false_eq_true, false_and, and_false, false_or, or_false, b_max, b_min, b_minL, b_absL, b_ixD, b_ixH, b_copy, tk_0, tk_s, dr_0, dr_s, pu_s, pu_n, ca_0, ca_1, clr_0, clr_s, e_nop, e_goto, e_if_eq, e_if_ne, e_if_lt, e_if_ge, e_if_gt, e_if_le, e_ic_eq, e_ic_ne, e_ic_lt, e_ic_ge, e_ic_gt, e_ic_le, e_tsw, e_lsw, sw_0, sw_s, e_iret, e_zret, e_lret, e_aret, e_ret, en_0, en_n, en_i, en_a, en_l, List.getElem?_cons_zero, List.getElem?_cons_succ, List.set_cons_zero, List.set_cons_succ, len_s, List.length_nil, ne_eq, x_within, x_in, eT1, eT2, eT3, eT4, eT5, eT6, eM1, eM2, eM3, eM4, eM5, eM6, Nat.one_mul, Nat.mul_one, Nat.zero_add, hr1, nk, ck, nR, h1, h2, h0, a7, iA, cA, if_pos bA, ok, ← nI_succ]
theorem k_heap1 {d R : Nat} {h wt : Int32} {μ0 : Mem} (hR : R ≤ 8) (hr : vM 113 μ0 0 1 = nI R) (hW : WFV (vM 113 μ0)) (hD : WFD (vM 113 μ0)) (hL : LWM μ0) (hh : 0 ≤ h.toInt ∧ h.toInt ≤ 999) (hm : (vM 113 μ0 0 2).toInt ≤ 9999) : ∀ n k μ (x : Option AV), k + n = R → FrH μ0 μ → vM 113 μ = hpV h (vM 113 μ0) k → (∀ j, j < k → μ 120 j = vM 113 μ0 (10 + j) 7) → ∃ μ', res d 168 3 [some (vR 8 112), some (vI h), some (vI wt), some (vI (nI k)), x] [] μ = some (some (vI (timesP (minP (mn 99999) (txM μ0) (-1)) 600 (hpV h (vM 113 μ0) R) 0 5 - wt)), μ') ∧ (∀ o, o ≠ 115 → o ≠ 118 → o ≠ 119 → o ≠ 120 → μ' o = μ0 o) := by
  intro n
  induction n with
  | zero =>
    intro k μ x hk hF hv ho
    have hk : k = R := by omega
    subst hk
    have hr1 : μ 113 1 = nI k := by rw [hF.2 1 (fun r hr => by omega), ms1 (m := 113) (μ := μ0), hr]
    have hFM : FrM μ0 (cpR μ0 113 113 0) → True := fun _ => trivial
    have hk170 : ∀ c, 170 ≤ c → μ 113 c = μ0 113 c := fun c hc => hF.2 c (fun r hr => by omega)
    have hcode : ∀ u, codeM (μ 113) u = codeM (μ0 113) u := fun u => by
      funext i
      unfold codeM
      rw [hk170 _ (by omega), hk170 _ (by omega)]
    have hLμ : LWM μ := fun u hu => by
      rw [hk170 (170 + 125 * u) (by omega), hcode]
      refine ⟨(hL u hu).1, fun z => ⟨fun i hi => ?_, ((hL u hu).2 z).2⟩⟩
      have w := ((hL u hu).2 z).1 i hi
      rw [hk170 (170 + 125 * u + 1 + 2 * i) (by omega), hk170 (170 + 125 * u + 2 + 2 * i) (by omega), hcode]
      exact w
    have htx : txM μ = txM μ0 := by
      funext u a1 a2 a3 a4
      unfold txM
      rw [hk170 (170 + 125 * u) (by omega), hcode]
    obtain ⟨μ1, x1, x2⟩ := y_waitedBy (d := d) (n := 600) (μ := μ) hLμ (by rw [hv]; exact hp_wf hW hh k hR) (by rw [hv]; exact hp_wd hW hD hh hR) (by decide) (by rw [hv, hp_o k (Or.inl (by decide))]; show _ + 600 ≤ (15001 : Int); omega)
    rw [hv, htx] at x1
    have x1' : cl d 161 [Sum.inr (Sum.inr (8, 112)), vI 600] μ = some (some (vI (timesP (minP (mn 99999) (txM μ0) (-1)) 600 (hpV h (vM 113 μ0) k) 0 5)), μ1) := x1
    obtain ⟨μ2, y1, y2⟩ := k_heap2 (d := d) (R := k) (h := h) (wt := wt) (wt2 := timesP (minP (mn 99999) (txM μ0) (-1)) 600 (hpV h (vM 113 μ0) k) 0 5) (μ0 := μ0) hR hr k 0 μ1 (by omega) ⟨fun o p0 p1 p2 p3 p4 => by rw [x2 o p1 p2 p3]; exact hF.1 o p0 p1 p2 p3 p4, fun c hc => by rw [x2 113 (by omega) (by omega) (by omega)]; exact hF.2 c hc⟩ (fun j hjk => by rw [x2 120 (by omega) (by omega) (by omega)]; exact ho j hjk) (fun j hj => by omega) (fun j p1 p2 => by
      rw [x2 113 (by omega) (by omega) (by omega), mr (m := 113) (μ := μ) p2 (show 7 < 8 by decide), hv, hp_o k (Or.inr (Or.inl (by omega)))])
    have z0 : (vI (nI 0) : AV) = vI 0 := rfl
    rw [z0] at y1
    refine ⟨μ2, ?_, y2⟩
    rw [← y1, u_168_3]
    simp -implicitDefEqProofs only [u_168_0, u_168_1, u_168_2, u_168_4, u_168_5, u_168_6, u_168_7, u_168_8, u_168_9, u_168_10, u_168_11, u_168_12, u_168_13, u_168_14, u_168_16, u_168_17, e_iload_n, e_iload, e_lload_n, e_lload, e_aload_n, e_aload, e_istore_n, e_istore, e_astore_n, e_astore, e_lstore_n, e_lstore, e_iinc, e_iconst, e_bipush, e_sipush, e_ldc_w, e_ldc, e_ldcS, e_lconst, e_ldc2_w, e_iadd, e_isub, e_imul, e_iand, e_ixor, e_ishl, e_ishr, e_iushr, e_idiv, e_irem, e_ineg, e_i2b, e_i2s, e_i2c, e_ladd, e_lsub, e_lmul, e_land, e_lor, e_ldiv, e_lrem, e_lneg, e_lshl, e_lshr, e_lushr, e_i2l, e_l2i, e_lcmp, e_dupI, e_dupA, e_dup2, e_getI, e_getA, e_putI, e_putZ, e_getstatic, e_iaload, e_iastore, e_aaload10, e_alen10, e_aaload11, e_alen11, e_aaload12, e_alen12, e_aaload13, e_alen13, e_alen, e_invokevirtual, e_invokevirtualB, e_invokestatic, e_invokestaticB, ct_0, ct_i, ct_a, ct_l, os_0, os_s, rc_0, rc_s, sl_0, sl_i, sl_a, sl_l, simprocAttr, ix, z_em, up_eq, up_j, Nat.le_refl, true_or, or_true, true_and, and_true, and_self, or_self, beq_self_eq_true, if_true, if_false, ite_self, ca_f, ca_t, aLen, Int32.lt_iff_toInt_lt, Int32.le_iff_toInt_le, z_ite, z_iten, z_ite1, ite_not, not_true_eq_false, not_false_eq_true, false_and, and_false, false_or, or_false, b_max, b_min, b_minL, b_absL, b_ixD, b_ixH, b_copy, tk_0, tk_s, dr_0, dr_s, pu_s, pu_n, ca_0, ca_1, clr_0, clr_s, e_nop, e_goto, e_if_eq, e_if_ne, e_if_lt, e_if_ge, e_if_gt, e_if_le, e_ic_eq, e_ic_ne, e_ic_lt, e_ic_ge, e_ic_gt, e_ic_le, e_tsw, e_lsw, sw_0, sw_s, e_iret, e_zret, e_lret, e_aret, e_ret, en_0, en_n, en_i, en_a, en_l, List.getElem?_cons_zero, List.getElem?_cons_succ, List.set_cons_zero, List.set_cons_succ, len_s, List.length_nil, ne_eq, x_within, x_in, eT1, eT2, eT3, eT4, eT5, eT6, eM1, eM2, eM3, eM4, eM5, eM6, Nat.one_mul, Nat.mul_one, Nat.zero_add, hr1, Int.lt_irrefl, x1']
  | succ n ih =>
    intro k μ x hk hF hv ho
    have hr1 : μ 113 1 = nI R := by rw [hF.2 1 (fun r hr => by omega), ms1 (m := 113) (μ := μ0), hr]
    have hk8 : k < 8 := by omega
    have nk : (nI k).toInt = k := nI_toInt (by omega)
    have ck : (nI k).toNatClampNeg = k := ix_nI (by omega)
    have nR : (nI R).toInt = R := nI_toInt (by omega)
    have h1 : ((k : Nat) : Int) < (R : Int) := by omega
    have h2 : ((k : Nat) : Int) < 8 := by omega
    have h0 : (0 : Int) ≤ ((k : Nat) : Int) := by omega
    have a7 : 106 + 8 * nI k + 7 = nI (106 + 8 * k + 7) := ad_r hk8 (by decide) rfl
    have iA : (nI (106 + 8 * k + 7)).toInt = (106 + 8 * k + 7 : Nat) := nI_toInt (by omega)
    have cA : (nI (106 + 8 * k + 7)).toNatClampNeg = 106 + 8 * k + 7 := ix_nI (by omega)
    have bA : (0 : Int) ≤ ((106 + 8 * k + 7 : Nat) : Int) ∧ ((106 + 8 * k + 7 : Nat) : Int) < 504 := by omega
    have e : ∀ j, vM 113 μ (10 + k) j = vM 113 μ0 (10 + k) j := fun j => by rw [hv, hp_o k (Or.inr (Or.inl (by omega)))]
    have hM : ∃ μa, μa = up μ 120 k (vM 113 μ0 (10 + k) 7) := ⟨_, rfl⟩
    obtain ⟨μa, ea⟩ := hM
    have va : vM 113 μa = vM 113 μ := by rw [ea]; exact vM_un (by decide)
    have y7 : cl d 113 [Sum.inr (Sum.inr (8, 112)), vI (nI k), vI 7] μ = some (some (vI (vM 113 μ0 (10 + k) 7)), μ) := by
      have := yo7 (d := d) (μ := μ) hk8
      rw [e] at this
      exact this
    have y6 : cl d 114 [Sum.inr (Sum.inr (8, 112)), vI (nI k)] μa = some (some (vI (if vM 113 μ0 (10 + k) 6 = 1 then 1 else 0)), μa) := by
      have := y_has (d := d) (μ := μa) hk8
      rw [va, e] at this
      exact this
    have y0 : cl d 113 [Sum.inr (Sum.inr (8, 112)), vI (nI k), vI 0] μa = some (some (vI (vM 113 μ0 (10 + k) 0)), μa) := by
      have := yo0 (d := d) (μ := μa) hk8
      rw [va, e] at this
      exact this
    have oa : μa 120 k = vM 113 μ0 (10 + k) 7 := by rw [ea, up_eq]
    have g6 := gr6 hW hk8
    have hI : ∀ x, ∃ μ', res d 168 3 [some (vR 8 112), some (vI h), some (vI wt), some (vI (nI (k + 1))), some (vI x)] [] (up μa 113 (106 + 8 * k + 7) (hvv (vM 113 μ0) h k)) = some (some (vI (timesP (minP (mn 99999) (txM μ0) (-1)) 600 (hpV h (vM 113 μ0) R) 0 5 - wt)), μ') ∧ (∀ o, o ≠ 115 → o ≠ 118 → o ≠ 119 → o ≠ 120 → μ' o = μ0 o) := fun x => ih (k + 1) _ _ (by omega) ⟨fun o p0 p1 p2 p3 p4 => by rw [up_ne p0, ea, up_ne p4]; exact hF.1 o p0 p1 p2 p3 p4, fun c hc => by rw [up_j (hc k hk8), ea, up_o (by decide)]; exact hF.2 c hc⟩ (by rw [umr hk8 (by decide), va, hv]; rfl) (fun j hj => by
      rw [up_o (by decide), ea]
      by_cases q : j = k
      · subst q
        rw [up_eq]
      · rw [up_j q]
        exact ho j (by omega))
    by_cases q1 : vM 113 μ0 (10 + k) 6 = 1
    · have ev : hvv (vM 113 μ0) h k = vM 113 μ0 (10 + k) 7 := if_neg (fun z => by rw [q1] at z; exact absurd z.1.1 (by decide))
      obtain ⟨μ', b1, b2⟩ := hI 0
      refine ⟨μ', ?_, b2⟩
      rw [ev] at b1
      rw [← b1, u_168_3]
      simp -implicitDefEqProofs only [u_168_0, u_168_1, u_168_2, u_168_4, u_168_5, u_168_6, u_168_7, u_168_8, u_168_9, u_168_10, u_168_11, u_168_12, u_168_13, u_168_14, u_168_16, u_168_17, e_iload_n, e_iload, e_lload_n, e_lload, e_aload_n, e_aload, e_istore_n, e_istore, e_astore_n, e_astore, e_lstore_n, e_lstore, e_iinc, e_iconst, e_bipush, e_sipush, e_ldc_w, e_ldc, e_ldcS, e_lconst, e_ldc2_w, e_iadd, e_isub, e_imul, e_iand, e_ixor, e_ishl, e_ishr, e_iushr, e_idiv, e_irem, e_ineg, e_i2b, e_i2s, e_i2c, e_ladd, e_lsub, e_lmul, e_land, e_lor, e_ldiv, e_lrem, e_lneg, e_lshl, e_lshr, e_lushr, e_i2l, e_l2i, e_lcmp, e_dupI, e_dupA, e_dup2, e_getI, e_getA, e_putI, e_putZ, e_getstatic, e_iaload, e_iastore, e_aaload10, e_alen10, e_aaload11, e_alen11, e_aaload12, e_alen12, e_aaload13, e_alen13, e_alen, e_invokevirtual, e_invokevirtualB, e_invokestatic, e_invokestaticB, ct_0, ct_i, ct_a, ct_l, os_0, os_s, rc_0, rc_s, sl_0, sl_i, sl_a, sl_l, simprocAttr, ix, z_em, up_eq, up_j, Nat.le_refl, true_or, or_true, true_and, and_true, and_self, or_self, beq_self_eq_true, if_true, if_false, ite_self, ca_f, ca_t, aLen, Int32.lt_iff_toInt_lt, Int32.le_iff_toInt_le, z_ite, z_iten, z_ite1, ite_not, not_true_eq_false, not_false_eq_true, false_and, and_false, false_or, or_false, b_max, b_min, b_minL, b_absL, b_ixD, b_ixH, b_copy, tk_0, tk_s, dr_0, dr_s, pu_s, pu_n, ca_0, ca_1, clr_0, clr_s, e_nop, e_goto, e_if_eq, e_if_ne, e_if_lt, e_if_ge, e_if_gt, e_if_le, e_ic_eq, e_ic_ne, e_ic_lt, e_ic_ge, e_ic_gt, e_ic_le, e_tsw, e_lsw, sw_0, sw_s, e_iret, e_zret, e_lret, e_aret, e_ret, en_0, en_n, en_i, en_a, en_l, List.getElem?_cons_zero, List.getElem?_cons_succ, List.set_cons_zero, List.set_cons_succ, len_s, List.length_nil, ne_eq, x_within, x_in, eT1, eT2, eT3, eT4, eT5, eT6, eM1, eM2, eM3, eM4, eM5, eM6, Nat.one_mul, Nat.mul_one, Nat.zero_add, hr1, nk, ck, nR, h1, h2, h0, y7, ← ea, y6, if_pos q1, oa, a7, iA, cA, if_pos bA, ← nI_succ]
    · have q0 : vM 113 μ0 (10 + k) 6 = 0 := by
        have hn : ¬ (vM 113 μ0 (10 + k) 6).toInt = 1 := fun z => q1 (Int32.toInt_inj.mp z)
        exact Int32.toInt_inj.mp (by have z : (0 : Int32).toInt = 0 := rfl; omega)
      by_cases q2 : vM 113 μ0 (10 + k) 0 = 1 ∨ vM 113 μ0 (10 + k) 0 = 4
      · by_cases q3 : (vM 113 μ0 (10 + k) 7).toInt < h.toInt
        · have ev : hvv (vM 113 μ0) h k = h := if_pos ⟨⟨q0, q2⟩, q3⟩
          obtain ⟨μ', b1, b2⟩ := hI 1
          refine ⟨μ', ?_, b2⟩
          rw [ev] at b1
          rw [← b1, u_168_3]
          rcases q2 with q2 | q2
          · simp -implicitDefEqProofs only [u_168_0, u_168_1, u_168_2, u_168_4, u_168_5, u_168_6, u_168_7, u_168_8, u_168_9, u_168_10, u_168_11, u_168_12, u_168_13, u_168_14, u_168_16, u_168_17, e_iload_n, e_iload, e_lload_n, e_lload, e_aload_n, e_aload, e_istore_n, e_istore, e_astore_n, e_astore, e_lstore_n, e_lstore, e_iinc, e_iconst, e_bipush, e_sipush, e_ldc_w, e_ldc, e_ldcS, e_lconst, e_ldc2_w, e_iadd, e_isub, e_imul, e_iand, e_ixor, e_ishl, e_ishr, e_iushr, e_idiv, e_irem, e_ineg, e_i2b, e_i2s, e_i2c, e_ladd, e_lsub, e_lmul, e_land, e_lor, e_ldiv, e_lrem, e_lneg, e_lshl, e_lshr, e_lushr, e_i2l, e_l2i, e_lcmp, e_dupI, e_dupA, e_dup2, e_getI, e_getA, e_putI, e_putZ, e_getstatic, e_iaload, e_iastore, e_aaload10, e_alen10, e_aaload11, e_alen11, e_aaload12, e_alen12, e_aaload13, e_alen13, e_alen, e_invokevirtual, e_invokevirtualB, e_invokestatic, e_invokestaticB, ct_0, ct_i, ct_a, ct_l, os_0, os_s, rc_0, rc_s, sl_0, sl_i, sl_a, sl_l, simprocAttr, ix, z_em, up_eq, up_j, Nat.le_refl, true_or, or_true, true_and, and_true, and_self, or_self, beq_self_eq_true, if_true, if_false, ite_self, ca_f, ca_t, aLen, Int32.lt_iff_toInt_lt, Int32.le_iff_toInt_le, z_ite, z_iten, z_ite1, ite_not, not_true_eq_false, not_false_eq_true, false_and, and_false, false_or, or_false, b_max, b_min, b_minL, b_absL, b_ixD, b_ixH, b_copy, tk_0, tk_s, dr_0, dr_s, pu_s, pu_n, ca_0, ca_1, clr_0, clr_s, e_nop, e_goto, e_if_eq, e_if_ne, e_if_lt, e_if_ge, e_if_gt, e_if_le, e_ic_eq, e_ic_ne, e_ic_lt, e_ic_ge, e_ic_gt, e_ic_le, e_tsw, e_lsw, sw_0, sw_s, e_iret, e_zret, e_lret, e_aret, e_ret, en_0, en_n, en_i, en_a, en_l, List.getElem?_cons_zero, List.getElem?_cons_succ, List.set_cons_zero, List.set_cons_succ, len_s, List.length_nil, ne_eq, x_within, x_in, eT1, eT2, eT3, eT4, eT5, eT6, eM1, eM2, eM3, eM4, eM5, eM6, Nat.one_mul, Nat.mul_one, Nat.zero_add, hr1, nk, ck, nR, h1, h2, h0, y7, ← ea, y6, if_neg q1, y0, q2, oa, q3, a7, iA, cA, if_pos bA, ← nI_succ]
          · simp -implicitDefEqProofs only [u_168_0, u_168_1, u_168_2, u_168_4, u_168_5, u_168_6, u_168_7, u_168_8, u_168_9, u_168_10, u_168_11, u_168_12, u_168_13, u_168_14, u_168_16, u_168_17, e_iload_n, e_iload, e_lload_n, e_lload, e_aload_n, e_aload, e_istore_n, e_istore, e_astore_n, e_astore, e_lstore_n, e_lstore, e_iinc, e_iconst, e_bipush, e_sipush, e_ldc_w, e_ldc, e_ldcS, e_lconst, e_ldc2_w, e_iadd, e_isub, e_imul, e_iand, e_ixor, e_ishl, e_ishr, e_iushr, e_idiv, e_irem, e_ineg, e_i2b, e_i2s, e_i2c, e_ladd, e_lsub, e_lmul, e_land, e_lor, e_ldiv, e_lrem, e_lneg, e_lshl, e_lshr, e_lushr, e_i2l, e_l2i, e_lcmp, e_dupI, e_dupA, e_dup2, e_getI, e_getA, e_putI, e_putZ, e_getstatic, e_iaload, e_iastore, e_aaload10, e_alen10, e_aaload11, e_alen11, e_aaload12, e_alen12, e_aaload13, e_alen13, e_alen, e_invokevirtual, e_invokevirtualB, e_invokestatic, e_invokestaticB, ct_0, ct_i, ct_a, ct_l, os_0, os_s, rc_0, rc_s, sl_0, sl_i, sl_a, sl_l, simprocAttr, ix, z_em, up_eq, up_j, Nat.le_refl, true_or, or_true, true_and, and_true, and_self, or_self, beq_self_eq_true, if_true, if_false, ite_self, ca_f, ca_t, aLen, Int32.lt_iff_toInt_lt, Int32.le_iff_toInt_le, z_ite, z_iten, z_ite1, ite_not, not_true_eq_false, not_false_eq_true, false_and, and_false, false_or, or_false, b_max, b_min, b_minL, b_absL, b_ixD, b_ixH, b_copy, tk_0, tk_s, dr_0, dr_s, pu_s, pu_n, ca_0, ca_1, clr_0, clr_s, e_nop, e_goto, e_if_eq, e_if_ne, e_if_lt, e_if_ge, e_if_gt, e_if_le, e_ic_eq, e_ic_ne, e_ic_lt, e_ic_ge, e_ic_gt, e_ic_le, e_tsw, e_lsw, sw_0, sw_s, e_iret, e_zret, e_lret, e_aret, e_ret, en_0, en_n, en_i, en_a, en_l, List.getElem?_cons_zero, List.getElem?_cons_succ, List.set_cons_zero, List.set_cons_succ, len_s, List.length_nil, ne_eq, x_within, x_in, eT1, eT2, eT3, eT4, eT5, eT6, eM1, eM2, eM3, eM4, eM5, eM6, Nat.one_mul, Nat.mul_one, Nat.zero_add, hr1, nk, ck, nR, h1, h2, h0, y7, ← ea, y6, if_neg q1, y0, q2, oa, q3, a7, iA, cA, if_pos bA, ← nI_succ]
        · have ev : hvv (vM 113 μ0) h k = vM 113 μ0 (10 + k) 7 := if_neg (fun z => q3 z.2)
          obtain ⟨μ', b1, b2⟩ := hI 1
          refine ⟨μ', ?_, b2⟩
          rw [ev] at b1
          rw [← b1, u_168_3]
          rcases q2 with q2 | q2
          · simp -implicitDefEqProofs only [u_168_0, u_168_1, u_168_2, u_168_4, u_168_5, u_168_6, u_168_7, u_168_8, u_168_9, u_168_10, u_168_11, u_168_12, u_168_13, u_168_14, u_168_16, u_168_17, e_iload_n, e_iload, e_lload_n, e_lload, e_aload_n, e_aload, e_istore_n, e_istore, e_astore_n, e_astore, e_lstore_n, e_lstore, e_iinc, e_iconst, e_bipush, e_sipush, e_ldc_w, e_ldc, e_ldcS, e_lconst, e_ldc2_w, e_iadd, e_isub, e_imul, e_iand, e_ixor, e_ishl, e_ishr, e_iushr, e_idiv, e_irem, e_ineg, e_i2b, e_i2s, e_i2c, e_ladd, e_lsub, e_lmul, e_land, e_lor, e_ldiv, e_lrem, e_lneg, e_lshl, e_lshr, e_lushr, e_i2l, e_l2i, e_lcmp, e_dupI, e_dupA, e_dup2, e_getI, e_getA, e_putI, e_putZ, e_getstatic, e_iaload, e_iastore, e_aaload10, e_alen10, e_aaload11, e_alen11, e_aaload12, e_alen12, e_aaload13, e_alen13, e_alen, e_invokevirtual, e_invokevirtualB, e_invokestatic, e_invokestaticB, ct_0, ct_i, ct_a, ct_l, os_0, os_s, rc_0, rc_s, sl_0, sl_i, sl_a, sl_l, simprocAttr, ix, z_em, up_eq, up_j, Nat.le_refl, true_or, or_true, true_and, and_true, and_self, or_self, beq_self_eq_true, if_true, if_false, ite_self, ca_f, ca_t, aLen, Int32.lt_iff_toInt_lt, Int32.le_iff_toInt_le, z_ite, z_iten, z_ite1, ite_not, not_true_eq_false, not_false_eq_true, false_and, and_false, false_or, or_false, b_max, b_min, b_minL, b_absL, b_ixD, b_ixH, b_copy, tk_0, tk_s, dr_0, dr_s, pu_s, pu_n, ca_0, ca_1, clr_0, clr_s, e_nop, e_goto, e_if_eq, e_if_ne, e_if_lt, e_if_ge, e_if_gt, e_if_le, e_ic_eq, e_ic_ne, e_ic_lt, e_ic_ge, e_ic_gt, e_ic_le, e_tsw, e_lsw, sw_0, sw_s, e_iret, e_zret, e_lret, e_aret, e_ret, en_0, en_n, en_i, en_a, en_l, List.getElem?_cons_zero, List.getElem?_cons_succ, List.set_cons_zero, List.set_cons_succ, len_s, List.length_nil, ne_eq, x_within, x_in, eT1, eT2, eT3, eT4, eT5, eT6, eM1, eM2, eM3, eM4, eM5, eM6, Nat.one_mul, Nat.mul_one, Nat.zero_add, hr1, nk, ck, nR, h1, h2, h0, y7, ← ea, y6, if_neg q1, y0, q2, oa, q3, a7, iA, cA, if_pos bA, ← nI_succ]
          · simp -implicitDefEqProofs only [u_168_0, u_168_1, u_168_2, u_168_4, u_168_5, u_168_6, u_168_7, u_168_8, u_168_9, u_168_10, u_168_11, u_168_12, u_168_13, u_168_14, u_168_16, u_168_17, e_iload_n, e_iload, e_lload_n, e_lload, e_aload_n, e_aload, e_istore_n, e_istore, e_astore_n, e_astore, e_lstore_n, e_lstore, e_iinc, e_iconst, e_bipush, e_sipush, e_ldc_w, e_ldc, e_ldcS, e_lconst, e_ldc2_w, e_iadd, e_isub, e_imul, e_iand, e_ixor, e_ishl, e_ishr, e_iushr, e_idiv, e_irem, e_ineg, e_i2b, e_i2s, e_i2c, e_ladd, e_lsub, e_lmul, e_land, e_lor, e_ldiv, e_lrem, e_lneg, e_lshl, e_lshr, e_lushr, e_i2l, e_l2i, e_lcmp, e_dupI, e_dupA, e_dup2, e_getI, e_getA, e_putI, e_putZ, e_getstatic, e_iaload, e_iastore, e_aaload10, e_alen10, e_aaload11, e_alen11, e_aaload12, e_alen12, e_aaload13, e_alen13, e_alen, e_invokevirtual, e_invokevirtualB, e_invokestatic, e_invokestaticB, ct_0, ct_i, ct_a, ct_l, os_0, os_s, rc_0, rc_s, sl_0, sl_i, sl_a, sl_l, simprocAttr, ix, z_em, up_eq, up_j, Nat.le_refl, true_or, or_true, true_and, and_true, and_self, or_self, beq_self_eq_true, if_true, if_false, ite_self, ca_f, ca_t, aLen, Int32.lt_iff_toInt_lt, Int32.le_iff_toInt_le, z_ite, z_iten, z_ite1, ite_not, not_true_eq_false, not_false_eq_true, false_and, and_false, false_or, or_false, b_max, b_min, b_minL, b_absL, b_ixD, b_ixH, b_copy, tk_0, tk_s, dr_0, dr_s, pu_s, pu_n, ca_0, ca_1, clr_0, clr_s, e_nop, e_goto, e_if_eq, e_if_ne, e_if_lt, e_if_ge, e_if_gt, e_if_le, e_ic_eq, e_ic_ne, e_ic_lt, e_ic_ge, e_ic_gt, e_ic_le, e_tsw, e_lsw, sw_0, sw_s, e_iret, e_zret, e_lret, e_aret, e_ret, en_0, en_n, en_i, en_a, en_l, List.getElem?_cons_zero, List.getElem?_cons_succ, List.set_cons_zero, List.set_cons_succ, len_s, List.length_nil, ne_eq, x_within, x_in, eT1, eT2, eT3, eT4, eT5, eT6, eM1, eM2, eM3, eM4, eM5, eM6, Nat.one_mul, Nat.mul_one, Nat.zero_add, hr1, nk, ck, nR, h1, h2, h0, y7, ← ea, y6, if_neg q1, y0, q2, oa, q3, a7, iA, cA, if_pos bA, ← nI_succ]
      · have ev : hvv (vM 113 μ0) h k = vM 113 μ0 (10 + k) 7 := if_neg (fun z => q2 z.1.2)
        have n1 : ¬ vM 113 μ0 (10 + k) 0 = 1 := fun z => q2 (Or.inl z)
        have n4 : ¬ vM 113 μ0 (10 + k) 0 = 4 := fun z => q2 (Or.inr z)
        obtain ⟨μ', b1, b2⟩ := hI 0
        refine ⟨μ', ?_, b2⟩
        rw [ev] at b1
        rw [← b1, u_168_3]
        simp -implicitDefEqProofs only [u_168_0, u_168_1, u_168_2, u_168_4, u_168_5, u_168_6, u_168_7, u_168_8, u_168_9, u_168_10, u_168_11, u_168_12, u_168_13, u_168_14, u_168_16, u_168_17, e_iload_n, e_iload, e_lload_n, e_lload, e_aload_n, e_aload, e_istore_n, e_istore, e_astore_n, e_astore, e_lstore_n, e_lstore, e_iinc, e_iconst, e_bipush, e_sipush, e_ldc_w, e_ldc, e_ldcS, e_lconst, e_ldc2_w, e_iadd, e_isub, e_imul, e_iand, e_ixor, e_ishl, e_ishr, e_iushr, e_idiv, e_irem, e_ineg, e_i2b, e_i2s, e_i2c, e_ladd, e_lsub, e_lmul, e_land, e_lor, e_ldiv, e_lrem, e_lneg, e_lshl, e_lshr, e_lushr, e_i2l, e_l2i, e_lcmp, e_dupI, e_dupA, e_dup2, e_getI, e_getA, e_putI, e_putZ, e_getstatic, e_iaload, e_iastore, e_aaload10, e_alen10, e_aaload11, e_alen11, e_aaload12, e_alen12, e_aaload13, e_alen13, e_alen, e_invokevirtual, e_invokevirtualB, e_invokestatic, e_invokestaticB, ct_0, ct_i, ct_a, ct_l, os_0, os_s, rc_0, rc_s, sl_0, sl_i, sl_a, sl_l, simprocAttr, ix, z_em, up_eq, up_j, Nat.le_refl, true_or, or_true, true_and, and_true, and_self, or_self, beq_self_eq_true, if_true, if_false, ite_self, ca_f, ca_t, aLen, Int32.lt_iff_toInt_lt, Int32.le_iff_toInt_le, z_ite, z_iten, z_ite1, ite_not, not_true_eq_false, not_false_eq_true, false_and, and_false, false_or, or_false, b_max, b_min, b_minL, b_absL, b_ixD, b_ixH, b_copy, tk_0, tk_s, dr_0, dr_s, pu_s, pu_n, ca_0, ca_1, clr_0, clr_s, e_nop, e_goto, e_if_eq, e_if_ne, e_if_lt, e_if_ge, e_if_gt, e_if_le, e_ic_eq, e_ic_ne, e_ic_lt, e_ic_ge, e_ic_gt, e_ic_le, e_tsw, e_lsw, sw_0, sw_s, e_iret, e_zret, e_lret, e_aret, e_ret, en_0, en_n, en_i, en_a, en_l, List.getElem?_cons_zero, List.getElem?_cons_succ, List.set_cons_zero, List.set_cons_succ, len_s, List.length_nil, ne_eq, x_within, x_in, eT1, eT2, eT3, eT4, eT5, eT6, eM1, eM2, eM3, eM4, eM5, eM6, Nat.one_mul, Nat.mul_one, Nat.zero_add, hr1, nk, ck, nR, h1, h2, h0, y7, ← ea, y6, if_neg q1, y0, n1, n4, oa, a7, iA, cA, if_pos bA, ← nI_succ]
theorem p_heap {fz : Mem} {d : Nat} {h : Int32} {μ : Mem} (hR : RR fz μ) : PR fz d 75 168 [vI h] μ := by
  by_cases q0 : 0 ≤ h.toInt ∧ h.toInt ≤ 999
  · have gm9 := hR.1.2.2.1
    have g1 := gs1 hR.1.1.1
    obtain ⟨R, hR9, eR⟩ := nIof (v := vC 1 μ 0 1) (n := 9) g1.1 (by omega)
    have nR : (nI R).toInt = R := nI_toInt (by omega)
    have mm : vM 113 μ 0 2 = vC 1 μ 0 2 := hR.e0 (by decide)
    obtain ⟨μ1, μ2, a1, a2, a3, a4, -, a5, -⟩ := x_aheadA (d := d) (n := 600) hR (by decide)
    have v12 : vC 1 μ2 = vC 1 μ := vC_congr fun o p1 p2 => a4 o (by omega)
    have f2 : μ2 113 = μ 113 := a4 113 (by omega)
    obtain ⟨μ3, b1, b2, b3, b4, b5, b6, b7, b8, b9, b10, b11, -⟩ := x_trial (d := d) a3
    have vm2 : vM 113 μ2 = vM 113 μ := vM_congr f2
    have tx2 : txM μ2 = txM μ := txM_congr f2
    rw [vm2] at b7
    have m33 : vC 33 μ3 0 2 = vC 1 μ 0 2 := by rw [b11 2 (by decide), v12]
    have r33 : vC 33 μ3 0 1 = nI R := by rw [b11 1 (by decide), v12, eR]
    obtain ⟨μ4, c1, c2, c3⟩ := l_heap (d := d) (R := R) (h := h) (wt := vC 33 μ2 0 5) (V0 := vC 33 μ3) (μ0 := μ3) (by omega) r33 b10 q0 (by rw [m33]; exact gm9) b9 R 0 μ3 none (by omega) FrC.rf rfl
    have hE := hp_eq (h := h) b7 R (by omega) (by rw [r33, nR]; omega)
    obtain ⟨t1, -⟩ := tm_eqA (n := 600) hE (hp_wf b10 q0 R (by omega)) (hp_wf hR.1.1.2 q0 R (by omega)) (by rw [hp_o R (Or.inl (by decide)), m33]; omega) b8
    rw [tx2] at t1
    have w33 := (tm_keep (tx := txC 33 μ3) (only := -1) (hp_wf (h := h) b10 q0 R (by omega)) 600 (by rw [hp_o R (Or.inl (by decide)), m33]; omega)).1
    have f4 : ∀ o, (o < 33 ∨ 65 ≤ o) → μ4 o = μ o := fun o p => by rw [c3 o (by omega) (by omega) (by omega), b6 o p, a4 o p]
    have e13 : μ4 113 = μ 113 := f4 113 (by omega)
    have vm4 : vM 113 μ4 = vM 113 μ := vM_congr e13
    have r4 : RR fz μ4 := b2.ct c3 (by rw [c2]; exact w33)
    -- the model
    obtain ⟨μ5, x1, x2⟩ := y_waitedBy (d := d) (n := 600) (μ := μ4) (LWM_congr e13 hR.1.2.2.2.2.lwm) (by rw [vm4]; exact hR.1.1.2) (by rw [vm4]; exact hR.1.2.1.2) (by decide) (by rw [vm4, mm]; show _ + 600 ≤ (15001 : Int); omega)
    rw [vm4, txM_congr e13, ← a5] at x1
    have x1' : cl d 161 [Sum.inr (Sum.inr (8, 112)), vI 600] μ4 = _ := x1
    have e135 : μ5 113 = μ 113 := by rw [x2 113 (by omega) (by omega) (by omega), e13]
    have vm5 : vM 113 μ5 = vM 113 μ := vM_congr e135
    obtain ⟨μ6, y1, y2⟩ := k_heap1 (d := d) (R := R) (h := h) (wt := vC 33 μ2 0 5) (μ0 := μ5) (by omega) (by rw [vm5, hR.e0 (by decide), eR]) (by rw [vm5]; exact hR.1.1.2) (by rw [vm5]; exact hR.1.2.1.2) (LWM_congr e135 hR.1.2.2.2.2.lwm) q0 (by rw [vm5, mm]; exact gm9) R 0 μ5 none (by omega) ⟨fun _ _ _ _ _ _ => rfl, fun _ _ => rfl⟩ rfl (fun j hj => by omega)
    rw [vm5, txM_congr e135, t1, ← c2] at y1
    have z0 : (vI (nI 0) : AV) = vI 0 := rfl
    rw [z0] at c1 y1
    refine ⟨(vC 33 μ4 0 5 - vC 33 μ2 0 5), μ4, μ6, r4.u2, ?_, ?_, ?_⟩
    · rw [← c1]
      have e10 : μ2 33 10 = vC 33 μ2 0 5 := cs5
      simp -implicitDefEqProofs only [cl_75, u_75_0, u_75_1, u_75_2, u_75_4, u_75_5, u_75_6, u_75_7, u_75_8, e_iload_n, e_iload, e_lload_n, e_lload, e_aload_n, e_aload, e_istore_n, e_istore, e_astore_n, e_astore, e_lstore_n, e_lstore, e_iinc, e_iconst, e_bipush, e_sipush, e_ldc_w, e_ldc, e_ldcS, e_lconst, e_ldc2_w, e_iadd, e_isub, e_imul, e_iand, e_ixor, e_ishl, e_ishr, e_iushr, e_idiv, e_irem, e_ineg, e_i2b, e_i2s, e_i2c, e_ladd, e_lsub, e_lmul, e_land, e_lor, e_ldiv, e_lrem, e_lneg, e_lshl, e_lshr, e_lushr, e_i2l, e_l2i, e_lcmp, e_dupI, e_dupA, e_dup2, e_getI, e_getA, e_putI, e_putZ, e_getstatic, e_iaload, e_iastore, e_aaload10, e_alen10, e_aaload11, e_alen11, e_aaload12, e_alen12, e_aaload13, e_alen13, e_alen, e_invokevirtual, e_invokevirtualB, e_invokestatic, e_invokestaticB, ct_0, ct_i, ct_a, ct_l, os_0, os_s, rc_0, rc_s, sl_0, sl_i, sl_a, sl_l, simprocAttr, ix, z_em, up_eq, up_j, Nat.le_refl, true_or, or_true, true_and, and_true, and_self, or_self, beq_self_eq_true, if_true, if_false, ite_self, ca_f, ca_t, aLen, Int32.lt_iff_toInt_lt, Int32.le_iff_toInt_le, z_ite, z_iten, z_ite1, ite_not, not_true_eq_false, not_false_eq_true, false_and, and_false, false_or, or_false, b_max, b_min, b_minL, b_absL, b_ixD, b_ixH, b_copy, tk_0, tk_s, dr_0, dr_s, pu_s, pu_n, ca_0, ca_1, clr_0, clr_s, e_nop, e_goto, e_if_eq, e_if_ne, e_if_lt, e_if_ge, e_if_gt, e_if_le, e_ic_eq, e_ic_ne, e_ic_lt, e_ic_ge, e_ic_gt, e_ic_le, e_tsw, e_lsw, sw_0, sw_s, e_iret, e_zret, e_lret, e_aret, e_ret, en_0, en_n, en_i, en_a, en_l, List.getElem?_cons_zero, List.getElem?_cons_succ, List.set_cons_zero, List.set_cons_succ, len_s, List.length_nil, ne_eq, x_within, x_in, eT1, eT2, eT3, eT4, eT5, eT6, eM1, eM2, eM3, eM4, eM5, eM6, Nat.one_mul, Nat.mul_one, Nat.zero_add, q0, a1, a2, e10, b1]
    · rw [← y1]
      simp -implicitDefEqProofs only [cl_168, u_168_0, u_168_1, u_168_2, u_168_4, u_168_5, u_168_6, u_168_7, u_168_8, u_168_9, u_168_10, u_168_11, u_168_12, u_168_13, u_168_14, u_168_16, u_168_17, e_iload_n, e_iload, e_lload_n, e_lload, e_aload_n, e_aload, e_istore_n, e_istore, e_astore_n, e_astore, e_lstore_n, e_lstore, e_iinc, e_iconst, e_bipush, e_sipush, e_ldc_w, e_ldc, e_ldcS, e_lconst, e_ldc2_w, e_iadd, e_isub, e_imul, e_iand, e_ixor, e_ishl, e_ishr, e_iushr, e_idiv, e_irem, e_ineg, e_i2b, e_i2s, e_i2c, e_ladd, e_lsub, e_lmul, e_land, e_lor, e_ldiv, e_lrem, e_lneg, e_lshl, e_lshr, e_lushr, e_i2l, e_l2i, e_lcmp, e_dupI, e_dupA, e_dup2, e_getI, e_getA, e_putI, e_putZ, e_getstatic, e_iaload, e_iastore, e_aaload10, e_alen10, e_aaload11, e_alen11, e_aaload12, e_alen12, e_aaload13, e_alen13, e_alen, e_invokevirtual, e_invokevirtualB, e_invokestatic, e_invokestaticB, ct_0, ct_i, ct_a, ct_l, os_0, os_s, rc_0, rc_s, sl_0, sl_i, sl_a, sl_l, simprocAttr, ix, z_em, up_eq, up_j, Nat.le_refl, true_or, or_true, true_and, and_true, and_self, or_self, beq_self_eq_true, if_true, if_false, ite_self, ca_f, ca_t, aLen, Int32.lt_iff_toInt_lt, Int32.le_iff_toInt_le, z_ite, z_iten, z_ite1, ite_not, not_true_eq_false, not_false_eq_true, false_and, and_false, false_or, or_false, b_max, b_min, b_minL, b_absL, b_ixD, b_ixH, b_copy, tk_0, tk_s, dr_0, dr_s, pu_s, pu_n, ca_0, ca_1, clr_0, clr_s, e_nop, e_goto, e_if_eq, e_if_ne, e_if_lt, e_if_ge, e_if_gt, e_if_le, e_ic_eq, e_ic_ne, e_ic_lt, e_ic_ge, e_ic_gt, e_ic_le, e_tsw, e_lsw, sw_0, sw_s, e_iret, e_zret, e_lret, e_aret, e_ret, en_0, en_n, en_i, en_a, en_l, List.getElem?_cons_zero, List.getElem?_cons_succ, List.set_cons_zero, List.set_cons_succ, len_s, List.length_nil, ne_eq, x_within, x_in, eT1, eT2, eT3, eT4, eT5, eT6, eM1, eM2, eM3, eM4, eM5, eM6, Nat.one_mul, Nat.mul_one, Nat.zero_add, q0, x1']
    · have g : ∀ o, o ≠ 115 → o ≠ 118 → o ≠ 119 → o ≠ 120 → μ6 o = μ4 o := fun o p1 p2 p3 p4 => by rw [y2 o p1 p2 p3 p4, x2 o p1 p2 p3]
      exact r4.cg (fun o p1 p2 p3 => g o (by unfold junk at p1; omega) (by unfold junk at p1; omega) (by unfold junk at p1; omega) (by unfold junk at p1; omega)) (by rw [g 100 (by omega) (by omega) (by omega) (by omega)]) (by rw [g 112 (by omega) (by omega) (by omega) (by omega)]) (by rw [g 112 (by omega) (by omega) (by omega) (by omega)]) (by rw [vC_congr (fun o p1 p2 => g o (by omega) (by omega) (by omega) (by omega))]; exact r4.2.2.2.1)
  · refine PR.er (k := 1) hR (by decide) (by decide) ?_ (fun μ1 f => ?_)
    · simp -implicitDefEqProofs only [cl_75, u_75_0, u_75_1, u_75_2, u_75_4, u_75_5, u_75_6, u_75_7, u_75_8, e_iload_n, e_iload, e_lload_n, e_lload, e_aload_n, e_aload, e_istore_n, e_istore, e_astore_n, e_astore, e_lstore_n, e_lstore, e_iinc, e_iconst, e_bipush, e_sipush, e_ldc_w, e_ldc, e_ldcS, e_lconst, e_ldc2_w, e_iadd, e_isub, e_imul, e_iand, e_ixor, e_ishl, e_ishr, e_iushr, e_idiv, e_irem, e_ineg, e_i2b, e_i2s, e_i2c, e_ladd, e_lsub, e_lmul, e_land, e_lor, e_ldiv, e_lrem, e_lneg, e_lshl, e_lshr, e_lushr, e_i2l, e_l2i, e_lcmp, e_dupI, e_dupA, e_dup2, e_getI, e_getA, e_putI, e_putZ, e_getstatic, e_iaload, e_iastore, e_aaload10, e_alen10, e_aaload11, e_alen11, e_aaload12, e_alen12, e_aaload13, e_alen13, e_alen, e_invokevirtual, e_invokevirtualB, e_invokestatic, e_invokestaticB, ct_0, ct_i, ct_a, ct_l, os_0, os_s, rc_0, rc_s, sl_0, sl_i, sl_a, sl_l, simprocAttr, ix, z_em, up_eq, up_j, Nat.le_refl, true_or, or_true, true_and, and_true, and_self, or_self, beq_self_eq_true, if_true, if_false, ite_self, ca_f, ca_t, aLen, Int32.lt_iff_toInt_lt, Int32.le_iff_toInt_le, z_ite, z_iten, z_ite1, ite_not, not_true_eq_false, not_false_eq_true, false_and, and_false, false_or, or_false, b_max, b_min, b_minL, b_absL, b_ixD, b_ixH, b_copy, tk_0, tk_s, dr_0, dr_s, pu_s, pu_n, ca_0, ca_1, clr_0, clr_s, e_nop, e_goto, e_if_eq, e_if_ne, e_if_lt, e_if_ge, e_if_gt, e_if_le, e_ic_eq, e_ic_ne, e_ic_lt, e_ic_ge, e_ic_gt, e_ic_le, e_tsw, e_lsw, sw_0, sw_s, e_iret, e_zret, e_lret, e_aret, e_ret, en_0, en_n, en_i, en_a, en_l, List.getElem?_cons_zero, List.getElem?_cons_succ, List.set_cons_zero, List.set_cons_succ, len_s, List.length_nil, ne_eq, x_within, x_in, eT1, eT2, eT3, eT4, eT5, eT6, eM1, eM2, eM3, eM4, eM5, eM6, Nat.one_mul, Nat.mul_one, Nat.zero_add, q0]
    · simp -implicitDefEqProofs only [cl_168, u_168_0, u_168_1, u_168_2, u_168_4, u_168_5, u_168_6, u_168_7, u_168_8, u_168_9, u_168_10, u_168_11, u_168_12, u_168_13, u_168_14, u_168_16, u_168_17, e_iload_n, e_iload, e_lload_n, e_lload, e_aload_n, e_aload, e_istore_n, e_istore, e_astore_n, e_astore, e_lstore_n, e_lstore, e_iinc, e_iconst, e_bipush, e_sipush, e_ldc_w, e_ldc, e_ldcS, e_lconst, e_ldc2_w, e_iadd, e_isub, e_imul, e_iand, e_ixor, e_ishl, e_ishr, e_iushr, e_idiv, e_irem, e_ineg, e_i2b, e_i2s, e_i2c, e_ladd, e_lsub, e_lmul, e_land, e_lor, e_ldiv, e_lrem, e_lneg, e_lshl, e_lshr, e_lushr, e_i2l, e_l2i, e_lcmp, e_dupI, e_dupA, e_dup2, e_getI, e_getA, e_putI, e_putZ, e_getstatic, e_iaload, e_iastore, e_aaload10, e_alen10, e_aaload11, e_alen11, e_aaload12, e_alen12, e_aaload13, e_alen13, e_alen, e_invokevirtual, e_invokevirtualB, e_invokestatic, e_invokestaticB, ct_0, ct_i, ct_a, ct_l, os_0, os_s, rc_0, rc_s, sl_0, sl_i, sl_a, sl_l, simprocAttr, ix, z_em, up_eq, up_j, Nat.le_refl, true_or, or_true, true_and, and_true, and_self, or_self, beq_self_eq_true, if_true, if_false, ite_self, ca_f, ca_t, aLen, Int32.lt_iff_toInt_lt, Int32.le_iff_toInt_le, z_ite, z_iten, z_ite1, ite_not, not_true_eq_false, not_false_eq_true, false_and, and_false, false_or, or_false, b_max, b_min, b_minL, b_absL, b_ixD, b_ixH, b_copy, tk_0, tk_s, dr_0, dr_s, pu_s, pu_n, ca_0, ca_1, clr_0, clr_s, e_nop, e_goto, e_if_eq, e_if_ne, e_if_lt, e_if_ge, e_if_gt, e_if_le, e_ic_eq, e_ic_ne, e_ic_lt, e_ic_ge, e_ic_gt, e_ic_le, e_tsw, e_lsw, sw_0, sw_s, e_iret, e_zret, e_lret, e_aret, e_ret, en_0, en_n, en_i, en_a, en_l, List.getElem?_cons_zero, List.getElem?_cons_succ, List.set_cons_zero, List.set_cons_succ, len_s, List.length_nil, ne_eq, x_within, x_in, eT1, eT2, eT3, eT4, eT5, eT6, eM1, eM2, eM3, eM4, eM5, eM6, Nat.one_mul, Nat.mul_one, Nat.zero_add, q0]
