/-! PAIRS OF CALLS: worker. -/
def bgW (note : Int32) (k : Nat) : Int32 := if k = 5 then note else if k = 7 then -1 else 0
def NWr (V U : Mem) (N : Nat) (note : Int32) : Prop := (∀ o k, ¬ o = 1 + N → ¬ (o = 0 ∧ k = 0) → U o k = V o k) ∧ U 0 0 = nI (N + 1) ∧ (∀ k, k < 8 → U (1 + N) k = bgW note k) ∧ ∀ k, 8 ≤ k → k < 24 → U (1 + N) k = V (1 + N) k ∨ U (1 + N) k = 0
theorem nw_wf {V U : Mem} {N : Nat} {note : Int32} (h : NWr V U N note) (hW : WFV V) (hN : N < 4) (hc : V 0 0 = nI N) (h0 : 0 ≤ note.toInt ∧ note.toInt ≤ 1) : WFV U := by
  obtain ⟨p1, p2, p3, p4⟩ := h
  have n1 : (nI (N + 1)).toInt = (N + 1 : Nat) := nI_toInt (by omega)
  have nN : (nI N).toInt = N := nI_toInt (by omega)
  refine ⟨fun o k hi => ?_, fun w hw => ?_, fun r hr hrc => ?_⟩
  · by_cases q : o = 1 + N
    · subst q
      have hk : k < 24 := by unfold inC at hi; omega
      by_cases hk8 : k < 8
      · rw [p3 k hk8]
        have hk8 : k = 0 ∨ k = 1 ∨ k = 2 ∨ k = 3 ∨ k = 4 ∨ k = 5 ∨ k = 6 ∨ k = 7 := by omega
        rcases hk8 with rfl | rfl | rfl | rfl | rfl | rfl | rfl | rfl
        · rw [(lw0 hN).1, (lw0 hN).2]; show 0 ≤ (0 : Int32).toInt ∧ (0 : Int32).toInt ≤ 99; decide
        · rw [(lw1 hN).1, (lw1 hN).2]; show 0 ≤ (0 : Int32).toInt ∧ (0 : Int32).toInt ≤ 8; decide
        · rw [(lw2 hN).1, (lw2 hN).2]; show 0 ≤ (0 : Int32).toInt ∧ (0 : Int32).toInt ≤ 8; decide
        · rw [(lw3 hN).1, (lw3 hN).2]; show 0 ≤ (0 : Int32).toInt ∧ (0 : Int32).toInt ≤ 600; decide
        · rw [(lw4 hN).1, (lw4 hN).2]; show 0 ≤ (0 : Int32).toInt ∧ (0 : Int32).toInt ≤ 999; decide
        · rw [(lw5 hN).1, (lw5 hN).2]; exact h0
        · rw [(lw6 hN).1, (lw6 hN).2]; show 0 ≤ (0 : Int32).toInt ∧ (0 : Int32).toInt ≤ 99999; decide
        · rw [(lw7 hN).1, (lw7 hN).2]; show -1 ≤ (-1 : Int32).toInt ∧ (-1 : Int32).toInt ≤ 20000; decide
      · rcases p4 k (by omega) hk with e | e
        · rw [e]
          exact hW.1 _ k hi
        · rw [e]
          have z : (0 : Int32).toInt = 0 := rfl
          have l : loV (1 + N) k = 0 := by
            unfold loV
            rw [if_neg (by omega), if_pos (by omega), if_neg (by omega)]
          have u : 0 ≤ hiV (1 + N) k := by
            unfold hiV
            rw [if_neg (by omega), if_pos (by omega)]
            (repeat' split) <;> omega
          rw [z, l]
          exact ⟨Int.le_refl _, u⟩
    · by_cases q2 : o = 0 ∧ k = 0
      · obtain ⟨rfl, rfl⟩ := q2
        rw [p2, n1]
        show (0 : Int) ≤ _ ∧ _ ≤ (4 : Int)
        omega
      · rw [p1 o k q q2]
        exact hW.1 o k hi
  · by_cases q : w = N
    · subst q
      rw [p3 2 (by decide), p3 1 (by decide)]
      exact Int.le_refl _
    · rw [p1 _ _ (by omega) (by omega), p1 _ _ (by omega) (by omega)]
      exact hW.2.1 w hw
  · rw [p1 0 1 (by omega) (by omega)] at hrc
    have q := hW.2.2 r hr hrc
    rw [hc, nN] at q
    rw [p2, n1, p1 _ _ (by omega) (by omega)]
    omega
theorem nw_wd {V U : Mem} {N : Nat} {note : Int32} (h : NWr V U N note) (hD : WFD V) (hN : N < 4) : WFD U := by
  obtain ⟨p1, p2, p3, p4⟩ := h
  refine ⟨fun r hr => ?_, ?_⟩
  · rw [p1 _ _ (by omega) (by omega), p1 _ _ (by omega) (by omega)]
    exact hD.1 r hr
  · rw [p1 _ _ (by omega) (by omega)]
    exact hD.2
theorem nw_eq {V V' U U' : Mem} {N : Nat} {note : Int32} (h : NWr V U N note) (h' : NWr V' U' N note) (hE : EQV V V') (hN : N < 4) (hc : V 0 0 = nI N) : EQV U U' := by
  obtain ⟨p1, p2, p3, p4⟩ := h
  obtain ⟨q1, q2, q3, q4⟩ := h'
  obtain ⟨e1, e2, e3, e4, e5⟩ := hE
  have n1 : (nI (N + 1)).toInt = (N + 1 : Nat) := nI_toInt (by omega)
  have nN : (nI N).toInt = N := nI_toInt (by omega)
  refine ⟨fun k hk => ?_, fun w hw hwc k hk hu => ?_, fun r hr hrc k hk => ?_, fun i hi hic => ?_, fun i hi hic => ?_⟩
  · by_cases q : k = 0
    · subst q
      rw [p2, q2]
    · rw [p1 _ _ (by omega) (by omega), q1 _ _ (by omega) (by omega)]
      exact e1 k hk
  · by_cases q : w = N
    · subst q
      have hk8 : k < 8 := by
        unfold usK at hu
        rw [p3 1 (by decide)] at hu
        have z : (bgW note 1).toNatClampNeg = 0 := rfl
        omega
      rw [p3 k hk8, q3 k hk8]
    · rw [p2, n1] at hwc
      unfold usK at hu
      rw [p1 _ _ (by omega) (by omega)] at hu
      rw [p1 _ _ (by omega) (by omega), q1 _ _ (by omega) (by omega)]
      exact e2 w hw (by rw [hc, nN]; omega) k hk hu
  · rw [p1 0 1 (by omega) (by omega)] at hrc
    rw [p1 _ _ (by omega) (by omega), q1 _ _ (by omega) (by omega)]
    exact e3 r hr hrc k hk
  · rw [p1 0 6 (by omega) (by omega)] at hic
    rw [p1 _ _ (by omega) (by omega), q1 _ _ (by omega) (by omega)]
    exact e4 i hi hic
  · rw [p1 0 7 (by omega) (by omega)] at hic
    rw [p1 _ _ (by omega) (by omega), q1 _ _ (by omega) (by omega)]
    exact e5 i hi hic
def zrM (μ : Mem) (N k : Nat) : Mem := fun a c => if a = 113 ∧ 10 + 24 * N ≤ c ∧ c < 10 + 24 * N + k then 0 else μ a c
theorem zrM_s {μ : Mem} {N k : Nat} : up (zrM μ N k) 113 (10 + 24 * N + k) 0 = zrM μ N (k + 1) := by
  funext a c
  unfold up zrM
  by_cases q : a = 113 ∧ c = 10 + 24 * N + k
  · rw [if_pos q, if_pos ⟨q.1, by omega⟩]
  · rw [if_neg q]
    by_cases q2 : a = 113 ∧ 10 + 24 * N ≤ c ∧ c < 10 + 24 * N + k
    · rw [if_pos q2, if_pos ⟨q2.1, by omega⟩]
    · rw [if_neg q2, if_neg (fun z => by
        by_cases q3 : c = 10 + 24 * N + k
        · exact q ⟨z.1, q3⟩
        · exact q2 ⟨z.1, by omega⟩)]
theorem k_worker {d N : Nat} {note : Int32} {μ : Mem} (hN : N < 4) (hc : μ 113 0 = nI N) : ∀ n k, k + n = 24 → res d 115 5 [some (vR 8 112), some (vI note), some (vI (nI N)), some (vI (nI k))] [] (zrM μ N k) = some (some (vI (nI N)), up (up (up (zrM μ N 24) 113 (10 + 24 * N + 5) note) 113 (10 + 24 * N + 7) (-1)) 113 0 (nI (N + 1))) := by
  intro n
  induction n with
  | zero =>
    intro k hk
    have hk : k = 24 := by omega
    subst hk
    have n24 : (nI 24).toInt = 24 := nI_toInt (by omega)
    have z0 : zrM μ N 24 113 0 = nI N := by unfold zrM; rw [if_neg (by omega)]; exact hc
    have n5 : ¬ 0 = 10 + 24 * N + 5 := by omega
    have n7 : ¬ 0 = 10 + 24 * N + 7 := by omega
    rw [u_115_5]
    simp -implicitDefEqProofs only [u_115_0, u_115_1, u_115_2, u_115_3, u_115_4, u_115_6, u_115_7, e_iload_n, e_iload, e_lload_n, e_lload, e_aload_n, e_aload, e_istore_n, e_istore, e_astore_n, e_astore, e_lstore_n, e_lstore, e_iinc, e_iconst, e_bipush, e_sipush, e_ldc_w, e_ldc, e_ldcS, e_lconst, e_ldc2_w, e_iadd, e_isub, e_imul, e_iand, e_ixor, e_ishl, e_ishr, e_iushr, e_idiv, e_irem, e_ineg, e_i2b, e_i2s, e_i2c, e_ladd, e_lsub, e_lmul, e_land, e_lor, e_ldiv, e_lrem, e_lneg, e_lshl, e_lshr, e_lushr, e_i2l, e_l2i, e_lcmp, e_dupI, e_dupA, e_dup2, e_getI, e_getA, e_putI, e_putZ, e_getstatic, e_iaload, e_iastore, e_aaload10, e_alen10, e_aaload11, e_alen11, e_aaload12, e_alen12, e_aaload13, e_alen13, e_alen, e_invokevirtual, e_invokevirtualB, e_invokestatic, e_invokestaticB, ct_0, ct_i, ct_a, ct_l, os_0, os_s, rc_0, rc_s, sl_0, sl_i, sl_a, sl_l, simprocAttr, ix, z_em, up_eq, up_j, Nat.le_refl, true_or, or_true, true_and, and_true, and_self, or_self, beq_self_eq_true, if_true, if_false, ite_self, ca_f, ca_t, aLen, Int32.lt_iff_toInt_lt, Int32.le_iff_toInt_le, z_ite, z_iten, z_ite1, ite_not, not_true_eq_false, not_false_eq_true, false_and, and_false, false_or, or_false, b_max, b_min, b_minL, b_absL, b_ixD, b_ixH, b_copy, tk_0, tk_s, dr_0, dr_s, pu_s, pu_n, ca_0, ca_1, clr_0, clr_s, e_nop, e_goto, e_if_eq, e_if_ne, e_if_lt, e_if_ge, e_if_gt, e_if_le, e_ic_eq, e_ic_ne, e_ic_lt, e_ic_ge, e_ic_gt, e_ic_le, e_tsw, e_lsw, sw_0, sw_s, e_iret, e_zret, e_lret, e_aret, e_ret, en_0, en_n, en_i, en_a, en_l, List.getElem?_cons_zero, List.getElem?_cons_succ, List.set_cons_zero, List.set_cons_succ, len_s, List.length_nil, ne_eq, x_within, x_in, eT1, eT2, eT3, eT4, eT5, eT6, eM1, eM2, eM3, eM4, eM5, eM6, Nat.one_mul, Nat.mul_one, Nat.zero_add, n24, Int.lt_irrefl, yl5 hN, yl7 hN, z0, up_j n5, up_j n7, ← nI_succ]
  | succ n ih =>
    intro k hk
    have nk : (nI k).toInt = k := nI_toInt (by omega)
    have h5 : ((k : Nat) : Int) < 24 := by omega
    have hy := y_lays1 (d := d) (w := N) (k := k) (x := nI k) (v := 0) (μ := zrM μ N k) hN (by omega) rfl
    have hy' : cl d 112 [Sum.inr (Sum.inr (8, 112)), vI (nI N), vI (nI k), vI 0] (zrM μ N k) = _ := hy
    rw [zrM_s] at hy'
    rw [← ih (k + 1) (by omega), u_115_5]
    simp -implicitDefEqProofs only [u_115_0, u_115_1, u_115_2, u_115_3, u_115_4, u_115_6, u_115_7, e_iload_n, e_iload, e_lload_n, e_lload, e_aload_n, e_aload, e_istore_n, e_istore, e_astore_n, e_astore, e_lstore_n, e_lstore, e_iinc, e_iconst, e_bipush, e_sipush, e_ldc_w, e_ldc, e_ldcS, e_lconst, e_ldc2_w, e_iadd, e_isub, e_imul, e_iand, e_ixor, e_ishl, e_ishr, e_iushr, e_idiv, e_irem, e_ineg, e_i2b, e_i2s, e_i2c, e_ladd, e_lsub, e_lmul, e_land, e_lor, e_ldiv, e_lrem, e_lneg, e_lshl, e_lshr, e_lushr, e_i2l, e_l2i, e_lcmp, e_dupI, e_dupA, e_dup2, e_getI, e_getA, e_putI, e_putZ, e_getstatic, e_iaload, e_iastore, e_aaload10, e_alen10, e_aaload11, e_alen11, e_aaload12, e_alen12, e_aaload13, e_alen13, e_alen, e_invokevirtual, e_invokevirtualB, e_invokestatic, e_invokestaticB, ct_0, ct_i, ct_a, ct_l, os_0, os_s, rc_0, rc_s, sl_0, sl_i, sl_a, sl_l, simprocAttr, ix, z_em, up_eq, up_j, Nat.le_refl, true_or, or_true, true_and, and_true, and_self, or_self, beq_self_eq_true, if_true, if_false, ite_self, ca_f, ca_t, aLen, Int32.lt_iff_toInt_lt, Int32.le_iff_toInt_le, z_ite, z_iten, z_ite1, ite_not, not_true_eq_false, not_false_eq_true, false_and, and_false, false_or, or_false, b_max, b_min, b_minL, b_absL, b_ixD, b_ixH, b_copy, tk_0, tk_s, dr_0, dr_s, pu_s, pu_n, ca_0, ca_1, clr_0, clr_s, e_nop, e_goto, e_if_eq, e_if_ne, e_if_lt, e_if_ge, e_if_gt, e_if_le, e_ic_eq, e_ic_ne, e_ic_lt, e_ic_ge, e_ic_gt, e_ic_le, e_tsw, e_lsw, sw_0, sw_s, e_iret, e_zret, e_lret, e_aret, e_ret, en_0, en_n, en_i, en_a, en_l, List.getElem?_cons_zero, List.getElem?_cons_succ, List.set_cons_zero, List.set_cons_succ, len_s, List.length_nil, ne_eq, x_within, x_in, eT1, eT2, eT3, eT4, eT5, eT6, eM1, eM2, eM3, eM4, eM5, eM6, Nat.one_mul, Nat.mul_one, Nat.zero_add, nk, h5, hy', ← nI_succ]
theorem p_worker {fz : Mem} {d : Nat} {note : Int32} {μ : Mem} (h : RR fz μ) : PR fz d 54 115 [vI note] μ := by
  by_cases q1 : 0 ≤ note.toInt ∧ note.toInt ≤ 1
  · have g := gs0 h.1.1.1
    obtain ⟨N, hN, eN⟩ := nIof (v := vC 1 μ 0 0) (n := 5) g.1 (by omega)
    have nN : (nI N).toInt = N := nI_toInt (by omega)
    have cN : (nI N).toNatClampNeg = N := ix_nI (by omega)
    have e5 : μ 1 5 = nI N := cs0.trans eN
    have m0 : μ 113 0 = nI N := by rw [ms0 (m := 113) (μ := μ), h.e0 (by decide), eN]
    by_cases q5 : N = 4
    · subst q5
      have z4 : (nI 4 : Int32) = 4 := rfl
      refine PR.er (k := 4) h (by decide) (by decide) ?_ (fun μ1 f => ?_)
      · simp -implicitDefEqProofs only [cl_54, u_54_0, u_54_1, u_54_2, u_54_3, u_54_4, e_iload_n, e_iload, e_lload_n, e_lload, e_aload_n, e_aload, e_istore_n, e_istore, e_astore_n, e_astore, e_lstore_n, e_lstore, e_iinc, e_iconst, e_bipush, e_sipush, e_ldc_w, e_ldc, e_ldcS, e_lconst, e_ldc2_w, e_iadd, e_isub, e_imul, e_iand, e_ixor, e_ishl, e_ishr, e_iushr, e_idiv, e_irem, e_ineg, e_i2b, e_i2s, e_i2c, e_ladd, e_lsub, e_lmul, e_land, e_lor, e_ldiv, e_lrem, e_lneg, e_lshl, e_lshr, e_lushr, e_i2l, e_l2i, e_lcmp, e_dupI, e_dupA, e_dup2, e_getI, e_getA, e_putI, e_putZ, e_getstatic, e_iaload, e_iastore, e_aaload10, e_alen10, e_aaload11, e_alen11, e_aaload12, e_alen12, e_aaload13, e_alen13, e_alen, e_invokevirtual, e_invokevirtualB, e_invokestatic, e_invokestaticB, ct_0, ct_i, ct_a, ct_l, os_0, os_s, rc_0, rc_s, sl_0, sl_i, sl_a, sl_l, simprocAttr, ix, z_em, up_eq, up_j, Nat.le_refl, true_or, or_true, true_and, and_true, and_self, or_self, beq_self_eq_true, if_true, if_false, ite_self, ca_f, ca_t, aLen, Int32.lt_iff_toInt_lt, Int32.le_iff_toInt_le, z_ite, z_iten, z_ite1, ite_not, not_true_eq_false, not_false_eq_true, false_and, and_false, false_or, or_false, b_max, b_min, b_minL, b_absL, b_ixD, b_ixH, b_copy, tk_0, tk_s, dr_0, dr_s, pu_s, pu_n, ca_0, ca_1, clr_0, clr_s, e_nop, e_goto, e_if_eq, e_if_ne, e_if_lt, e_if_ge, e_if_gt, e_if_le, e_ic_eq, e_ic_ne, e_ic_lt, e_ic_ge, e_ic_gt, e_ic_le, e_tsw, e_lsw, sw_0, sw_s, e_iret, e_zret, e_lret, e_aret, e_ret, en_0, en_n, en_i, en_a, en_l, List.getElem?_cons_zero, List.getElem?_cons_succ, List.set_cons_zero, List.set_cons_succ, len_s, List.length_nil, ne_eq, x_within, x_in, eT1, eT2, eT3, eT4, eT5, eT6, eM1, eM2, eM3, eM4, eM5, eM6, Nat.one_mul, Nat.mul_one, Nat.zero_add, q1, e5, z4]
      · have m1' : μ1 113 0 = nI 4 := by rw [f 113 (by decide)]; exact m0
        simp -implicitDefEqProofs only [cl_115, u_115_0, u_115_1, u_115_2, u_115_3, u_115_4, u_115_6, u_115_7, e_iload_n, e_iload, e_lload_n, e_lload, e_aload_n, e_aload, e_istore_n, e_istore, e_astore_n, e_astore, e_lstore_n, e_lstore, e_iinc, e_iconst, e_bipush, e_sipush, e_ldc_w, e_ldc, e_ldcS, e_lconst, e_ldc2_w, e_iadd, e_isub, e_imul, e_iand, e_ixor, e_ishl, e_ishr, e_iushr, e_idiv, e_irem, e_ineg, e_i2b, e_i2s, e_i2c, e_ladd, e_lsub, e_lmul, e_land, e_lor, e_ldiv, e_lrem, e_lneg, e_lshl, e_lshr, e_lushr, e_i2l, e_l2i, e_lcmp, e_dupI, e_dupA, e_dup2, e_getI, e_getA, e_putI, e_putZ, e_getstatic, e_iaload, e_iastore, e_aaload10, e_alen10, e_aaload11, e_alen11, e_aaload12, e_alen12, e_aaload13, e_alen13, e_alen, e_invokevirtual, e_invokevirtualB, e_invokestatic, e_invokestaticB, ct_0, ct_i, ct_a, ct_l, os_0, os_s, rc_0, rc_s, sl_0, sl_i, sl_a, sl_l, simprocAttr, ix, z_em, up_eq, up_j, Nat.le_refl, true_or, or_true, true_and, and_true, and_self, or_self, beq_self_eq_true, if_true, if_false, ite_self, ca_f, ca_t, aLen, Int32.lt_iff_toInt_lt, Int32.le_iff_toInt_le, z_ite, z_iten, z_ite1, ite_not, not_true_eq_false, not_false_eq_true, false_and, and_false, false_or, or_false, b_max, b_min, b_minL, b_absL, b_ixD, b_ixH, b_copy, tk_0, tk_s, dr_0, dr_s, pu_s, pu_n, ca_0, ca_1, clr_0, clr_s, e_nop, e_goto, e_if_eq, e_if_ne, e_if_lt, e_if_ge, e_if_gt, e_if_le, e_ic_eq, e_ic_ne, e_ic_lt, e_ic_ge, e_ic_gt, e_ic_le, e_tsw, e_lsw, sw_0, sw_s, e_iret, e_zret, e_lret, e_aret, e_ret, en_0, en_n, en_i, en_a, en_l, List.getElem?_cons_zero, List.getElem?_cons_succ, List.set_cons_zero, List.set_cons_succ, len_s, List.length_nil, ne_eq, x_within, x_in, eT1, eT2, eT3, eT4, eT5, eT6, eM1, eM2, eM3, eM4, eM5, eM6, Nat.one_mul, Nat.mul_one, Nat.zero_add, q1, m1', z4]
    · have hN4 : N < 4 := by omega
      have b4 : ((N : Nat) : Int) < 4 := by omega
      have b0 : (0 : Int) ≤ ((N : Nat) : Int) := by omega
      have ne4 : ¬ nI N = 4 := fun z => q5 (by
        have := congrArg Int32.toInt z
        rw [nN] at this
        have t8 : (4 : Int32).toInt = 4 := rfl
        omega)
      have nb : ¬ 1 = 7 + 3 * N := by omega
      have hM : ∃ μ1, μ1 = up (up (up (up (up (up (up (up (up μ (7 + 3 * N) 2 0) (7 + 3 * N) 3 0) (7 + 3 * N) 4 0) (7 + 3 * N) 5 0) (7 + 3 * N) 6 0) (7 + 3 * N) 7 note) (7 + 3 * N) 8 0) (7 + 3 * N) 9 (-1)) 1 5 (nI (N + 1)) := ⟨_, rfl⟩
      obtain ⟨μ1, e1⟩ := hM
      have hO : 1 ≤ 7 + 3 * N ∧ 7 + 3 * N < 1 + 26 := by omega
      have f1 : FrC 1 μ μ1 := by rw [e1]; exact ((((((((FrC.rf.up hO).up hO).up hO).up hO).up hO).up hO).up hO).up hO).up (by omega)
      have f13 : μ1 113 = μ 113 := f1 113 (by decide) (by decide) (by decide)
      have m1' : μ1 113 0 = nI N := by rw [f13]; exact m0
      have v1 : vC 1 μ1 = up (up (up (up (up (up (up (up (up (vC 1 μ) (1 + N) 0 0) (1 + N) 1 0) (1 + N) 2 0) (1 + N) 3 0) (1 + N) 4 0) (1 + N) 5 note) (1 + N) 6 0) (1 + N) 7 (-1)) 0 0 (nI (N + 1)) := by
        rw [e1, show 7 + 3 * N = 1 + 6 + 3 * N by omega, us0, uw7 hN4, uw6 hN4, uw5 hN4, uw4 hN4, uw3 hN4, uw2 hN4, uw1 hN4, uw0 hN4]
      have hM2 : ∃ μ2, μ2 = up (up (up (zrM μ1 N 24) 113 (10 + 24 * N + 5) note) 113 (10 + 24 * N + 7) (-1)) 113 0 (nI (N + 1)) := ⟨_, rfl⟩
      obtain ⟨μ2, e2⟩ := hM2
      have fz : FrM μ1 (zrM μ1 N 24) := ⟨fun o p1 _ _ => by funext c; unfold zrM; rw [if_neg (fun z => p1 z.1)], fun k hk => by unfold zrM; rw [if_neg (by omega)]⟩
      have f2 : FrM μ1 μ2 := by rw [e2]; exact ((fz.up (by omega)).up (by omega)).up (by omega)
      have hz : ∀ o k, inC o k → ¬ o = 1 + N → vM 113 (zrM μ1 N 24) o k = vM 113 μ1 o k := fun o k hi ho => by
        unfold vM
        rw [if_pos hi, if_pos hi]
        unfold zrM
        refine if_neg fun z => ?_
        obtain ⟨-, z2, z3⟩ := z
        unfold inC at hi
        unfold mI at z2 z3
        rcases hi with hi | hi | hi | hi | hi
        · rw [if_pos hi.1] at z2 z3
          omega
        · rw [if_neg (by omega), if_pos (by omega)] at z2 z3
          omega
        · rw [if_neg (by omega), if_neg (by omega), if_pos (by omega)] at z2 z3
          omega
        · rw [if_neg (by omega), if_neg (by omega), if_neg (by omega), if_pos (by omega)] at z2 z3
          omega
        · rw [if_neg (by omega), if_neg (by omega), if_neg (by omega), if_neg (by omega)] at z2 z3
          omega
      have hz0 : ∀ k, k < 24 → vM 113 (zrM μ1 N 24) (1 + N) k = 0 := fun k hk => by
        unfold vM
        rw [if_pos (by unfold inC; omega), mIw hN4]
        unfold zrM
        exact if_pos ⟨rfl, by omega⟩
      have v2 : vM 113 μ2 = up (up (up (vM 113 (zrM μ1 N 24)) (1 + N) 5 note) (1 + N) 7 (-1)) 0 0 (nI (N + 1)) := by
        rw [e2, ums0, umw hN4 (by decide), umw hN4 (by decide)]
      have x1 : NWr (vC 1 μ) (vC 1 μ1) N note := by
        have nz : ¬ 1 + N = 0 := by omega
        refine ⟨fun o k p1 p2 => ?_, by rw [v1, up_eq], fun k hk => ?_, fun k hk hk2 => Or.inl ?_⟩
        · rw [v1]
          unfold up
          rw [if_neg p2, if_neg (fun z => p1 z.1), if_neg (fun z => p1 z.1), if_neg (fun z => p1 z.1), if_neg (fun z => p1 z.1), if_neg (fun z => p1 z.1), if_neg (fun z => p1 z.1), if_neg (fun z => p1 z.1), if_neg (fun z => p1 z.1)]
        · have hk8 : k = 0 ∨ k = 1 ∨ k = 2 ∨ k = 3 ∨ k = 4 ∨ k = 5 ∨ k = 6 ∨ k = 7 := by omega
          rw [v1, up_o nz]
          rcases hk8 with rfl | rfl | rfl | rfl | rfl | rfl | rfl | rfl <;> simp [up, bgW]
        · rw [v1, up_o nz, up_j (by omega), up_j (by omega), up_j (by omega), up_j (by omega), up_j (by omega), up_j (by omega), up_j (by omega), up_j (by omega)]
      have x2 : ∀ o k, inC o k → ¬ o = 1 + N → ¬ (o = 0 ∧ k = 0) → vM 113 μ2 o k = vM 113 μ o k := fun o k hi p1 p2 => by
        rw [v2]
        have e : up (up (up (vM 113 (zrM μ1 N 24)) (1 + N) 5 note) (1 + N) 7 (-1)) 0 0 (nI (N + 1)) o k = vM 113 (zrM μ1 N 24) o k := by
          unfold up
          rw [if_neg p2, if_neg (fun z => p1 z.1), if_neg (fun z => p1 z.1)]
        rw [e, hz o k hi p1, vM_congr f13]
      have x3 : NWr (vM 113 μ) (vM 113 μ2) N note := by
        have nz : ¬ 1 + N = 0 := by omega
        refine ⟨fun o k p1 p2 => ?_, by rw [v2, up_eq], fun k hk => ?_, fun k hk hk2 => Or.inr ?_⟩
        · by_cases hi : inC o k
          · exact x2 o k hi p1 p2
          · unfold vM
            rw [if_neg hi, if_neg hi]
        · rw [v2, up_o nz]
          unfold up bgW
          by_cases k7 : k = 7
          · subst k7
            rw [if_pos ⟨rfl, rfl⟩]
            rfl
          · rw [if_neg (fun z => k7 z.2)]
            by_cases k5 : k = 5
            · subst k5
              rw [if_pos ⟨rfl, rfl⟩]
              rfl
            · rw [if_neg (fun z => k5 z.2), hz0 k (by omega), if_neg k5, if_neg k7]
        · rw [v2, up_o nz, up_j (by omega), up_j (by omega)]
          exact hz0 k hk2
      have ev0 : vM 113 μ 0 0 = nI N := by rw [h.e0 (by decide), eN]
      have es : nI (N + 1) - 1 = nI N := by
        rw [nI_succ]
        exact Int32.add_sub_cancel ..
      refine ⟨(nI N), μ1, μ2, (by rw [f1 202 (by omega) (by omega) (by omega)]; exact h.u2), ?_, ?_, ?_⟩
      · rw [e1]
        simp -implicitDefEqProofs only [cl_54, u_54_0, u_54_1, u_54_2, u_54_3, u_54_4, cl_32, u_32_0, e_iload_n, e_iload, e_lload_n, e_lload, e_aload_n, e_aload, e_istore_n, e_istore, e_astore_n, e_astore, e_lstore_n, e_lstore, e_iinc, e_iconst, e_bipush, e_sipush, e_ldc_w, e_ldc, e_ldcS, e_lconst, e_ldc2_w, e_iadd, e_isub, e_imul, e_iand, e_ixor, e_ishl, e_ishr, e_iushr, e_idiv, e_irem, e_ineg, e_i2b, e_i2s, e_i2c, e_ladd, e_lsub, e_lmul, e_land, e_lor, e_ldiv, e_lrem, e_lneg, e_lshl, e_lshr, e_lushr, e_i2l, e_l2i, e_lcmp, e_dupI, e_dupA, e_dup2, e_getI, e_getA, e_putI, e_putZ, e_getstatic, e_iaload, e_iastore, e_aaload10, e_alen10, e_aaload11, e_alen11, e_aaload12, e_alen12, e_aaload13, e_alen13, e_alen, e_invokevirtual, e_invokevirtualB, e_invokestatic, e_invokestaticB, ct_0, ct_i, ct_a, ct_l, os_0, os_s, rc_0, rc_s, sl_0, sl_i, sl_a, sl_l, simprocAttr, ix, z_em, up_eq, up_j, Nat.le_refl, true_or, or_true, true_and, and_true, and_self, or_self, beq_self_eq_true, if_true, if_false, ite_self, ca_f, ca_t, aLen, Int32.lt_iff_toInt_lt, Int32.le_iff_toInt_le, z_ite, z_iten, z_ite1, ite_not, not_true_eq_false, not_false_eq_true, false_and, and_false, false_or, or_false, b_max, b_min, b_minL, b_absL, b_ixD, b_ixH, b_copy, tk_0, tk_s, dr_0, dr_s, pu_s, pu_n, ca_0, ca_1, clr_0, clr_s, e_nop, e_goto, e_if_eq, e_if_ne, e_if_lt, e_if_ge, e_if_gt, e_if_le, e_ic_eq, e_ic_ne, e_ic_lt, e_ic_ge, e_ic_gt, e_ic_le, e_tsw, e_lsw, sw_0, sw_s, e_iret, e_zret, e_lret, e_aret, e_ret, en_0, en_n, en_i, en_a, en_l, List.getElem?_cons_zero, List.getElem?_cons_succ, List.set_cons_zero, List.set_cons_succ, len_s, List.length_nil, ne_eq, x_within, x_in, eT1, eT2, eT3, eT4, eT5, eT6, eM1, eM2, eM3, eM4, eM5, eM6, Nat.one_mul, Nat.mul_one, Nat.zero_add, q1, e5, nN, cN, b4, b0, up_o nb, es, ← nI_succ]
      · have hk := k_worker (d := d) (note := note) (μ := μ1) hN4 m1' 24 0 (by omega)
        have ez : zrM μ1 N 0 = μ1 := by
          funext a c
          unfold zrM
          exact if_neg (by omega)
        rw [ez, ← e2] at hk
        rw [← hk]
        have z0 : (vI (nI 0) : AV) = vI 0 := rfl
        rw [z0]
        simp -implicitDefEqProofs only [cl_115, u_115_0, u_115_1, u_115_2, u_115_3, u_115_4, u_115_6, u_115_7, e_iload_n, e_iload, e_lload_n, e_lload, e_aload_n, e_aload, e_istore_n, e_istore, e_astore_n, e_astore, e_lstore_n, e_lstore, e_iinc, e_iconst, e_bipush, e_sipush, e_ldc_w, e_ldc, e_ldcS, e_lconst, e_ldc2_w, e_iadd, e_isub, e_imul, e_iand, e_ixor, e_ishl, e_ishr, e_iushr, e_idiv, e_irem, e_ineg, e_i2b, e_i2s, e_i2c, e_ladd, e_lsub, e_lmul, e_land, e_lor, e_ldiv, e_lrem, e_lneg, e_lshl, e_lshr, e_lushr, e_i2l, e_l2i, e_lcmp, e_dupI, e_dupA, e_dup2, e_getI, e_getA, e_putI, e_putZ, e_getstatic, e_iaload, e_iastore, e_aaload10, e_alen10, e_aaload11, e_alen11, e_aaload12, e_alen12, e_aaload13, e_alen13, e_alen, e_invokevirtual, e_invokevirtualB, e_invokestatic, e_invokestaticB, ct_0, ct_i, ct_a, ct_l, os_0, os_s, rc_0, rc_s, sl_0, sl_i, sl_a, sl_l, simprocAttr, ix, z_em, up_eq, up_j, Nat.le_refl, true_or, or_true, true_and, and_true, and_self, or_self, beq_self_eq_true, if_true, if_false, ite_self, ca_f, ca_t, aLen, Int32.lt_iff_toInt_lt, Int32.le_iff_toInt_le, z_ite, z_iten, z_ite1, ite_not, not_true_eq_false, not_false_eq_true, false_and, and_false, false_or, or_false, b_max, b_min, b_minL, b_absL, b_ixD, b_ixH, b_copy, tk_0, tk_s, dr_0, dr_s, pu_s, pu_n, ca_0, ca_1, clr_0, clr_s, e_nop, e_goto, e_if_eq, e_if_ne, e_if_lt, e_if_ge, e_if_gt, e_if_le, e_ic_eq, e_ic_ne, e_ic_lt, e_ic_ge, e_ic_gt, e_ic_le, e_tsw, e_lsw, sw_0, sw_s, e_iret, e_zret, e_lret, e_aret, e_ret, en_0, en_n, en_i, en_a, en_l, List.getElem?_cons_zero, List.getElem?_cons_succ, List.set_cons_zero, List.set_cons_succ, len_s, List.length_nil, ne_eq, x_within, x_in, eT1, eT2, eT3, eT4, eT5, eT6, eM1, eM2, eM3, eM4, eM5, eM6, Nat.one_mul, Nat.mul_one, Nat.zero_add, q1, m1', ne4]
      · refine h.w2 f1 f2 (nw_wf x1 h.1.1.1 hN4 eN q1) (nw_wf x3 h.1.1.2 hN4 ev0 q1) (nw_wd x1 h.1.2.1.1 hN4) (nw_wd x3 h.1.2.1.2 hN4) ?_ (nw_eq x1 x3 h.1.2.2.2.1 hN4 eN)
        rw [x1.1 0 2 (by omega) (by omega)]
        exact h.1.2.2.1
  · refine PR.er (k := 1) h (by decide) (by decide) ?_ (fun μ1 f => ?_)
    · simp -implicitDefEqProofs only [cl_54, u_54_0, u_54_1, u_54_2, u_54_3, u_54_4, e_iload_n, e_iload, e_lload_n, e_lload, e_aload_n, e_aload, e_istore_n, e_istore, e_astore_n, e_astore, e_lstore_n, e_lstore, e_iinc, e_iconst, e_bipush, e_sipush, e_ldc_w, e_ldc, e_ldcS, e_lconst, e_ldc2_w, e_iadd, e_isub, e_imul, e_iand, e_ixor, e_ishl, e_ishr, e_iushr, e_idiv, e_irem, e_ineg, e_i2b, e_i2s, e_i2c, e_ladd, e_lsub, e_lmul, e_land, e_lor, e_ldiv, e_lrem, e_lneg, e_lshl, e_lshr, e_lushr, e_i2l, e_l2i, e_lcmp, e_dupI, e_dupA, e_dup2, e_getI, e_getA, e_putI, e_putZ, e_getstatic, e_iaload, e_iastore, e_aaload10, e_alen10, e_aaload11, e_alen11, e_aaload12, e_alen12, e_aaload13, e_alen13, e_alen, e_invokevirtual, e_invokevirtualB, e_invokestatic, e_invokestaticB, ct_0, ct_i, ct_a, ct_l, os_0, os_s, rc_0, rc_s, sl_0, sl_i, sl_a, sl_l, simprocAttr, ix, z_em, up_eq, up_j, Nat.le_refl, true_or, or_true, true_and, and_true, and_self, or_self, beq_self_eq_true, if_true, if_false, ite_self, ca_f, ca_t, aLen, Int32.lt_iff_toInt_lt, Int32.le_iff_toInt_le, z_ite, z_iten, z_ite1, ite_not, not_true_eq_false, not_false_eq_true, false_and, and_false, false_or, or_false, b_max, b_min, b_minL, b_absL, b_ixD, b_ixH, b_copy, tk_0, tk_s, dr_0, dr_s, pu_s, pu_n, ca_0, ca_1, clr_0, clr_s, e_nop, e_goto, e_if_eq, e_if_ne, e_if_lt, e_if_ge, e_if_gt, e_if_le, e_ic_eq, e_ic_ne, e_ic_lt, e_ic_ge, e_ic_gt, e_ic_le, e_tsw, e_lsw, sw_0, sw_s, e_iret, e_zret, e_lret, e_aret, e_ret, en_0, en_n, en_i, en_a, en_l, List.getElem?_cons_zero, List.getElem?_cons_succ, List.set_cons_zero, List.set_cons_succ, len_s, List.length_nil, ne_eq, x_within, x_in, eT1, eT2, eT3, eT4, eT5, eT6, eM1, eM2, eM3, eM4, eM5, eM6, Nat.one_mul, Nat.mul_one, Nat.zero_add, q1]
    · simp -implicitDefEqProofs only [cl_115, u_115_0, u_115_1, u_115_2, u_115_3, u_115_4, u_115_6, u_115_7, e_iload_n, e_iload, e_lload_n, e_lload, e_aload_n, e_aload, e_istore_n, e_istore, e_astore_n, e_astore, e_lstore_n, e_lstore, e_iinc, e_iconst, e_bipush, e_sipush, e_ldc_w, e_ldc, e_ldcS, e_lconst, e_ldc2_w, e_iadd, e_isub, e_imul, e_iand, e_ixor, e_ishl, e_ishr, e_iushr, e_idiv, e_irem, e_ineg, e_i2b, e_i2s, e_i2c, e_ladd, e_lsub, e_lmul, e_land, e_lor, e_ldiv, e_lrem, e_lneg, e_lshl, e_lshr, e_lushr, e_i2l, e_l2i, e_lcmp, e_dupI, e_dupA, e_dup2, e_getI, e_getA, e_putI, e_putZ, e_getstatic, e_iaload, e_iastore, e_aaload10, e_alen10, e_aaload11, e_alen11, e_aaload12, e_alen12, e_aaload13, e_alen13, e_alen, e_invokevirtual, e_invokevirtualB, e_invokestatic, e_invokestaticB, ct_0, ct_i, ct_a, ct_l, os_0, os_s, rc_0, rc_s, sl_0, sl_i, sl_a, sl_l, simprocAttr, ix, z_em, up_eq, up_j, Nat.le_refl, true_or, or_true, true_and, and_true, and_self, or_self, beq_self_eq_true, if_true, if_false, ite_self, ca_f, ca_t, aLen, Int32.lt_iff_toInt_lt, Int32.le_iff_toInt_le, z_ite, z_iten, z_ite1, ite_not, not_true_eq_false, not_false_eq_true, false_and, and_false, false_or, or_false, b_max, b_min, b_minL, b_absL, b_ixD, b_ixH, b_copy, tk_0, tk_s, dr_0, dr_s, pu_s, pu_n, ca_0, ca_1, clr_0, clr_s, e_nop, e_goto, e_if_eq, e_if_ne, e_if_lt, e_if_ge, e_if_gt, e_if_le, e_ic_eq, e_ic_ne, e_ic_lt, e_ic_ge, e_ic_gt, e_ic_le, e_tsw, e_lsw, sw_0, sw_s, e_iret, e_zret, e_lret, e_aret, e_ret, en_0, en_n, en_i, en_a, en_l, List.getElem?_cons_zero, List.getElem?_cons_succ, List.set_cons_zero, List.set_cons_succ, len_s, List.length_nil, ne_eq, x_within, x_in, eT1, eT2, eT3, eT4, eT5, eT6, eM1, eM2, eM3, eM4, eM5, eM6, Nat.one_mul, Nat.mul_one, Nat.zero_add, q1]
