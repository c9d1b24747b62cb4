/-! PAIRS OF CALLS: voices. -/
def brV (k x : Int32) (a : Nat) : Int32 := if a = 1 then x + k - 8 else if a = 4 then (x + k - 8) * 3 else if a = 6 then 3 else x + k
def brT (a : Nat) : List Int32 := if a = 1 then [20, 10] else if a = 4 then [50, 20, 10] else if a = 6 then [70] else [10]
def as0 (κ : Nat) (k x : Int32) : Int32 := brV k x κ * 2
def asV (κ : Nat) (k m x : Int32) (a : Nat) : Int32 := if a = 2 then 0 - as0 κ k x else if a = 5 then 0 - as0 κ k (x + 1) else if a = 6 then as0 κ k x + m else as0 κ k x
def asT (κ a : Nat) : List Int32 := if a = 2 then 30 :: 11 :: brT κ else if a = 5 then 60 :: 30 :: 11 :: brT κ else if a = 6 then 71 :: 11 :: brT κ else 11 :: brT κ
def ho0 (κ : Nat) (k m x : Int32) : Int32 := asV κ k m x κ - m
def hoV (κ : Nat) (k m x : Int32) (a : Nat) : Int32 := if a = 3 then ho0 κ k m (x / 2) else if a = 4 then ho0 κ k m x ^^^ k else ho0 κ k m x
def hoT (κ a : Nat) : List Int32 := if a = 3 then 40 :: 12 :: asT κ κ else if a = 4 then 51 :: 12 :: asT κ κ else 12 :: asT κ κ
def psC (μ : Mem) (t : Nat) : List Int32 → Mem
  | [] => μ
  | b :: l => psC (up (up μ 101 t b) 100 1 (nI (t + 1))) (t + 1) l
def psM (μ : Mem) (t : Nat) : List Int32 → Mem
  | [] => μ
  | b :: l => psM (up (up μ 122 t b) 112 15 (nI (t + 1))) (t + 1) l
theorem psC_n {μ : Mem} {t : Nat} : psC μ t [] = μ := rfl
theorem psC_c {μ : Mem} {t : Nat} {b : Int32} {l : List Int32} : psC μ t (b :: l) = psC (up (up μ 101 t b) 100 1 (nI (t + 1))) (t + 1) l := rfl
theorem psM_n {μ : Mem} {t : Nat} : psM μ t [] = μ := rfl
theorem psM_c {μ : Mem} {t : Nat} {b : Int32} {l : List Int32} : psM μ t (b :: l) = psM (up (up μ 122 t b) 112 15 (nI (t + 1))) (t + 1) l := rfl
theorem psC_at {o j : Nat} (h : o ≠ 101) (h2 : ¬ (o = 100 ∧ j = 1)) : ∀ (l : List Int32) (μ : Mem) (t : Nat), psC μ t l o j = μ o j := by
  intro l
  induction l with
  | nil => exact fun _ _ => rfl
  | cons b l ih =>
    intro μ t
    rw [psC_c, ih]
    have e : up (up μ 101 t b) 100 1 (nI (t + 1)) o j = up μ 101 t b o j := if_neg h2
    rw [e, up_o h]
theorem psM_at {o j : Nat} (h : o ≠ 122) (h2 : ¬ (o = 112 ∧ j = 15)) : ∀ (l : List Int32) (μ : Mem) (t : Nat), psM μ t l o j = μ o j := by
  intro l
  induction l with
  | nil => exact fun _ _ => rfl
  | cons b l ih =>
    intro μ t
    rw [psM_c, ih]
    have e : up (up μ 122 t b) 112 15 (nI (t + 1)) o j = up μ 122 t b o j := if_neg h2
    rw [e, up_o h]
theorem psC_1 : ∀ (l : List Int32) (μ : Mem) (t : Nat), μ 100 1 = nI t → psC μ t l 100 1 = nI (t + l.length) := by
  intro l
  induction l with
  | nil => exact fun _ _ h => h
  | cons b l ih =>
    intro μ t h
    rw [psC_c, ih _ _ up_eq]
    exact congrArg nI (by rw [List.length_cons]; omega)
theorem psM_1 : ∀ (l : List Int32) (μ : Mem) (t : Nat), μ 112 15 = nI t → psM μ t l 112 15 = nI (t + l.length) := by
  intro l
  induction l with
  | nil => exact fun _ _ h => h
  | cons b l ih =>
    intro μ t h
    rw [psM_c, ih _ _ up_eq]
    exact congrArg nI (by rw [List.length_cons]; omega)
/-- the rows of what began are the same -/
theorem ps_tr : ∀ (l : List Int32) (μ μ' : Mem) (t : Nat), (∀ i, i < t → μ' 122 i = μ 101 i) → ∀ i, i < t + l.length → psM μ' t l 122 i = psC μ t l 101 i := by
  intro l
  induction l with
  | nil => exact fun _ _ _ h i hi => h i (by simpa using hi)
  | cons b l ih =>
    intro μ μ' t h i hi
    rw [psM_c, psC_c]
    refine ih _ _ (t + 1) (fun j hj => ?_) i (by rw [List.length_cons] at hi; omega)
    have e1 : ∀ W : Mem, up W 112 15 (nI (t + 1)) 122 j = W 122 j := fun W => up_o (by decide)
    have e2 : ∀ W : Mem, up W 100 1 (nI (t + 1)) 101 j = W 101 j := fun W => up_o (by decide)
    rw [e1, e2]
    by_cases q : j = t
    · subst q
      rw [up_eq, up_eq]
    · rw [up_j q, up_j q]
      exact h j (by omega)
def SPK (fz μ : Mem) (κ : Nat) (k m : Int32) (t : Nat) : Prop := μ 200 = fz 200 ∧ μ 201 = fz 201 ∧ μ 100 2 = nI κ ∧ μ 100 3 = m ∧ μ 100 4 = k ∧ μ 100 1 = nI t
theorem SPK.ps {fz μ : Mem} {κ t : Nat} {k m : Int32} (h : SPK fz μ κ k m t) (l : List Int32) : SPK fz (psC μ t l) κ k m (t + l.length) := by
  obtain ⟨a1, a2, a3, a4, a5, a6⟩ := h
  refine ⟨?_, ?_, ?_, ?_, ?_, psC_1 l μ t a6⟩
  · rw [← a1]
    funext c
    exact psC_at (by decide) (by omega) l μ t
  · rw [← a2]
    funext c
    exact psC_at (by decide) (by omega) l μ t
  · rw [psC_at (by decide) (by omega)]; exact a3
  · rw [psC_at (by decide) (by omega)]; exact a4
  · rw [psC_at (by decide) (by omega)]; exact a5
theorem SPK.p1 {fz μ : Mem} {κ t : Nat} {k m : Int32} (h : SPK fz μ κ k m t) {b : Int32} : SPK fz (up (up μ 101 t b) 100 1 (nI (t + 1))) κ k m (t + 1) := h.ps [b]
set_option maxHeartbeats 2000000 in
theorem xb0 {fz : Mem} {d t dp κ : Nat} {k m x : Int32} {μ : Mem} (hz : FZ fz) (hs : SPK fz μ κ k m t) (hκ : κ < 7) (ht : t ≤ 26) (hd : dp ≤ 18) : cl (d) 27 [vR 4 100, vI 0, vI 0, vI x, vI (nI dp)] μ = some (some (vI (x + k)), psC μ t ([10])) := by
  obtain ⟨s1, s2, s3, s4, s5, s6⟩ := hs
  obtain ⟨⟨z0, z1, z2, z3, z4, z5, z6⟩, ⟨y0, y1, y2, y3, y4, y5, y6, y7, y8, y9, y10, y11, y12, y13, y14, y15, y16, y17, y18, y19, y20, y21, y22, y23, y24, y25, y26, y27⟩⟩ := hz
  rw [← s1] at z0 z1 z2 z3 z4 z5 z6
  rw [← s2] at y0 y1 y2 y3 y4 y5 y6 y7 y8 y9 y10 y11 y12 y13 y14 y15 y16 y17 y18 y19 y20 y21 y22 y23 y24 y25 y26 y27
  have nt : (nI t).toInt = t := nI_toInt (by omega)
  have ct : (nI t).toNatClampNeg = t := ix_nI (by omega)
  have bt : (t : Int) < 30 := by omega
  have b0 : (0 : Int) ≤ (t : Int) := by omega
  have n30 : (nI 30).toInt = 30 := nI_toInt (by omega)
  have nd : (nI dp).toInt = dp := nI_toInt (by omega)
  have bd : (dp : Int) < 20 := by omega
  rw [cl_27]
  simp -implicitDefEqProofs only [u_27_0, u_27_1, u_27_2, u_27_4, u_27_5, u_27_6, u_27_7, u_27_8, u_27_3, cl_29, u_29_0, u_29_1, u_29_2, u_29_3, u_29_4, u_29_5, u_29_6, u_29_7, u_29_8, u_29_9, u_29_10, u_29_11, u_29_12, u_29_13, u_29_14, cl_28, u_28_0, u_28_1, u_28_2, e_iload_n, e_iload, e_lload_n, e_lload, e_aload_n, e_aload, e_istore_n, e_istore, e_astore_n, e_astore, e_lstore_n, e_lstore, e_iinc, e_iconst, e_bipush, e_sipush, e_ldc_w, e_ldc, e_ldcS, e_lconst, e_ldc2_w, e_iadd, e_isub, e_imul, e_iand, e_ixor, e_ishl, e_ishr, e_iushr, e_idiv, e_irem, e_ineg, e_i2b, e_i2s, e_i2c, e_ladd, e_lsub, e_lmul, e_land, e_lor, e_ldiv, e_lrem, e_lneg, e_lshl, e_lshr, e_lushr, e_i2l, e_l2i, e_lcmp, e_dupI, e_dupA, e_dup2, e_getI, e_getA, e_putI, e_putZ, e_getstatic, e_iaload, e_iastore, e_aaload10, e_alen10, e_aaload11, e_alen11, e_aaload12, e_alen12, e_aaload13, e_alen13, e_alen, e_invokevirtual, e_invokevirtualB, e_invokestatic, e_invokestaticB, ct_0, ct_i, ct_a, ct_l, os_0, os_s, rc_0, rc_s, sl_0, sl_i, sl_a, sl_l, simprocAttr, ix, z_em, up_eq, up_j, Nat.le_refl, true_or, or_true, true_and, and_true, and_self, or_self, beq_self_eq_true, if_true, if_false, ite_self, ca_f, ca_t, aLen, Int32.lt_iff_toInt_lt, Int32.le_iff_toInt_le, z_ite, z_iten, z_ite1, ite_not, not_true_eq_false, not_false_eq_true, false_and, and_false, false_or, or_false, b_max, b_min, b_minL, b_absL, b_ixD, b_ixH, b_copy, tk_0, tk_s, dr_0, dr_s, pu_s, pu_n, ca_0, ca_1, clr_0, clr_s, e_nop, e_goto, e_if_eq, e_if_ne, e_if_lt, e_if_ge, e_if_gt, e_if_le, e_ic_eq, e_ic_ne, e_ic_lt, e_ic_ge, e_ic_gt, e_ic_le, e_tsw, e_lsw, sw_0, sw_s, e_iret, e_zret, e_lret, e_aret, e_ret, en_0, en_n, en_i, en_a, en_l, List.getElem?_cons_zero, List.getElem?_cons_succ, List.set_cons_zero, List.set_cons_succ, len_s, List.length_nil, ne_eq, x_within, x_in, eT1, eT2, eT3, eT4, eT5, eT6, eM1, eM2, eM3, eM4, eM5, eM6, Nat.one_mul, Nat.mul_one, Nat.zero_add, z0, z1, z2, z3, z4, z5, z6, y0, y1, y2, y3, y4, y5, y6, y7, y8, y9, y10, y11, y12, y13, y14, y15, y16, y17, y18, y19, y20, y21, y22, y23, y24, y25, y26, y27, s3, s4, s5, s6, n30, nt, ct, bt, b0, nd, bd, up_o (show ¬ (100 : Nat) = 101 by decide), up_o (show ¬ (200 : Nat) = 101 by decide), up_o (show ¬ (200 : Nat) = 100 by decide), up_o (show ¬ (201 : Nat) = 101 by decide), up_o (show ¬ (201 : Nat) = 100 by decide), psC_n, psC_c, ← nI_succ]
set_option maxHeartbeats 2000000 in
theorem xb1 {fz : Mem} {d t dp κ : Nat} {k m x : Int32} {μ : Mem} (hz : FZ fz) (hs : SPK fz μ κ k m t) (hκ : κ < 7) (ht : t ≤ 25) (hd : dp ≤ 17) : cl (d + 1) 27 [vR 4 100, vI 1, vI 0, vI x, vI (nI dp)] μ = some (some (vI (x + k - 8)), psC μ t ([20, 10])) := by
  have h1 : cl _ 27 [Sum.inr (Sum.inr (4, 100)), vI 0, vI 0, vI x, vI (nI (dp + 1))] (up (up μ 101 t 20) 100 1 (nI (t + 1))) = _ := xb0 (d := d) (x := x) (dp := dp + 1) hz hs.p1 hκ (by omega) (by omega)
  obtain ⟨s1, s2, s3, s4, s5, s6⟩ := hs
  obtain ⟨⟨z0, z1, z2, z3, z4, z5, z6⟩, ⟨y0, y1, y2, y3, y4, y5, y6, y7, y8, y9, y10, y11, y12, y13, y14, y15, y16, y17, y18, y19, y20, y21, y22, y23, y24, y25, y26, y27⟩⟩ := hz
  rw [← s1] at z0 z1 z2 z3 z4 z5 z6
  rw [← s2] at y0 y1 y2 y3 y4 y5 y6 y7 y8 y9 y10 y11 y12 y13 y14 y15 y16 y17 y18 y19 y20 y21 y22 y23 y24 y25 y26 y27
  have nt : (nI t).toInt = t := nI_toInt (by omega)
  have ct : (nI t).toNatClampNeg = t := ix_nI (by omega)
  have bt : (t : Int) < 30 := by omega
  have b0 : (0 : Int) ≤ (t : Int) := by omega
  have n30 : (nI 30).toInt = 30 := nI_toInt (by omega)
  have nd : (nI dp).toInt = dp := nI_toInt (by omega)
  have bd : (dp : Int) < 20 := by omega
  rw [cl_27]
  simp -implicitDefEqProofs only [u_27_0, u_27_1, u_27_2, u_27_4, u_27_5, u_27_6, u_27_7, u_27_8, u_27_3, cl_29, u_29_0, u_29_1, u_29_2, u_29_3, u_29_4, u_29_5, u_29_6, u_29_7, u_29_8, u_29_9, u_29_10, u_29_11, u_29_12, u_29_13, u_29_14, cl_28, u_28_0, u_28_1, u_28_2, e_iload_n, e_iload, e_lload_n, e_lload, e_aload_n, e_aload, e_istore_n, e_istore, e_astore_n, e_astore, e_lstore_n, e_lstore, e_iinc, e_iconst, e_bipush, e_sipush, e_ldc_w, e_ldc, e_ldcS, e_lconst, e_ldc2_w, e_iadd, e_isub, e_imul, e_iand, e_ixor, e_ishl, e_ishr, e_iushr, e_idiv, e_irem, e_ineg, e_i2b, e_i2s, e_i2c, e_ladd, e_lsub, e_lmul, e_land, e_lor, e_ldiv, e_lrem, e_lneg, e_lshl, e_lshr, e_lushr, e_i2l, e_l2i, e_lcmp, e_dupI, e_dupA, e_dup2, e_getI, e_getA, e_putI, e_putZ, e_getstatic, e_iaload, e_iastore, e_aaload10, e_alen10, e_aaload11, e_alen11, e_aaload12, e_alen12, e_aaload13, e_alen13, e_alen, e_invokevirtual, e_invokevirtualB, e_invokestatic, e_invokestaticB, ct_0, ct_i, ct_a, ct_l, os_0, os_s, rc_0, rc_s, sl_0, sl_i, sl_a, sl_l, simprocAttr, ix, z_em, up_eq, up_j, Nat.le_refl, true_or, or_true, true_and, and_true, and_self, or_self, beq_self_eq_true, if_true, if_false, ite_self, ca_f, ca_t, aLen, Int32.lt_iff_toInt_lt, Int32.le_iff_toInt_le, z_ite, z_iten, z_ite1, ite_not, not_true_eq_false, not_false_eq_true, false_and, and_false, false_or, or_false, b_max, b_min, b_minL, b_absL, b_ixD, b_ixH, b_copy, tk_0, tk_s, dr_0, dr_s, pu_s, pu_n, ca_0, ca_1, clr_0, clr_s, e_nop, e_goto, e_if_eq, e_if_ne, e_if_lt, e_if_ge, e_if_gt, e_if_le, e_ic_eq, e_ic_ne, e_ic_lt, e_ic_ge, e_ic_gt, e_ic_le, e_tsw, e_lsw, sw_0, sw_s, e_iret, e_zret, e_lret, e_aret, e_ret, en_0, en_n, en_i, en_a, en_l, List.getElem?_cons_zero, List.getElem?_cons_succ, List.set_cons_zero, List.set_cons_succ, len_s, List.length_nil, ne_eq, x_within, x_in, eT1, eT2, eT3, eT4, eT5, eT6, eM1, eM2, eM3, eM4, eM5, eM6, Nat.one_mul, Nat.mul_one, Nat.zero_add, z0, z1, z2, z3, z4, z5, z6, y0, y1, y2, y3, y4, y5, y6, y7, y8, y9, y10, y11, y12, y13, y14, y15, y16, y17, y18, y19, y20, y21, y22, y23, y24, y25, y26, y27, s3, s4, s5, s6, n30, nt, ct, bt, b0, nd, bd, up_o (show ¬ (100 : Nat) = 101 by decide), up_o (show ¬ (200 : Nat) = 101 by decide), up_o (show ¬ (200 : Nat) = 100 by decide), up_o (show ¬ (201 : Nat) = 101 by decide), up_o (show ¬ (201 : Nat) = 100 by decide), psC_n, psC_c, ← nI_succ, h1]
set_option maxHeartbeats 2000000 in
theorem xb2 {fz : Mem} {d t dp κ : Nat} {k m x : Int32} {μ : Mem} (hz : FZ fz) (hs : SPK fz μ κ k m t) (hκ : κ < 7) (ht : t ≤ 26) (hd : dp ≤ 18) : cl (d) 27 [vR 4 100, vI 2, vI 0, vI x, vI (nI dp)] μ = some (some (vI (x + k)), psC μ t ([10])) := by
  obtain ⟨s1, s2, s3, s4, s5, s6⟩ := hs
  obtain ⟨⟨z0, z1, z2, z3, z4, z5, z6⟩, ⟨y0, y1, y2, y3, y4, y5, y6, y7, y8, y9, y10, y11, y12, y13, y14, y15, y16, y17, y18, y19, y20, y21, y22, y23, y24, y25, y26, y27⟩⟩ := hz
  rw [← s1] at z0 z1 z2 z3 z4 z5 z6
  rw [← s2] at y0 y1 y2 y3 y4 y5 y6 y7 y8 y9 y10 y11 y12 y13 y14 y15 y16 y17 y18 y19 y20 y21 y22 y23 y24 y25 y26 y27
  have nt : (nI t).toInt = t := nI_toInt (by omega)
  have ct : (nI t).toNatClampNeg = t := ix_nI (by omega)
  have bt : (t : Int) < 30 := by omega
  have b0 : (0 : Int) ≤ (t : Int) := by omega
  have n30 : (nI 30).toInt = 30 := nI_toInt (by omega)
  have nd : (nI dp).toInt = dp := nI_toInt (by omega)
  have bd : (dp : Int) < 20 := by omega
  rw [cl_27]
  simp -implicitDefEqProofs only [u_27_0, u_27_1, u_27_2, u_27_4, u_27_5, u_27_6, u_27_7, u_27_8, u_27_3, cl_29, u_29_0, u_29_1, u_29_2, u_29_3, u_29_4, u_29_5, u_29_6, u_29_7, u_29_8, u_29_9, u_29_10, u_29_11, u_29_12, u_29_13, u_29_14, cl_28, u_28_0, u_28_1, u_28_2, e_iload_n, e_iload, e_lload_n, e_lload, e_aload_n, e_aload, e_istore_n, e_istore, e_astore_n, e_astore, e_lstore_n, e_lstore, e_iinc, e_iconst, e_bipush, e_sipush, e_ldc_w, e_ldc, e_ldcS, e_lconst, e_ldc2_w, e_iadd, e_isub, e_imul, e_iand, e_ixor, e_ishl, e_ishr, e_iushr, e_idiv, e_irem, e_ineg, e_i2b, e_i2s, e_i2c, e_ladd, e_lsub, e_lmul, e_land, e_lor, e_ldiv, e_lrem, e_lneg, e_lshl, e_lshr, e_lushr, e_i2l, e_l2i, e_lcmp, e_dupI, e_dupA, e_dup2, e_getI, e_getA, e_putI, e_putZ, e_getstatic, e_iaload, e_iastore, e_aaload10, e_alen10, e_aaload11, e_alen11, e_aaload12, e_alen12, e_aaload13, e_alen13, e_alen, e_invokevirtual, e_invokevirtualB, e_invokestatic, e_invokestaticB, ct_0, ct_i, ct_a, ct_l, os_0, os_s, rc_0, rc_s, sl_0, sl_i, sl_a, sl_l, simprocAttr, ix, z_em, up_eq, up_j, Nat.le_refl, true_or, or_true, true_and, and_true, and_self, or_self, beq_self_eq_true, if_true, if_false, ite_self, ca_f, ca_t, aLen, Int32.lt_iff_toInt_lt, Int32.le_iff_toInt_le, z_ite, z_iten, z_ite1, ite_not, not_true_eq_false, not_false_eq_true, false_and, and_false, false_or, or_false, b_max, b_min, b_minL, b_absL, b_ixD, b_ixH, b_copy, tk_0, tk_s, dr_0, dr_s, pu_s, pu_n, ca_0, ca_1, clr_0, clr_s, e_nop, e_goto, e_if_eq, e_if_ne, e_if_lt, e_if_ge, e_if_gt, e_if_le, e_ic_eq, e_ic_ne, e_ic_lt, e_ic_ge, e_ic_gt, e_ic_le, e_tsw, e_lsw, sw_0, sw_s, e_iret, e_zret, e_lret, e_aret, e_ret, en_0, en_n, en_i, en_a, en_l, List.getElem?_cons_zero, List.getElem?_cons_succ, List.set_cons_zero, List.set_cons_succ, len_s, List.length_nil, ne_eq, x_within, x_in, eT1, eT2, eT3, eT4, eT5, eT6, eM1, eM2, eM3, eM4, eM5, eM6, Nat.one_mul, Nat.mul_one, Nat.zero_add, z0, z1, z2, z3, z4, z5, z6, y0, y1, y2, y3, y4, y5, y6, y7, y8, y9, y10, y11, y12, y13, y14, y15, y16, y17, y18, y19, y20, y21, y22, y23, y24, y25, y26, y27, s3, s4, s5, s6, n30, nt, ct, bt, b0, nd, bd, up_o (show ¬ (100 : Nat) = 101 by decide), up_o (show ¬ (200 : Nat) = 101 by decide), up_o (show ¬ (200 : Nat) = 100 by decide), up_o (show ¬ (201 : Nat) = 101 by decide), up_o (show ¬ (201 : Nat) = 100 by decide), psC_n, psC_c, ← nI_succ]
set_option maxHeartbeats 2000000 in
theorem xb3 {fz : Mem} {d t dp κ : Nat} {k m x : Int32} {μ : Mem} (hz : FZ fz) (hs : SPK fz μ κ k m t) (hκ : κ < 7) (ht : t ≤ 26) (hd : dp ≤ 18) : cl (d) 27 [vR 4 100, vI 3, vI 0, vI x, vI (nI dp)] μ = some (some (vI (x + k)), psC μ t ([10])) := by
  obtain ⟨s1, s2, s3, s4, s5, s6⟩ := hs
  obtain ⟨⟨z0, z1, z2, z3, z4, z5, z6⟩, ⟨y0, y1, y2, y3, y4, y5, y6, y7, y8, y9, y10, y11, y12, y13, y14, y15, y16, y17, y18, y19, y20, y21, y22, y23, y24, y25, y26, y27⟩⟩ := hz
  rw [← s1] at z0 z1 z2 z3 z4 z5 z6
  rw [← s2] at y0 y1 y2 y3 y4 y5 y6 y7 y8 y9 y10 y11 y12 y13 y14 y15 y16 y17 y18 y19 y20 y21 y22 y23 y24 y25 y26 y27
  have nt : (nI t).toInt = t := nI_toInt (by omega)
  have ct : (nI t).toNatClampNeg = t := ix_nI (by omega)
  have bt : (t : Int) < 30 := by omega
  have b0 : (0 : Int) ≤ (t : Int) := by omega
  have n30 : (nI 30).toInt = 30 := nI_toInt (by omega)
  have nd : (nI dp).toInt = dp := nI_toInt (by omega)
  have bd : (dp : Int) < 20 := by omega
  rw [cl_27]
  simp -implicitDefEqProofs only [u_27_0, u_27_1, u_27_2, u_27_4, u_27_5, u_27_6, u_27_7, u_27_8, u_27_3, cl_29, u_29_0, u_29_1, u_29_2, u_29_3, u_29_4, u_29_5, u_29_6, u_29_7, u_29_8, u_29_9, u_29_10, u_29_11, u_29_12, u_29_13, u_29_14, cl_28, u_28_0, u_28_1, u_28_2, e_iload_n, e_iload, e_lload_n, e_lload, e_aload_n, e_aload, e_istore_n, e_istore, e_astore_n, e_astore, e_lstore_n, e_lstore, e_iinc, e_iconst, e_bipush, e_sipush, e_ldc_w, e_ldc, e_ldcS, e_lconst, e_ldc2_w, e_iadd, e_isub, e_imul, e_iand, e_ixor, e_ishl, e_ishr, e_iushr, e_idiv, e_irem, e_ineg, e_i2b, e_i2s, e_i2c, e_ladd, e_lsub, e_lmul, e_land, e_lor, e_ldiv, e_lrem, e_lneg, e_lshl, e_lshr, e_lushr, e_i2l, e_l2i, e_lcmp, e_dupI, e_dupA, e_dup2, e_getI, e_getA, e_putI, e_putZ, e_getstatic, e_iaload, e_iastore, e_aaload10, e_alen10, e_aaload11, e_alen11, e_aaload12, e_alen12, e_aaload13, e_alen13, e_alen, e_invokevirtual, e_invokevirtualB, e_invokestatic, e_invokestaticB, ct_0, ct_i, ct_a, ct_l, os_0, os_s, rc_0, rc_s, sl_0, sl_i, sl_a, sl_l, simprocAttr, ix, z_em, up_eq, up_j, Nat.le_refl, true_or, or_true, true_and, and_true, and_self, or_self, beq_self_eq_true, if_true, if_false, ite_self, ca_f, ca_t, aLen, Int32.lt_iff_toInt_lt, Int32.le_iff_toInt_le, z_ite, z_iten, z_ite1, ite_not, not_true_eq_false, not_false_eq_true, false_and, and_false, false_or, or_false, b_max, b_min, b_minL, b_absL, b_ixD, b_ixH, b_copy, tk_0, tk_s, dr_0, dr_s, pu_s, pu_n, ca_0, ca_1, clr_0, clr_s, e_nop, e_goto, e_if_eq, e_if_ne, e_if_lt, e_if_ge, e_if_gt, e_if_le, e_ic_eq, e_ic_ne, e_ic_lt, e_ic_ge, e_ic_gt, e_ic_le, e_tsw, e_lsw, sw_0, sw_s, e_iret, e_zret, e_lret, e_aret, e_ret, en_0, en_n, en_i, en_a, en_l, List.getElem?_cons_zero, List.getElem?_cons_succ, List.set_cons_zero, List.set_cons_succ, len_s, List.length_nil, ne_eq, x_within, x_in, eT1, eT2, eT3, eT4, eT5, eT6, eM1, eM2, eM3, eM4, eM5, eM6, Nat.one_mul, Nat.mul_one, Nat.zero_add, z0, z1, z2, z3, z4, z5, z6, y0, y1, y2, y3, y4, y5, y6, y7, y8, y9, y10, y11, y12, y13, y14, y15, y16, y17, y18, y19, y20, y21, y22, y23, y24, y25, y26, y27, s3, s4, s5, s6, n30, nt, ct, bt, b0, nd, bd, up_o (show ¬ (100 : Nat) = 101 by decide), up_o (show ¬ (200 : Nat) = 101 by decide), up_o (show ¬ (200 : Nat) = 100 by decide), up_o (show ¬ (201 : Nat) = 101 by decide), up_o (show ¬ (201 : Nat) = 100 by decide), psC_n, psC_c, ← nI_succ]
set_option maxHeartbeats 2000000 in
theorem xb5 {fz : Mem} {d t dp κ : Nat} {k m x : Int32} {μ : Mem} (hz : FZ fz) (hs : SPK fz μ κ k m t) (hκ : κ < 7) (ht : t ≤ 26) (hd : dp ≤ 18) : cl (d) 27 [vR 4 100, vI 5, vI 0, vI x, vI (nI dp)] μ = some (some (vI (x + k)), psC μ t ([10])) := by
  obtain ⟨s1, s2, s3, s4, s5, s6⟩ := hs
  obtain ⟨⟨z0, z1, z2, z3, z4, z5, z6⟩, ⟨y0, y1, y2, y3, y4, y5, y6, y7, y8, y9, y10, y11, y12, y13, y14, y15, y16, y17, y18, y19, y20, y21, y22, y23, y24, y25, y26, y27⟩⟩ := hz
  rw [← s1] at z0 z1 z2 z3 z4 z5 z6
  rw [← s2] at y0 y1 y2 y3 y4 y5 y6 y7 y8 y9 y10 y11 y12 y13 y14 y15 y16 y17 y18 y19 y20 y21 y22 y23 y24 y25 y26 y27
  have nt : (nI t).toInt = t := nI_toInt (by omega)
  have ct : (nI t).toNatClampNeg = t := ix_nI (by omega)
  have bt : (t : Int) < 30 := by omega
  have b0 : (0 : Int) ≤ (t : Int) := by omega
  have n30 : (nI 30).toInt = 30 := nI_toInt (by omega)
  have nd : (nI dp).toInt = dp := nI_toInt (by omega)
  have bd : (dp : Int) < 20 := by omega
  rw [cl_27]
  simp -implicitDefEqProofs only [u_27_0, u_27_1, u_27_2, u_27_4, u_27_5, u_27_6, u_27_7, u_27_8, u_27_3, cl_29, u_29_0, u_29_1, u_29_2, u_29_3, u_29_4, u_29_5, u_29_6, u_29_7, u_29_8, u_29_9, u_29_10, u_29_11, u_29_12, u_29_13, u_29_14, cl_28, u_28_0, u_28_1, u_28_2, e_iload_n, e_iload, e_lload_n, e_lload, e_aload_n, e_aload, e_istore_n, e_istore, e_astore_n, e_astore, e_lstore_n, e_lstore, e_iinc, e_iconst, e_bipush, e_sipush, e_ldc_w, e_ldc, e_ldcS, e_lconst, e_ldc2_w, e_iadd, e_isub, e_imul, e_iand, e_ixor, e_ishl, e_ishr, e_iushr, e_idiv, e_irem, e_ineg, e_i2b, e_i2s, e_i2c, e_ladd, e_lsub, e_lmul, e_land, e_lor, e_ldiv, e_lrem, e_lneg, e_lshl, e_lshr, e_lushr, e_i2l, e_l2i, e_lcmp, e_dupI, e_dupA, e_dup2, e_getI, e_getA, e_putI, e_putZ, e_getstatic, e_iaload, e_iastore, e_aaload10, e_alen10, e_aaload11, e_alen11, e_aaload12, e_alen12, e_aaload13, e_alen13, e_alen, e_invokevirtual, e_invokevirtualB, e_invokestatic, e_invokestaticB, ct_0, ct_i, ct_a, ct_l, os_0, os_s, rc_0, rc_s, sl_0, sl_i, sl_a, sl_l, simprocAttr, ix, z_em, up_eq, up_j, Nat.le_refl, true_or, or_true, true_and, and_true, and_self, or_self, beq_self_eq_true, if_true, if_false, ite_self, ca_f, ca_t, aLen, Int32.lt_iff_toInt_lt, Int32.le_iff_toInt_le, z_ite, z_iten, z_ite1, ite_not, not_true_eq_false, not_false_eq_true, false_and, and_false, false_or, or_false, b_max, b_min, b_minL, b_absL, b_ixD, b_ixH, b_copy, tk_0, tk_s, dr_0, dr_s, pu_s, pu_n, ca_0, ca_1, clr_0, clr_s, e_nop, e_goto, e_if_eq, e_if_ne, e_if_lt, e_if_ge, e_if_gt, e_if_le, e_ic_eq, e_ic_ne, e_ic_lt, e_ic_ge, e_ic_gt, e_ic_le, e_tsw, e_lsw, sw_0, sw_s, e_iret, e_zret, e_lret, e_aret, e_ret, en_0, en_n, en_i, en_a, en_l, List.getElem?_cons_zero, List.getElem?_cons_succ, List.set_cons_zero, List.set_cons_succ, len_s, List.length_nil, ne_eq, x_within, x_in, eT1, eT2, eT3, eT4, eT5, eT6, eM1, eM2, eM3, eM4, eM5, eM6, Nat.one_mul, Nat.mul_one, Nat.zero_add, z0, z1, z2, z3, z4, z5, z6, y0, y1, y2, y3, y4, y5, y6, y7, y8, y9, y10, y11, y12, y13, y14, y15, y16, y17, y18, y19, y20, y21, y22, y23, y24, y25, y26, y27, s3, s4, s5, s6, n30, nt, ct, bt, b0, nd, bd, up_o (show ¬ (100 : Nat) = 101 by decide), up_o (show ¬ (200 : Nat) = 101 by decide), up_o (show ¬ (200 : Nat) = 100 by decide), up_o (show ¬ (201 : Nat) = 101 by decide), up_o (show ¬ (201 : Nat) = 100 by decide), psC_n, psC_c, ← nI_succ]
set_option maxHeartbeats 2000000 in
theorem xb4 {fz : Mem} {d t dp κ : Nat} {k m x : Int32} {μ : Mem} (hz : FZ fz) (hs : SPK fz μ κ k m t) (hκ : κ < 7) (ht : t ≤ 24) (hd : dp ≤ 16) : cl (d + 2) 27 [vR 4 100, vI 4, vI 0, vI x, vI (nI dp)] μ = some (some (vI ((x + k - 8) * 3)), psC μ t ([50, 20, 10])) := by
  have h1 : cl _ 27 [Sum.inr (Sum.inr (4, 100)), vI 1, vI 0, vI x, vI (nI (dp + 1))] (up (up μ 101 t 50) 100 1 (nI (t + 1))) = _ := xb1 (d := d) (x := x) (dp := dp + 1) hz hs.p1 hκ (by omega) (by omega)
  obtain ⟨s1, s2, s3, s4, s5, s6⟩ := hs
  obtain ⟨⟨z0, z1, z2, z3, z4, z5, z6⟩, ⟨y0, y1, y2, y3, y4, y5, y6, y7, y8, y9, y10, y11, y12, y13, y14, y15, y16, y17, y18, y19, y20, y21, y22, y23, y24, y25, y26, y27⟩⟩ := hz
  rw [← s1] at z0 z1 z2 z3 z4 z5 z6
  rw [← s2] at y0 y1 y2 y3 y4 y5 y6 y7 y8 y9 y10 y11 y12 y13 y14 y15 y16 y17 y18 y19 y20 y21 y22 y23 y24 y25 y26 y27
  have nt : (nI t).toInt = t := nI_toInt (by omega)
  have ct : (nI t).toNatClampNeg = t := ix_nI (by omega)
  have bt : (t : Int) < 30 := by omega
  have b0 : (0 : Int) ≤ (t : Int) := by omega
  have n30 : (nI 30).toInt = 30 := nI_toInt (by omega)
  have nd : (nI dp).toInt = dp := nI_toInt (by omega)
  have bd : (dp : Int) < 20 := by omega
  rw [cl_27]
  simp -implicitDefEqProofs only [u_27_0, u_27_1, u_27_2, u_27_4, u_27_5, u_27_6, u_27_7, u_27_8, u_27_3, cl_29, u_29_0, u_29_1, u_29_2, u_29_3, u_29_4, u_29_5, u_29_6, u_29_7, u_29_8, u_29_9, u_29_10, u_29_11, u_29_12, u_29_13, u_29_14, cl_28, u_28_0, u_28_1, u_28_2, e_iload_n, e_iload, e_lload_n, e_lload, e_aload_n, e_aload, e_istore_n, e_istore, e_astore_n, e_astore, e_lstore_n, e_lstore, e_iinc, e_iconst, e_bipush, e_sipush, e_ldc_w, e_ldc, e_ldcS, e_lconst, e_ldc2_w, e_iadd, e_isub, e_imul, e_iand, e_ixor, e_ishl, e_ishr, e_iushr, e_idiv, e_irem, e_ineg, e_i2b, e_i2s, e_i2c, e_ladd, e_lsub, e_lmul, e_land, e_lor, e_ldiv, e_lrem, e_lneg, e_lshl, e_lshr, e_lushr, e_i2l, e_l2i, e_lcmp, e_dupI, e_dupA, e_dup2, e_getI, e_getA, e_putI, e_putZ, e_getstatic, e_iaload, e_iastore, e_aaload10, e_alen10, e_aaload11, e_alen11, e_aaload12, e_alen12, e_aaload13, e_alen13, e_alen, e_invokevirtual, e_invokevirtualB, e_invokestatic, e_invokestaticB, ct_0, ct_i, ct_a, ct_l, os_0, os_s, rc_0, rc_s, sl_0, sl_i, sl_a, sl_l, simprocAttr, ix, z_em, up_eq, up_j, Nat.le_refl, true_or, or_true, true_and, and_true, and_self, or_self, beq_self_eq_true, if_true, if_false, ite_self, ca_f, ca_t, aLen, Int32.lt_iff_toInt_lt, Int32.le_iff_toInt_le, z_ite, z_iten, z_ite1, ite_not, not_true_eq_false, not_false_eq_true, false_and, and_false, false_or, or_false, b_max, b_min, b_minL, b_absL, b_ixD, b_ixH, b_copy, tk_0, tk_s, dr_0, dr_s, pu_s, pu_n, ca_0, ca_1, clr_0, clr_s, e_nop, e_goto, e_if_eq, e_if_ne, e_if_lt, e_if_ge, e_if_gt, e_if_le, e_ic_eq, e_ic_ne, e_ic_lt, e_ic_ge, e_ic_gt, e_ic_le, e_tsw, e_lsw, sw_0, sw_s, e_iret, e_zret, e_lret, e_aret, e_ret, en_0, en_n, en_i, en_a, en_l, List.getElem?_cons_zero, List.getElem?_cons_succ, List.set_cons_zero, List.set_cons_succ, len_s, List.length_nil, ne_eq, x_within, x_in, eT1, eT2, eT3, eT4, eT5, eT6, eM1, eM2, eM3, eM4, eM5, eM6, Nat.one_mul, Nat.mul_one, Nat.zero_add, z0, z1, z2, z3, z4, z5, z6, y0, y1, y2, y3, y4, y5, y6, y7, y8, y9, y10, y11, y12, y13, y14, y15, y16, y17, y18, y19, y20, y21, y22, y23, y24, y25, y26, y27, s3, s4, s5, s6, n30, nt, ct, bt, b0, nd, bd, up_o (show ¬ (100 : Nat) = 101 by decide), up_o (show ¬ (200 : Nat) = 101 by decide), up_o (show ¬ (200 : Nat) = 100 by decide), up_o (show ¬ (201 : Nat) = 101 by decide), up_o (show ¬ (201 : Nat) = 100 by decide), psC_n, psC_c, ← nI_succ, h1]
set_option maxHeartbeats 2000000 in
theorem xb6 {fz : Mem} {d t dp κ : Nat} {k m x : Int32} {μ : Mem} (hz : FZ fz) (hs : SPK fz μ κ k m t) (hκ : κ < 7) (ht : t ≤ 26) (hd : dp ≤ 18) : cl (d) 27 [vR 4 100, vI 6, vI 0, vI x, vI (nI dp)] μ = some (some (vI (3)), psC μ t ([70])) := by
  obtain ⟨s1, s2, s3, s4, s5, s6⟩ := hs
  obtain ⟨⟨z0, z1, z2, z3, z4, z5, z6⟩, ⟨y0, y1, y2, y3, y4, y5, y6, y7, y8, y9, y10, y11, y12, y13, y14, y15, y16, y17, y18, y19, y20, y21, y22, y23, y24, y25, y26, y27⟩⟩ := hz
  rw [← s1] at z0 z1 z2 z3 z4 z5 z6
  rw [← s2] at y0 y1 y2 y3 y4 y5 y6 y7 y8 y9 y10 y11 y12 y13 y14 y15 y16 y17 y18 y19 y20 y21 y22 y23 y24 y25 y26 y27
  have nt : (nI t).toInt = t := nI_toInt (by omega)
  have ct : (nI t).toNatClampNeg = t := ix_nI (by omega)
  have bt : (t : Int) < 30 := by omega
  have b0 : (0 : Int) ≤ (t : Int) := by omega
  have n30 : (nI 30).toInt = 30 := nI_toInt (by omega)
  have nd : (nI dp).toInt = dp := nI_toInt (by omega)
  have bd : (dp : Int) < 20 := by omega
  rw [cl_27]
  simp -implicitDefEqProofs only [u_27_0, u_27_1, u_27_2, u_27_4, u_27_5, u_27_6, u_27_7, u_27_8, u_27_3, cl_29, u_29_0, u_29_1, u_29_2, u_29_3, u_29_4, u_29_5, u_29_6, u_29_7, u_29_8, u_29_9, u_29_10, u_29_11, u_29_12, u_29_13, u_29_14, cl_28, u_28_0, u_28_1, u_28_2, e_iload_n, e_iload, e_lload_n, e_lload, e_aload_n, e_aload, e_istore_n, e_istore, e_astore_n, e_astore, e_lstore_n, e_lstore, e_iinc, e_iconst, e_bipush, e_sipush, e_ldc_w, e_ldc, e_ldcS, e_lconst, e_ldc2_w, e_iadd, e_isub, e_imul, e_iand, e_ixor, e_ishl, e_ishr, e_iushr, e_idiv, e_irem, e_ineg, e_i2b, e_i2s, e_i2c, e_ladd, e_lsub, e_lmul, e_land, e_lor, e_ldiv, e_lrem, e_lneg, e_lshl, e_lshr, e_lushr, e_i2l, e_l2i, e_lcmp, e_dupI, e_dupA, e_dup2, e_getI, e_getA, e_putI, e_putZ, e_getstatic, e_iaload, e_iastore, e_aaload10, e_alen10, e_aaload11, e_alen11, e_aaload12, e_alen12, e_aaload13, e_alen13, e_alen, e_invokevirtual, e_invokevirtualB, e_invokestatic, e_invokestaticB, ct_0, ct_i, ct_a, ct_l, os_0, os_s, rc_0, rc_s, sl_0, sl_i, sl_a, sl_l, simprocAttr, ix, z_em, up_eq, up_j, Nat.le_refl, true_or, or_true, true_and, and_true, and_self, or_self, beq_self_eq_true, if_true, if_false, ite_self, ca_f, ca_t, aLen, Int32.lt_iff_toInt_lt, Int32.le_iff_toInt_le, z_ite, z_iten, z_ite1, ite_not, not_true_eq_false, not_false_eq_true, false_and, and_false, false_or, or_false, b_max, b_min, b_minL, b_absL, b_ixD, b_ixH, b_copy, tk_0, tk_s, dr_0, dr_s, pu_s, pu_n, ca_0, ca_1, clr_0, clr_s, e_nop, e_goto, e_if_eq, e_if_ne, e_if_lt, e_if_ge, e_if_gt, e_if_le, e_ic_eq, e_ic_ne, e_ic_lt, e_ic_ge, e_ic_gt, e_ic_le, e_tsw, e_lsw, sw_0, sw_s, e_iret, e_zret, e_lret, e_aret, e_ret, en_0, en_n, en_i, en_a, en_l, List.getElem?_cons_zero, List.getElem?_cons_succ, List.set_cons_zero, List.set_cons_succ, len_s, List.length_nil, ne_eq, x_within, x_in, eT1, eT2, eT3, eT4, eT5, eT6, eM1, eM2, eM3, eM4, eM5, eM6, Nat.one_mul, Nat.mul_one, Nat.zero_add, z0, z1, z2, z3, z4, z5, z6, y0, y1, y2, y3, y4, y5, y6, y7, y8, y9, y10, y11, y12, y13, y14, y15, y16, y17, y18, y19, y20, y21, y22, y23, y24, y25, y26, y27, s3, s4, s5, s6, n30, nt, ct, bt, b0, nd, bd, up_o (show ¬ (100 : Nat) = 101 by decide), up_o (show ¬ (200 : Nat) = 101 by decide), up_o (show ¬ (200 : Nat) = 100 by decide), up_o (show ¬ (201 : Nat) = 101 by decide), up_o (show ¬ (201 : Nat) = 100 by decide), psC_n, psC_c, ← nI_succ]
theorem xB {a : Nat} {fz : Mem} {d t dp κ : Nat} {k m x : Int32} {μ : Mem} (hz : FZ fz) (hs : SPK fz μ κ k m t) (hκ : κ < 7) (ha : a < 7) (ht : t ≤ 24) (hd : dp ≤ 16) : cl (d + 2) 27 [vR 4 100, vI (nI a), vI 0, vI x, vI (nI dp)] μ = some (some (vI (brV k x a)), psC μ t (brT a)) := by
  have h : a = 0 ∨ a = 1 ∨ a = 2 ∨ a = 3 ∨ a = 4 ∨ a = 5 ∨ a = 6 := by omega
  rcases h with rfl | rfl | rfl | rfl | rfl | rfl | rfl
  · exact xb0 (d := d + 2) hz hs hκ (by omega) (by omega)
  · exact xb1 (d := d + 1) hz hs hκ (by omega) (by omega)
  · exact xb2 (d := d + 2) hz hs hκ (by omega) (by omega)
  · exact xb3 (d := d + 2) hz hs hκ (by omega) (by omega)
  · exact xb4 (d := d) hz hs hκ (by omega) (by omega)
  · exact xb5 (d := d + 2) hz hs hκ (by omega) (by omega)
  · exact xb6 (d := d + 2) hz hs hκ (by omega) (by omega)
set_option maxHeartbeats 2000000 in
theorem xa0 {fz : Mem} {d t dp κ : Nat} {k m x : Int32} {μ : Mem} (hz : FZ fz) (hs : SPK fz μ κ k m t) (hκ : κ < 7) (ht : t ≤ 23) (hd : dp ≤ 15) : cl (d + 3) 27 [vR 4 100, vI 0, vI 1, vI x, vI (nI dp)] μ = some (some (vI (as0 κ k x)), psC μ t (11 :: brT κ)) := by
  have h1 : cl _ 27 [Sum.inr (Sum.inr (4, 100)), vI (nI κ), vI 0, vI x, vI (nI (dp + 1))] (up (up μ 101 t 11) 100 1 (nI (t + 1))) = _ := xB (d := d) (dp := dp + 1) (x := x) hz hs.p1 hκ hκ (by omega) (by omega)
  obtain ⟨s1, s2, s3, s4, s5, s6⟩ := hs
  obtain ⟨⟨z0, z1, z2, z3, z4, z5, z6⟩, ⟨y0, y1, y2, y3, y4, y5, y6, y7, y8, y9, y10, y11, y12, y13, y14, y15, y16, y17, y18, y19, y20, y21, y22, y23, y24, y25, y26, y27⟩⟩ := hz
  rw [← s1] at z0 z1 z2 z3 z4 z5 z6
  rw [← s2] at y0 y1 y2 y3 y4 y5 y6 y7 y8 y9 y10 y11 y12 y13 y14 y15 y16 y17 y18 y19 y20 y21 y22 y23 y24 y25 y26 y27
  have nt : (nI t).toInt = t := nI_toInt (by omega)
  have ct : (nI t).toNatClampNeg = t := ix_nI (by omega)
  have bt : (t : Int) < 30 := by omega
  have b0 : (0 : Int) ≤ (t : Int) := by omega
  have n30 : (nI 30).toInt = 30 := nI_toInt (by omega)
  have nd : (nI dp).toInt = dp := nI_toInt (by omega)
  have bd : (dp : Int) < 20 := by omega
  rw [cl_27]
  simp -implicitDefEqProofs only [u_27_0, u_27_1, u_27_2, u_27_4, u_27_5, u_27_6, u_27_7, u_27_8, u_27_3, cl_29, u_29_0, u_29_1, u_29_2, u_29_3, u_29_4, u_29_5, u_29_6, u_29_7, u_29_8, u_29_9, u_29_10, u_29_11, u_29_12, u_29_13, u_29_14, cl_28, u_28_0, u_28_1, u_28_2, e_iload_n, e_iload, e_lload_n, e_lload, e_aload_n, e_aload, e_istore_n, e_istore, e_astore_n, e_astore, e_lstore_n, e_lstore, e_iinc, e_iconst, e_bipush, e_sipush, e_ldc_w, e_ldc, e_ldcS, e_lconst, e_ldc2_w, e_iadd, e_isub, e_imul, e_iand, e_ixor, e_ishl, e_ishr, e_iushr, e_idiv, e_irem, e_ineg, e_i2b, e_i2s, e_i2c, e_ladd, e_lsub, e_lmul, e_land, e_lor, e_ldiv, e_lrem, e_lneg, e_lshl, e_lshr, e_lushr, e_i2l, e_l2i, e_lcmp, e_dupI, e_dupA, e_dup2, e_getI, e_getA, e_putI, e_putZ, e_getstatic, e_iaload, e_iastore, e_aaload10, e_alen10, e_aaload11, e_alen11, e_aaload12, e_alen12, e_aaload13, e_alen13, e_alen, e_invokevirtual, e_invokevirtualB, e_invokestatic, e_invokestaticB, ct_0, ct_i, ct_a, ct_l, os_0, os_s, rc_0, rc_s, sl_0, sl_i, sl_a, sl_l, simprocAttr, ix, z_em, up_eq, up_j, Nat.le_refl, true_or, or_true, true_and, and_true, and_self, or_self, beq_self_eq_true, if_true, if_false, ite_self, ca_f, ca_t, aLen, Int32.lt_iff_toInt_lt, Int32.le_iff_toInt_le, z_ite, z_iten, z_ite1, ite_not, not_true_eq_false, not_false_eq_true, false_and, and_false, false_or, or_false, b_max, b_min, b_minL, b_absL, b_ixD, b_ixH, b_copy, tk_0, tk_s, dr_0, dr_s, pu_s, pu_n, ca_0, ca_1, clr_0, clr_s, e_nop, e_goto, e_if_eq, e_if_ne, e_if_lt, e_if_ge, e_if_gt, e_if_le, e_ic_eq, e_ic_ne, e_ic_lt, e_ic_ge, e_ic_gt, e_ic_le, e_tsw, e_lsw, sw_0, sw_s, e_iret, e_zret, e_lret, e_aret, e_ret, en_0, en_n, en_i, en_a, en_l, List.getElem?_cons_zero, List.getElem?_cons_succ, List.set_cons_zero, List.set_cons_succ, len_s, List.length_nil, ne_eq, x_within, x_in, eT1, eT2, eT3, eT4, eT5, eT6, eM1, eM2, eM3, eM4, eM5, eM6, Nat.one_mul, Nat.mul_one, Nat.zero_add, z0, z1, z2, z3, z4, z5, z6, y0, y1, y2, y3, y4, y5, y6, y7, y8, y9, y10, y11, y12, y13, y14, y15, y16, y17, y18, y19, y20, y21, y22, y23, y24, y25, y26, y27, s3, s4, s5, s6, n30, nt, ct, bt, b0, nd, bd, up_o (show ¬ (100 : Nat) = 101 by decide), up_o (show ¬ (200 : Nat) = 101 by decide), up_o (show ¬ (200 : Nat) = 100 by decide), up_o (show ¬ (201 : Nat) = 101 by decide), up_o (show ¬ (201 : Nat) = 100 by decide), psC_n, psC_c, ← nI_succ, h1]
  rfl
set_option maxHeartbeats 2000000 in
theorem xa1 {fz : Mem} {d t dp κ : Nat} {k m x : Int32} {μ : Mem} (hz : FZ fz) (hs : SPK fz μ κ k m t) (hκ : κ < 7) (ht : t ≤ 23) (hd : dp ≤ 15) : cl (d + 3) 27 [vR 4 100, vI 1, vI 1, vI x, vI (nI dp)] μ = some (some (vI (as0 κ k x)), psC μ t (11 :: brT κ)) := by
  have h1 : cl _ 27 [Sum.inr (Sum.inr (4, 100)), vI (nI κ), vI 0, vI x, vI (nI (dp + 1))] (up (up μ 101 t 11) 100 1 (nI (t + 1))) = _ := xB (d := d) (dp := dp + 1) (x := x) hz hs.p1 hκ hκ (by omega) (by omega)
  obtain ⟨s1, s2, s3, s4, s5, s6⟩ := hs
  obtain ⟨⟨z0, z1, z2, z3, z4, z5, z6⟩, ⟨y0, y1, y2, y3, y4, y5, y6, y7, y8, y9, y10, y11, y12, y13, y14, y15, y16, y17, y18, y19, y20, y21, y22, y23, y24, y25, y26, y27⟩⟩ := hz
  rw [← s1] at z0 z1 z2 z3 z4 z5 z6
  rw [← s2] at y0 y1 y2 y3 y4 y5 y6 y7 y8 y9 y10 y11 y12 y13 y14 y15 y16 y17 y18 y19 y20 y21 y22 y23 y24 y25 y26 y27
  have nt : (nI t).toInt = t := nI_toInt (by omega)
  have ct : (nI t).toNatClampNeg = t := ix_nI (by omega)
  have bt : (t : Int) < 30 := by omega
  have b0 : (0 : Int) ≤ (t : Int) := by omega
  have n30 : (nI 30).toInt = 30 := nI_toInt (by omega)
  have nd : (nI dp).toInt = dp := nI_toInt (by omega)
  have bd : (dp : Int) < 20 := by omega
  rw [cl_27]
  simp -implicitDefEqProofs only [u_27_0, u_27_1, u_27_2, u_27_4, u_27_5, u_27_6, u_27_7, u_27_8, u_27_3, cl_29, u_29_0, u_29_1, u_29_2, u_29_3, u_29_4, u_29_5, u_29_6, u_29_7, u_29_8, u_29_9, u_29_10, u_29_11, u_29_12, u_29_13, u_29_14, cl_28, u_28_0, u_28_1, u_28_2, e_iload_n, e_iload, e_lload_n, e_lload, e_aload_n, e_aload, e_istore_n, e_istore, e_astore_n, e_astore, e_lstore_n, e_lstore, e_iinc, e_iconst, e_bipush, e_sipush, e_ldc_w, e_ldc, e_ldcS, e_lconst, e_ldc2_w, e_iadd, e_isub, e_imul, e_iand, e_ixor, e_ishl, e_ishr, e_iushr, e_idiv, e_irem, e_ineg, e_i2b, e_i2s, e_i2c, e_ladd, e_lsub, e_lmul, e_land, e_lor, e_ldiv, e_lrem, e_lneg, e_lshl, e_lshr, e_lushr, e_i2l, e_l2i, e_lcmp, e_dupI, e_dupA, e_dup2, e_getI, e_getA, e_putI, e_putZ, e_getstatic, e_iaload, e_iastore, e_aaload10, e_alen10, e_aaload11, e_alen11, e_aaload12, e_alen12, e_aaload13, e_alen13, e_alen, e_invokevirtual, e_invokevirtualB, e_invokestatic, e_invokestaticB, ct_0, ct_i, ct_a, ct_l, os_0, os_s, rc_0, rc_s, sl_0, sl_i, sl_a, sl_l, simprocAttr, ix, z_em, up_eq, up_j, Nat.le_refl, true_or, or_true, true_and, and_true, and_self, or_self, beq_self_eq_true, if_true, if_false, ite_self, ca_f, ca_t, aLen, Int32.lt_iff_toInt_lt, Int32.le_iff_toInt_le, z_ite, z_iten, z_ite1, ite_not, not_true_eq_false, not_false_eq_true, false_and, and_false, false_or, or_false, b_max, b_min, b_minL, b_absL, b_ixD, b_ixH, b_copy, tk_0, tk_s, dr_0, dr_s, pu_s, pu_n, ca_0, ca_1, clr_0, clr_s, e_nop, e_goto, e_if_eq, e_if_ne, e_if_lt, e_if_ge, e_if_gt, e_if_le, e_ic_eq, e_ic_ne, e_ic_lt, e_ic_ge, e_ic_gt, e_ic_le, e_tsw, e_lsw, sw_0, sw_s, e_iret, e_zret, e_lret, e_aret, e_ret, en_0, en_n, en_i, en_a, en_l, List.getElem?_cons_zero, List.getElem?_cons_succ, List.set_cons_zero, List.set_cons_succ, len_s, List.length_nil, ne_eq, x_within, x_in, eT1, eT2, eT3, eT4, eT5, eT6, eM1, eM2, eM3, eM4, eM5, eM6, Nat.one_mul, Nat.mul_one, Nat.zero_add, z0, z1, z2, z3, z4, z5, z6, y0, y1, y2, y3, y4, y5, y6, y7, y8, y9, y10, y11, y12, y13, y14, y15, y16, y17, y18, y19, y20, y21, y22, y23, y24, y25, y26, y27, s3, s4, s5, s6, n30, nt, ct, bt, b0, nd, bd, up_o (show ¬ (100 : Nat) = 101 by decide), up_o (show ¬ (200 : Nat) = 101 by decide), up_o (show ¬ (200 : Nat) = 100 by decide), up_o (show ¬ (201 : Nat) = 101 by decide), up_o (show ¬ (201 : Nat) = 100 by decide), psC_n, psC_c, ← nI_succ, h1]
  rfl
set_option maxHeartbeats 2000000 in
theorem xa3 {fz : Mem} {d t dp κ : Nat} {k m x : Int32} {μ : Mem} (hz : FZ fz) (hs : SPK fz μ κ k m t) (hκ : κ < 7) (ht : t ≤ 23) (hd : dp ≤ 15) : cl (d + 3) 27 [vR 4 100, vI 3, vI 1, vI x, vI (nI dp)] μ = some (some (vI (as0 κ k x)), psC μ t (11 :: brT κ)) := by
  have h1 : cl _ 27 [Sum.inr (Sum.inr (4, 100)), vI (nI κ), vI 0, vI x, vI (nI (dp + 1))] (up (up μ 101 t 11) 100 1 (nI (t + 1))) = _ := xB (d := d) (dp := dp + 1) (x := x) hz hs.p1 hκ hκ (by omega) (by omega)
  obtain ⟨s1, s2, s3, s4, s5, s6⟩ := hs
  obtain ⟨⟨z0, z1, z2, z3, z4, z5, z6⟩, ⟨y0, y1, y2, y3, y4, y5, y6, y7, y8, y9, y10, y11, y12, y13, y14, y15, y16, y17, y18, y19, y20, y21, y22, y23, y24, y25, y26, y27⟩⟩ := hz
  rw [← s1] at z0 z1 z2 z3 z4 z5 z6
  rw [← s2] at y0 y1 y2 y3 y4 y5 y6 y7 y8 y9 y10 y11 y12 y13 y14 y15 y16 y17 y18 y19 y20 y21 y22 y23 y24 y25 y26 y27
  have nt : (nI t).toInt = t := nI_toInt (by omega)
  have ct : (nI t).toNatClampNeg = t := ix_nI (by omega)
  have bt : (t : Int) < 30 := by omega
  have b0 : (0 : Int) ≤ (t : Int) := by omega
  have n30 : (nI 30).toInt = 30 := nI_toInt (by omega)
  have nd : (nI dp).toInt = dp := nI_toInt (by omega)
  have bd : (dp : Int) < 20 := by omega
  rw [cl_27]
  simp -implicitDefEqProofs only [u_27_0, u_27_1, u_27_2, u_27_4, u_27_5, u_27_6, u_27_7, u_27_8, u_27_3, cl_29, u_29_0, u_29_1, u_29_2, u_29_3, u_29_4, u_29_5, u_29_6, u_29_7, u_29_8, u_29_9, u_29_10, u_29_11, u_29_12, u_29_13, u_29_14, cl_28, u_28_0, u_28_1, u_28_2, e_iload_n, e_iload, e_lload_n, e_lload, e_aload_n, e_aload, e_istore_n, e_istore, e_astore_n, e_astore, e_lstore_n, e_lstore, e_iinc, e_iconst, e_bipush, e_sipush, e_ldc_w, e_ldc, e_ldcS, e_lconst, e_ldc2_w, e_iadd, e_isub, e_imul, e_iand, e_ixor, e_ishl, e_ishr, e_iushr, e_idiv, e_irem, e_ineg, e_i2b, e_i2s, e_i2c, e_ladd, e_lsub, e_lmul, e_land, e_lor, e_ldiv, e_lrem, e_lneg, e_lshl, e_lshr, e_lushr, e_i2l, e_l2i, e_lcmp, e_dupI, e_dupA, e_dup2, e_getI, e_getA, e_putI, e_putZ, e_getstatic, e_iaload, e_iastore, e_aaload10, e_alen10, e_aaload11, e_alen11, e_aaload12, e_alen12, e_aaload13, e_alen13, e_alen, e_invokevirtual, e_invokevirtualB, e_invokestatic, e_invokestaticB, ct_0, ct_i, ct_a, ct_l, os_0, os_s, rc_0, rc_s, sl_0, sl_i, sl_a, sl_l, simprocAttr, ix, z_em, up_eq, up_j, Nat.le_refl, true_or, or_true, true_and, and_true, and_self, or_self, beq_self_eq_true, if_true, if_false, ite_self, ca_f, ca_t, aLen, Int32.lt_iff_toInt_lt, Int32.le_iff_toInt_le, z_ite, z_iten, z_ite1, ite_not, not_true_eq_false, not_false_eq_true, false_and, and_false, false_or, or_false, b_max, b_min, b_minL, b_absL, b_ixD, b_ixH, b_copy, tk_0, tk_s, dr_0, dr_s, pu_s, pu_n, ca_0, ca_1, clr_0, clr_s, e_nop, e_goto, e_if_eq, e_if_ne, e_if_lt, e_if_ge, e_if_gt, e_if_le, e_ic_eq, e_ic_ne, e_ic_lt, e_ic_ge, e_ic_gt, e_ic_le, e_tsw, e_lsw, sw_0, sw_s, e_iret, e_zret, e_lret, e_aret, e_ret, en_0, en_n, en_i, en_a, en_l, List.getElem?_cons_zero, List.getElem?_cons_succ, List.set_cons_zero, List.set_cons_succ, len_s, List.length_nil, ne_eq, x_within, x_in, eT1, eT2, eT3, eT4, eT5, eT6, eM1, eM2, eM3, eM4, eM5, eM6, Nat.one_mul, Nat.mul_one, Nat.zero_add, z0, z1, z2, z3, z4, z5, z6, y0, y1, y2, y3, y4, y5, y6, y7, y8, y9, y10, y11, y12, y13, y14, y15, y16, y17, y18, y19, y20, y21, y22, y23, y24, y25, y26, y27, s3, s4, s5, s6, n30, nt, ct, bt, b0, nd, bd, up_o (show ¬ (100 : Nat) = 101 by decide), up_o (show ¬ (200 : Nat) = 101 by decide), up_o (show ¬ (200 : Nat) = 100 by decide), up_o (show ¬ (201 : Nat) = 101 by decide), up_o (show ¬ (201 : Nat) = 100 by decide), psC_n, psC_c, ← nI_succ, h1]
  rfl
set_option maxHeartbeats 2000000 in
theorem xa4 {fz : Mem} {d t dp κ : Nat} {k m x : Int32} {μ : Mem} (hz : FZ fz) (hs : SPK fz μ κ k m t) (hκ : κ < 7) (ht : t ≤ 23) (hd : dp ≤ 15) : cl (d + 3) 27 [vR 4 100, vI 4, vI 1, vI x, vI (nI dp)] μ = some (some (vI (as0 κ k x)), psC μ t (11 :: brT κ)) := by
  have h1 : cl _ 27 [Sum.inr (Sum.inr (4, 100)), vI (nI κ), vI 0, vI x, vI (nI (dp + 1))] (up (up μ 101 t 11) 100 1 (nI (t + 1))) = _ := xB (d := d) (dp := dp + 1) (x := x) hz hs.p1 hκ hκ (by omega) (by omega)
  obtain ⟨s1, s2, s3, s4, s5, s6⟩ := hs
  obtain ⟨⟨z0, z1, z2, z3, z4, z5, z6⟩, ⟨y0, y1, y2, y3, y4, y5, y6, y7, y8, y9, y10, y11, y12, y13, y14, y15, y16, y17, y18, y19, y20, y21, y22, y23, y24, y25, y26, y27⟩⟩ := hz
  rw [← s1] at z0 z1 z2 z3 z4 z5 z6
  rw [← s2] at y0 y1 y2 y3 y4 y5 y6 y7 y8 y9 y10 y11 y12 y13 y14 y15 y16 y17 y18 y19 y20 y21 y22 y23 y24 y25 y26 y27
  have nt : (nI t).toInt = t := nI_toInt (by omega)
  have ct : (nI t).toNatClampNeg = t := ix_nI (by omega)
  have bt : (t : Int) < 30 := by omega
  have b0 : (0 : Int) ≤ (t : Int) := by omega
  have n30 : (nI 30).toInt = 30 := nI_toInt (by omega)
  have nd : (nI dp).toInt = dp := nI_toInt (by omega)
  have bd : (dp : Int) < 20 := by omega
  rw [cl_27]
  simp -implicitDefEqProofs only [u_27_0, u_27_1, u_27_2, u_27_4, u_27_5, u_27_6, u_27_7, u_27_8, u_27_3, cl_29, u_29_0, u_29_1, u_29_2, u_29_3, u_29_4, u_29_5, u_29_6, u_29_7, u_29_8, u_29_9, u_29_10, u_29_11, u_29_12, u_29_13, u_29_14, cl_28, u_28_0, u_28_1, u_28_2, e_iload_n, e_iload, e_lload_n, e_lload, e_aload_n, e_aload, e_istore_n, e_istore, e_astore_n, e_astore, e_lstore_n, e_lstore, e_iinc, e_iconst, e_bipush, e_sipush, e_ldc_w, e_ldc, e_ldcS, e_lconst, e_ldc2_w, e_iadd, e_isub, e_imul, e_iand, e_ixor, e_ishl, e_ishr, e_iushr, e_idiv, e_irem, e_ineg, e_i2b, e_i2s, e_i2c, e_ladd, e_lsub, e_lmul, e_land, e_lor, e_ldiv, e_lrem, e_lneg, e_lshl, e_lshr, e_lushr, e_i2l, e_l2i, e_lcmp, e_dupI, e_dupA, e_dup2, e_getI, e_getA, e_putI, e_putZ, e_getstatic, e_iaload, e_iastore, e_aaload10, e_alen10, e_aaload11, e_alen11, e_aaload12, e_alen12, e_aaload13, e_alen13, e_alen, e_invokevirtual, e_invokevirtualB, e_invokestatic, e_invokestaticB, ct_0, ct_i, ct_a, ct_l, os_0, os_s, rc_0, rc_s, sl_0, sl_i, sl_a, sl_l, simprocAttr, ix, z_em, up_eq, up_j, Nat.le_refl, true_or, or_true, true_and, and_true, and_self, or_self, beq_self_eq_true, if_true, if_false, ite_self, ca_f, ca_t, aLen, Int32.lt_iff_toInt_lt, Int32.le_iff_toInt_le, z_ite, z_iten, z_ite1, ite_not, not_true_eq_false, not_false_eq_true, false_and, and_false, false_or, or_false, b_max, b_min, b_minL, b_absL, b_ixD, b_ixH, b_copy, tk_0, tk_s, dr_0, dr_s, pu_s, pu_n, ca_0, ca_1, clr_0, clr_s, e_nop, e_goto, e_if_eq, e_if_ne, e_if_lt, e_if_ge, e_if_gt, e_if_le, e_ic_eq, e_ic_ne, e_ic_lt, e_ic_ge, e_ic_gt, e_ic_le, e_tsw, e_lsw, sw_0, sw_s, e_iret, e_zret, e_lret, e_aret, e_ret, en_0, en_n, en_i, en_a, en_l, List.getElem?_cons_zero, List.getElem?_cons_succ, List.set_cons_zero, List.set_cons_succ, len_s, List.length_nil, ne_eq, x_within, x_in, eT1, eT2, eT3, eT4, eT5, eT6, eM1, eM2, eM3, eM4, eM5, eM6, Nat.one_mul, Nat.mul_one, Nat.zero_add, z0, z1, z2, z3, z4, z5, z6, y0, y1, y2, y3, y4, y5, y6, y7, y8, y9, y10, y11, y12, y13, y14, y15, y16, y17, y18, y19, y20, y21, y22, y23, y24, y25, y26, y27, s3, s4, s5, s6, n30, nt, ct, bt, b0, nd, bd, up_o (show ¬ (100 : Nat) = 101 by decide), up_o (show ¬ (200 : Nat) = 101 by decide), up_o (show ¬ (200 : Nat) = 100 by decide), up_o (show ¬ (201 : Nat) = 101 by decide), up_o (show ¬ (201 : Nat) = 100 by decide), psC_n, psC_c, ← nI_succ, h1]
  rfl
set_option maxHeartbeats 2000000 in
theorem xa2 {fz : Mem} {d t dp κ : Nat} {k m x : Int32} {μ : Mem} (hz : FZ fz) (hs : SPK fz μ κ k m t) (hκ : κ < 7) (ht : t ≤ 22) (hd : dp ≤ 14) : cl (d + 4) 27 [vR 4 100, vI 2, vI 1, vI x, vI (nI dp)] μ = some (some (vI (0 - as0 κ k x)), psC μ t (30 :: 11 :: brT κ)) := by
  have h1 : cl _ 27 [Sum.inr (Sum.inr (4, 100)), vI 0, vI 1, vI x, vI (nI (dp + 1))] (up (up μ 101 t 30) 100 1 (nI (t + 1))) = _ := xa0 (d := d) (x := x) (dp := dp + 1) hz hs.p1 hκ (by omega) (by omega)
  obtain ⟨s1, s2, s3, s4, s5, s6⟩ := hs
  obtain ⟨⟨z0, z1, z2, z3, z4, z5, z6⟩, ⟨y0, y1, y2, y3, y4, y5, y6, y7, y8, y9, y10, y11, y12, y13, y14, y15, y16, y17, y18, y19, y20, y21, y22, y23, y24, y25, y26, y27⟩⟩ := hz
  rw [← s1] at z0 z1 z2 z3 z4 z5 z6
  rw [← s2] at y0 y1 y2 y3 y4 y5 y6 y7 y8 y9 y10 y11 y12 y13 y14 y15 y16 y17 y18 y19 y20 y21 y22 y23 y24 y25 y26 y27
  have nt : (nI t).toInt = t := nI_toInt (by omega)
  have ct : (nI t).toNatClampNeg = t := ix_nI (by omega)
  have bt : (t : Int) < 30 := by omega
  have b0 : (0 : Int) ≤ (t : Int) := by omega
  have n30 : (nI 30).toInt = 30 := nI_toInt (by omega)
  have nd : (nI dp).toInt = dp := nI_toInt (by omega)
  have bd : (dp : Int) < 20 := by omega
  rw [cl_27]
  simp -implicitDefEqProofs only [u_27_0, u_27_1, u_27_2, u_27_4, u_27_5, u_27_6, u_27_7, u_27_8, u_27_3, cl_29, u_29_0, u_29_1, u_29_2, u_29_3, u_29_4, u_29_5, u_29_6, u_29_7, u_29_8, u_29_9, u_29_10, u_29_11, u_29_12, u_29_13, u_29_14, cl_28, u_28_0, u_28_1, u_28_2, e_iload_n, e_iload, e_lload_n, e_lload, e_aload_n, e_aload, e_istore_n, e_istore, e_astore_n, e_astore, e_lstore_n, e_lstore, e_iinc, e_iconst, e_bipush, e_sipush, e_ldc_w, e_ldc, e_ldcS, e_lconst, e_ldc2_w, e_iadd, e_isub, e_imul, e_iand, e_ixor, e_ishl, e_ishr, e_iushr, e_idiv, e_irem, e_ineg, e_i2b, e_i2s, e_i2c, e_ladd, e_lsub, e_lmul, e_land, e_lor, e_ldiv, e_lrem, e_lneg, e_lshl, e_lshr, e_lushr, e_i2l, e_l2i, e_lcmp, e_dupI, e_dupA, e_dup2, e_getI, e_getA, e_putI, e_putZ, e_getstatic, e_iaload, e_iastore, e_aaload10, e_alen10, e_aaload11, e_alen11, e_aaload12, e_alen12, e_aaload13, e_alen13, e_alen, e_invokevirtual, e_invokevirtualB, e_invokestatic, e_invokestaticB, ct_0, ct_i, ct_a, ct_l, os_0, os_s, rc_0, rc_s, sl_0, sl_i, sl_a, sl_l, simprocAttr, ix, z_em, up_eq, up_j, Nat.le_refl, true_or, or_true, true_and, and_true, and_self, or_self, beq_self_eq_true, if_true, if_false, ite_self, ca_f, ca_t, aLen, Int32.lt_iff_toInt_lt, Int32.le_iff_toInt_le, z_ite, z_iten, z_ite1, ite_not, not_true_eq_false, not_false_eq_true, false_and, and_false, false_or, or_false, b_max, b_min, b_minL, b_absL, b_ixD, b_ixH, b_copy, tk_0, tk_s, dr_0, dr_s, pu_s, pu_n, ca_0, ca_1, clr_0, clr_s, e_nop, e_goto, e_if_eq, e_if_ne, e_if_lt, e_if_ge, e_if_gt, e_if_le, e_ic_eq, e_ic_ne, e_ic_lt, e_ic_ge, e_ic_gt, e_ic_le, e_tsw, e_lsw, sw_0, sw_s, e_iret, e_zret, e_lret, e_aret, e_ret, en_0, en_n, en_i, en_a, en_l, List.getElem?_cons_zero, List.getElem?_cons_succ, List.set_cons_zero, List.set_cons_succ, len_s, List.length_nil, ne_eq, x_within, x_in, eT1, eT2, eT3, eT4, eT5, eT6, eM1, eM2, eM3, eM4, eM5, eM6, Nat.one_mul, Nat.mul_one, Nat.zero_add, z0, z1, z2, z3, z4, z5, z6, y0, y1, y2, y3, y4, y5, y6, y7, y8, y9, y10, y11, y12, y13, y14, y15, y16, y17, y18, y19, y20, y21, y22, y23, y24, y25, y26, y27, s3, s4, s5, s6, n30, nt, ct, bt, b0, nd, bd, up_o (show ¬ (100 : Nat) = 101 by decide), up_o (show ¬ (200 : Nat) = 101 by decide), up_o (show ¬ (200 : Nat) = 100 by decide), up_o (show ¬ (201 : Nat) = 101 by decide), up_o (show ¬ (201 : Nat) = 100 by decide), psC_n, psC_c, ← nI_succ, h1]
set_option maxHeartbeats 2000000 in
theorem xa5 {fz : Mem} {d t dp κ : Nat} {k m x : Int32} {μ : Mem} (hz : FZ fz) (hs : SPK fz μ κ k m t) (hκ : κ < 7) (ht : t ≤ 21) (hd : dp ≤ 13) : cl (d + 5) 27 [vR 4 100, vI 5, vI 1, vI x, vI (nI dp)] μ = some (some (vI (0 - as0 κ k (x + 1))), psC μ t (60 :: 30 :: 11 :: brT κ)) := by
  have h1 : cl _ 27 [Sum.inr (Sum.inr (4, 100)), vI 2, vI 1, vI (x + 1), vI (nI (dp + 1))] (up (up μ 101 t 60) 100 1 (nI (t + 1))) = _ := xa2 (d := d) (x := x + 1) (dp := dp + 1) hz hs.p1 hκ (by omega) (by omega)
  obtain ⟨s1, s2, s3, s4, s5, s6⟩ := hs
  obtain ⟨⟨z0, z1, z2, z3, z4, z5, z6⟩, ⟨y0, y1, y2, y3, y4, y5, y6, y7, y8, y9, y10, y11, y12, y13, y14, y15, y16, y17, y18, y19, y20, y21, y22, y23, y24, y25, y26, y27⟩⟩ := hz
  rw [← s1] at z0 z1 z2 z3 z4 z5 z6
  rw [← s2] at y0 y1 y2 y3 y4 y5 y6 y7 y8 y9 y10 y11 y12 y13 y14 y15 y16 y17 y18 y19 y20 y21 y22 y23 y24 y25 y26 y27
  have nt : (nI t).toInt = t := nI_toInt (by omega)
  have ct : (nI t).toNatClampNeg = t := ix_nI (by omega)
  have bt : (t : Int) < 30 := by omega
  have b0 : (0 : Int) ≤ (t : Int) := by omega
  have n30 : (nI 30).toInt = 30 := nI_toInt (by omega)
  have nd : (nI dp).toInt = dp := nI_toInt (by omega)
  have bd : (dp : Int) < 20 := by omega
  rw [cl_27]
  simp -implicitDefEqProofs only [u_27_0, u_27_1, u_27_2, u_27_4, u_27_5, u_27_6, u_27_7, u_27_8, u_27_3, cl_29, u_29_0, u_29_1, u_29_2, u_29_3, u_29_4, u_29_5, u_29_6, u_29_7, u_29_8, u_29_9, u_29_10, u_29_11, u_29_12, u_29_13, u_29_14, cl_28, u_28_0, u_28_1, u_28_2, e_iload_n, e_iload, e_lload_n, e_lload, e_aload_n, e_aload, e_istore_n, e_istore, e_astore_n, e_astore, e_lstore_n, e_lstore, e_iinc, e_iconst, e_bipush, e_sipush, e_ldc_w, e_ldc, e_ldcS, e_lconst, e_ldc2_w, e_iadd, e_isub, e_imul, e_iand, e_ixor, e_ishl, e_ishr, e_iushr, e_idiv, e_irem, e_ineg, e_i2b, e_i2s, e_i2c, e_ladd, e_lsub, e_lmul, e_land, e_lor, e_ldiv, e_lrem, e_lneg, e_lshl, e_lshr, e_lushr, e_i2l, e_l2i, e_lcmp, e_dupI, e_dupA, e_dup2, e_getI, e_getA, e_putI, e_putZ, e_getstatic, e_iaload, e_iastore, e_aaload10, e_alen10, e_aaload11, e_alen11, e_aaload12, e_alen12, e_aaload13, e_alen13, e_alen, e_invokevirtual, e_invokevirtualB, e_invokestatic, e_invokestaticB, ct_0, ct_i, ct_a, ct_l, os_0, os_s, rc_0, rc_s, sl_0, sl_i, sl_a, sl_l, simprocAttr, ix, z_em, up_eq, up_j, Nat.le_refl, true_or, or_true, true_and, and_true, and_self, or_self, beq_self_eq_true, if_true, if_false, ite_self, ca_f, ca_t, aLen, Int32.lt_iff_toInt_lt, Int32.le_iff_toInt_le, z_ite, z_iten, z_ite1, ite_not, not_true_eq_false, not_false_eq_true, false_and, and_false, false_or, or_false, b_max, b_min, b_minL, b_absL, b_ixD, b_ixH, b_copy, tk_0, tk_s, dr_0, dr_s, pu_s, pu_n, ca_0, ca_1, clr_0, clr_s, e_nop, e_goto, e_if_eq, e_if_ne, e_if_lt, e_if_ge, e_if_gt, e_if_le, e_ic_eq, e_ic_ne, e_ic_lt, e_ic_ge, e_ic_gt, e_ic_le, e_tsw, e_lsw, sw_0, sw_s, e_iret, e_zret, e_lret, e_aret, e_ret, en_0, en_n, en_i, en_a, en_l, List.getElem?_cons_zero, List.getElem?_cons_succ, List.set_cons_zero, List.set_cons_succ, len_s, List.length_nil, ne_eq, x_within, x_in, eT1, eT2, eT3, eT4, eT5, eT6, eM1, eM2, eM3, eM4, eM5, eM6, Nat.one_mul, Nat.mul_one, Nat.zero_add, z0, z1, z2, z3, z4, z5, z6, y0, y1, y2, y3, y4, y5, y6, y7, y8, y9, y10, y11, y12, y13, y14, y15, y16, y17, y18, y19, y20, y21, y22, y23, y24, y25, y26, y27, s3, s4, s5, s6, n30, nt, ct, bt, b0, nd, bd, up_o (show ¬ (100 : Nat) = 101 by decide), up_o (show ¬ (200 : Nat) = 101 by decide), up_o (show ¬ (200 : Nat) = 100 by decide), up_o (show ¬ (201 : Nat) = 101 by decide), up_o (show ¬ (201 : Nat) = 100 by decide), psC_n, psC_c, ← nI_succ, h1]
set_option maxHeartbeats 2000000 in
theorem xa6 {fz : Mem} {d t dp κ : Nat} {k m x : Int32} {μ : Mem} (hz : FZ fz) (hs : SPK fz μ κ k m t) (hκ : κ < 7) (ht : t ≤ 22) (hd : dp ≤ 14) : cl (d + 4) 27 [vR 4 100, vI 6, vI 1, vI x, vI (nI dp)] μ = some (some (vI (as0 κ k x + m)), psC μ t (71 :: 11 :: brT κ)) := by
  have e3 : ∀ (μ : Mem) t (l : List Int32), psC μ t l 100 3 = μ 100 3 := fun μ t l => psC_at (by decide) (by omega) l μ t
  have h1 : cl _ 27 [Sum.inr (Sum.inr (4, 100)), vI 0, vI 1, vI x, vI (nI (dp + 1))] (up (up μ 101 t 71) 100 1 (nI (t + 1))) = _ := xa0 (d := d) (x := x) (dp := dp + 1) hz hs.p1 hκ (by omega) (by omega)
  obtain ⟨s1, s2, s3, s4, s5, s6⟩ := hs
  obtain ⟨⟨z0, z1, z2, z3, z4, z5, z6⟩, ⟨y0, y1, y2, y3, y4, y5, y6, y7, y8, y9, y10, y11, y12, y13, y14, y15, y16, y17, y18, y19, y20, y21, y22, y23, y24, y25, y26, y27⟩⟩ := hz
  rw [← s1] at z0 z1 z2 z3 z4 z5 z6
  rw [← s2] at y0 y1 y2 y3 y4 y5 y6 y7 y8 y9 y10 y11 y12 y13 y14 y15 y16 y17 y18 y19 y20 y21 y22 y23 y24 y25 y26 y27
  have nt : (nI t).toInt = t := nI_toInt (by omega)
  have ct : (nI t).toNatClampNeg = t := ix_nI (by omega)
  have bt : (t : Int) < 30 := by omega
  have b0 : (0 : Int) ≤ (t : Int) := by omega
  have n30 : (nI 30).toInt = 30 := nI_toInt (by omega)
  have nd : (nI dp).toInt = dp := nI_toInt (by omega)
  have bd : (dp : Int) < 20 := by omega
  rw [cl_27]
  simp -implicitDefEqProofs only [u_27_0, u_27_1, u_27_2, u_27_4, u_27_5, u_27_6, u_27_7, u_27_8, u_27_3, cl_29, u_29_0, u_29_1, u_29_2, u_29_3, u_29_4, u_29_5, u_29_6, u_29_7, u_29_8, u_29_9, u_29_10, u_29_11, u_29_12, u_29_13, u_29_14, cl_28, u_28_0, u_28_1, u_28_2, e_iload_n, e_iload, e_lload_n, e_lload, e_aload_n, e_aload, e_istore_n, e_istore, e_astore_n, e_astore, e_lstore_n, e_lstore, e_iinc, e_iconst, e_bipush, e_sipush, e_ldc_w, e_ldc, e_ldcS, e_lconst, e_ldc2_w, e_iadd, e_isub, e_imul, e_iand, e_ixor, e_ishl, e_ishr, e_iushr, e_idiv, e_irem, e_ineg, e_i2b, e_i2s, e_i2c, e_ladd, e_lsub, e_lmul, e_land, e_lor, e_ldiv, e_lrem, e_lneg, e_lshl, e_lshr, e_lushr, e_i2l, e_l2i, e_lcmp, e_dupI, e_dupA, e_dup2, e_getI, e_getA, e_putI, e_putZ, e_getstatic, e_iaload, e_iastore, e_aaload10, e_alen10, e_aaload11, e_alen11, e_aaload12, e_alen12, e_aaload13, e_alen13, e_alen, e_invokevirtual, e_invokevirtualB, e_invokestatic, e_invokestaticB, ct_0, ct_i, ct_a, ct_l, os_0, os_s, rc_0, rc_s, sl_0, sl_i, sl_a, sl_l, simprocAttr, ix, z_em, up_eq, up_j, Nat.le_refl, true_or, or_true, true_and, and_true, and_self, or_self, beq_self_eq_true, if_true, if_false, ite_self, ca_f, ca_t, aLen, Int32.lt_iff_toInt_lt, Int32.le_iff_toInt_le, z_ite, z_iten, z_ite1, ite_not, not_true_eq_false, not_false_eq_true, false_and, and_false, false_or, or_false, b_max, b_min, b_minL, b_absL, b_ixD, b_ixH, b_copy, tk_0, tk_s, dr_0, dr_s, pu_s, pu_n, ca_0, ca_1, clr_0, clr_s, e_nop, e_goto, e_if_eq, e_if_ne, e_if_lt, e_if_ge, e_if_gt, e_if_le, e_ic_eq, e_ic_ne, e_ic_lt, e_ic_ge, e_ic_gt, e_ic_le, e_tsw, e_lsw, sw_0, sw_s, e_iret, e_zret, e_lret, e_aret, e_ret, en_0, en_n, en_i, en_a, en_l, List.getElem?_cons_zero, List.getElem?_cons_succ, List.set_cons_zero, List.set_cons_succ, len_s, List.length_nil, ne_eq, x_within, x_in, eT1, eT2, eT3, eT4, eT5, eT6, eM1, eM2, eM3, eM4, eM5, eM6, Nat.one_mul, Nat.mul_one, Nat.zero_add, z0, z1, z2, z3, z4, z5, z6, y0, y1, y2, y3, y4, y5, y6, y7, y8, y9, y10, y11, y12, y13, y14, y15, y16, y17, y18, y19, y20, y21, y22, y23, y24, y25, y26, y27, s3, s4, s5, s6, n30, nt, ct, bt, b0, nd, bd, up_o (show ¬ (100 : Nat) = 101 by decide), up_o (show ¬ (200 : Nat) = 101 by decide), up_o (show ¬ (200 : Nat) = 100 by decide), up_o (show ¬ (201 : Nat) = 101 by decide), up_o (show ¬ (201 : Nat) = 100 by decide), psC_n, psC_c, ← nI_succ, h1, e3]
theorem xA {a : Nat} {fz : Mem} {d t dp κ : Nat} {k m x : Int32} {μ : Mem} (hz : FZ fz) (hs : SPK fz μ κ k m t) (hκ : κ < 7) (ha : a < 7) (ht : t ≤ 21) (hd : dp ≤ 13) : cl (d + 5) 27 [vR 4 100, vI (nI a), vI 1, vI x, vI (nI dp)] μ = some (some (vI (asV κ k m x a)), psC μ t (asT κ a)) := by
  have h : a = 0 ∨ a = 1 ∨ a = 2 ∨ a = 3 ∨ a = 4 ∨ a = 5 ∨ a = 6 := by omega
  rcases h with rfl | rfl | rfl | rfl | rfl | rfl | rfl
  · exact xa0 (d := d + 2) hz hs hκ (by omega) (by omega)
  · exact xa1 (d := d + 2) hz hs hκ (by omega) (by omega)
  · exact xa2 (d := d + 1) hz hs hκ (by omega) (by omega)
  · exact xa3 (d := d + 2) hz hs hκ (by omega) (by omega)
  · exact xa4 (d := d + 2) hz hs hκ (by omega) (by omega)
  · exact xa5 (d := d) hz hs hκ (by omega) (by omega)
  · exact xa6 (d := d + 1) hz hs hκ (by omega) (by omega)
set_option maxHeartbeats 2000000 in
theorem xh0 {fz : Mem} {d t dp κ : Nat} {k m x : Int32} {μ : Mem} (hz : FZ fz) (hs : SPK fz μ κ k m t) (hκ : κ < 7) (ht : t ≤ 20) (hd : dp ≤ 12) : cl (d + 6) 27 [vR 4 100, vI 0, vI 2, vI x, vI (nI dp)] μ = some (some (vI (ho0 κ k m x)), psC μ t (12 :: asT κ κ)) := by
  have e3 : ∀ (μ : Mem) t (l : List Int32), psC μ t l 100 3 = μ 100 3 := fun μ t l => psC_at (by decide) (by omega) l μ t
  have h1 : cl _ 27 [Sum.inr (Sum.inr (4, 100)), vI (nI κ), vI 1, vI x, vI (nI (dp + 1))] (up (up μ 101 t 12) 100 1 (nI (t + 1))) = _ := xA (d := d) (dp := dp + 1) (x := x) hz hs.p1 hκ hκ (by omega) (by omega)
  obtain ⟨s1, s2, s3, s4, s5, s6⟩ := hs
  obtain ⟨⟨z0, z1, z2, z3, z4, z5, z6⟩, ⟨y0, y1, y2, y3, y4, y5, y6, y7, y8, y9, y10, y11, y12, y13, y14, y15, y16, y17, y18, y19, y20, y21, y22, y23, y24, y25, y26, y27⟩⟩ := hz
  rw [← s1] at z0 z1 z2 z3 z4 z5 z6
  rw [← s2] at y0 y1 y2 y3 y4 y5 y6 y7 y8 y9 y10 y11 y12 y13 y14 y15 y16 y17 y18 y19 y20 y21 y22 y23 y24 y25 y26 y27
  have nt : (nI t).toInt = t := nI_toInt (by omega)
  have ct : (nI t).toNatClampNeg = t := ix_nI (by omega)
  have bt : (t : Int) < 30 := by omega
  have b0 : (0 : Int) ≤ (t : Int) := by omega
  have n30 : (nI 30).toInt = 30 := nI_toInt (by omega)
  have nd : (nI dp).toInt = dp := nI_toInt (by omega)
  have bd : (dp : Int) < 20 := by omega
  rw [cl_27]
  simp -implicitDefEqProofs only [u_27_0, u_27_1, u_27_2, u_27_4, u_27_5, u_27_6, u_27_7, u_27_8, u_27_3, cl_29, u_29_0, u_29_1, u_29_2, u_29_3, u_29_4, u_29_5, u_29_6, u_29_7, u_29_8, u_29_9, u_29_10, u_29_11, u_29_12, u_29_13, u_29_14, cl_28, u_28_0, u_28_1, u_28_2, e_iload_n, e_iload, e_lload_n, e_lload, e_aload_n, e_aload, e_istore_n, e_istore, e_astore_n, e_astore, e_lstore_n, e_lstore, e_iinc, e_iconst, e_bipush, e_sipush, e_ldc_w, e_ldc, e_ldcS, e_lconst, e_ldc2_w, e_iadd, e_isub, e_imul, e_iand, e_ixor, e_ishl, e_ishr, e_iushr, e_idiv, e_irem, e_ineg, e_i2b, e_i2s, e_i2c, e_ladd, e_lsub, e_lmul, e_land, e_lor, e_ldiv, e_lrem, e_lneg, e_lshl, e_lshr, e_lushr, e_i2l, e_l2i, e_lcmp, e_dupI, e_dupA, e_dup2, e_getI, e_getA, e_putI, e_putZ, e_getstatic, e_iaload, e_iastore, e_aaload10, e_alen10, e_aaload11, e_alen11, e_aaload12, e_alen12, e_aaload13, e_alen13, e_alen, e_invokevirtual, e_invokevirtualB, e_invokestatic, e_invokestaticB, ct_0, ct_i, ct_a, ct_l, os_0, os_s, rc_0, rc_s, sl_0, sl_i, sl_a, sl_l, simprocAttr, ix, z_em, up_eq, up_j, Nat.le_refl, true_or, or_true, true_and, and_true, and_self, or_self, beq_self_eq_true, if_true, if_false, ite_self, ca_f, ca_t, aLen, Int32.lt_iff_toInt_lt, Int32.le_iff_toInt_le, z_ite, z_iten, z_ite1, ite_not, not_true_eq_false, not_false_eq_true, false_and, and_false, false_or, or_false, b_max, b_min, b_minL, b_absL, b_ixD, b_ixH, b_copy, tk_0, tk_s, dr_0, dr_s, pu_s, pu_n, ca_0, ca_1, clr_0, clr_s, e_nop, e_goto, e_if_eq, e_if_ne, e_if_lt, e_if_ge, e_if_gt, e_if_le, e_ic_eq, e_ic_ne, e_ic_lt, e_ic_ge, e_ic_gt, e_ic_le, e_tsw, e_lsw, sw_0, sw_s, e_iret, e_zret, e_lret, e_aret, e_ret, en_0, en_n, en_i, en_a, en_l, List.getElem?_cons_zero, List.getElem?_cons_succ, List.set_cons_zero, List.set_cons_succ, len_s, List.length_nil, ne_eq, x_within, x_in, eT1, eT2, eT3, eT4, eT5, eT6, eM1, eM2, eM3, eM4, eM5, eM6, Nat.one_mul, Nat.mul_one, Nat.zero_add, z0, z1, z2, z3, z4, z5, z6, y0, y1, y2, y3, y4, y5, y6, y7, y8, y9, y10, y11, y12, y13, y14, y15, y16, y17, y18, y19, y20, y21, y22, y23, y24, y25, y26, y27, s3, s4, s5, s6, n30, nt, ct, bt, b0, nd, bd, up_o (show ¬ (100 : Nat) = 101 by decide), up_o (show ¬ (200 : Nat) = 101 by decide), up_o (show ¬ (200 : Nat) = 100 by decide), up_o (show ¬ (201 : Nat) = 101 by decide), up_o (show ¬ (201 : Nat) = 100 by decide), psC_n, psC_c, ← nI_succ, h1, e3]
  rfl
set_option maxHeartbeats 2000000 in
theorem xh1 {fz : Mem} {d t dp κ : Nat} {k m x : Int32} {μ : Mem} (hz : FZ fz) (hs : SPK fz μ κ k m t) (hκ : κ < 7) (ht : t ≤ 20) (hd : dp ≤ 12) : cl (d + 6) 27 [vR 4 100, vI 1, vI 2, vI x, vI (nI dp)] μ = some (some (vI (ho0 κ k m x)), psC μ t (12 :: asT κ κ)) := by
  have e3 : ∀ (μ : Mem) t (l : List Int32), psC μ t l 100 3 = μ 100 3 := fun μ t l => psC_at (by decide) (by omega) l μ t
  have h1 : cl _ 27 [Sum.inr (Sum.inr (4, 100)), vI (nI κ), vI 1, vI x, vI (nI (dp + 1))] (up (up μ 101 t 12) 100 1 (nI (t + 1))) = _ := xA (d := d) (dp := dp + 1) (x := x) hz hs.p1 hκ hκ (by omega) (by omega)
  obtain ⟨s1, s2, s3, s4, s5, s6⟩ := hs
  obtain ⟨⟨z0, z1, z2, z3, z4, z5, z6⟩, ⟨y0, y1, y2, y3, y4, y5, y6, y7, y8, y9, y10, y11, y12, y13, y14, y15, y16, y17, y18, y19, y20, y21, y22, y23, y24, y25, y26, y27⟩⟩ := hz
  rw [← s1] at z0 z1 z2 z3 z4 z5 z6
  rw [← s2] at y0 y1 y2 y3 y4 y5 y6 y7 y8 y9 y10 y11 y12 y13 y14 y15 y16 y17 y18 y19 y20 y21 y22 y23 y24 y25 y26 y27
  have nt : (nI t).toInt = t := nI_toInt (by omega)
  have ct : (nI t).toNatClampNeg = t := ix_nI (by omega)
  have bt : (t : Int) < 30 := by omega
  have b0 : (0 : Int) ≤ (t : Int) := by omega
  have n30 : (nI 30).toInt = 30 := nI_toInt (by omega)
  have nd : (nI dp).toInt = dp := nI_toInt (by omega)
  have bd : (dp : Int) < 20 := by omega
  rw [cl_27]
  simp -implicitDefEqProofs only [u_27_0, u_27_1, u_27_2, u_27_4, u_27_5, u_27_6, u_27_7, u_27_8, u_27_3, cl_29, u_29_0, u_29_1, u_29_2, u_29_3, u_29_4, u_29_5, u_29_6, u_29_7, u_29_8, u_29_9, u_29_10, u_29_11, u_29_12, u_29_13, u_29_14, cl_28, u_28_0, u_28_1, u_28_2, e_iload_n, e_iload, e_lload_n, e_lload, e_aload_n, e_aload, e_istore_n, e_istore, e_astore_n, e_astore, e_lstore_n, e_lstore, e_iinc, e_iconst, e_bipush, e_sipush, e_ldc_w, e_ldc, e_ldcS, e_lconst, e_ldc2_w, e_iadd, e_isub, e_imul, e_iand, e_ixor, e_ishl, e_ishr, e_iushr, e_idiv, e_irem, e_ineg, e_i2b, e_i2s, e_i2c, e_ladd, e_lsub, e_lmul, e_land, e_lor, e_ldiv, e_lrem, e_lneg, e_lshl, e_lshr, e_lushr, e_i2l, e_l2i, e_lcmp, e_dupI, e_dupA, e_dup2, e_getI, e_getA, e_putI, e_putZ, e_getstatic, e_iaload, e_iastore, e_aaload10, e_alen10, e_aaload11, e_alen11, e_aaload12, e_alen12, e_aaload13, e_alen13, e_alen, e_invokevirtual, e_invokevirtualB, e_invokestatic, e_invokestaticB, ct_0, ct_i, ct_a, ct_l, os_0, os_s, rc_0, rc_s, sl_0, sl_i, sl_a, sl_l, simprocAttr, ix, z_em, up_eq, up_j, Nat.le_refl, true_or, or_true, true_and, and_true, and_self, or_self, beq_self_eq_true, if_true, if_false, ite_self, ca_f, ca_t, aLen, Int32.lt_iff_toInt_lt, Int32.le_iff_toInt_le, z_ite, z_iten, z_ite1, ite_not, not_true_eq_false, not_false_eq_true, false_and, and_false, false_or, or_false, b_max, b_min, b_minL, b_absL, b_ixD, b_ixH, b_copy, tk_0, tk_s, dr_0, dr_s, pu_s, pu_n, ca_0, ca_1, clr_0, clr_s, e_nop, e_goto, e_if_eq, e_if_ne, e_if_lt, e_if_ge, e_if_gt, e_if_le, e_ic_eq, e_ic_ne, e_ic_lt, e_ic_ge, e_ic_gt, e_ic_le, e_tsw, e_lsw, sw_0, sw_s, e_iret, e_zret, e_lret, e_aret, e_ret, en_0, en_n, en_i, en_a, en_l, List.getElem?_cons_zero, List.getElem?_cons_succ, List.set_cons_zero, List.set_cons_succ, len_s, List.length_nil, ne_eq, x_within, x_in, eT1, eT2, eT3, eT4, eT5, eT6, eM1, eM2, eM3, eM4, eM5, eM6, Nat.one_mul, Nat.mul_one, Nat.zero_add, z0, z1, z2, z3, z4, z5, z6, y0, y1, y2, y3, y4, y5, y6, y7, y8, y9, y10, y11, y12, y13, y14, y15, y16, y17, y18, y19, y20, y21, y22, y23, y24, y25, y26, y27, s3, s4, s5, s6, n30, nt, ct, bt, b0, nd, bd, up_o (show ¬ (100 : Nat) = 101 by decide), up_o (show ¬ (200 : Nat) = 101 by decide), up_o (show ¬ (200 : Nat) = 100 by decide), up_o (show ¬ (201 : Nat) = 101 by decide), up_o (show ¬ (201 : Nat) = 100 by decide), psC_n, psC_c, ← nI_succ, h1, e3]
  rfl
set_option maxHeartbeats 2000000 in
theorem xh2 {fz : Mem} {d t dp κ : Nat} {k m x : Int32} {μ : Mem} (hz : FZ fz) (hs : SPK fz μ κ k m t) (hκ : κ < 7) (ht : t ≤ 20) (hd : dp ≤ 12) : cl (d + 6) 27 [vR 4 100, vI 2, vI 2, vI x, vI (nI dp)] μ = some (some (vI (ho0 κ k m x)), psC μ t (12 :: asT κ κ)) := by
  have e3 : ∀ (μ : Mem) t (l : List Int32), psC μ t l 100 3 = μ 100 3 := fun μ t l => psC_at (by decide) (by omega) l μ t
  have h1 : cl _ 27 [Sum.inr (Sum.inr (4, 100)), vI (nI κ), vI 1, vI x, vI (nI (dp + 1))] (up (up μ 101 t 12) 100 1 (nI (t + 1))) = _ := xA (d := d) (dp := dp + 1) (x := x) hz hs.p1 hκ hκ (by omega) (by omega)
  obtain ⟨s1, s2, s3, s4, s5, s6⟩ := hs
  obtain ⟨⟨z0, z1, z2, z3, z4, z5, z6⟩, ⟨y0, y1, y2, y3, y4, y5, y6, y7, y8, y9, y10, y11, y12, y13, y14, y15, y16, y17, y18, y19, y20, y21, y22, y23, y24, y25, y26, y27⟩⟩ := hz
  rw [← s1] at z0 z1 z2 z3 z4 z5 z6
  rw [← s2] at y0 y1 y2 y3 y4 y5 y6 y7 y8 y9 y10 y11 y12 y13 y14 y15 y16 y17 y18 y19 y20 y21 y22 y23 y24 y25 y26 y27
  have nt : (nI t).toInt = t := nI_toInt (by omega)
  have ct : (nI t).toNatClampNeg = t := ix_nI (by omega)
  have bt : (t : Int) < 30 := by omega
  have b0 : (0 : Int) ≤ (t : Int) := by omega
  have n30 : (nI 30).toInt = 30 := nI_toInt (by omega)
  have nd : (nI dp).toInt = dp := nI_toInt (by omega)
  have bd : (dp : Int) < 20 := by omega
  rw [cl_27]
  simp -implicitDefEqProofs only [u_27_0, u_27_1, u_27_2, u_27_4, u_27_5, u_27_6, u_27_7, u_27_8, u_27_3, cl_29, u_29_0, u_29_1, u_29_2, u_29_3, u_29_4, u_29_5, u_29_6, u_29_7, u_29_8, u_29_9, u_29_10, u_29_11, u_29_12, u_29_13, u_29_14, cl_28, u_28_0, u_28_1, u_28_2, e_iload_n, e_iload, e_lload_n, e_lload, e_aload_n, e_aload, e_istore_n, e_istore, e_astore_n, e_astore, e_lstore_n, e_lstore, e_iinc, e_iconst, e_bipush, e_sipush, e_ldc_w, e_ldc, e_ldcS, e_lconst, e_ldc2_w, e_iadd, e_isub, e_imul, e_iand, e_ixor, e_ishl, e_ishr, e_iushr, e_idiv, e_irem, e_ineg, e_i2b, e_i2s, e_i2c, e_ladd, e_lsub, e_lmul, e_land, e_lor, e_ldiv, e_lrem, e_lneg, e_lshl, e_lshr, e_lushr, e_i2l, e_l2i, e_lcmp, e_dupI, e_dupA, e_dup2, e_getI, e_getA, e_putI, e_putZ, e_getstatic, e_iaload, e_iastore, e_aaload10, e_alen10, e_aaload11, e_alen11, e_aaload12, e_alen12, e_aaload13, e_alen13, e_alen, e_invokevirtual, e_invokevirtualB, e_invokestatic, e_invokestaticB, ct_0, ct_i, ct_a, ct_l, os_0, os_s, rc_0, rc_s, sl_0, sl_i, sl_a, sl_l, simprocAttr, ix, z_em, up_eq, up_j, Nat.le_refl, true_or, or_true, true_and, and_true, and_self, or_self, beq_self_eq_true, if_true, if_false, ite_self, ca_f, ca_t, aLen, Int32.lt_iff_toInt_lt, Int32.le_iff_toInt_le, z_ite, z_iten, z_ite1, ite_not, not_true_eq_false, not_false_eq_true, false_and, and_false, false_or, or_false, b_max, b_min, b_minL, b_absL, b_ixD, b_ixH, b_copy, tk_0, tk_s, dr_0, dr_s, pu_s, pu_n, ca_0, ca_1, clr_0, clr_s, e_nop, e_goto, e_if_eq, e_if_ne, e_if_lt, e_if_ge, e_if_gt, e_if_le, e_ic_eq, e_ic_ne, e_ic_lt, e_ic_ge, e_ic_gt, e_ic_le, e_tsw, e_lsw, sw_0, sw_s, e_iret, e_zret, e_lret, e_aret, e_ret, en_0, en_n, en_i, en_a, en_l, List.getElem?_cons_zero, List.getElem?_cons_succ, List.set_cons_zero, List.set_cons_succ, len_s, List.length_nil, ne_eq, x_within, x_in, eT1, eT2, eT3, eT4, eT5, eT6, eM1, eM2, eM3, eM4, eM5, eM6, Nat.one_mul, Nat.mul_one, Nat.zero_add, z0, z1, z2, z3, z4, z5, z6, y0, y1, y2, y3, y4, y5, y6, y7, y8, y9, y10, y11, y12, y13, y14, y15, y16, y17, y18, y19, y20, y21, y22, y23, y24, y25, y26, y27, s3, s4, s5, s6, n30, nt, ct, bt, b0, nd, bd, up_o (show ¬ (100 : Nat) = 101 by decide), up_o (show ¬ (200 : Nat) = 101 by decide), up_o (show ¬ (200 : Nat) = 100 by decide), up_o (show ¬ (201 : Nat) = 101 by decide), up_o (show ¬ (201 : Nat) = 100 by decide), psC_n, psC_c, ← nI_succ, h1, e3]
  rfl
set_option maxHeartbeats 2000000 in
theorem xh5 {fz : Mem} {d t dp κ : Nat} {k m x : Int32} {μ : Mem} (hz : FZ fz) (hs : SPK fz μ κ k m t) (hκ : κ < 7) (ht : t ≤ 20) (hd : dp ≤ 12) : cl (d + 6) 27 [vR 4 100, vI 5, vI 2, vI x, vI (nI dp)] μ = some (some (vI (ho0 κ k m x)), psC μ t (12 :: asT κ κ)) := by
  have e3 : ∀ (μ : Mem) t (l : List Int32), psC μ t l 100 3 = μ 100 3 := fun μ t l => psC_at (by decide) (by omega) l μ t
  have h1 : cl _ 27 [Sum.inr (Sum.inr (4, 100)), vI (nI κ), vI 1, vI x, vI (nI (dp + 1))] (up (up μ 101 t 12) 100 1 (nI (t + 1))) = _ := xA (d := d) (dp := dp + 1) (x := x) hz hs.p1 hκ hκ (by omega) (by omega)
  obtain ⟨s1, s2, s3, s4, s5, s6⟩ := hs
  obtain ⟨⟨z0, z1, z2, z3, z4, z5, z6⟩, ⟨y0, y1, y2, y3, y4, y5, y6, y7, y8, y9, y10, y11, y12, y13, y14, y15, y16, y17, y18, y19, y20, y21, y22, y23, y24, y25, y26, y27⟩⟩ := hz
  rw [← s1] at z0 z1 z2 z3 z4 z5 z6
  rw [← s2] at y0 y1 y2 y3 y4 y5 y6 y7 y8 y9 y10 y11 y12 y13 y14 y15 y16 y17 y18 y19 y20 y21 y22 y23 y24 y25 y26 y27
  have nt : (nI t).toInt = t := nI_toInt (by omega)
  have ct : (nI t).toNatClampNeg = t := ix_nI (by omega)
  have bt : (t : Int) < 30 := by omega
  have b0 : (0 : Int) ≤ (t : Int) := by omega
  have n30 : (nI 30).toInt = 30 := nI_toInt (by omega)
  have nd : (nI dp).toInt = dp := nI_toInt (by omega)
  have bd : (dp : Int) < 20 := by omega
  rw [cl_27]
  simp -implicitDefEqProofs only [u_27_0, u_27_1, u_27_2, u_27_4, u_27_5, u_27_6, u_27_7, u_27_8, u_27_3, cl_29, u_29_0, u_29_1, u_29_2, u_29_3, u_29_4, u_29_5, u_29_6, u_29_7, u_29_8, u_29_9, u_29_10, u_29_11, u_29_12, u_29_13, u_29_14, cl_28, u_28_0, u_28_1, u_28_2, e_iload_n, e_iload, e_lload_n, e_lload, e_aload_n, e_aload, e_istore_n, e_istore, e_astore_n, e_astore, e_lstore_n, e_lstore, e_iinc, e_iconst, e_bipush, e_sipush, e_ldc_w, e_ldc, e_ldcS, e_lconst, e_ldc2_w, e_iadd, e_isub, e_imul, e_iand, e_ixor, e_ishl, e_ishr, e_iushr, e_idiv, e_irem, e_ineg, e_i2b, e_i2s, e_i2c, e_ladd, e_lsub, e_lmul, e_land, e_lor, e_ldiv, e_lrem, e_lneg, e_lshl, e_lshr, e_lushr, e_i2l, e_l2i, e_lcmp, e_dupI, e_dupA, e_dup2, e_getI, e_getA, e_putI, e_putZ, e_getstatic, e_iaload, e_iastore, e_aaload10, e_alen10, e_aaload11, e_alen11, e_aaload12, e_alen12, e_aaload13, e_alen13, e_alen, e_invokevirtual, e_invokevirtualB, e_invokestatic, e_invokestaticB, ct_0, ct_i, ct_a, ct_l, os_0, os_s, rc_0, rc_s, sl_0, sl_i, sl_a, sl_l, simprocAttr, ix, z_em, up_eq, up_j, Nat.le_refl, true_or, or_true, true_and, and_true, and_self, or_self, beq_self_eq_true, if_true, if_false, ite_self, ca_f, ca_t, aLen, Int32.lt_iff_toInt_lt, Int32.le_iff_toInt_le, z_ite, z_iten, z_ite1, ite_not, not_true_eq_false, not_false_eq_true, false_and, and_false, false_or, or_false, b_max, b_min, b_minL, b_absL, b_ixD, b_ixH, b_copy, tk_0, tk_s, dr_0, dr_s, pu_s, pu_n, ca_0, ca_1, clr_0, clr_s, e_nop, e_goto, e_if_eq, e_if_ne, e_if_lt, e_if_ge, e_if_gt, e_if_le, e_ic_eq, e_ic_ne, e_ic_lt, e_ic_ge, e_ic_gt, e_ic_le, e_tsw, e_lsw, sw_0, sw_s, e_iret, e_zret, e_lret, e_aret, e_ret, en_0, en_n, en_i, en_a, en_l, List.getElem?_cons_zero, List.getElem?_cons_succ, List.set_cons_zero, List.set_cons_succ, len_s, List.length_nil, ne_eq, x_within, x_in, eT1, eT2, eT3, eT4, eT5, eT6, eM1, eM2, eM3, eM4, eM5, eM6, Nat.one_mul, Nat.mul_one, Nat.zero_add, z0, z1, z2, z3, z4, z5, z6, y0, y1, y2, y3, y4, y5, y6, y7, y8, y9, y10, y11, y12, y13, y14, y15, y16, y17, y18, y19, y20, y21, y22, y23, y24, y25, y26, y27, s3, s4, s5, s6, n30, nt, ct, bt, b0, nd, bd, up_o (show ¬ (100 : Nat) = 101 by decide), up_o (show ¬ (200 : Nat) = 101 by decide), up_o (show ¬ (200 : Nat) = 100 by decide), up_o (show ¬ (201 : Nat) = 101 by decide), up_o (show ¬ (201 : Nat) = 100 by decide), psC_n, psC_c, ← nI_succ, h1, e3]
  rfl
set_option maxHeartbeats 2000000 in
theorem xh6 {fz : Mem} {d t dp κ : Nat} {k m x : Int32} {μ : Mem} (hz : FZ fz) (hs : SPK fz μ κ k m t) (hκ : κ < 7) (ht : t ≤ 20) (hd : dp ≤ 12) : cl (d + 6) 27 [vR 4 100, vI 6, vI 2, vI x, vI (nI dp)] μ = some (some (vI (ho0 κ k m x)), psC μ t (12 :: asT κ κ)) := by
  have e3 : ∀ (μ : Mem) t (l : List Int32), psC μ t l 100 3 = μ 100 3 := fun μ t l => psC_at (by decide) (by omega) l μ t
  have h1 : cl _ 27 [Sum.inr (Sum.inr (4, 100)), vI (nI κ), vI 1, vI x, vI (nI (dp + 1))] (up (up μ 101 t 12) 100 1 (nI (t + 1))) = _ := xA (d := d) (dp := dp + 1) (x := x) hz hs.p1 hκ hκ (by omega) (by omega)
  obtain ⟨s1, s2, s3, s4, s5, s6⟩ := hs
  obtain ⟨⟨z0, z1, z2, z3, z4, z5, z6⟩, ⟨y0, y1, y2, y3, y4, y5, y6, y7, y8, y9, y10, y11, y12, y13, y14, y15, y16, y17, y18, y19, y20, y21, y22, y23, y24, y25, y26, y27⟩⟩ := hz
  rw [← s1] at z0 z1 z2 z3 z4 z5 z6
  rw [← s2] at y0 y1 y2 y3 y4 y5 y6 y7 y8 y9 y10 y11 y12 y13 y14 y15 y16 y17 y18 y19 y20 y21 y22 y23 y24 y25 y26 y27
  have nt : (nI t).toInt = t := nI_toInt (by omega)
  have ct : (nI t).toNatClampNeg = t := ix_nI (by omega)
  have bt : (t : Int) < 30 := by omega
  have b0 : (0 : Int) ≤ (t : Int) := by omega
  have n30 : (nI 30).toInt = 30 := nI_toInt (by omega)
  have nd : (nI dp).toInt = dp := nI_toInt (by omega)
  have bd : (dp : Int) < 20 := by omega
  rw [cl_27]
  simp -implicitDefEqProofs only [u_27_0, u_27_1, u_27_2, u_27_4, u_27_5, u_27_6, u_27_7, u_27_8, u_27_3, cl_29, u_29_0, u_29_1, u_29_2, u_29_3, u_29_4, u_29_5, u_29_6, u_29_7, u_29_8, u_29_9, u_29_10, u_29_11, u_29_12, u_29_13, u_29_14, cl_28, u_28_0, u_28_1, u_28_2, e_iload_n, e_iload, e_lload_n, e_lload, e_aload_n, e_aload, e_istore_n, e_istore, e_astore_n, e_astore, e_lstore_n, e_lstore, e_iinc, e_iconst, e_bipush, e_sipush, e_ldc_w, e_ldc, e_ldcS, e_lconst, e_ldc2_w, e_iadd, e_isub, e_imul, e_iand, e_ixor, e_ishl, e_ishr, e_iushr, e_idiv, e_irem, e_ineg, e_i2b, e_i2s, e_i2c, e_ladd, e_lsub, e_lmul, e_land, e_lor, e_ldiv, e_lrem, e_lneg, e_lshl, e_lshr, e_lushr, e_i2l, e_l2i, e_lcmp, e_dupI, e_dupA, e_dup2, e_getI, e_getA, e_putI, e_putZ, e_getstatic, e_iaload, e_iastore, e_aaload10, e_alen10, e_aaload11, e_alen11, e_aaload12, e_alen12, e_aaload13, e_alen13, e_alen, e_invokevirtual, e_invokevirtualB, e_invokestatic, e_invokestaticB, ct_0, ct_i, ct_a, ct_l, os_0, os_s, rc_0, rc_s, sl_0, sl_i, sl_a, sl_l, simprocAttr, ix, z_em, up_eq, up_j, Nat.le_refl, true_or, or_true, true_and, and_true, and_self, or_self, beq_self_eq_true, if_true, if_false, ite_self, ca_f, ca_t, aLen, Int32.lt_iff_toInt_lt, Int32.le_iff_toInt_le, z_ite, z_iten, z_ite1, ite_not, not_true_eq_false, not_false_eq_true, false_and, and_false, false_or, or_false, b_max, b_min, b_minL, b_absL, b_ixD, b_ixH, b_copy, tk_0, tk_s, dr_0, dr_s, pu_s, pu_n, ca_0, ca_1, clr_0, clr_s, e_nop, e_goto, e_if_eq, e_if_ne, e_if_lt, e_if_ge, e_if_gt, e_if_le, e_ic_eq, e_ic_ne, e_ic_lt, e_ic_ge, e_ic_gt, e_ic_le, e_tsw, e_lsw, sw_0, sw_s, e_iret, e_zret, e_lret, e_aret, e_ret, en_0, en_n, en_i, en_a, en_l, List.getElem?_cons_zero, List.getElem?_cons_succ, List.set_cons_zero, List.set_cons_succ, len_s, List.length_nil, ne_eq, x_within, x_in, eT1, eT2, eT3, eT4, eT5, eT6, eM1, eM2, eM3, eM4, eM5, eM6, Nat.one_mul, Nat.mul_one, Nat.zero_add, z0, z1, z2, z3, z4, z5, z6, y0, y1, y2, y3, y4, y5, y6, y7, y8, y9, y10, y11, y12, y13, y14, y15, y16, y17, y18, y19, y20, y21, y22, y23, y24, y25, y26, y27, s3, s4, s5, s6, n30, nt, ct, bt, b0, nd, bd, up_o (show ¬ (100 : Nat) = 101 by decide), up_o (show ¬ (200 : Nat) = 101 by decide), up_o (show ¬ (200 : Nat) = 100 by decide), up_o (show ¬ (201 : Nat) = 101 by decide), up_o (show ¬ (201 : Nat) = 100 by decide), psC_n, psC_c, ← nI_succ, h1, e3]
  rfl
set_option maxHeartbeats 2000000 in
theorem xh3 {fz : Mem} {d t dp κ : Nat} {k m x : Int32} {μ : Mem} (hz : FZ fz) (hs : SPK fz μ κ k m t) (hκ : κ < 7) (ht : t ≤ 19) (hd : dp ≤ 11) : cl (d + 7) 27 [vR 4 100, vI 3, vI 2, vI x, vI (nI dp)] μ = some (some (vI (ho0 κ k m (x / 2))), psC μ t (40 :: 12 :: asT κ κ)) := by
  have h1 : cl _ 27 [Sum.inr (Sum.inr (4, 100)), vI 0, vI 2, vI (x / 2), vI (nI (dp + 1))] (up (up μ 101 t 40) 100 1 (nI (t + 1))) = _ := xh0 (d := d) (x := x / 2) (dp := dp + 1) hz hs.p1 hκ (by omega) (by omega)
  obtain ⟨s1, s2, s3, s4, s5, s6⟩ := hs
  obtain ⟨⟨z0, z1, z2, z3, z4, z5, z6⟩, ⟨y0, y1, y2, y3, y4, y5, y6, y7, y8, y9, y10, y11, y12, y13, y14, y15, y16, y17, y18, y19, y20, y21, y22, y23, y24, y25, y26, y27⟩⟩ := hz
  rw [← s1] at z0 z1 z2 z3 z4 z5 z6
  rw [← s2] at y0 y1 y2 y3 y4 y5 y6 y7 y8 y9 y10 y11 y12 y13 y14 y15 y16 y17 y18 y19 y20 y21 y22 y23 y24 y25 y26 y27
  have nt : (nI t).toInt = t := nI_toInt (by omega)
  have ct : (nI t).toNatClampNeg = t := ix_nI (by omega)
  have bt : (t : Int) < 30 := by omega
  have b0 : (0 : Int) ≤ (t : Int) := by omega
  have n30 : (nI 30).toInt = 30 := nI_toInt (by omega)
  have nd : (nI dp).toInt = dp := nI_toInt (by omega)
  have bd : (dp : Int) < 20 := by omega
  rw [cl_27]
  simp -implicitDefEqProofs only [u_27_0, u_27_1, u_27_2, u_27_4, u_27_5, u_27_6, u_27_7, u_27_8, u_27_3, cl_29, u_29_0, u_29_1, u_29_2, u_29_3, u_29_4, u_29_5, u_29_6, u_29_7, u_29_8, u_29_9, u_29_10, u_29_11, u_29_12, u_29_13, u_29_14, cl_28, u_28_0, u_28_1, u_28_2, e_iload_n, e_iload, e_lload_n, e_lload, e_aload_n, e_aload, e_istore_n, e_istore, e_astore_n, e_astore, e_lstore_n, e_lstore, e_iinc, e_iconst, e_bipush, e_sipush, e_ldc_w, e_ldc, e_ldcS, e_lconst, e_ldc2_w, e_iadd, e_isub, e_imul, e_iand, e_ixor, e_ishl, e_ishr, e_iushr, e_idiv, e_irem, e_ineg, e_i2b, e_i2s, e_i2c, e_ladd, e_lsub, e_lmul, e_land, e_lor, e_ldiv, e_lrem, e_lneg, e_lshl, e_lshr, e_lushr, e_i2l, e_l2i, e_lcmp, e_dupI, e_dupA, e_dup2, e_getI, e_getA, e_putI, e_putZ, e_getstatic, e_iaload, e_iastore, e_aaload10, e_alen10, e_aaload11, e_alen11, e_aaload12, e_alen12, e_aaload13, e_alen13, e_alen, e_invokevirtual, e_invokevirtualB, e_invokestatic, e_invokestaticB, ct_0, ct_i, ct_a, ct_l, os_0, os_s, rc_0, rc_s, sl_0, sl_i, sl_a, sl_l, simprocAttr, ix, z_em, up_eq, up_j, Nat.le_refl, true_or, or_true, true_and, and_true, and_self, or_self, beq_self_eq_true, if_true, if_false, ite_self, ca_f, ca_t, aLen, Int32.lt_iff_toInt_lt, Int32.le_iff_toInt_le, z_ite, z_iten, z_ite1, ite_not, not_true_eq_false, not_false_eq_true, false_and, and_false, false_or, or_false, b_max, b_min, b_minL, b_absL, b_ixD, b_ixH, b_copy, tk_0, tk_s, dr_0, dr_s, pu_s, pu_n, ca_0, ca_1, clr_0, clr_s, e_nop, e_goto, e_if_eq, e_if_ne, e_if_lt, e_if_ge, e_if_gt, e_if_le, e_ic_eq, e_ic_ne, e_ic_lt, e_ic_ge, e_ic_gt, e_ic_le, e_tsw, e_lsw, sw_0, sw_s, e_iret, e_zret, e_lret, e_aret, e_ret, en_0, en_n, en_i, en_a, en_l, List.getElem?_cons_zero, List.getElem?_cons_succ, List.set_cons_zero, List.set_cons_succ, len_s, List.length_nil, ne_eq, x_within, x_in, eT1, eT2, eT3, eT4, eT5, eT6, eM1, eM2, eM3, eM4, eM5, eM6, Nat.one_mul, Nat.mul_one, Nat.zero_add, z0, z1, z2, z3, z4, z5, z6, y0, y1, y2, y3, y4, y5, y6, y7, y8, y9, y10, y11, y12, y13, y14, y15, y16, y17, y18, y19, y20, y21, y22, y23, y24, y25, y26, y27, s3, s4, s5, s6, n30, nt, ct, bt, b0, nd, bd, up_o (show ¬ (100 : Nat) = 101 by decide), up_o (show ¬ (200 : Nat) = 101 by decide), up_o (show ¬ (200 : Nat) = 100 by decide), up_o (show ¬ (201 : Nat) = 101 by decide), up_o (show ¬ (201 : Nat) = 100 by decide), psC_n, psC_c, ← nI_succ, h1]
set_option maxHeartbeats 2000000 in
theorem xh4 {fz : Mem} {d t dp κ : Nat} {k m x : Int32} {μ : Mem} (hz : FZ fz) (hs : SPK fz μ κ k m t) (hκ : κ < 7) (ht : t ≤ 19) (hd : dp ≤ 11) : cl (d + 7) 27 [vR 4 100, vI 4, vI 2, vI x, vI (nI dp)] μ = some (some (vI (ho0 κ k m x ^^^ k)), psC μ t (51 :: 12 :: asT κ κ)) := by
  have e4 : ∀ (μ : Mem) t (l : List Int32), psC μ t l 100 4 = μ 100 4 := fun μ t l => psC_at (by decide) (by omega) l μ t
  have h1 : cl _ 27 [Sum.inr (Sum.inr (4, 100)), vI 1, vI 2, vI x, vI (nI (dp + 1))] (up (up μ 101 t 51) 100 1 (nI (t + 1))) = _ := xh1 (d := d) (x := x) (dp := dp + 1) hz hs.p1 hκ (by omega) (by omega)
  obtain ⟨s1, s2, s3, s4, s5, s6⟩ := hs
  obtain ⟨⟨z0, z1, z2, z3, z4, z5, z6⟩, ⟨y0, y1, y2, y3, y4, y5, y6, y7, y8, y9, y10, y11, y12, y13, y14, y15, y16, y17, y18, y19, y20, y21, y22, y23, y24, y25, y26, y27⟩⟩ := hz
  rw [← s1] at z0 z1 z2 z3 z4 z5 z6
  rw [← s2] at y0 y1 y2 y3 y4 y5 y6 y7 y8 y9 y10 y11 y12 y13 y14 y15 y16 y17 y18 y19 y20 y21 y22 y23 y24 y25 y26 y27
  have nt : (nI t).toInt = t := nI_toInt (by omega)
  have ct : (nI t).toNatClampNeg = t := ix_nI (by omega)
  have bt : (t : Int) < 30 := by omega
  have b0 : (0 : Int) ≤ (t : Int) := by omega
  have n30 : (nI 30).toInt = 30 := nI_toInt (by omega)
  have nd : (nI dp).toInt = dp := nI_toInt (by omega)
  have bd : (dp : Int) < 20 := by omega
  rw [cl_27]
  simp -implicitDefEqProofs only [u_27_0, u_27_1, u_27_2, u_27_4, u_27_5, u_27_6, u_27_7, u_27_8, u_27_3, cl_29, u_29_0, u_29_1, u_29_2, u_29_3, u_29_4, u_29_5, u_29_6, u_29_7, u_29_8, u_29_9, u_29_10, u_29_11, u_29_12, u_29_13, u_29_14, cl_28, u_28_0, u_28_1, u_28_2, e_iload_n, e_iload, e_lload_n, e_lload, e_aload_n, e_aload, e_istore_n, e_istore, e_astore_n, e_astore, e_lstore_n, e_lstore, e_iinc, e_iconst, e_bipush, e_sipush, e_ldc_w, e_ldc, e_ldcS, e_lconst, e_ldc2_w, e_iadd, e_isub, e_imul, e_iand, e_ixor, e_ishl, e_ishr, e_iushr, e_idiv, e_irem, e_ineg, e_i2b, e_i2s, e_i2c, e_ladd, e_lsub, e_lmul, e_land, e_lor, e_ldiv, e_lrem, e_lneg, e_lshl, e_lshr, e_lushr, e_i2l, e_l2i, e_lcmp, e_dupI, e_dupA, e_dup2, e_getI, e_getA, e_putI, e_putZ, e_getstatic, e_iaload, e_iastore, e_aaload10, e_alen10, e_aaload11, e_alen11, e_aaload12, e_alen12, e_aaload13, e_alen13, e_alen, e_invokevirtual, e_invokevirtualB, e_invokestatic, e_invokestaticB, ct_0, ct_i, ct_a, ct_l, os_0, os_s, rc_0, rc_s, sl_0, sl_i, sl_a, sl_l, simprocAttr, ix, z_em, up_eq, up_j, Nat.le_refl, true_or, or_true, true_and, and_true, and_self, or_self, beq_self_eq_true, if_true, if_false, ite_self, ca_f, ca_t, aLen, Int32.lt_iff_toInt_lt, Int32.le_iff_toInt_le, z_ite, z_iten, z_ite1, ite_not, not_true_eq_false, not_false_eq_true, false_and, and_false, false_or, or_false, b_max, b_min, b_minL, b_absL, b_ixD, b_ixH, b_copy, tk_0, tk_s, dr_0, dr_s, pu_s, pu_n, ca_0, ca_1, clr_0, clr_s, e_nop, e_goto, e_if_eq, e_if_ne, e_if_lt, e_if_ge, e_if_gt, e_if_le, e_ic_eq, e_ic_ne, e_ic_lt, e_ic_ge, e_ic_gt, e_ic_le, e_tsw, e_lsw, sw_0, sw_s, e_iret, e_zret, e_lret, e_aret, e_ret, en_0, en_n, en_i, en_a, en_l, List.getElem?_cons_zero, List.getElem?_cons_succ, List.set_cons_zero, List.set_cons_succ, len_s, List.length_nil, ne_eq, x_within, x_in, eT1, eT2, eT3, eT4, eT5, eT6, eM1, eM2, eM3, eM4, eM5, eM6, Nat.one_mul, Nat.mul_one, Nat.zero_add, z0, z1, z2, z3, z4, z5, z6, y0, y1, y2, y3, y4, y5, y6, y7, y8, y9, y10, y11, y12, y13, y14, y15, y16, y17, y18, y19, y20, y21, y22, y23, y24, y25, y26, y27, s3, s4, s5, s6, n30, nt, ct, bt, b0, nd, bd, up_o (show ¬ (100 : Nat) = 101 by decide), up_o (show ¬ (200 : Nat) = 101 by decide), up_o (show ¬ (200 : Nat) = 100 by decide), up_o (show ¬ (201 : Nat) = 101 by decide), up_o (show ¬ (201 : Nat) = 100 by decide), psC_n, psC_c, ← nI_succ, h1, e4]
theorem xH {a : Nat} {fz : Mem} {d t dp κ : Nat} {k m x : Int32} {μ : Mem} (hz : FZ fz) (hs : SPK fz μ κ k m t) (hκ : κ < 7) (ha : a < 7) (ht : t ≤ 19) (hd : dp ≤ 11) : cl (d + 7) 27 [vR 4 100, vI (nI a), vI 2, vI x, vI (nI dp)] μ = some (some (vI (hoV κ k m x a)), psC μ t (hoT κ a)) := by
  have h : a = 0 ∨ a = 1 ∨ a = 2 ∨ a = 3 ∨ a = 4 ∨ a = 5 ∨ a = 6 := by omega
  rcases h with rfl | rfl | rfl | rfl | rfl | rfl | rfl
  · exact xh0 (d := d + 1) hz hs hκ (by omega) (by omega)
  · exact xh1 (d := d + 1) hz hs hκ (by omega) (by omega)
  · exact xh2 (d := d + 1) hz hs hκ (by omega) (by omega)
  · exact xh3 (d := d) hz hs hκ (by omega) (by omega)
  · exact xh4 (d := d) hz hs hκ (by omega) (by omega)
  · exact xh5 (d := d + 1) hz hs hκ (by omega) (by omega)
  · exact xh6 (d := d + 1) hz hs hκ (by omega) (by omega)
