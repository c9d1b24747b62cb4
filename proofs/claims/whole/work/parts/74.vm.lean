/-! PAIRS OF CALLS: voices, the model's; parts. -/
def paT (κ a : Nat) : List Int32 := if a = 1 ∨ a = 4 then 21 :: 13 :: asT κ κ else [13]
def paTp (a : Nat) : List Int32 := if a = 1 ∨ a = 4 then [21, 13] else [13]
def paV (κ : Nat) (k m x : Int32) (a : Nat) : Int32 := if a = 1 ∨ a = 4 then x / (m - k) + asV κ k m 1 κ else x / (m - k)
def SPM (μ : Mem) (κ r : Nat) (k m : Int32) (t : Nat) : Prop := μ 112 15 = nI t ∧ μ 112 16 = nI r ∧ (r < 8 ∧ k = nI r) ∧ vM 113 μ (10 + r) 0 = nI κ ∧ vM 113 μ (10 + r) 1 = m ∧ μ 112 17 = 0
theorem SPM.p1 {μ : Mem} {κ r t : Nat} {k m : Int32} (h : SPM μ κ r k m t) {b : Int32} : SPM (up (up μ 122 t b) 112 15 (nI (t + 1))) κ r k m (t + 1) := by
  obtain ⟨a1, a2, a3, a4, a5, a6⟩ := h
  have e : vM 113 (up (up μ 122 t b) 112 15 (nI (t + 1))) = vM 113 μ := by rw [vM_un (by decide), vM_un (by decide)]
  refine ⟨up_eq, ?_, a3, by rw [e]; exact a4, by rw [e]; exact a5, ?_⟩
  · rw [up_j (by decide), up_o (by decide)]; exact a2
  · rw [up_j (by decide), up_o (by decide)]; exact a6
theorem SPM.ps {μ : Mem} {κ r : Nat} {k m : Int32} : ∀ (l : List Int32) (μ : Mem) (t : Nat), SPM μ κ r k m t → SPM (psM μ t l) κ r k m (t + l.length) := by
  intro l
  induction l with
  | nil => exact fun _ _ h => h
  | cons b l ih =>
    intro μ t h
    have := ih _ _ (h.p1 (b := b))
    rw [psM_c, List.length_cons, show t + (l.length + 1) = t + 1 + l.length by omega]
    exact this
set_option maxHeartbeats 2000000 in
theorem yb0 {d t κ r : Nat} {k m x : Int32} {μ : Mem} (hs : SPM μ κ r k m t) (ht : t ≤ 26) : cl (d) 175 [vR 8 112, vI 0, vI x] μ = some (some (vI (x + k)), psM μ t ([10])) := by
  have hs' := hs
  obtain ⟨s1, s2, ⟨s3, s4⟩, s5, s6, s7⟩ := hs'
  have nt : (nI t).toInt = t := nI_toInt (by omega)
  have ct : (nI t).toNatClampNeg = t := ix_nI (by omega)
  have bt : (t : Int) < 30 := by omega
  have b0 : (0 : Int) ≤ (t : Int) := by omega
  have v1 : ∀ (μ : Mem) (t : Nat) (b : Int32), vM 113 (up (up μ 122 t b) 112 15 (nI (t + 1))) = vM 113 μ := fun μ t b => by rw [vM_un (by decide), vM_un (by decide)]
  have y0 := fun μ2 => yo0 (d := d) (r := r) (μ := μ2) s3
  have y1 := fun μ2 => yo1 (d := d) (r := r) (μ := μ2) s3
  have p3 : ∀ (l : List Int32) (μ : Mem) t, psM μ t l 112 16 = μ 112 16 := fun l μ t => psM_at (by decide) (by omega) l μ t
  have p4 : ∀ (l : List Int32) (μ : Mem) t, vM 113 (psM μ t l) = vM 113 μ := fun l μ t => vM_congr (by funext c; exact psM_at (by decide) (by omega) l μ t)
  rw [cl_175]
  simp -implicitDefEqProofs only [u_175_0, u_175_1, u_175_2, u_175_3, u_175_4, u_175_5, cl_171, u_171_0, u_171_1, u_171_2, cl_172, u_172_0, u_172_1, u_172_2, u_172_3, u_172_4, u_172_5, cl_173, u_173_0, cl_174, u_174_0, e_iload_n, e_iload, e_lload_n, e_lload, e_aload_n, e_aload, e_istore_n, e_istore, e_astore_n, e_astore, e_lstore_n, e_lstore, e_iinc, e_iconst, e_bipush, e_sipush, e_ldc_w, e_ldc, e_ldcS, e_lconst, e_ldc2_w, e_iadd, e_isub, e_imul, e_iand, e_ixor, e_ishl, e_ishr, e_iushr, e_idiv, e_irem, e_ineg, e_i2b, e_i2s, e_i2c, e_ladd, e_lsub, e_lmul, e_land, e_lor, e_ldiv, e_lrem, e_lneg, e_lshl, e_lshr, e_lushr, e_i2l, e_l2i, e_lcmp, e_dupI, e_dupA, e_dup2, e_getI, e_getA, e_putI, e_putZ, e_getstatic, e_iaload, e_iastore, e_aaload10, e_alen10, e_aaload11, e_alen11, e_aaload12, e_alen12, e_aaload13, e_alen13, e_alen, e_invokevirtual, e_invokevirtualB, e_invokestatic, e_invokestaticB, ct_0, ct_i, ct_a, ct_l, os_0, os_s, rc_0, rc_s, sl_0, sl_i, sl_a, sl_l, simprocAttr, ix, z_em, up_eq, up_j, Nat.le_refl, true_or, or_true, true_and, and_true, and_self, or_self, beq_self_eq_true, if_true, if_false, ite_self, ca_f, ca_t, aLen, Int32.lt_iff_toInt_lt, Int32.le_iff_toInt_le, z_ite, z_iten, z_ite1, ite_not, not_true_eq_false, not_false_eq_true, false_and, and_false, false_or, or_false, b_max, b_min, b_minL, b_absL, b_ixD, b_ixH, b_copy, tk_0, tk_s, dr_0, dr_s, pu_s, pu_n, ca_0, ca_1, clr_0, clr_s, e_nop, e_goto, e_if_eq, e_if_ne, e_if_lt, e_if_ge, e_if_gt, e_if_le, e_ic_eq, e_ic_ne, e_ic_lt, e_ic_ge, e_ic_gt, e_ic_le, e_tsw, e_lsw, sw_0, sw_s, e_iret, e_zret, e_lret, e_aret, e_ret, en_0, en_n, en_i, en_a, en_l, List.getElem?_cons_zero, List.getElem?_cons_succ, List.set_cons_zero, List.set_cons_succ, len_s, List.length_nil, ne_eq, x_within, x_in, eT1, eT2, eT3, eT4, eT5, eT6, eM1, eM2, eM3, eM4, eM5, eM6, Nat.one_mul, Nat.mul_one, Nat.zero_add, s1, s2, s5, s6, nt, ct, bt, b0, up_o (show ¬ (112 : Nat) = 122 by decide), psM_n, psM_c, ← nI_succ, v1, y0, y1, p3, p4, s4]
set_option maxHeartbeats 2000000 in
theorem yb1 {d t κ r : Nat} {k m x : Int32} {μ : Mem} (hs : SPM μ κ r k m t) (ht : t ≤ 25) : cl (d + 1) 175 [vR 8 112, vI 1, vI x] μ = some (some (vI (x + k - 8)), psM μ t ([20, 10])) := by
  have h1 : cl _ 175 [Sum.inr (Sum.inr (8, 112)), vI 0, vI x] (up (up μ 122 t 20) 112 15 (nI (t + 1))) = _ := yb0 (d := d) (x := x) hs.p1 (by omega)
  have hs' := hs
  obtain ⟨s1, s2, ⟨s3, s4⟩, s5, s6, s7⟩ := hs'
  have nt : (nI t).toInt = t := nI_toInt (by omega)
  have ct : (nI t).toNatClampNeg = t := ix_nI (by omega)
  have bt : (t : Int) < 30 := by omega
  have b0 : (0 : Int) ≤ (t : Int) := by omega
  have v1 : ∀ (μ : Mem) (t : Nat) (b : Int32), vM 113 (up (up μ 122 t b) 112 15 (nI (t + 1))) = vM 113 μ := fun μ t b => by rw [vM_un (by decide), vM_un (by decide)]
  have y0 := fun μ2 => yo0 (d := d + 1) (r := r) (μ := μ2) s3
  have y1 := fun μ2 => yo1 (d := d + 1) (r := r) (μ := μ2) s3
  have p3 : ∀ (l : List Int32) (μ : Mem) t, psM μ t l 112 16 = μ 112 16 := fun l μ t => psM_at (by decide) (by omega) l μ t
  have p4 : ∀ (l : List Int32) (μ : Mem) t, vM 113 (psM μ t l) = vM 113 μ := fun l μ t => vM_congr (by funext c; exact psM_at (by decide) (by omega) l μ t)
  rw [cl_175]
  simp -implicitDefEqProofs only [u_175_0, u_175_1, u_175_2, u_175_3, u_175_4, u_175_5, cl_171, u_171_0, u_171_1, u_171_2, cl_172, u_172_0, u_172_1, u_172_2, u_172_3, u_172_4, u_172_5, cl_173, u_173_0, cl_174, u_174_0, e_iload_n, e_iload, e_lload_n, e_lload, e_aload_n, e_aload, e_istore_n, e_istore, e_astore_n, e_astore, e_lstore_n, e_lstore, e_iinc, e_iconst, e_bipush, e_sipush, e_ldc_w, e_ldc, e_ldcS, e_lconst, e_ldc2_w, e_iadd, e_isub, e_imul, e_iand, e_ixor, e_ishl, e_ishr, e_iushr, e_idiv, e_irem, e_ineg, e_i2b, e_i2s, e_i2c, e_ladd, e_lsub, e_lmul, e_land, e_lor, e_ldiv, e_lrem, e_lneg, e_lshl, e_lshr, e_lushr, e_i2l, e_l2i, e_lcmp, e_dupI, e_dupA, e_dup2, e_getI, e_getA, e_putI, e_putZ, e_getstatic, e_iaload, e_iastore, e_aaload10, e_alen10, e_aaload11, e_alen11, e_aaload12, e_alen12, e_aaload13, e_alen13, e_alen, e_invokevirtual, e_invokevirtualB, e_invokestatic, e_invokestaticB, ct_0, ct_i, ct_a, ct_l, os_0, os_s, rc_0, rc_s, sl_0, sl_i, sl_a, sl_l, simprocAttr, ix, z_em, up_eq, up_j, Nat.le_refl, true_or, or_true, true_and, and_true, and_self, or_self, beq_self_eq_true, if_true, if_false, ite_self, ca_f, ca_t, aLen, Int32.lt_iff_toInt_lt, Int32.le_iff_toInt_le, z_ite, z_iten, z_ite1, ite_not, not_true_eq_false, not_false_eq_true, false_and, and_false, false_or, or_false, b_max, b_min, b_minL, b_absL, b_ixD, b_ixH, b_copy, tk_0, tk_s, dr_0, dr_s, pu_s, pu_n, ca_0, ca_1, clr_0, clr_s, e_nop, e_goto, e_if_eq, e_if_ne, e_if_lt, e_if_ge, e_if_gt, e_if_le, e_ic_eq, e_ic_ne, e_ic_lt, e_ic_ge, e_ic_gt, e_ic_le, e_tsw, e_lsw, sw_0, sw_s, e_iret, e_zret, e_lret, e_aret, e_ret, en_0, en_n, en_i, en_a, en_l, List.getElem?_cons_zero, List.getElem?_cons_succ, List.set_cons_zero, List.set_cons_succ, len_s, List.length_nil, ne_eq, x_within, x_in, eT1, eT2, eT3, eT4, eT5, eT6, eM1, eM2, eM3, eM4, eM5, eM6, Nat.one_mul, Nat.mul_one, Nat.zero_add, s1, s2, s5, s6, nt, ct, bt, b0, up_o (show ¬ (112 : Nat) = 122 by decide), psM_n, psM_c, ← nI_succ, v1, y0, y1, p3, p4, h1]
set_option maxHeartbeats 2000000 in
theorem yb2 {d t κ r : Nat} {k m x : Int32} {μ : Mem} (hs : SPM μ κ r k m t) (ht : t ≤ 25) : cl (d + 1) 175 [vR 8 112, vI 2, vI x] μ = some (some (vI (x + k)), psM μ t ([10])) := by
  have h1 : cl _ 175 [Sum.inr (Sum.inr (8, 112)), vI 0, vI x] μ = _ := yb0 (d := d) (x := x) hs (by omega)
  have hs' := hs
  obtain ⟨s1, s2, ⟨s3, s4⟩, s5, s6, s7⟩ := hs'
  have nt : (nI t).toInt = t := nI_toInt (by omega)
  have ct : (nI t).toNatClampNeg = t := ix_nI (by omega)
  have bt : (t : Int) < 30 := by omega
  have b0 : (0 : Int) ≤ (t : Int) := by omega
  have v1 : ∀ (μ : Mem) (t : Nat) (b : Int32), vM 113 (up (up μ 122 t b) 112 15 (nI (t + 1))) = vM 113 μ := fun μ t b => by rw [vM_un (by decide), vM_un (by decide)]
  have y0 := fun μ2 => yo0 (d := d + 1) (r := r) (μ := μ2) s3
  have y1 := fun μ2 => yo1 (d := d + 1) (r := r) (μ := μ2) s3
  have p3 : ∀ (l : List Int32) (μ : Mem) t, psM μ t l 112 16 = μ 112 16 := fun l μ t => psM_at (by decide) (by omega) l μ t
  have p4 : ∀ (l : List Int32) (μ : Mem) t, vM 113 (psM μ t l) = vM 113 μ := fun l μ t => vM_congr (by funext c; exact psM_at (by decide) (by omega) l μ t)
  rw [cl_175]
  simp -implicitDefEqProofs only [u_175_0, u_175_1, u_175_2, u_175_3, u_175_4, u_175_5, cl_171, u_171_0, u_171_1, u_171_2, cl_172, u_172_0, u_172_1, u_172_2, u_172_3, u_172_4, u_172_5, cl_173, u_173_0, cl_174, u_174_0, e_iload_n, e_iload, e_lload_n, e_lload, e_aload_n, e_aload, e_istore_n, e_istore, e_astore_n, e_astore, e_lstore_n, e_lstore, e_iinc, e_iconst, e_bipush, e_sipush, e_ldc_w, e_ldc, e_ldcS, e_lconst, e_ldc2_w, e_iadd, e_isub, e_imul, e_iand, e_ixor, e_ishl, e_ishr, e_iushr, e_idiv, e_irem, e_ineg, e_i2b, e_i2s, e_i2c, e_ladd, e_lsub, e_lmul, e_land, e_lor, e_ldiv, e_lrem, e_lneg, e_lshl, e_lshr, e_lushr, e_i2l, e_l2i, e_lcmp, e_dupI, e_dupA, e_dup2, e_getI, e_getA, e_putI, e_putZ, e_getstatic, e_iaload, e_iastore, e_aaload10, e_alen10, e_aaload11, e_alen11, e_aaload12, e_alen12, e_aaload13, e_alen13, e_alen, e_invokevirtual, e_invokevirtualB, e_invokestatic, e_invokestaticB, ct_0, ct_i, ct_a, ct_l, os_0, os_s, rc_0, rc_s, sl_0, sl_i, sl_a, sl_l, simprocAttr, ix, z_em, up_eq, up_j, Nat.le_refl, true_or, or_true, true_and, and_true, and_self, or_self, beq_self_eq_true, if_true, if_false, ite_self, ca_f, ca_t, aLen, Int32.lt_iff_toInt_lt, Int32.le_iff_toInt_le, z_ite, z_iten, z_ite1, ite_not, not_true_eq_false, not_false_eq_true, false_and, and_false, false_or, or_false, b_max, b_min, b_minL, b_absL, b_ixD, b_ixH, b_copy, tk_0, tk_s, dr_0, dr_s, pu_s, pu_n, ca_0, ca_1, clr_0, clr_s, e_nop, e_goto, e_if_eq, e_if_ne, e_if_lt, e_if_ge, e_if_gt, e_if_le, e_ic_eq, e_ic_ne, e_ic_lt, e_ic_ge, e_ic_gt, e_ic_le, e_tsw, e_lsw, sw_0, sw_s, e_iret, e_zret, e_lret, e_aret, e_ret, en_0, en_n, en_i, en_a, en_l, List.getElem?_cons_zero, List.getElem?_cons_succ, List.set_cons_zero, List.set_cons_succ, len_s, List.length_nil, ne_eq, x_within, x_in, eT1, eT2, eT3, eT4, eT5, eT6, eM1, eM2, eM3, eM4, eM5, eM6, Nat.one_mul, Nat.mul_one, Nat.zero_add, s1, s2, s5, s6, nt, ct, bt, b0, up_o (show ¬ (112 : Nat) = 122 by decide), psM_n, psM_c, ← nI_succ, v1, y0, y1, p3, p4, h1]
set_option maxHeartbeats 2000000 in
theorem yb3 {d t κ r : Nat} {k m x : Int32} {μ : Mem} (hs : SPM μ κ r k m t) (ht : t ≤ 25) : cl (d + 1) 175 [vR 8 112, vI 3, vI x] μ = some (some (vI (x + k)), psM μ t ([10])) := by
  have h1 : cl _ 175 [Sum.inr (Sum.inr (8, 112)), vI 0, vI x] μ = _ := yb0 (d := d) (x := x) hs (by omega)
  have hs' := hs
  obtain ⟨s1, s2, ⟨s3, s4⟩, s5, s6, s7⟩ := hs'
  have nt : (nI t).toInt = t := nI_toInt (by omega)
  have ct : (nI t).toNatClampNeg = t := ix_nI (by omega)
  have bt : (t : Int) < 30 := by omega
  have b0 : (0 : Int) ≤ (t : Int) := by omega
  have v1 : ∀ (μ : Mem) (t : Nat) (b : Int32), vM 113 (up (up μ 122 t b) 112 15 (nI (t + 1))) = vM 113 μ := fun μ t b => by rw [vM_un (by decide), vM_un (by decide)]
  have y0 := fun μ2 => yo0 (d := d + 1) (r := r) (μ := μ2) s3
  have y1 := fun μ2 => yo1 (d := d + 1) (r := r) (μ := μ2) s3
  have p3 : ∀ (l : List Int32) (μ : Mem) t, psM μ t l 112 16 = μ 112 16 := fun l μ t => psM_at (by decide) (by omega) l μ t
  have p4 : ∀ (l : List Int32) (μ : Mem) t, vM 113 (psM μ t l) = vM 113 μ := fun l μ t => vM_congr (by funext c; exact psM_at (by decide) (by omega) l μ t)
  rw [cl_175]
  simp -implicitDefEqProofs only [u_175_0, u_175_1, u_175_2, u_175_3, u_175_4, u_175_5, cl_171, u_171_0, u_171_1, u_171_2, cl_172, u_172_0, u_172_1, u_172_2, u_172_3, u_172_4, u_172_5, cl_173, u_173_0, cl_174, u_174_0, e_iload_n, e_iload, e_lload_n, e_lload, e_aload_n, e_aload, e_istore_n, e_istore, e_astore_n, e_astore, e_lstore_n, e_lstore, e_iinc, e_iconst, e_bipush, e_sipush, e_ldc_w, e_ldc, e_ldcS, e_lconst, e_ldc2_w, e_iadd, e_isub, e_imul, e_iand, e_ixor, e_ishl, e_ishr, e_iushr, e_idiv, e_irem, e_ineg, e_i2b, e_i2s, e_i2c, e_ladd, e_lsub, e_lmul, e_land, e_lor, e_ldiv, e_lrem, e_lneg, e_lshl, e_lshr, e_lushr, e_i2l, e_l2i, e_lcmp, e_dupI, e_dupA, e_dup2, e_getI, e_getA, e_putI, e_putZ, e_getstatic, e_iaload, e_iastore, e_aaload10, e_alen10, e_aaload11, e_alen11, e_aaload12, e_alen12, e_aaload13, e_alen13, e_alen, e_invokevirtual, e_invokevirtualB, e_invokestatic, e_invokestaticB, ct_0, ct_i, ct_a, ct_l, os_0, os_s, rc_0, rc_s, sl_0, sl_i, sl_a, sl_l, simprocAttr, ix, z_em, up_eq, up_j, Nat.le_refl, true_or, or_true, true_and, and_true, and_self, or_self, beq_self_eq_true, if_true, if_false, ite_self, ca_f, ca_t, aLen, Int32.lt_iff_toInt_lt, Int32.le_iff_toInt_le, z_ite, z_iten, z_ite1, ite_not, not_true_eq_false, not_false_eq_true, false_and, and_false, false_or, or_false, b_max, b_min, b_minL, b_absL, b_ixD, b_ixH, b_copy, tk_0, tk_s, dr_0, dr_s, pu_s, pu_n, ca_0, ca_1, clr_0, clr_s, e_nop, e_goto, e_if_eq, e_if_ne, e_if_lt, e_if_ge, e_if_gt, e_if_le, e_ic_eq, e_ic_ne, e_ic_lt, e_ic_ge, e_ic_gt, e_ic_le, e_tsw, e_lsw, sw_0, sw_s, e_iret, e_zret, e_lret, e_aret, e_ret, en_0, en_n, en_i, en_a, en_l, List.getElem?_cons_zero, List.getElem?_cons_succ, List.set_cons_zero, List.set_cons_succ, len_s, List.length_nil, ne_eq, x_within, x_in, eT1, eT2, eT3, eT4, eT5, eT6, eM1, eM2, eM3, eM4, eM5, eM6, Nat.one_mul, Nat.mul_one, Nat.zero_add, s1, s2, s5, s6, nt, ct, bt, b0, up_o (show ¬ (112 : Nat) = 122 by decide), psM_n, psM_c, ← nI_succ, v1, y0, y1, p3, p4, h1]
set_option maxHeartbeats 2000000 in
theorem yb4 {d t κ r : Nat} {k m x : Int32} {μ : Mem} (hs : SPM μ κ r k m t) (ht : t ≤ 24) : cl (d + 2) 175 [vR 8 112, vI 4, vI x] μ = some (some (vI ((x + k - 8) * 3)), psM μ t ([50, 20, 10])) := by
  have h1 : cl _ 175 [Sum.inr (Sum.inr (8, 112)), vI 1, vI x] (up (up μ 122 t 50) 112 15 (nI (t + 1))) = _ := yb1 (d := d) (x := x) hs.p1 (by omega)
  have hs' := hs
  obtain ⟨s1, s2, ⟨s3, s4⟩, s5, s6, s7⟩ := hs'
  have nt : (nI t).toInt = t := nI_toInt (by omega)
  have ct : (nI t).toNatClampNeg = t := ix_nI (by omega)
  have bt : (t : Int) < 30 := by omega
  have b0 : (0 : Int) ≤ (t : Int) := by omega
  have v1 : ∀ (μ : Mem) (t : Nat) (b : Int32), vM 113 (up (up μ 122 t b) 112 15 (nI (t + 1))) = vM 113 μ := fun μ t b => by rw [vM_un (by decide), vM_un (by decide)]
  have y0 := fun μ2 => yo0 (d := d + 2) (r := r) (μ := μ2) s3
  have y1 := fun μ2 => yo1 (d := d + 2) (r := r) (μ := μ2) s3
  have p3 : ∀ (l : List Int32) (μ : Mem) t, psM μ t l 112 16 = μ 112 16 := fun l μ t => psM_at (by decide) (by omega) l μ t
  have p4 : ∀ (l : List Int32) (μ : Mem) t, vM 113 (psM μ t l) = vM 113 μ := fun l μ t => vM_congr (by funext c; exact psM_at (by decide) (by omega) l μ t)
  rw [cl_175]
  simp -implicitDefEqProofs only [u_175_0, u_175_1, u_175_2, u_175_3, u_175_4, u_175_5, cl_171, u_171_0, u_171_1, u_171_2, cl_172, u_172_0, u_172_1, u_172_2, u_172_3, u_172_4, u_172_5, cl_173, u_173_0, cl_174, u_174_0, e_iload_n, e_iload, e_lload_n, e_lload, e_aload_n, e_aload, e_istore_n, e_istore, e_astore_n, e_astore, e_lstore_n, e_lstore, e_iinc, e_iconst, e_bipush, e_sipush, e_ldc_w, e_ldc, e_ldcS, e_lconst, e_ldc2_w, e_iadd, e_isub, e_imul, e_iand, e_ixor, e_ishl, e_ishr, e_iushr, e_idiv, e_irem, e_ineg, e_i2b, e_i2s, e_i2c, e_ladd, e_lsub, e_lmul, e_land, e_lor, e_ldiv, e_lrem, e_lneg, e_lshl, e_lshr, e_lushr, e_i2l, e_l2i, e_lcmp, e_dupI, e_dupA, e_dup2, e_getI, e_getA, e_putI, e_putZ, e_getstatic, e_iaload, e_iastore, e_aaload10, e_alen10, e_aaload11, e_alen11, e_aaload12, e_alen12, e_aaload13, e_alen13, e_alen, e_invokevirtual, e_invokevirtualB, e_invokestatic, e_invokestaticB, ct_0, ct_i, ct_a, ct_l, os_0, os_s, rc_0, rc_s, sl_0, sl_i, sl_a, sl_l, simprocAttr, ix, z_em, up_eq, up_j, Nat.le_refl, true_or, or_true, true_and, and_true, and_self, or_self, beq_self_eq_true, if_true, if_false, ite_self, ca_f, ca_t, aLen, Int32.lt_iff_toInt_lt, Int32.le_iff_toInt_le, z_ite, z_iten, z_ite1, ite_not, not_true_eq_false, not_false_eq_true, false_and, and_false, false_or, or_false, b_max, b_min, b_minL, b_absL, b_ixD, b_ixH, b_copy, tk_0, tk_s, dr_0, dr_s, pu_s, pu_n, ca_0, ca_1, clr_0, clr_s, e_nop, e_goto, e_if_eq, e_if_ne, e_if_lt, e_if_ge, e_if_gt, e_if_le, e_ic_eq, e_ic_ne, e_ic_lt, e_ic_ge, e_ic_gt, e_ic_le, e_tsw, e_lsw, sw_0, sw_s, e_iret, e_zret, e_lret, e_aret, e_ret, en_0, en_n, en_i, en_a, en_l, List.getElem?_cons_zero, List.getElem?_cons_succ, List.set_cons_zero, List.set_cons_succ, len_s, List.length_nil, ne_eq, x_within, x_in, eT1, eT2, eT3, eT4, eT5, eT6, eM1, eM2, eM3, eM4, eM5, eM6, Nat.one_mul, Nat.mul_one, Nat.zero_add, s1, s2, s5, s6, nt, ct, bt, b0, up_o (show ¬ (112 : Nat) = 122 by decide), psM_n, psM_c, ← nI_succ, v1, y0, y1, p3, p4, h1]
set_option maxHeartbeats 2000000 in
theorem yb5 {d t κ r : Nat} {k m x : Int32} {μ : Mem} (hs : SPM μ κ r k m t) (ht : t ≤ 24) : cl (d + 2) 175 [vR 8 112, vI 5, vI x] μ = some (some (vI (x + k)), psM μ t ([10])) := by
  have h1 : cl _ 175 [Sum.inr (Sum.inr (8, 112)), vI 2, vI x] μ = _ := yb2 (d := d) (x := x) hs (by omega)
  have hs' := hs
  obtain ⟨s1, s2, ⟨s3, s4⟩, s5, s6, s7⟩ := hs'
  have nt : (nI t).toInt = t := nI_toInt (by omega)
  have ct : (nI t).toNatClampNeg = t := ix_nI (by omega)
  have bt : (t : Int) < 30 := by omega
  have b0 : (0 : Int) ≤ (t : Int) := by omega
  have v1 : ∀ (μ : Mem) (t : Nat) (b : Int32), vM 113 (up (up μ 122 t b) 112 15 (nI (t + 1))) = vM 113 μ := fun μ t b => by rw [vM_un (by decide), vM_un (by decide)]
  have y0 := fun μ2 => yo0 (d := d + 2) (r := r) (μ := μ2) s3
  have y1 := fun μ2 => yo1 (d := d + 2) (r := r) (μ := μ2) s3
  have p3 : ∀ (l : List Int32) (μ : Mem) t, psM μ t l 112 16 = μ 112 16 := fun l μ t => psM_at (by decide) (by omega) l μ t
  have p4 : ∀ (l : List Int32) (μ : Mem) t, vM 113 (psM μ t l) = vM 113 μ := fun l μ t => vM_congr (by funext c; exact psM_at (by decide) (by omega) l μ t)
  rw [cl_175]
  simp -implicitDefEqProofs only [u_175_0, u_175_1, u_175_2, u_175_3, u_175_4, u_175_5, cl_171, u_171_0, u_171_1, u_171_2, cl_172, u_172_0, u_172_1, u_172_2, u_172_3, u_172_4, u_172_5, cl_173, u_173_0, cl_174, u_174_0, e_iload_n, e_iload, e_lload_n, e_lload, e_aload_n, e_aload, e_istore_n, e_istore, e_astore_n, e_astore, e_lstore_n, e_lstore, e_iinc, e_iconst, e_bipush, e_sipush, e_ldc_w, e_ldc, e_ldcS, e_lconst, e_ldc2_w, e_iadd, e_isub, e_imul, e_iand, e_ixor, e_ishl, e_ishr, e_iushr, e_idiv, e_irem, e_ineg, e_i2b, e_i2s, e_i2c, e_ladd, e_lsub, e_lmul, e_land, e_lor, e_ldiv, e_lrem, e_lneg, e_lshl, e_lshr, e_lushr, e_i2l, e_l2i, e_lcmp, e_dupI, e_dupA, e_dup2, e_getI, e_getA, e_putI, e_putZ, e_getstatic, e_iaload, e_iastore, e_aaload10, e_alen10, e_aaload11, e_alen11, e_aaload12, e_alen12, e_aaload13, e_alen13, e_alen, e_invokevirtual, e_invokevirtualB, e_invokestatic, e_invokestaticB, ct_0, ct_i, ct_a, ct_l, os_0, os_s, rc_0, rc_s, sl_0, sl_i, sl_a, sl_l, simprocAttr, ix, z_em, up_eq, up_j, Nat.le_refl, true_or, or_true, true_and, and_true, and_self, or_self, beq_self_eq_true, if_true, if_false, ite_self, ca_f, ca_t, aLen, Int32.lt_iff_toInt_lt, Int32.le_iff_toInt_le, z_ite, z_iten, z_ite1, ite_not, not_true_eq_false, not_false_eq_true, false_and, and_false, false_or, or_false, b_max, b_min, b_minL, b_absL, b_ixD, b_ixH, b_copy, tk_0, tk_s, dr_0, dr_s, pu_s, pu_n, ca_0, ca_1, clr_0, clr_s, e_nop, e_goto, e_if_eq, e_if_ne, e_if_lt, e_if_ge, e_if_gt, e_if_le, e_ic_eq, e_ic_ne, e_ic_lt, e_ic_ge, e_ic_gt, e_ic_le, e_tsw, e_lsw, sw_0, sw_s, e_iret, e_zret, e_lret, e_aret, e_ret, en_0, en_n, en_i, en_a, en_l, List.getElem?_cons_zero, List.getElem?_cons_succ, List.set_cons_zero, List.set_cons_succ, len_s, List.length_nil, ne_eq, x_within, x_in, eT1, eT2, eT3, eT4, eT5, eT6, eM1, eM2, eM3, eM4, eM5, eM6, Nat.one_mul, Nat.mul_one, Nat.zero_add, s1, s2, s5, s6, nt, ct, bt, b0, up_o (show ¬ (112 : Nat) = 122 by decide), psM_n, psM_c, ← nI_succ, v1, y0, y1, p3, p4, h1]
set_option maxHeartbeats 2000000 in
theorem yb6 {d t κ r : Nat} {k m x : Int32} {μ : Mem} (hs : SPM μ κ r k m t) (ht : t ≤ 26) : cl (d) 175 [vR 8 112, vI 6, vI x] μ = some (some (vI (3)), psM μ t ([70])) := by
  have hs' := hs
  obtain ⟨s1, s2, ⟨s3, s4⟩, s5, s6, s7⟩ := hs'
  have nt : (nI t).toInt = t := nI_toInt (by omega)
  have ct : (nI t).toNatClampNeg = t := ix_nI (by omega)
  have bt : (t : Int) < 30 := by omega
  have b0 : (0 : Int) ≤ (t : Int) := by omega
  have v1 : ∀ (μ : Mem) (t : Nat) (b : Int32), vM 113 (up (up μ 122 t b) 112 15 (nI (t + 1))) = vM 113 μ := fun μ t b => by rw [vM_un (by decide), vM_un (by decide)]
  have y0 := fun μ2 => yo0 (d := d) (r := r) (μ := μ2) s3
  have y1 := fun μ2 => yo1 (d := d) (r := r) (μ := μ2) s3
  have p3 : ∀ (l : List Int32) (μ : Mem) t, psM μ t l 112 16 = μ 112 16 := fun l μ t => psM_at (by decide) (by omega) l μ t
  have p4 : ∀ (l : List Int32) (μ : Mem) t, vM 113 (psM μ t l) = vM 113 μ := fun l μ t => vM_congr (by funext c; exact psM_at (by decide) (by omega) l μ t)
  rw [cl_175]
  simp -implicitDefEqProofs only [u_175_0, u_175_1, u_175_2, u_175_3, u_175_4, u_175_5, cl_171, u_171_0, u_171_1, u_171_2, cl_172, u_172_0, u_172_1, u_172_2, u_172_3, u_172_4, u_172_5, cl_173, u_173_0, cl_174, u_174_0, e_iload_n, e_iload, e_lload_n, e_lload, e_aload_n, e_aload, e_istore_n, e_istore, e_astore_n, e_astore, e_lstore_n, e_lstore, e_iinc, e_iconst, e_bipush, e_sipush, e_ldc_w, e_ldc, e_ldcS, e_lconst, e_ldc2_w, e_iadd, e_isub, e_imul, e_iand, e_ixor, e_ishl, e_ishr, e_iushr, e_idiv, e_irem, e_ineg, e_i2b, e_i2s, e_i2c, e_ladd, e_lsub, e_lmul, e_land, e_lor, e_ldiv, e_lrem, e_lneg, e_lshl, e_lshr, e_lushr, e_i2l, e_l2i, e_lcmp, e_dupI, e_dupA, e_dup2, e_getI, e_getA, e_putI, e_putZ, e_getstatic, e_iaload, e_iastore, e_aaload10, e_alen10, e_aaload11, e_alen11, e_aaload12, e_alen12, e_aaload13, e_alen13, e_alen, e_invokevirtual, e_invokevirtualB, e_invokestatic, e_invokestaticB, ct_0, ct_i, ct_a, ct_l, os_0, os_s, rc_0, rc_s, sl_0, sl_i, sl_a, sl_l, simprocAttr, ix, z_em, up_eq, up_j, Nat.le_refl, true_or, or_true, true_and, and_true, and_self, or_self, beq_self_eq_true, if_true, if_false, ite_self, ca_f, ca_t, aLen, Int32.lt_iff_toInt_lt, Int32.le_iff_toInt_le, z_ite, z_iten, z_ite1, ite_not, not_true_eq_false, not_false_eq_true, false_and, and_false, false_or, or_false, b_max, b_min, b_minL, b_absL, b_ixD, b_ixH, b_copy, tk_0, tk_s, dr_0, dr_s, pu_s, pu_n, ca_0, ca_1, clr_0, clr_s, e_nop, e_goto, e_if_eq, e_if_ne, e_if_lt, e_if_ge, e_if_gt, e_if_le, e_ic_eq, e_ic_ne, e_ic_lt, e_ic_ge, e_ic_gt, e_ic_le, e_tsw, e_lsw, sw_0, sw_s, e_iret, e_zret, e_lret, e_aret, e_ret, en_0, en_n, en_i, en_a, en_l, List.getElem?_cons_zero, List.getElem?_cons_succ, List.set_cons_zero, List.set_cons_succ, len_s, List.length_nil, ne_eq, x_within, x_in, eT1, eT2, eT3, eT4, eT5, eT6, eM1, eM2, eM3, eM4, eM5, eM6, Nat.one_mul, Nat.mul_one, Nat.zero_add, s1, s2, s5, s6, nt, ct, bt, b0, up_o (show ¬ (112 : Nat) = 122 by decide), psM_n, psM_c, ← nI_succ, v1, y0, y1, p3, p4]
theorem yB {a : Nat} {d t κ r : Nat} {k m x : Int32} {μ : Mem} (hs : SPM μ κ r k m t) (ha : a < 7) (ht : t ≤ 24) : cl (d + 2) 175 [vR 8 112, vI (nI a), vI x] μ = some (some (vI (brV k x a)), psM μ t (brT a)) := by
  have h : a = 0 ∨ a = 1 ∨ a = 2 ∨ a = 3 ∨ a = 4 ∨ a = 5 ∨ a = 6 := by omega
  rcases h with rfl | rfl | rfl | rfl | rfl | rfl | rfl
  · exact yb0 (d := d + 2) hs (by omega)
  · exact yb1 (d := d + 1) hs (by omega)
  · exact yb2 (d := d + 1) hs (by omega)
  · exact yb3 (d := d + 1) hs (by omega)
  · exact yb4 (d := d) hs (by omega)
  · exact yb5 (d := d) hs (by omega)
  · exact yb6 (d := d + 2) hs (by omega)
set_option maxHeartbeats 2000000 in
theorem ya0 {d t κ r : Nat} {k m x : Int32} {μ : Mem} (hs : SPM μ κ r k m t) (hκ : κ < 7) (ht : t ≤ 23) : cl (d + 2) 176 [vR 8 112, vI 0, vI x] μ = some (some (vI (as0 κ k x)), psM μ t (11 :: brT κ)) := by
  have h1 : cl _ 175 [Sum.inr (Sum.inr (8, 112)), vI (nI κ), vI x] (up (up μ 122 t 11) 112 15 (nI (t + 1))) = _ := yB (d := d) (x := x) hs.p1 hκ (by omega)
  have hs' := hs
  obtain ⟨s1, s2, ⟨s3, s4⟩, s5, s6, s7⟩ := hs'
  have nt : (nI t).toInt = t := nI_toInt (by omega)
  have ct : (nI t).toNatClampNeg = t := ix_nI (by omega)
  have bt : (t : Int) < 30 := by omega
  have b0 : (0 : Int) ≤ (t : Int) := by omega
  have v1 : ∀ (μ : Mem) (t : Nat) (b : Int32), vM 113 (up (up μ 122 t b) 112 15 (nI (t + 1))) = vM 113 μ := fun μ t b => by rw [vM_un (by decide), vM_un (by decide)]
  have y0 := fun μ2 => yo0 (d := d + 2) (r := r) (μ := μ2) s3
  have y1 := fun μ2 => yo1 (d := d + 2) (r := r) (μ := μ2) s3
  have p3 : ∀ (l : List Int32) (μ : Mem) t, psM μ t l 112 16 = μ 112 16 := fun l μ t => psM_at (by decide) (by omega) l μ t
  have p4 : ∀ (l : List Int32) (μ : Mem) t, vM 113 (psM μ t l) = vM 113 μ := fun l μ t => vM_congr (by funext c; exact psM_at (by decide) (by omega) l μ t)
  rw [cl_176]
  simp -implicitDefEqProofs only [u_176_0, u_176_1, u_176_2, u_176_3, u_176_4, u_176_5, cl_171, u_171_0, u_171_1, u_171_2, cl_172, u_172_0, u_172_1, u_172_2, u_172_3, u_172_4, u_172_5, cl_173, u_173_0, cl_174, u_174_0, e_iload_n, e_iload, e_lload_n, e_lload, e_aload_n, e_aload, e_istore_n, e_istore, e_astore_n, e_astore, e_lstore_n, e_lstore, e_iinc, e_iconst, e_bipush, e_sipush, e_ldc_w, e_ldc, e_ldcS, e_lconst, e_ldc2_w, e_iadd, e_isub, e_imul, e_iand, e_ixor, e_ishl, e_ishr, e_iushr, e_idiv, e_irem, e_ineg, e_i2b, e_i2s, e_i2c, e_ladd, e_lsub, e_lmul, e_land, e_lor, e_ldiv, e_lrem, e_lneg, e_lshl, e_lshr, e_lushr, e_i2l, e_l2i, e_lcmp, e_dupI, e_dupA, e_dup2, e_getI, e_getA, e_putI, e_putZ, e_getstatic, e_iaload, e_iastore, e_aaload10, e_alen10, e_aaload11, e_alen11, e_aaload12, e_alen12, e_aaload13, e_alen13, e_alen, e_invokevirtual, e_invokevirtualB, e_invokestatic, e_invokestaticB, ct_0, ct_i, ct_a, ct_l, os_0, os_s, rc_0, rc_s, sl_0, sl_i, sl_a, sl_l, simprocAttr, ix, z_em, up_eq, up_j, Nat.le_refl, true_or, or_true, true_and, and_true, and_self, or_self, beq_self_eq_true, if_true, if_false, ite_self, ca_f, ca_t, aLen, Int32.lt_iff_toInt_lt, Int32.le_iff_toInt_le, z_ite, z_iten, z_ite1, ite_not, not_true_eq_false, not_false_eq_true, false_and, and_false, false_or, or_false, b_max, b_min, b_minL, b_absL, b_ixD, b_ixH, b_copy, tk_0, tk_s, dr_0, dr_s, pu_s, pu_n, ca_0, ca_1, clr_0, clr_s, e_nop, e_goto, e_if_eq, e_if_ne, e_if_lt, e_if_ge, e_if_gt, e_if_le, e_ic_eq, e_ic_ne, e_ic_lt, e_ic_ge, e_ic_gt, e_ic_le, e_tsw, e_lsw, sw_0, sw_s, e_iret, e_zret, e_lret, e_aret, e_ret, en_0, en_n, en_i, en_a, en_l, List.getElem?_cons_zero, List.getElem?_cons_succ, List.set_cons_zero, List.set_cons_succ, len_s, List.length_nil, ne_eq, x_within, x_in, eT1, eT2, eT3, eT4, eT5, eT6, eM1, eM2, eM3, eM4, eM5, eM6, Nat.one_mul, Nat.mul_one, Nat.zero_add, s1, s2, s5, s6, nt, ct, bt, b0, up_o (show ¬ (112 : Nat) = 122 by decide), psM_n, psM_c, ← nI_succ, v1, y0, y1, p3, p4, h1]
  rfl
set_option maxHeartbeats 2000000 in
theorem ya1 {d t κ r : Nat} {k m x : Int32} {μ : Mem} (hs : SPM μ κ r k m t) (hκ : κ < 7) (ht : t ≤ 23) : cl (d + 3) 176 [vR 8 112, vI 1, vI x] μ = some (some (vI (as0 κ k x)), psM μ t (11 :: brT κ)) := by
  have h1 : cl _ 176 [Sum.inr (Sum.inr (8, 112)), vI 0, vI x] μ = _ := ya0 (d := d) (x := x) hs hκ (by omega)
  have hs' := hs
  obtain ⟨s1, s2, ⟨s3, s4⟩, s5, s6, s7⟩ := hs'
  have nt : (nI t).toInt = t := nI_toInt (by omega)
  have ct : (nI t).toNatClampNeg = t := ix_nI (by omega)
  have bt : (t : Int) < 30 := by omega
  have b0 : (0 : Int) ≤ (t : Int) := by omega
  have v1 : ∀ (μ : Mem) (t : Nat) (b : Int32), vM 113 (up (up μ 122 t b) 112 15 (nI (t + 1))) = vM 113 μ := fun μ t b => by rw [vM_un (by decide), vM_un (by decide)]
  have y0 := fun μ2 => yo0 (d := d + 3) (r := r) (μ := μ2) s3
  have y1 := fun μ2 => yo1 (d := d + 3) (r := r) (μ := μ2) s3
  have p3 : ∀ (l : List Int32) (μ : Mem) t, psM μ t l 112 16 = μ 112 16 := fun l μ t => psM_at (by decide) (by omega) l μ t
  have p4 : ∀ (l : List Int32) (μ : Mem) t, vM 113 (psM μ t l) = vM 113 μ := fun l μ t => vM_congr (by funext c; exact psM_at (by decide) (by omega) l μ t)
  rw [cl_176]
  simp -implicitDefEqProofs only [u_176_0, u_176_1, u_176_2, u_176_3, u_176_4, u_176_5, cl_171, u_171_0, u_171_1, u_171_2, cl_172, u_172_0, u_172_1, u_172_2, u_172_3, u_172_4, u_172_5, cl_173, u_173_0, cl_174, u_174_0, e_iload_n, e_iload, e_lload_n, e_lload, e_aload_n, e_aload, e_istore_n, e_istore, e_astore_n, e_astore, e_lstore_n, e_lstore, e_iinc, e_iconst, e_bipush, e_sipush, e_ldc_w, e_ldc, e_ldcS, e_lconst, e_ldc2_w, e_iadd, e_isub, e_imul, e_iand, e_ixor, e_ishl, e_ishr, e_iushr, e_idiv, e_irem, e_ineg, e_i2b, e_i2s, e_i2c, e_ladd, e_lsub, e_lmul, e_land, e_lor, e_ldiv, e_lrem, e_lneg, e_lshl, e_lshr, e_lushr, e_i2l, e_l2i, e_lcmp, e_dupI, e_dupA, e_dup2, e_getI, e_getA, e_putI, e_putZ, e_getstatic, e_iaload, e_iastore, e_aaload10, e_alen10, e_aaload11, e_alen11, e_aaload12, e_alen12, e_aaload13, e_alen13, e_alen, e_invokevirtual, e_invokevirtualB, e_invokestatic, e_invokestaticB, ct_0, ct_i, ct_a, ct_l, os_0, os_s, rc_0, rc_s, sl_0, sl_i, sl_a, sl_l, simprocAttr, ix, z_em, up_eq, up_j, Nat.le_refl, true_or, or_true, true_and, and_true, and_self, or_self, beq_self_eq_true, if_true, if_false, ite_self, ca_f, ca_t, aLen, Int32.lt_iff_toInt_lt, Int32.le_iff_toInt_le, z_ite, z_iten, z_ite1, ite_not, not_true_eq_false, not_false_eq_true, false_and, and_false, false_or, or_false, b_max, b_min, b_minL, b_absL, b_ixD, b_ixH, b_copy, tk_0, tk_s, dr_0, dr_s, pu_s, pu_n, ca_0, ca_1, clr_0, clr_s, e_nop, e_goto, e_if_eq, e_if_ne, e_if_lt, e_if_ge, e_if_gt, e_if_le, e_ic_eq, e_ic_ne, e_ic_lt, e_ic_ge, e_ic_gt, e_ic_le, e_tsw, e_lsw, sw_0, sw_s, e_iret, e_zret, e_lret, e_aret, e_ret, en_0, en_n, en_i, en_a, en_l, List.getElem?_cons_zero, List.getElem?_cons_succ, List.set_cons_zero, List.set_cons_succ, len_s, List.length_nil, ne_eq, x_within, x_in, eT1, eT2, eT3, eT4, eT5, eT6, eM1, eM2, eM3, eM4, eM5, eM6, Nat.one_mul, Nat.mul_one, Nat.zero_add, s1, s2, s5, s6, nt, ct, bt, b0, up_o (show ¬ (112 : Nat) = 122 by decide), psM_n, psM_c, ← nI_succ, v1, y0, y1, p3, p4, h1]
set_option maxHeartbeats 2000000 in
theorem ya2 {d t κ r : Nat} {k m x : Int32} {μ : Mem} (hs : SPM μ κ r k m t) (hκ : κ < 7) (ht : t ≤ 22) : cl (d + 3) 176 [vR 8 112, vI 2, vI x] μ = some (some (vI (0 - as0 κ k x)), psM μ t (30 :: 11 :: brT κ)) := by
  have h1 : cl _ 176 [Sum.inr (Sum.inr (8, 112)), vI 0, vI x] (up (up μ 122 t 30) 112 15 (nI (t + 1))) = _ := ya0 (d := d) (x := x) hs.p1 hκ (by omega)
  have hs' := hs
  obtain ⟨s1, s2, ⟨s3, s4⟩, s5, s6, s7⟩ := hs'
  have nt : (nI t).toInt = t := nI_toInt (by omega)
  have ct : (nI t).toNatClampNeg = t := ix_nI (by omega)
  have bt : (t : Int) < 30 := by omega
  have b0 : (0 : Int) ≤ (t : Int) := by omega
  have v1 : ∀ (μ : Mem) (t : Nat) (b : Int32), vM 113 (up (up μ 122 t b) 112 15 (nI (t + 1))) = vM 113 μ := fun μ t b => by rw [vM_un (by decide), vM_un (by decide)]
  have y0 := fun μ2 => yo0 (d := d + 3) (r := r) (μ := μ2) s3
  have y1 := fun μ2 => yo1 (d := d + 3) (r := r) (μ := μ2) s3
  have p3 : ∀ (l : List Int32) (μ : Mem) t, psM μ t l 112 16 = μ 112 16 := fun l μ t => psM_at (by decide) (by omega) l μ t
  have p4 : ∀ (l : List Int32) (μ : Mem) t, vM 113 (psM μ t l) = vM 113 μ := fun l μ t => vM_congr (by funext c; exact psM_at (by decide) (by omega) l μ t)
  rw [cl_176]
  simp -implicitDefEqProofs only [u_176_0, u_176_1, u_176_2, u_176_3, u_176_4, u_176_5, cl_171, u_171_0, u_171_1, u_171_2, cl_172, u_172_0, u_172_1, u_172_2, u_172_3, u_172_4, u_172_5, cl_173, u_173_0, cl_174, u_174_0, e_iload_n, e_iload, e_lload_n, e_lload, e_aload_n, e_aload, e_istore_n, e_istore, e_astore_n, e_astore, e_lstore_n, e_lstore, e_iinc, e_iconst, e_bipush, e_sipush, e_ldc_w, e_ldc, e_ldcS, e_lconst, e_ldc2_w, e_iadd, e_isub, e_imul, e_iand, e_ixor, e_ishl, e_ishr, e_iushr, e_idiv, e_irem, e_ineg, e_i2b, e_i2s, e_i2c, e_ladd, e_lsub, e_lmul, e_land, e_lor, e_ldiv, e_lrem, e_lneg, e_lshl, e_lshr, e_lushr, e_i2l, e_l2i, e_lcmp, e_dupI, e_dupA, e_dup2, e_getI, e_getA, e_putI, e_putZ, e_getstatic, e_iaload, e_iastore, e_aaload10, e_alen10, e_aaload11, e_alen11, e_aaload12, e_alen12, e_aaload13, e_alen13, e_alen, e_invokevirtual, e_invokevirtualB, e_invokestatic, e_invokestaticB, ct_0, ct_i, ct_a, ct_l, os_0, os_s, rc_0, rc_s, sl_0, sl_i, sl_a, sl_l, simprocAttr, ix, z_em, up_eq, up_j, Nat.le_refl, true_or, or_true, true_and, and_true, and_self, or_self, beq_self_eq_true, if_true, if_false, ite_self, ca_f, ca_t, aLen, Int32.lt_iff_toInt_lt, Int32.le_iff_toInt_le, z_ite, z_iten, z_ite1, ite_not, not_true_eq_false, not_false_eq_true, false_and, and_false, false_or, or_false, b_max, b_min, b_minL, b_absL, b_ixD, b_ixH, b_copy, tk_0, tk_s, dr_0, dr_s, pu_s, pu_n, ca_0, ca_1, clr_0, clr_s, e_nop, e_goto, e_if_eq, e_if_ne, e_if_lt, e_if_ge, e_if_gt, e_if_le, e_ic_eq, e_ic_ne, e_ic_lt, e_ic_ge, e_ic_gt, e_ic_le, e_tsw, e_lsw, sw_0, sw_s, e_iret, e_zret, e_lret, e_aret, e_ret, en_0, en_n, en_i, en_a, en_l, List.getElem?_cons_zero, List.getElem?_cons_succ, List.set_cons_zero, List.set_cons_succ, len_s, List.length_nil, ne_eq, x_within, x_in, eT1, eT2, eT3, eT4, eT5, eT6, eM1, eM2, eM3, eM4, eM5, eM6, Nat.one_mul, Nat.mul_one, Nat.zero_add, s1, s2, s5, s6, nt, ct, bt, b0, up_o (show ¬ (112 : Nat) = 122 by decide), psM_n, psM_c, ← nI_succ, v1, y0, y1, p3, p4, h1]
set_option maxHeartbeats 2000000 in
theorem ya3 {d t κ r : Nat} {k m x : Int32} {μ : Mem} (hs : SPM μ κ r k m t) (hκ : κ < 7) (ht : t ≤ 23) : cl (d + 3) 176 [vR 8 112, vI 3, vI x] μ = some (some (vI (as0 κ k x)), psM μ t (11 :: brT κ)) := by
  have h1 : cl _ 176 [Sum.inr (Sum.inr (8, 112)), vI 0, vI x] μ = _ := ya0 (d := d) (x := x) hs hκ (by omega)
  have hs' := hs
  obtain ⟨s1, s2, ⟨s3, s4⟩, s5, s6, s7⟩ := hs'
  have nt : (nI t).toInt = t := nI_toInt (by omega)
  have ct : (nI t).toNatClampNeg = t := ix_nI (by omega)
  have bt : (t : Int) < 30 := by omega
  have b0 : (0 : Int) ≤ (t : Int) := by omega
  have v1 : ∀ (μ : Mem) (t : Nat) (b : Int32), vM 113 (up (up μ 122 t b) 112 15 (nI (t + 1))) = vM 113 μ := fun μ t b => by rw [vM_un (by decide), vM_un (by decide)]
  have y0 := fun μ2 => yo0 (d := d + 3) (r := r) (μ := μ2) s3
  have y1 := fun μ2 => yo1 (d := d + 3) (r := r) (μ := μ2) s3
  have p3 : ∀ (l : List Int32) (μ : Mem) t, psM μ t l 112 16 = μ 112 16 := fun l μ t => psM_at (by decide) (by omega) l μ t
  have p4 : ∀ (l : List Int32) (μ : Mem) t, vM 113 (psM μ t l) = vM 113 μ := fun l μ t => vM_congr (by funext c; exact psM_at (by decide) (by omega) l μ t)
  rw [cl_176]
  simp -implicitDefEqProofs only [u_176_0, u_176_1, u_176_2, u_176_3, u_176_4, u_176_5, cl_171, u_171_0, u_171_1, u_171_2, cl_172, u_172_0, u_172_1, u_172_2, u_172_3, u_172_4, u_172_5, cl_173, u_173_0, cl_174, u_174_0, e_iload_n, e_iload, e_lload_n, e_lload, e_aload_n, e_aload, e_istore_n, e_istore, e_astore_n, e_astore, e_lstore_n, e_lstore, e_iinc, e_iconst, e_bipush, e_sipush, e_ldc_w, e_ldc, e_ldcS, e_lconst, e_ldc2_w, e_iadd, e_isub, e_imul, e_iand, e_ixor, e_ishl, e_ishr, e_iushr, e_idiv, e_irem, e_ineg, e_i2b, e_i2s, e_i2c, e_ladd, e_lsub, e_lmul, e_land, e_lor, e_ldiv, e_lrem, e_lneg, e_lshl, e_lshr, e_lushr, e_i2l, e_l2i, e_lcmp, e_dupI, e_dupA, e_dup2, e_getI, e_getA, e_putI, e_putZ, e_getstatic, e_iaload, e_iastore, e_aaload10, e_alen10, e_aaload11, e_alen11, e_aaload12, e_alen12, e_aaload13, e_alen13, e_alen, e_invokevirtual, e_invokevirtualB, e_invokestatic, e_invokestaticB, ct_0, ct_i, ct_a, ct_l, os_0, os_s, rc_0, rc_s, sl_0, sl_i, sl_a, sl_l, simprocAttr, ix, z_em, up_eq, up_j, Nat.le_refl, true_or, or_true, true_and, and_true, and_self, or_self, beq_self_eq_true, if_true, if_false, ite_self, ca_f, ca_t, aLen, Int32.lt_iff_toInt_lt, Int32.le_iff_toInt_le, z_ite, z_iten, z_ite1, ite_not, not_true_eq_false, not_false_eq_true, false_and, and_false, false_or, or_false, b_max, b_min, b_minL, b_absL, b_ixD, b_ixH, b_copy, tk_0, tk_s, dr_0, dr_s, pu_s, pu_n, ca_0, ca_1, clr_0, clr_s, e_nop, e_goto, e_if_eq, e_if_ne, e_if_lt, e_if_ge, e_if_gt, e_if_le, e_ic_eq, e_ic_ne, e_ic_lt, e_ic_ge, e_ic_gt, e_ic_le, e_tsw, e_lsw, sw_0, sw_s, e_iret, e_zret, e_lret, e_aret, e_ret, en_0, en_n, en_i, en_a, en_l, List.getElem?_cons_zero, List.getElem?_cons_succ, List.set_cons_zero, List.set_cons_succ, len_s, List.length_nil, ne_eq, x_within, x_in, eT1, eT2, eT3, eT4, eT5, eT6, eM1, eM2, eM3, eM4, eM5, eM6, Nat.one_mul, Nat.mul_one, Nat.zero_add, s1, s2, s5, s6, nt, ct, bt, b0, up_o (show ¬ (112 : Nat) = 122 by decide), psM_n, psM_c, ← nI_succ, v1, y0, y1, p3, p4, h1]
set_option maxHeartbeats 2000000 in
theorem ya4 {d t κ r : Nat} {k m x : Int32} {μ : Mem} (hs : SPM μ κ r k m t) (hκ : κ < 7) (ht : t ≤ 23) : cl (d + 4) 176 [vR 8 112, vI 4, vI x] μ = some (some (vI (as0 κ k x)), psM μ t (11 :: brT κ)) := by
  have h1 : cl _ 176 [Sum.inr (Sum.inr (8, 112)), vI 1, vI x] μ = _ := ya1 (d := d) (x := x) hs hκ (by omega)
  have hs' := hs
  obtain ⟨s1, s2, ⟨s3, s4⟩, s5, s6, s7⟩ := hs'
  have nt : (nI t).toInt = t := nI_toInt (by omega)
  have ct : (nI t).toNatClampNeg = t := ix_nI (by omega)
  have bt : (t : Int) < 30 := by omega
  have b0 : (0 : Int) ≤ (t : Int) := by omega
  have v1 : ∀ (μ : Mem) (t : Nat) (b : Int32), vM 113 (up (up μ 122 t b) 112 15 (nI (t + 1))) = vM 113 μ := fun μ t b => by rw [vM_un (by decide), vM_un (by decide)]
  have y0 := fun μ2 => yo0 (d := d + 4) (r := r) (μ := μ2) s3
  have y1 := fun μ2 => yo1 (d := d + 4) (r := r) (μ := μ2) s3
  have p3 : ∀ (l : List Int32) (μ : Mem) t, psM μ t l 112 16 = μ 112 16 := fun l μ t => psM_at (by decide) (by omega) l μ t
  have p4 : ∀ (l : List Int32) (μ : Mem) t, vM 113 (psM μ t l) = vM 113 μ := fun l μ t => vM_congr (by funext c; exact psM_at (by decide) (by omega) l μ t)
  rw [cl_176]
  simp -implicitDefEqProofs only [u_176_0, u_176_1, u_176_2, u_176_3, u_176_4, u_176_5, cl_171, u_171_0, u_171_1, u_171_2, cl_172, u_172_0, u_172_1, u_172_2, u_172_3, u_172_4, u_172_5, cl_173, u_173_0, cl_174, u_174_0, e_iload_n, e_iload, e_lload_n, e_lload, e_aload_n, e_aload, e_istore_n, e_istore, e_astore_n, e_astore, e_lstore_n, e_lstore, e_iinc, e_iconst, e_bipush, e_sipush, e_ldc_w, e_ldc, e_ldcS, e_lconst, e_ldc2_w, e_iadd, e_isub, e_imul, e_iand, e_ixor, e_ishl, e_ishr, e_iushr, e_idiv, e_irem, e_ineg, e_i2b, e_i2s, e_i2c, e_ladd, e_lsub, e_lmul, e_land, e_lor, e_ldiv, e_lrem, e_lneg, e_lshl, e_lshr, e_lushr, e_i2l, e_l2i, e_lcmp, e_dupI, e_dupA, e_dup2, e_getI, e_getA, e_putI, e_putZ, e_getstatic, e_iaload, e_iastore, e_aaload10, e_alen10, e_aaload11, e_alen11, e_aaload12, e_alen12, e_aaload13, e_alen13, e_alen, e_invokevirtual, e_invokevirtualB, e_invokestatic, e_invokestaticB, ct_0, ct_i, ct_a, ct_l, os_0, os_s, rc_0, rc_s, sl_0, sl_i, sl_a, sl_l, simprocAttr, ix, z_em, up_eq, up_j, Nat.le_refl, true_or, or_true, true_and, and_true, and_self, or_self, beq_self_eq_true, if_true, if_false, ite_self, ca_f, ca_t, aLen, Int32.lt_iff_toInt_lt, Int32.le_iff_toInt_le, z_ite, z_iten, z_ite1, ite_not, not_true_eq_false, not_false_eq_true, false_and, and_false, false_or, or_false, b_max, b_min, b_minL, b_absL, b_ixD, b_ixH, b_copy, tk_0, tk_s, dr_0, dr_s, pu_s, pu_n, ca_0, ca_1, clr_0, clr_s, e_nop, e_goto, e_if_eq, e_if_ne, e_if_lt, e_if_ge, e_if_gt, e_if_le, e_ic_eq, e_ic_ne, e_ic_lt, e_ic_ge, e_ic_gt, e_ic_le, e_tsw, e_lsw, sw_0, sw_s, e_iret, e_zret, e_lret, e_aret, e_ret, en_0, en_n, en_i, en_a, en_l, List.getElem?_cons_zero, List.getElem?_cons_succ, List.set_cons_zero, List.set_cons_succ, len_s, List.length_nil, ne_eq, x_within, x_in, eT1, eT2, eT3, eT4, eT5, eT6, eM1, eM2, eM3, eM4, eM5, eM6, Nat.one_mul, Nat.mul_one, Nat.zero_add, s1, s2, s5, s6, nt, ct, bt, b0, up_o (show ¬ (112 : Nat) = 122 by decide), psM_n, psM_c, ← nI_succ, v1, y0, y1, p3, p4, h1]
set_option maxHeartbeats 2000000 in
theorem ya5 {d t κ r : Nat} {k m x : Int32} {μ : Mem} (hs : SPM μ κ r k m t) (hκ : κ < 7) (ht : t ≤ 21) : cl (d + 4) 176 [vR 8 112, vI 5, vI x] μ = some (some (vI (0 - as0 κ k (x + 1))), psM μ t (60 :: 30 :: 11 :: brT κ)) := by
  have h1 : cl _ 176 [Sum.inr (Sum.inr (8, 112)), vI 2, vI (x + 1)] (up (up μ 122 t 60) 112 15 (nI (t + 1))) = _ := ya2 (d := d) (x := x + 1) hs.p1 hκ (by omega)
  have hs' := hs
  obtain ⟨s1, s2, ⟨s3, s4⟩, s5, s6, s7⟩ := hs'
  have nt : (nI t).toInt = t := nI_toInt (by omega)
  have ct : (nI t).toNatClampNeg = t := ix_nI (by omega)
  have bt : (t : Int) < 30 := by omega
  have b0 : (0 : Int) ≤ (t : Int) := by omega
  have v1 : ∀ (μ : Mem) (t : Nat) (b : Int32), vM 113 (up (up μ 122 t b) 112 15 (nI (t + 1))) = vM 113 μ := fun μ t b => by rw [vM_un (by decide), vM_un (by decide)]
  have y0 := fun μ2 => yo0 (d := d + 4) (r := r) (μ := μ2) s3
  have y1 := fun μ2 => yo1 (d := d + 4) (r := r) (μ := μ2) s3
  have p3 : ∀ (l : List Int32) (μ : Mem) t, psM μ t l 112 16 = μ 112 16 := fun l μ t => psM_at (by decide) (by omega) l μ t
  have p4 : ∀ (l : List Int32) (μ : Mem) t, vM 113 (psM μ t l) = vM 113 μ := fun l μ t => vM_congr (by funext c; exact psM_at (by decide) (by omega) l μ t)
  rw [cl_176]
  simp -implicitDefEqProofs only [u_176_0, u_176_1, u_176_2, u_176_3, u_176_4, u_176_5, cl_171, u_171_0, u_171_1, u_171_2, cl_172, u_172_0, u_172_1, u_172_2, u_172_3, u_172_4, u_172_5, cl_173, u_173_0, cl_174, u_174_0, e_iload_n, e_iload, e_lload_n, e_lload, e_aload_n, e_aload, e_istore_n, e_istore, e_astore_n, e_astore, e_lstore_n, e_lstore, e_iinc, e_iconst, e_bipush, e_sipush, e_ldc_w, e_ldc, e_ldcS, e_lconst, e_ldc2_w, e_iadd, e_isub, e_imul, e_iand, e_ixor, e_ishl, e_ishr, e_iushr, e_idiv, e_irem, e_ineg, e_i2b, e_i2s, e_i2c, e_ladd, e_lsub, e_lmul, e_land, e_lor, e_ldiv, e_lrem, e_lneg, e_lshl, e_lshr, e_lushr, e_i2l, e_l2i, e_lcmp, e_dupI, e_dupA, e_dup2, e_getI, e_getA, e_putI, e_putZ, e_getstatic, e_iaload, e_iastore, e_aaload10, e_alen10, e_aaload11, e_alen11, e_aaload12, e_alen12, e_aaload13, e_alen13, e_alen, e_invokevirtual, e_invokevirtualB, e_invokestatic, e_invokestaticB, ct_0, ct_i, ct_a, ct_l, os_0, os_s, rc_0, rc_s, sl_0, sl_i, sl_a, sl_l, simprocAttr, ix, z_em, up_eq, up_j, Nat.le_refl, true_or, or_true, true_and, and_true, and_self, or_self, beq_self_eq_true, if_true, if_false, ite_self, ca_f, ca_t, aLen, Int32.lt_iff_toInt_lt, Int32.le_iff_toInt_le, z_ite, z_iten, z_ite1, ite_not, not_true_eq_false, not_false_eq_true, false_and, and_false, false_or, or_false, b_max, b_min, b_minL, b_absL, b_ixD, b_ixH, b_copy, tk_0, tk_s, dr_0, dr_s, pu_s, pu_n, ca_0, ca_1, clr_0, clr_s, e_nop, e_goto, e_if_eq, e_if_ne, e_if_lt, e_if_ge, e_if_gt, e_if_le, e_ic_eq, e_ic_ne, e_ic_lt, e_ic_ge, e_ic_gt, e_ic_le, e_tsw, e_lsw, sw_0, sw_s, e_iret, e_zret, e_lret, e_aret, e_ret, en_0, en_n, en_i, en_a, en_l, List.getElem?_cons_zero, List.getElem?_cons_succ, List.set_cons_zero, List.set_cons_succ, len_s, List.length_nil, ne_eq, x_within, x_in, eT1, eT2, eT3, eT4, eT5, eT6, eM1, eM2, eM3, eM4, eM5, eM6, Nat.one_mul, Nat.mul_one, Nat.zero_add, s1, s2, s5, s6, nt, ct, bt, b0, up_o (show ¬ (112 : Nat) = 122 by decide), psM_n, psM_c, ← nI_succ, v1, y0, y1, p3, p4, h1]
set_option maxHeartbeats 2000000 in
theorem ya6 {d t κ r : Nat} {k m x : Int32} {μ : Mem} (hs : SPM μ κ r k m t) (hκ : κ < 7) (ht : t ≤ 22) : cl (d + 3) 176 [vR 8 112, vI 6, vI x] μ = some (some (vI (as0 κ k x + m)), psM μ t (71 :: 11 :: brT κ)) := by
  have h1 : cl _ 176 [Sum.inr (Sum.inr (8, 112)), vI 0, vI x] (up (up μ 122 t 71) 112 15 (nI (t + 1))) = _ := ya0 (d := d) (x := x) hs.p1 hκ (by omega)
  have hs' := hs
  obtain ⟨s1, s2, ⟨s3, s4⟩, s5, s6, s7⟩ := hs'
  have nt : (nI t).toInt = t := nI_toInt (by omega)
  have ct : (nI t).toNatClampNeg = t := ix_nI (by omega)
  have bt : (t : Int) < 30 := by omega
  have b0 : (0 : Int) ≤ (t : Int) := by omega
  have v1 : ∀ (μ : Mem) (t : Nat) (b : Int32), vM 113 (up (up μ 122 t b) 112 15 (nI (t + 1))) = vM 113 μ := fun μ t b => by rw [vM_un (by decide), vM_un (by decide)]
  have y0 := fun μ2 => yo0 (d := d + 3) (r := r) (μ := μ2) s3
  have y1 := fun μ2 => yo1 (d := d + 3) (r := r) (μ := μ2) s3
  have p3 : ∀ (l : List Int32) (μ : Mem) t, psM μ t l 112 16 = μ 112 16 := fun l μ t => psM_at (by decide) (by omega) l μ t
  have p4 : ∀ (l : List Int32) (μ : Mem) t, vM 113 (psM μ t l) = vM 113 μ := fun l μ t => vM_congr (by funext c; exact psM_at (by decide) (by omega) l μ t)
  rw [cl_176]
  simp -implicitDefEqProofs only [u_176_0, u_176_1, u_176_2, u_176_3, u_176_4, u_176_5, cl_171, u_171_0, u_171_1, u_171_2, cl_172, u_172_0, u_172_1, u_172_2, u_172_3, u_172_4, u_172_5, cl_173, u_173_0, cl_174, u_174_0, e_iload_n, e_iload, e_lload_n, e_lload, e_aload_n, e_aload, e_istore_n, e_istore, e_astore_n, e_astore, e_lstore_n, e_lstore, e_iinc, e_iconst, e_bipush, e_sipush, e_ldc_w, e_ldc, e_ldcS, e_lconst, e_ldc2_w, e_iadd, e_isub, e_imul, e_iand, e_ixor, e_ishl, e_ishr, e_iushr, e_idiv, e_irem, e_ineg, e_i2b, e_i2s, e_i2c, e_ladd, e_lsub, e_lmul, e_land, e_lor, e_ldiv, e_lrem, e_lneg, e_lshl, e_lshr, e_lushr, e_i2l, e_l2i, e_lcmp, e_dupI, e_dupA, e_dup2, e_getI, e_getA, e_putI, e_putZ, e_getstatic, e_iaload, e_iastore, e_aaload10, e_alen10, e_aaload11, e_alen11, e_aaload12, e_alen12, e_aaload13, e_alen13, e_alen, e_invokevirtual, e_invokevirtualB, e_invokestatic, e_invokestaticB, ct_0, ct_i, ct_a, ct_l, os_0, os_s, rc_0, rc_s, sl_0, sl_i, sl_a, sl_l, simprocAttr, ix, z_em, up_eq, up_j, Nat.le_refl, true_or, or_true, true_and, and_true, and_self, or_self, beq_self_eq_true, if_true, if_false, ite_self, ca_f, ca_t, aLen, Int32.lt_iff_toInt_lt, Int32.le_iff_toInt_le, z_ite, z_iten, z_ite1, ite_not, not_true_eq_false, not_false_eq_true, false_and, and_false, false_or, or_false, b_max, b_min, b_minL, b_absL, b_ixD, b_ixH, b_copy, tk_0, tk_s, dr_0, dr_s, pu_s, pu_n, ca_0, ca_1, clr_0, clr_s, e_nop, e_goto, e_if_eq, e_if_ne, e_if_lt, e_if_ge, e_if_gt, e_if_le, e_ic_eq, e_ic_ne, e_ic_lt, e_ic_ge, e_ic_gt, e_ic_le, e_tsw, e_lsw, sw_0, sw_s, e_iret, e_zret, e_lret, e_aret, e_ret, en_0, en_n, en_i, en_a, en_l, List.getElem?_cons_zero, List.getElem?_cons_succ, List.set_cons_zero, List.set_cons_succ, len_s, List.length_nil, ne_eq, x_within, x_in, eT1, eT2, eT3, eT4, eT5, eT6, eM1, eM2, eM3, eM4, eM5, eM6, Nat.one_mul, Nat.mul_one, Nat.zero_add, s1, s2, s5, s6, nt, ct, bt, b0, up_o (show ¬ (112 : Nat) = 122 by decide), psM_n, psM_c, ← nI_succ, v1, y0, y1, p3, p4, h1]
theorem yA {a : Nat} {d t κ r : Nat} {k m x : Int32} {μ : Mem} (hs : SPM μ κ r k m t) (hκ : κ < 7) (ha : a < 7) (ht : t ≤ 21) : cl (d + 4) 176 [vR 8 112, vI (nI a), vI x] μ = some (some (vI (asV κ k m x a)), psM μ t (asT κ a)) := by
  have h : a = 0 ∨ a = 1 ∨ a = 2 ∨ a = 3 ∨ a = 4 ∨ a = 5 ∨ a = 6 := by omega
  rcases h with rfl | rfl | rfl | rfl | rfl | rfl | rfl
  · exact ya0 (d := d + 2) hs hκ (by omega)
  · exact ya1 (d := d + 1) hs hκ (by omega)
  · exact ya2 (d := d + 1) hs hκ (by omega)
  · exact ya3 (d := d + 1) hs hκ (by omega)
  · exact ya4 (d := d) hs hκ (by omega)
  · exact ya5 (d := d) hs hκ (by omega)
  · exact ya6 (d := d + 1) hs hκ (by omega)
set_option maxHeartbeats 2000000 in
theorem yh0 {d t κ r : Nat} {k m x : Int32} {μ : Mem} (hs : SPM μ κ r k m t) (hκ : κ < 7) (ht : t ≤ 20) : cl (d + 4) 177 [vR 8 112, vI 0, vI x] μ = some (some (vI (ho0 κ k m x)), psM μ t (12 :: asT κ κ)) := by
  have h1 : cl _ 176 [Sum.inr (Sum.inr (8, 112)), vI (nI κ), vI x] (up (up μ 122 t 12) 112 15 (nI (t + 1))) = _ := yA (d := d) (x := x) hs.p1 hκ hκ (by omega)
  have hs' := hs
  obtain ⟨s1, s2, ⟨s3, s4⟩, s5, s6, s7⟩ := hs'
  have nt : (nI t).toInt = t := nI_toInt (by omega)
  have ct : (nI t).toNatClampNeg = t := ix_nI (by omega)
  have bt : (t : Int) < 30 := by omega
  have b0 : (0 : Int) ≤ (t : Int) := by omega
  have v1 : ∀ (μ : Mem) (t : Nat) (b : Int32), vM 113 (up (up μ 122 t b) 112 15 (nI (t + 1))) = vM 113 μ := fun μ t b => by rw [vM_un (by decide), vM_un (by decide)]
  have y0 := fun μ2 => yo0 (d := d + 4) (r := r) (μ := μ2) s3
  have y1 := fun μ2 => yo1 (d := d + 4) (r := r) (μ := μ2) s3
  have p3 : ∀ (l : List Int32) (μ : Mem) t, psM μ t l 112 16 = μ 112 16 := fun l μ t => psM_at (by decide) (by omega) l μ t
  have p4 : ∀ (l : List Int32) (μ : Mem) t, vM 113 (psM μ t l) = vM 113 μ := fun l μ t => vM_congr (by funext c; exact psM_at (by decide) (by omega) l μ t)
  rw [cl_177]
  simp -implicitDefEqProofs only [u_177_0, u_177_1, u_177_2, u_177_3, u_177_4, cl_171, u_171_0, u_171_1, u_171_2, cl_172, u_172_0, u_172_1, u_172_2, u_172_3, u_172_4, u_172_5, cl_173, u_173_0, cl_174, u_174_0, e_iload_n, e_iload, e_lload_n, e_lload, e_aload_n, e_aload, e_istore_n, e_istore, e_astore_n, e_astore, e_lstore_n, e_lstore, e_iinc, e_iconst, e_bipush, e_sipush, e_ldc_w, e_ldc, e_ldcS, e_lconst, e_ldc2_w, e_iadd, e_isub, e_imul, e_iand, e_ixor, e_ishl, e_ishr, e_iushr, e_idiv, e_irem, e_ineg, e_i2b, e_i2s, e_i2c, e_ladd, e_lsub, e_lmul, e_land, e_lor, e_ldiv, e_lrem, e_lneg, e_lshl, e_lshr, e_lushr, e_i2l, e_l2i, e_lcmp, e_dupI, e_dupA, e_dup2, e_getI, e_getA, e_putI, e_putZ, e_getstatic, e_iaload, e_iastore, e_aaload10, e_alen10, e_aaload11, e_alen11, e_aaload12, e_alen12, e_aaload13, e_alen13, e_alen, e_invokevirtual, e_invokevirtualB, e_invokestatic, e_invokestaticB, ct_0, ct_i, ct_a, ct_l, os_0, os_s, rc_0, rc_s, sl_0, sl_i, sl_a, sl_l, simprocAttr, ix, z_em, up_eq, up_j, Nat.le_refl, true_or, or_true, true_and, and_true, and_self, or_self, beq_self_eq_true, if_true, if_false, ite_self, ca_f, ca_t, aLen, Int32.lt_iff_toInt_lt, Int32.le_iff_toInt_le, z_ite, z_iten, z_ite1, ite_not, not_true_eq_false, not_false_eq_true, false_and, and_false, false_or, or_false, b_max, b_min, b_minL, b_absL, b_ixD, b_ixH, b_copy, tk_0, tk_s, dr_0, dr_s, pu_s, pu_n, ca_0, ca_1, clr_0, clr_s, e_nop, e_goto, e_if_eq, e_if_ne, e_if_lt, e_if_ge, e_if_gt, e_if_le, e_ic_eq, e_ic_ne, e_ic_lt, e_ic_ge, e_ic_gt, e_ic_le, e_tsw, e_lsw, sw_0, sw_s, e_iret, e_zret, e_lret, e_aret, e_ret, en_0, en_n, en_i, en_a, en_l, List.getElem?_cons_zero, List.getElem?_cons_succ, List.set_cons_zero, List.set_cons_succ, len_s, List.length_nil, ne_eq, x_within, x_in, eT1, eT2, eT3, eT4, eT5, eT6, eM1, eM2, eM3, eM4, eM5, eM6, Nat.one_mul, Nat.mul_one, Nat.zero_add, s1, s2, s5, s6, nt, ct, bt, b0, up_o (show ¬ (112 : Nat) = 122 by decide), psM_n, psM_c, ← nI_succ, v1, y0, y1, p3, p4, h1]
  rfl
set_option maxHeartbeats 2000000 in
theorem yh1 {d t κ r : Nat} {k m x : Int32} {μ : Mem} (hs : SPM μ κ r k m t) (hκ : κ < 7) (ht : t ≤ 20) : cl (d + 5) 177 [vR 8 112, vI 1, vI x] μ = some (some (vI (ho0 κ k m x)), psM μ t (12 :: asT κ κ)) := by
  have h1 : cl _ 177 [Sum.inr (Sum.inr (8, 112)), vI 0, vI x] μ = _ := yh0 (d := d) (x := x) hs hκ (by omega)
  have hs' := hs
  obtain ⟨s1, s2, ⟨s3, s4⟩, s5, s6, s7⟩ := hs'
  have nt : (nI t).toInt = t := nI_toInt (by omega)
  have ct : (nI t).toNatClampNeg = t := ix_nI (by omega)
  have bt : (t : Int) < 30 := by omega
  have b0 : (0 : Int) ≤ (t : Int) := by omega
  have v1 : ∀ (μ : Mem) (t : Nat) (b : Int32), vM 113 (up (up μ 122 t b) 112 15 (nI (t + 1))) = vM 113 μ := fun μ t b => by rw [vM_un (by decide), vM_un (by decide)]
  have y0 := fun μ2 => yo0 (d := d + 5) (r := r) (μ := μ2) s3
  have y1 := fun μ2 => yo1 (d := d + 5) (r := r) (μ := μ2) s3
  have p3 : ∀ (l : List Int32) (μ : Mem) t, psM μ t l 112 16 = μ 112 16 := fun l μ t => psM_at (by decide) (by omega) l μ t
  have p4 : ∀ (l : List Int32) (μ : Mem) t, vM 113 (psM μ t l) = vM 113 μ := fun l μ t => vM_congr (by funext c; exact psM_at (by decide) (by omega) l μ t)
  rw [cl_177]
  simp -implicitDefEqProofs only [u_177_0, u_177_1, u_177_2, u_177_3, u_177_4, cl_171, u_171_0, u_171_1, u_171_2, cl_172, u_172_0, u_172_1, u_172_2, u_172_3, u_172_4, u_172_5, cl_173, u_173_0, cl_174, u_174_0, e_iload_n, e_iload, e_lload_n, e_lload, e_aload_n, e_aload, e_istore_n, e_istore, e_astore_n, e_astore, e_lstore_n, e_lstore, e_iinc, e_iconst, e_bipush, e_sipush, e_ldc_w, e_ldc, e_ldcS, e_lconst, e_ldc2_w, e_iadd, e_isub, e_imul, e_iand, e_ixor, e_ishl, e_ishr, e_iushr, e_idiv, e_irem, e_ineg, e_i2b, e_i2s, e_i2c, e_ladd, e_lsub, e_lmul, e_land, e_lor, e_ldiv, e_lrem, e_lneg, e_lshl, e_lshr, e_lushr, e_i2l, e_l2i, e_lcmp, e_dupI, e_dupA, e_dup2, e_getI, e_getA, e_putI, e_putZ, e_getstatic, e_iaload, e_iastore, e_aaload10, e_alen10, e_aaload11, e_alen11, e_aaload12, e_alen12, e_aaload13, e_alen13, e_alen, e_invokevirtual, e_invokevirtualB, e_invokestatic, e_invokestaticB, ct_0, ct_i, ct_a, ct_l, os_0, os_s, rc_0, rc_s, sl_0, sl_i, sl_a, sl_l, simprocAttr, ix, z_em, up_eq, up_j, Nat.le_refl, true_or, or_true, true_and, and_true, and_self, or_self, beq_self_eq_true, if_true, if_false, ite_self, ca_f, ca_t, aLen, Int32.lt_iff_toInt_lt, Int32.le_iff_toInt_le, z_ite, z_iten, z_ite1, ite_not, not_true_eq_false, not_false_eq_true, false_and, and_false, false_or, or_false, b_max, b_min, b_minL, b_absL, b_ixD, b_ixH, b_copy, tk_0, tk_s, dr_0, dr_s, pu_s, pu_n, ca_0, ca_1, clr_0, clr_s, e_nop, e_goto, e_if_eq, e_if_ne, e_if_lt, e_if_ge, e_if_gt, e_if_le, e_ic_eq, e_ic_ne, e_ic_lt, e_ic_ge, e_ic_gt, e_ic_le, e_tsw, e_lsw, sw_0, sw_s, e_iret, e_zret, e_lret, e_aret, e_ret, en_0, en_n, en_i, en_a, en_l, List.getElem?_cons_zero, List.getElem?_cons_succ, List.set_cons_zero, List.set_cons_succ, len_s, List.length_nil, ne_eq, x_within, x_in, eT1, eT2, eT3, eT4, eT5, eT6, eM1, eM2, eM3, eM4, eM5, eM6, Nat.one_mul, Nat.mul_one, Nat.zero_add, s1, s2, s5, s6, nt, ct, bt, b0, up_o (show ¬ (112 : Nat) = 122 by decide), psM_n, psM_c, ← nI_succ, v1, y0, y1, p3, p4, h1]
set_option maxHeartbeats 2000000 in
theorem yh2 {d t κ r : Nat} {k m x : Int32} {μ : Mem} (hs : SPM μ κ r k m t) (hκ : κ < 7) (ht : t ≤ 20) : cl (d + 5) 177 [vR 8 112, vI 2, vI x] μ = some (some (vI (ho0 κ k m x)), psM μ t (12 :: asT κ κ)) := by
  have h1 : cl _ 177 [Sum.inr (Sum.inr (8, 112)), vI 0, vI x] μ = _ := yh0 (d := d) (x := x) hs hκ (by omega)
  have hs' := hs
  obtain ⟨s1, s2, ⟨s3, s4⟩, s5, s6, s7⟩ := hs'
  have nt : (nI t).toInt = t := nI_toInt (by omega)
  have ct : (nI t).toNatClampNeg = t := ix_nI (by omega)
  have bt : (t : Int) < 30 := by omega
  have b0 : (0 : Int) ≤ (t : Int) := by omega
  have v1 : ∀ (μ : Mem) (t : Nat) (b : Int32), vM 113 (up (up μ 122 t b) 112 15 (nI (t + 1))) = vM 113 μ := fun μ t b => by rw [vM_un (by decide), vM_un (by decide)]
  have y0 := fun μ2 => yo0 (d := d + 5) (r := r) (μ := μ2) s3
  have y1 := fun μ2 => yo1 (d := d + 5) (r := r) (μ := μ2) s3
  have p3 : ∀ (l : List Int32) (μ : Mem) t, psM μ t l 112 16 = μ 112 16 := fun l μ t => psM_at (by decide) (by omega) l μ t
  have p4 : ∀ (l : List Int32) (μ : Mem) t, vM 113 (psM μ t l) = vM 113 μ := fun l μ t => vM_congr (by funext c; exact psM_at (by decide) (by omega) l μ t)
  rw [cl_177]
  simp -implicitDefEqProofs only [u_177_0, u_177_1, u_177_2, u_177_3, u_177_4, cl_171, u_171_0, u_171_1, u_171_2, cl_172, u_172_0, u_172_1, u_172_2, u_172_3, u_172_4, u_172_5, cl_173, u_173_0, cl_174, u_174_0, e_iload_n, e_iload, e_lload_n, e_lload, e_aload_n, e_aload, e_istore_n, e_istore, e_astore_n, e_astore, e_lstore_n, e_lstore, e_iinc, e_iconst, e_bipush, e_sipush, e_ldc_w, e_ldc, e_ldcS, e_lconst, e_ldc2_w, e_iadd, e_isub, e_imul, e_iand, e_ixor, e_ishl, e_ishr, e_iushr, e_idiv, e_irem, e_ineg, e_i2b, e_i2s, e_i2c, e_ladd, e_lsub, e_lmul, e_land, e_lor, e_ldiv, e_lrem, e_lneg, e_lshl, e_lshr, e_lushr, e_i2l, e_l2i, e_lcmp, e_dupI, e_dupA, e_dup2, e_getI, e_getA, e_putI, e_putZ, e_getstatic, e_iaload, e_iastore, e_aaload10, e_alen10, e_aaload11, e_alen11, e_aaload12, e_alen12, e_aaload13, e_alen13, e_alen, e_invokevirtual, e_invokevirtualB, e_invokestatic, e_invokestaticB, ct_0, ct_i, ct_a, ct_l, os_0, os_s, rc_0, rc_s, sl_0, sl_i, sl_a, sl_l, simprocAttr, ix, z_em, up_eq, up_j, Nat.le_refl, true_or, or_true, true_and, and_true, and_self, or_self, beq_self_eq_true, if_true, if_false, ite_self, ca_f, ca_t, aLen, Int32.lt_iff_toInt_lt, Int32.le_iff_toInt_le, z_ite, z_iten, z_ite1, ite_not, not_true_eq_false, not_false_eq_true, false_and, and_false, false_or, or_false, b_max, b_min, b_minL, b_absL, b_ixD, b_ixH, b_copy, tk_0, tk_s, dr_0, dr_s, pu_s, pu_n, ca_0, ca_1, clr_0, clr_s, e_nop, e_goto, e_if_eq, e_if_ne, e_if_lt, e_if_ge, e_if_gt, e_if_le, e_ic_eq, e_ic_ne, e_ic_lt, e_ic_ge, e_ic_gt, e_ic_le, e_tsw, e_lsw, sw_0, sw_s, e_iret, e_zret, e_lret, e_aret, e_ret, en_0, en_n, en_i, en_a, en_l, List.getElem?_cons_zero, List.getElem?_cons_succ, List.set_cons_zero, List.set_cons_succ, len_s, List.length_nil, ne_eq, x_within, x_in, eT1, eT2, eT3, eT4, eT5, eT6, eM1, eM2, eM3, eM4, eM5, eM6, Nat.one_mul, Nat.mul_one, Nat.zero_add, s1, s2, s5, s6, nt, ct, bt, b0, up_o (show ¬ (112 : Nat) = 122 by decide), psM_n, psM_c, ← nI_succ, v1, y0, y1, p3, p4, h1]
set_option maxHeartbeats 2000000 in
theorem yh3 {d t κ r : Nat} {k m x : Int32} {μ : Mem} (hs : SPM μ κ r k m t) (hκ : κ < 7) (ht : t ≤ 19) : cl (d + 5) 177 [vR 8 112, vI 3, vI x] μ = some (some (vI (ho0 κ k m (x / 2))), psM μ t (40 :: 12 :: asT κ κ)) := by
  have h1 : cl _ 177 [Sum.inr (Sum.inr (8, 112)), vI 0, vI (x / 2)] (up (up μ 122 t 40) 112 15 (nI (t + 1))) = _ := yh0 (d := d) (x := x / 2) hs.p1 hκ (by omega)
  have hs' := hs
  obtain ⟨s1, s2, ⟨s3, s4⟩, s5, s6, s7⟩ := hs'
  have nt : (nI t).toInt = t := nI_toInt (by omega)
  have ct : (nI t).toNatClampNeg = t := ix_nI (by omega)
  have bt : (t : Int) < 30 := by omega
  have b0 : (0 : Int) ≤ (t : Int) := by omega
  have v1 : ∀ (μ : Mem) (t : Nat) (b : Int32), vM 113 (up (up μ 122 t b) 112 15 (nI (t + 1))) = vM 113 μ := fun μ t b => by rw [vM_un (by decide), vM_un (by decide)]
  have y0 := fun μ2 => yo0 (d := d + 5) (r := r) (μ := μ2) s3
  have y1 := fun μ2 => yo1 (d := d + 5) (r := r) (μ := μ2) s3
  have p3 : ∀ (l : List Int32) (μ : Mem) t, psM μ t l 112 16 = μ 112 16 := fun l μ t => psM_at (by decide) (by omega) l μ t
  have p4 : ∀ (l : List Int32) (μ : Mem) t, vM 113 (psM μ t l) = vM 113 μ := fun l μ t => vM_congr (by funext c; exact psM_at (by decide) (by omega) l μ t)
  rw [cl_177]
  simp -implicitDefEqProofs only [u_177_0, u_177_1, u_177_2, u_177_3, u_177_4, cl_171, u_171_0, u_171_1, u_171_2, cl_172, u_172_0, u_172_1, u_172_2, u_172_3, u_172_4, u_172_5, cl_173, u_173_0, cl_174, u_174_0, e_iload_n, e_iload, e_lload_n, e_lload, e_aload_n, e_aload, e_istore_n, e_istore, e_astore_n, e_astore, e_lstore_n, e_lstore, e_iinc, e_iconst, e_bipush, e_sipush, e_ldc_w, e_ldc, e_ldcS, e_lconst, e_ldc2_w, e_iadd, e_isub, e_imul, e_iand, e_ixor, e_ishl, e_ishr, e_iushr, e_idiv, e_irem, e_ineg, e_i2b, e_i2s, e_i2c, e_ladd, e_lsub, e_lmul, e_land, e_lor, e_ldiv, e_lrem, e_lneg, e_lshl, e_lshr, e_lushr, e_i2l, e_l2i, e_lcmp, e_dupI, e_dupA, e_dup2, e_getI, e_getA, e_putI, e_putZ, e_getstatic, e_iaload, e_iastore, e_aaload10, e_alen10, e_aaload11, e_alen11, e_aaload12, e_alen12, e_aaload13, e_alen13, e_alen, e_invokevirtual, e_invokevirtualB, e_invokestatic, e_invokestaticB, ct_0, ct_i, ct_a, ct_l, os_0, os_s, rc_0, rc_s, sl_0, sl_i, sl_a, sl_l, simprocAttr, ix, z_em, up_eq, up_j, Nat.le_refl, true_or, or_true, true_and, and_true, and_self, or_self, beq_self_eq_true, if_true, if_false, ite_self, ca_f, ca_t, aLen, Int32.lt_iff_toInt_lt, Int32.le_iff_toInt_le, z_ite, z_iten, z_ite1, ite_not, not_true_eq_false, not_false_eq_true, false_and, and_false, false_or, or_false, b_max, b_min, b_minL, b_absL, b_ixD, b_ixH, b_copy, tk_0, tk_s, dr_0, dr_s, pu_s, pu_n, ca_0, ca_1, clr_0, clr_s, e_nop, e_goto, e_if_eq, e_if_ne, e_if_lt, e_if_ge, e_if_gt, e_if_le, e_ic_eq, e_ic_ne, e_ic_lt, e_ic_ge, e_ic_gt, e_ic_le, e_tsw, e_lsw, sw_0, sw_s, e_iret, e_zret, e_lret, e_aret, e_ret, en_0, en_n, en_i, en_a, en_l, List.getElem?_cons_zero, List.getElem?_cons_succ, List.set_cons_zero, List.set_cons_succ, len_s, List.length_nil, ne_eq, x_within, x_in, eT1, eT2, eT3, eT4, eT5, eT6, eM1, eM2, eM3, eM4, eM5, eM6, Nat.one_mul, Nat.mul_one, Nat.zero_add, s1, s2, s5, s6, nt, ct, bt, b0, up_o (show ¬ (112 : Nat) = 122 by decide), psM_n, psM_c, ← nI_succ, v1, y0, y1, p3, p4, h1]
set_option maxHeartbeats 2000000 in
theorem yh4 {d t κ r : Nat} {k m x : Int32} {μ : Mem} (hs : SPM μ κ r k m t) (hκ : κ < 7) (ht : t ≤ 19) : cl (d + 6) 177 [vR 8 112, vI 4, vI x] μ = some (some (vI (ho0 κ k m x ^^^ k)), psM μ t (51 :: 12 :: asT κ κ)) := by
  have h1 : cl _ 177 [Sum.inr (Sum.inr (8, 112)), vI 1, vI x] (up (up μ 122 t 51) 112 15 (nI (t + 1))) = _ := yh1 (d := d) (x := x) hs.p1 hκ (by omega)
  have hs' := hs
  obtain ⟨s1, s2, ⟨s3, s4⟩, s5, s6, s7⟩ := hs'
  have nt : (nI t).toInt = t := nI_toInt (by omega)
  have ct : (nI t).toNatClampNeg = t := ix_nI (by omega)
  have bt : (t : Int) < 30 := by omega
  have b0 : (0 : Int) ≤ (t : Int) := by omega
  have v1 : ∀ (μ : Mem) (t : Nat) (b : Int32), vM 113 (up (up μ 122 t b) 112 15 (nI (t + 1))) = vM 113 μ := fun μ t b => by rw [vM_un (by decide), vM_un (by decide)]
  have y0 := fun μ2 => yo0 (d := d + 6) (r := r) (μ := μ2) s3
  have y1 := fun μ2 => yo1 (d := d + 6) (r := r) (μ := μ2) s3
  have p3 : ∀ (l : List Int32) (μ : Mem) t, psM μ t l 112 16 = μ 112 16 := fun l μ t => psM_at (by decide) (by omega) l μ t
  have p4 : ∀ (l : List Int32) (μ : Mem) t, vM 113 (psM μ t l) = vM 113 μ := fun l μ t => vM_congr (by funext c; exact psM_at (by decide) (by omega) l μ t)
  rw [cl_177]
  simp -implicitDefEqProofs only [u_177_0, u_177_1, u_177_2, u_177_3, u_177_4, cl_171, u_171_0, u_171_1, u_171_2, cl_172, u_172_0, u_172_1, u_172_2, u_172_3, u_172_4, u_172_5, cl_173, u_173_0, cl_174, u_174_0, e_iload_n, e_iload, e_lload_n, e_lload, e_aload_n, e_aload, e_istore_n, e_istore, e_astore_n, e_astore, e_lstore_n, e_lstore, e_iinc, e_iconst, e_bipush, e_sipush, e_ldc_w, e_ldc, e_ldcS, e_lconst, e_ldc2_w, e_iadd, e_isub, e_imul, e_iand, e_ixor, e_ishl, e_ishr, e_iushr, e_idiv, e_irem, e_ineg, e_i2b, e_i2s, e_i2c, e_ladd, e_lsub, e_lmul, e_land, e_lor, e_ldiv, e_lrem, e_lneg, e_lshl, e_lshr, e_lushr, e_i2l, e_l2i, e_lcmp, e_dupI, e_dupA, e_dup2, e_getI, e_getA, e_putI, e_putZ, e_getstatic, e_iaload, e_iastore, e_aaload10, e_alen10, e_aaload11, e_alen11, e_aaload12, e_alen12, e_aaload13, e_alen13, e_alen, e_invokevirtual, e_invokevirtualB, e_invokestatic, e_invokestaticB, ct_0, ct_i, ct_a, ct_l, os_0, os_s, rc_0, rc_s, sl_0, sl_i, sl_a, sl_l, simprocAttr, ix, z_em, up_eq, up_j, Nat.le_refl, true_or, or_true, true_and, and_true, and_self, or_self, beq_self_eq_true, if_true, if_false, ite_self, ca_f, ca_t, aLen, Int32.lt_iff_toInt_lt, Int32.le_iff_toInt_le, z_ite, z_iten, z_ite1, ite_not, not_true_eq_false, not_false_eq_true, false_and, and_false, false_or, or_false, b_max, b_min, b_minL, b_absL, b_ixD, b_ixH, b_copy, tk_0, tk_s, dr_0, dr_s, pu_s, pu_n, ca_0, ca_1, clr_0, clr_s, e_nop, e_goto, e_if_eq, e_if_ne, e_if_lt, e_if_ge, e_if_gt, e_if_le, e_ic_eq, e_ic_ne, e_ic_lt, e_ic_ge, e_ic_gt, e_ic_le, e_tsw, e_lsw, sw_0, sw_s, e_iret, e_zret, e_lret, e_aret, e_ret, en_0, en_n, en_i, en_a, en_l, List.getElem?_cons_zero, List.getElem?_cons_succ, List.set_cons_zero, List.set_cons_succ, len_s, List.length_nil, ne_eq, x_within, x_in, eT1, eT2, eT3, eT4, eT5, eT6, eM1, eM2, eM3, eM4, eM5, eM6, Nat.one_mul, Nat.mul_one, Nat.zero_add, s1, s2, s5, s6, nt, ct, bt, b0, up_o (show ¬ (112 : Nat) = 122 by decide), psM_n, psM_c, ← nI_succ, v1, y0, y1, p3, p4, h1, s4]
set_option maxHeartbeats 2000000 in
theorem yh5 {d t κ r : Nat} {k m x : Int32} {μ : Mem} (hs : SPM μ κ r k m t) (hκ : κ < 7) (ht : t ≤ 20) : cl (d + 6) 177 [vR 8 112, vI 5, vI x] μ = some (some (vI (ho0 κ k m x)), psM μ t (12 :: asT κ κ)) := by
  have h1 : cl _ 177 [Sum.inr (Sum.inr (8, 112)), vI 2, vI x] μ = _ := yh2 (d := d) (x := x) hs hκ (by omega)
  have hs' := hs
  obtain ⟨s1, s2, ⟨s3, s4⟩, s5, s6, s7⟩ := hs'
  have nt : (nI t).toInt = t := nI_toInt (by omega)
  have ct : (nI t).toNatClampNeg = t := ix_nI (by omega)
  have bt : (t : Int) < 30 := by omega
  have b0 : (0 : Int) ≤ (t : Int) := by omega
  have v1 : ∀ (μ : Mem) (t : Nat) (b : Int32), vM 113 (up (up μ 122 t b) 112 15 (nI (t + 1))) = vM 113 μ := fun μ t b => by rw [vM_un (by decide), vM_un (by decide)]
  have y0 := fun μ2 => yo0 (d := d + 6) (r := r) (μ := μ2) s3
  have y1 := fun μ2 => yo1 (d := d + 6) (r := r) (μ := μ2) s3
  have p3 : ∀ (l : List Int32) (μ : Mem) t, psM μ t l 112 16 = μ 112 16 := fun l μ t => psM_at (by decide) (by omega) l μ t
  have p4 : ∀ (l : List Int32) (μ : Mem) t, vM 113 (psM μ t l) = vM 113 μ := fun l μ t => vM_congr (by funext c; exact psM_at (by decide) (by omega) l μ t)
  rw [cl_177]
  simp -implicitDefEqProofs only [u_177_0, u_177_1, u_177_2, u_177_3, u_177_4, cl_171, u_171_0, u_171_1, u_171_2, cl_172, u_172_0, u_172_1, u_172_2, u_172_3, u_172_4, u_172_5, cl_173, u_173_0, cl_174, u_174_0, e_iload_n, e_iload, e_lload_n, e_lload, e_aload_n, e_aload, e_istore_n, e_istore, e_astore_n, e_astore, e_lstore_n, e_lstore, e_iinc, e_iconst, e_bipush, e_sipush, e_ldc_w, e_ldc, e_ldcS, e_lconst, e_ldc2_w, e_iadd, e_isub, e_imul, e_iand, e_ixor, e_ishl, e_ishr, e_iushr, e_idiv, e_irem, e_ineg, e_i2b, e_i2s, e_i2c, e_ladd, e_lsub, e_lmul, e_land, e_lor, e_ldiv, e_lrem, e_lneg, e_lshl, e_lshr, e_lushr, e_i2l, e_l2i, e_lcmp, e_dupI, e_dupA, e_dup2, e_getI, e_getA, e_putI, e_putZ, e_getstatic, e_iaload, e_iastore, e_aaload10, e_alen10, e_aaload11, e_alen11, e_aaload12, e_alen12, e_aaload13, e_alen13, e_alen, e_invokevirtual, e_invokevirtualB, e_invokestatic, e_invokestaticB, ct_0, ct_i, ct_a, ct_l, os_0, os_s, rc_0, rc_s, sl_0, sl_i, sl_a, sl_l, simprocAttr, ix, z_em, up_eq, up_j, Nat.le_refl, true_or, or_true, true_and, and_true, and_self, or_self, beq_self_eq_true, if_true, if_false, ite_self, ca_f, ca_t, aLen, Int32.lt_iff_toInt_lt, Int32.le_iff_toInt_le, z_ite, z_iten, z_ite1, ite_not, not_true_eq_false, not_false_eq_true, false_and, and_false, false_or, or_false, b_max, b_min, b_minL, b_absL, b_ixD, b_ixH, b_copy, tk_0, tk_s, dr_0, dr_s, pu_s, pu_n, ca_0, ca_1, clr_0, clr_s, e_nop, e_goto, e_if_eq, e_if_ne, e_if_lt, e_if_ge, e_if_gt, e_if_le, e_ic_eq, e_ic_ne, e_ic_lt, e_ic_ge, e_ic_gt, e_ic_le, e_tsw, e_lsw, sw_0, sw_s, e_iret, e_zret, e_lret, e_aret, e_ret, en_0, en_n, en_i, en_a, en_l, List.getElem?_cons_zero, List.getElem?_cons_succ, List.set_cons_zero, List.set_cons_succ, len_s, List.length_nil, ne_eq, x_within, x_in, eT1, eT2, eT3, eT4, eT5, eT6, eM1, eM2, eM3, eM4, eM5, eM6, Nat.one_mul, Nat.mul_one, Nat.zero_add, s1, s2, s5, s6, nt, ct, bt, b0, up_o (show ¬ (112 : Nat) = 122 by decide), psM_n, psM_c, ← nI_succ, v1, y0, y1, p3, p4, h1]
set_option maxHeartbeats 2000000 in
theorem yh6 {d t κ r : Nat} {k m x : Int32} {μ : Mem} (hs : SPM μ κ r k m t) (hκ : κ < 7) (ht : t ≤ 20) : cl (d + 5) 177 [vR 8 112, vI 6, vI x] μ = some (some (vI (ho0 κ k m x)), psM μ t (12 :: asT κ κ)) := by
  have h1 : cl _ 177 [Sum.inr (Sum.inr (8, 112)), vI 0, vI x] μ = _ := yh0 (d := d) (x := x) hs hκ (by omega)
  have hs' := hs
  obtain ⟨s1, s2, ⟨s3, s4⟩, s5, s6, s7⟩ := hs'
  have nt : (nI t).toInt = t := nI_toInt (by omega)
  have ct : (nI t).toNatClampNeg = t := ix_nI (by omega)
  have bt : (t : Int) < 30 := by omega
  have b0 : (0 : Int) ≤ (t : Int) := by omega
  have v1 : ∀ (μ : Mem) (t : Nat) (b : Int32), vM 113 (up (up μ 122 t b) 112 15 (nI (t + 1))) = vM 113 μ := fun μ t b => by rw [vM_un (by decide), vM_un (by decide)]
  have y0 := fun μ2 => yo0 (d := d + 5) (r := r) (μ := μ2) s3
  have y1 := fun μ2 => yo1 (d := d + 5) (r := r) (μ := μ2) s3
  have p3 : ∀ (l : List Int32) (μ : Mem) t, psM μ t l 112 16 = μ 112 16 := fun l μ t => psM_at (by decide) (by omega) l μ t
  have p4 : ∀ (l : List Int32) (μ : Mem) t, vM 113 (psM μ t l) = vM 113 μ := fun l μ t => vM_congr (by funext c; exact psM_at (by decide) (by omega) l μ t)
  rw [cl_177]
  simp -implicitDefEqProofs only [u_177_0, u_177_1, u_177_2, u_177_3, u_177_4, cl_171, u_171_0, u_171_1, u_171_2, cl_172, u_172_0, u_172_1, u_172_2, u_172_3, u_172_4, u_172_5, cl_173, u_173_0, cl_174, u_174_0, e_iload_n, e_iload, e_lload_n, e_lload, e_aload_n, e_aload, e_istore_n, e_istore, e_astore_n, e_astore, e_lstore_n, e_lstore, e_iinc, e_iconst, e_bipush, e_sipush, e_ldc_w, e_ldc, e_ldcS, e_lconst, e_ldc2_w, e_iadd, e_isub, e_imul, e_iand, e_ixor, e_ishl, e_ishr, e_iushr, e_idiv, e_irem, e_ineg, e_i2b, e_i2s, e_i2c, e_ladd, e_lsub, e_lmul, e_land, e_lor, e_ldiv, e_lrem, e_lneg, e_lshl, e_lshr, e_lushr, e_i2l, e_l2i, e_lcmp, e_dupI, e_dupA, e_dup2, e_getI, e_getA, e_putI, e_putZ, e_getstatic, e_iaload, e_iastore, e_aaload10, e_alen10, e_aaload11, e_alen11, e_aaload12, e_alen12, e_aaload13, e_alen13, e_alen, e_invokevirtual, e_invokevirtualB, e_invokestatic, e_invokestaticB, ct_0, ct_i, ct_a, ct_l, os_0, os_s, rc_0, rc_s, sl_0, sl_i, sl_a, sl_l, simprocAttr, ix, z_em, up_eq, up_j, Nat.le_refl, true_or, or_true, true_and, and_true, and_self, or_self, beq_self_eq_true, if_true, if_false, ite_self, ca_f, ca_t, aLen, Int32.lt_iff_toInt_lt, Int32.le_iff_toInt_le, z_ite, z_iten, z_ite1, ite_not, not_true_eq_false, not_false_eq_true, false_and, and_false, false_or, or_false, b_max, b_min, b_minL, b_absL, b_ixD, b_ixH, b_copy, tk_0, tk_s, dr_0, dr_s, pu_s, pu_n, ca_0, ca_1, clr_0, clr_s, e_nop, e_goto, e_if_eq, e_if_ne, e_if_lt, e_if_ge, e_if_gt, e_if_le, e_ic_eq, e_ic_ne, e_ic_lt, e_ic_ge, e_ic_gt, e_ic_le, e_tsw, e_lsw, sw_0, sw_s, e_iret, e_zret, e_lret, e_aret, e_ret, en_0, en_n, en_i, en_a, en_l, List.getElem?_cons_zero, List.getElem?_cons_succ, List.set_cons_zero, List.set_cons_succ, len_s, List.length_nil, ne_eq, x_within, x_in, eT1, eT2, eT3, eT4, eT5, eT6, eM1, eM2, eM3, eM4, eM5, eM6, Nat.one_mul, Nat.mul_one, Nat.zero_add, s1, s2, s5, s6, nt, ct, bt, b0, up_o (show ¬ (112 : Nat) = 122 by decide), psM_n, psM_c, ← nI_succ, v1, y0, y1, p3, p4, h1]
theorem yH {a : Nat} {d t κ r : Nat} {k m x : Int32} {μ : Mem} (hs : SPM μ κ r k m t) (hκ : κ < 7) (ha : a < 7) (ht : t ≤ 19) : cl (d + 6) 177 [vR 8 112, vI (nI a), vI x] μ = some (some (vI (hoV κ k m x a)), psM μ t (hoT κ a)) := by
  have h : a = 0 ∨ a = 1 ∨ a = 2 ∨ a = 3 ∨ a = 4 ∨ a = 5 ∨ a = 6 := by omega
  rcases h with rfl | rfl | rfl | rfl | rfl | rfl | rfl
  · exact yh0 (d := d + 2) hs hκ (by omega)
  · exact yh1 (d := d + 1) hs hκ (by omega)
  · exact yh2 (d := d + 1) hs hκ (by omega)
  · exact yh3 (d := d + 1) hs hκ (by omega)
  · exact yh4 (d := d) hs hκ (by omega)
  · exact yh5 (d := d) hs hκ (by omega)
  · exact yh6 (d := d + 1) hs hκ (by omega)
set_option maxHeartbeats 2000000 in
theorem yn0 {d t κ r : Nat} {k m x : Int32} {μ : Mem} (hs : SPM μ κ r k m t) (hκ : κ < 7) (hn : ¬ m - k = 0) (ht : t ≤ 26) : cl d 178 [vR 8 112, vI 0, vI x] μ = some (some (vI (x / (m - k))), psM μ t [13]) := by
  have hs' := hs
  obtain ⟨s1, s2, ⟨s3, s4⟩, s5, s6, s7⟩ := hs'
  have nt : (nI t).toInt = t := nI_toInt (by omega)
  have ct : (nI t).toNatClampNeg = t := ix_nI (by omega)
  have bt : (t : Int) < 30 := by omega
  have b0 : (0 : Int) ≤ (t : Int) := by omega
  have su : up (up (up μ 122 t 13) 112 15 (nI (t + 1))) 112 17 0 = up (up μ 122 t 13) 112 15 (nI (t + 1)) := up_self (by rw [up_j (by decide), up_o (by decide)]; exact s7)
  have v1 : ∀ (μ : Mem) (t : Nat) (b : Int32), vM 113 (up (up μ 122 t b) 112 15 (nI (t + 1))) = vM 113 μ := fun μ t b => by rw [vM_un (by decide), vM_un (by decide)]
  have y1 := fun μ2 => yo1 (d := d) (r := r) (μ := μ2) s3
  rw [s4] at hn ⊢
  rw [cl_178]
  by_cases q : m - nI r = -1
  · have e : x / (m - nI r) = -x := by rw [q]; exact i_divm
    rw [e]
    simp -implicitDefEqProofs only [u_178_0, u_178_1, u_178_2, u_178_3, u_178_4, u_178_5, u_178_6, u_178_7, u_178_8, u_178_9, u_178_10, u_178_11, u_178_12, u_178_13, u_178_14, cl_171, u_171_0, u_171_1, u_171_2, cl_172, u_172_0, u_172_1, u_172_2, u_172_3, u_172_4, u_172_5, cl_173, u_173_0, cl_174, u_174_0, e_iload_n, e_iload, e_lload_n, e_lload, e_aload_n, e_aload, e_istore_n, e_istore, e_astore_n, e_astore, e_lstore_n, e_lstore, e_iinc, e_iconst, e_bipush, e_sipush, e_ldc_w, e_ldc, e_ldcS, e_lconst, e_ldc2_w, e_iadd, e_isub, e_imul, e_iand, e_ixor, e_ishl, e_ishr, e_iushr, e_idiv, e_irem, e_ineg, e_i2b, e_i2s, e_i2c, e_ladd, e_lsub, e_lmul, e_land, e_lor, e_ldiv, e_lrem, e_lneg, e_lshl, e_lshr, e_lushr, e_i2l, e_l2i, e_lcmp, e_dupI, e_dupA, e_dup2, e_getI, e_getA, e_putI, e_putZ, e_getstatic, e_iaload, e_iastore, e_aaload10, e_alen10, e_aaload11, e_alen11, e_aaload12, e_alen12, e_aaload13, e_alen13, e_alen, e_invokevirtual, e_invokevirtualB, e_invokestatic, e_invokestaticB, ct_0, ct_i, ct_a, ct_l, os_0, os_s, rc_0, rc_s, sl_0, sl_i, sl_a, sl_l, simprocAttr, ix, z_em, up_eq, up_j, Nat.le_refl, true_or, or_true, true_and, and_true, and_self, or_self, beq_self_eq_true, if_true, if_false, ite_self, ca_f, ca_t, aLen, Int32.lt_iff_toInt_lt, Int32.le_iff_toInt_le, z_ite, z_iten, z_ite1, ite_not, not_true_eq_false, not_false_eq_true, false_and, and_false, false_or, or_false, b_max, b_min, b_minL, b_absL, b_ixD, b_ixH, b_copy, tk_0, tk_s, dr_0, dr_s, pu_s, pu_n, ca_0, ca_1, clr_0, clr_s, e_nop, e_goto, e_if_eq, e_if_ne, e_if_lt, e_if_ge, e_if_gt, e_if_le, e_ic_eq, e_ic_ne, e_ic_lt, e_ic_ge, e_ic_gt, e_ic_le, e_tsw, e_lsw, sw_0, sw_s, e_iret, e_zret, e_lret, e_aret, e_ret, en_0, en_n, en_i, en_a, en_l, List.getElem?_cons_zero, List.getElem?_cons_succ, List.set_cons_zero, List.set_cons_succ, len_s, List.length_nil, ne_eq, x_within, x_in, eT1, eT2, eT3, eT4, eT5, eT6, eM1, eM2, eM3, eM4, eM5, eM6, Nat.one_mul, Nat.mul_one, Nat.zero_add, s1, s2, s5, s6, nt, ct, bt, b0, up_o (show ¬ (112 : Nat) = 122 by decide), psM_n, psM_c, ← nI_succ, v1, y1, hn, q, su]
  · simp -implicitDefEqProofs only [u_178_0, u_178_1, u_178_2, u_178_3, u_178_4, u_178_5, u_178_6, u_178_7, u_178_8, u_178_9, u_178_10, u_178_11, u_178_12, u_178_13, u_178_14, cl_171, u_171_0, u_171_1, u_171_2, cl_172, u_172_0, u_172_1, u_172_2, u_172_3, u_172_4, u_172_5, cl_173, u_173_0, cl_174, u_174_0, e_iload_n, e_iload, e_lload_n, e_lload, e_aload_n, e_aload, e_istore_n, e_istore, e_astore_n, e_astore, e_lstore_n, e_lstore, e_iinc, e_iconst, e_bipush, e_sipush, e_ldc_w, e_ldc, e_ldcS, e_lconst, e_ldc2_w, e_iadd, e_isub, e_imul, e_iand, e_ixor, e_ishl, e_ishr, e_iushr, e_idiv, e_irem, e_ineg, e_i2b, e_i2s, e_i2c, e_ladd, e_lsub, e_lmul, e_land, e_lor, e_ldiv, e_lrem, e_lneg, e_lshl, e_lshr, e_lushr, e_i2l, e_l2i, e_lcmp, e_dupI, e_dupA, e_dup2, e_getI, e_getA, e_putI, e_putZ, e_getstatic, e_iaload, e_iastore, e_aaload10, e_alen10, e_aaload11, e_alen11, e_aaload12, e_alen12, e_aaload13, e_alen13, e_alen, e_invokevirtual, e_invokevirtualB, e_invokestatic, e_invokestaticB, ct_0, ct_i, ct_a, ct_l, os_0, os_s, rc_0, rc_s, sl_0, sl_i, sl_a, sl_l, simprocAttr, ix, z_em, up_eq, up_j, Nat.le_refl, true_or, or_true, true_and, and_true, and_self, or_self, beq_self_eq_true, if_true, if_false, ite_self, ca_f, ca_t, aLen, Int32.lt_iff_toInt_lt, Int32.le_iff_toInt_le, z_ite, z_iten, z_ite1, ite_not, not_true_eq_false, not_false_eq_true, false_and, and_false, false_or, or_false, b_max, b_min, b_minL, b_absL, b_ixD, b_ixH, b_copy, tk_0, tk_s, dr_0, dr_s, pu_s, pu_n, ca_0, ca_1, clr_0, clr_s, e_nop, e_goto, e_if_eq, e_if_ne, e_if_lt, e_if_ge, e_if_gt, e_if_le, e_ic_eq, e_ic_ne, e_ic_lt, e_ic_ge, e_ic_gt, e_ic_le, e_tsw, e_lsw, sw_0, sw_s, e_iret, e_zret, e_lret, e_aret, e_ret, en_0, en_n, en_i, en_a, en_l, List.getElem?_cons_zero, List.getElem?_cons_succ, List.set_cons_zero, List.set_cons_succ, len_s, List.length_nil, ne_eq, x_within, x_in, eT1, eT2, eT3, eT4, eT5, eT6, eM1, eM2, eM3, eM4, eM5, eM6, Nat.one_mul, Nat.mul_one, Nat.zero_add, s1, s2, s5, s6, nt, ct, bt, b0, up_o (show ¬ (112 : Nat) = 122 by decide), psM_n, psM_c, ← nI_succ, v1, y1, hn, q, su]
set_option maxHeartbeats 2000000 in
theorem yn2 {d t κ r : Nat} {k m x : Int32} {μ : Mem} (hs : SPM μ κ r k m t) (hκ : κ < 7) (hn : ¬ m - k = 0) (ht : t ≤ 26) : cl (d + 1) 178 [vR 8 112, vI 2, vI x] μ = some (some (vI (x / (m - k))), psM μ t ([13])) := by
  have h1 : cl _ 178 [Sum.inr (Sum.inr (8, 112)), vI 0, vI x] μ = _ := yn0 (d := d) (x := x) hs hκ hn (by omega)
  have hs' := hs
  obtain ⟨s1, s2, ⟨s3, s4⟩, s5, s6, s7⟩ := hs'
  have nt : (nI t).toInt = t := nI_toInt (by omega)
  have ct : (nI t).toNatClampNeg = t := ix_nI (by omega)
  have bt : (t : Int) < 30 := by omega
  have b0 : (0 : Int) ≤ (t : Int) := by omega
  have v1 : ∀ (μ : Mem) (t : Nat) (b : Int32), vM 113 (up (up μ 122 t b) 112 15 (nI (t + 1))) = vM 113 μ := fun μ t b => by rw [vM_un (by decide), vM_un (by decide)]
  have y0 := fun μ2 => yo0 (d := d + 1) (r := r) (μ := μ2) s3
  have y1 := fun μ2 => yo1 (d := d + 1) (r := r) (μ := μ2) s3
  have p3 : ∀ (l : List Int32) (μ : Mem) t, psM μ t l 112 16 = μ 112 16 := fun l μ t => psM_at (by decide) (by omega) l μ t
  have p4 : ∀ (l : List Int32) (μ : Mem) t, vM 113 (psM μ t l) = vM 113 μ := fun l μ t => vM_congr (by funext c; exact psM_at (by decide) (by omega) l μ t)
  rw [cl_178]
  simp -implicitDefEqProofs only [u_178_0, u_178_1, u_178_2, u_178_3, u_178_4, u_178_5, u_178_6, u_178_7, u_178_8, u_178_9, u_178_10, u_178_11, u_178_12, u_178_13, u_178_14, cl_171, u_171_0, u_171_1, u_171_2, cl_172, u_172_0, u_172_1, u_172_2, u_172_3, u_172_4, u_172_5, cl_173, u_173_0, cl_174, u_174_0, e_iload_n, e_iload, e_lload_n, e_lload, e_aload_n, e_aload, e_istore_n, e_istore, e_astore_n, e_astore, e_lstore_n, e_lstore, e_iinc, e_iconst, e_bipush, e_sipush, e_ldc_w, e_ldc, e_ldcS, e_lconst, e_ldc2_w, e_iadd, e_isub, e_imul, e_iand, e_ixor, e_ishl, e_ishr, e_iushr, e_idiv, e_irem, e_ineg, e_i2b, e_i2s, e_i2c, e_ladd, e_lsub, e_lmul, e_land, e_lor, e_ldiv, e_lrem, e_lneg, e_lshl, e_lshr, e_lushr, e_i2l, e_l2i, e_lcmp, e_dupI, e_dupA, e_dup2, e_getI, e_getA, e_putI, e_putZ, e_getstatic, e_iaload, e_iastore, e_aaload10, e_alen10, e_aaload11, e_alen11, e_aaload12, e_alen12, e_aaload13, e_alen13, e_alen, e_invokevirtual, e_invokevirtualB, e_invokestatic, e_invokestaticB, ct_0, ct_i, ct_a, ct_l, os_0, os_s, rc_0, rc_s, sl_0, sl_i, sl_a, sl_l, simprocAttr, ix, z_em, up_eq, up_j, Nat.le_refl, true_or, or_true, true_and, and_true, and_self, or_self, beq_self_eq_true, if_true, if_false, ite_self, ca_f, ca_t, aLen, Int32.lt_iff_toInt_lt, Int32.le_iff_toInt_le, z_ite, z_iten, z_ite1, ite_not, not_true_eq_false, not_false_eq_true, false_and, and_false, false_or, or_false, b_max, b_min, b_minL, b_absL, b_ixD, b_ixH, b_copy, tk_0, tk_s, dr_0, dr_s, pu_s, pu_n, ca_0, ca_1, clr_0, clr_s, e_nop, e_goto, e_if_eq, e_if_ne, e_if_lt, e_if_ge, e_if_gt, e_if_le, e_ic_eq, e_ic_ne, e_ic_lt, e_ic_ge, e_ic_gt, e_ic_le, e_tsw, e_lsw, sw_0, sw_s, e_iret, e_zret, e_lret, e_aret, e_ret, en_0, en_n, en_i, en_a, en_l, List.getElem?_cons_zero, List.getElem?_cons_succ, List.set_cons_zero, List.set_cons_succ, len_s, List.length_nil, ne_eq, x_within, x_in, eT1, eT2, eT3, eT4, eT5, eT6, eM1, eM2, eM3, eM4, eM5, eM6, Nat.one_mul, Nat.mul_one, Nat.zero_add, s1, s2, s5, s6, nt, ct, bt, b0, up_o (show ¬ (112 : Nat) = 122 by decide), psM_n, psM_c, ← nI_succ, v1, y0, y1, p3, p4, h1]
set_option maxHeartbeats 2000000 in
theorem yn3 {d t κ r : Nat} {k m x : Int32} {μ : Mem} (hs : SPM μ κ r k m t) (hκ : κ < 7) (hn : ¬ m - k = 0) (ht : t ≤ 26) : cl (d + 1) 178 [vR 8 112, vI 3, vI x] μ = some (some (vI (x / (m - k))), psM μ t ([13])) := by
  have h1 : cl _ 178 [Sum.inr (Sum.inr (8, 112)), vI 0, vI x] μ = _ := yn0 (d := d) (x := x) hs hκ hn (by omega)
  have hs' := hs
  obtain ⟨s1, s2, ⟨s3, s4⟩, s5, s6, s7⟩ := hs'
  have nt : (nI t).toInt = t := nI_toInt (by omega)
  have ct : (nI t).toNatClampNeg = t := ix_nI (by omega)
  have bt : (t : Int) < 30 := by omega
  have b0 : (0 : Int) ≤ (t : Int) := by omega
  have v1 : ∀ (μ : Mem) (t : Nat) (b : Int32), vM 113 (up (up μ 122 t b) 112 15 (nI (t + 1))) = vM 113 μ := fun μ t b => by rw [vM_un (by decide), vM_un (by decide)]
  have y0 := fun μ2 => yo0 (d := d + 1) (r := r) (μ := μ2) s3
  have y1 := fun μ2 => yo1 (d := d + 1) (r := r) (μ := μ2) s3
  have p3 : ∀ (l : List Int32) (μ : Mem) t, psM μ t l 112 16 = μ 112 16 := fun l μ t => psM_at (by decide) (by omega) l μ t
  have p4 : ∀ (l : List Int32) (μ : Mem) t, vM 113 (psM μ t l) = vM 113 μ := fun l μ t => vM_congr (by funext c; exact psM_at (by decide) (by omega) l μ t)
  rw [cl_178]
  simp -implicitDefEqProofs only [u_178_0, u_178_1, u_178_2, u_178_3, u_178_4, u_178_5, u_178_6, u_178_7, u_178_8, u_178_9, u_178_10, u_178_11, u_178_12, u_178_13, u_178_14, cl_171, u_171_0, u_171_1, u_171_2, cl_172, u_172_0, u_172_1, u_172_2, u_172_3, u_172_4, u_172_5, cl_173, u_173_0, cl_174, u_174_0, e_iload_n, e_iload, e_lload_n, e_lload, e_aload_n, e_aload, e_istore_n, e_istore, e_astore_n, e_astore, e_lstore_n, e_lstore, e_iinc, e_iconst, e_bipush, e_sipush, e_ldc_w, e_ldc, e_ldcS, e_lconst, e_ldc2_w, e_iadd, e_isub, e_imul, e_iand, e_ixor, e_ishl, e_ishr, e_iushr, e_idiv, e_irem, e_ineg, e_i2b, e_i2s, e_i2c, e_ladd, e_lsub, e_lmul, e_land, e_lor, e_ldiv, e_lrem, e_lneg, e_lshl, e_lshr, e_lushr, e_i2l, e_l2i, e_lcmp, e_dupI, e_dupA, e_dup2, e_getI, e_getA, e_putI, e_putZ, e_getstatic, e_iaload, e_iastore, e_aaload10, e_alen10, e_aaload11, e_alen11, e_aaload12, e_alen12, e_aaload13, e_alen13, e_alen, e_invokevirtual, e_invokevirtualB, e_invokestatic, e_invokestaticB, ct_0, ct_i, ct_a, ct_l, os_0, os_s, rc_0, rc_s, sl_0, sl_i, sl_a, sl_l, simprocAttr, ix, z_em, up_eq, up_j, Nat.le_refl, true_or, or_true, true_and, and_true, and_self, or_self, beq_self_eq_true, if_true, if_false, ite_self, ca_f, ca_t, aLen, Int32.lt_iff_toInt_lt, Int32.le_iff_toInt_le, z_ite, z_iten, z_ite1, ite_not, not_true_eq_false, not_false_eq_true, false_and, and_false, false_or, or_false, b_max, b_min, b_minL, b_absL, b_ixD, b_ixH, b_copy, tk_0, tk_s, dr_0, dr_s, pu_s, pu_n, ca_0, ca_1, clr_0, clr_s, e_nop, e_goto, e_if_eq, e_if_ne, e_if_lt, e_if_ge, e_if_gt, e_if_le, e_ic_eq, e_ic_ne, e_ic_lt, e_ic_ge, e_ic_gt, e_ic_le, e_tsw, e_lsw, sw_0, sw_s, e_iret, e_zret, e_lret, e_aret, e_ret, en_0, en_n, en_i, en_a, en_l, List.getElem?_cons_zero, List.getElem?_cons_succ, List.set_cons_zero, List.set_cons_succ, len_s, List.length_nil, ne_eq, x_within, x_in, eT1, eT2, eT3, eT4, eT5, eT6, eM1, eM2, eM3, eM4, eM5, eM6, Nat.one_mul, Nat.mul_one, Nat.zero_add, s1, s2, s5, s6, nt, ct, bt, b0, up_o (show ¬ (112 : Nat) = 122 by decide), psM_n, psM_c, ← nI_succ, v1, y0, y1, p3, p4, h1]
set_option maxHeartbeats 2000000 in
theorem yn6 {d t κ r : Nat} {k m x : Int32} {μ : Mem} (hs : SPM μ κ r k m t) (hκ : κ < 7) (hn : ¬ m - k = 0) (ht : t ≤ 26) : cl (d + 1) 178 [vR 8 112, vI 6, vI x] μ = some (some (vI (x / (m - k))), psM μ t ([13])) := by
  have h1 : cl _ 178 [Sum.inr (Sum.inr (8, 112)), vI 0, vI x] μ = _ := yn0 (d := d) (x := x) hs hκ hn (by omega)
  have hs' := hs
  obtain ⟨s1, s2, ⟨s3, s4⟩, s5, s6, s7⟩ := hs'
  have nt : (nI t).toInt = t := nI_toInt (by omega)
  have ct : (nI t).toNatClampNeg = t := ix_nI (by omega)
  have bt : (t : Int) < 30 := by omega
  have b0 : (0 : Int) ≤ (t : Int) := by omega
  have v1 : ∀ (μ : Mem) (t : Nat) (b : Int32), vM 113 (up (up μ 122 t b) 112 15 (nI (t + 1))) = vM 113 μ := fun μ t b => by rw [vM_un (by decide), vM_un (by decide)]
  have y0 := fun μ2 => yo0 (d := d + 1) (r := r) (μ := μ2) s3
  have y1 := fun μ2 => yo1 (d := d + 1) (r := r) (μ := μ2) s3
  have p3 : ∀ (l : List Int32) (μ : Mem) t, psM μ t l 112 16 = μ 112 16 := fun l μ t => psM_at (by decide) (by omega) l μ t
  have p4 : ∀ (l : List Int32) (μ : Mem) t, vM 113 (psM μ t l) = vM 113 μ := fun l μ t => vM_congr (by funext c; exact psM_at (by decide) (by omega) l μ t)
  rw [cl_178]
  simp -implicitDefEqProofs only [u_178_0, u_178_1, u_178_2, u_178_3, u_178_4, u_178_5, u_178_6, u_178_7, u_178_8, u_178_9, u_178_10, u_178_11, u_178_12, u_178_13, u_178_14, cl_171, u_171_0, u_171_1, u_171_2, cl_172, u_172_0, u_172_1, u_172_2, u_172_3, u_172_4, u_172_5, cl_173, u_173_0, cl_174, u_174_0, e_iload_n, e_iload, e_lload_n, e_lload, e_aload_n, e_aload, e_istore_n, e_istore, e_astore_n, e_astore, e_lstore_n, e_lstore, e_iinc, e_iconst, e_bipush, e_sipush, e_ldc_w, e_ldc, e_ldcS, e_lconst, e_ldc2_w, e_iadd, e_isub, e_imul, e_iand, e_ixor, e_ishl, e_ishr, e_iushr, e_idiv, e_irem, e_ineg, e_i2b, e_i2s, e_i2c, e_ladd, e_lsub, e_lmul, e_land, e_lor, e_ldiv, e_lrem, e_lneg, e_lshl, e_lshr, e_lushr, e_i2l, e_l2i, e_lcmp, e_dupI, e_dupA, e_dup2, e_getI, e_getA, e_putI, e_putZ, e_getstatic, e_iaload, e_iastore, e_aaload10, e_alen10, e_aaload11, e_alen11, e_aaload12, e_alen12, e_aaload13, e_alen13, e_alen, e_invokevirtual, e_invokevirtualB, e_invokestatic, e_invokestaticB, ct_0, ct_i, ct_a, ct_l, os_0, os_s, rc_0, rc_s, sl_0, sl_i, sl_a, sl_l, simprocAttr, ix, z_em, up_eq, up_j, Nat.le_refl, true_or, or_true, true_and, and_true, and_self, or_self, beq_self_eq_true, if_true, if_false, ite_self, ca_f, ca_t, aLen, Int32.lt_iff_toInt_lt, Int32.le_iff_toInt_le, z_ite, z_iten, z_ite1, ite_not, not_true_eq_false, not_false_eq_true, false_and, and_false, false_or, or_false, b_max, b_min, b_minL, b_absL, b_ixD, b_ixH, b_copy, tk_0, tk_s, dr_0, dr_s, pu_s, pu_n, ca_0, ca_1, clr_0, clr_s, e_nop, e_goto, e_if_eq, e_if_ne, e_if_lt, e_if_ge, e_if_gt, e_if_le, e_ic_eq, e_ic_ne, e_ic_lt, e_ic_ge, e_ic_gt, e_ic_le, e_tsw, e_lsw, sw_0, sw_s, e_iret, e_zret, e_lret, e_aret, e_ret, en_0, en_n, en_i, en_a, en_l, List.getElem?_cons_zero, List.getElem?_cons_succ, List.set_cons_zero, List.set_cons_succ, len_s, List.length_nil, ne_eq, x_within, x_in, eT1, eT2, eT3, eT4, eT5, eT6, eM1, eM2, eM3, eM4, eM5, eM6, Nat.one_mul, Nat.mul_one, Nat.zero_add, s1, s2, s5, s6, nt, ct, bt, b0, up_o (show ¬ (112 : Nat) = 122 by decide), psM_n, psM_c, ← nI_succ, v1, y0, y1, p3, p4, h1]
set_option maxHeartbeats 2000000 in
theorem yn5 {d t κ r : Nat} {k m x : Int32} {μ : Mem} (hs : SPM μ κ r k m t) (hκ : κ < 7) (hn : ¬ m - k = 0) (ht : t ≤ 26) : cl (d + 2) 178 [vR 8 112, vI 5, vI x] μ = some (some (vI (x / (m - k))), psM μ t ([13])) := by
  have h1 : cl _ 178 [Sum.inr (Sum.inr (8, 112)), vI 2, vI x] μ = _ := yn2 (d := d) (x := x) hs hκ hn (by omega)
  have hs' := hs
  obtain ⟨s1, s2, ⟨s3, s4⟩, s5, s6, s7⟩ := hs'
  have nt : (nI t).toInt = t := nI_toInt (by omega)
  have ct : (nI t).toNatClampNeg = t := ix_nI (by omega)
  have bt : (t : Int) < 30 := by omega
  have b0 : (0 : Int) ≤ (t : Int) := by omega
  have v1 : ∀ (μ : Mem) (t : Nat) (b : Int32), vM 113 (up (up μ 122 t b) 112 15 (nI (t + 1))) = vM 113 μ := fun μ t b => by rw [vM_un (by decide), vM_un (by decide)]
  have y0 := fun μ2 => yo0 (d := d + 2) (r := r) (μ := μ2) s3
  have y1 := fun μ2 => yo1 (d := d + 2) (r := r) (μ := μ2) s3
  have p3 : ∀ (l : List Int32) (μ : Mem) t, psM μ t l 112 16 = μ 112 16 := fun l μ t => psM_at (by decide) (by omega) l μ t
  have p4 : ∀ (l : List Int32) (μ : Mem) t, vM 113 (psM μ t l) = vM 113 μ := fun l μ t => vM_congr (by funext c; exact psM_at (by decide) (by omega) l μ t)
  rw [cl_178]
  simp -implicitDefEqProofs only [u_178_0, u_178_1, u_178_2, u_178_3, u_178_4, u_178_5, u_178_6, u_178_7, u_178_8, u_178_9, u_178_10, u_178_11, u_178_12, u_178_13, u_178_14, cl_171, u_171_0, u_171_1, u_171_2, cl_172, u_172_0, u_172_1, u_172_2, u_172_3, u_172_4, u_172_5, cl_173, u_173_0, cl_174, u_174_0, e_iload_n, e_iload, e_lload_n, e_lload, e_aload_n, e_aload, e_istore_n, e_istore, e_astore_n, e_astore, e_lstore_n, e_lstore, e_iinc, e_iconst, e_bipush, e_sipush, e_ldc_w, e_ldc, e_ldcS, e_lconst, e_ldc2_w, e_iadd, e_isub, e_imul, e_iand, e_ixor, e_ishl, e_ishr, e_iushr, e_idiv, e_irem, e_ineg, e_i2b, e_i2s, e_i2c, e_ladd, e_lsub, e_lmul, e_land, e_lor, e_ldiv, e_lrem, e_lneg, e_lshl, e_lshr, e_lushr, e_i2l, e_l2i, e_lcmp, e_dupI, e_dupA, e_dup2, e_getI, e_getA, e_putI, e_putZ, e_getstatic, e_iaload, e_iastore, e_aaload10, e_alen10, e_aaload11, e_alen11, e_aaload12, e_alen12, e_aaload13, e_alen13, e_alen, e_invokevirtual, e_invokevirtualB, e_invokestatic, e_invokestaticB, ct_0, ct_i, ct_a, ct_l, os_0, os_s, rc_0, rc_s, sl_0, sl_i, sl_a, sl_l, simprocAttr, ix, z_em, up_eq, up_j, Nat.le_refl, true_or, or_true, true_and, and_true, and_self, or_self, beq_self_eq_true, if_true, if_false, ite_self, ca_f, ca_t, aLen, Int32.lt_iff_toInt_lt, Int32.le_iff_toInt_le, z_ite, z_iten, z_ite1, ite_not, not_true_eq_false, not_false_eq_true, false_and, and_false, false_or, or_false, b_max, b_min, b_minL, b_absL, b_ixD, b_ixH, b_copy, tk_0, tk_s, dr_0, dr_s, pu_s, pu_n, ca_0, ca_1, clr_0, clr_s, e_nop, e_goto, e_if_eq, e_if_ne, e_if_lt, e_if_ge, e_if_gt, e_if_le, e_ic_eq, e_ic_ne, e_ic_lt, e_ic_ge, e_ic_gt, e_ic_le, e_tsw, e_lsw, sw_0, sw_s, e_iret, e_zret, e_lret, e_aret, e_ret, en_0, en_n, en_i, en_a, en_l, List.getElem?_cons_zero, List.getElem?_cons_succ, List.set_cons_zero, List.set_cons_succ, len_s, List.length_nil, ne_eq, x_within, x_in, eT1, eT2, eT3, eT4, eT5, eT6, eM1, eM2, eM3, eM4, eM5, eM6, Nat.one_mul, Nat.mul_one, Nat.zero_add, s1, s2, s5, s6, nt, ct, bt, b0, up_o (show ¬ (112 : Nat) = 122 by decide), psM_n, psM_c, ← nI_succ, v1, y0, y1, p3, p4, h1]
set_option maxHeartbeats 2000000 in
theorem yn1 {d t κ r : Nat} {k m x : Int32} {μ : Mem} (hs : SPM μ κ r k m t) (hκ : κ < 7) (hn : ¬ m - k = 0) (ht : t ≤ 18) : cl (d + 4) 178 [vR 8 112, vI 1, vI x] μ = some (some (vI (x / (m - k) + asV κ k m 1 κ)), psM μ t (21 :: 13 :: asT κ κ)) := by
  have h1 : cl _ 178 [Sum.inr (Sum.inr (8, 112)), vI 0, vI x] (up (up μ 122 t 21) 112 15 (nI (t + 1))) = _ := yn0 (d := d + 3) (x := x) hs.p1 hκ hn (by omega)
  have h2 : cl _ 176 [Sum.inr (Sum.inr (8, 112)), vI (nI κ), vI 1] (up (up (up (up μ 122 t 21) 112 15 (nI (t + 1))) 122 (t + 1) 13) 112 15 (nI (t + 1 + 1))) = _ := yA (d := d) (x := 1) hs.p1.p1 hκ hκ (by omega)
  have v2 : vM 113 (up (up (up (up μ 122 t 21) 112 15 (nI (t + 1))) 122 (t + 1) 13) 112 15 (nI (t + 1 + 1))) = vM 113 μ := by rw [vM_un (by decide), vM_un (by decide), vM_un (by decide), vM_un (by decide)]
  have hs' := hs
  obtain ⟨s1, s2, ⟨s3, s4⟩, s5, s6, s7⟩ := hs'
  have nt : (nI t).toInt = t := nI_toInt (by omega)
  have ct : (nI t).toNatClampNeg = t := ix_nI (by omega)
  have bt : (t : Int) < 30 := by omega
  have b0 : (0 : Int) ≤ (t : Int) := by omega
  have v1 : ∀ (μ : Mem) (t : Nat) (b : Int32), vM 113 (up (up μ 122 t b) 112 15 (nI (t + 1))) = vM 113 μ := fun μ t b => by rw [vM_un (by decide), vM_un (by decide)]
  have y0 := fun μ2 => yo0 (d := d + 4) (r := r) (μ := μ2) s3
  have y1 := fun μ2 => yo1 (d := d + 4) (r := r) (μ := μ2) s3
  have p3 : ∀ (l : List Int32) (μ : Mem) t, psM μ t l 112 16 = μ 112 16 := fun l μ t => psM_at (by decide) (by omega) l μ t
  have p4 : ∀ (l : List Int32) (μ : Mem) t, vM 113 (psM μ t l) = vM 113 μ := fun l μ t => vM_congr (by funext c; exact psM_at (by decide) (by omega) l μ t)
  rw [cl_178]
  simp -implicitDefEqProofs only [u_178_0, u_178_1, u_178_2, u_178_3, u_178_4, u_178_5, u_178_6, u_178_7, u_178_8, u_178_9, u_178_10, u_178_11, u_178_12, u_178_13, u_178_14, cl_171, u_171_0, u_171_1, u_171_2, cl_172, u_172_0, u_172_1, u_172_2, u_172_3, u_172_4, u_172_5, cl_173, u_173_0, cl_174, u_174_0, e_iload_n, e_iload, e_lload_n, e_lload, e_aload_n, e_aload, e_istore_n, e_istore, e_astore_n, e_astore, e_lstore_n, e_lstore, e_iinc, e_iconst, e_bipush, e_sipush, e_ldc_w, e_ldc, e_ldcS, e_lconst, e_ldc2_w, e_iadd, e_isub, e_imul, e_iand, e_ixor, e_ishl, e_ishr, e_iushr, e_idiv, e_irem, e_ineg, e_i2b, e_i2s, e_i2c, e_ladd, e_lsub, e_lmul, e_land, e_lor, e_ldiv, e_lrem, e_lneg, e_lshl, e_lshr, e_lushr, e_i2l, e_l2i, e_lcmp, e_dupI, e_dupA, e_dup2, e_getI, e_getA, e_putI, e_putZ, e_getstatic, e_iaload, e_iastore, e_aaload10, e_alen10, e_aaload11, e_alen11, e_aaload12, e_alen12, e_aaload13, e_alen13, e_alen, e_invokevirtual, e_invokevirtualB, e_invokestatic, e_invokestaticB, ct_0, ct_i, ct_a, ct_l, os_0, os_s, rc_0, rc_s, sl_0, sl_i, sl_a, sl_l, simprocAttr, ix, z_em, up_eq, up_j, Nat.le_refl, true_or, or_true, true_and, and_true, and_self, or_self, beq_self_eq_true, if_true, if_false, ite_self, ca_f, ca_t, aLen, Int32.lt_iff_toInt_lt, Int32.le_iff_toInt_le, z_ite, z_iten, z_ite1, ite_not, not_true_eq_false, not_false_eq_true, false_and, and_false, false_or, or_false, b_max, b_min, b_minL, b_absL, b_ixD, b_ixH, b_copy, tk_0, tk_s, dr_0, dr_s, pu_s, pu_n, ca_0, ca_1, clr_0, clr_s, e_nop, e_goto, e_if_eq, e_if_ne, e_if_lt, e_if_ge, e_if_gt, e_if_le, e_ic_eq, e_ic_ne, e_ic_lt, e_ic_ge, e_ic_gt, e_ic_le, e_tsw, e_lsw, sw_0, sw_s, e_iret, e_zret, e_lret, e_aret, e_ret, en_0, en_n, en_i, en_a, en_l, List.getElem?_cons_zero, List.getElem?_cons_succ, List.set_cons_zero, List.set_cons_succ, len_s, List.length_nil, ne_eq, x_within, x_in, eT1, eT2, eT3, eT4, eT5, eT6, eM1, eM2, eM3, eM4, eM5, eM6, Nat.one_mul, Nat.mul_one, Nat.zero_add, s1, s2, s5, s6, nt, ct, bt, b0, up_o (show ¬ (112 : Nat) = 122 by decide), psM_n, psM_c, ← nI_succ, v1, y0, y1, p3, p4, h1, h2, v2, s7]
set_option maxHeartbeats 2000000 in
theorem yn4 {d t κ r : Nat} {k m x : Int32} {μ : Mem} (hs : SPM μ κ r k m t) (hκ : κ < 7) (hn : ¬ m - k = 0) (ht : t ≤ 18) : cl (d + 5) 178 [vR 8 112, vI 4, vI x] μ = some (some (vI (x / (m - k) + asV κ k m 1 κ)), psM μ t (21 :: 13 :: asT κ κ)) := by
  have h1 : cl _ 178 [Sum.inr (Sum.inr (8, 112)), vI 1, vI x] μ = _ := yn1 (d := d) (x := x) hs hκ hn (by omega)
  have hs' := hs
  obtain ⟨s1, s2, ⟨s3, s4⟩, s5, s6, s7⟩ := hs'
  have nt : (nI t).toInt = t := nI_toInt (by omega)
  have ct : (nI t).toNatClampNeg = t := ix_nI (by omega)
  have bt : (t : Int) < 30 := by omega
  have b0 : (0 : Int) ≤ (t : Int) := by omega
  have v1 : ∀ (μ : Mem) (t : Nat) (b : Int32), vM 113 (up (up μ 122 t b) 112 15 (nI (t + 1))) = vM 113 μ := fun μ t b => by rw [vM_un (by decide), vM_un (by decide)]
  have y0 := fun μ2 => yo0 (d := d + 5) (r := r) (μ := μ2) s3
  have y1 := fun μ2 => yo1 (d := d + 5) (r := r) (μ := μ2) s3
  have p3 : ∀ (l : List Int32) (μ : Mem) t, psM μ t l 112 16 = μ 112 16 := fun l μ t => psM_at (by decide) (by omega) l μ t
  have p4 : ∀ (l : List Int32) (μ : Mem) t, vM 113 (psM μ t l) = vM 113 μ := fun l μ t => vM_congr (by funext c; exact psM_at (by decide) (by omega) l μ t)
  rw [cl_178]
  simp -implicitDefEqProofs only [u_178_0, u_178_1, u_178_2, u_178_3, u_178_4, u_178_5, u_178_6, u_178_7, u_178_8, u_178_9, u_178_10, u_178_11, u_178_12, u_178_13, u_178_14, cl_171, u_171_0, u_171_1, u_171_2, cl_172, u_172_0, u_172_1, u_172_2, u_172_3, u_172_4, u_172_5, cl_173, u_173_0, cl_174, u_174_0, e_iload_n, e_iload, e_lload_n, e_lload, e_aload_n, e_aload, e_istore_n, e_istore, e_astore_n, e_astore, e_lstore_n, e_lstore, e_iinc, e_iconst, e_bipush, e_sipush, e_ldc_w, e_ldc, e_ldcS, e_lconst, e_ldc2_w, e_iadd, e_isub, e_imul, e_iand, e_ixor, e_ishl, e_ishr, e_iushr, e_idiv, e_irem, e_ineg, e_i2b, e_i2s, e_i2c, e_ladd, e_lsub, e_lmul, e_land, e_lor, e_ldiv, e_lrem, e_lneg, e_lshl, e_lshr, e_lushr, e_i2l, e_l2i, e_lcmp, e_dupI, e_dupA, e_dup2, e_getI, e_getA, e_putI, e_putZ, e_getstatic, e_iaload, e_iastore, e_aaload10, e_alen10, e_aaload11, e_alen11, e_aaload12, e_alen12, e_aaload13, e_alen13, e_alen, e_invokevirtual, e_invokevirtualB, e_invokestatic, e_invokestaticB, ct_0, ct_i, ct_a, ct_l, os_0, os_s, rc_0, rc_s, sl_0, sl_i, sl_a, sl_l, simprocAttr, ix, z_em, up_eq, up_j, Nat.le_refl, true_or, or_true, true_and, and_true, and_self, or_self, beq_self_eq_true, if_true, if_false, ite_self, ca_f, ca_t, aLen, Int32.lt_iff_toInt_lt, Int32.le_iff_toInt_le, z_ite, z_iten, z_ite1, ite_not, not_true_eq_false, not_false_eq_true, false_and, and_false, false_or, or_false, b_max, b_min, b_minL, b_absL, b_ixD, b_ixH, b_copy, tk_0, tk_s, dr_0, dr_s, pu_s, pu_n, ca_0, ca_1, clr_0, clr_s, e_nop, e_goto, e_if_eq, e_if_ne, e_if_lt, e_if_ge, e_if_gt, e_if_le, e_ic_eq, e_ic_ne, e_ic_lt, e_ic_ge, e_ic_gt, e_ic_le, e_tsw, e_lsw, sw_0, sw_s, e_iret, e_zret, e_lret, e_aret, e_ret, en_0, en_n, en_i, en_a, en_l, List.getElem?_cons_zero, List.getElem?_cons_succ, List.set_cons_zero, List.set_cons_succ, len_s, List.length_nil, ne_eq, x_within, x_in, eT1, eT2, eT3, eT4, eT5, eT6, eM1, eM2, eM3, eM4, eM5, eM6, Nat.one_mul, Nat.mul_one, Nat.zero_add, s1, s2, s5, s6, nt, ct, bt, b0, up_o (show ¬ (112 : Nat) = 122 by decide), psM_n, psM_c, ← nI_succ, v1, y0, y1, p3, p4, h1]
theorem yN {a : Nat} {d t κ r : Nat} {k m x : Int32} {μ : Mem} (hs : SPM μ κ r k m t) (hκ : κ < 7) (hn : ¬ m - k = 0) (ha : a < 7) (ht : t ≤ 18) : cl (d + 5) 178 [vR 8 112, vI (nI a), vI x] μ = some (some (vI (paV κ k m x a)), psM μ t (paT κ a)) := by
  have h : a = 0 ∨ a = 1 ∨ a = 2 ∨ a = 3 ∨ a = 4 ∨ a = 5 ∨ a = 6 := by omega
  rcases h with rfl | rfl | rfl | rfl | rfl | rfl | rfl
  · exact yn0 (d := d + 5) hs hκ hn (by omega)
  · exact yn1 (d := d + 1) hs hκ hn (by omega)
  · exact yn2 (d := d + 4) hs hκ hn (by omega)
  · exact yn3 (d := d + 4) hs hκ hn (by omega)
  · exact yn4 (d := d) hs hκ hn (by omega)
  · exact yn5 (d := d + 3) hs hκ hn (by omega)
  · exact yn6 (d := d + 4) hs hκ hn (by omega)
set_option maxHeartbeats 2000000 in
theorem yp0 {d t κ r : Nat} {k m x : Int32} {μ : Mem} (hs : SPM μ κ r k m t) (hκ : κ < 7) (hp : m - k = 0) (ht : t ≤ 26) : cl d 178 [vR 8 112, vI 0, vI x] μ = some (some (vI 0), up (psM μ t [13]) 112 17 1) := by
  have hs' := hs
  obtain ⟨s1, s2, ⟨s3, s4⟩, s5, s6, s7⟩ := hs'
  have nt : (nI t).toInt = t := nI_toInt (by omega)
  have ct : (nI t).toNatClampNeg = t := ix_nI (by omega)
  have bt : (t : Int) < 30 := by omega
  have b0 : (0 : Int) ≤ (t : Int) := by omega
  have v1 : ∀ (μ : Mem) (t : Nat) (b : Int32), vM 113 (up (up μ 122 t b) 112 15 (nI (t + 1))) = vM 113 μ := fun μ t b => by rw [vM_un (by decide), vM_un (by decide)]
  have y1 := fun μ2 => yo1 (d := d) (r := r) (μ := μ2) s3
  rw [s4] at hp
  rw [cl_178]
  simp -implicitDefEqProofs only [u_178_0, u_178_1, u_178_2, u_178_3, u_178_4, u_178_5, u_178_6, u_178_7, u_178_8, u_178_9, u_178_10, u_178_11, u_178_12, u_178_13, u_178_14, cl_171, u_171_0, u_171_1, u_171_2, cl_172, u_172_0, u_172_1, u_172_2, u_172_3, u_172_4, u_172_5, cl_173, u_173_0, cl_174, u_174_0, e_iload_n, e_iload, e_lload_n, e_lload, e_aload_n, e_aload, e_istore_n, e_istore, e_astore_n, e_astore, e_lstore_n, e_lstore, e_iinc, e_iconst, e_bipush, e_sipush, e_ldc_w, e_ldc, e_ldcS, e_lconst, e_ldc2_w, e_iadd, e_isub, e_imul, e_iand, e_ixor, e_ishl, e_ishr, e_iushr, e_idiv, e_irem, e_ineg, e_i2b, e_i2s, e_i2c, e_ladd, e_lsub, e_lmul, e_land, e_lor, e_ldiv, e_lrem, e_lneg, e_lshl, e_lshr, e_lushr, e_i2l, e_l2i, e_lcmp, e_dupI, e_dupA, e_dup2, e_getI, e_getA, e_putI, e_putZ, e_getstatic, e_iaload, e_iastore, e_aaload10, e_alen10, e_aaload11, e_alen11, e_aaload12, e_alen12, e_aaload13, e_alen13, e_alen, e_invokevirtual, e_invokevirtualB, e_invokestatic, e_invokestaticB, ct_0, ct_i, ct_a, ct_l, os_0, os_s, rc_0, rc_s, sl_0, sl_i, sl_a, sl_l, simprocAttr, ix, z_em, up_eq, up_j, Nat.le_refl, true_or, or_true, true_and, and_true, and_self, or_self, beq_self_eq_true, if_true, if_false, ite_self, ca_f, ca_t, aLen, Int32.lt_iff_toInt_lt, Int32.le_iff_toInt_le, z_ite, z_iten, z_ite1, ite_not, not_true_eq_false, not_false_eq_true, false_and, and_false, false_or, or_false, b_max, b_min, b_minL, b_absL, b_ixD, b_ixH, b_copy, tk_0, tk_s, dr_0, dr_s, pu_s, pu_n, ca_0, ca_1, clr_0, clr_s, e_nop, e_goto, e_if_eq, e_if_ne, e_if_lt, e_if_ge, e_if_gt, e_if_le, e_ic_eq, e_ic_ne, e_ic_lt, e_ic_ge, e_ic_gt, e_ic_le, e_tsw, e_lsw, sw_0, sw_s, e_iret, e_zret, e_lret, e_aret, e_ret, en_0, en_n, en_i, en_a, en_l, List.getElem?_cons_zero, List.getElem?_cons_succ, List.set_cons_zero, List.set_cons_succ, len_s, List.length_nil, ne_eq, x_within, x_in, eT1, eT2, eT3, eT4, eT5, eT6, eM1, eM2, eM3, eM4, eM5, eM6, Nat.one_mul, Nat.mul_one, Nat.zero_add, s1, s2, s5, s6, nt, ct, bt, b0, up_o (show ¬ (112 : Nat) = 122 by decide), psM_n, psM_c, ← nI_succ, v1, y1, hp]
set_option maxHeartbeats 2000000 in
theorem yp2 {d t κ r : Nat} {k m x : Int32} {μ : Mem} (hs : SPM μ κ r k m t) (hκ : κ < 7) (hp : m - k = 0) (ht : t ≤ 26) : cl (d + 1) 178 [vR 8 112, vI 2, vI x] μ = some (some (vI (0)), up (psM μ t [13]) 112 17 1) := by
  have h1 : cl _ 178 [Sum.inr (Sum.inr (8, 112)), vI 0, vI x] μ = _ := yp0 (d := d) (x := x) hs hκ hp (by omega)
  have hs' := hs
  obtain ⟨s1, s2, ⟨s3, s4⟩, s5, s6, s7⟩ := hs'
  have nt : (nI t).toInt = t := nI_toInt (by omega)
  have ct : (nI t).toNatClampNeg = t := ix_nI (by omega)
  have bt : (t : Int) < 30 := by omega
  have b0 : (0 : Int) ≤ (t : Int) := by omega
  have v1 : ∀ (μ : Mem) (t : Nat) (b : Int32), vM 113 (up (up μ 122 t b) 112 15 (nI (t + 1))) = vM 113 μ := fun μ t b => by rw [vM_un (by decide), vM_un (by decide)]
  have y0 := fun μ2 => yo0 (d := d + 1) (r := r) (μ := μ2) s3
  have y1 := fun μ2 => yo1 (d := d + 1) (r := r) (μ := μ2) s3
  have p3 : ∀ (l : List Int32) (μ : Mem) t, psM μ t l 112 16 = μ 112 16 := fun l μ t => psM_at (by decide) (by omega) l μ t
  have p4 : ∀ (l : List Int32) (μ : Mem) t, vM 113 (psM μ t l) = vM 113 μ := fun l μ t => vM_congr (by funext c; exact psM_at (by decide) (by omega) l μ t)
  rw [cl_178]
  simp -implicitDefEqProofs only [u_178_0, u_178_1, u_178_2, u_178_3, u_178_4, u_178_5, u_178_6, u_178_7, u_178_8, u_178_9, u_178_10, u_178_11, u_178_12, u_178_13, u_178_14, cl_171, u_171_0, u_171_1, u_171_2, cl_172, u_172_0, u_172_1, u_172_2, u_172_3, u_172_4, u_172_5, cl_173, u_173_0, cl_174, u_174_0, e_iload_n, e_iload, e_lload_n, e_lload, e_aload_n, e_aload, e_istore_n, e_istore, e_astore_n, e_astore, e_lstore_n, e_lstore, e_iinc, e_iconst, e_bipush, e_sipush, e_ldc_w, e_ldc, e_ldcS, e_lconst, e_ldc2_w, e_iadd, e_isub, e_imul, e_iand, e_ixor, e_ishl, e_ishr, e_iushr, e_idiv, e_irem, e_ineg, e_i2b, e_i2s, e_i2c, e_ladd, e_lsub, e_lmul, e_land, e_lor, e_ldiv, e_lrem, e_lneg, e_lshl, e_lshr, e_lushr, e_i2l, e_l2i, e_lcmp, e_dupI, e_dupA, e_dup2, e_getI, e_getA, e_putI, e_putZ, e_getstatic, e_iaload, e_iastore, e_aaload10, e_alen10, e_aaload11, e_alen11, e_aaload12, e_alen12, e_aaload13, e_alen13, e_alen, e_invokevirtual, e_invokevirtualB, e_invokestatic, e_invokestaticB, ct_0, ct_i, ct_a, ct_l, os_0, os_s, rc_0, rc_s, sl_0, sl_i, sl_a, sl_l, simprocAttr, ix, z_em, up_eq, up_j, Nat.le_refl, true_or, or_true, true_and, and_true, and_self, or_self, beq_self_eq_true, if_true, if_false, ite_self, ca_f, ca_t, aLen, Int32.lt_iff_toInt_lt, Int32.le_iff_toInt_le, z_ite, z_iten, z_ite1, ite_not, not_true_eq_false, not_false_eq_true, false_and, and_false, false_or, or_false, b_max, b_min, b_minL, b_absL, b_ixD, b_ixH, b_copy, tk_0, tk_s, dr_0, dr_s, pu_s, pu_n, ca_0, ca_1, clr_0, clr_s, e_nop, e_goto, e_if_eq, e_if_ne, e_if_lt, e_if_ge, e_if_gt, e_if_le, e_ic_eq, e_ic_ne, e_ic_lt, e_ic_ge, e_ic_gt, e_ic_le, e_tsw, e_lsw, sw_0, sw_s, e_iret, e_zret, e_lret, e_aret, e_ret, en_0, en_n, en_i, en_a, en_l, List.getElem?_cons_zero, List.getElem?_cons_succ, List.set_cons_zero, List.set_cons_succ, len_s, List.length_nil, ne_eq, x_within, x_in, eT1, eT2, eT3, eT4, eT5, eT6, eM1, eM2, eM3, eM4, eM5, eM6, Nat.one_mul, Nat.mul_one, Nat.zero_add, s1, s2, s5, s6, nt, ct, bt, b0, up_o (show ¬ (112 : Nat) = 122 by decide), psM_n, psM_c, ← nI_succ, v1, y0, y1, p3, p4, h1]
set_option maxHeartbeats 2000000 in
theorem yp3 {d t κ r : Nat} {k m x : Int32} {μ : Mem} (hs : SPM μ κ r k m t) (hκ : κ < 7) (hp : m - k = 0) (ht : t ≤ 26) : cl (d + 1) 178 [vR 8 112, vI 3, vI x] μ = some (some (vI (0)), up (psM μ t [13]) 112 17 1) := by
  have h1 : cl _ 178 [Sum.inr (Sum.inr (8, 112)), vI 0, vI x] μ = _ := yp0 (d := d) (x := x) hs hκ hp (by omega)
  have hs' := hs
  obtain ⟨s1, s2, ⟨s3, s4⟩, s5, s6, s7⟩ := hs'
  have nt : (nI t).toInt = t := nI_toInt (by omega)
  have ct : (nI t).toNatClampNeg = t := ix_nI (by omega)
  have bt : (t : Int) < 30 := by omega
  have b0 : (0 : Int) ≤ (t : Int) := by omega
  have v1 : ∀ (μ : Mem) (t : Nat) (b : Int32), vM 113 (up (up μ 122 t b) 112 15 (nI (t + 1))) = vM 113 μ := fun μ t b => by rw [vM_un (by decide), vM_un (by decide)]
  have y0 := fun μ2 => yo0 (d := d + 1) (r := r) (μ := μ2) s3
  have y1 := fun μ2 => yo1 (d := d + 1) (r := r) (μ := μ2) s3
  have p3 : ∀ (l : List Int32) (μ : Mem) t, psM μ t l 112 16 = μ 112 16 := fun l μ t => psM_at (by decide) (by omega) l μ t
  have p4 : ∀ (l : List Int32) (μ : Mem) t, vM 113 (psM μ t l) = vM 113 μ := fun l μ t => vM_congr (by funext c; exact psM_at (by decide) (by omega) l μ t)
  rw [cl_178]
  simp -implicitDefEqProofs only [u_178_0, u_178_1, u_178_2, u_178_3, u_178_4, u_178_5, u_178_6, u_178_7, u_178_8, u_178_9, u_178_10, u_178_11, u_178_12, u_178_13, u_178_14, cl_171, u_171_0, u_171_1, u_171_2, cl_172, u_172_0, u_172_1, u_172_2, u_172_3, u_172_4, u_172_5, cl_173, u_173_0, cl_174, u_174_0, e_iload_n, e_iload, e_lload_n, e_lload, e_aload_n, e_aload, e_istore_n, e_istore, e_astore_n, e_astore, e_lstore_n, e_lstore, e_iinc, e_iconst, e_bipush, e_sipush, e_ldc_w, e_ldc, e_ldcS, e_lconst, e_ldc2_w, e_iadd, e_isub, e_imul, e_iand, e_ixor, e_ishl, e_ishr, e_iushr, e_idiv, e_irem, e_ineg, e_i2b, e_i2s, e_i2c, e_ladd, e_lsub, e_lmul, e_land, e_lor, e_ldiv, e_lrem, e_lneg, e_lshl, e_lshr, e_lushr, e_i2l, e_l2i, e_lcmp, e_dupI, e_dupA, e_dup2, e_getI, e_getA, e_putI, e_putZ, e_getstatic, e_iaload, e_iastore, e_aaload10, e_alen10, e_aaload11, e_alen11, e_aaload12, e_alen12, e_aaload13, e_alen13, e_alen, e_invokevirtual, e_invokevirtualB, e_invokestatic, e_invokestaticB, ct_0, ct_i, ct_a, ct_l, os_0, os_s, rc_0, rc_s, sl_0, sl_i, sl_a, sl_l, simprocAttr, ix, z_em, up_eq, up_j, Nat.le_refl, true_or, or_true, true_and, and_true, and_self, or_self, beq_self_eq_true, if_true, if_false, ite_self, ca_f, ca_t, aLen, Int32.lt_iff_toInt_lt, Int32.le_iff_toInt_le, z_ite, z_iten, z_ite1, ite_not, not_true_eq_false, not_false_eq_true, false_and, and_false, false_or, or_false, b_max, b_min, b_minL, b_absL, b_ixD, b_ixH, b_copy, tk_0, tk_s, dr_0, dr_s, pu_s, pu_n, ca_0, ca_1, clr_0, clr_s, e_nop, e_goto, e_if_eq, e_if_ne, e_if_lt, e_if_ge, e_if_gt, e_if_le, e_ic_eq, e_ic_ne, e_ic_lt, e_ic_ge, e_ic_gt, e_ic_le, e_tsw, e_lsw, sw_0, sw_s, e_iret, e_zret, e_lret, e_aret, e_ret, en_0, en_n, en_i, en_a, en_l, List.getElem?_cons_zero, List.getElem?_cons_succ, List.set_cons_zero, List.set_cons_succ, len_s, List.length_nil, ne_eq, x_within, x_in, eT1, eT2, eT3, eT4, eT5, eT6, eM1, eM2, eM3, eM4, eM5, eM6, Nat.one_mul, Nat.mul_one, Nat.zero_add, s1, s2, s5, s6, nt, ct, bt, b0, up_o (show ¬ (112 : Nat) = 122 by decide), psM_n, psM_c, ← nI_succ, v1, y0, y1, p3, p4, h1]
set_option maxHeartbeats 2000000 in
theorem yp6 {d t κ r : Nat} {k m x : Int32} {μ : Mem} (hs : SPM μ κ r k m t) (hκ : κ < 7) (hp : m - k = 0) (ht : t ≤ 26) : cl (d + 1) 178 [vR 8 112, vI 6, vI x] μ = some (some (vI (0)), up (psM μ t [13]) 112 17 1) := by
  have h1 : cl _ 178 [Sum.inr (Sum.inr (8, 112)), vI 0, vI x] μ = _ := yp0 (d := d) (x := x) hs hκ hp (by omega)
  have hs' := hs
  obtain ⟨s1, s2, ⟨s3, s4⟩, s5, s6, s7⟩ := hs'
  have nt : (nI t).toInt = t := nI_toInt (by omega)
  have ct : (nI t).toNatClampNeg = t := ix_nI (by omega)
  have bt : (t : Int) < 30 := by omega
  have b0 : (0 : Int) ≤ (t : Int) := by omega
  have v1 : ∀ (μ : Mem) (t : Nat) (b : Int32), vM 113 (up (up μ 122 t b) 112 15 (nI (t + 1))) = vM 113 μ := fun μ t b => by rw [vM_un (by decide), vM_un (by decide)]
  have y0 := fun μ2 => yo0 (d := d + 1) (r := r) (μ := μ2) s3
  have y1 := fun μ2 => yo1 (d := d + 1) (r := r) (μ := μ2) s3
  have p3 : ∀ (l : List Int32) (μ : Mem) t, psM μ t l 112 16 = μ 112 16 := fun l μ t => psM_at (by decide) (by omega) l μ t
  have p4 : ∀ (l : List Int32) (μ : Mem) t, vM 113 (psM μ t l) = vM 113 μ := fun l μ t => vM_congr (by funext c; exact psM_at (by decide) (by omega) l μ t)
  rw [cl_178]
  simp -implicitDefEqProofs only [u_178_0, u_178_1, u_178_2, u_178_3, u_178_4, u_178_5, u_178_6, u_178_7, u_178_8, u_178_9, u_178_10, u_178_11, u_178_12, u_178_13, u_178_14, cl_171, u_171_0, u_171_1, u_171_2, cl_172, u_172_0, u_172_1, u_172_2, u_172_3, u_172_4, u_172_5, cl_173, u_173_0, cl_174, u_174_0, e_iload_n, e_iload, e_lload_n, e_lload, e_aload_n, e_aload, e_istore_n, e_istore, e_astore_n, e_astore, e_lstore_n, e_lstore, e_iinc, e_iconst, e_bipush, e_sipush, e_ldc_w, e_ldc, e_ldcS, e_lconst, e_ldc2_w, e_iadd, e_isub, e_imul, e_iand, e_ixor, e_ishl, e_ishr, e_iushr, e_idiv, e_irem, e_ineg, e_i2b, e_i2s, e_i2c, e_ladd, e_lsub, e_lmul, e_land, e_lor, e_ldiv, e_lrem, e_lneg, e_lshl, e_lshr, e_lushr, e_i2l, e_l2i, e_lcmp, e_dupI, e_dupA, e_dup2, e_getI, e_getA, e_putI, e_putZ, e_getstatic, e_iaload, e_iastore, e_aaload10, e_alen10, e_aaload11, e_alen11, e_aaload12, e_alen12, e_aaload13, e_alen13, e_alen, e_invokevirtual, e_invokevirtualB, e_invokestatic, e_invokestaticB, ct_0, ct_i, ct_a, ct_l, os_0, os_s, rc_0, rc_s, sl_0, sl_i, sl_a, sl_l, simprocAttr, ix, z_em, up_eq, up_j, Nat.le_refl, true_or, or_true, true_and, and_true, and_self, or_self, beq_self_eq_true, if_true, if_false, ite_self, ca_f, ca_t, aLen, Int32.lt_iff_toInt_lt, Int32.le_iff_toInt_le, z_ite, z_iten, z_ite1, ite_not, not_true_eq_false, not_false_eq_true, false_and, and_false, false_or, or_false, b_max, b_min, b_minL, b_absL, b_ixD, b_ixH, b_copy, tk_0, tk_s, dr_0, dr_s, pu_s, pu_n, ca_0, ca_1, clr_0, clr_s, e_nop, e_goto, e_if_eq, e_if_ne, e_if_lt, e_if_ge, e_if_gt, e_if_le, e_ic_eq, e_ic_ne, e_ic_lt, e_ic_ge, e_ic_gt, e_ic_le, e_tsw, e_lsw, sw_0, sw_s, e_iret, e_zret, e_lret, e_aret, e_ret, en_0, en_n, en_i, en_a, en_l, List.getElem?_cons_zero, List.getElem?_cons_succ, List.set_cons_zero, List.set_cons_succ, len_s, List.length_nil, ne_eq, x_within, x_in, eT1, eT2, eT3, eT4, eT5, eT6, eM1, eM2, eM3, eM4, eM5, eM6, Nat.one_mul, Nat.mul_one, Nat.zero_add, s1, s2, s5, s6, nt, ct, bt, b0, up_o (show ¬ (112 : Nat) = 122 by decide), psM_n, psM_c, ← nI_succ, v1, y0, y1, p3, p4, h1]
set_option maxHeartbeats 2000000 in
theorem yp5 {d t κ r : Nat} {k m x : Int32} {μ : Mem} (hs : SPM μ κ r k m t) (hκ : κ < 7) (hp : m - k = 0) (ht : t ≤ 26) : cl (d + 2) 178 [vR 8 112, vI 5, vI x] μ = some (some (vI (0)), up (psM μ t [13]) 112 17 1) := by
  have h1 : cl _ 178 [Sum.inr (Sum.inr (8, 112)), vI 2, vI x] μ = _ := yp2 (d := d) (x := x) hs hκ hp (by omega)
  have hs' := hs
  obtain ⟨s1, s2, ⟨s3, s4⟩, s5, s6, s7⟩ := hs'
  have nt : (nI t).toInt = t := nI_toInt (by omega)
  have ct : (nI t).toNatClampNeg = t := ix_nI (by omega)
  have bt : (t : Int) < 30 := by omega
  have b0 : (0 : Int) ≤ (t : Int) := by omega
  have v1 : ∀ (μ : Mem) (t : Nat) (b : Int32), vM 113 (up (up μ 122 t b) 112 15 (nI (t + 1))) = vM 113 μ := fun μ t b => by rw [vM_un (by decide), vM_un (by decide)]
  have y0 := fun μ2 => yo0 (d := d + 2) (r := r) (μ := μ2) s3
  have y1 := fun μ2 => yo1 (d := d + 2) (r := r) (μ := μ2) s3
  have p3 : ∀ (l : List Int32) (μ : Mem) t, psM μ t l 112 16 = μ 112 16 := fun l μ t => psM_at (by decide) (by omega) l μ t
  have p4 : ∀ (l : List Int32) (μ : Mem) t, vM 113 (psM μ t l) = vM 113 μ := fun l μ t => vM_congr (by funext c; exact psM_at (by decide) (by omega) l μ t)
  rw [cl_178]
  simp -implicitDefEqProofs only [u_178_0, u_178_1, u_178_2, u_178_3, u_178_4, u_178_5, u_178_6, u_178_7, u_178_8, u_178_9, u_178_10, u_178_11, u_178_12, u_178_13, u_178_14, cl_171, u_171_0, u_171_1, u_171_2, cl_172, u_172_0, u_172_1, u_172_2, u_172_3, u_172_4, u_172_5, cl_173, u_173_0, cl_174, u_174_0, e_iload_n, e_iload, e_lload_n, e_lload, e_aload_n, e_aload, e_istore_n, e_istore, e_astore_n, e_astore, e_lstore_n, e_lstore, e_iinc, e_iconst, e_bipush, e_sipush, e_ldc_w, e_ldc, e_ldcS, e_lconst, e_ldc2_w, e_iadd, e_isub, e_imul, e_iand, e_ixor, e_ishl, e_ishr, e_iushr, e_idiv, e_irem, e_ineg, e_i2b, e_i2s, e_i2c, e_ladd, e_lsub, e_lmul, e_land, e_lor, e_ldiv, e_lrem, e_lneg, e_lshl, e_lshr, e_lushr, e_i2l, e_l2i, e_lcmp, e_dupI, e_dupA, e_dup2, e_getI, e_getA, e_putI, e_putZ, e_getstatic, e_iaload, e_iastore, e_aaload10, e_alen10, e_aaload11, e_alen11, e_aaload12, e_alen12, e_aaload13, e_alen13, e_alen, e_invokevirtual, e_invokevirtualB, e_invokestatic, e_invokestaticB, ct_0, ct_i, ct_a, ct_l, os_0, os_s, rc_0, rc_s, sl_0, sl_i, sl_a, sl_l, simprocAttr, ix, z_em, up_eq, up_j, Nat.le_refl, true_or, or_true, true_and, and_true, and_self, or_self, beq_self_eq_true, if_true, if_false, ite_self, ca_f, ca_t, aLen, Int32.lt_iff_toInt_lt, Int32.le_iff_toInt_le, z_ite, z_iten, z_ite1, ite_not, not_true_eq_false, not_false_eq_true, false_and, and_false, false_or, or_false, b_max, b_min, b_minL, b_absL, b_ixD, b_ixH, b_copy, tk_0, tk_s, dr_0, dr_s, pu_s, pu_n, ca_0, ca_1, clr_0, clr_s, e_nop, e_goto, e_if_eq, e_if_ne, e_if_lt, e_if_ge, e_if_gt, e_if_le, e_ic_eq, e_ic_ne, e_ic_lt, e_ic_ge, e_ic_gt, e_ic_le, e_tsw, e_lsw, sw_0, sw_s, e_iret, e_zret, e_lret, e_aret, e_ret, en_0, en_n, en_i, en_a, en_l, List.getElem?_cons_zero, List.getElem?_cons_succ, List.set_cons_zero, List.set_cons_succ, len_s, List.length_nil, ne_eq, x_within, x_in, eT1, eT2, eT3, eT4, eT5, eT6, eM1, eM2, eM3, eM4, eM5, eM6, Nat.one_mul, Nat.mul_one, Nat.zero_add, s1, s2, s5, s6, nt, ct, bt, b0, up_o (show ¬ (112 : Nat) = 122 by decide), psM_n, psM_c, ← nI_succ, v1, y0, y1, p3, p4, h1]
set_option maxHeartbeats 2000000 in
theorem yp1 {d t κ r : Nat} {k m x : Int32} {μ : Mem} (hs : SPM μ κ r k m t) (hκ : κ < 7) (hp : m - k = 0) (ht : t ≤ 18) : cl (d + 1) 178 [vR 8 112, vI 1, vI x] μ = some (some (vI (0)), up (psM μ t [21, 13]) 112 17 1) := by
  have h1 : cl _ 178 [Sum.inr (Sum.inr (8, 112)), vI 0, vI x] (up (up μ 122 t 21) 112 15 (nI (t + 1))) = _ := yp0 (d := d) (x := x) hs.p1 hκ hp (by omega)
  have hs' := hs
  obtain ⟨s1, s2, ⟨s3, s4⟩, s5, s6, s7⟩ := hs'
  have nt : (nI t).toInt = t := nI_toInt (by omega)
  have ct : (nI t).toNatClampNeg = t := ix_nI (by omega)
  have bt : (t : Int) < 30 := by omega
  have b0 : (0 : Int) ≤ (t : Int) := by omega
  have v1 : ∀ (μ : Mem) (t : Nat) (b : Int32), vM 113 (up (up μ 122 t b) 112 15 (nI (t + 1))) = vM 113 μ := fun μ t b => by rw [vM_un (by decide), vM_un (by decide)]
  have y0 := fun μ2 => yo0 (d := d + 1) (r := r) (μ := μ2) s3
  have y1 := fun μ2 => yo1 (d := d + 1) (r := r) (μ := μ2) s3
  have p3 : ∀ (l : List Int32) (μ : Mem) t, psM μ t l 112 16 = μ 112 16 := fun l μ t => psM_at (by decide) (by omega) l μ t
  have p4 : ∀ (l : List Int32) (μ : Mem) t, vM 113 (psM μ t l) = vM 113 μ := fun l μ t => vM_congr (by funext c; exact psM_at (by decide) (by omega) l μ t)
  rw [cl_178]
  simp -implicitDefEqProofs only [u_178_0, u_178_1, u_178_2, u_178_3, u_178_4, u_178_5, u_178_6, u_178_7, u_178_8, u_178_9, u_178_10, u_178_11, u_178_12, u_178_13, u_178_14, cl_171, u_171_0, u_171_1, u_171_2, cl_172, u_172_0, u_172_1, u_172_2, u_172_3, u_172_4, u_172_5, cl_173, u_173_0, cl_174, u_174_0, e_iload_n, e_iload, e_lload_n, e_lload, e_aload_n, e_aload, e_istore_n, e_istore, e_astore_n, e_astore, e_lstore_n, e_lstore, e_iinc, e_iconst, e_bipush, e_sipush, e_ldc_w, e_ldc, e_ldcS, e_lconst, e_ldc2_w, e_iadd, e_isub, e_imul, e_iand, e_ixor, e_ishl, e_ishr, e_iushr, e_idiv, e_irem, e_ineg, e_i2b, e_i2s, e_i2c, e_ladd, e_lsub, e_lmul, e_land, e_lor, e_ldiv, e_lrem, e_lneg, e_lshl, e_lshr, e_lushr, e_i2l, e_l2i, e_lcmp, e_dupI, e_dupA, e_dup2, e_getI, e_getA, e_putI, e_putZ, e_getstatic, e_iaload, e_iastore, e_aaload10, e_alen10, e_aaload11, e_alen11, e_aaload12, e_alen12, e_aaload13, e_alen13, e_alen, e_invokevirtual, e_invokevirtualB, e_invokestatic, e_invokestaticB, ct_0, ct_i, ct_a, ct_l, os_0, os_s, rc_0, rc_s, sl_0, sl_i, sl_a, sl_l, simprocAttr, ix, z_em, up_eq, up_j, Nat.le_refl, true_or, or_true, true_and, and_true, and_self, or_self, beq_self_eq_true, if_true, if_false, ite_self, ca_f, ca_t, aLen, Int32.lt_iff_toInt_lt, Int32.le_iff_toInt_le, z_ite, z_iten, z_ite1, ite_not, not_true_eq_false, not_false_eq_true, false_and, and_false, false_or, or_false, b_max, b_min, b_minL, b_absL, b_ixD, b_ixH, b_copy, tk_0, tk_s, dr_0, dr_s, pu_s, pu_n, ca_0, ca_1, clr_0, clr_s, e_nop, e_goto, e_if_eq, e_if_ne, e_if_lt, e_if_ge, e_if_gt, e_if_le, e_ic_eq, e_ic_ne, e_ic_lt, e_ic_ge, e_ic_gt, e_ic_le, e_tsw, e_lsw, sw_0, sw_s, e_iret, e_zret, e_lret, e_aret, e_ret, en_0, en_n, en_i, en_a, en_l, List.getElem?_cons_zero, List.getElem?_cons_succ, List.set_cons_zero, List.set_cons_succ, len_s, List.length_nil, ne_eq, x_within, x_in, eT1, eT2, eT3, eT4, eT5, eT6, eM1, eM2, eM3, eM4, eM5, eM6, Nat.one_mul, Nat.mul_one, Nat.zero_add, s1, s2, s5, s6, nt, ct, bt, b0, up_o (show ¬ (112 : Nat) = 122 by decide), psM_n, psM_c, ← nI_succ, v1, y0, y1, p3, p4, h1]
set_option maxHeartbeats 2000000 in
theorem yp4 {d t κ r : Nat} {k m x : Int32} {μ : Mem} (hs : SPM μ κ r k m t) (hκ : κ < 7) (hp : m - k = 0) (ht : t ≤ 18) : cl (d + 2) 178 [vR 8 112, vI 4, vI x] μ = some (some (vI (0)), up (psM μ t [21, 13]) 112 17 1) := by
  have h1 : cl _ 178 [Sum.inr (Sum.inr (8, 112)), vI 1, vI x] μ = _ := yp1 (d := d) (x := x) hs hκ hp (by omega)
  have hs' := hs
  obtain ⟨s1, s2, ⟨s3, s4⟩, s5, s6, s7⟩ := hs'
  have nt : (nI t).toInt = t := nI_toInt (by omega)
  have ct : (nI t).toNatClampNeg = t := ix_nI (by omega)
  have bt : (t : Int) < 30 := by omega
  have b0 : (0 : Int) ≤ (t : Int) := by omega
  have v1 : ∀ (μ : Mem) (t : Nat) (b : Int32), vM 113 (up (up μ 122 t b) 112 15 (nI (t + 1))) = vM 113 μ := fun μ t b => by rw [vM_un (by decide), vM_un (by decide)]
  have y0 := fun μ2 => yo0 (d := d + 2) (r := r) (μ := μ2) s3
  have y1 := fun μ2 => yo1 (d := d + 2) (r := r) (μ := μ2) s3
  have p3 : ∀ (l : List Int32) (μ : Mem) t, psM μ t l 112 16 = μ 112 16 := fun l μ t => psM_at (by decide) (by omega) l μ t
  have p4 : ∀ (l : List Int32) (μ : Mem) t, vM 113 (psM μ t l) = vM 113 μ := fun l μ t => vM_congr (by funext c; exact psM_at (by decide) (by omega) l μ t)
  rw [cl_178]
  simp -implicitDefEqProofs only [u_178_0, u_178_1, u_178_2, u_178_3, u_178_4, u_178_5, u_178_6, u_178_7, u_178_8, u_178_9, u_178_10, u_178_11, u_178_12, u_178_13, u_178_14, cl_171, u_171_0, u_171_1, u_171_2, cl_172, u_172_0, u_172_1, u_172_2, u_172_3, u_172_4, u_172_5, cl_173, u_173_0, cl_174, u_174_0, e_iload_n, e_iload, e_lload_n, e_lload, e_aload_n, e_aload, e_istore_n, e_istore, e_astore_n, e_astore, e_lstore_n, e_lstore, e_iinc, e_iconst, e_bipush, e_sipush, e_ldc_w, e_ldc, e_ldcS, e_lconst, e_ldc2_w, e_iadd, e_isub, e_imul, e_iand, e_ixor, e_ishl, e_ishr, e_iushr, e_idiv, e_irem, e_ineg, e_i2b, e_i2s, e_i2c, e_ladd, e_lsub, e_lmul, e_land, e_lor, e_ldiv, e_lrem, e_lneg, e_lshl, e_lshr, e_lushr, e_i2l, e_l2i, e_lcmp, e_dupI, e_dupA, e_dup2, e_getI, e_getA, e_putI, e_putZ, e_getstatic, e_iaload, e_iastore, e_aaload10, e_alen10, e_aaload11, e_alen11, e_aaload12, e_alen12, e_aaload13, e_alen13, e_alen, e_invokevirtual, e_invokevirtualB, e_invokestatic, e_invokestaticB, ct_0, ct_i, ct_a, ct_l, os_0, os_s, rc_0, rc_s, sl_0, sl_i, sl_a, sl_l, simprocAttr, ix, z_em, up_eq, up_j, Nat.le_refl, true_or, or_true, true_and, and_true, and_self, or_self, beq_self_eq_true, if_true, if_false, ite_self, ca_f, ca_t, aLen, Int32.lt_iff_toInt_lt, Int32.le_iff_toInt_le, z_ite, z_iten, z_ite1, ite_not, not_true_eq_false, not_false_eq_true, false_and, and_false, false_or, or_false, b_max, b_min, b_minL, b_absL, b_ixD, b_ixH, b_copy, tk_0, tk_s, dr_0, dr_s, pu_s, pu_n, ca_0, ca_1, clr_0, clr_s, e_nop, e_goto, e_if_eq, e_if_ne, e_if_lt, e_if_ge, e_if_gt, e_if_le, e_ic_eq, e_ic_ne, e_ic_lt, e_ic_ge, e_ic_gt, e_ic_le, e_tsw, e_lsw, sw_0, sw_s, e_iret, e_zret, e_lret, e_aret, e_ret, en_0, en_n, en_i, en_a, en_l, List.getElem?_cons_zero, List.getElem?_cons_succ, List.set_cons_zero, List.set_cons_succ, len_s, List.length_nil, ne_eq, x_within, x_in, eT1, eT2, eT3, eT4, eT5, eT6, eM1, eM2, eM3, eM4, eM5, eM6, Nat.one_mul, Nat.mul_one, Nat.zero_add, s1, s2, s5, s6, nt, ct, bt, b0, up_o (show ¬ (112 : Nat) = 122 by decide), psM_n, psM_c, ← nI_succ, v1, y0, y1, p3, p4, h1]
theorem yP {a : Nat} {d t κ r : Nat} {k m x : Int32} {μ : Mem} (hs : SPM μ κ r k m t) (hκ : κ < 7) (hp : m - k = 0) (ha : a < 7) (ht : t ≤ 18) : cl (d + 5) 178 [vR 8 112, vI (nI a), vI x] μ = some (some (vI (0)), up (psM μ t (paTp a)) 112 17 1) := by
  have h : a = 0 ∨ a = 1 ∨ a = 2 ∨ a = 3 ∨ a = 4 ∨ a = 5 ∨ a = 6 := by omega
  rcases h with rfl | rfl | rfl | rfl | rfl | rfl | rfl
  · exact yp0 (d := d + 5) hs hκ hp (by omega)
  · exact yp1 (d := d + 4) hs hκ hp (by omega)
  · exact yp2 (d := d + 4) hs hκ hp (by omega)
  · exact yp3 (d := d + 4) hs hκ hp (by omega)
  · exact yp4 (d := d + 3) hs hκ hp (by omega)
  · exact yp5 (d := d + 3) hs hκ hp (by omega)
  · exact yp6 (d := d + 4) hs hκ hp (by omega)
