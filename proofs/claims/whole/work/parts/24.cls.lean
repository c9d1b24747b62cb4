/-! THE CLASS'S WORLD AS A VIEW. -/
def vC (b : Nat) (μ : Mem) : Mem := fun o k =>
  if o = 0 then (if k = 0 then μ b 5 else if k = 1 then μ b 6 else if k = 2 then μ b 9 else if k = 3 then μ b 11 else if k = 4 then μ b 12 else if k = 5 then μ b 10 else if k = 6 then μ b 7 else if k = 7 then μ b 8 else if k = 8 then μ b 13 else 0)
  else if o < 5 then (if k < 8 then μ (b + 6 + 3 * (o - 1)) (k + 2) else if k < 24 then (if k % 2 = 0 then μ (b + 7 + 3 * (o - 1)) ((k - 8) / 2) else μ (b + 8 + 3 * (o - 1)) ((k - 8) / 2)) else 0)
  else if 10 ≤ o ∧ o < 18 then (if k < 4 then μ (b + 18 + (o - 10)) k else if k < 7 then μ (b + 18 + (o - 10)) (k + 1) else if k = 7 then μ (b + 18 + (o - 10)) 4 else 0)
  else if o = 20 then (if k < 60 then μ (b + 4) k else 0)
  else if o = 21 then (if k < 24 then μ (b + 5) k else 0)
  else 0
theorem vC_congr {b : Nat} {μ μ' : Mem} (h : ∀ o, b ≤ o → o < b + 26 → μ' o = μ o) : vC b μ' = vC b μ := by
  funext o k
  unfold vC
  by_cases h0 : o = 0
  · simp only [if_pos h0, h b (by omega) (by omega)]
  · simp only [if_neg h0]
    by_cases h5 : o < 5
    · simp only [if_pos h5, h (b + 6 + 3 * (o - 1)) (by omega) (by omega), h (b + 7 + 3 * (o - 1)) (by omega) (by omega), h (b + 8 + 3 * (o - 1)) (by omega) (by omega)]
    · simp only [if_neg h5]
      by_cases h10 : 10 ≤ o ∧ o < 18
      · simp only [if_pos h10, h (b + 18 + (o - 10)) (by omega) (by omega)]
      · simp only [if_neg h10, h (b + 4) (by omega) (by omega), h (b + 5) (by omega) (by omega)]
theorem cs0 {b : Nat} {μ : Mem} : μ b 5 = vC b μ 0 0 := rfl
theorem cs1 {b : Nat} {μ : Mem} : μ b 6 = vC b μ 0 1 := rfl
theorem cs2 {b : Nat} {μ : Mem} : μ b 9 = vC b μ 0 2 := rfl
theorem cs3 {b : Nat} {μ : Mem} : μ b 11 = vC b μ 0 3 := rfl
theorem cs4 {b : Nat} {μ : Mem} : μ b 12 = vC b μ 0 4 := rfl
theorem cs5 {b : Nat} {μ : Mem} : μ b 10 = vC b μ 0 5 := rfl
theorem cs6 {b : Nat} {μ : Mem} : μ b 7 = vC b μ 0 6 := rfl
theorem cs7 {b : Nat} {μ : Mem} : μ b 8 = vC b μ 0 7 := rfl
theorem cs8 {b : Nat} {μ : Mem} : μ b 13 = vC b μ 0 8 := rfl
theorem cw0 {b w : Nat} {μ : Mem} (h : w < 4) : μ (b + 6 + 3 * w) 2 = vC b μ (1 + w) 0 := by
  unfold vC
  rw [if_neg (by omega), if_pos (by omega), if_pos (by omega), show 1 + w - 1 = w by omega]
theorem cw1 {b w : Nat} {μ : Mem} (h : w < 4) : μ (b + 6 + 3 * w) 3 = vC b μ (1 + w) 1 := by
  unfold vC
  rw [if_neg (by omega), if_pos (by omega), if_pos (by omega), show 1 + w - 1 = w by omega]
theorem cw2 {b w : Nat} {μ : Mem} (h : w < 4) : μ (b + 6 + 3 * w) 4 = vC b μ (1 + w) 2 := by
  unfold vC
  rw [if_neg (by omega), if_pos (by omega), if_pos (by omega), show 1 + w - 1 = w by omega]
theorem cw3 {b w : Nat} {μ : Mem} (h : w < 4) : μ (b + 6 + 3 * w) 5 = vC b μ (1 + w) 3 := by
  unfold vC
  rw [if_neg (by omega), if_pos (by omega), if_pos (by omega), show 1 + w - 1 = w by omega]
theorem cw4 {b w : Nat} {μ : Mem} (h : w < 4) : μ (b + 6 + 3 * w) 6 = vC b μ (1 + w) 4 := by
  unfold vC
  rw [if_neg (by omega), if_pos (by omega), if_pos (by omega), show 1 + w - 1 = w by omega]
theorem cw5 {b w : Nat} {μ : Mem} (h : w < 4) : μ (b + 6 + 3 * w) 7 = vC b μ (1 + w) 5 := by
  unfold vC
  rw [if_neg (by omega), if_pos (by omega), if_pos (by omega), show 1 + w - 1 = w by omega]
theorem cw6 {b w : Nat} {μ : Mem} (h : w < 4) : μ (b + 6 + 3 * w) 8 = vC b μ (1 + w) 6 := by
  unfold vC
  rw [if_neg (by omega), if_pos (by omega), if_pos (by omega), show 1 + w - 1 = w by omega]
theorem cw7 {b w : Nat} {μ : Mem} (h : w < 4) : μ (b + 6 + 3 * w) 9 = vC b μ (1 + w) 7 := by
  unfold vC
  rw [if_neg (by omega), if_pos (by omega), if_pos (by omega), show 1 + w - 1 = w by omega]
theorem cr0 {b r : Nat} {μ : Mem} (h : r < 8) : μ (b + 18 + r) 0 = vC b μ (10 + r) 0 := by
  unfold vC
  rw [if_neg (by omega), if_neg (by omega), if_pos (by omega), show 10 + r - 10 = r by omega]
  rfl
theorem cr1 {b r : Nat} {μ : Mem} (h : r < 8) : μ (b + 18 + r) 1 = vC b μ (10 + r) 1 := by
  unfold vC
  rw [if_neg (by omega), if_neg (by omega), if_pos (by omega), show 10 + r - 10 = r by omega]
  rfl
theorem cr2 {b r : Nat} {μ : Mem} (h : r < 8) : μ (b + 18 + r) 2 = vC b μ (10 + r) 2 := by
  unfold vC
  rw [if_neg (by omega), if_neg (by omega), if_pos (by omega), show 10 + r - 10 = r by omega]
  rfl
theorem cr3 {b r : Nat} {μ : Mem} (h : r < 8) : μ (b + 18 + r) 3 = vC b μ (10 + r) 3 := by
  unfold vC
  rw [if_neg (by omega), if_neg (by omega), if_pos (by omega), show 10 + r - 10 = r by omega]
  rfl
theorem cr4 {b r : Nat} {μ : Mem} (h : r < 8) : μ (b + 18 + r) 5 = vC b μ (10 + r) 4 := by
  unfold vC
  rw [if_neg (by omega), if_neg (by omega), if_pos (by omega), show 10 + r - 10 = r by omega]
  rfl
theorem cr5 {b r : Nat} {μ : Mem} (h : r < 8) : μ (b + 18 + r) 6 = vC b μ (10 + r) 5 := by
  unfold vC
  rw [if_neg (by omega), if_neg (by omega), if_pos (by omega), show 10 + r - 10 = r by omega]
  rfl
theorem cr6 {b r : Nat} {μ : Mem} (h : r < 8) : μ (b + 18 + r) 7 = vC b μ (10 + r) 6 := by
  unfold vC
  rw [if_neg (by omega), if_neg (by omega), if_pos (by omega), show 10 + r - 10 = r by omega]
  rfl
theorem cr7 {b r : Nat} {μ : Mem} (h : r < 8) : μ (b + 18 + r) 4 = vC b μ (10 + r) 7 := by
  unfold vC
  rw [if_neg (by omega), if_neg (by omega), if_pos (by omega), show 10 + r - 10 = r by omega]
  rfl
theorem cwl {b w i : Nat} {μ : Mem} (h : w < 4) (hi : i < 8) : μ (b + 7 + 3 * w) i = vC b μ (1 + w) (8 + 2 * i) := by
  unfold vC
  rw [if_neg (by omega), if_pos (by omega), if_neg (by omega), if_pos (by omega), if_pos (by omega), show 1 + w - 1 = w by omega, show (8 + 2 * i - 8) / 2 = i by omega]
theorem cwh {b w i : Nat} {μ : Mem} (h : w < 4) (hi : i < 8) : μ (b + 8 + 3 * w) i = vC b μ (1 + w) (9 + 2 * i) := by
  unfold vC
  rw [if_neg (by omega), if_pos (by omega), if_neg (by omega), if_pos (by omega), if_neg (by omega), show 1 + w - 1 = w by omega, show (9 + 2 * i - 8) / 2 = i by omega]
theorem us0 {b : Nat} {μ : Mem} {v : Int32} : vC b (up μ b 5 v) = up (vC b μ) 0 0 v := by
  funext a c
  unfold vC up
  repeat' split
  all_goals first | rfl | (exfalso; omega)
theorem us1 {b : Nat} {μ : Mem} {v : Int32} : vC b (up μ b 6 v) = up (vC b μ) 0 1 v := by
  funext a c
  unfold vC up
  repeat' split
  all_goals first | rfl | (exfalso; omega)
theorem us2 {b : Nat} {μ : Mem} {v : Int32} : vC b (up μ b 9 v) = up (vC b μ) 0 2 v := by
  funext a c
  unfold vC up
  repeat' split
  all_goals first | rfl | (exfalso; omega)
theorem us3 {b : Nat} {μ : Mem} {v : Int32} : vC b (up μ b 11 v) = up (vC b μ) 0 3 v := by
  funext a c
  unfold vC up
  repeat' split
  all_goals first | rfl | (exfalso; omega)
theorem us4 {b : Nat} {μ : Mem} {v : Int32} : vC b (up μ b 12 v) = up (vC b μ) 0 4 v := by
  funext a c
  unfold vC up
  repeat' split
  all_goals first | rfl | (exfalso; omega)
theorem us5 {b : Nat} {μ : Mem} {v : Int32} : vC b (up μ b 10 v) = up (vC b μ) 0 5 v := by
  funext a c
  unfold vC up
  repeat' split
  all_goals first | rfl | (exfalso; omega)
theorem us6 {b : Nat} {μ : Mem} {v : Int32} : vC b (up μ b 7 v) = up (vC b μ) 0 6 v := by
  funext a c
  unfold vC up
  repeat' split
  all_goals first | rfl | (exfalso; omega)
theorem us7 {b : Nat} {μ : Mem} {v : Int32} : vC b (up μ b 8 v) = up (vC b μ) 0 7 v := by
  funext a c
  unfold vC up
  repeat' split
  all_goals first | rfl | (exfalso; omega)
theorem us8 {b : Nat} {μ : Mem} {v : Int32} : vC b (up μ b 13 v) = up (vC b μ) 0 8 v := by
  funext a c
  unfold vC up
  repeat' split
  all_goals first | rfl | (exfalso; omega)
theorem uw0 {b w : Nat} {μ : Mem} {v : Int32} (h : w < 4) : vC b (up μ (b + 6 + 3 * w) 2 v) = up (vC b μ) (1 + w) 0 v := by
  funext a c
  unfold vC up
  repeat' split
  all_goals first | rfl | (exfalso; omega)
theorem uw1 {b w : Nat} {μ : Mem} {v : Int32} (h : w < 4) : vC b (up μ (b + 6 + 3 * w) 3 v) = up (vC b μ) (1 + w) 1 v := by
  funext a c
  unfold vC up
  repeat' split
  all_goals first | rfl | (exfalso; omega)
theorem uw2 {b w : Nat} {μ : Mem} {v : Int32} (h : w < 4) : vC b (up μ (b + 6 + 3 * w) 4 v) = up (vC b μ) (1 + w) 2 v := by
  funext a c
  unfold vC up
  repeat' split
  all_goals first | rfl | (exfalso; omega)
theorem uw3 {b w : Nat} {μ : Mem} {v : Int32} (h : w < 4) : vC b (up μ (b + 6 + 3 * w) 5 v) = up (vC b μ) (1 + w) 3 v := by
  funext a c
  unfold vC up
  repeat' split
  all_goals first | rfl | (exfalso; omega)
theorem uw4 {b w : Nat} {μ : Mem} {v : Int32} (h : w < 4) : vC b (up μ (b + 6 + 3 * w) 6 v) = up (vC b μ) (1 + w) 4 v := by
  funext a c
  unfold vC up
  repeat' split
  all_goals first | rfl | (exfalso; omega)
theorem uw5 {b w : Nat} {μ : Mem} {v : Int32} (h : w < 4) : vC b (up μ (b + 6 + 3 * w) 7 v) = up (vC b μ) (1 + w) 5 v := by
  funext a c
  unfold vC up
  repeat' split
  all_goals first | rfl | (exfalso; omega)
theorem uw6 {b w : Nat} {μ : Mem} {v : Int32} (h : w < 4) : vC b (up μ (b + 6 + 3 * w) 8 v) = up (vC b μ) (1 + w) 6 v := by
  funext a c
  unfold vC up
  repeat' split
  all_goals first | rfl | (exfalso; omega)
theorem uw7 {b w : Nat} {μ : Mem} {v : Int32} (h : w < 4) : vC b (up μ (b + 6 + 3 * w) 9 v) = up (vC b μ) (1 + w) 7 v := by
  funext a c
  unfold vC up
  repeat' split
  all_goals first | rfl | (exfalso; omega)
theorem ur0 {b r : Nat} {μ : Mem} {v : Int32} (h : r < 8) : vC b (up μ (b + 18 + r) 0 v) = up (vC b μ) (10 + r) 0 v := by
  funext a c
  unfold vC up
  repeat' split
  all_goals first | rfl | (exfalso; omega)
theorem ur1 {b r : Nat} {μ : Mem} {v : Int32} (h : r < 8) : vC b (up μ (b + 18 + r) 1 v) = up (vC b μ) (10 + r) 1 v := by
  funext a c
  unfold vC up
  repeat' split
  all_goals first | rfl | (exfalso; omega)
theorem ur2 {b r : Nat} {μ : Mem} {v : Int32} (h : r < 8) : vC b (up μ (b + 18 + r) 2 v) = up (vC b μ) (10 + r) 2 v := by
  funext a c
  unfold vC up
  repeat' split
  all_goals first | rfl | (exfalso; omega)
theorem ur3 {b r : Nat} {μ : Mem} {v : Int32} (h : r < 8) : vC b (up μ (b + 18 + r) 3 v) = up (vC b μ) (10 + r) 3 v := by
  funext a c
  unfold vC up
  repeat' split
  all_goals first | rfl | (exfalso; omega)
theorem ur4 {b r : Nat} {μ : Mem} {v : Int32} (h : r < 8) : vC b (up μ (b + 18 + r) 5 v) = up (vC b μ) (10 + r) 4 v := by
  funext a c
  unfold vC up
  repeat' split
  all_goals first | rfl | (exfalso; omega)
theorem ur5 {b r : Nat} {μ : Mem} {v : Int32} (h : r < 8) : vC b (up μ (b + 18 + r) 6 v) = up (vC b μ) (10 + r) 5 v := by
  funext a c
  unfold vC up
  repeat' split
  all_goals first | rfl | (exfalso; omega)
theorem ur6 {b r : Nat} {μ : Mem} {v : Int32} (h : r < 8) : vC b (up μ (b + 18 + r) 7 v) = up (vC b μ) (10 + r) 6 v := by
  funext a c
  unfold vC up
  repeat' split
  all_goals first | rfl | (exfalso; omega)
theorem ur7 {b r : Nat} {μ : Mem} {v : Int32} (h : r < 8) : vC b (up μ (b + 18 + r) 4 v) = up (vC b μ) (10 + r) 7 v := by
  funext a c
  unfold vC up
  repeat' split
  all_goals first | rfl | (exfalso; omega)
def txC (b : Nat) (μ : Mem) : TX := fun u a1 a2 a3 a4 => if μ (b + 26 + 3 * u) 3 = 0 then none else some (evP a1 a2 a3 a4 (μ (b + 27 + 3 * u)) (μ (b + 26 + 3 * u) 2).toNatClampNeg)
def LW (b : Nat) (μ : Mem) : Prop := ∀ u, u < 2 → 0 ≤ (μ (b + 26 + 3 * u) 2).toInt ∧ (μ (b + 26 + 3 * u) 2).toInt ≤ 60
/-- all but the rows on which the texts pile -/
def AgS (b : Nat) (μ μ' : Mem) : Prop := ∀ o, o ≠ b + 28 → o ≠ b + 31 → μ' o = μ o
theorem AgS.rf {b : Nat} {μ : Mem} : AgS b μ μ := fun _ _ _ => rfl
theorem AgS.vC {b : Nat} {μ μ' : Mem} (h : AgS b μ μ') : vC b μ' = vC b μ := vC_congr fun o h1 h2 => h o (by omega) (by omega)
theorem x_leaves {d b : Nat} {a1 a2 a3 a4 : Int32} {μ : Mem} (hL : LW b μ) : ∃ μ', cl d 46 [vR 6 b, vI a1, vI a2, vI a3, vI a4] μ = some (some (vI (match txC b μ 0 a1 a2 a3 a4 with | some v => v | none => a1 - a2)), μ') ∧ AgS b μ μ' := by
  obtain ⟨h1, h2⟩ := hL 0 (by decide)
  have hs : μ (b + 26) 2 = nI (μ (b + 26) 2).toNatClampNeg := (nI_ix h1).symm
  obtain ⟨μ', hw, hA⟩ := x_workOut (d := d) (lo := b + 26) (a1 := a1) (a2 := a2) (a3 := a3) (a4 := a4) (N := (μ (b + 26) 2).toNatClampNeg) (by have e : (μ (b + 26) 2).toNatClampNeg = (μ (b + 26) 2).toInt.toNat := rfl; have : (μ (b + 26) 2).toInt ≤ 60 := h2; omega) hs
  by_cases hz : μ (b + 26) 3 = 0
  · refine ⟨μ, ?_, AgS.rf⟩
    simp -implicitDefEqProofs only [cl_46, u_46_0, u_46_1, u_46_2, u_46_3, e_iload_n, e_iload, e_lload_n, e_lload, e_aload_n, e_aload, e_istore_n, e_istore, e_astore_n, e_astore, e_lstore_n, e_lstore, e_iinc, e_iconst, e_bipush, e_sipush, e_ldc_w, e_ldc, e_ldcS, e_lconst, e_ldc2_w, e_iadd, e_isub, e_imul, e_iand, e_ixor, e_ishl, e_ishr, e_iushr, e_idiv, e_irem, e_ineg, e_i2b, e_i2s, e_i2c, e_ladd, e_lsub, e_lmul, e_land, e_lor, e_ldiv, e_lrem, e_lneg, e_lshl, e_lshr, e_lushr, e_i2l, e_l2i, e_lcmp, e_dupI, e_dupA, e_dup2, e_getI, e_getA, e_putI, e_putZ, e_getstatic, e_iaload, e_iastore, e_aaload10, e_alen10, e_aaload11, e_alen11, e_aaload12, e_alen12, e_aaload13, e_alen13, e_alen, e_invokevirtual, e_invokevirtualB, e_invokestatic, e_invokestaticB, ct_0, ct_i, ct_a, ct_l, os_0, os_s, rc_0, rc_s, sl_0, sl_i, sl_a, sl_l, simprocAttr, ix, z_em, up_eq, up_j, Nat.le_refl, true_or, or_true, true_and, and_true, and_self, or_self, beq_self_eq_true, if_true, if_false, ite_self, ca_f, ca_t, aLen, Int32.lt_iff_toInt_lt, Int32.le_iff_toInt_le, z_ite, z_iten, z_ite1, ite_not, not_true_eq_false, not_false_eq_true, false_and, and_false, false_or, or_false, b_max, b_min, b_minL, b_absL, b_ixD, b_ixH, b_copy, tk_0, tk_s, dr_0, dr_s, pu_s, pu_n, ca_0, ca_1, clr_0, clr_s, e_nop, e_goto, e_if_eq, e_if_ne, e_if_lt, e_if_ge, e_if_gt, e_if_le, e_ic_eq, e_ic_ne, e_ic_lt, e_ic_ge, e_ic_gt, e_ic_le, e_tsw, e_lsw, sw_0, sw_s, e_iret, e_zret, e_lret, e_aret, e_ret, en_0, en_n, en_i, en_a, en_l, List.getElem?_cons_zero, List.getElem?_cons_succ, List.set_cons_zero, List.set_cons_succ, len_s, List.length_nil, show b + 3 + 23 + 0 = b + 26 by omega, hz, txC, Nat.mul_zero, Nat.add_zero]
  · refine ⟨μ', ?_, fun o h1 h2 => hA o (by omega)⟩
    simp -implicitDefEqProofs only [cl_46, u_46_0, u_46_1, u_46_2, u_46_3, e_iload_n, e_iload, e_lload_n, e_lload, e_aload_n, e_aload, e_istore_n, e_istore, e_astore_n, e_astore, e_lstore_n, e_lstore, e_iinc, e_iconst, e_bipush, e_sipush, e_ldc_w, e_ldc, e_ldcS, e_lconst, e_ldc2_w, e_iadd, e_isub, e_imul, e_iand, e_ixor, e_ishl, e_ishr, e_iushr, e_idiv, e_irem, e_ineg, e_i2b, e_i2s, e_i2c, e_ladd, e_lsub, e_lmul, e_land, e_lor, e_ldiv, e_lrem, e_lneg, e_lshl, e_lshr, e_lushr, e_i2l, e_l2i, e_lcmp, e_dupI, e_dupA, e_dup2, e_getI, e_getA, e_putI, e_putZ, e_getstatic, e_iaload, e_iastore, e_aaload10, e_alen10, e_aaload11, e_alen11, e_aaload12, e_alen12, e_aaload13, e_alen13, e_alen, e_invokevirtual, e_invokevirtualB, e_invokestatic, e_invokestaticB, ct_0, ct_i, ct_a, ct_l, os_0, os_s, rc_0, rc_s, sl_0, sl_i, sl_a, sl_l, simprocAttr, ix, z_em, up_eq, up_j, Nat.le_refl, true_or, or_true, true_and, and_true, and_self, or_self, beq_self_eq_true, if_true, if_false, ite_self, ca_f, ca_t, aLen, Int32.lt_iff_toInt_lt, Int32.le_iff_toInt_le, z_ite, z_iten, z_ite1, ite_not, not_true_eq_false, not_false_eq_true, false_and, and_false, false_or, or_false, b_max, b_min, b_minL, b_absL, b_ixD, b_ixH, b_copy, tk_0, tk_s, dr_0, dr_s, pu_s, pu_n, ca_0, ca_1, clr_0, clr_s, e_nop, e_goto, e_if_eq, e_if_ne, e_if_lt, e_if_ge, e_if_gt, e_if_le, e_ic_eq, e_ic_ne, e_ic_lt, e_ic_ge, e_ic_gt, e_ic_le, e_tsw, e_lsw, sw_0, sw_s, e_iret, e_zret, e_lret, e_aret, e_ret, en_0, en_n, en_i, en_a, en_l, List.getElem?_cons_zero, List.getElem?_cons_succ, List.set_cons_zero, List.set_cons_succ, len_s, List.length_nil, show b + 3 + 23 + 0 = b + 26 by omega, if_neg hz, hw, txC, Nat.mul_zero, Nat.add_zero]
