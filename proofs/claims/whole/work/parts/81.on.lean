/-! TEXTS READ: one value. -/
theorem p10 {n : Nat} (h : n < 4) : (10 : Int) ^ n ≤ 1000 := by
  have : n = 0 ∨ n = 1 ∨ n = 2 ∨ n = 3 := by omega
  rcases this with rfl | rfl | rfl | rfl <;> decide
theorem k_dig {u L d i o : Nat} {t : Nat → Int32} {μ0 : Mem} {E : List (Int32 × Int32)} {p : List Int32} {c : Int32} (hT : TP u L t μ0) (hok : okE u E) (hEi : E.length ≤ i) (hiL : i < L) (hc : 48 ≤ (t i).toInt ∧ (t i).toInt ≤ 57) : ∀ f n v μ, 4 - n < f → n ≤ 4 → i + n ≤ L → MLR μ0 μ (i + n) o E → ((n = 0 ∧ v = 0) ∨ (1 ≤ n ∧ rnT u t n i (mkL u E, p, 0, true) = some (v :: mkL u E, p, n, false) ∧ 0 ≤ v.toInt ∧ v.toInt < 10 ^ n)) → RES u L t μ0 6 i o E p (res d 139 4 [some (vR 8 112), some (vI c), some (vI v), some (vI (nI n))] [] μ) := by
  have hL := hT.2.1
  have hu := hT.1
  intro f
  induction f with
  | zero => intro n v μ hf; omega
  | succ f ih =>
    intro n v μ hf hn hin hM hv
    have hl := y_lk (d := d) hT hM hin
    have hl' : cl d 130 [Sum.inr (Sum.inr (8, 112))] μ = _ := hl
    have nn : (nI n).toInt = n := nI_toInt (by omega)
    have h5 : μ 112 5 = nI (i + n) := hM.2.2.1
    -- what stands at the end
    have fin : 1 ≤ n → (i + n < L → 48 ≤ (t (i + n)).toInt ∧ (t (i + n)).toInt ≤ 57 → n = 4) → ∃ μ', cl d 132 [Sum.inr (Sum.inr (8, 112)), vI 0, vI v] μ = some (none, μ') ∧ RES u L t μ0 6 i o E p (some (some (vI 1), μ')) := by
      intro h1 hst
      obtain ⟨-, g1, g2, g3⟩ := hv.resolve_left (fun z => by omega)
      obtain ⟨μ', b1, b2⟩ := y_lays (d := d) (a := 0) (b := v) hM (by omega)
      have hv9 : v.toInt ≤ 9999 := by
        have : (10 : Int) ^ n ≤ 10000 := by
          have : n = 1 ∨ n = 2 ∨ n = 3 ∨ n = 4 := by omega
          rcases this with rfl | rfl | rfl | rfl <;> decide
        omega
      refine ⟨μ', b1, 1, μ', i + n, rfl, Or.inl ⟨rfl, _, b2, ⟨hok, Or.inl ⟨rfl, g2, hv9⟩⟩, rfl, by rw [List.length_cons]; omega, n, v :: mkL u E, [], n, rfl, hin, g1, (fun s hs => by cases hs), rfl, fun hj => ⟨fun hd => Or.inr (hst hj hd), fun hk => Or.inl ?_⟩⟩⟩
      have : lvl (t (i + n)) ≤ 6 := by
        unfold lvl
        (repeat' split) <;> omega
      omega
    rw [u_139_4]
    by_cases q4 : n = 4
    · obtain ⟨μ', b1, r2⟩ := fin (by omega) (fun _ _ => q4)
      have hn4 : ¬ ((n : Nat) : Int) < 4 := by omega
      simp -implicitDefEqProofs only [u_139_0, u_139_1, u_139_2, u_139_3, u_139_5, u_139_6, u_139_7, u_139_8, u_139_9, u_139_10, u_139_11, u_139_12, u_139_13, u_139_14, u_139_15, u_139_16, u_139_17, u_139_18, e_iload_n, e_iload, e_lload_n, e_lload, e_aload_n, e_aload, e_istore_n, e_istore, e_astore_n, e_astore, e_lstore_n, e_lstore, e_iinc, e_iconst, e_bipush, e_sipush, e_ldc_w, e_ldc, e_ldcS, e_lconst, e_ldc2_w, e_iadd, e_isub, e_imul, e_iand, e_ixor, e_ishl, e_ishr, e_iushr, e_idiv, e_irem, e_ineg, e_i2b, e_i2s, e_i2c, e_ladd, e_lsub, e_lmul, e_land, e_lor, e_ldiv, e_lrem, e_lneg, e_lshl, e_lshr, e_lushr, e_i2l, e_l2i, e_lcmp, e_dupI, e_dupA, e_dup2, e_getI, e_getA, e_putI, e_putZ, e_getstatic, e_iaload, e_iastore, e_aaload10, e_alen10, e_aaload11, e_alen11, e_aaload12, e_alen12, e_aaload13, e_alen13, e_alen, e_invokevirtual, e_invokevirtualB, e_invokestatic, e_invokestaticB, ct_0, ct_i, ct_a, ct_l, os_0, os_s, rc_0, rc_s, sl_0, sl_i, sl_a, sl_l, simprocAttr, ix, z_em, up_eq, up_j, Nat.le_refl, true_or, or_true, true_and, and_true, and_self, or_self, beq_self_eq_true, if_true, if_false, ite_self, ca_f, ca_t, aLen, Int32.lt_iff_toInt_lt, Int32.le_iff_toInt_le, z_ite, z_iten, z_ite1, ite_not, not_true_eq_false, not_false_eq_true, false_and, and_false, false_or, or_false, b_max, b_min, b_minL, b_absL, b_ixD, b_ixH, b_copy, tk_0, tk_s, dr_0, dr_s, pu_s, pu_n, ca_0, ca_1, clr_0, clr_s, e_nop, e_goto, e_if_eq, e_if_ne, e_if_lt, e_if_ge, e_if_gt, e_if_le, e_ic_eq, e_ic_ne, e_ic_lt, e_ic_ge, e_ic_gt, e_ic_le, e_tsw, e_lsw, sw_0, sw_s, e_iret, e_zret, e_lret, e_aret, e_ret, en_0, en_n, en_i, en_a, en_l, List.getElem?_cons_zero, List.getElem?_cons_succ, List.set_cons_zero, List.set_cons_succ, len_s, List.length_nil, ne_eq, x_within, x_in, eT1, eT2, eT3, eT4, eT5, eT6, eM1, eM2, eM3, eM4, eM5, eM6, Nat.one_mul, Nat.mul_one, Nat.zero_add, nn, hn4, b1]
      exact r2
    · have hn4 : ((n : Nat) : Int) < 4 := by omega
      by_cases qd : i + n < L ∧ 48 ≤ (t (i + n)).toInt ∧ (t (i + n)).toInt ≤ 57
      · have el : lk L t (i + n) = t (i + n) := if_pos qd.1
        rw [el] at hl'
        obtain ⟨qL, qr⟩ := qd
        have hv3 : 0 ≤ v.toInt ∧ v.toInt < 10 ^ n := by
          rcases hv with ⟨z1, z2⟩ | ⟨z1, z2, z3, z4⟩
          · rw [z1, z2]
            decide
          · exact ⟨z3, z4⟩
        have hp := p10 (n := n) (by omega)
        have t48 : (48 : Int32).toInt = 48 := rfl
        have t10 : (10 : Int32).toInt = 10 := rfl
        have x1 : (10 * v).toInt = 10 * v.toInt := by rw [tm] <;> rw [t10] <;> omega
        have x2 : (10 * v + t (i + n)).toInt = 10 * v.toInt + (t (i + n)).toInt := by rw [ta] <;> rw [x1] <;> omega
        have x3 : (10 * v + t (i + n) - 48).toInt = 10 * v.toInt + (t (i + n)).toInt - 48 := by rw [ts] <;> rw [x2, t48] <;> omega
        have y1 : (v * 10).toInt = v.toInt * 10 := by rw [tm] <;> rw [t10] <;> omega
        have y2 : (t (i + n) - 48).toInt = (t (i + n)).toInt - 48 := by rw [ts] <;> rw [t48] <;> omega
        have y3 : (v * 10 + (t (i + n) - 48)).toInt = v.toInt * 10 + ((t (i + n)).toInt - 48) := by rw [ta] <;> rw [y1, y2] <;> omega
        have ex : v * 10 + (t (i + n) - 48) = 10 * v + t (i + n) - 48 := Int32.toInt_inj.mp (by omega)
        have hpow : (10 : Int) ^ (n + 1) = 10 ^ n * 10 := Int.pow_succ ..
        have hnew : rnT u t (n + 1) i (mkL u E, p, 0, true) = some ((10 * v + t (i + n) - 48) :: mkL u E, p, n + 1, false) := by
          rw [rnT_add]
          rcases hv with ⟨z1, z2⟩ | ⟨z1, z2, z3, z4⟩
          · subst z1
            subst z2
            show rnT u t 1 (i + 0) (mkL u E, p, 0, true) = _
            refine rnT_1 ?_
            unfold tak
            rw [if_pos qr, if_pos rfl]
            have e0 : t (i + 0) - 48 = 10 * 0 + t (i + 0) - 48 := by
              rw [← ex]
              show _ = 0 * 10 + (t (i + 0) - 48)
              rw [show (0 : Int32) * 10 = 0 by decide, Int32.zero_add]
            rw [← e0]
          · rw [z2]
            show rnT u t 1 (i + n) (v :: mkL u E, p, n, false) = _
            refine rnT_1 ?_
            unfold tak
            rw [if_pos qr, if_neg (by simp), if_neg (by show ¬ (n = 0 ∨ n = 4); omega), ← ex]
        have r2 := ih (n + 1) (10 * v + t (i + n) - 48) (up μ 112 5 (nI (i + n + 1))) (by omega) (by omega) (by omega) hM.i (Or.inr ⟨by omega, hnew, by omega, by omega⟩)
        simp -implicitDefEqProofs only [u_139_0, u_139_1, u_139_2, u_139_3, u_139_5, u_139_6, u_139_7, u_139_8, u_139_9, u_139_10, u_139_11, u_139_12, u_139_13, u_139_14, u_139_15, u_139_16, u_139_17, u_139_18, e_iload_n, e_iload, e_lload_n, e_lload, e_aload_n, e_aload, e_istore_n, e_istore, e_astore_n, e_astore, e_lstore_n, e_lstore, e_iinc, e_iconst, e_bipush, e_sipush, e_ldc_w, e_ldc, e_ldcS, e_lconst, e_ldc2_w, e_iadd, e_isub, e_imul, e_iand, e_ixor, e_ishl, e_ishr, e_iushr, e_idiv, e_irem, e_ineg, e_i2b, e_i2s, e_i2c, e_ladd, e_lsub, e_lmul, e_land, e_lor, e_ldiv, e_lrem, e_lneg, e_lshl, e_lshr, e_lushr, e_i2l, e_l2i, e_lcmp, e_dupI, e_dupA, e_dup2, e_getI, e_getA, e_putI, e_putZ, e_getstatic, e_iaload, e_iastore, e_aaload10, e_alen10, e_aaload11, e_alen11, e_aaload12, e_alen12, e_aaload13, e_alen13, e_alen, e_invokevirtual, e_invokevirtualB, e_invokestatic, e_invokestaticB, ct_0, ct_i, ct_a, ct_l, os_0, os_s, rc_0, rc_s, sl_0, sl_i, sl_a, sl_l, simprocAttr, ix, z_em, up_eq, up_j, Nat.le_refl, true_or, or_true, true_and, and_true, and_self, or_self, beq_self_eq_true, if_true, if_false, ite_self, ca_f, ca_t, aLen, Int32.lt_iff_toInt_lt, Int32.le_iff_toInt_le, z_ite, z_iten, z_ite1, ite_not, not_true_eq_false, not_false_eq_true, false_and, and_false, false_or, or_false, b_max, b_min, b_minL, b_absL, b_ixD, b_ixH, b_copy, tk_0, tk_s, dr_0, dr_s, pu_s, pu_n, ca_0, ca_1, clr_0, clr_s, e_nop, e_goto, e_if_eq, e_if_ne, e_if_lt, e_if_ge, e_if_gt, e_if_le, e_ic_eq, e_ic_ne, e_ic_lt, e_ic_ge, e_ic_gt, e_ic_le, e_tsw, e_lsw, sw_0, sw_s, e_iret, e_zret, e_lret, e_aret, e_ret, en_0, en_n, en_i, en_a, en_l, List.getElem?_cons_zero, List.getElem?_cons_succ, List.set_cons_zero, List.set_cons_succ, len_s, List.length_nil, ne_eq, x_within, x_in, eT1, eT2, eT3, eT4, eT5, eT6, eM1, eM2, eM3, eM4, eM5, eM6, Nat.one_mul, Nat.mul_one, Nat.zero_add, nn, hn4, hl', qr, h5, ← nI_succ]
        exact r2
      · have n1 : 1 ≤ n := by
          rcases Nat.eq_zero_or_pos n with z | z
          · subst z
            exact absurd ⟨hiL, hc⟩ qd
          · exact z
        obtain ⟨μ', b1, r2⟩ := fin n1 (fun hj hd => absurd ⟨hj, hd⟩ qd)
        have nd : ¬ (48 ≤ (lk L t (i + n)).toInt ∧ (lk L t (i + n)).toInt ≤ 57) := fun z => by
          unfold lk at z
          split at z
          · rename_i hj
            exact qd ⟨hj, z⟩
          · exact absurd z (by decide)
        simp -implicitDefEqProofs only [u_139_0, u_139_1, u_139_2, u_139_3, u_139_5, u_139_6, u_139_7, u_139_8, u_139_9, u_139_10, u_139_11, u_139_12, u_139_13, u_139_14, u_139_15, u_139_16, u_139_17, u_139_18, e_iload_n, e_iload, e_lload_n, e_lload, e_aload_n, e_aload, e_istore_n, e_istore, e_astore_n, e_astore, e_lstore_n, e_lstore, e_iinc, e_iconst, e_bipush, e_sipush, e_ldc_w, e_ldc, e_ldcS, e_lconst, e_ldc2_w, e_iadd, e_isub, e_imul, e_iand, e_ixor, e_ishl, e_ishr, e_iushr, e_idiv, e_irem, e_ineg, e_i2b, e_i2s, e_i2c, e_ladd, e_lsub, e_lmul, e_land, e_lor, e_ldiv, e_lrem, e_lneg, e_lshl, e_lshr, e_lushr, e_i2l, e_l2i, e_lcmp, e_dupI, e_dupA, e_dup2, e_getI, e_getA, e_putI, e_putZ, e_getstatic, e_iaload, e_iastore, e_aaload10, e_alen10, e_aaload11, e_alen11, e_aaload12, e_alen12, e_aaload13, e_alen13, e_alen, e_invokevirtual, e_invokevirtualB, e_invokestatic, e_invokestaticB, ct_0, ct_i, ct_a, ct_l, os_0, os_s, rc_0, rc_s, sl_0, sl_i, sl_a, sl_l, simprocAttr, ix, z_em, up_eq, up_j, Nat.le_refl, true_or, or_true, true_and, and_true, and_self, or_self, beq_self_eq_true, if_true, if_false, ite_self, ca_f, ca_t, aLen, Int32.lt_iff_toInt_lt, Int32.le_iff_toInt_le, z_ite, z_iten, z_ite1, ite_not, not_true_eq_false, not_false_eq_true, false_and, and_false, false_or, or_false, b_max, b_min, b_minL, b_absL, b_ixD, b_ixH, b_copy, tk_0, tk_s, dr_0, dr_s, pu_s, pu_n, ca_0, ca_1, clr_0, clr_s, e_nop, e_goto, e_if_eq, e_if_ne, e_if_lt, e_if_ge, e_if_gt, e_if_le, e_ic_eq, e_ic_ne, e_ic_lt, e_ic_ge, e_ic_gt, e_ic_le, e_tsw, e_lsw, sw_0, sw_s, e_iret, e_zret, e_lret, e_aret, e_ret, en_0, en_n, en_i, en_a, en_l, List.getElem?_cons_zero, List.getElem?_cons_succ, List.set_cons_zero, List.set_cons_succ, len_s, List.length_nil, ne_eq, x_within, x_in, eT1, eT2, eT3, eT4, eT5, eT6, eM1, eM2, eM3, eM4, eM5, eM6, Nat.one_mul, Nat.mul_one, Nat.zero_add, nn, hn4, hl', nd, b1]
        exact r2
/-- one value, its nested ones one level of recursion deeper -/
theorem z_one {u L d m : Nat} {t : Nat → Int32} {μ0 : Mem} (hT : TP u L t μ0) (hr : ∀ i, i < L → 0 ≤ (t i).toInt ∧ (t i).toInt ≤ 255) (h1 : ∀ m', m = m' + 1 → SPEC u L t μ0 139 d 6 7 m') (h2 : ∀ m', m = m' + 1 → SPEC u L t μ0 133 d 1 1 m') : SPEC u L t μ0 139 (d + 1) 6 7 m := by
  have hL := hT.2.1
  have hu := hT.1
  intro i o E p μ ho hp hM hok htop hEi hi
  have hl := y_lk (d := d + 1) hT hM hi
  have hl' : cl (d + 1) 130 [Sum.inr (Sum.inr (8, 112))] μ = _ := hl
  have h5 : μ 112 5 = nI i := hM.2.2.1
  have h6 : μ 112 6 = nI o := hM.2.2.2.1
  have h8 : μ 112 8 = nI u := by rw [hM.2.1 8 (by decide) (by decide) (by decide)]; exact hT.2.2.2.2
  have hname := y_isName (d := d + 1) (c := lk L t i) (μ := μ) hu h8
  have lv6 : ∀ b : Int32, lvl b ≤ 6 := fun b => by
    unfold lvl
    (repeat' split) <;> omega
  -- all is refused where nothing begins
  have flp : (i < L → ¬ okN u (t i) ∧ ¬ (48 ≤ (t i).toInt ∧ (t i).toInt ≤ 57) ∧ ((t i = 33 ∨ t i = 40) → o = 5)) → FLP u t L i (mkL u E) p i := fun hh => by
    refine ⟨0, (mkL u E, p, 0, true), rfl, hi, rfl, fun hj => ?_, fun _ => Or.inl rfl⟩
    obtain ⟨z1, z2, z3⟩ := hh hj
    unfold tak
    rw [if_neg z2, if_pos rfl]
    by_cases q : t i = 33 ∨ t i = 40
    · rw [if_pos q, if_pos (by rw [← z3 q]; exact hp)]
    · rw [if_neg q, if_pos (nokN_nix hu z1)]
  by_cases qN : okN u (lk L t i)
  · have hiL : i < L := by
      rcases Nat.lt_or_ge i L with z | z
      · exact z
      · exfalso
        unfold lk at qN
        rw [if_neg (by omega)] at qN
        unfold okN at qN
        rcases qN with z | ⟨-, z⟩ | ⟨-, z⟩
        · exact absurd z (by decide)
        · rcases z with z | z | z <;> exact absurd z (by decide)
        · rcases z with z | z <;> exact absurd z (by decide)
    have el : lk L t i = t i := if_pos hiL
    rw [el] at qN hl' hname
    have e1 := hname.1 qN
    have e1' : cl (d + 1) 131 [Sum.inr (Sum.inr (8, 112)), vI (t i)] μ = _ := e1
    obtain ⟨μ', b1, b2⟩ := y_lays (d := d + 1) (a := 1) (b := t i) (hM.i (j := i + 1)) (by omega)
    have b1' : cl (d + 1) 132 [Sum.inr (Sum.inr (8, 112)), vI 1, vI (t i)] (up μ 112 5 (nI (i + 1))) = _ := b1
    obtain ⟨x1, x2, x3, x4, x5⟩ := okN_nix hu qN
    have tk : tak u (t i) (mkL u E, p, 0, true) = some ((20000 + nix u (t i)) :: mkL u E, p, 0, false) := by
      unfold tak
      rw [if_neg x3, if_pos rfl, if_neg (fun z => z.elim x4 x5), if_neg x2]
    have r2 : RES u L t μ0 6 i o E p (some (some (vI 1), μ')) := by
      refine ⟨1, μ', i + 1, rfl, Or.inl ⟨rfl, _, b2, ⟨hok, Or.inr (Or.inl ⟨rfl, qN⟩)⟩, rfl, by rw [List.length_cons]; omega, 1, (20000 + nix u (t i)) :: mkL u E, [], 0, rfl, by omega, rnT_1 tk, (fun s hs => by cases hs), ?_, fun hj => ⟨fun _ => Or.inl rfl, fun hk => Or.inl (by have := lv6 (t (i + 1)); omega)⟩⟩⟩
      show mkM u 1 (t i) :: mkL u E = _
      unfold mkM
      rw [if_neg (by decide), if_pos rfl, x1]
      rfl
    simp -implicitDefEqProofs only [cl_139, u_139_0, u_139_1, u_139_2, u_139_3, u_139_5, u_139_6, u_139_7, u_139_8, u_139_9, u_139_10, u_139_11, u_139_12, u_139_13, u_139_14, u_139_15, u_139_16, u_139_17, u_139_18, e_iload_n, e_iload, e_lload_n, e_lload, e_aload_n, e_aload, e_istore_n, e_istore, e_astore_n, e_astore, e_lstore_n, e_lstore, e_iinc, e_iconst, e_bipush, e_sipush, e_ldc_w, e_ldc, e_ldcS, e_lconst, e_ldc2_w, e_iadd, e_isub, e_imul, e_iand, e_ixor, e_ishl, e_ishr, e_iushr, e_idiv, e_irem, e_ineg, e_i2b, e_i2s, e_i2c, e_ladd, e_lsub, e_lmul, e_land, e_lor, e_ldiv, e_lrem, e_lneg, e_lshl, e_lshr, e_lushr, e_i2l, e_l2i, e_lcmp, e_dupI, e_dupA, e_dup2, e_getI, e_getA, e_putI, e_putZ, e_getstatic, e_iaload, e_iastore, e_aaload10, e_alen10, e_aaload11, e_alen11, e_aaload12, e_alen12, e_aaload13, e_alen13, e_alen, e_invokevirtual, e_invokevirtualB, e_invokestatic, e_invokestaticB, ct_0, ct_i, ct_a, ct_l, os_0, os_s, rc_0, rc_s, sl_0, sl_i, sl_a, sl_l, simprocAttr, ix, z_em, up_eq, up_j, Nat.le_refl, true_or, or_true, true_and, and_true, and_self, or_self, beq_self_eq_true, if_true, if_false, ite_self, ca_f, ca_t, aLen, Int32.lt_iff_toInt_lt, Int32.le_iff_toInt_le, z_ite, z_iten, z_ite1, ite_not, not_true_eq_false, not_false_eq_true, false_and, and_false, false_or, or_false, b_max, b_min, b_minL, b_absL, b_ixD, b_ixH, b_copy, tk_0, tk_s, dr_0, dr_s, pu_s, pu_n, ca_0, ca_1, clr_0, clr_s, e_nop, e_goto, e_if_eq, e_if_ne, e_if_lt, e_if_ge, e_if_gt, e_if_le, e_ic_eq, e_ic_ne, e_ic_lt, e_ic_ge, e_ic_gt, e_ic_le, e_tsw, e_lsw, sw_0, sw_s, e_iret, e_zret, e_lret, e_aret, e_ret, en_0, en_n, en_i, en_a, en_l, List.getElem?_cons_zero, List.getElem?_cons_succ, List.set_cons_zero, List.set_cons_succ, len_s, List.length_nil, ne_eq, x_within, x_in, eT1, eT2, eT3, eT4, eT5, eT6, eM1, eM2, eM3, eM4, eM5, eM6, Nat.one_mul, Nat.mul_one, Nat.zero_add, hl', e1', h5, ← nI_succ, b1']
    exact r2
  · have e1 := hname.2 qN
    have e1' : cl (d + 1) 131 [Sum.inr (Sum.inr (8, 112)), vI (lk L t i)] μ = _ := e1
    by_cases qD : 48 ≤ (lk L t i).toInt ∧ (lk L t i).toInt ≤ 57
    · have hiL : i < L := by
        rcases Nat.lt_or_ge i L with z | z
        · exact z
        · exfalso
          unfold lk at qD
          rw [if_neg (by omega)] at qD
          exact absurd qD (by decide)
      have el : lk L t i = t i := if_pos hiL
      have r2 := k_dig (d := d + 1) (c := lk L t i) (p := p) hT hok hEi hiL (by rw [el] at qD; exact qD) 5 0 0 μ (by omega) (by omega) (by omega) hM (Or.inl ⟨rfl, rfl⟩)
      have z0 : (vI (nI 0) : AV) = vI 0 := rfl
      rw [z0] at r2
      simp -implicitDefEqProofs only [cl_139, u_139_0, u_139_1, u_139_2, u_139_3, u_139_5, u_139_6, u_139_7, u_139_8, u_139_9, u_139_10, u_139_11, u_139_12, u_139_13, u_139_14, u_139_15, u_139_16, u_139_17, u_139_18, e_iload_n, e_iload, e_lload_n, e_lload, e_aload_n, e_aload, e_istore_n, e_istore, e_astore_n, e_astore, e_lstore_n, e_lstore, e_iinc, e_iconst, e_bipush, e_sipush, e_ldc_w, e_ldc, e_ldcS, e_lconst, e_ldc2_w, e_iadd, e_isub, e_imul, e_iand, e_ixor, e_ishl, e_ishr, e_iushr, e_idiv, e_irem, e_ineg, e_i2b, e_i2s, e_i2c, e_ladd, e_lsub, e_lmul, e_land, e_lor, e_ldiv, e_lrem, e_lneg, e_lshl, e_lshr, e_lushr, e_i2l, e_l2i, e_lcmp, e_dupI, e_dupA, e_dup2, e_getI, e_getA, e_putI, e_putZ, e_getstatic, e_iaload, e_iastore, e_aaload10, e_alen10, e_aaload11, e_alen11, e_aaload12, e_alen12, e_aaload13, e_alen13, e_alen, e_invokevirtual, e_invokevirtualB, e_invokestatic, e_invokestaticB, ct_0, ct_i, ct_a, ct_l, os_0, os_s, rc_0, rc_s, sl_0, sl_i, sl_a, sl_l, simprocAttr, ix, z_em, up_eq, up_j, Nat.le_refl, true_or, or_true, true_and, and_true, and_self, or_self, beq_self_eq_true, if_true, if_false, ite_self, ca_f, ca_t, aLen, Int32.lt_iff_toInt_lt, Int32.le_iff_toInt_le, z_ite, z_iten, z_ite1, ite_not, not_true_eq_false, not_false_eq_true, false_and, and_false, false_or, or_false, b_max, b_min, b_minL, b_absL, b_ixD, b_ixH, b_copy, tk_0, tk_s, dr_0, dr_s, pu_s, pu_n, ca_0, ca_1, clr_0, clr_s, e_nop, e_goto, e_if_eq, e_if_ne, e_if_lt, e_if_ge, e_if_gt, e_if_le, e_ic_eq, e_ic_ne, e_ic_lt, e_ic_ge, e_ic_gt, e_ic_le, e_tsw, e_lsw, sw_0, sw_s, e_iret, e_zret, e_lret, e_aret, e_ret, en_0, en_n, en_i, en_a, en_l, List.getElem?_cons_zero, List.getElem?_cons_succ, List.set_cons_zero, List.set_cons_succ, len_s, List.length_nil, ne_eq, x_within, x_in, eT1, eT2, eT3, eT4, eT5, eT6, eM1, eM2, eM3, eM4, eM5, eM6, Nat.one_mul, Nat.mul_one, Nat.zero_add, hl', e1', qD]
      exact r2
    · by_cases q33 : lk L t i = 33
      · have hiL : i < L := by
          rcases Nat.lt_or_ge i L with z | z
          · exact z
          · exfalso
            unfold lk at q33
            rw [if_neg (by omega)] at q33
            exact absurd q33 (by decide)
        have el : lk L t i = t i := if_pos hiL
        have e33 : t i = 33 := by rw [← el]; exact q33
        rw [q33] at hl' e1'
        by_cases q5 : o = 5
        · have h65 : μ 112 6 = 5 := by rw [h6, q5]; rfl
          have r2 : RES u L t μ0 6 i o E p (some (some (vI 0), μ)) := RES.fail hM (flp (fun _ => ⟨by rw [← el]; exact qN, by rw [← el]; exact qD, fun _ => q5⟩))
          simp -implicitDefEqProofs only [cl_139, u_139_0, u_139_1, u_139_2, u_139_3, u_139_5, u_139_6, u_139_7, u_139_8, u_139_9, u_139_10, u_139_11, u_139_12, u_139_13, u_139_14, u_139_15, u_139_16, u_139_17, u_139_18, cl_138, u_138_0, u_138_1, u_138_2, e_iload_n, e_iload, e_lload_n, e_lload, e_aload_n, e_aload, e_istore_n, e_istore, e_astore_n, e_astore, e_lstore_n, e_lstore, e_iinc, e_iconst, e_bipush, e_sipush, e_ldc_w, e_ldc, e_ldcS, e_lconst, e_ldc2_w, e_iadd, e_isub, e_imul, e_iand, e_ixor, e_ishl, e_ishr, e_iushr, e_idiv, e_irem, e_ineg, e_i2b, e_i2s, e_i2c, e_ladd, e_lsub, e_lmul, e_land, e_lor, e_ldiv, e_lrem, e_lneg, e_lshl, e_lshr, e_lushr, e_i2l, e_l2i, e_lcmp, e_dupI, e_dupA, e_dup2, e_getI, e_getA, e_putI, e_putZ, e_getstatic, e_iaload, e_iastore, e_aaload10, e_alen10, e_aaload11, e_alen11, e_aaload12, e_alen12, e_aaload13, e_alen13, e_alen, e_invokevirtual, e_invokevirtualB, e_invokestatic, e_invokestaticB, ct_0, ct_i, ct_a, ct_l, os_0, os_s, rc_0, rc_s, sl_0, sl_i, sl_a, sl_l, simprocAttr, ix, z_em, up_eq, up_j, Nat.le_refl, true_or, or_true, true_and, and_true, and_self, or_self, beq_self_eq_true, if_true, if_false, ite_self, ca_f, ca_t, aLen, Int32.lt_iff_toInt_lt, Int32.le_iff_toInt_le, z_ite, z_iten, z_ite1, ite_not, not_true_eq_false, not_false_eq_true, false_and, and_false, false_or, or_false, b_max, b_min, b_minL, b_absL, b_ixD, b_ixH, b_copy, tk_0, tk_s, dr_0, dr_s, pu_s, pu_n, ca_0, ca_1, clr_0, clr_s, e_nop, e_goto, e_if_eq, e_if_ne, e_if_lt, e_if_ge, e_if_gt, e_if_le, e_ic_eq, e_ic_ne, e_ic_lt, e_ic_ge, e_ic_gt, e_ic_le, e_tsw, e_lsw, sw_0, sw_s, e_iret, e_zret, e_lret, e_aret, e_ret, en_0, en_n, en_i, en_a, en_l, List.getElem?_cons_zero, List.getElem?_cons_succ, List.set_cons_zero, List.set_cons_succ, len_s, List.length_nil, ne_eq, x_within, x_in, eT1, eT2, eT3, eT4, eT5, eT6, eM1, eM2, eM3, eM4, eM5, eM6, Nat.one_mul, Nat.mul_one, Nat.zero_add, hl', e1', h65]
          exact r2
        · obtain ⟨m', hm⟩ : ∃ m', m = m' + 1 := ⟨m - 1, by omega⟩
          have n65 : ¬ nI o = 5 := nI_ne (b := 5) (by omega) (by omega) q5
          have tk : tak u (t i) (mkL u E, p, 0, true) = some (mkL u E, 33 :: p, 0, true) := by
            rw [e33]
            unfold tak
            rw [if_neg (by decide), if_pos rfl, if_pos (Or.inl rfl), if_neg (by show ¬ opn p = 5; omega)]
          obtain ⟨r, μ1, j, f1, f2⟩ := h1 m' hm (i + 1) (o + 1) E (33 :: p) (up (up μ 112 6 (nI (o + 1))) 112 5 (nI (i + 1))) (by omega) (by show (if _ then _ else _) = _; rw [if_pos (Or.inl rfl), hp]) (MLR.i (hM.o (o' := o + 1))) hok (by show lvl 33 < 7; decide) (by omega) (by omega)
          have f1' : cl d 139 [Sum.inr (Sum.inr (8, 112))] (up (up μ 112 6 (nI (o + 1))) 112 5 (nI (i + 1))) = _ := f1
          rcases f2 with ⟨rfl, E2, b1, b2, b3, b4, b5⟩ | ⟨rfl, ⟨o', E2, b1⟩, b5⟩
          · obtain ⟨n, c1, q, g1, w1, w2, w3, w4, w5, w6⟩ := b5
            have b1o := b1.2.2.2.1
            have eo : nI (o + 1) - 1 = nI o := by
              rw [nI_succ]
              exact Int32.add_sub_cancel ..
            obtain ⟨μ2, v1, v2⟩ := y_lays (d := d + 1) (a := 2) (b := 0) (b1.o (o' := o)) (by omega)
            have v1' : cl (d + 1) 132 [Sum.inr (Sum.inr (8, 112)), vI 2, vI 0] (up μ1 112 6 (nI o)) = _ := v1
            have hq2 : q ++ 33 :: p = (q ++ [33]) ++ p := by rw [List.append_assoc]; rfl
            have r2 : RES u L t μ0 6 i o E p (some (some (vI 1), μ2)) := by
              refine ⟨1, μ2, j, rfl, Or.inl ⟨rfl, _, v2, ⟨b2, Or.inr (Or.inr (Or.inl ⟨rfl, by omega⟩))⟩, b3, by rw [List.length_cons]; omega, 1 + n, c1, q ++ [33], g1, by omega, w2, ?_, fun s hs => ?_, ?_, fun hj => ?_⟩⟩
              · rw [rnT_add, rnT_1 tk, ← hq2]
                exact w3
              · rcases List.mem_append.mp hs with z | z
                · exact w4 s z
                · rw [List.mem_singleton.mp z]
                  decide
              · rw [mks_app, ← w5]
                rfl
              · rw [← hq2]
                exact w6 hj
            simp -implicitDefEqProofs only [cl_139, u_139_0, u_139_1, u_139_2, u_139_3, u_139_5, u_139_6, u_139_7, u_139_8, u_139_9, u_139_10, u_139_11, u_139_12, u_139_13, u_139_14, u_139_15, u_139_16, u_139_17, u_139_18, cl_138, u_138_0, u_138_1, u_138_2, e_iload_n, e_iload, e_lload_n, e_lload, e_aload_n, e_aload, e_istore_n, e_istore, e_astore_n, e_astore, e_lstore_n, e_lstore, e_iinc, e_iconst, e_bipush, e_sipush, e_ldc_w, e_ldc, e_ldcS, e_lconst, e_ldc2_w, e_iadd, e_isub, e_imul, e_iand, e_ixor, e_ishl, e_ishr, e_iushr, e_idiv, e_irem, e_ineg, e_i2b, e_i2s, e_i2c, e_ladd, e_lsub, e_lmul, e_land, e_lor, e_ldiv, e_lrem, e_lneg, e_lshl, e_lshr, e_lushr, e_i2l, e_l2i, e_lcmp, e_dupI, e_dupA, e_dup2, e_getI, e_getA, e_putI, e_putZ, e_getstatic, e_iaload, e_iastore, e_aaload10, e_alen10, e_aaload11, e_alen11, e_aaload12, e_alen12, e_aaload13, e_alen13, e_alen, e_invokevirtual, e_invokevirtualB, e_invokestatic, e_invokestaticB, ct_0, ct_i, ct_a, ct_l, os_0, os_s, rc_0, rc_s, sl_0, sl_i, sl_a, sl_l, simprocAttr, ix, z_em, up_eq, up_j, Nat.le_refl, true_or, or_true, true_and, and_true, and_self, or_self, beq_self_eq_true, if_true, if_false, ite_self, ca_f, ca_t, aLen, Int32.lt_iff_toInt_lt, Int32.le_iff_toInt_le, z_ite, z_iten, z_ite1, ite_not, not_true_eq_false, not_false_eq_true, false_and, and_false, false_or, or_false, b_max, b_min, b_minL, b_absL, b_ixD, b_ixH, b_copy, tk_0, tk_s, dr_0, dr_s, pu_s, pu_n, ca_0, ca_1, clr_0, clr_s, e_nop, e_goto, e_if_eq, e_if_ne, e_if_lt, e_if_ge, e_if_gt, e_if_le, e_ic_eq, e_ic_ne, e_ic_lt, e_ic_ge, e_ic_gt, e_ic_le, e_tsw, e_lsw, sw_0, sw_s, e_iret, e_zret, e_lret, e_aret, e_ret, en_0, en_n, en_i, en_a, en_l, List.getElem?_cons_zero, List.getElem?_cons_succ, List.set_cons_zero, List.set_cons_succ, len_s, List.length_nil, ne_eq, x_within, x_in, eT1, eT2, eT3, eT4, eT5, eT6, eM1, eM2, eM3, eM4, eM5, eM6, Nat.one_mul, Nat.mul_one, Nat.zero_add, hl', e1', h6, n65, h5, ← nI_succ, f1', b1o, eo, v1']
            exact r2
          · have r2 : RES u L t μ0 6 i o E p (some (some (vI 0), μ1)) := by
              refine RES.fail b1 ?_
              obtain ⟨n, s1, w1, w2, w3, w4, w5⟩ := b5
              refine ⟨1 + n, s1, by omega, w2, ?_, w4, w5⟩
              rw [rnT_add, rnT_1 tk]
              exact w3
            simp -implicitDefEqProofs only [cl_139, u_139_0, u_139_1, u_139_2, u_139_3, u_139_5, u_139_6, u_139_7, u_139_8, u_139_9, u_139_10, u_139_11, u_139_12, u_139_13, u_139_14, u_139_15, u_139_16, u_139_17, u_139_18, cl_138, u_138_0, u_138_1, u_138_2, e_iload_n, e_iload, e_lload_n, e_lload, e_aload_n, e_aload, e_istore_n, e_istore, e_astore_n, e_astore, e_lstore_n, e_lstore, e_iinc, e_iconst, e_bipush, e_sipush, e_ldc_w, e_ldc, e_ldcS, e_lconst, e_ldc2_w, e_iadd, e_isub, e_imul, e_iand, e_ixor, e_ishl, e_ishr, e_iushr, e_idiv, e_irem, e_ineg, e_i2b, e_i2s, e_i2c, e_ladd, e_lsub, e_lmul, e_land, e_lor, e_ldiv, e_lrem, e_lneg, e_lshl, e_lshr, e_lushr, e_i2l, e_l2i, e_lcmp, e_dupI, e_dupA, e_dup2, e_getI, e_getA, e_putI, e_putZ, e_getstatic, e_iaload, e_iastore, e_aaload10, e_alen10, e_aaload11, e_alen11, e_aaload12, e_alen12, e_aaload13, e_alen13, e_alen, e_invokevirtual, e_invokevirtualB, e_invokestatic, e_invokestaticB, ct_0, ct_i, ct_a, ct_l, os_0, os_s, rc_0, rc_s, sl_0, sl_i, sl_a, sl_l, simprocAttr, ix, z_em, up_eq, up_j, Nat.le_refl, true_or, or_true, true_and, and_true, and_self, or_self, beq_self_eq_true, if_true, if_false, ite_self, ca_f, ca_t, aLen, Int32.lt_iff_toInt_lt, Int32.le_iff_toInt_le, z_ite, z_iten, z_ite1, ite_not, not_true_eq_false, not_false_eq_true, false_and, and_false, false_or, or_false, b_max, b_min, b_minL, b_absL, b_ixD, b_ixH, b_copy, tk_0, tk_s, dr_0, dr_s, pu_s, pu_n, ca_0, ca_1, clr_0, clr_s, e_nop, e_goto, e_if_eq, e_if_ne, e_if_lt, e_if_ge, e_if_gt, e_if_le, e_ic_eq, e_ic_ne, e_ic_lt, e_ic_ge, e_ic_gt, e_ic_le, e_tsw, e_lsw, sw_0, sw_s, e_iret, e_zret, e_lret, e_aret, e_ret, en_0, en_n, en_i, en_a, en_l, List.getElem?_cons_zero, List.getElem?_cons_succ, List.set_cons_zero, List.set_cons_succ, len_s, List.length_nil, ne_eq, x_within, x_in, eT1, eT2, eT3, eT4, eT5, eT6, eM1, eM2, eM3, eM4, eM5, eM6, Nat.one_mul, Nat.mul_one, Nat.zero_add, hl', e1', h6, n65, h5, ← nI_succ, f1']
            exact r2
      · by_cases q40 : lk L t i = 40
        · have hiL : i < L := by
            rcases Nat.lt_or_ge i L with z | z
            · exact z
            · exfalso
              unfold lk at q40
              rw [if_neg (by omega)] at q40
              exact absurd q40 (by decide)
          have el : lk L t i = t i := if_pos hiL
          have e40 : t i = 40 := by rw [← el]; exact q40
          rw [q40] at hl' e1'
          by_cases q5 : o = 5
          · have h65 : μ 112 6 = 5 := by rw [h6, q5]; rfl
            have r2 : RES u L t μ0 6 i o E p (some (some (vI 0), μ)) := RES.fail hM (flp (fun _ => ⟨by rw [← el]; exact qN, by rw [← el]; exact qD, fun _ => q5⟩))
            simp -implicitDefEqProofs only [cl_139, u_139_0, u_139_1, u_139_2, u_139_3, u_139_5, u_139_6, u_139_7, u_139_8, u_139_9, u_139_10, u_139_11, u_139_12, u_139_13, u_139_14, u_139_15, u_139_16, u_139_17, u_139_18, cl_138, u_138_0, u_138_1, u_138_2, e_iload_n, e_iload, e_lload_n, e_lload, e_aload_n, e_aload, e_istore_n, e_istore, e_astore_n, e_astore, e_lstore_n, e_lstore, e_iinc, e_iconst, e_bipush, e_sipush, e_ldc_w, e_ldc, e_ldcS, e_lconst, e_ldc2_w, e_iadd, e_isub, e_imul, e_iand, e_ixor, e_ishl, e_ishr, e_iushr, e_idiv, e_irem, e_ineg, e_i2b, e_i2s, e_i2c, e_ladd, e_lsub, e_lmul, e_land, e_lor, e_ldiv, e_lrem, e_lneg, e_lshl, e_lshr, e_lushr, e_i2l, e_l2i, e_lcmp, e_dupI, e_dupA, e_dup2, e_getI, e_getA, e_putI, e_putZ, e_getstatic, e_iaload, e_iastore, e_aaload10, e_alen10, e_aaload11, e_alen11, e_aaload12, e_alen12, e_aaload13, e_alen13, e_alen, e_invokevirtual, e_invokevirtualB, e_invokestatic, e_invokestaticB, ct_0, ct_i, ct_a, ct_l, os_0, os_s, rc_0, rc_s, sl_0, sl_i, sl_a, sl_l, simprocAttr, ix, z_em, up_eq, up_j, Nat.le_refl, true_or, or_true, true_and, and_true, and_self, or_self, beq_self_eq_true, if_true, if_false, ite_self, ca_f, ca_t, aLen, Int32.lt_iff_toInt_lt, Int32.le_iff_toInt_le, z_ite, z_iten, z_ite1, ite_not, not_true_eq_false, not_false_eq_true, false_and, and_false, false_or, or_false, b_max, b_min, b_minL, b_absL, b_ixD, b_ixH, b_copy, tk_0, tk_s, dr_0, dr_s, pu_s, pu_n, ca_0, ca_1, clr_0, clr_s, e_nop, e_goto, e_if_eq, e_if_ne, e_if_lt, e_if_ge, e_if_gt, e_if_le, e_ic_eq, e_ic_ne, e_ic_lt, e_ic_ge, e_ic_gt, e_ic_le, e_tsw, e_lsw, sw_0, sw_s, e_iret, e_zret, e_lret, e_aret, e_ret, en_0, en_n, en_i, en_a, en_l, List.getElem?_cons_zero, List.getElem?_cons_succ, List.set_cons_zero, List.set_cons_succ, len_s, List.length_nil, ne_eq, x_within, x_in, eT1, eT2, eT3, eT4, eT5, eT6, eM1, eM2, eM3, eM4, eM5, eM6, Nat.one_mul, Nat.mul_one, Nat.zero_add, hl', e1', h65]
            exact r2
          · obtain ⟨m', hm⟩ : ∃ m', m = m' + 1 := ⟨m - 1, by omega⟩
            have n65 : ¬ nI o = 5 := nI_ne (b := 5) (by omega) (by omega) q5
            have tk : tak u (t i) (mkL u E, p, 0, true) = some (mkL u E, 40 :: p, 0, true) := by
              rw [e40]
              unfold tak
              rw [if_neg (by decide), if_pos rfl, if_pos (Or.inr rfl), if_neg (by show ¬ opn p = 5; omega)]
            obtain ⟨r, μ1, j, f1, f2⟩ := h2 m' hm (i + 1) (o + 1) E (40 :: p) (up (up μ 112 6 (nI (o + 1))) 112 5 (nI (i + 1))) (by omega) (by show (if _ then _ else _) = _; rw [if_pos (Or.inr rfl), hp]) (MLR.i (hM.o (o' := o + 1))) hok (by show lvl 40 < 1; decide) (by omega) (by omega)
            have f1' : cl d 133 [Sum.inr (Sum.inr (8, 112))] (up (up μ 112 6 (nI (o + 1))) 112 5 (nI (i + 1))) = _ := f1
            rcases f2 with ⟨rfl, E2, b1, b2, b3, b4, b5⟩ | ⟨rfl, ⟨o', E2, b1⟩, b5⟩
            · obtain ⟨n, c1, q, g1, w1, w2, w3, w4, w5, w6⟩ := b5
              have hl2 := y_lk (d := d + 1) hT b1 w2
              have hl2' : cl (d + 1) 130 [Sum.inr (Sum.inr (8, 112))] μ1 = _ := hl2
              have hclo := clo_app (l := 1) (p := 40 :: p) (by show lvl 40 < 1; decide) q c1 w4
              have eo : nI (o + 1) - 1 = nI o := by
                rw [nI_succ]
                exact Int32.add_sub_cancel ..
              by_cases q41 : lk L t j = 41
              · have hjL : j < L := by
                  rcases Nat.lt_or_ge j L with z | z
                  · exact z
                  · exfalso
                    unfold lk at q41
                    rw [if_neg (by omega)] at q41
                    exact absurd q41 (by decide)
                have e41 : t j = 41 := by rw [← q41]; exact (if_pos hjL).symm
                rw [q41] at hl2'
                have tk2 : tak u (t j) (c1, q ++ 40 :: p, g1, false) = some (mks q c1, p, 0, false) := by
                  rw [e41]
                  unfold tak
                  rw [if_neg (by decide), if_neg (by simp), if_pos rfl]
                  simp only [hclo]
                have b5' := b1.2.2.1
                have b6' := b1.2.2.2.1
                have r2 : RES u L t μ0 6 i o E p (some (some (vI 1), up (up μ1 112 5 (nI (j + 1))) 112 6 (nI o))) := by
                  refine ⟨1, _, j + 1, rfl, Or.inl ⟨rfl, E2, (b1.i (j := j + 1)).o, b2, b3, by omega, 1 + (n + 1), mks q c1, [], 0, by omega, by omega, ?_, (fun s hs => by cases hs), w5, fun hj => ⟨fun _ => Or.inl rfl, fun hk => Or.inl (by have := lv6 (t (j + 1)); omega)⟩⟩⟩
                  rw [rnT_add, rnT_1 tk]
                  show rnT u t (n + 1) (i + 1) (mkL u E, 40 :: p, 0, true) = _
                  rw [rnT_add, w3]
                  show rnT u t 1 (i + 1 + n) (c1, q ++ 40 :: p, g1, false) = _
                  rw [← w1]
                  exact rnT_1 tk2
                simp -implicitDefEqProofs only [cl_139, u_139_0, u_139_1, u_139_2, u_139_3, u_139_5, u_139_6, u_139_7, u_139_8, u_139_9, u_139_10, u_139_11, u_139_12, u_139_13, u_139_14, u_139_15, u_139_16, u_139_17, u_139_18, cl_138, u_138_0, u_138_1, u_138_2, e_iload_n, e_iload, e_lload_n, e_lload, e_aload_n, e_aload, e_istore_n, e_istore, e_astore_n, e_astore, e_lstore_n, e_lstore, e_iinc, e_iconst, e_bipush, e_sipush, e_ldc_w, e_ldc, e_ldcS, e_lconst, e_ldc2_w, e_iadd, e_isub, e_imul, e_iand, e_ixor, e_ishl, e_ishr, e_iushr, e_idiv, e_irem, e_ineg, e_i2b, e_i2s, e_i2c, e_ladd, e_lsub, e_lmul, e_land, e_lor, e_ldiv, e_lrem, e_lneg, e_lshl, e_lshr, e_lushr, e_i2l, e_l2i, e_lcmp, e_dupI, e_dupA, e_dup2, e_getI, e_getA, e_putI, e_putZ, e_getstatic, e_iaload, e_iastore, e_aaload10, e_alen10, e_aaload11, e_alen11, e_aaload12, e_alen12, e_aaload13, e_alen13, e_alen, e_invokevirtual, e_invokevirtualB, e_invokestatic, e_invokestaticB, ct_0, ct_i, ct_a, ct_l, os_0, os_s, rc_0, rc_s, sl_0, sl_i, sl_a, sl_l, simprocAttr, ix, z_em, up_eq, up_j, Nat.le_refl, true_or, or_true, true_and, and_true, and_self, or_self, beq_self_eq_true, if_true, if_false, ite_self, ca_f, ca_t, aLen, Int32.lt_iff_toInt_lt, Int32.le_iff_toInt_le, z_ite, z_iten, z_ite1, ite_not, not_true_eq_false, not_false_eq_true, false_and, and_false, false_or, or_false, b_max, b_min, b_minL, b_absL, b_ixD, b_ixH, b_copy, tk_0, tk_s, dr_0, dr_s, pu_s, pu_n, ca_0, ca_1, clr_0, clr_s, e_nop, e_goto, e_if_eq, e_if_ne, e_if_lt, e_if_ge, e_if_gt, e_if_le, e_ic_eq, e_ic_ne, e_ic_lt, e_ic_ge, e_ic_gt, e_ic_le, e_tsw, e_lsw, sw_0, sw_s, e_iret, e_zret, e_lret, e_aret, e_ret, en_0, en_n, en_i, en_a, en_l, List.getElem?_cons_zero, List.getElem?_cons_succ, List.set_cons_zero, List.set_cons_succ, len_s, List.length_nil, ne_eq, x_within, x_in, eT1, eT2, eT3, eT4, eT5, eT6, eM1, eM2, eM3, eM4, eM5, eM6, Nat.one_mul, Nat.mul_one, Nat.zero_add, hl', e1', h6, n65, h5, ← nI_succ, f1', hl2', b5', b6', eo]
                exact r2
              · have r2 : RES u L t μ0 6 i o E p (some (some (vI 0), μ1)) := by
                  refine RES.fail b1 ⟨1 + n, (c1, q ++ 40 :: p, g1, false), by omega, w2, ?_, fun hj => ?_, fun hj => Or.inr ?_⟩
                  · rw [rnT_add, rnT_1 tk]
                    exact w3
                  · refine stk_no (w6 hj) (Or.inl fun z => q41 ?_)
                    rw [← z]
                    exact if_pos hj
                  · show (clo 1 (q ++ 40 :: p) c1).1 ≠ []
                    rw [hclo]
                    simp
                simp -implicitDefEqProofs only [cl_139, u_139_0, u_139_1, u_139_2, u_139_3, u_139_5, u_139_6, u_139_7, u_139_8, u_139_9, u_139_10, u_139_11, u_139_12, u_139_13, u_139_14, u_139_15, u_139_16, u_139_17, u_139_18, cl_138, u_138_0, u_138_1, u_138_2, e_iload_n, e_iload, e_lload_n, e_lload, e_aload_n, e_aload, e_istore_n, e_istore, e_astore_n, e_astore, e_lstore_n, e_lstore, e_iinc, e_iconst, e_bipush, e_sipush, e_ldc_w, e_ldc, e_ldcS, e_lconst, e_ldc2_w, e_iadd, e_isub, e_imul, e_iand, e_ixor, e_ishl, e_ishr, e_iushr, e_idiv, e_irem, e_ineg, e_i2b, e_i2s, e_i2c, e_ladd, e_lsub, e_lmul, e_land, e_lor, e_ldiv, e_lrem, e_lneg, e_lshl, e_lshr, e_lushr, e_i2l, e_l2i, e_lcmp, e_dupI, e_dupA, e_dup2, e_getI, e_getA, e_putI, e_putZ, e_getstatic, e_iaload, e_iastore, e_aaload10, e_alen10, e_aaload11, e_alen11, e_aaload12, e_alen12, e_aaload13, e_alen13, e_alen, e_invokevirtual, e_invokevirtualB, e_invokestatic, e_invokestaticB, ct_0, ct_i, ct_a, ct_l, os_0, os_s, rc_0, rc_s, sl_0, sl_i, sl_a, sl_l, simprocAttr, ix, z_em, up_eq, up_j, Nat.le_refl, true_or, or_true, true_and, and_true, and_self, or_self, beq_self_eq_true, if_true, if_false, ite_self, ca_f, ca_t, aLen, Int32.lt_iff_toInt_lt, Int32.le_iff_toInt_le, z_ite, z_iten, z_ite1, ite_not, not_true_eq_false, not_false_eq_true, false_and, and_false, false_or, or_false, b_max, b_min, b_minL, b_absL, b_ixD, b_ixH, b_copy, tk_0, tk_s, dr_0, dr_s, pu_s, pu_n, ca_0, ca_1, clr_0, clr_s, e_nop, e_goto, e_if_eq, e_if_ne, e_if_lt, e_if_ge, e_if_gt, e_if_le, e_ic_eq, e_ic_ne, e_ic_lt, e_ic_ge, e_ic_gt, e_ic_le, e_tsw, e_lsw, sw_0, sw_s, e_iret, e_zret, e_lret, e_aret, e_ret, en_0, en_n, en_i, en_a, en_l, List.getElem?_cons_zero, List.getElem?_cons_succ, List.set_cons_zero, List.set_cons_succ, len_s, List.length_nil, ne_eq, x_within, x_in, eT1, eT2, eT3, eT4, eT5, eT6, eM1, eM2, eM3, eM4, eM5, eM6, Nat.one_mul, Nat.mul_one, Nat.zero_add, hl', e1', h6, n65, h5, ← nI_succ, f1', hl2', q41]
                exact r2
            · have r2 : RES u L t μ0 6 i o E p (some (some (vI 0), μ1)) := by
                refine RES.fail b1 ?_
                obtain ⟨n, s1, w1, w2, w3, w4, w5⟩ := b5
                refine ⟨1 + n, s1, by omega, w2, ?_, w4, w5⟩
                rw [rnT_add, rnT_1 tk]
                exact w3
              simp -implicitDefEqProofs only [cl_139, u_139_0, u_139_1, u_139_2, u_139_3, u_139_5, u_139_6, u_139_7, u_139_8, u_139_9, u_139_10, u_139_11, u_139_12, u_139_13, u_139_14, u_139_15, u_139_16, u_139_17, u_139_18, cl_138, u_138_0, u_138_1, u_138_2, e_iload_n, e_iload, e_lload_n, e_lload, e_aload_n, e_aload, e_istore_n, e_istore, e_astore_n, e_astore, e_lstore_n, e_lstore, e_iinc, e_iconst, e_bipush, e_sipush, e_ldc_w, e_ldc, e_ldcS, e_lconst, e_ldc2_w, e_iadd, e_isub, e_imul, e_iand, e_ixor, e_ishl, e_ishr, e_iushr, e_idiv, e_irem, e_ineg, e_i2b, e_i2s, e_i2c, e_ladd, e_lsub, e_lmul, e_land, e_lor, e_ldiv, e_lrem, e_lneg, e_lshl, e_lshr, e_lushr, e_i2l, e_l2i, e_lcmp, e_dupI, e_dupA, e_dup2, e_getI, e_getA, e_putI, e_putZ, e_getstatic, e_iaload, e_iastore, e_aaload10, e_alen10, e_aaload11, e_alen11, e_aaload12, e_alen12, e_aaload13, e_alen13, e_alen, e_invokevirtual, e_invokevirtualB, e_invokestatic, e_invokestaticB, ct_0, ct_i, ct_a, ct_l, os_0, os_s, rc_0, rc_s, sl_0, sl_i, sl_a, sl_l, simprocAttr, ix, z_em, up_eq, up_j, Nat.le_refl, true_or, or_true, true_and, and_true, and_self, or_self, beq_self_eq_true, if_true, if_false, ite_self, ca_f, ca_t, aLen, Int32.lt_iff_toInt_lt, Int32.le_iff_toInt_le, z_ite, z_iten, z_ite1, ite_not, not_true_eq_false, not_false_eq_true, false_and, and_false, false_or, or_false, b_max, b_min, b_minL, b_absL, b_ixD, b_ixH, b_copy, tk_0, tk_s, dr_0, dr_s, pu_s, pu_n, ca_0, ca_1, clr_0, clr_s, e_nop, e_goto, e_if_eq, e_if_ne, e_if_lt, e_if_ge, e_if_gt, e_if_le, e_ic_eq, e_ic_ne, e_ic_lt, e_ic_ge, e_ic_gt, e_ic_le, e_tsw, e_lsw, sw_0, sw_s, e_iret, e_zret, e_lret, e_aret, e_ret, en_0, en_n, en_i, en_a, en_l, List.getElem?_cons_zero, List.getElem?_cons_succ, List.set_cons_zero, List.set_cons_succ, len_s, List.length_nil, ne_eq, x_within, x_in, eT1, eT2, eT3, eT4, eT5, eT6, eM1, eM2, eM3, eM4, eM5, eM6, Nat.one_mul, Nat.mul_one, Nat.zero_add, hl', e1', h6, n65, h5, ← nI_succ, f1']
              exact r2
        · have r2 : RES u L t μ0 6 i o E p (some (some (vI 0), μ)) := RES.fail hM (flp (fun hj => by
            have el : lk L t i = t i := if_pos hj
            rw [el] at qN qD q33 q40
            exact ⟨qN, qD, fun z => absurd z (fun z => z.elim q33 q40)⟩))
          simp -implicitDefEqProofs only [cl_139, u_139_0, u_139_1, u_139_2, u_139_3, u_139_5, u_139_6, u_139_7, u_139_8, u_139_9, u_139_10, u_139_11, u_139_12, u_139_13, u_139_14, u_139_15, u_139_16, u_139_17, u_139_18, e_iload_n, e_iload, e_lload_n, e_lload, e_aload_n, e_aload, e_istore_n, e_istore, e_astore_n, e_astore, e_lstore_n, e_lstore, e_iinc, e_iconst, e_bipush, e_sipush, e_ldc_w, e_ldc, e_ldcS, e_lconst, e_ldc2_w, e_iadd, e_isub, e_imul, e_iand, e_ixor, e_ishl, e_ishr, e_iushr, e_idiv, e_irem, e_ineg, e_i2b, e_i2s, e_i2c, e_ladd, e_lsub, e_lmul, e_land, e_lor, e_ldiv, e_lrem, e_lneg, e_lshl, e_lshr, e_lushr, e_i2l, e_l2i, e_lcmp, e_dupI, e_dupA, e_dup2, e_getI, e_getA, e_putI, e_putZ, e_getstatic, e_iaload, e_iastore, e_aaload10, e_alen10, e_aaload11, e_alen11, e_aaload12, e_alen12, e_aaload13, e_alen13, e_alen, e_invokevirtual, e_invokevirtualB, e_invokestatic, e_invokestaticB, ct_0, ct_i, ct_a, ct_l, os_0, os_s, rc_0, rc_s, sl_0, sl_i, sl_a, sl_l, simprocAttr, ix, z_em, up_eq, up_j, Nat.le_refl, true_or, or_true, true_and, and_true, and_self, or_self, beq_self_eq_true, if_true, if_false, ite_self, ca_f, ca_t, aLen, Int32.lt_iff_toInt_lt, Int32.le_iff_toInt_le, z_ite, z_iten, z_ite1, ite_not, not_true_eq_false, not_false_eq_true, false_and, and_false, false_or, or_false, b_max, b_min, b_minL, b_absL, b_ixD, b_ixH, b_copy, tk_0, tk_s, dr_0, dr_s, pu_s, pu_n, ca_0, ca_1, clr_0, clr_s, e_nop, e_goto, e_if_eq, e_if_ne, e_if_lt, e_if_ge, e_if_gt, e_if_le, e_ic_eq, e_ic_ne, e_ic_lt, e_ic_ge, e_ic_gt, e_ic_le, e_tsw, e_lsw, sw_0, sw_s, e_iret, e_zret, e_lret, e_aret, e_ret, en_0, en_n, en_i, en_a, en_l, List.getElem?_cons_zero, List.getElem?_cons_succ, List.set_cons_zero, List.set_cons_succ, len_s, List.length_nil, ne_eq, x_within, x_in, eT1, eT2, eT3, eT4, eT5, eT6, eM1, eM2, eM3, eM4, eM5, eM6, Nat.one_mul, Nat.mul_one, Nat.zero_add, hl', e1', qD, q33, q40]
          exact r2
theorem z_all {u L : Nat} {t : Nat → Int32} {μ0 : Mem} (hT : TP u L t μ0) (hr : ∀ i, i < L → 0 ≤ (t i).toInt ∧ (t i).toInt ≤ 255) : ∀ m d, SPEC u L t μ0 139 (d + m + 1) 6 7 m ∧ SPEC u L t μ0 133 (d + m + 1) 1 1 m := by
  intro m
  induction m with
  | zero =>
    intro d
    have a := z_one (d := d + 0) hT hr (m := 0) (fun m' h => by omega) (fun m' h => by omega)
    exact ⟨a, z_whole hT (z_both hT (z_compared hT (z_sum hT (z_product hT a))))⟩
  | succ m ih =>
    intro d
    obtain ⟨i1, i2⟩ := ih d
    have a := z_one (d := d + m + 1) hT hr (m := m + 1) (fun m' h => by
      have : m' = m := by omega
      subst this
      exact i1) (fun m' h => by
      have : m' = m := by omega
      subst this
      exact i2)
    have a' : SPEC u L t μ0 139 (d + (m + 1) + 1) 6 7 (m + 1) := a
    exact ⟨a', z_whole hT (z_both hT (z_compared hT (z_sum hT (z_product hT a'))))⟩
