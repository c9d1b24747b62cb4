/-! THE MODEL'S MINUTE: what comes. -/
theorem up_comm {V : Mem} {o k o2 k2 : Nat} {x y : Int32} (h : ¬ (o = o2 ∧ k = k2)) : up (up V o k x) o2 k2 y = up (up V o2 k2 y) o k x := by
  funext a c
  unfold up
  by_cases q1 : a = o2 ∧ c = k2
  · rw [if_pos q1, if_neg (fun q => h ⟨q.1.symm.trans q1.1, q.2.symm.trans q1.2⟩), if_pos q1]
  · rw [if_neg q1]
    by_cases q2 : a = o ∧ c = k
    · rw [if_pos q2, if_pos q2]
    · rw [if_neg q2, if_neg q2, if_neg q1]
theorem kp_up1 {tx : TX} {V : Mem} {w r : Nat} {x : Int32} (hw : w < 4) : keepsP tx (up V (10 + r) 6 x) w r = keepsP tx V w r := by
  have n1 : ∀ k, up V (10 + r) 6 x (1 + w) k = V (1 + w) k := fun k => up_o (by omega)
  have n2 : ∀ k, ¬ k = 6 → up V (10 + r) 6 x (10 + r) k = V (10 + r) k := fun k h => up_j h
  unfold keepsP
  simp only [n1, n2 0 (by decide), n2 1 (by decide), n2 4 (by decide)]
theorem ad_r {r k : Nat} {c : Int32} (hr : r < 8) (hk : k < 8) (hc : c = nI k) : 106 + 8 * nI r + c = nI (106 + 8 * r + k) := by
  have q1 := nIm (a := 8) (b := r) (by omega) (by omega) (by omega)
  have q2 := nIa (a := 106) (b := 8 * r) (by omega)
  have q3 := nIa (a := 106 + 8 * r) (b := k) (by omega)
  rw [hc]
  show nI 106 + nI 8 * nI r + nI k = _
  rw [q1, q2, q3]
theorem y_comes {d r w : Nat} {μ : Mem} (hr : r < 8) (hw : w < 4) (hwe : vM 113 μ (10 + r) 2 = nI w) (hL : LWM μ) (hW : WFV (vM 113 μ)) (hD : WFD (vM 113 μ)) (hm : (vM 113 μ 0 2).toInt ≤ 15000) (hd : (vM 113 μ (10 + r) 7).toInt ≤ (vM 113 μ 0 2).toInt) : ∃ μ', cl d 150 [vR 8 112, vI (nI r)] μ = some (none, μ') ∧ vM 113 μ' = comeP (mn 99999) (txM μ) (vM 113 μ) r ∧ FrM μ μ' := by
  have aR : 106 + 8 * nI r + 6 = nI (106 + 8 * r + 6) := ad_r hr (by decide) rfl
  have iR : (nI (106 + 8 * r + 6)).toInt = (106 + 8 * r + 6 : Nat) := nI_toInt (by omega)
  have dR : (nI (106 + 8 * r + 6)).toNatClampNeg = 106 + 8 * r + 6 := ix_nI (by omega)
  have bR : (0 : Int) ≤ ((106 + 8 * r + 6 : Nat) : Int) ∧ ((106 + 8 * r + 6 : Nat) : Int) < 504 := by omega
  have hV : ∃ V, V = vM 113 μ := ⟨_, rfl⟩
  obtain ⟨V, hV⟩ := hV
  have hM : ∃ μ1, μ1 = up μ 113 (106 + 8 * r + 6) 1 := ⟨_, rfl⟩
  obtain ⟨μ1, e1⟩ := hM
  have v1 : vM 113 μ1 = up V (10 + r) 6 1 := by rw [e1, umr hr (by decide), hV]
  have f1 : FrM μ μ1 := by rw [e1]; exact FrM.rf.up (by omega)
  have w1 : ∀ k, vM 113 μ1 (1 + w) k = V (1 + w) k := fun k => by rw [v1, up_o (by omega)]
  have r1 : ∀ k, ¬ k = 6 → vM 113 μ1 (10 + r) k = V (10 + r) k := fun k h => by rw [v1, up_j h]
  have s1 : ∀ k, vM 113 μ1 0 k = V 0 k := fun k => by rw [v1, up_o (by omega)]
  rw [← hV] at hW hD hm hd hwe
  obtain ⟨μ2, k1, kA⟩ := y_keeps (d := d) (μ := μ1) hr hw (by rw [r1 2 (by decide)]; exact hwe) (f1.lw hL)
  rw [v1, f1.tx, kp_up1 hw] at k1
  have k1' : cl d 146 [Sum.inr (Sum.inr (8, 112)), vI (nI r)] μ1 = _ := k1
  have v2 : vM 113 μ2 = vM 113 μ1 := vM_congr (kA 113 (by decide) (by decide))
  have hx := kp_in (tx := txM μ) (r := r) hW hw
  generalize hxe : keepsP (txM μ) V w r = x at *
  have g0 := gw0 hW hw
  have g6 := gw6 hW hw
  have g4 := gw4 hW hw
  have g5 := hD.2
  have gm := gs2 hW
  have g3 := gr3 hW hr
  have gt := gr4 hW hr
  have g37 := hD.1 r hr
  have q1 : (V (1 + w) 6 + V (1 + w) 0).toInt = (V (1 + w) 6).toInt + (V (1 + w) 0).toInt := ta (by omega) (by omega)
  have q2 : (V (1 + w) 6 + V (1 + w) 0 - x).toInt = (V (1 + w) 6).toInt + (V (1 + w) 0).toInt - x.toInt := by rw [ts] <;> rw [q1] <;> omega
  have q3 : (V 0 5 + V 0 2).toInt = (V 0 5).toInt + (V 0 2).toInt := ta (by omega) (by omega)
  have q4 : (V 0 5 + V 0 2 - V (10 + r) 3).toInt = (V 0 5).toInt + (V 0 2).toInt - (V (10 + r) 3).toInt := by rw [ts] <;> rw [q3] <;> omega
  have q5 : (V (1 + w) 4 + V (10 + r) 4).toInt = (V (1 + w) 4).toInt + (V (10 + r) 4).toInt := ta (by omega) (by omega)
  have hwi : (V (10 + r) 2).toNatClampNeg = w := by rw [hwe]; exact ix_nI (by omega)
  have nr : ¬ 10 + r = 1 + w := by omega
  have nz : ¬ (0 : Nat) = 1 + w := by omega
  have m5 : ∀ μ3 : Mem, μ3 113 5 = vM 113 μ3 0 5 := fun μ3 => ms5
  have m2 : ∀ μ3 : Mem, μ3 113 2 = vM 113 μ3 0 2 := fun μ3 => ms2
  have u0 : ∀ (μ3 : Mem) v, vM 113 (up μ3 113 (10 + 24 * w + 0) v) = up (vM 113 μ3) (1 + w) 0 v := fun μ3 v => umw hw (by decide)
  have u4 : ∀ (μ3 : Mem) v, vM 113 (up μ3 113 (10 + 24 * w + 4) v) = up (vM 113 μ3) (1 + w) 4 v := fun μ3 v => umw hw (by decide)
  have u6 : ∀ (μ3 : Mem) v, vM 113 (up μ3 113 (10 + 24 * w + 6) v) = up (vM 113 μ3) (1 + w) 6 v := fun μ3 v => umw hw (by decide)
  unfold comeP
  simp only []
  rw [← hV, hwi, hxe]
  by_cases q0 : V (1 + w) 4 = 0
  · have hM4 : ∃ μ4, μ4 = up (up (up μ2 113 (10 + 24 * w + 6) (heldP (V (1 + w) 6 + V (1 + w) 0 - x) 0 99999)) 113 (10 + 24 * w + 0) x) 113 (10 + 24 * w + 4) (V (10 + r) 4) := ⟨_, rfl⟩
    obtain ⟨μ4, e4⟩ := hM4
    have v4 : vM 113 μ4 = up (up (up (up V (10 + r) 6 1) (1 + w) 6 (heldP (V (1 + w) 6 + V (1 + w) 0 - x) 0 99999)) (1 + w) 0 x) (1 + w) 4 (V (10 + r) 4) := by rw [e4, u4, u0, u6, v2, v1]
    have s45 : μ4 113 5 = V 0 5 := by rw [m5 μ4, v4, up_o nz, up_o nz, up_o nz, up_o (by omega)]
    have s42 : μ4 113 2 = V 0 2 := by rw [m2 μ4, v4, up_o nz, up_o nz, up_o nz, up_o (by omega)]
    have r43 : vM 113 μ4 (10 + r) 3 = V (10 + r) 3 := by rw [v4, up_o nr, up_o nr, up_o nr, up_j (by decide)]
    refine ⟨up μ4 113 5 (heldP (V 0 5 + V 0 2 - V (10 + r) 3) 0 99999), ?_, ?_, ?_⟩
    · simp -implicitDefEqProofs only [cl_150, u_150_0, u_150_1, u_150_2, u_150_3, e_iload_n, e_iload, e_lload_n, e_lload, e_aload_n, e_aload, e_istore_n, e_istore, e_astore_n, e_astore, e_lstore_n, e_lstore, e_iinc, e_iconst, e_bipush, e_sipush, e_ldc_w, e_ldc, e_ldcS, e_lconst, e_ldc2_w, e_iadd, e_isub, e_imul, e_iand, e_ixor, e_ishl, e_ishr, e_iushr, e_idiv, e_irem, e_ineg, e_i2b, e_i2s, e_i2c, e_ladd, e_lsub, e_lmul, e_land, e_lor, e_ldiv, e_lrem, e_lneg, e_lshl, e_lshr, e_lushr, e_i2l, e_l2i, e_lcmp, e_dupI, e_dupA, e_dup2, e_getI, e_getA, e_putI, e_putZ, e_getstatic, e_iaload, e_iastore, e_aaload10, e_alen10, e_aaload11, e_alen11, e_aaload12, e_alen12, e_aaload13, e_alen13, e_alen, e_invokevirtual, e_invokevirtualB, e_invokestatic, e_invokestaticB, ct_0, ct_i, ct_a, ct_l, os_0, os_s, rc_0, rc_s, sl_0, sl_i, sl_a, sl_l, simprocAttr, ix, z_em, up_eq, up_j, Nat.le_refl, true_or, or_true, true_and, and_true, and_self, or_self, beq_self_eq_true, if_true, if_false, ite_self, ca_f, ca_t, aLen, Int32.lt_iff_toInt_lt, Int32.le_iff_toInt_le, z_ite, z_iten, z_ite1, ite_not, not_true_eq_false, not_false_eq_true, false_and, and_false, false_or, or_false, b_max, b_min, b_minL, b_absL, b_ixD, b_ixH, b_copy, tk_0, tk_s, dr_0, dr_s, pu_s, pu_n, ca_0, ca_1, clr_0, clr_s, e_nop, e_goto, e_if_eq, e_if_ne, e_if_lt, e_if_ge, e_if_gt, e_if_le, e_ic_eq, e_ic_ne, e_ic_lt, e_ic_ge, e_ic_gt, e_ic_le, e_tsw, e_lsw, sw_0, sw_s, e_iret, e_zret, e_lret, e_aret, e_ret, en_0, en_n, en_i, en_a, en_l, List.getElem?_cons_zero, List.getElem?_cons_succ, List.set_cons_zero, List.set_cons_succ, len_s, List.length_nil, ne_eq, yo2 hr, yo4 hr, yo3 hr, ← hV, hwe, aR, iR, dR, if_pos bR, ← e1, yi4 hw, yl4 hw, w1, if_pos q0, k1', y_sinks hw, v2, u0, u6, up_o nr, r1 4 (show ¬ 4 = 6 by decide), ← e4, s45, s42, r43, x_held]
    · rw [ums5, v4, if_pos q0]
      unfold leaveP
      rw [up_o (by omega), up_o (by omega), up_o (by omega), up_o (by omega)]
      rw [held_mn (by omega), held_mn (by omega)]
      rw [up_comm (o := 1 + w) (k := 4) (by omega), up_comm (o := 1 + w) (k := 0) (o2 := 0) (by omega), up_comm (o := 1 + w) (k := 6) (o2 := 0) (by omega)]
    · rw [e4]
      exact ((((f1.tr kA.fr).up (by omega)).up (by omega)).up (by omega)).up (by omega)
  · have hM4 : ∃ μ4, μ4 = up μ1 113 (10 + 24 * w + 4) (heldP (V (1 + w) 4 + V (10 + r) 4) 0 999) := ⟨_, rfl⟩
    obtain ⟨μ4, e4⟩ := hM4
    have v4 : vM 113 μ4 = up (up V (10 + r) 6 1) (1 + w) 4 (heldP (V (1 + w) 4 + V (10 + r) 4) 0 999) := by rw [e4, u4, v1]
    have s45 : μ4 113 5 = V 0 5 := by rw [m5 μ4, v4, up_o nz, up_o (by omega)]
    have s42 : μ4 113 2 = V 0 2 := by rw [m2 μ4, v4, up_o nz, up_o (by omega)]
    have r43 : vM 113 μ4 (10 + r) 3 = V (10 + r) 3 := by rw [v4, up_o nr, up_j (by decide)]
    refine ⟨up μ4 113 5 (heldP (V 0 5 + V 0 2 - V (10 + r) 3) 0 99999), ?_, ?_, ?_⟩
    · simp -implicitDefEqProofs only [cl_150, u_150_0, u_150_1, u_150_2, u_150_3, e_iload_n, e_iload, e_lload_n, e_lload, e_aload_n, e_aload, e_istore_n, e_istore, e_astore_n, e_astore, e_lstore_n, e_lstore, e_iinc, e_iconst, e_bipush, e_sipush, e_ldc_w, e_ldc, e_ldcS, e_lconst, e_ldc2_w, e_iadd, e_isub, e_imul, e_iand, e_ixor, e_ishl, e_ishr, e_iushr, e_idiv, e_irem, e_ineg, e_i2b, e_i2s, e_i2c, e_ladd, e_lsub, e_lmul, e_land, e_lor, e_ldiv, e_lrem, e_lneg, e_lshl, e_lshr, e_lushr, e_i2l, e_l2i, e_lcmp, e_dupI, e_dupA, e_dup2, e_getI, e_getA, e_putI, e_putZ, e_getstatic, e_iaload, e_iastore, e_aaload10, e_alen10, e_aaload11, e_alen11, e_aaload12, e_alen12, e_aaload13, e_alen13, e_alen, e_invokevirtual, e_invokevirtualB, e_invokestatic, e_invokestaticB, ct_0, ct_i, ct_a, ct_l, os_0, os_s, rc_0, rc_s, sl_0, sl_i, sl_a, sl_l, simprocAttr, ix, z_em, up_eq, up_j, Nat.le_refl, true_or, or_true, true_and, and_true, and_self, or_self, beq_self_eq_true, if_true, if_false, ite_self, ca_f, ca_t, aLen, Int32.lt_iff_toInt_lt, Int32.le_iff_toInt_le, z_ite, z_iten, z_ite1, ite_not, not_true_eq_false, not_false_eq_true, false_and, and_false, false_or, or_false, b_max, b_min, b_minL, b_absL, b_ixD, b_ixH, b_copy, tk_0, tk_s, dr_0, dr_s, pu_s, pu_n, ca_0, ca_1, clr_0, clr_s, e_nop, e_goto, e_if_eq, e_if_ne, e_if_lt, e_if_ge, e_if_gt, e_if_le, e_ic_eq, e_ic_ne, e_ic_lt, e_ic_ge, e_ic_gt, e_ic_le, e_tsw, e_lsw, sw_0, sw_s, e_iret, e_zret, e_lret, e_aret, e_ret, en_0, en_n, en_i, en_a, en_l, List.getElem?_cons_zero, List.getElem?_cons_succ, List.set_cons_zero, List.set_cons_succ, len_s, List.length_nil, ne_eq, yo2 hr, yo4 hr, yo3 hr, ← hV, hwe, aR, iR, dR, if_pos bR, ← e1, yi4 hw, yl4 hw, w1, if_neg q0, r1 4 (show ¬ 4 = 6 by decide), x_held, ← e4, s45, s42, r43]
    · rw [ums5, v4, if_neg q0]
      rw [held_mn (by omega), held_mn (by omega)]
      rw [up_comm (o := 1 + w) (k := 4) (by omega)]
    · rw [e4]
      exact (f1.up (by omega)).up (by omega)
theorem up_self {V : Mem} {o k : Nat} {v : Int32} (h : V o k = v) : up V o k v = V := by
  funext a c
  unfold up
  by_cases q : a = o ∧ c = k
  · rw [if_pos q, q.1, q.2, h]
  · rw [if_neg q]
theorem y_works {d w : Nat} {μ : Mem} (hw : w < 4) (hL : LWM μ) (hW : WFV (vM 113 μ)) (hm : (vM 113 μ 0 2).toInt ≤ 15000) : ∃ μ', cl d 151 [vR 8 112, vI (nI w)] μ = some (none, μ') ∧ vM 113 μ' = workP (txM μ) (vM 113 μ) w ∧ FrM μ μ' := by
  have hV : ∃ V, V = vM 113 μ := ⟨_, rfl⟩
  obtain ⟨V, hV⟩ := hV
  have u0 : ∀ (μ3 : Mem) v, vM 113 (up μ3 113 (10 + 24 * w + 0) v) = up (vM 113 μ3) (1 + w) 0 v := fun μ3 v => umw hw (by decide)
  have u2 : ∀ (μ3 : Mem) v, vM 113 (up μ3 113 (10 + 24 * w + 2) v) = up (vM 113 μ3) (1 + w) 2 v := fun μ3 v => umw hw (by decide)
  have u3 : ∀ (μ3 : Mem) v, vM 113 (up μ3 113 (10 + 24 * w + 3) v) = up (vM 113 μ3) (1 + w) 3 v := fun μ3 v => umw hw (by decide)
  have u4 : ∀ (μ3 : Mem) v, vM 113 (up μ3 113 (10 + 24 * w + 4) v) = up (vM 113 μ3) (1 + w) 4 v := fun μ3 v => umw hw (by decide)
  have u7 : ∀ (μ3 : Mem) v, vM 113 (up μ3 113 (10 + 24 * w + 7) v) = up (vM 113 μ3) (1 + w) 7 v := fun μ3 v => umw hw (by decide)
  have g4 := gw4 hW hw
  have g2 := gw2 hW hw
  have g1 := gw1 hW hw
  have g21 := hW.2.1 w hw
  unfold workP
  rw [← hV] at hW hm g4 g2 g1 g21 ⊢
  by_cases q1 : 0 < (V (1 + w) 4).toInt
  · have q1' : ¬ V (1 + w) 4 = 0 := by
      intro q
      rw [q] at q1
      exact absurd q1 (by decide)
    refine ⟨up μ 113 (10 + 24 * w + 4) (V (1 + w) 4 - 1), ?_, by rw [u4, if_neg q1', hV], FrM.rf.up (by omega)⟩
    simp -implicitDefEqProofs only [cl_151, u_151_0, u_151_1, u_151_2, u_151_3, u_151_4, u_151_5, u_151_6, u_151_7, u_151_8, u_151_9, e_iload_n, e_iload, e_lload_n, e_lload, e_aload_n, e_aload, e_istore_n, e_istore, e_astore_n, e_astore, e_lstore_n, e_lstore, e_iinc, e_iconst, e_bipush, e_sipush, e_ldc_w, e_ldc, e_ldcS, e_lconst, e_ldc2_w, e_iadd, e_isub, e_imul, e_iand, e_ixor, e_ishl, e_ishr, e_iushr, e_idiv, e_irem, e_ineg, e_i2b, e_i2s, e_i2c, e_ladd, e_lsub, e_lmul, e_land, e_lor, e_ldiv, e_lrem, e_lneg, e_lshl, e_lshr, e_lushr, e_i2l, e_l2i, e_lcmp, e_dupI, e_dupA, e_dup2, e_getI, e_getA, e_putI, e_putZ, e_getstatic, e_iaload, e_iastore, e_aaload10, e_alen10, e_aaload11, e_alen11, e_aaload12, e_alen12, e_aaload13, e_alen13, e_alen, e_invokevirtual, e_invokevirtualB, e_invokestatic, e_invokestaticB, ct_0, ct_i, ct_a, ct_l, os_0, os_s, rc_0, rc_s, sl_0, sl_i, sl_a, sl_l, simprocAttr, ix, z_em, up_eq, up_j, Nat.le_refl, true_or, or_true, true_and, and_true, and_self, or_self, beq_self_eq_true, if_true, if_false, ite_self, ca_f, ca_t, aLen, Int32.lt_iff_toInt_lt, Int32.le_iff_toInt_le, z_ite, z_iten, z_ite1, ite_not, not_true_eq_false, not_false_eq_true, false_and, and_false, false_or, or_false, b_max, b_min, b_minL, b_absL, b_ixD, b_ixH, b_copy, tk_0, tk_s, dr_0, dr_s, pu_s, pu_n, ca_0, ca_1, clr_0, clr_s, e_nop, e_goto, e_if_eq, e_if_ne, e_if_lt, e_if_ge, e_if_gt, e_if_le, e_ic_eq, e_ic_ne, e_ic_lt, e_ic_ge, e_ic_gt, e_ic_le, e_tsw, e_lsw, sw_0, sw_s, e_iret, e_zret, e_lret, e_aret, e_ret, en_0, en_n, en_i, en_a, en_l, List.getElem?_cons_zero, List.getElem?_cons_succ, List.set_cons_zero, List.set_cons_succ, len_s, List.length_nil, ne_eq, yi4 hw, ← hV, if_pos q1, yl4 hw]
  · have q1' : V (1 + w) 4 = 0 := Int32.toInt_inj.mp (by have z : (0 : Int32).toInt = 0 := rfl; omega)
    by_cases q2 : V (1 + w) 2 = V (1 + w) 1
    · refine ⟨μ, ?_, by rw [if_pos q1', if_pos q2, hV], FrM.rf⟩
      simp -implicitDefEqProofs only [cl_151, u_151_0, u_151_1, u_151_2, u_151_3, u_151_4, u_151_5, u_151_6, u_151_7, u_151_8, u_151_9, e_iload_n, e_iload, e_lload_n, e_lload, e_aload_n, e_aload, e_istore_n, e_istore, e_astore_n, e_astore, e_lstore_n, e_lstore, e_iinc, e_iconst, e_bipush, e_sipush, e_ldc_w, e_ldc, e_ldcS, e_lconst, e_ldc2_w, e_iadd, e_isub, e_imul, e_iand, e_ixor, e_ishl, e_ishr, e_iushr, e_idiv, e_irem, e_ineg, e_i2b, e_i2s, e_i2c, e_ladd, e_lsub, e_lmul, e_land, e_lor, e_ldiv, e_lrem, e_lneg, e_lshl, e_lshr, e_lushr, e_i2l, e_l2i, e_lcmp, e_dupI, e_dupA, e_dup2, e_getI, e_getA, e_putI, e_putZ, e_getstatic, e_iaload, e_iastore, e_aaload10, e_alen10, e_aaload11, e_alen11, e_aaload12, e_alen12, e_aaload13, e_alen13, e_alen, e_invokevirtual, e_invokevirtualB, e_invokestatic, e_invokestaticB, ct_0, ct_i, ct_a, ct_l, os_0, os_s, rc_0, rc_s, sl_0, sl_i, sl_a, sl_l, simprocAttr, ix, z_em, up_eq, up_j, Nat.le_refl, true_or, or_true, true_and, and_true, and_self, or_self, beq_self_eq_true, if_true, if_false, ite_self, ca_f, ca_t, aLen, Int32.lt_iff_toInt_lt, Int32.le_iff_toInt_le, z_ite, z_iten, z_ite1, ite_not, not_true_eq_false, not_false_eq_true, false_and, and_false, false_or, or_false, b_max, b_min, b_minL, b_absL, b_ixD, b_ixH, b_copy, tk_0, tk_s, dr_0, dr_s, pu_s, pu_n, ca_0, ca_1, clr_0, clr_s, e_nop, e_goto, e_if_eq, e_if_ne, e_if_lt, e_if_ge, e_if_gt, e_if_le, e_ic_eq, e_ic_ne, e_ic_lt, e_ic_ge, e_ic_gt, e_ic_le, e_tsw, e_lsw, sw_0, sw_s, e_iret, e_zret, e_lret, e_aret, e_ret, en_0, en_n, en_i, en_a, en_l, List.getElem?_cons_zero, List.getElem?_cons_succ, List.set_cons_zero, List.set_cons_succ, len_s, List.length_nil, ne_eq, yi4 hw, yi2 hw, yi1 hw, ← hV, if_neg q1, if_pos q2]
    · have hne : ¬ (V (1 + w) 2).toInt = (V (1 + w) 1).toInt := fun q => q2 (Int32.toInt_inj.mp q)
      have hi8 : (V (1 + w) 2).toNatClampNeg < 8 := ix_lt g2.1 (by omega)
      obtain ⟨μ1, k1, kA⟩ := y_goes (d := d) (μ := μ) hw hL (by rw [← hV]; exact hW) (by rw [← hV]; exact hi8)
      rw [← hV] at k1
      have k1' : cl d 147 [Sum.inr (Sum.inr (8, 112)), vI (nI w)] μ = _ := k1
      have v1 : vM 113 μ1 = V := by rw [hV]; exact vM_congr (kA 113 (by decide) (by decide))
      have s12 : ∀ μ3 : Mem, μ3 113 2 = vM 113 μ3 0 2 := fun μ3 => ms2
      have e8 : 8 + 2 * V (1 + w) 2 = nI (8 + 2 * (V (1 + w) 2).toNatClampNeg) := by
        have q1 := nIm (a := 2) (b := (V (1 + w) 2).toNatClampNeg) (by omega) (by omega) (by omega)
        have q2 := nIa (a := 8) (b := 2 * (V (1 + w) 2).toNatClampNeg) (by omega)
        rw [nI_ix g2.1] at q1
        show nI 8 + nI 2 * V (1 + w) 2 = _
        rw [q1, q2]
      have y8 : ∀ μ2, cl d 111 [Sum.inr (Sum.inr (8, 112)), vI (nI w), vI (8 + 2 * V (1 + w) 2)] μ2 = _ := fun μ2 => y_its (d := d) (μ := μ2) hw (show 8 + 2 * (V (1 + w) 2).toNatClampNeg < 24 by omega) e8
      have hg := go_in (tx := txM μ) (V := V) (w := w)
      have g0 := gw0 hW hw
      have t1 : (1 : Int32).toInt = 1 := rfl
      have e0 : (V (1 + w) 0 + 1).toInt = (V (1 + w) 0).toInt + 1 := by rw [ta] <;> rw [t1] <;> omega
      have hmn : heldP (V (1 + w) 0 + 1) 0 99 = mn 99 (V (1 + w) 0 + 1) := held_mn (by omega)
      have s2 : μ1 113 2 = V 0 2 := by rw [ms2 (m := 113) (μ := μ1), v1]
      generalize hge : goesP (txM μ) V w = g at *
      generalize hie : (V (1 + w) 2).toNatClampNeg = i at *
      have p0 : ¬ 8 + 2 * i = 0 := by omega
      have p3 : ¬ 8 + 2 * i = 3 := by omega
      have z0 : ¬ 2 = 10 + 24 * w + 0 := by omega
      have z2 : ¬ 2 = 10 + 24 * w + 2 := by omega
      have z3 : ¬ 2 = 10 + 24 * w + 3 := by omega
      have hmc : V (1 + w) (8 + 2 * i) * 10 = 10 * V (1 + w) (8 + 2 * i) := Int32.mul_comm _ _
      unfold wkP
      simp only [if_pos q1', if_neg q2, hie, hmc]
      by_cases c1 : (V (1 + w) 3 + g).toInt < (10 * V (1 + w) (8 + 2 * i)).toInt
      · simp only [if_pos c1]
        refine ⟨up (up μ1 113 (10 + 24 * w + 3) (V (1 + w) 3 + g)) 113 (10 + 24 * w + 0) (mn 99 (V (1 + w) 0 + 1)), ?_, by rw [u0, u3, v1], (kA.fr.up (by omega)).up (by omega)⟩
        simp -implicitDefEqProofs only [cl_151, u_151_0, u_151_1, u_151_2, u_151_3, u_151_4, u_151_5, u_151_6, u_151_7, u_151_8, u_151_9, e_iload_n, e_iload, e_lload_n, e_lload, e_aload_n, e_aload, e_istore_n, e_istore, e_astore_n, e_astore, e_lstore_n, e_lstore, e_iinc, e_iconst, e_bipush, e_sipush, e_ldc_w, e_ldc, e_ldcS, e_lconst, e_ldc2_w, e_iadd, e_isub, e_imul, e_iand, e_ixor, e_ishl, e_ishr, e_iushr, e_idiv, e_irem, e_ineg, e_i2b, e_i2s, e_i2c, e_ladd, e_lsub, e_lmul, e_land, e_lor, e_ldiv, e_lrem, e_lneg, e_lshl, e_lshr, e_lushr, e_i2l, e_l2i, e_lcmp, e_dupI, e_dupA, e_dup2, e_getI, e_getA, e_putI, e_putZ, e_getstatic, e_iaload, e_iastore, e_aaload10, e_alen10, e_aaload11, e_alen11, e_aaload12, e_alen12, e_aaload13, e_alen13, e_alen, e_invokevirtual, e_invokevirtualB, e_invokestatic, e_invokestaticB, ct_0, ct_i, ct_a, ct_l, os_0, os_s, rc_0, rc_s, sl_0, sl_i, sl_a, sl_l, simprocAttr, ix, z_em, up_eq, up_j, Nat.le_refl, true_or, or_true, true_and, and_true, and_self, or_self, beq_self_eq_true, if_true, if_false, ite_self, ca_f, ca_t, aLen, Int32.lt_iff_toInt_lt, Int32.le_iff_toInt_le, z_ite, z_iten, z_ite1, ite_not, not_true_eq_false, not_false_eq_true, false_and, and_false, false_or, or_false, b_max, b_min, b_minL, b_absL, b_ixD, b_ixH, b_copy, tk_0, tk_s, dr_0, dr_s, pu_s, pu_n, ca_0, ca_1, clr_0, clr_s, e_nop, e_goto, e_if_eq, e_if_ne, e_if_lt, e_if_ge, e_if_gt, e_if_le, e_ic_eq, e_ic_ne, e_ic_lt, e_ic_ge, e_ic_gt, e_ic_le, e_tsw, e_lsw, sw_0, sw_s, e_iret, e_zret, e_lret, e_aret, e_ret, en_0, en_n, en_i, en_a, en_l, List.getElem?_cons_zero, List.getElem?_cons_succ, List.set_cons_zero, List.set_cons_succ, len_s, List.length_nil, ne_eq, yi0 hw, yi1 hw, yi2 hw, yi3 hw, yi4 hw, yi7 hw, yl0 hw, yl2 hw, yl3 hw, yl7 hw, ← hV, if_neg q1, if_neg q2, k1', v1, u0, u2, u3, u7, x_held, y8, hmn, up_j p0, up_j p3, if_pos c1]
      · simp only [if_neg c1]
        by_cases c2 : V (1 + w) 2 + 1 = V (1 + w) 1
        · simp only [if_pos c2]
          refine ⟨up (up (up (up (up μ1 113 (10 + 24 * w + 3) (V (1 + w) 3 + g)) 113 (10 + 24 * w + 0) (mn 99 (V (1 + w) 0 + 1))) 113 (10 + 24 * w + 3) 0) 113 (10 + 24 * w + 2) (V (1 + w) 2 + 1)) 113 (10 + 24 * w + 7) (V 0 2), ?_, ?_, ((((kA.fr.up (by omega)).up (by omega)).up (by omega)).up (by omega)).up (by omega)⟩
          · simp -implicitDefEqProofs only [cl_151, u_151_0, u_151_1, u_151_2, u_151_3, u_151_4, u_151_5, u_151_6, u_151_7, u_151_8, u_151_9, e_iload_n, e_iload, e_lload_n, e_lload, e_aload_n, e_aload, e_istore_n, e_istore, e_astore_n, e_astore, e_lstore_n, e_lstore, e_iinc, e_iconst, e_bipush, e_sipush, e_ldc_w, e_ldc, e_ldcS, e_lconst, e_ldc2_w, e_iadd, e_isub, e_imul, e_iand, e_ixor, e_ishl, e_ishr, e_iushr, e_idiv, e_irem, e_ineg, e_i2b, e_i2s, e_i2c, e_ladd, e_lsub, e_lmul, e_land, e_lor, e_ldiv, e_lrem, e_lneg, e_lshl, e_lshr, e_lushr, e_i2l, e_l2i, e_lcmp, e_dupI, e_dupA, e_dup2, e_getI, e_getA, e_putI, e_putZ, e_getstatic, e_iaload, e_iastore, e_aaload10, e_alen10, e_aaload11, e_alen11, e_aaload12, e_alen12, e_aaload13, e_alen13, e_alen, e_invokevirtual, e_invokevirtualB, e_invokestatic, e_invokestaticB, ct_0, ct_i, ct_a, ct_l, os_0, os_s, rc_0, rc_s, sl_0, sl_i, sl_a, sl_l, simprocAttr, ix, z_em, up_eq, up_j, Nat.le_refl, true_or, or_true, true_and, and_true, and_self, or_self, beq_self_eq_true, if_true, if_false, ite_self, ca_f, ca_t, aLen, Int32.lt_iff_toInt_lt, Int32.le_iff_toInt_le, z_ite, z_iten, z_ite1, ite_not, not_true_eq_false, not_false_eq_true, false_and, and_false, false_or, or_false, b_max, b_min, b_minL, b_absL, b_ixD, b_ixH, b_copy, tk_0, tk_s, dr_0, dr_s, pu_s, pu_n, ca_0, ca_1, clr_0, clr_s, e_nop, e_goto, e_if_eq, e_if_ne, e_if_lt, e_if_ge, e_if_gt, e_if_le, e_ic_eq, e_ic_ne, e_ic_lt, e_ic_ge, e_ic_gt, e_ic_le, e_tsw, e_lsw, sw_0, sw_s, e_iret, e_zret, e_lret, e_aret, e_ret, en_0, en_n, en_i, en_a, en_l, List.getElem?_cons_zero, List.getElem?_cons_succ, List.set_cons_zero, List.set_cons_succ, len_s, List.length_nil, ne_eq, yi0 hw, yi1 hw, yi2 hw, yi3 hw, yi4 hw, yi7 hw, yl0 hw, yl2 hw, yl3 hw, yl7 hw, ← hV, if_neg q1, if_neg q2, k1', v1, u0, u2, u3, u7, x_held, y8, hmn, up_j p0, up_j p3, if_neg c1, if_pos c2, up_j z0, up_j z2, up_j z3, s2]
          · rw [u7, u2, u3, u0, u3, v1, up_comm (k := 3) (k2 := 2) (by omega)]
        · simp only [if_neg c2]
          refine ⟨up (up (up (up (up μ1 113 (10 + 24 * w + 3) (V (1 + w) 3 + g)) 113 (10 + 24 * w + 0) (mn 99 (V (1 + w) 0 + 1))) 113 (10 + 24 * w + 3) 0) 113 (10 + 24 * w + 2) (V (1 + w) 2 + 1)) 113 (10 + 24 * w + 7) (V (1 + w) 7), ?_, ?_, ((((kA.fr.up (by omega)).up (by omega)).up (by omega)).up (by omega)).up (by omega)⟩
          · simp -implicitDefEqProofs only [cl_151, u_151_0, u_151_1, u_151_2, u_151_3, u_151_4, u_151_5, u_151_6, u_151_7, u_151_8, u_151_9, e_iload_n, e_iload, e_lload_n, e_lload, e_aload_n, e_aload, e_istore_n, e_istore, e_astore_n, e_astore, e_lstore_n, e_lstore, e_iinc, e_iconst, e_bipush, e_sipush, e_ldc_w, e_ldc, e_ldcS, e_lconst, e_ldc2_w, e_iadd, e_isub, e_imul, e_iand, e_ixor, e_ishl, e_ishr, e_iushr, e_idiv, e_irem, e_ineg, e_i2b, e_i2s, e_i2c, e_ladd, e_lsub, e_lmul, e_land, e_lor, e_ldiv, e_lrem, e_lneg, e_lshl, e_lshr, e_lushr, e_i2l, e_l2i, e_lcmp, e_dupI, e_dupA, e_dup2, e_getI, e_getA, e_putI, e_putZ, e_getstatic, e_iaload, e_iastore, e_aaload10, e_alen10, e_aaload11, e_alen11, e_aaload12, e_alen12, e_aaload13, e_alen13, e_alen, e_invokevirtual, e_invokevirtualB, e_invokestatic, e_invokestaticB, ct_0, ct_i, ct_a, ct_l, os_0, os_s, rc_0, rc_s, sl_0, sl_i, sl_a, sl_l, simprocAttr, ix, z_em, up_eq, up_j, Nat.le_refl, true_or, or_true, true_and, and_true, and_self, or_self, beq_self_eq_true, if_true, if_false, ite_self, ca_f, ca_t, aLen, Int32.lt_iff_toInt_lt, Int32.le_iff_toInt_le, z_ite, z_iten, z_ite1, ite_not, not_true_eq_false, not_false_eq_true, false_and, and_false, false_or, or_false, b_max, b_min, b_minL, b_absL, b_ixD, b_ixH, b_copy, tk_0, tk_s, dr_0, dr_s, pu_s, pu_n, ca_0, ca_1, clr_0, clr_s, e_nop, e_goto, e_if_eq, e_if_ne, e_if_lt, e_if_ge, e_if_gt, e_if_le, e_ic_eq, e_ic_ne, e_ic_lt, e_ic_ge, e_ic_gt, e_ic_le, e_tsw, e_lsw, sw_0, sw_s, e_iret, e_zret, e_lret, e_aret, e_ret, en_0, en_n, en_i, en_a, en_l, List.getElem?_cons_zero, List.getElem?_cons_succ, List.set_cons_zero, List.set_cons_succ, len_s, List.length_nil, ne_eq, yi0 hw, yi1 hw, yi2 hw, yi3 hw, yi4 hw, yi7 hw, yl0 hw, yl2 hw, yl3 hw, yl7 hw, ← hV, if_neg q1, if_neg q2, k1', v1, u0, u2, u3, u7, x_held, y8, hmn, up_j p0, up_j p3, if_neg c1, if_neg c2, up_j z0, up_j z2, up_j z3, s2]
          · rw [u7, u2, u3, u0, u3, v1, up_comm (k := 3) (k2 := 2) (by omega)]
            refine up_self ?_
            rw [up_j (by decide), up_j (by decide), up_j (by decide), up_j (by decide)]
