/-! PAIRS OF CALLS: rest, worker. -/
def bgR (a0 a1 a2 a3 a4 : Int32) (k : Nat) : Int32 := if k = 0 then a0 else if k = 1 then a1 else if k = 2 then a2 else if k = 3 then a3 else if k = 4 then a4 else if k = 5 then 10 else if k = 6 then 0 else a3
def NRr (V U : Mem) (R : Nat) (a0 a1 a2 a3 a4 : Int32) : Prop := (∀ o k, ¬ o = 10 + R → ¬ (o = 0 ∧ k = 1) → U o k = V o k) ∧ U 0 1 = nI (R + 1) ∧ ∀ k, k < 8 → U (10 + R) k = bgR a0 a1 a2 a3 a4 k
theorem nr_wf {V U : Mem} {R : Nat} {a0 a1 a2 a3 a4 : Int32} (h : NRr V U R a0 a1 a2 a3 a4) (hW : WFV V) (hR : R < 8) (hc : V 0 1 = nI R) (h0 : 0 ≤ a0.toInt ∧ a0.toInt ≤ 6) (h1 : 0 ≤ a1.toInt ∧ a1.toInt ≤ 9) (h2 : 0 ≤ a2.toInt ∧ a2.toInt < (V 0 0).toInt) (h3 : 0 ≤ a3.toInt ∧ a3.toInt ≤ 999) (h4 : 1 ≤ a4.toInt ∧ a4.toInt ≤ 60) : WFV U := by
  obtain ⟨p1, p2, p3⟩ := h
  have n1 : (nI (R + 1)).toInt = (R + 1 : Nat) := nI_toInt (by omega)
  have nR : (nI R).toInt = R := nI_toInt (by omega)
  have g0 := gs0 hW
  refine ⟨fun o k hi => ?_, fun w hw => ?_, fun r hr hrc => ?_⟩
  · by_cases q : o = 10 + R
    · subst q
      have hk : k < 8 := by unfold inC at hi; omega
      rw [p3 k hk]
      have hk8 : k = 0 ∨ k = 1 ∨ k = 2 ∨ k = 3 ∨ k = 4 ∨ k = 5 ∨ k = 6 ∨ k = 7 := by omega
      rcases hk8 with rfl | rfl | rfl | rfl | rfl | rfl | rfl | rfl
      · rw [(lr0 hR).1, (lr0 hR).2]; exact h0
      · rw [(lr1 hR).1, (lr1 hR).2]; exact h1
      · rw [(lr2 hR).1, (lr2 hR).2]; show 0 ≤ a2.toInt ∧ a2.toInt ≤ 3; omega
      · rw [(lr3 hR).1, (lr3 hR).2]; show 0 ≤ a3.toInt ∧ a3.toInt ≤ 20000; omega
      · rw [(lr4 hR).1, (lr4 hR).2]; show 0 ≤ a4.toInt ∧ a4.toInt ≤ 60; omega
      · rw [(lr5 hR).1, (lr5 hR).2]; show 0 ≤ (10 : Int32).toInt ∧ (10 : Int32).toInt ≤ 10; decide
      · rw [(lr6 hR).1, (lr6 hR).2]; show 0 ≤ (0 : Int32).toInt ∧ (0 : Int32).toInt ≤ 1; decide
      · rw [(lr7 hR).1, (lr7 hR).2]; show 0 ≤ a3.toInt ∧ a3.toInt ≤ 20000; omega
    · by_cases q2 : o = 0 ∧ k = 1
      · obtain ⟨rfl, rfl⟩ := q2
        rw [p2, n1]
        show (0 : Int) ≤ _ ∧ _ ≤ (8 : Int)
        omega
      · rw [p1 o k q q2]
        exact hW.1 o k hi
  · rw [p1 _ _ (by omega) (by omega), p1 _ _ (by omega) (by omega)]
    exact hW.2.1 w hw
  · rw [p2, n1] at hrc
    rw [p1 0 0 (by omega) (by omega)]
    by_cases q : r = R
    · subst q
      rw [p3 2 (by decide)]
      exact h2.2
    · rw [p1 _ _ (by omega) (by omega)]
      exact hW.2.2 r hr (by rw [hc, nR]; omega)
theorem nr_wd {V U : Mem} {R : Nat} {a0 a1 a2 a3 a4 : Int32} (h : NRr V U R a0 a1 a2 a3 a4) (hD : WFD V) : WFD U := by
  obtain ⟨p1, p2, p3⟩ := h
  refine ⟨fun r hr => ?_, ?_⟩
  · by_cases q : r = R
    · subst q
      rw [p3 3 (by decide), p3 7 (by decide)]
      exact Int.le_refl _
    · rw [p1 _ _ (by omega) (by omega), p1 _ _ (by omega) (by omega)]
      exact hD.1 r hr
  · rw [p1 _ _ (by omega) (by omega)]
    exact hD.2
theorem nr_eq {V V' U U' : Mem} {R : Nat} {a0 a1 a2 a3 a4 : Int32} (h : NRr V U R a0 a1 a2 a3 a4) (h' : NRr V' U' R a0 a1 a2 a3 a4) (hE : EQV V V') (hR : R < 8) (hc : V 0 1 = nI R) : EQV U U' := by
  obtain ⟨p1, p2, p3⟩ := h
  obtain ⟨q1, q2, q3⟩ := h'
  obtain ⟨e1, e2, e3, e4, e5⟩ := hE
  have n1 : (nI (R + 1)).toInt = (R + 1 : Nat) := nI_toInt (by omega)
  have nR : (nI R).toInt = R := nI_toInt (by omega)
  refine ⟨fun k hk => ?_, fun w hw hwc k hk hu => ?_, fun r hr hrc k hk => ?_, fun i hi hic => ?_, fun i hi hic => ?_⟩
  · by_cases q : k = 1
    · subst q
      rw [p2, q2]
    · rw [p1 _ _ (by omega) (by omega), q1 _ _ (by omega) (by omega)]
      exact e1 k hk
  · rw [p1 0 0 (by omega) (by omega)] at hwc
    unfold usK at hu
    rw [p1 _ _ (by omega) (by omega)] at hu
    rw [p1 _ _ (by omega) (by omega), q1 _ _ (by omega) (by omega)]
    exact e2 w hw hwc k hk hu
  · by_cases q : r = R
    · subst q
      rw [p3 k hk, q3 k hk]
    · rw [p2, n1] at hrc
      rw [p1 _ _ (by omega) (by omega), q1 _ _ (by omega) (by omega)]
      exact e3 r hr (by rw [hc, nR]; omega) k hk
  · rw [p1 0 6 (by omega) (by omega)] at hic
    rw [p1 _ _ (by omega) (by omega), q1 _ _ (by omega) (by omega)]
    exact e4 i hi hic
  · rw [p1 0 7 (by omega) (by omega)] at hic
    rw [p1 _ _ (by omega) (by omega), q1 _ _ (by omega) (by omega)]
    exact e5 i hi hic
theorem p_rest {fz : Mem} {d : Nat} {km w due t : Int32} {μ : Mem} (h : RR fz μ) : PR fz d 59 122 [vI km, vI w, vI due, vI t] μ := by
  by_cases q1 : 0 ≤ km.toInt ∧ km.toInt ≤ 69
  · by_cases q2 : 0 ≤ w.toInt ∧ w.toInt < (vC 1 μ 0 0).toInt
    · by_cases q3 : 0 ≤ due.toInt ∧ due.toInt ≤ 999
      · by_cases q4 : 1 ≤ t.toInt ∧ t.toInt ≤ 60
        · have g := gs1 h.1.1.1
          obtain ⟨R, hR, eR⟩ := nIof (v := vC 1 μ 0 1) (n := 9) g.1 (by omega)
          have nR : (nI R).toInt = R := nI_toInt (by omega)
          have cR : (nI R).toNatClampNeg = R := ix_nI (by omega)
          have e6 : μ 1 6 = nI R := cs1.trans eR
          have m1 : μ 113 1 = nI R := by rw [ms1 (m := 113) (μ := μ), h.e0 (by decide), eR]
          by_cases q5 : R = 8
          · subst q5
            have z8 : (nI 8 : Int32) = 8 := rfl
            refine PR.er (k := 4) h (by decide) (by decide) ?_ (fun μ1 f => ?_)
            · simp -implicitDefEqProofs only [cl_59, u_59_0, u_59_1, u_59_2, u_59_3, u_59_4, u_59_5, u_59_6, u_59_7, u_59_8, e_iload_n, e_iload, e_lload_n, e_lload, e_aload_n, e_aload, e_istore_n, e_istore, e_astore_n, e_astore, e_lstore_n, e_lstore, e_iinc, e_iconst, e_bipush, e_sipush, e_ldc_w, e_ldc, e_ldcS, e_lconst, e_ldc2_w, e_iadd, e_isub, e_imul, e_iand, e_ixor, e_ishl, e_ishr, e_iushr, e_idiv, e_irem, e_ineg, e_i2b, e_i2s, e_i2c, e_ladd, e_lsub, e_lmul, e_land, e_lor, e_ldiv, e_lrem, e_lneg, e_lshl, e_lshr, e_lushr, e_i2l, e_l2i, e_lcmp, e_dupI, e_dupA, e_dup2, e_getI, e_getA, e_putI, e_putZ, e_getstatic, e_iaload, e_iastore, e_aaload10, e_alen10, e_aaload11, e_alen11, e_aaload12, e_alen12, e_aaload13, e_alen13, e_alen, e_invokevirtual, e_invokevirtualB, e_invokestatic, e_invokestaticB, ct_0, ct_i, ct_a, ct_l, os_0, os_s, rc_0, rc_s, sl_0, sl_i, sl_a, sl_l, simprocAttr, ix, z_em, up_eq, up_j, Nat.le_refl, true_or, or_true, true_and, and_true, and_self, or_self, beq_self_eq_true, if_true, if_false, ite_self, ca_f, ca_t, aLen, Int32.lt_iff_toInt_lt, Int32.le_iff_toInt_le, z_ite, z_iten, z_ite1, ite_not, not_true_eq_false, not_false_eq_true, false_and, and_false, false_or, or_false, b_max, b_min, b_minL, b_absL, b_ixD, b_ixH, b_copy, tk_0, tk_s, dr_0, dr_s, pu_s, pu_n, ca_0, ca_1, clr_0, clr_s, e_nop, e_goto, e_if_eq, e_if_ne, e_if_lt, e_if_ge, e_if_gt, e_if_le, e_ic_eq, e_ic_ne, e_ic_lt, e_ic_ge, e_ic_gt, e_ic_le, e_tsw, e_lsw, sw_0, sw_s, e_iret, e_zret, e_lret, e_aret, e_ret, en_0, en_n, en_i, en_a, en_l, List.getElem?_cons_zero, List.getElem?_cons_succ, List.set_cons_zero, List.set_cons_succ, len_s, List.length_nil, ne_eq, x_within, x_in, eT1, eT2, eT3, eT4, eT5, eT6, eM1, eM2, eM3, eM4, eM5, eM6, Nat.one_mul, Nat.mul_one, Nat.zero_add, xW h, q1, q2, q3, q4, e6, z8]
            · have m1' : μ1 113 1 = nI 8 := by rw [f 113 (by decide)]; exact m1
              simp -implicitDefEqProofs only [cl_122, u_122_0, u_122_1, u_122_2, u_122_3, u_122_4, u_122_5, u_122_6, u_122_7, e_iload_n, e_iload, e_lload_n, e_lload, e_aload_n, e_aload, e_istore_n, e_istore, e_astore_n, e_astore, e_lstore_n, e_lstore, e_iinc, e_iconst, e_bipush, e_sipush, e_ldc_w, e_ldc, e_ldcS, e_lconst, e_ldc2_w, e_iadd, e_isub, e_imul, e_iand, e_ixor, e_ishl, e_ishr, e_iushr, e_idiv, e_irem, e_ineg, e_i2b, e_i2s, e_i2c, e_ladd, e_lsub, e_lmul, e_land, e_lor, e_ldiv, e_lrem, e_lneg, e_lshl, e_lshr, e_lushr, e_i2l, e_l2i, e_lcmp, e_dupI, e_dupA, e_dup2, e_getI, e_getA, e_putI, e_putZ, e_getstatic, e_iaload, e_iastore, e_aaload10, e_alen10, e_aaload11, e_alen11, e_aaload12, e_alen12, e_aaload13, e_alen13, e_alen, e_invokevirtual, e_invokevirtualB, e_invokestatic, e_invokestaticB, ct_0, ct_i, ct_a, ct_l, os_0, os_s, rc_0, rc_s, sl_0, sl_i, sl_a, sl_l, simprocAttr, ix, z_em, up_eq, up_j, Nat.le_refl, true_or, or_true, true_and, and_true, and_self, or_self, beq_self_eq_true, if_true, if_false, ite_self, ca_f, ca_t, aLen, Int32.lt_iff_toInt_lt, Int32.le_iff_toInt_le, z_ite, z_iten, z_ite1, ite_not, not_true_eq_false, not_false_eq_true, false_and, and_false, false_or, or_false, b_max, b_min, b_minL, b_absL, b_ixD, b_ixH, b_copy, tk_0, tk_s, dr_0, dr_s, pu_s, pu_n, ca_0, ca_1, clr_0, clr_s, e_nop, e_goto, e_if_eq, e_if_ne, e_if_lt, e_if_ge, e_if_gt, e_if_le, e_ic_eq, e_ic_ne, e_ic_lt, e_ic_ge, e_ic_gt, e_ic_le, e_tsw, e_lsw, sw_0, sw_s, e_iret, e_zret, e_lret, e_aret, e_ret, en_0, en_n, en_i, en_a, en_l, List.getElem?_cons_zero, List.getElem?_cons_succ, List.set_cons_zero, List.set_cons_succ, len_s, List.length_nil, ne_eq, x_within, x_in, eT1, eT2, eT3, eT4, eT5, eT6, eM1, eM2, eM3, eM4, eM5, eM6, Nat.one_mul, Nat.mul_one, Nat.zero_add, yW h (f 113 (by decide)), q1, q2, q3, q4, m1', z8]
          · have hR8 : R < 8 := by omega
            have b8 : ((R : Nat) : Int) < 8 := by omega
            have b0 : (0 : Int) ≤ ((R : Nat) : Int) := by omega
            have ne8 : ¬ nI R = 8 := fun z => q5 (by
              have := congrArg Int32.toInt z
              rw [nR] at this
              have t8 : (8 : Int32).toInt = 8 := rfl
              omega)
            have nb : ¬ 1 = 19 + R := by omega
            have hM : ∃ μ1, μ1 = up (up (up (up (up (up (up (up (up μ (19 + R) 0 (km / 10)) (19 + R) 1 (km - km / 10 * 10)) (19 + R) 2 w) (19 + R) 3 due) (19 + R) 4 due) (19 + R) 5 t) (19 + R) 6 10) (19 + R) 7 0) 1 6 (nI (R + 1)) := ⟨_, rfl⟩
            obtain ⟨μ1, e1⟩ := hM
            have hO : 1 ≤ 19 + R ∧ 19 + R < 1 + 26 := by omega
            have f1 : FrC 1 μ μ1 := by rw [e1]; exact ((((((((FrC.rf.up hO).up hO).up hO).up hO).up hO).up hO).up hO).up hO).up (by omega)
            have f13 : μ1 113 = μ 113 := f1 113 (by decide) (by decide) (by decide)
            have m1' : μ1 113 1 = nI R := by rw [f13]; exact m1
            have v1 : vC 1 μ1 = up (up (up (up (up (up (up (up (up (vC 1 μ) (10 + R) 0 (km / 10)) (10 + R) 1 (km - km / 10 * 10)) (10 + R) 2 w) (10 + R) 3 due) (10 + R) 7 due) (10 + R) 4 t) (10 + R) 5 10) (10 + R) 6 0) 0 1 (nI (R + 1)) := by
              rw [e1, show 19 + R = 1 + 18 + R by omega, us1, ur6 hR8, ur5 hR8, ur4 hR8, ur7 hR8, ur3 hR8, ur2 hR8, ur1 hR8, ur0 hR8]
            have hM2 : ∃ μ2, μ2 = up (up (up (up (up (up (up (up (up μ1 113 (106 + 8 * R + 0) (km / 10)) 113 (106 + 8 * R + 1) (km - km / 10 * 10)) 113 (106 + 8 * R + 2) w) 113 (106 + 8 * R + 3) due) 113 (106 + 8 * R + 4) t) 113 (106 + 8 * R + 5) 10) 113 (106 + 8 * R + 6) 0) 113 (106 + 8 * R + 7) due) 113 1 (nI (R + 1)) := ⟨_, rfl⟩
            obtain ⟨μ2, e2⟩ := hM2
            have f2 : FrM μ1 μ2 := by rw [e2]; exact ((((((((FrM.rf.up (by omega)).up (by omega)).up (by omega)).up (by omega)).up (by omega)).up (by omega)).up (by omega)).up (by omega)).up (by omega)
            have v2 : vM 113 μ2 = up (up (up (up (up (up (up (up (up (vM 113 μ) (10 + R) 0 (km / 10)) (10 + R) 1 (km - km / 10 * 10)) (10 + R) 2 w) (10 + R) 3 due) (10 + R) 4 t) (10 + R) 5 10) (10 + R) 6 0) (10 + R) 7 due) 0 1 (nI (R + 1)) := by
              rw [e2, ums1, umr hR8 (by decide), umr hR8 (by decide), umr hR8 (by decide), umr hR8 (by decide), umr hR8 (by decide), umr hR8 (by decide), umr hR8 (by decide), umr hR8 (by decide), vM_congr f13]
            have x1 : NRr (vC 1 μ) (vC 1 μ1) R (km / 10) (km - km / 10 * 10) w due t := by
              refine ⟨fun o k p1 p2 => ?_, by rw [v1, up_eq], fun k hk => ?_⟩
              · rw [v1]
                unfold up
                rw [if_neg p2, if_neg (fun z => p1 z.1), if_neg (fun z => p1 z.1), if_neg (fun z => p1 z.1), if_neg (fun z => p1 z.1), if_neg (fun z => p1 z.1), if_neg (fun z => p1 z.1), if_neg (fun z => p1 z.1), if_neg (fun z => p1 z.1)]
              · have nz : ¬ 10 + R = 0 := by omega
                have hk8 : k = 0 ∨ k = 1 ∨ k = 2 ∨ k = 3 ∨ k = 4 ∨ k = 5 ∨ k = 6 ∨ k = 7 := by omega
                rw [v1, up_o nz]
                rcases hk8 with rfl | rfl | rfl | rfl | rfl | rfl | rfl | rfl <;> simp [up, bgR]
            have x2 : NRr (vM 113 μ) (vM 113 μ2) R (km / 10) (km - km / 10 * 10) w due t := by
              refine ⟨fun o k p1 p2 => ?_, by rw [v2, up_eq], fun k hk => ?_⟩
              · rw [v2]
                unfold up
                rw [if_neg p2, if_neg (fun z => p1 z.1), if_neg (fun z => p1 z.1), if_neg (fun z => p1 z.1), if_neg (fun z => p1 z.1), if_neg (fun z => p1 z.1), if_neg (fun z => p1 z.1), if_neg (fun z => p1 z.1), if_neg (fun z => p1 z.1)]
              · have nz : ¬ 10 + R = 0 := by omega
                have hk8 : k = 0 ∨ k = 1 ∨ k = 2 ∨ k = 3 ∨ k = 4 ∨ k = 5 ∨ k = 6 ∨ k = 7 := by omega
                rw [v2, up_o nz]
                rcases hk8 with rfl | rfl | rfl | rfl | rfl | rfl | rfl | rfl <;> simp [up, bgR]
            have t10 : (10 : Int32).toInt = 10 := rfl
            have k1 : 0 ≤ (km / 10).toInt ∧ (km / 10).toInt ≤ 6 := by rw [td q1.1 (by decide), t10]; omega
            have k2 : 0 ≤ (km - km / 10 * 10).toInt ∧ (km - km / 10 * 10).toInt ≤ 9 := by rw [rm q1.1 (by decide), t10]; omega
            have ev1 : vM 113 μ 0 1 = nI R := by rw [h.e0 (by decide), eR]
            have ev0 : vM 113 μ 0 0 = vC 1 μ 0 0 := h.e0 (by decide)
            refine ⟨(nI (R + 1) - 1), μ1, μ2, (by rw [f1 202 (by omega) (by omega) (by omega)]; exact h.u2), ?_, ?_, ?_⟩
            · rw [e1]
              simp -implicitDefEqProofs only [cl_59, u_59_0, u_59_1, u_59_2, u_59_3, u_59_4, u_59_5, u_59_6, u_59_7, u_59_8, cl_16, u_16_0, e_iload_n, e_iload, e_lload_n, e_lload, e_aload_n, e_aload, e_istore_n, e_istore, e_astore_n, e_astore, e_lstore_n, e_lstore, e_iinc, e_iconst, e_bipush, e_sipush, e_ldc_w, e_ldc, e_ldcS, e_lconst, e_ldc2_w, e_iadd, e_isub, e_imul, e_iand, e_ixor, e_ishl, e_ishr, e_iushr, e_idiv, e_irem, e_ineg, e_i2b, e_i2s, e_i2c, e_ladd, e_lsub, e_lmul, e_land, e_lor, e_ldiv, e_lrem, e_lneg, e_lshl, e_lshr, e_lushr, e_i2l, e_l2i, e_lcmp, e_dupI, e_dupA, e_dup2, e_getI, e_getA, e_putI, e_putZ, e_getstatic, e_iaload, e_iastore, e_aaload10, e_alen10, e_aaload11, e_alen11, e_aaload12, e_alen12, e_aaload13, e_alen13, e_alen, e_invokevirtual, e_invokevirtualB, e_invokestatic, e_invokestaticB, ct_0, ct_i, ct_a, ct_l, os_0, os_s, rc_0, rc_s, sl_0, sl_i, sl_a, sl_l, simprocAttr, ix, z_em, up_eq, up_j, Nat.le_refl, true_or, or_true, true_and, and_true, and_self, or_self, beq_self_eq_true, if_true, if_false, ite_self, ca_f, ca_t, aLen, Int32.lt_iff_toInt_lt, Int32.le_iff_toInt_le, z_ite, z_iten, z_ite1, ite_not, not_true_eq_false, not_false_eq_true, false_and, and_false, false_or, or_false, b_max, b_min, b_minL, b_absL, b_ixD, b_ixH, b_copy, tk_0, tk_s, dr_0, dr_s, pu_s, pu_n, ca_0, ca_1, clr_0, clr_s, e_nop, e_goto, e_if_eq, e_if_ne, e_if_lt, e_if_ge, e_if_gt, e_if_le, e_ic_eq, e_ic_ne, e_ic_lt, e_ic_ge, e_ic_gt, e_ic_le, e_tsw, e_lsw, sw_0, sw_s, e_iret, e_zret, e_lret, e_aret, e_ret, en_0, en_n, en_i, en_a, en_l, List.getElem?_cons_zero, List.getElem?_cons_succ, List.set_cons_zero, List.set_cons_succ, len_s, List.length_nil, ne_eq, x_within, x_in, eT1, eT2, eT3, eT4, eT5, eT6, eM1, eM2, eM3, eM4, eM5, eM6, Nat.one_mul, Nat.mul_one, Nat.zero_add, xW h, q1, q2, q3, q4, e6, nR, cR, b8, b0, up_o nb, ← nI_succ]
            · have a0 : 106 + 8 * nI R + 0 = nI (106 + 8 * R + 0) := ad_r hR8 (by decide) rfl
              have a1 : 106 + 8 * nI R + 1 = nI (106 + 8 * R + 1) := ad_r hR8 (by decide) rfl
              have a2 : 106 + 8 * nI R + 2 = nI (106 + 8 * R + 2) := ad_r hR8 (by decide) rfl
              have a3 : 106 + 8 * nI R + 3 = nI (106 + 8 * R + 3) := ad_r hR8 (by decide) rfl
              have a4 : 106 + 8 * nI R + 4 = nI (106 + 8 * R + 4) := ad_r hR8 (by decide) rfl
              have a5 : 106 + 8 * nI R + 5 = nI (106 + 8 * R + 5) := ad_r hR8 (by decide) rfl
              have a6 : 106 + 8 * nI R + 6 = nI (106 + 8 * R + 6) := ad_r hR8 (by decide) rfl
              have a7 : 106 + 8 * nI R + 7 = nI (106 + 8 * R + 7) := ad_r hR8 (by decide) rfl
              have iA : ∀ k : Nat, k < 8 → (nI (106 + 8 * R + k)).toInt = (106 + 8 * R + k : Nat) := fun k hk => nI_toInt (by omega)
              have cA : ∀ k : Nat, k < 8 → (nI (106 + 8 * R + k)).toNatClampNeg = 106 + 8 * R + k := fun k hk => ix_nI (by omega)
              have bA : ∀ k : Nat, k < 8 → ((0 : Int) ≤ ((106 + 8 * R + k : Nat) : Int) ∧ ((106 + 8 * R + k : Nat) : Int) < 504) := fun k hk => by omega
              have n1 : ∀ k : Nat, ¬ 1 = 106 + 8 * R + k := fun k => by omega
              rw [e2]
              simp -implicitDefEqProofs only [cl_122, u_122_0, u_122_1, u_122_2, u_122_3, u_122_4, u_122_5, u_122_6, u_122_7, e_iload_n, e_iload, e_lload_n, e_lload, e_aload_n, e_aload, e_istore_n, e_istore, e_astore_n, e_astore, e_lstore_n, e_lstore, e_iinc, e_iconst, e_bipush, e_sipush, e_ldc_w, e_ldc, e_ldcS, e_lconst, e_ldc2_w, e_iadd, e_isub, e_imul, e_iand, e_ixor, e_ishl, e_ishr, e_iushr, e_idiv, e_irem, e_ineg, e_i2b, e_i2s, e_i2c, e_ladd, e_lsub, e_lmul, e_land, e_lor, e_ldiv, e_lrem, e_lneg, e_lshl, e_lshr, e_lushr, e_i2l, e_l2i, e_lcmp, e_dupI, e_dupA, e_dup2, e_getI, e_getA, e_putI, e_putZ, e_getstatic, e_iaload, e_iastore, e_aaload10, e_alen10, e_aaload11, e_alen11, e_aaload12, e_alen12, e_aaload13, e_alen13, e_alen, e_invokevirtual, e_invokevirtualB, e_invokestatic, e_invokestaticB, ct_0, ct_i, ct_a, ct_l, os_0, os_s, rc_0, rc_s, sl_0, sl_i, sl_a, sl_l, simprocAttr, ix, z_em, up_eq, up_j, Nat.le_refl, true_or, or_true, true_and, and_true, and_self, or_self, beq_self_eq_true, if_true, if_false, ite_self, ca_f, ca_t, aLen, Int32.lt_iff_toInt_lt, Int32.le_iff_toInt_le, z_ite, z_iten, z_ite1, ite_not, not_true_eq_false, not_false_eq_true, false_and, and_false, false_or, or_false, b_max, b_min, b_minL, b_absL, b_ixD, b_ixH, b_copy, tk_0, tk_s, dr_0, dr_s, pu_s, pu_n, ca_0, ca_1, clr_0, clr_s, e_nop, e_goto, e_if_eq, e_if_ne, e_if_lt, e_if_ge, e_if_gt, e_if_le, e_ic_eq, e_ic_ne, e_ic_lt, e_ic_ge, e_ic_gt, e_ic_le, e_tsw, e_lsw, sw_0, sw_s, e_iret, e_zret, e_lret, e_aret, e_ret, en_0, en_n, en_i, en_a, en_l, List.getElem?_cons_zero, List.getElem?_cons_succ, List.set_cons_zero, List.set_cons_succ, len_s, List.length_nil, ne_eq, x_within, x_in, eT1, eT2, eT3, eT4, eT5, eT6, eM1, eM2, eM3, eM4, eM5, eM6, Nat.one_mul, Nat.mul_one, Nat.zero_add, yW h f13, q1, q2, q3, q4, m1', ne8, a0, a1, a2, a3, a4, a5, a6, a7, iA 0 (by decide), iA 1 (by decide), iA 2 (by decide), iA 3 (by decide), iA 4 (by decide), iA 5 (by decide), iA 6 (by decide), iA 7 (by decide), cA 0 (by decide), cA 1 (by decide), cA 2 (by decide), cA 3 (by decide), cA 4 (by decide), cA 5 (by decide), cA 6 (by decide), cA 7 (by decide), bA 0 (by decide), bA 1 (by decide), bA 2 (by decide), bA 3 (by decide), bA 4 (by decide), bA 5 (by decide), bA 6 (by decide), bA 7 (by decide), up_j (n1 0), up_j (n1 1), up_j (n1 2), up_j (n1 3), up_j (n1 4), up_j (n1 5), up_j (n1 6), up_j (n1 7), ← nI_succ]
            · refine h.w2 f1 f2 (nr_wf x1 h.1.1.1 hR8 eR k1 k2 q2 q3 q4) (nr_wf x2 h.1.1.2 hR8 ev1 k1 k2 (by rw [ev0]; exact q2) q3 q4) (nr_wd x1 h.1.2.1.1) (nr_wd x2 h.1.2.1.2) ?_ (nr_eq x1 x2 h.1.2.2.2.1 hR8 eR)
              rw [x1.1 0 2 (by omega) (by omega)]
              exact h.1.2.2.1
        · refine PR.er (k := 1) h (by decide) (by decide) ?_ (fun μ1 f => ?_)
          · simp -implicitDefEqProofs only [cl_59, u_59_0, u_59_1, u_59_2, u_59_3, u_59_4, u_59_5, u_59_6, u_59_7, u_59_8, e_iload_n, e_iload, e_lload_n, e_lload, e_aload_n, e_aload, e_istore_n, e_istore, e_astore_n, e_astore, e_lstore_n, e_lstore, e_iinc, e_iconst, e_bipush, e_sipush, e_ldc_w, e_ldc, e_ldcS, e_lconst, e_ldc2_w, e_iadd, e_isub, e_imul, e_iand, e_ixor, e_ishl, e_ishr, e_iushr, e_idiv, e_irem, e_ineg, e_i2b, e_i2s, e_i2c, e_ladd, e_lsub, e_lmul, e_land, e_lor, e_ldiv, e_lrem, e_lneg, e_lshl, e_lshr, e_lushr, e_i2l, e_l2i, e_lcmp, e_dupI, e_dupA, e_dup2, e_getI, e_getA, e_putI, e_putZ, e_getstatic, e_iaload, e_iastore, e_aaload10, e_alen10, e_aaload11, e_alen11, e_aaload12, e_alen12, e_aaload13, e_alen13, e_alen, e_invokevirtual, e_invokevirtualB, e_invokestatic, e_invokestaticB, ct_0, ct_i, ct_a, ct_l, os_0, os_s, rc_0, rc_s, sl_0, sl_i, sl_a, sl_l, simprocAttr, ix, z_em, up_eq, up_j, Nat.le_refl, true_or, or_true, true_and, and_true, and_self, or_self, beq_self_eq_true, if_true, if_false, ite_self, ca_f, ca_t, aLen, Int32.lt_iff_toInt_lt, Int32.le_iff_toInt_le, z_ite, z_iten, z_ite1, ite_not, not_true_eq_false, not_false_eq_true, false_and, and_false, false_or, or_false, b_max, b_min, b_minL, b_absL, b_ixD, b_ixH, b_copy, tk_0, tk_s, dr_0, dr_s, pu_s, pu_n, ca_0, ca_1, clr_0, clr_s, e_nop, e_goto, e_if_eq, e_if_ne, e_if_lt, e_if_ge, e_if_gt, e_if_le, e_ic_eq, e_ic_ne, e_ic_lt, e_ic_ge, e_ic_gt, e_ic_le, e_tsw, e_lsw, sw_0, sw_s, e_iret, e_zret, e_lret, e_aret, e_ret, en_0, en_n, en_i, en_a, en_l, List.getElem?_cons_zero, List.getElem?_cons_succ, List.set_cons_zero, List.set_cons_succ, len_s, List.length_nil, ne_eq, x_within, x_in, eT1, eT2, eT3, eT4, eT5, eT6, eM1, eM2, eM3, eM4, eM5, eM6, Nat.one_mul, Nat.mul_one, Nat.zero_add, xW h, q1, q2, q3, q4]
          · simp -implicitDefEqProofs only [cl_122, u_122_0, u_122_1, u_122_2, u_122_3, u_122_4, u_122_5, u_122_6, u_122_7, e_iload_n, e_iload, e_lload_n, e_lload, e_aload_n, e_aload, e_istore_n, e_istore, e_astore_n, e_astore, e_lstore_n, e_lstore, e_iinc, e_iconst, e_bipush, e_sipush, e_ldc_w, e_ldc, e_ldcS, e_lconst, e_ldc2_w, e_iadd, e_isub, e_imul, e_iand, e_ixor, e_ishl, e_ishr, e_iushr, e_idiv, e_irem, e_ineg, e_i2b, e_i2s, e_i2c, e_ladd, e_lsub, e_lmul, e_land, e_lor, e_ldiv, e_lrem, e_lneg, e_lshl, e_lshr, e_lushr, e_i2l, e_l2i, e_lcmp, e_dupI, e_dupA, e_dup2, e_getI, e_getA, e_putI, e_putZ, e_getstatic, e_iaload, e_iastore, e_aaload10, e_alen10, e_aaload11, e_alen11, e_aaload12, e_alen12, e_aaload13, e_alen13, e_alen, e_invokevirtual, e_invokevirtualB, e_invokestatic, e_invokestaticB, ct_0, ct_i, ct_a, ct_l, os_0, os_s, rc_0, rc_s, sl_0, sl_i, sl_a, sl_l, simprocAttr, ix, z_em, up_eq, up_j, Nat.le_refl, true_or, or_true, true_and, and_true, and_self, or_self, beq_self_eq_true, if_true, if_false, ite_self, ca_f, ca_t, aLen, Int32.lt_iff_toInt_lt, Int32.le_iff_toInt_le, z_ite, z_iten, z_ite1, ite_not, not_true_eq_false, not_false_eq_true, false_and, and_false, false_or, or_false, b_max, b_min, b_minL, b_absL, b_ixD, b_ixH, b_copy, tk_0, tk_s, dr_0, dr_s, pu_s, pu_n, ca_0, ca_1, clr_0, clr_s, e_nop, e_goto, e_if_eq, e_if_ne, e_if_lt, e_if_ge, e_if_gt, e_if_le, e_ic_eq, e_ic_ne, e_ic_lt, e_ic_ge, e_ic_gt, e_ic_le, e_tsw, e_lsw, sw_0, sw_s, e_iret, e_zret, e_lret, e_aret, e_ret, en_0, en_n, en_i, en_a, en_l, List.getElem?_cons_zero, List.getElem?_cons_succ, List.set_cons_zero, List.set_cons_succ, len_s, List.length_nil, ne_eq, x_within, x_in, eT1, eT2, eT3, eT4, eT5, eT6, eM1, eM2, eM3, eM4, eM5, eM6, Nat.one_mul, Nat.mul_one, Nat.zero_add, yW h (f 113 (by decide)), q1, q2, q3, q4]
      · refine PR.er (k := 1) h (by decide) (by decide) ?_ (fun μ1 f => ?_)
        · simp -implicitDefEqProofs only [cl_59, u_59_0, u_59_1, u_59_2, u_59_3, u_59_4, u_59_5, u_59_6, u_59_7, u_59_8, e_iload_n, e_iload, e_lload_n, e_lload, e_aload_n, e_aload, e_istore_n, e_istore, e_astore_n, e_astore, e_lstore_n, e_lstore, e_iinc, e_iconst, e_bipush, e_sipush, e_ldc_w, e_ldc, e_ldcS, e_lconst, e_ldc2_w, e_iadd, e_isub, e_imul, e_iand, e_ixor, e_ishl, e_ishr, e_iushr, e_idiv, e_irem, e_ineg, e_i2b, e_i2s, e_i2c, e_ladd, e_lsub, e_lmul, e_land, e_lor, e_ldiv, e_lrem, e_lneg, e_lshl, e_lshr, e_lushr, e_i2l, e_l2i, e_lcmp, e_dupI, e_dupA, e_dup2, e_getI, e_getA, e_putI, e_putZ, e_getstatic, e_iaload, e_iastore, e_aaload10, e_alen10, e_aaload11, e_alen11, e_aaload12, e_alen12, e_aaload13, e_alen13, e_alen, e_invokevirtual, e_invokevirtualB, e_invokestatic, e_invokestaticB, ct_0, ct_i, ct_a, ct_l, os_0, os_s, rc_0, rc_s, sl_0, sl_i, sl_a, sl_l, simprocAttr, ix, z_em, up_eq, up_j, Nat.le_refl, true_or, or_true, true_and, and_true, and_self, or_self, beq_self_eq_true, if_true, if_false, ite_self, ca_f, ca_t, aLen, Int32.lt_iff_toInt_lt, Int32.le_iff_toInt_le, z_ite, z_iten, z_ite1, ite_not, not_true_eq_false, not_false_eq_true, false_and, and_false, false_or, or_false, b_max, b_min, b_minL, b_absL, b_ixD, b_ixH, b_copy, tk_0, tk_s, dr_0, dr_s, pu_s, pu_n, ca_0, ca_1, clr_0, clr_s, e_nop, e_goto, e_if_eq, e_if_ne, e_if_lt, e_if_ge, e_if_gt, e_if_le, e_ic_eq, e_ic_ne, e_ic_lt, e_ic_ge, e_ic_gt, e_ic_le, e_tsw, e_lsw, sw_0, sw_s, e_iret, e_zret, e_lret, e_aret, e_ret, en_0, en_n, en_i, en_a, en_l, List.getElem?_cons_zero, List.getElem?_cons_succ, List.set_cons_zero, List.set_cons_succ, len_s, List.length_nil, ne_eq, x_within, x_in, eT1, eT2, eT3, eT4, eT5, eT6, eM1, eM2, eM3, eM4, eM5, eM6, Nat.one_mul, Nat.mul_one, Nat.zero_add, xW h, q1, q2, q3]
        · simp -implicitDefEqProofs only [cl_122, u_122_0, u_122_1, u_122_2, u_122_3, u_122_4, u_122_5, u_122_6, u_122_7, e_iload_n, e_iload, e_lload_n, e_lload, e_aload_n, e_aload, e_istore_n, e_istore, e_astore_n, e_astore, e_lstore_n, e_lstore, e_iinc, e_iconst, e_bipush, e_sipush, e_ldc_w, e_ldc, e_ldcS, e_lconst, e_ldc2_w, e_iadd, e_isub, e_imul, e_iand, e_ixor, e_ishl, e_ishr, e_iushr, e_idiv, e_irem, e_ineg, e_i2b, e_i2s, e_i2c, e_ladd, e_lsub, e_lmul, e_land, e_lor, e_ldiv, e_lrem, e_lneg, e_lshl, e_lshr, e_lushr, e_i2l, e_l2i, e_lcmp, e_dupI, e_dupA, e_dup2, e_getI, e_getA, e_putI, e_putZ, e_getstatic, e_iaload, e_iastore, e_aaload10, e_alen10, e_aaload11, e_alen11, e_aaload12, e_alen12, e_aaload13, e_alen13, e_alen, e_invokevirtual, e_invokevirtualB, e_invokestatic, e_invokestaticB, ct_0, ct_i, ct_a, ct_l, os_0, os_s, rc_0, rc_s, sl_0, sl_i, sl_a, sl_l, simprocAttr, ix, z_em, up_eq, up_j, Nat.le_refl, true_or, or_true, true_and, and_true, and_self, or_self, beq_self_eq_true, if_true, if_false, ite_self, ca_f, ca_t, aLen, Int32.lt_iff_toInt_lt, Int32.le_iff_toInt_le, z_ite, z_iten, z_ite1, ite_not, not_true_eq_false, not_false_eq_true, false_and, and_false, false_or, or_false, b_max, b_min, b_minL, b_absL, b_ixD, b_ixH, b_copy, tk_0, tk_s, dr_0, dr_s, pu_s, pu_n, ca_0, ca_1, clr_0, clr_s, e_nop, e_goto, e_if_eq, e_if_ne, e_if_lt, e_if_ge, e_if_gt, e_if_le, e_ic_eq, e_ic_ne, e_ic_lt, e_ic_ge, e_ic_gt, e_ic_le, e_tsw, e_lsw, sw_0, sw_s, e_iret, e_zret, e_lret, e_aret, e_ret, en_0, en_n, en_i, en_a, en_l, List.getElem?_cons_zero, List.getElem?_cons_succ, List.set_cons_zero, List.set_cons_succ, len_s, List.length_nil, ne_eq, x_within, x_in, eT1, eT2, eT3, eT4, eT5, eT6, eM1, eM2, eM3, eM4, eM5, eM6, Nat.one_mul, Nat.mul_one, Nat.zero_add, yW h (f 113 (by decide)), q1, q2, q3]
    · refine PR.er (k := 1) h (by decide) (by decide) ?_ (fun μ1 f => ?_)
      · simp -implicitDefEqProofs only [cl_59, u_59_0, u_59_1, u_59_2, u_59_3, u_59_4, u_59_5, u_59_6, u_59_7, u_59_8, e_iload_n, e_iload, e_lload_n, e_lload, e_aload_n, e_aload, e_istore_n, e_istore, e_astore_n, e_astore, e_lstore_n, e_lstore, e_iinc, e_iconst, e_bipush, e_sipush, e_ldc_w, e_ldc, e_ldcS, e_lconst, e_ldc2_w, e_iadd, e_isub, e_imul, e_iand, e_ixor, e_ishl, e_ishr, e_iushr, e_idiv, e_irem, e_ineg, e_i2b, e_i2s, e_i2c, e_ladd, e_lsub, e_lmul, e_land, e_lor, e_ldiv, e_lrem, e_lneg, e_lshl, e_lshr, e_lushr, e_i2l, e_l2i, e_lcmp, e_dupI, e_dupA, e_dup2, e_getI, e_getA, e_putI, e_putZ, e_getstatic, e_iaload, e_iastore, e_aaload10, e_alen10, e_aaload11, e_alen11, e_aaload12, e_alen12, e_aaload13, e_alen13, e_alen, e_invokevirtual, e_invokevirtualB, e_invokestatic, e_invokestaticB, ct_0, ct_i, ct_a, ct_l, os_0, os_s, rc_0, rc_s, sl_0, sl_i, sl_a, sl_l, simprocAttr, ix, z_em, up_eq, up_j, Nat.le_refl, true_or, or_true, true_and, and_true, and_self, or_self, beq_self_eq_true, if_true, if_false, ite_self, ca_f, ca_t, aLen, Int32.lt_iff_toInt_lt, Int32.le_iff_toInt_le, z_ite, z_iten, z_ite1, ite_not, not_true_eq_false, not_false_eq_true, false_and, and_false, false_or, or_false, b_max, b_min, b_minL, b_absL, b_ixD, b_ixH, b_copy, tk_0, tk_s, dr_0, dr_s, pu_s, pu_n, ca_0, ca_1, clr_0, clr_s, e_nop, e_goto, e_if_eq, e_if_ne, e_if_lt, e_if_ge, e_if_gt, e_if_le, e_ic_eq, e_ic_ne, e_ic_lt, e_ic_ge, e_ic_gt, e_ic_le, e_tsw, e_lsw, sw_0, sw_s, e_iret, e_zret, e_lret, e_aret, e_ret, en_0, en_n, en_i, en_a, en_l, List.getElem?_cons_zero, List.getElem?_cons_succ, List.set_cons_zero, List.set_cons_succ, len_s, List.length_nil, ne_eq, x_within, x_in, eT1, eT2, eT3, eT4, eT5, eT6, eM1, eM2, eM3, eM4, eM5, eM6, Nat.one_mul, Nat.mul_one, Nat.zero_add, xW h, q1, q2]
      · simp -implicitDefEqProofs only [cl_122, u_122_0, u_122_1, u_122_2, u_122_3, u_122_4, u_122_5, u_122_6, u_122_7, e_iload_n, e_iload, e_lload_n, e_lload, e_aload_n, e_aload, e_istore_n, e_istore, e_astore_n, e_astore, e_lstore_n, e_lstore, e_iinc, e_iconst, e_bipush, e_sipush, e_ldc_w, e_ldc, e_ldcS, e_lconst, e_ldc2_w, e_iadd, e_isub, e_imul, e_iand, e_ixor, e_ishl, e_ishr, e_iushr, e_idiv, e_irem, e_ineg, e_i2b, e_i2s, e_i2c, e_ladd, e_lsub, e_lmul, e_land, e_lor, e_ldiv, e_lrem, e_lneg, e_lshl, e_lshr, e_lushr, e_i2l, e_l2i, e_lcmp, e_dupI, e_dupA, e_dup2, e_getI, e_getA, e_putI, e_putZ, e_getstatic, e_iaload, e_iastore, e_aaload10, e_alen10, e_aaload11, e_alen11, e_aaload12, e_alen12, e_aaload13, e_alen13, e_alen, e_invokevirtual, e_invokevirtualB, e_invokestatic, e_invokestaticB, ct_0, ct_i, ct_a, ct_l, os_0, os_s, rc_0, rc_s, sl_0, sl_i, sl_a, sl_l, simprocAttr, ix, z_em, up_eq, up_j, Nat.le_refl, true_or, or_true, true_and, and_true, and_self, or_self, beq_self_eq_true, if_true, if_false, ite_self, ca_f, ca_t, aLen, Int32.lt_iff_toInt_lt, Int32.le_iff_toInt_le, z_ite, z_iten, z_ite1, ite_not, not_true_eq_false, not_false_eq_true, false_and, and_false, false_or, or_false, b_max, b_min, b_minL, b_absL, b_ixD, b_ixH, b_copy, tk_0, tk_s, dr_0, dr_s, pu_s, pu_n, ca_0, ca_1, clr_0, clr_s, e_nop, e_goto, e_if_eq, e_if_ne, e_if_lt, e_if_ge, e_if_gt, e_if_le, e_ic_eq, e_ic_ne, e_ic_lt, e_ic_ge, e_ic_gt, e_ic_le, e_tsw, e_lsw, sw_0, sw_s, e_iret, e_zret, e_lret, e_aret, e_ret, en_0, en_n, en_i, en_a, en_l, List.getElem?_cons_zero, List.getElem?_cons_succ, List.set_cons_zero, List.set_cons_succ, len_s, List.length_nil, ne_eq, x_within, x_in, eT1, eT2, eT3, eT4, eT5, eT6, eM1, eM2, eM3, eM4, eM5, eM6, Nat.one_mul, Nat.mul_one, Nat.zero_add, yW h (f 113 (by decide)), q1, q2]
  · refine PR.er (k := 1) h (by decide) (by decide) ?_ (fun μ1 f => ?_)
    · simp -implicitDefEqProofs only [cl_59, u_59_0, u_59_1, u_59_2, u_59_3, u_59_4, u_59_5, u_59_6, u_59_7, u_59_8, e_iload_n, e_iload, e_lload_n, e_lload, e_aload_n, e_aload, e_istore_n, e_istore, e_astore_n, e_astore, e_lstore_n, e_lstore, e_iinc, e_iconst, e_bipush, e_sipush, e_ldc_w, e_ldc, e_ldcS, e_lconst, e_ldc2_w, e_iadd, e_isub, e_imul, e_iand, e_ixor, e_ishl, e_ishr, e_iushr, e_idiv, e_irem, e_ineg, e_i2b, e_i2s, e_i2c, e_ladd, e_lsub, e_lmul, e_land, e_lor, e_ldiv, e_lrem, e_lneg, e_lshl, e_lshr, e_lushr, e_i2l, e_l2i, e_lcmp, e_dupI, e_dupA, e_dup2, e_getI, e_getA, e_putI, e_putZ, e_getstatic, e_iaload, e_iastore, e_aaload10, e_alen10, e_aaload11, e_alen11, e_aaload12, e_alen12, e_aaload13, e_alen13, e_alen, e_invokevirtual, e_invokevirtualB, e_invokestatic, e_invokestaticB, ct_0, ct_i, ct_a, ct_l, os_0, os_s, rc_0, rc_s, sl_0, sl_i, sl_a, sl_l, simprocAttr, ix, z_em, up_eq, up_j, Nat.le_refl, true_or, or_true, true_and, and_true, and_self, or_self, beq_self_eq_true, if_true, if_false, ite_self, ca_f, ca_t, aLen, Int32.lt_iff_toInt_lt, Int32.le_iff_toInt_le, z_ite, z_iten, z_ite1, ite_not, not_true_eq_false, not_false_eq_true, false_and, and_false, false_or, or_false, b_max, b_min, b_minL, b_absL, b_ixD, b_ixH, b_copy, tk_0, tk_s, dr_0, dr_s, pu_s, pu_n, ca_0, ca_1, clr_0, clr_s, e_nop, e_goto, e_if_eq, e_if_ne, e_if_lt, e_if_ge, e_if_gt, e_if_le, e_ic_eq, e_ic_ne, e_ic_lt, e_ic_ge, e_ic_gt, e_ic_le, e_tsw, e_lsw, sw_0, sw_s, e_iret, e_zret, e_lret, e_aret, e_ret, en_0, en_n, en_i, en_a, en_l, List.getElem?_cons_zero, List.getElem?_cons_succ, List.set_cons_zero, List.set_cons_succ, len_s, List.length_nil, ne_eq, x_within, x_in, eT1, eT2, eT3, eT4, eT5, eT6, eM1, eM2, eM3, eM4, eM5, eM6, Nat.one_mul, Nat.mul_one, Nat.zero_add, q1]
    · simp -implicitDefEqProofs only [cl_122, u_122_0, u_122_1, u_122_2, u_122_3, u_122_4, u_122_5, u_122_6, u_122_7, e_iload_n, e_iload, e_lload_n, e_lload, e_aload_n, e_aload, e_istore_n, e_istore, e_astore_n, e_astore, e_lstore_n, e_lstore, e_iinc, e_iconst, e_bipush, e_sipush, e_ldc_w, e_ldc, e_ldcS, e_lconst, e_ldc2_w, e_iadd, e_isub, e_imul, e_iand, e_ixor, e_ishl, e_ishr, e_iushr, e_idiv, e_irem, e_ineg, e_i2b, e_i2s, e_i2c, e_ladd, e_lsub, e_lmul, e_land, e_lor, e_ldiv, e_lrem, e_lneg, e_lshl, e_lshr, e_lushr, e_i2l, e_l2i, e_lcmp, e_dupI, e_dupA, e_dup2, e_getI, e_getA, e_putI, e_putZ, e_getstatic, e_iaload, e_iastore, e_aaload10, e_alen10, e_aaload11, e_alen11, e_aaload12, e_alen12, e_aaload13, e_alen13, e_alen, e_invokevirtual, e_invokevirtualB, e_invokestatic, e_invokestaticB, ct_0, ct_i, ct_a, ct_l, os_0, os_s, rc_0, rc_s, sl_0, sl_i, sl_a, sl_l, simprocAttr, ix, z_em, up_eq, up_j, Nat.le_refl, true_or, or_true, true_and, and_true, and_self, or_self, beq_self_eq_true, if_true, if_false, ite_self, ca_f, ca_t, aLen, Int32.lt_iff_toInt_lt, Int32.le_iff_toInt_le, z_ite, z_iten, z_ite1, ite_not, not_true_eq_false, not_false_eq_true, false_and, and_false, false_or, or_false, b_max, b_min, b_minL, b_absL, b_ixD, b_ixH, b_copy, tk_0, tk_s, dr_0, dr_s, pu_s, pu_n, ca_0, ca_1, clr_0, clr_s, e_nop, e_goto, e_if_eq, e_if_ne, e_if_lt, e_if_ge, e_if_gt, e_if_le, e_ic_eq, e_ic_ne, e_ic_lt, e_ic_ge, e_ic_gt, e_ic_le, e_tsw, e_lsw, sw_0, sw_s, e_iret, e_zret, e_lret, e_aret, e_ret, en_0, en_n, en_i, en_a, en_l, List.getElem?_cons_zero, List.getElem?_cons_succ, List.set_cons_zero, List.set_cons_succ, len_s, List.length_nil, ne_eq, x_within, x_in, eT1, eT2, eT3, eT4, eT5, eT6, eM1, eM2, eM3, eM4, eM5, eM6, Nat.one_mul, Nat.mul_one, Nat.zero_add, q1]
