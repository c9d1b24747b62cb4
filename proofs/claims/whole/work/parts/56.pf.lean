/-! PAIRS OF CALLS: step, rest, worker. -/
def adS (V : Mem) (w n : Nat) (t h : Int32) : Mem := up (up (up (up V (1 + w) (8 + 2 * n) t) (1 + w) (9 + 2 * n) h) (1 + w) 1 (nI (n + 1))) (1 + w) 7 (-1)
theorem x_addStep {d b w n : Nat} {t h : Int32} {μ : Mem} (hw : w < 4) (hn : n < 8) (hs : μ (b + 6 + 3 * w) 3 = nI n) : ∃ μ', cl d 35 [vR 5 (b + 6 + 3 * w), vI t, vI h] μ = some (none, μ') ∧ vC b μ' = adS (vC b μ) w n t h ∧ (FrC b μ μ' ∧ ∀ o, o ≠ b + 6 + 3 * w → o ≠ b + 6 + 3 * w + 1 → o ≠ b + 6 + 3 * w + 2 → μ' o = μ o) := by
  have nn : (nI n).toInt = n := nI_toInt (by omega)
  have cn : (nI n).toNatClampNeg = n := ix_nI (by omega)
  have b8 : ((n : Nat) : Int) < 8 := by omega
  have b0 : (0 : Int) ≤ ((n : Nat) : Int) := by omega
  have n1 : ¬ b + 6 + 3 * w = b + 6 + 3 * w + 1 := by omega
  have n2 : ¬ b + 6 + 3 * w = b + 6 + 3 * w + 2 := by omega
  have hO : ∀ t, t < 3 → b ≤ b + 6 + 3 * w + t ∧ b + 6 + 3 * w + t < b + 26 := fun t ht => by omega
  refine ⟨up (up (up (up μ (b + 6 + 3 * w + 1) n t) (b + 6 + 3 * w + 2) n h) (b + 6 + 3 * w) 3 (nI (n + 1))) (b + 6 + 3 * w) 9 (-1), ?_, ?_, ?_, fun o h0 h1 h2 => by rw [up_ne h0, up_ne h0, up_ne h2, up_ne h1]⟩
  · simp -implicitDefEqProofs only [cl_35, u_35_0, u_35_1, u_35_2, e_iload_n, e_iload, e_lload_n, e_lload, e_aload_n, e_aload, e_istore_n, e_istore, e_astore_n, e_astore, e_lstore_n, e_lstore, e_iinc, e_iconst, e_bipush, e_sipush, e_ldc_w, e_ldc, e_ldcS, e_lconst, e_ldc2_w, e_iadd, e_isub, e_imul, e_iand, e_ixor, e_ishl, e_ishr, e_iushr, e_idiv, e_irem, e_ineg, e_i2b, e_i2s, e_i2c, e_ladd, e_lsub, e_lmul, e_land, e_lor, e_ldiv, e_lrem, e_lneg, e_lshl, e_lshr, e_lushr, e_i2l, e_l2i, e_lcmp, e_dupI, e_dupA, e_dup2, e_getI, e_getA, e_putI, e_putZ, e_getstatic, e_iaload, e_iastore, e_aaload10, e_alen10, e_aaload11, e_alen11, e_aaload12, e_alen12, e_aaload13, e_alen13, e_alen, e_invokevirtual, e_invokevirtualB, e_invokestatic, e_invokestaticB, ct_0, ct_i, ct_a, ct_l, os_0, os_s, rc_0, rc_s, sl_0, sl_i, sl_a, sl_l, simprocAttr, ix, z_em, up_eq, up_j, Nat.le_refl, true_or, or_true, true_and, and_true, and_self, or_self, beq_self_eq_true, if_true, if_false, ite_self, ca_f, ca_t, aLen, Int32.lt_iff_toInt_lt, Int32.le_iff_toInt_le, z_ite, z_iten, z_ite1, ite_not, not_true_eq_false, not_false_eq_true, false_and, and_false, false_or, or_false, b_max, b_min, b_minL, b_absL, b_ixD, b_ixH, b_copy, tk_0, tk_s, dr_0, dr_s, pu_s, pu_n, ca_0, ca_1, clr_0, clr_s, e_nop, e_goto, e_if_eq, e_if_ne, e_if_lt, e_if_ge, e_if_gt, e_if_le, e_ic_eq, e_ic_ne, e_ic_lt, e_ic_ge, e_ic_gt, e_ic_le, e_tsw, e_lsw, sw_0, sw_s, e_iret, e_zret, e_lret, e_aret, e_ret, en_0, en_n, en_i, en_a, en_l, List.getElem?_cons_zero, List.getElem?_cons_succ, List.set_cons_zero, List.set_cons_succ, len_s, List.length_nil, ne_eq, x_within, x_in, eT1, eT2, eT3, eT4, eT5, eT6, eM1, eM2, eM3, eM4, eM5, eM6, Nat.one_mul, Nat.mul_one, Nat.zero_add, hs, nn, cn, b8, b0, up_o n1, up_o n2, ← nI_succ]
  · rw [uw7 hw, uw1 hw, show b + 6 + 3 * w + 2 = b + 8 + 3 * w by omega, uwh hw hn, show b + 6 + 3 * w + 1 = b + 7 + 3 * w by omega, uwl hw hn]
    rfl
  · exact (((FrC.rf.up (hO 1 (by decide))).up (hO 2 (by decide))).up (hO 0 (by decide))).up (hO 0 (by decide))
theorem y_addStep {d w n : Nat} {t h : Int32} {μ : Mem} (hw : w < 4) (hn : n < 8) (hs : vM 113 μ (1 + w) 1 = nI n) : ∃ μ', cl d 119 [vR 8 112, vI (nI w), vI t, vI h] μ = some (none, μ') ∧ vM 113 μ' = adS (vM 113 μ) w n t h ∧ FrM μ μ' := by
  have e8 : 8 + 2 * nI n = nI (8 + 2 * n) := by
    show nI 8 + nI 2 * nI n = _
    rw [nIm (by omega) (by omega) (by omega), nIa (by omega)]
  have e9 : nI (8 + 2 * n) + 1 = nI (9 + 2 * n) := by
    rw [← nI_succ]
    exact congrArg nI (by omega)
  have y8 : ∀ μ2, cl d 112 [Sum.inr (Sum.inr (8, 112)), vI (nI w), vI (nI (8 + 2 * n)), vI t] μ2 = _ := fun μ2 => y_lays1 (d := d) (μ := μ2) (v := t) hw (show 8 + 2 * n < 24 by omega) rfl
  have y9 : ∀ μ2, cl d 112 [Sum.inr (Sum.inr (8, 112)), vI (nI w), vI (nI (9 + 2 * n)), vI h] μ2 = _ := fun μ2 => y_lays1 (d := d) (μ := μ2) (v := h) hw (show 9 + 2 * n < 24 by omega) rfl
  refine ⟨up (up (up (up μ 113 (10 + 24 * w + (8 + 2 * n)) t) 113 (10 + 24 * w + (9 + 2 * n)) h) 113 (10 + 24 * w + 1) (nI (n + 1))) 113 (10 + 24 * w + 7) (-1), ?_, ?_, ?_⟩
  · simp -implicitDefEqProofs only [cl_119, u_119_0, e_iload_n, e_iload, e_lload_n, e_lload, e_aload_n, e_aload, e_istore_n, e_istore, e_astore_n, e_astore, e_lstore_n, e_lstore, e_iinc, e_iconst, e_bipush, e_sipush, e_ldc_w, e_ldc, e_ldcS, e_lconst, e_ldc2_w, e_iadd, e_isub, e_imul, e_iand, e_ixor, e_ishl, e_ishr, e_iushr, e_idiv, e_irem, e_ineg, e_i2b, e_i2s, e_i2c, e_ladd, e_lsub, e_lmul, e_land, e_lor, e_ldiv, e_lrem, e_lneg, e_lshl, e_lshr, e_lushr, e_i2l, e_l2i, e_lcmp, e_dupI, e_dupA, e_dup2, e_getI, e_getA, e_putI, e_putZ, e_getstatic, e_iaload, e_iastore, e_aaload10, e_alen10, e_aaload11, e_alen11, e_aaload12, e_alen12, e_aaload13, e_alen13, e_alen, e_invokevirtual, e_invokevirtualB, e_invokestatic, e_invokestaticB, ct_0, ct_i, ct_a, ct_l, os_0, os_s, rc_0, rc_s, sl_0, sl_i, sl_a, sl_l, simprocAttr, ix, z_em, up_eq, up_j, Nat.le_refl, true_or, or_true, true_and, and_true, and_self, or_self, beq_self_eq_true, if_true, if_false, ite_self, ca_f, ca_t, aLen, Int32.lt_iff_toInt_lt, Int32.le_iff_toInt_le, z_ite, z_iten, z_ite1, ite_not, not_true_eq_false, not_false_eq_true, false_and, and_false, false_or, or_false, b_max, b_min, b_minL, b_absL, b_ixD, b_ixH, b_copy, tk_0, tk_s, dr_0, dr_s, pu_s, pu_n, ca_0, ca_1, clr_0, clr_s, e_nop, e_goto, e_if_eq, e_if_ne, e_if_lt, e_if_ge, e_if_gt, e_if_le, e_ic_eq, e_ic_ne, e_ic_lt, e_ic_ge, e_ic_gt, e_ic_le, e_tsw, e_lsw, sw_0, sw_s, e_iret, e_zret, e_lret, e_aret, e_ret, en_0, en_n, en_i, en_a, en_l, List.getElem?_cons_zero, List.getElem?_cons_succ, List.set_cons_zero, List.set_cons_succ, len_s, List.length_nil, ne_eq, x_within, x_in, eT1, eT2, eT3, eT4, eT5, eT6, eM1, eM2, eM3, eM4, eM5, eM6, Nat.one_mul, Nat.mul_one, Nat.zero_add, yi1 hw, hs, e8, e9, y8, y9, yl1 hw, yl7 hw, ← nI_succ]
  · rw [umw hw (by decide), umw hw (by decide), umw hw (by omega), umw hw (by omega)]
    rfl
  · exact (((FrM.rf.up (by omega)).up (by omega)).up (by omega)).up (by omega)
theorem ad_o {V : Mem} {w n o k : Nat} {t h : Int32} (ho : ¬ o = 1 + w) : adS V w n t h o k = V o k := by
  unfold adS
  rw [up_o ho, up_o ho, up_o ho, up_o ho]
theorem ad_1 {V : Mem} {w n : Nat} {t h : Int32} : adS V w n t h (1 + w) 1 = nI (n + 1) := by
  unfold adS
  rw [up_j (by decide), up_eq]
theorem ad_l {V V' : Mem} {w n k : Nat} {t h : Int32} (he : ¬ (k = 1 ∨ k = 7 ∨ k = 8 + 2 * n ∨ k = 9 + 2 * n) → V' (1 + w) k = V (1 + w) k) : adS V' w n t h (1 + w) k = adS V w n t h (1 + w) k := by
  unfold adS up
  simp only [true_and]
  by_cases h7 : k = 7
  · rw [if_pos h7, if_pos h7]
  · rw [if_neg h7, if_neg h7]
    by_cases h1 : k = 1
    · rw [if_pos h1, if_pos h1]
    · rw [if_neg h1, if_neg h1]
      by_cases h9 : k = 9 + 2 * n
      · rw [if_pos h9, if_pos h9]
      · rw [if_neg h9, if_neg h9]
        by_cases h8 : k = 8 + 2 * n
        · rw [if_pos h8, if_pos h8]
        · rw [if_neg h8, if_neg h8]
          exact he (by omega)
theorem wf_ad {V : Mem} {w n : Nat} {t h : Int32} (hW : WFV V) (hw : w < 4) (hn : n < 8) (hs : V (1 + w) 1 = nI n) (ht : 1 ≤ t.toInt ∧ t.toInt ≤ 60) (hh : 0 ≤ h.toInt ∧ h.toInt ≤ 9) : WFV (adS V w n t h) := by
  have nn : (nI n).toInt = n := nI_toInt (by omega)
  have nn1 : (nI (n + 1)).toInt = (n + 1 : Nat) := nI_toInt (by omega)
  have l8 : loV (1 + w) (8 + 2 * n) = 0 ∧ hiV (1 + w) (8 + 2 * n) = 60 := by
    simp only [loV, hiV, if_neg (show ¬ 1 + w = 0 by omega), if_pos (show 1 + w < 5 by omega), if_neg (show ¬ 8 + 2 * n = 0 by omega), if_neg (show ¬ 8 + 2 * n = 1 by omega), if_neg (show ¬ 8 + 2 * n = 2 by omega), if_neg (show ¬ 8 + 2 * n = 3 by omega), if_neg (show ¬ 8 + 2 * n = 4 by omega), if_neg (show ¬ 8 + 2 * n = 5 by omega), if_neg (show ¬ 8 + 2 * n = 6 by omega), if_neg (show ¬ 8 + 2 * n = 7 by omega), if_pos (show (8 + 2 * n) % 2 = 0 by omega)]
    exact ⟨by first | rfl | trivial, by first | rfl | trivial⟩
  have l9 : loV (1 + w) (9 + 2 * n) = 0 ∧ hiV (1 + w) (9 + 2 * n) = 9 := by
    simp only [loV, hiV, if_neg (show ¬ 1 + w = 0 by omega), if_pos (show 1 + w < 5 by omega), if_neg (show ¬ 9 + 2 * n = 0 by omega), if_neg (show ¬ 9 + 2 * n = 1 by omega), if_neg (show ¬ 9 + 2 * n = 2 by omega), if_neg (show ¬ 9 + 2 * n = 3 by omega), if_neg (show ¬ 9 + 2 * n = 4 by omega), if_neg (show ¬ 9 + 2 * n = 5 by omega), if_neg (show ¬ 9 + 2 * n = 6 by omega), if_neg (show ¬ 9 + 2 * n = 7 by omega), if_neg (show ¬ (9 + 2 * n) % 2 = 0 by omega)]
    exact ⟨by first | rfl | trivial, by first | rfl | trivial⟩
  have h1 : WFV (up (up V (1 + w) (8 + 2 * n) t) (1 + w) (9 + 2 * n) h) := by
    refine wf_up (wf_up hW (by unfold plV; omega) ?_) (by unfold plV; omega) ?_
    · rw [l8.1, l8.2]
      omega
    · rw [l9.1, l9.2]
      exact hh
  have g2 := gw2 hW hw
  have g21 := hW.2.1 w hw
  rw [hs, nn] at g21
  have h2 : WFV (up (up (up V (1 + w) (8 + 2 * n) t) (1 + w) (9 + 2 * n) h) (1 + w) 1 (nI (n + 1))) := by
    have e : ∀ a c, ¬ (a = 1 + w ∧ c = 1) → up (up (up V (1 + w) (8 + 2 * n) t) (1 + w) (9 + 2 * n) h) (1 + w) 1 (nI (n + 1)) a c = up (up V (1 + w) (8 + 2 * n) t) (1 + w) (9 + 2 * n) h a c := fun a c q => if_neg q
    refine ⟨wf_rg h1.1 (by rw [(lw1 hw).1, (lw1 hw).2, nn1]; omega), fun x hx => ?_, fun r hr => ?_⟩
    · by_cases q : x = w
      · subst q
        rw [up_eq, e _ _ (by omega), up_j (by omega), up_j (by omega), nn1]
        omega
      · rw [e _ _ (by omega), e _ _ (by omega)]
        exact h1.2.1 x hx
    · rw [e _ _ (by omega), e _ _ (by omega), e _ _ (by omega)]
      exact h1.2.2 r hr
  refine wf_up h2 (by unfold plV; omega) ?_
  rw [(lw7 hw).1, (lw7 hw).2]
  decide
theorem wd_ad {V : Mem} {w n : Nat} {t h : Int32} (hD : WFD V) (hw : w < 4) : WFD (adS V w n t h) := by
  refine ⟨fun r hr => ?_, ?_⟩
  · rw [ad_o (by omega), ad_o (by omega)]
    exact hD.1 r hr
  · rw [ad_o (by omega)]
    exact hD.2
theorem eq_ad {V V' : Mem} {w n : Nat} {t h : Int32} (hE : EQV V V') (hw : w < 4) (hc : (w : Int) < (V 0 0).toInt) (hn : n < 8) (hs : V (1 + w) 1 = nI n) : EQV (adS V w n t h) (adS V' w n t h) := by
  obtain ⟨h1, h2, h3, h4, h5⟩ := hE
  have cn : (nI n).toNatClampNeg = n := ix_nI (by omega)
  have cn1 : (nI (n + 1)).toNatClampNeg = n + 1 := ix_nI (by omega)
  refine ⟨fun k hk => by rw [ad_o (by omega), ad_o (by omega)]; exact h1 k hk, fun x hx hxc k hk hu => ?_, fun r hr hrc k hk => ?_, fun i hi hic => ?_, fun i hi hic => ?_⟩
  · rw [ad_o (by omega)] at hxc
    by_cases q : x = w
    · subst q
      refine ad_l fun hk2 => h2 x hx hxc k hk ?_
      unfold usK at hu ⊢
      rw [ad_1, cn1] at hu
      rw [hs, cn]
      omega
    · rw [ad_o (by omega), ad_o (by omega)]
      refine h2 x hx hxc k hk ?_
      unfold usK at hu ⊢
      rw [ad_o (by omega)] at hu
      exact hu
  · rw [ad_o (by omega)] at hrc
    rw [ad_o (by omega), ad_o (by omega)]
    exact h3 r hr hrc k hk
  · rw [ad_o (by omega)] at hic
    rw [ad_o (by omega), ad_o (by omega)]
    exact h4 i hi hic
  · rw [ad_o (by omega)] at hic
    rw [ad_o (by omega), ad_o (by omega)]
    exact h5 i hi hic
theorem RR.ad4 {fz μ μ1 μ2 : Mem} {w n : Nat} {t h : Int32} (hR : RR fz μ) (hw : w < 4) (hc : (w : Int) < (vC 1 μ 0 0).toInt) (hn : n < 8) (hs : vC 1 μ (1 + w) 1 = nI n) (ht : 1 ≤ t.toInt ∧ t.toInt ≤ 60) (hh : 0 ≤ h.toInt ∧ h.toInt ≤ 9) (f1 : FrC 1 μ μ1) (f2 : FrM μ1 μ2) (v1 : vC 1 μ1 = adS (vC 1 μ) w n t h) (v2 : vM 113 μ2 = adS (vM 113 μ) w n t h) : RR fz μ2 := by
  have hs2 : vM 113 μ (1 + w) 1 = nI n := by rw [← hs]; exact hR.1.2.2.2.1.2.1 w hw hc 1 (by decide) (Or.inl (by decide))
  refine hR.w2 f1 f2 (by rw [v1]; exact wf_ad hR.1.1.1 hw hn hs ht hh) (by rw [v2]; exact wf_ad hR.1.1.2 hw hn hs2 ht hh) (by rw [v1]; exact wd_ad hR.1.2.1.1 hw) (by rw [v2]; exact wd_ad hR.1.2.1.2 hw) ?_ (by rw [v1, v2]; exact eq_ad hR.1.2.2.2.1 hw hc hn hs)
  rw [v1, ad_o (by omega)]
  exact hR.1.2.2.1
theorem p_step {fz : Mem} {d : Nat} {w t k : Int32} {μ : Mem} (h : RR fz μ) : PR fz d 57 120 [vI w, vI t, vI k] μ := by
  by_cases q1 : 0 ≤ w.toInt ∧ w.toInt < (vC 1 μ 0 0).toInt
  · by_cases q2 : (1 ≤ t.toInt ∧ t.toInt ≤ 60) ∧ (0 ≤ k.toInt ∧ k.toInt ≤ 9)
    · have g := gs0 h.1.1.1
      obtain ⟨w', hw, rfl⟩ := nIof (v := w) (n := 4) q1.1 (by omega)
      have nw : (nI w').toInt = w' := nI_toInt (by omega)
      have cw : (nI w').toNatClampNeg = w' := ix_nI (by omega)
      have b4 : (w' : Int) < 4 := by omega
      have b0 : (0 : Int) ≤ (w' : Int) := by omega
      rw [nw] at q1
      have g1 := gw1 h.1.1.1 hw
      obtain ⟨n, hn, en⟩ := nIof (v := vC 1 μ (1 + w') 1) (n := 9) g1.1 (by omega)
      have nn : (nI n).toInt = n := nI_toInt (by omega)
      have hs : μ (7 + 3 * w') 3 = nI n := (cw1 (b := 1) hw).trans en
      have he1 : vM 113 μ (1 + w') 1 = nI n := by rw [← en]; exact h.1.2.2.2.1.2.1 w' hw q1.2 1 (by decide) (Or.inl (by decide))
      by_cases q3 : n = 8
      · subst q3
        refine PR.er (k := 4) h (by decide) (by decide) ?_ (fun μ1 f => ?_)
        · simp -implicitDefEqProofs only [cl_57, u_57_0, u_57_1, u_57_2, u_57_3, u_57_4, u_57_5, e_iload_n, e_iload, e_lload_n, e_lload, e_aload_n, e_aload, e_istore_n, e_istore, e_astore_n, e_astore, e_lstore_n, e_lstore, e_iinc, e_iconst, e_bipush, e_sipush, e_ldc_w, e_ldc, e_ldcS, e_lconst, e_ldc2_w, e_iadd, e_isub, e_imul, e_iand, e_ixor, e_ishl, e_ishr, e_iushr, e_idiv, e_irem, e_ineg, e_i2b, e_i2s, e_i2c, e_ladd, e_lsub, e_lmul, e_land, e_lor, e_ldiv, e_lrem, e_lneg, e_lshl, e_lshr, e_lushr, e_i2l, e_l2i, e_lcmp, e_dupI, e_dupA, e_dup2, e_getI, e_getA, e_putI, e_putZ, e_getstatic, e_iaload, e_iastore, e_aaload10, e_alen10, e_aaload11, e_alen11, e_aaload12, e_alen12, e_aaload13, e_alen13, e_alen, e_invokevirtual, e_invokevirtualB, e_invokestatic, e_invokestaticB, ct_0, ct_i, ct_a, ct_l, os_0, os_s, rc_0, rc_s, sl_0, sl_i, sl_a, sl_l, simprocAttr, ix, z_em, up_eq, up_j, Nat.le_refl, true_or, or_true, true_and, and_true, and_self, or_self, beq_self_eq_true, if_true, if_false, ite_self, ca_f, ca_t, aLen, Int32.lt_iff_toInt_lt, Int32.le_iff_toInt_le, z_ite, z_iten, z_ite1, ite_not, not_true_eq_false, not_false_eq_true, false_and, and_false, false_or, or_false, b_max, b_min, b_minL, b_absL, b_ixD, b_ixH, b_copy, tk_0, tk_s, dr_0, dr_s, pu_s, pu_n, ca_0, ca_1, clr_0, clr_s, e_nop, e_goto, e_if_eq, e_if_ne, e_if_lt, e_if_ge, e_if_gt, e_if_le, e_ic_eq, e_ic_ne, e_ic_lt, e_ic_ge, e_ic_gt, e_ic_le, e_tsw, e_lsw, sw_0, sw_s, e_iret, e_zret, e_lret, e_aret, e_ret, en_0, en_n, en_i, en_a, en_l, List.getElem?_cons_zero, List.getElem?_cons_succ, List.set_cons_zero, List.set_cons_succ, len_s, List.length_nil, ne_eq, x_within, x_in, eT1, eT2, eT3, eT4, eT5, eT6, eM1, eM2, eM3, eM4, eM5, eM6, Nat.one_mul, Nat.mul_one, Nat.zero_add, xW h, nw, cw, b4, b0, q1, x_mayBeStep, if_pos q2, hs, nn]
        · have vm : vM 113 μ1 = vM 113 μ := vM_congr (f 113 (by decide))
          have z8 : (nI 8 : Int32) = 8 := rfl
          simp -implicitDefEqProofs only [cl_120, u_120_0, u_120_1, u_120_2, u_120_3, u_120_4, u_120_5, e_iload_n, e_iload, e_lload_n, e_lload, e_aload_n, e_aload, e_istore_n, e_istore, e_astore_n, e_astore, e_lstore_n, e_lstore, e_iinc, e_iconst, e_bipush, e_sipush, e_ldc_w, e_ldc, e_ldcS, e_lconst, e_ldc2_w, e_iadd, e_isub, e_imul, e_iand, e_ixor, e_ishl, e_ishr, e_iushr, e_idiv, e_irem, e_ineg, e_i2b, e_i2s, e_i2c, e_ladd, e_lsub, e_lmul, e_land, e_lor, e_ldiv, e_lrem, e_lneg, e_lshl, e_lshr, e_lushr, e_i2l, e_l2i, e_lcmp, e_dupI, e_dupA, e_dup2, e_getI, e_getA, e_putI, e_putZ, e_getstatic, e_iaload, e_iastore, e_aaload10, e_alen10, e_aaload11, e_alen11, e_aaload12, e_alen12, e_aaload13, e_alen13, e_alen, e_invokevirtual, e_invokevirtualB, e_invokestatic, e_invokestaticB, ct_0, ct_i, ct_a, ct_l, os_0, os_s, rc_0, rc_s, sl_0, sl_i, sl_a, sl_l, simprocAttr, ix, z_em, up_eq, up_j, Nat.le_refl, true_or, or_true, true_and, and_true, and_self, or_self, beq_self_eq_true, if_true, if_false, ite_self, ca_f, ca_t, aLen, Int32.lt_iff_toInt_lt, Int32.le_iff_toInt_le, z_ite, z_iten, z_ite1, ite_not, not_true_eq_false, not_false_eq_true, false_and, and_false, false_or, or_false, b_max, b_min, b_minL, b_absL, b_ixD, b_ixH, b_copy, tk_0, tk_s, dr_0, dr_s, pu_s, pu_n, ca_0, ca_1, clr_0, clr_s, e_nop, e_goto, e_if_eq, e_if_ne, e_if_lt, e_if_ge, e_if_gt, e_if_le, e_ic_eq, e_ic_ne, e_ic_lt, e_ic_ge, e_ic_gt, e_ic_le, e_tsw, e_lsw, sw_0, sw_s, e_iret, e_zret, e_lret, e_aret, e_ret, en_0, en_n, en_i, en_a, en_l, List.getElem?_cons_zero, List.getElem?_cons_succ, List.set_cons_zero, List.set_cons_succ, len_s, List.length_nil, ne_eq, x_within, x_in, eT1, eT2, eT3, eT4, eT5, eT6, eM1, eM2, eM3, eM4, eM5, eM6, Nat.one_mul, Nat.mul_one, Nat.zero_add, yW h (f 113 (by decide)), nw, q1, x_isStep, if_pos q2, yi1 hw, vm, he1, z8]
      · have n8 : n < 8 := by omega
        have b8 : ((n : Nat) : Int) < 8 := by omega
        have ne8 : ¬ nI n = 8 := fun z => q3 (by
          have := congrArg Int32.toInt z
          rw [nn] at this
          have t8 : (8 : Int32).toInt = 8 := rfl
          omega)
        obtain ⟨μ1, a1, a2, a3, -⟩ := x_addStep (d := d) (b := 1) (t := t) (h := k) hw n8 hs
        have a1' : cl d 35 [Sum.inr (Sum.inr (5, 7 + 3 * w')), vI t, vI k] μ = _ := a1
        have f13 : μ1 113 = μ 113 := a3 113 (by decide) (by decide) (by decide)
        have vm : vM 113 μ1 = vM 113 μ := vM_congr f13
        obtain ⟨μ2, b1, b2, b3⟩ := y_addStep (d := d) (t := t) (h := k) (μ := μ1) hw n8 (by rw [vm]; exact he1)
        have b1' : cl d 119 [Sum.inr (Sum.inr (8, 112)), vI (nI w'), vI t, vI k] μ1 = _ := b1
        have r3 : μ1 (7 + 3 * w') 3 = nI (n + 1) := by
          have q : μ1 (7 + 3 * w') 3 = vC 1 μ1 (1 + w') 1 := cw1 (b := 1) hw
          rw [q, a2, ad_1]
        have r3m : vM 113 μ2 (1 + w') 1 = nI (n + 1) := by rw [b2, ad_1]
        refine ⟨(nI (n + 1)), μ1, μ2, (by rw [a3 202 (by omega) (by omega) (by omega)]; exact h.u2), ?_, ?_, h.ad4 hw q1.2 n8 en q2.1 q2.2 a3 b3 a2 (by rw [b2, vm])⟩
        · simp -implicitDefEqProofs only [cl_57, u_57_0, u_57_1, u_57_2, u_57_3, u_57_4, u_57_5, e_iload_n, e_iload, e_lload_n, e_lload, e_aload_n, e_aload, e_istore_n, e_istore, e_astore_n, e_astore, e_lstore_n, e_lstore, e_iinc, e_iconst, e_bipush, e_sipush, e_ldc_w, e_ldc, e_ldcS, e_lconst, e_ldc2_w, e_iadd, e_isub, e_imul, e_iand, e_ixor, e_ishl, e_ishr, e_iushr, e_idiv, e_irem, e_ineg, e_i2b, e_i2s, e_i2c, e_ladd, e_lsub, e_lmul, e_land, e_lor, e_ldiv, e_lrem, e_lneg, e_lshl, e_lshr, e_lushr, e_i2l, e_l2i, e_lcmp, e_dupI, e_dupA, e_dup2, e_getI, e_getA, e_putI, e_putZ, e_getstatic, e_iaload, e_iastore, e_aaload10, e_alen10, e_aaload11, e_alen11, e_aaload12, e_alen12, e_aaload13, e_alen13, e_alen, e_invokevirtual, e_invokevirtualB, e_invokestatic, e_invokestaticB, ct_0, ct_i, ct_a, ct_l, os_0, os_s, rc_0, rc_s, sl_0, sl_i, sl_a, sl_l, simprocAttr, ix, z_em, up_eq, up_j, Nat.le_refl, true_or, or_true, true_and, and_true, and_self, or_self, beq_self_eq_true, if_true, if_false, ite_self, ca_f, ca_t, aLen, Int32.lt_iff_toInt_lt, Int32.le_iff_toInt_le, z_ite, z_iten, z_ite1, ite_not, not_true_eq_false, not_false_eq_true, false_and, and_false, false_or, or_false, b_max, b_min, b_minL, b_absL, b_ixD, b_ixH, b_copy, tk_0, tk_s, dr_0, dr_s, pu_s, pu_n, ca_0, ca_1, clr_0, clr_s, e_nop, e_goto, e_if_eq, e_if_ne, e_if_lt, e_if_ge, e_if_gt, e_if_le, e_ic_eq, e_ic_ne, e_ic_lt, e_ic_ge, e_ic_gt, e_ic_le, e_tsw, e_lsw, sw_0, sw_s, e_iret, e_zret, e_lret, e_aret, e_ret, en_0, en_n, en_i, en_a, en_l, List.getElem?_cons_zero, List.getElem?_cons_succ, List.set_cons_zero, List.set_cons_succ, len_s, List.length_nil, ne_eq, x_within, x_in, eT1, eT2, eT3, eT4, eT5, eT6, eM1, eM2, eM3, eM4, eM5, eM6, Nat.one_mul, Nat.mul_one, Nat.zero_add, xW h, nw, cw, b4, b0, q1, x_mayBeStep, if_pos q2, hs, nn, b8, a1', r3]
        · simp -implicitDefEqProofs only [cl_120, u_120_0, u_120_1, u_120_2, u_120_3, u_120_4, u_120_5, e_iload_n, e_iload, e_lload_n, e_lload, e_aload_n, e_aload, e_istore_n, e_istore, e_astore_n, e_astore, e_lstore_n, e_lstore, e_iinc, e_iconst, e_bipush, e_sipush, e_ldc_w, e_ldc, e_ldcS, e_lconst, e_ldc2_w, e_iadd, e_isub, e_imul, e_iand, e_ixor, e_ishl, e_ishr, e_iushr, e_idiv, e_irem, e_ineg, e_i2b, e_i2s, e_i2c, e_ladd, e_lsub, e_lmul, e_land, e_lor, e_ldiv, e_lrem, e_lneg, e_lshl, e_lshr, e_lushr, e_i2l, e_l2i, e_lcmp, e_dupI, e_dupA, e_dup2, e_getI, e_getA, e_putI, e_putZ, e_getstatic, e_iaload, e_iastore, e_aaload10, e_alen10, e_aaload11, e_alen11, e_aaload12, e_alen12, e_aaload13, e_alen13, e_alen, e_invokevirtual, e_invokevirtualB, e_invokestatic, e_invokestaticB, ct_0, ct_i, ct_a, ct_l, os_0, os_s, rc_0, rc_s, sl_0, sl_i, sl_a, sl_l, simprocAttr, ix, z_em, up_eq, up_j, Nat.le_refl, true_or, or_true, true_and, and_true, and_self, or_self, beq_self_eq_true, if_true, if_false, ite_self, ca_f, ca_t, aLen, Int32.lt_iff_toInt_lt, Int32.le_iff_toInt_le, z_ite, z_iten, z_ite1, ite_not, not_true_eq_false, not_false_eq_true, false_and, and_false, false_or, or_false, b_max, b_min, b_minL, b_absL, b_ixD, b_ixH, b_copy, tk_0, tk_s, dr_0, dr_s, pu_s, pu_n, ca_0, ca_1, clr_0, clr_s, e_nop, e_goto, e_if_eq, e_if_ne, e_if_lt, e_if_ge, e_if_gt, e_if_le, e_ic_eq, e_ic_ne, e_ic_lt, e_ic_ge, e_ic_gt, e_ic_le, e_tsw, e_lsw, sw_0, sw_s, e_iret, e_zret, e_lret, e_aret, e_ret, en_0, en_n, en_i, en_a, en_l, List.getElem?_cons_zero, List.getElem?_cons_succ, List.set_cons_zero, List.set_cons_succ, len_s, List.length_nil, ne_eq, x_within, x_in, eT1, eT2, eT3, eT4, eT5, eT6, eM1, eM2, eM3, eM4, eM5, eM6, Nat.one_mul, Nat.mul_one, Nat.zero_add, yW h f13, nw, q1, x_isStep, if_pos q2, yi1 hw, vm, he1, ne8, b1', r3m]
    · refine PR.er (k := 1) h (by decide) (by decide) ?_ (fun μ1 f => ?_)
      · simp -implicitDefEqProofs only [cl_57, u_57_0, u_57_1, u_57_2, u_57_3, u_57_4, u_57_5, e_iload_n, e_iload, e_lload_n, e_lload, e_aload_n, e_aload, e_istore_n, e_istore, e_astore_n, e_astore, e_lstore_n, e_lstore, e_iinc, e_iconst, e_bipush, e_sipush, e_ldc_w, e_ldc, e_ldcS, e_lconst, e_ldc2_w, e_iadd, e_isub, e_imul, e_iand, e_ixor, e_ishl, e_ishr, e_iushr, e_idiv, e_irem, e_ineg, e_i2b, e_i2s, e_i2c, e_ladd, e_lsub, e_lmul, e_land, e_lor, e_ldiv, e_lrem, e_lneg, e_lshl, e_lshr, e_lushr, e_i2l, e_l2i, e_lcmp, e_dupI, e_dupA, e_dup2, e_getI, e_getA, e_putI, e_putZ, e_getstatic, e_iaload, e_iastore, e_aaload10, e_alen10, e_aaload11, e_alen11, e_aaload12, e_alen12, e_aaload13, e_alen13, e_alen, e_invokevirtual, e_invokevirtualB, e_invokestatic, e_invokestaticB, ct_0, ct_i, ct_a, ct_l, os_0, os_s, rc_0, rc_s, sl_0, sl_i, sl_a, sl_l, simprocAttr, ix, z_em, up_eq, up_j, Nat.le_refl, true_or, or_true, true_and, and_true, and_self, or_self, beq_self_eq_true, if_true, if_false, ite_self, ca_f, ca_t, aLen, Int32.lt_iff_toInt_lt, Int32.le_iff_toInt_le, z_ite, z_iten, z_ite1, ite_not, not_true_eq_false, not_false_eq_true, false_and, and_false, false_or, or_false, b_max, b_min, b_minL, b_absL, b_ixD, b_ixH, b_copy, tk_0, tk_s, dr_0, dr_s, pu_s, pu_n, ca_0, ca_1, clr_0, clr_s, e_nop, e_goto, e_if_eq, e_if_ne, e_if_lt, e_if_ge, e_if_gt, e_if_le, e_ic_eq, e_ic_ne, e_ic_lt, e_ic_ge, e_ic_gt, e_ic_le, e_tsw, e_lsw, sw_0, sw_s, e_iret, e_zret, e_lret, e_aret, e_ret, en_0, en_n, en_i, en_a, en_l, List.getElem?_cons_zero, List.getElem?_cons_succ, List.set_cons_zero, List.set_cons_succ, len_s, List.length_nil, ne_eq, x_within, x_in, eT1, eT2, eT3, eT4, eT5, eT6, eM1, eM2, eM3, eM4, eM5, eM6, Nat.one_mul, Nat.mul_one, Nat.zero_add, xW h, q1, x_mayBeStep, if_neg q2]
      · simp -implicitDefEqProofs only [cl_120, u_120_0, u_120_1, u_120_2, u_120_3, u_120_4, u_120_5, e_iload_n, e_iload, e_lload_n, e_lload, e_aload_n, e_aload, e_istore_n, e_istore, e_astore_n, e_astore, e_lstore_n, e_lstore, e_iinc, e_iconst, e_bipush, e_sipush, e_ldc_w, e_ldc, e_ldcS, e_lconst, e_ldc2_w, e_iadd, e_isub, e_imul, e_iand, e_ixor, e_ishl, e_ishr, e_iushr, e_idiv, e_irem, e_ineg, e_i2b, e_i2s, e_i2c, e_ladd, e_lsub, e_lmul, e_land, e_lor, e_ldiv, e_lrem, e_lneg, e_lshl, e_lshr, e_lushr, e_i2l, e_l2i, e_lcmp, e_dupI, e_dupA, e_dup2, e_getI, e_getA, e_putI, e_putZ, e_getstatic, e_iaload, e_iastore, e_aaload10, e_alen10, e_aaload11, e_alen11, e_aaload12, e_alen12, e_aaload13, e_alen13, e_alen, e_invokevirtual, e_invokevirtualB, e_invokestatic, e_invokestaticB, ct_0, ct_i, ct_a, ct_l, os_0, os_s, rc_0, rc_s, sl_0, sl_i, sl_a, sl_l, simprocAttr, ix, z_em, up_eq, up_j, Nat.le_refl, true_or, or_true, true_and, and_true, and_self, or_self, beq_self_eq_true, if_true, if_false, ite_self, ca_f, ca_t, aLen, Int32.lt_iff_toInt_lt, Int32.le_iff_toInt_le, z_ite, z_iten, z_ite1, ite_not, not_true_eq_false, not_false_eq_true, false_and, and_false, false_or, or_false, b_max, b_min, b_minL, b_absL, b_ixD, b_ixH, b_copy, tk_0, tk_s, dr_0, dr_s, pu_s, pu_n, ca_0, ca_1, clr_0, clr_s, e_nop, e_goto, e_if_eq, e_if_ne, e_if_lt, e_if_ge, e_if_gt, e_if_le, e_ic_eq, e_ic_ne, e_ic_lt, e_ic_ge, e_ic_gt, e_ic_le, e_tsw, e_lsw, sw_0, sw_s, e_iret, e_zret, e_lret, e_aret, e_ret, en_0, en_n, en_i, en_a, en_l, List.getElem?_cons_zero, List.getElem?_cons_succ, List.set_cons_zero, List.set_cons_succ, len_s, List.length_nil, ne_eq, x_within, x_in, eT1, eT2, eT3, eT4, eT5, eT6, eM1, eM2, eM3, eM4, eM5, eM6, Nat.one_mul, Nat.mul_one, Nat.zero_add, yW h (f 113 (by decide)), q1, x_isStep, if_neg q2]
  · refine PR.er (k := 1) h (by decide) (by decide) ?_ (fun μ1 f => ?_)
    · simp -implicitDefEqProofs only [cl_57, u_57_0, u_57_1, u_57_2, u_57_3, u_57_4, u_57_5, e_iload_n, e_iload, e_lload_n, e_lload, e_aload_n, e_aload, e_istore_n, e_istore, e_astore_n, e_astore, e_lstore_n, e_lstore, e_iinc, e_iconst, e_bipush, e_sipush, e_ldc_w, e_ldc, e_ldcS, e_lconst, e_ldc2_w, e_iadd, e_isub, e_imul, e_iand, e_ixor, e_ishl, e_ishr, e_iushr, e_idiv, e_irem, e_ineg, e_i2b, e_i2s, e_i2c, e_ladd, e_lsub, e_lmul, e_land, e_lor, e_ldiv, e_lrem, e_lneg, e_lshl, e_lshr, e_lushr, e_i2l, e_l2i, e_lcmp, e_dupI, e_dupA, e_dup2, e_getI, e_getA, e_putI, e_putZ, e_getstatic, e_iaload, e_iastore, e_aaload10, e_alen10, e_aaload11, e_alen11, e_aaload12, e_alen12, e_aaload13, e_alen13, e_alen, e_invokevirtual, e_invokevirtualB, e_invokestatic, e_invokestaticB, ct_0, ct_i, ct_a, ct_l, os_0, os_s, rc_0, rc_s, sl_0, sl_i, sl_a, sl_l, simprocAttr, ix, z_em, up_eq, up_j, Nat.le_refl, true_or, or_true, true_and, and_true, and_self, or_self, beq_self_eq_true, if_true, if_false, ite_self, ca_f, ca_t, aLen, Int32.lt_iff_toInt_lt, Int32.le_iff_toInt_le, z_ite, z_iten, z_ite1, ite_not, not_true_eq_false, not_false_eq_true, false_and, and_false, false_or, or_false, b_max, b_min, b_minL, b_absL, b_ixD, b_ixH, b_copy, tk_0, tk_s, dr_0, dr_s, pu_s, pu_n, ca_0, ca_1, clr_0, clr_s, e_nop, e_goto, e_if_eq, e_if_ne, e_if_lt, e_if_ge, e_if_gt, e_if_le, e_ic_eq, e_ic_ne, e_ic_lt, e_ic_ge, e_ic_gt, e_ic_le, e_tsw, e_lsw, sw_0, sw_s, e_iret, e_zret, e_lret, e_aret, e_ret, en_0, en_n, en_i, en_a, en_l, List.getElem?_cons_zero, List.getElem?_cons_succ, List.set_cons_zero, List.set_cons_succ, len_s, List.length_nil, ne_eq, x_within, x_in, eT1, eT2, eT3, eT4, eT5, eT6, eM1, eM2, eM3, eM4, eM5, eM6, Nat.one_mul, Nat.mul_one, Nat.zero_add, xW h, q1]
    · simp -implicitDefEqProofs only [cl_120, u_120_0, u_120_1, u_120_2, u_120_3, u_120_4, u_120_5, e_iload_n, e_iload, e_lload_n, e_lload, e_aload_n, e_aload, e_istore_n, e_istore, e_astore_n, e_astore, e_lstore_n, e_lstore, e_iinc, e_iconst, e_bipush, e_sipush, e_ldc_w, e_ldc, e_ldcS, e_lconst, e_ldc2_w, e_iadd, e_isub, e_imul, e_iand, e_ixor, e_ishl, e_ishr, e_iushr, e_idiv, e_irem, e_ineg, e_i2b, e_i2s, e_i2c, e_ladd, e_lsub, e_lmul, e_land, e_lor, e_ldiv, e_lrem, e_lneg, e_lshl, e_lshr, e_lushr, e_i2l, e_l2i, e_lcmp, e_dupI, e_dupA, e_dup2, e_getI, e_getA, e_putI, e_putZ, e_getstatic, e_iaload, e_iastore, e_aaload10, e_alen10, e_aaload11, e_alen11, e_aaload12, e_alen12, e_aaload13, e_alen13, e_alen, e_invokevirtual, e_invokevirtualB, e_invokestatic, e_invokestaticB, ct_0, ct_i, ct_a, ct_l, os_0, os_s, rc_0, rc_s, sl_0, sl_i, sl_a, sl_l, simprocAttr, ix, z_em, up_eq, up_j, Nat.le_refl, true_or, or_true, true_and, and_true, and_self, or_self, beq_self_eq_true, if_true, if_false, ite_self, ca_f, ca_t, aLen, Int32.lt_iff_toInt_lt, Int32.le_iff_toInt_le, z_ite, z_iten, z_ite1, ite_not, not_true_eq_false, not_false_eq_true, false_and, and_false, false_or, or_false, b_max, b_min, b_minL, b_absL, b_ixD, b_ixH, b_copy, tk_0, tk_s, dr_0, dr_s, pu_s, pu_n, ca_0, ca_1, clr_0, clr_s, e_nop, e_goto, e_if_eq, e_if_ne, e_if_lt, e_if_ge, e_if_gt, e_if_le, e_ic_eq, e_ic_ne, e_ic_lt, e_ic_ge, e_ic_gt, e_ic_le, e_tsw, e_lsw, sw_0, sw_s, e_iret, e_zret, e_lret, e_aret, e_ret, en_0, en_n, en_i, en_a, en_l, List.getElem?_cons_zero, List.getElem?_cons_succ, List.set_cons_zero, List.set_cons_succ, len_s, List.length_nil, ne_eq, x_within, x_in, eT1, eT2, eT3, eT4, eT5, eT6, eM1, eM2, eM3, eM4, eM5, eM6, Nat.one_mul, Nat.mul_one, Nat.zero_add, yW h (f 113 (by decide)), q1]
