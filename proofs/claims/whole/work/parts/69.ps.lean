/-! PAIRS OF CALLS: best. -/
theorem REL.d3 {P : Nat → Prop} {V V' : Mem} {r : Nat} {t : Int32} (h : REL P False V V') (hr : r < 8) : REL P False V (up V' (10 + r) 3 t) := by
  obtain ⟨h1, h2, h3, h4⟩ := h
  have e : ∀ a c, ¬ (a = 10 + r ∧ c = 3) → up V' (10 + r) 3 t a c = V' a c := fun a c q => if_neg q
  refine ⟨fun k hk => by rw [e _ _ (by omega)]; exact h1 k hk, fun q => q.elim, fun x hx hp k hk => by rw [e _ _ (by omega)]; exact h3 x hx hp k hk, fun s hs hc => ?_⟩
  obtain ⟨a, b, c⟩ := h4 s hs hc
  exact ⟨by rw [e _ _ (by omega)]; exact a, fun hp k hk => by rw [e _ _ (by unfold rK at hk; omega)]; exact b hp k hk, fun q => q.elim⟩
def evB (μ : Mem) (w r : Nat) (t : Int32) : Int32 := timesP (minP (mn 99999) (txM μ) (-1)) 600 (up (up (vM 113 μ) (10 + r) 3 t) (10 + r) 7 t) (1 + w) 7
theorem evB_cg {μ μ' : Mem} (h : μ' 113 = μ 113) (w r : Nat) (t : Int32) : evB μ' w r t = evB μ w r t := by
  unfold evB
  rw [txM_congr h, vM_congr h]
theorem wf_37 {V : Mem} {r : Nat} {t : Int32} (hV : WFV V) (hr : r < 8) (ht : 0 ≤ t.toInt ∧ t.toInt ≤ 20000) : WFV (up (up V (10 + r) 3 t) (10 + r) 7 t) := by
  refine wf_up (wf_up hV (by unfold plV; omega) ?_) (by unfold plV; omega) ?_
  · rw [(lr3 hr).1, (lr3 hr).2]
    exact ht
  · rw [(lr7 hr).1, (lr7 hr).2]
    exact ht
theorem wd_37 {V : Mem} {r : Nat} {t : Int32} (hV : WFD V) : WFD (up (up V (10 + r) 3 t) (10 + r) 7 t) := by
  refine ⟨fun x hx => ?_, ?_⟩
  · by_cases q : x = r
    · subst q
      rw [up_j (by decide), up_eq, up_eq]
      exact Int.le_refl _
    · rw [up_o (by omega), up_o (by omega), up_o (by omega), up_o (by omega)]
      exact hV.1 x hx
  · rw [up_o (by omega), up_o (by omega)]
    exact hV.2
theorem l_best {fz : Mem} {d N w r : Nat} {mi : Int32} {μ0 : Mem} (hw : w < 4) (hwc : (w : Int) < (vC 1 μ0 0 0).toInt) (hr : r < 8) (hrc : (r : Int) < (vC 1 μ0 0 1).toInt) (hrw : vC 1 μ0 (10 + r) 2 = nI w) (hN : N ≤ 120) (hmi : vC 1 μ0 0 2 = mi) (hm9 : 0 ≤ mi.toInt ∧ mi.toInt ≤ 9999) : ∀ m k μ (x : Option AV), k + m = N → RR fz μ → (∀ o, (o < 33 ∨ 65 ≤ o) → μ o = μ0 o) → ∃ μ', res d 74 6 [some (vR 7 0), some (vI (nI r)), some (vI (nI N)), some (vI (sof (fun i => evB μ0 w r (mi + nI i)) (fun _ => true) (fun i => mi + nI i) k).1), some (vI (sof (fun i => evB μ0 w r (mi + nI i)) (fun _ => true) (fun i => mi + nI i) k).2), some (vI (nI k)), x] [] μ = (if (sof (fun i => evB μ0 w r (mi + nI i)) (fun _ => true) (fun i => mi + nI i) N).1.toInt < 0 then some (some (vI (-1000000000 - nI 2)), up μ' 103 2 (μ' 103 2 + 1)) else some (some (vI (sof (fun i => evB μ0 w r (mi + nI i)) (fun _ => true) (fun i => mi + nI i) N).1), μ')) ∧ RR fz μ' ∧ ∀ o, (o < 33 ∨ 65 ≤ o) → μ' o = μ0 o := by
  generalize hev : (fun i => evB μ0 w r (mi + nI i)) = ev
  generalize hlab : (fun i => mi + nI i) = lab
  intro m
  induction m with
  | zero =>
    intro k μ x hk hRR hf
    have hk : k = N := by omega
    subst hk
    refine ⟨μ, ?_, hRR, hf⟩
    rw [u_74_6]
    by_cases q : (sof ev (fun _ => true) lab k).1.toInt < 0
    · rw [if_pos q]
      simp -implicitDefEqProofs only [u_74_0, u_74_1, u_74_2, u_74_3, u_74_4, u_74_5, u_74_7, u_74_8, u_74_9, u_74_10, u_74_11, u_74_12, u_74_13, e_iload_n, e_iload, e_lload_n, e_lload, e_aload_n, e_aload, e_istore_n, e_istore, e_astore_n, e_astore, e_lstore_n, e_lstore, e_iinc, e_iconst, e_bipush, e_sipush, e_ldc_w, e_ldc, e_ldcS, e_lconst, e_ldc2_w, e_iadd, e_isub, e_imul, e_iand, e_ixor, e_ishl, e_ishr, e_iushr, e_idiv, e_irem, e_ineg, e_i2b, e_i2s, e_i2c, e_ladd, e_lsub, e_lmul, e_land, e_lor, e_ldiv, e_lrem, e_lneg, e_lshl, e_lshr, e_lushr, e_i2l, e_l2i, e_lcmp, e_dupI, e_dupA, e_dup2, e_getI, e_getA, e_putI, e_putZ, e_getstatic, e_iaload, e_iastore, e_aaload10, e_alen10, e_aaload11, e_alen11, e_aaload12, e_alen12, e_aaload13, e_alen13, e_alen, e_invokevirtual, e_invokevirtualB, e_invokestatic, e_invokestaticB, ct_0, ct_i, ct_a, ct_l, os_0, os_s, rc_0, rc_s, sl_0, sl_i, sl_a, sl_l, simprocAttr, ix, z_em, up_eq, up_j, Nat.le_refl, true_or, or_true, true_and, and_true, and_self, or_self, beq_self_eq_true, if_true, if_false, ite_self, ca_f, ca_t, aLen, Int32.lt_iff_toInt_lt, Int32.le_iff_toInt_le, z_ite, z_iten, z_ite1, ite_not, not_true_eq_false, not_false_eq_true, false_and, and_false, false_or, or_false, b_max, b_min, b_minL, b_absL, b_ixD, b_ixH, b_copy, tk_0, tk_s, dr_0, dr_s, pu_s, pu_n, ca_0, ca_1, clr_0, clr_s, e_nop, e_goto, e_if_eq, e_if_ne, e_if_lt, e_if_ge, e_if_gt, e_if_le, e_ic_eq, e_ic_ne, e_ic_lt, e_ic_ge, e_ic_gt, e_ic_le, e_tsw, e_lsw, sw_0, sw_s, e_iret, e_zret, e_lret, e_aret, e_ret, en_0, en_n, en_i, en_a, en_l, List.getElem?_cons_zero, List.getElem?_cons_succ, List.set_cons_zero, List.set_cons_succ, len_s, List.length_nil, ne_eq, x_within, x_in, eT1, eT2, eT3, eT4, eT5, eT6, eM1, eM2, eM3, eM4, eM5, eM6, Nat.one_mul, Nat.mul_one, Nat.zero_add, Int.lt_irrefl, q]
    · rw [if_neg q]
      simp -implicitDefEqProofs only [u_74_0, u_74_1, u_74_2, u_74_3, u_74_4, u_74_5, u_74_7, u_74_8, u_74_9, u_74_10, u_74_11, u_74_12, u_74_13, e_iload_n, e_iload, e_lload_n, e_lload, e_aload_n, e_aload, e_istore_n, e_istore, e_astore_n, e_astore, e_lstore_n, e_lstore, e_iinc, e_iconst, e_bipush, e_sipush, e_ldc_w, e_ldc, e_ldcS, e_lconst, e_ldc2_w, e_iadd, e_isub, e_imul, e_iand, e_ixor, e_ishl, e_ishr, e_iushr, e_idiv, e_irem, e_ineg, e_i2b, e_i2s, e_i2c, e_ladd, e_lsub, e_lmul, e_land, e_lor, e_ldiv, e_lrem, e_lneg, e_lshl, e_lshr, e_lushr, e_i2l, e_l2i, e_lcmp, e_dupI, e_dupA, e_dup2, e_getI, e_getA, e_putI, e_putZ, e_getstatic, e_iaload, e_iastore, e_aaload10, e_alen10, e_aaload11, e_alen11, e_aaload12, e_alen12, e_aaload13, e_alen13, e_alen, e_invokevirtual, e_invokevirtualB, e_invokestatic, e_invokestaticB, ct_0, ct_i, ct_a, ct_l, os_0, os_s, rc_0, rc_s, sl_0, sl_i, sl_a, sl_l, simprocAttr, ix, z_em, up_eq, up_j, Nat.le_refl, true_or, or_true, true_and, and_true, and_self, or_self, beq_self_eq_true, if_true, if_false, ite_self, ca_f, ca_t, aLen, Int32.lt_iff_toInt_lt, Int32.le_iff_toInt_le, z_ite, z_iten, z_ite1, ite_not, not_true_eq_false, not_false_eq_true, false_and, and_false, false_or, or_false, b_max, b_min, b_minL, b_absL, b_ixD, b_ixH, b_copy, tk_0, tk_s, dr_0, dr_s, pu_s, pu_n, ca_0, ca_1, clr_0, clr_s, e_nop, e_goto, e_if_eq, e_if_ne, e_if_lt, e_if_ge, e_if_gt, e_if_le, e_ic_eq, e_ic_ne, e_ic_lt, e_ic_ge, e_ic_gt, e_ic_le, e_tsw, e_lsw, sw_0, sw_s, e_iret, e_zret, e_lret, e_aret, e_ret, en_0, en_n, en_i, en_a, en_l, List.getElem?_cons_zero, List.getElem?_cons_succ, List.set_cons_zero, List.set_cons_succ, len_s, List.length_nil, ne_eq, x_within, x_in, eT1, eT2, eT3, eT4, eT5, eT6, eM1, eM2, eM3, eM4, eM5, eM6, Nat.one_mul, Nat.mul_one, Nat.zero_add, Int.lt_irrefl, q]
  | succ m ih =>
    intro k μ x hk hRR hf
    have v1 : vC 1 μ = vC 1 μ0 := vC_congr fun o p1 p2 => hf o (by omega)
    have nk : (nI k).toInt = k := nI_toInt (by omega)
    have nN : (nI N).toInt = N := nI_toInt (by omega)
    have h1 : ((k : Nat) : Int) < (N : Int) := by omega
    have nr : (nI r).toInt = r := nI_toInt (by omega)
    have cr : (nI r).toNatClampNeg = r := ix_nI (by omega)
    have b8 : (r : Int) < 8 := by omega
    have b0 : (0 : Int) ≤ (r : Int) := by omega
    have et : (mi + nI k).toInt = mi.toInt + k := by rw [ta] <;> rw [nk] <;> omega
    have elb : lab k = mi + nI k := by rw [← hlab]
    obtain ⟨μ1, a1, a2, a3, a4, a5, a6, a7, a8, a9, a10, a11, -⟩ := x_trial (d := d) hRR
    have e9 : μ1 1 9 = mi := by
      have q : μ1 1 9 = vC 1 μ1 0 2 := cs2
      rw [q, a5, v1, hmi]
    have n1r : ¬ 1 = 51 + r := by omega
    have n19 : ¬ 19 + r = 51 + r := by omega
    have c2 : μ1 (19 + r) 2 = nI w := by
      have q : μ1 (19 + r) 2 = vC 1 μ1 (10 + r) 2 := cr2 (b := 1) hr
      rw [q, a5, v1, hrw]
    have hO : 33 ≤ 51 + r ∧ 51 + r < 33 + 26 := by omega
    have vv : vC 33 (up μ1 (51 + r) 4 (mi + nI k)) = up (vC 33 μ1) (10 + r) 7 (mi + nI k) := ur7 (b := 33) hr
    have f1 : FrC 33 μ1 (up μ1 (51 + r) 4 (mi + nI k)) := FrC.rf.up hO
    have w7 : WFV (up (vC 33 μ1) (10 + r) 7 (mi + nI k)) := by
      refine wf_up a10 (by unfold plV; omega) ?_
      rw [(lr7 hr).1, (lr7 hr).2]
      omega
    have rr1 := a7.r1 (w := w) a10 (by rw [a11 0 (by decide), v1]; exact hwc)
    obtain ⟨μ2, b1, b2, b3⟩ := x_endR (d := d) (n := 600) (w := w) (μ1 := up μ1 (51 + r) 4 (mi + nI k)) (V' := up (up (vM 113 μ) (10 + r) 3 (mi + nI k)) (10 + r) 7 (mi + nI k)) (tx' := txM μ) hw (f1.lw a9) (by rw [vv]; exact w7) (wf_37 hRR.1.1.2 hr (by omega)) (by decide) (by rw [vv, up_o (by omega), a11 2 (by decide), v1, hmi]; omega) (by rw [vv]; exact (rr1.d3 hr).b (by unfold pl2; omega) (Or.inr rfl)) (by rw [f1.tx]; exact a8)
    have eb : timesP (minP (mn 99999) (txM μ) (-1)) (600 : Int32).toNatClampNeg (up (up (vM 113 μ) (10 + r) 3 (mi + nI k)) (10 + r) 7 (mi + nI k)) (1 + w) 7 = ev k := by
      rw [← hev]
      exact evB_cg (hf 113 (by omega)) w r (mi + nI k)
    rw [eb] at b1
    have hs : cl d 99 [vI (ev k), vI (sof ev (fun _ => true) lab k).2] μ2 = _ := x_isSooner
    have g2 : ∀ o, (o < 33 ∨ 65 ≤ o) → μ2 o = μ0 o := fun o p => by rw [b2 o (by omega) (by omega) (by omega), f1 o (by omega) (by omega) (by omega), a6 o p, hf o p]
    have e92 : μ2 1 9 = mi := by rw [g2 1 (by omega), cs2 (b := 1) (μ := μ0), hmi]
    have r2 := a2.ct (f1.tr b2) b3
    by_cases q2 : 0 ≤ (ev k).toInt ∧ ((sof ev (fun _ => true) lab k).2.toInt < 0 ∨ (ev k).toInt < (sof ev (fun _ => true) lab k).2.toInt)
    · rw [if_pos q2] at hs
      have e1 : sof ev (fun _ => true) lab (k + 1) = (mi + nI k, ev k) := (if_pos ⟨rfl, q2⟩).trans (by rw [elb])
      obtain ⟨μ', c1, c2', c3⟩ := ih (k + 1) μ2 (some (vI (ev k))) (by omega) r2 g2
      refine ⟨μ', ?_, c2', c3⟩
      rw [e1] at c1
      rw [← c1, u_74_6]
      simp -implicitDefEqProofs only [u_74_0, u_74_1, u_74_2, u_74_3, u_74_4, u_74_5, u_74_7, u_74_8, u_74_9, u_74_10, u_74_11, u_74_12, u_74_13, e_iload_n, e_iload, e_lload_n, e_lload, e_aload_n, e_aload, e_istore_n, e_istore, e_astore_n, e_astore, e_lstore_n, e_lstore, e_iinc, e_iconst, e_bipush, e_sipush, e_ldc_w, e_ldc, e_ldcS, e_lconst, e_ldc2_w, e_iadd, e_isub, e_imul, e_iand, e_ixor, e_ishl, e_ishr, e_iushr, e_idiv, e_irem, e_ineg, e_i2b, e_i2s, e_i2c, e_ladd, e_lsub, e_lmul, e_land, e_lor, e_ldiv, e_lrem, e_lneg, e_lshl, e_lshr, e_lushr, e_i2l, e_l2i, e_lcmp, e_dupI, e_dupA, e_dup2, e_getI, e_getA, e_putI, e_putZ, e_getstatic, e_iaload, e_iastore, e_aaload10, e_alen10, e_aaload11, e_alen11, e_aaload12, e_alen12, e_aaload13, e_alen13, e_alen, e_invokevirtual, e_invokevirtualB, e_invokestatic, e_invokestaticB, ct_0, ct_i, ct_a, ct_l, os_0, os_s, rc_0, rc_s, sl_0, sl_i, sl_a, sl_l, simprocAttr, ix, z_em, up_eq, up_j, Nat.le_refl, true_or, or_true, true_and, and_true, and_self, or_self, beq_self_eq_true, if_true, if_false, ite_self, ca_f, ca_t, aLen, Int32.lt_iff_toInt_lt, Int32.le_iff_toInt_le, z_ite, z_iten, z_ite1, ite_not, not_true_eq_false, not_false_eq_true, false_and, and_false, false_or, or_false, b_max, b_min, b_minL, b_absL, b_ixD, b_ixH, b_copy, tk_0, tk_s, dr_0, dr_s, pu_s, pu_n, ca_0, ca_1, clr_0, clr_s, e_nop, e_goto, e_if_eq, e_if_ne, e_if_lt, e_if_ge, e_if_gt, e_if_le, e_ic_eq, e_ic_ne, e_ic_lt, e_ic_ge, e_ic_gt, e_ic_le, e_tsw, e_lsw, sw_0, sw_s, e_iret, e_zret, e_lret, e_aret, e_ret, en_0, en_n, en_i, en_a, en_l, List.getElem?_cons_zero, List.getElem?_cons_succ, List.set_cons_zero, List.set_cons_succ, len_s, List.length_nil, ne_eq, x_within, x_in, eT1, eT2, eT3, eT4, eT5, eT6, eM1, eM2, eM3, eM4, eM5, eM6, Nat.one_mul, Nat.mul_one, Nat.zero_add, nk, nN, h1, nr, cr, b8, b0, a1, e9, up_o n1r, up_o n19, c2, b1, hs, e92, ← nI_succ]
    · rw [if_neg q2] at hs
      have e1 : sof ev (fun _ => true) lab (k + 1) = sof ev (fun _ => true) lab k := if_neg (fun z => q2 z.2)
      obtain ⟨μ', c1, c2', c3⟩ := ih (k + 1) μ2 (some (vI (ev k))) (by omega) r2 g2
      refine ⟨μ', ?_, c2', c3⟩
      rw [e1] at c1
      rw [← c1, u_74_6]
      simp -implicitDefEqProofs only [u_74_0, u_74_1, u_74_2, u_74_3, u_74_4, u_74_5, u_74_7, u_74_8, u_74_9, u_74_10, u_74_11, u_74_12, u_74_13, e_iload_n, e_iload, e_lload_n, e_lload, e_aload_n, e_aload, e_istore_n, e_istore, e_astore_n, e_astore, e_lstore_n, e_lstore, e_iinc, e_iconst, e_bipush, e_sipush, e_ldc_w, e_ldc, e_ldcS, e_lconst, e_ldc2_w, e_iadd, e_isub, e_imul, e_iand, e_ixor, e_ishl, e_ishr, e_iushr, e_idiv, e_irem, e_ineg, e_i2b, e_i2s, e_i2c, e_ladd, e_lsub, e_lmul, e_land, e_lor, e_ldiv, e_lrem, e_lneg, e_lshl, e_lshr, e_lushr, e_i2l, e_l2i, e_lcmp, e_dupI, e_dupA, e_dup2, e_getI, e_getA, e_putI, e_putZ, e_getstatic, e_iaload, e_iastore, e_aaload10, e_alen10, e_aaload11, e_alen11, e_aaload12, e_alen12, e_aaload13, e_alen13, e_alen, e_invokevirtual, e_invokevirtualB, e_invokestatic, e_invokestaticB, ct_0, ct_i, ct_a, ct_l, os_0, os_s, rc_0, rc_s, sl_0, sl_i, sl_a, sl_l, simprocAttr, ix, z_em, up_eq, up_j, Nat.le_refl, true_or, or_true, true_and, and_true, and_self, or_self, beq_self_eq_true, if_true, if_false, ite_self, ca_f, ca_t, aLen, Int32.lt_iff_toInt_lt, Int32.le_iff_toInt_le, z_ite, z_iten, z_ite1, ite_not, not_true_eq_false, not_false_eq_true, false_and, and_false, false_or, or_false, b_max, b_min, b_minL, b_absL, b_ixD, b_ixH, b_copy, tk_0, tk_s, dr_0, dr_s, pu_s, pu_n, ca_0, ca_1, clr_0, clr_s, e_nop, e_goto, e_if_eq, e_if_ne, e_if_lt, e_if_ge, e_if_gt, e_if_le, e_ic_eq, e_ic_ne, e_ic_lt, e_ic_ge, e_ic_gt, e_ic_le, e_tsw, e_lsw, sw_0, sw_s, e_iret, e_zret, e_lret, e_aret, e_ret, en_0, en_n, en_i, en_a, en_l, List.getElem?_cons_zero, List.getElem?_cons_succ, List.set_cons_zero, List.set_cons_succ, len_s, List.length_nil, ne_eq, x_within, x_in, eT1, eT2, eT3, eT4, eT5, eT6, eM1, eM2, eM3, eM4, eM5, eM6, Nat.one_mul, Nat.mul_one, Nat.zero_add, nk, nN, h1, nr, cr, b8, b0, a1, e9, up_o n1r, up_o n19, c2, b1, hs, ← nI_succ]
theorem up2_113 {μ μ0 : Mem} {A B : Nat} {a b t u : Int32} (h : μ 113 = up (up μ0 113 A a) 113 B b 113) : up (up μ 113 A t) 113 B u 113 = up (up μ0 113 A t) 113 B u 113 := by
  funext c
  have hc := congrFun h c
  unfold up at hc ⊢
  simp only [true_and] at hc ⊢
  by_cases q : c = B
  · rw [if_pos q, if_pos q]
  · rw [if_neg q, if_neg q]
    by_cases q2 : c = A
    · rw [if_pos q2, if_pos q2]
    · rw [if_neg q, if_neg q2] at hc
      rw [if_neg q2, if_neg q2]
      exact hc
theorem k_best {d N w r : Nat} {mi : Int32} {μ0 : Mem} (hw : w < 4) (hr : r < 8) (hrw : vM 113 μ0 (10 + r) 2 = nI w) (hN : N ≤ 120) (hmi : vM 113 μ0 0 2 = mi) (hm9 : 0 ≤ mi.toInt ∧ mi.toInt ≤ 9999) (hL : LWM μ0) (hW : WFV (vM 113 μ0)) (hD : WFD (vM 113 μ0)) : ∀ m k μ (x : Option AV) (so : Int32) (a b : Int32), k + m = N → (∀ o, o ≠ 113 → o ≠ 115 → o ≠ 118 → o ≠ 119 → μ o = μ0 o) → μ 113 = up (up μ0 113 (106 + 8 * r + 3) a) 113 (106 + 8 * r + 7) b 113 → ((sof (fun i => evB μ0 w r (mi + nI i)) (fun _ => true) (fun i => mi + nI i) k).1 = -1 ∨ so = (sof (fun i => evB μ0 w r (mi + nI i)) (fun _ => true) (fun i => mi + nI i) k).2) → ∃ μ', res d 167 6 [some (vR 8 112), some (vI (nI r)), some (vI (nI N)), some (vI (106 + 8 * nI r)), some (vI (vM 113 μ0 (10 + r) 3)), some (vI (vM 113 μ0 (10 + r) 7)), some (vI (sof (fun i => evB μ0 w r (mi + nI i)) (fun _ => true) (fun i => mi + nI i) k).1), some (vI so), some (vI (mi + nI k)), x] [] μ = (if (sof (fun i => evB μ0 w r (mi + nI i)) (fun _ => true) (fun i => mi + nI i) N).1 = -1 then some (some (vI (-1000000000 - nI 2)), up μ' 116 2 (μ' 116 2 + 1)) else some (some (vI (sof (fun i => evB μ0 w r (mi + nI i)) (fun _ => true) (fun i => mi + nI i) N).1), μ')) ∧ FrA μ0 μ' := by
  have hrg' : ∀ i, i < 120 → -1 ≤ ((fun i => evB μ0 w r (mi + nI i)) i).toInt := fun i hi => by
    have et : (mi + nI i).toInt = mi.toInt + i := by rw [ta] <;> rw [nI_toInt (by omega)] <;> omega
    exact (gw7 (tm_keep (tx := txM μ0) (only := -1) (wf_37 hW hr (t := mi + nI i) (by omega)) 600 (by rw [up_o (by omega), up_o (by omega), hmi]; omega)).1 hw).1
  generalize hev : (fun i => evB μ0 w r (mi + nI i)) = ev at hrg'
  have hlb : ∀ i, i < 120 → 0 ≤ ((fun i => mi + nI i) i).toInt := fun i hi => by
    show 0 ≤ (mi + nI i).toInt
    rw [ta] <;> rw [nI_toInt (by omega)] <;> omega
  generalize hlab : (fun i => mi + nI i) = lab at hlb
  have t1 : (-1 : Int32).toInt = -1 := rfl
  have a3 : 106 + 8 * nI r + 3 = nI (106 + 8 * r + 3) := ad_r hr (by decide) rfl
  have a7 : 106 + 8 * nI r + 7 = nI (106 + 8 * r + 7) := ad_r hr (by decide) rfl
  have iA : ∀ k : Nat, k < 8 → (nI (106 + 8 * r + k)).toInt = (106 + 8 * r + k : Nat) := fun k hk => nI_toInt (by omega)
  have cA : ∀ k : Nat, k < 8 → (nI (106 + 8 * r + k)).toNatClampNeg = 106 + 8 * r + k := fun k hk => ix_nI (by omega)
  have bA : ∀ k : Nat, k < 8 → ((0 : Int) ≤ ((106 + 8 * r + k : Nat) : Int) ∧ ((106 + 8 * r + k : Nat) : Int) < 504) := fun k hk => by omega
  have nN : (nI N).toInt = N := nI_toInt (by omega)
  have eN : (mi + nI N).toInt = mi.toInt + N := by rw [ta] <;> rw [nN] <;> omega
  intro m
  induction m with
  | zero =>
    intro k μ x so a b hk hF h13 hso
    have hk : k = N := by omega
    subst hk
    have m2 : μ 113 2 = mi := by rw [h13, up_j (by omega), up_j (by omega), ms2 (m := 113) (μ := μ0), hmi]
    refine ⟨up (up μ 113 (106 + 8 * r + 3) (vM 113 μ0 (10 + r) 3)) 113 (106 + 8 * r + 7) (vM 113 μ0 (10 + r) 7), ?_, fun o p1 p2 p3 => ?_⟩
    · rw [u_167_6]
      by_cases q : (sof ev (fun _ => true) lab k).1 = -1
      · rw [if_pos q]
        simp -implicitDefEqProofs only [u_167_0, u_167_1, u_167_2, u_167_3, u_167_4, u_167_5, u_167_7, u_167_8, u_167_9, u_167_10, u_167_11, u_167_12, u_167_13, u_167_14, u_167_15, e_iload_n, e_iload, e_lload_n, e_lload, e_aload_n, e_aload, e_istore_n, e_istore, e_astore_n, e_astore, e_lstore_n, e_lstore, e_iinc, e_iconst, e_bipush, e_sipush, e_ldc_w, e_ldc, e_ldcS, e_lconst, e_ldc2_w, e_iadd, e_isub, e_imul, e_iand, e_ixor, e_ishl, e_ishr, e_iushr, e_idiv, e_irem, e_ineg, e_i2b, e_i2s, e_i2c, e_ladd, e_lsub, e_lmul, e_land, e_lor, e_ldiv, e_lrem, e_lneg, e_lshl, e_lshr, e_lushr, e_i2l, e_l2i, e_lcmp, e_dupI, e_dupA, e_dup2, e_getI, e_getA, e_putI, e_putZ, e_getstatic, e_iaload, e_iastore, e_aaload10, e_alen10, e_aaload11, e_alen11, e_aaload12, e_alen12, e_aaload13, e_alen13, e_alen, e_invokevirtual, e_invokevirtualB, e_invokestatic, e_invokestaticB, ct_0, ct_i, ct_a, ct_l, os_0, os_s, rc_0, rc_s, sl_0, sl_i, sl_a, sl_l, simprocAttr, ix, z_em, up_eq, up_j, Nat.le_refl, true_or, or_true, true_and, and_true, and_self, or_self, beq_self_eq_true, if_true, if_false, ite_self, ca_f, ca_t, aLen, Int32.lt_iff_toInt_lt, Int32.le_iff_toInt_le, z_ite, z_iten, z_ite1, ite_not, not_true_eq_false, not_false_eq_true, false_and, and_false, false_or, or_false, b_max, b_min, b_minL, b_absL, b_ixD, b_ixH, b_copy, tk_0, tk_s, dr_0, dr_s, pu_s, pu_n, ca_0, ca_1, clr_0, clr_s, e_nop, e_goto, e_if_eq, e_if_ne, e_if_lt, e_if_ge, e_if_gt, e_if_le, e_ic_eq, e_ic_ne, e_ic_lt, e_ic_ge, e_ic_gt, e_ic_le, e_tsw, e_lsw, sw_0, sw_s, e_iret, e_zret, e_lret, e_aret, e_ret, en_0, en_n, en_i, en_a, en_l, List.getElem?_cons_zero, List.getElem?_cons_succ, List.set_cons_zero, List.set_cons_succ, len_s, List.length_nil, ne_eq, x_within, x_in, eT1, eT2, eT3, eT4, eT5, eT6, eM1, eM2, eM3, eM4, eM5, eM6, Nat.one_mul, Nat.mul_one, Nat.zero_add, m2, Int.lt_irrefl, a3, a7, iA 3 (by decide), cA 3 (by decide), if_pos (bA 3 (by decide)), iA 7 (by decide), cA 7 (by decide), if_pos (bA 7 (by decide)), q]
      · rw [if_neg q]
        simp -implicitDefEqProofs only [u_167_0, u_167_1, u_167_2, u_167_3, u_167_4, u_167_5, u_167_7, u_167_8, u_167_9, u_167_10, u_167_11, u_167_12, u_167_13, u_167_14, u_167_15, e_iload_n, e_iload, e_lload_n, e_lload, e_aload_n, e_aload, e_istore_n, e_istore, e_astore_n, e_astore, e_lstore_n, e_lstore, e_iinc, e_iconst, e_bipush, e_sipush, e_ldc_w, e_ldc, e_ldcS, e_lconst, e_ldc2_w, e_iadd, e_isub, e_imul, e_iand, e_ixor, e_ishl, e_ishr, e_iushr, e_idiv, e_irem, e_ineg, e_i2b, e_i2s, e_i2c, e_ladd, e_lsub, e_lmul, e_land, e_lor, e_ldiv, e_lrem, e_lneg, e_lshl, e_lshr, e_lushr, e_i2l, e_l2i, e_lcmp, e_dupI, e_dupA, e_dup2, e_getI, e_getA, e_putI, e_putZ, e_getstatic, e_iaload, e_iastore, e_aaload10, e_alen10, e_aaload11, e_alen11, e_aaload12, e_alen12, e_aaload13, e_alen13, e_alen, e_invokevirtual, e_invokevirtualB, e_invokestatic, e_invokestaticB, ct_0, ct_i, ct_a, ct_l, os_0, os_s, rc_0, rc_s, sl_0, sl_i, sl_a, sl_l, simprocAttr, ix, z_em, up_eq, up_j, Nat.le_refl, true_or, or_true, true_and, and_true, and_self, or_self, beq_self_eq_true, if_true, if_false, ite_self, ca_f, ca_t, aLen, Int32.lt_iff_toInt_lt, Int32.le_iff_toInt_le, z_ite, z_iten, z_ite1, ite_not, not_true_eq_false, not_false_eq_true, false_and, and_false, false_or, or_false, b_max, b_min, b_minL, b_absL, b_ixD, b_ixH, b_copy, tk_0, tk_s, dr_0, dr_s, pu_s, pu_n, ca_0, ca_1, clr_0, clr_s, e_nop, e_goto, e_if_eq, e_if_ne, e_if_lt, e_if_ge, e_if_gt, e_if_le, e_ic_eq, e_ic_ne, e_ic_lt, e_ic_ge, e_ic_gt, e_ic_le, e_tsw, e_lsw, sw_0, sw_s, e_iret, e_zret, e_lret, e_aret, e_ret, en_0, en_n, en_i, en_a, en_l, List.getElem?_cons_zero, List.getElem?_cons_succ, List.set_cons_zero, List.set_cons_succ, len_s, List.length_nil, ne_eq, x_within, x_in, eT1, eT2, eT3, eT4, eT5, eT6, eM1, eM2, eM3, eM4, eM5, eM6, Nat.one_mul, Nat.mul_one, Nat.zero_add, m2, Int.lt_irrefl, a3, a7, iA 3 (by decide), cA 3 (by decide), if_pos (bA 3 (by decide)), iA 7 (by decide), cA 7 (by decide), if_pos (bA 7 (by decide)), q]
    · by_cases q : o = 113
      · subst q
        rw [up2_113 h13]
        funext c
        unfold up
        simp only [true_and]
        by_cases q7 : c = 106 + 8 * r + 7
        · rw [if_pos q7, q7]
          exact (mr hr (by decide)).symm
        · rw [if_neg q7]
          by_cases q3 : c = 106 + 8 * r + 3
          · rw [if_pos q3, q3]
            exact (mr hr (by decide)).symm
          · rw [if_neg q3]
      · rw [up_ne q, up_ne q, hF o q p1 p2 p3]
  | succ m ih =>
    intro k μ x so a b hk hF h13 hso
    have nk : (nI k).toInt = k := nI_toInt (by omega)
    have h1 : mi.toInt + ((k : Nat) : Int) < mi.toInt + (N : Int) := by omega
    have et : (mi + nI k).toInt = mi.toInt + k := by rw [ta] <;> rw [nk] <;> omega
    have elb : lab k = mi + nI k := by rw [← hlab]
    have m2 : μ 113 2 = mi := by rw [h13, up_j (by omega), up_j (by omega), ms2 (m := 113) (μ := μ0), hmi]
    have hM : ∃ μc, μc = up (up μ 113 (106 + 8 * r + 3) (mi + nI k)) 113 (106 + 8 * r + 7) (mi + nI k) := ⟨_, rfl⟩
    obtain ⟨μc, ec⟩ := hM
    have hB : ∃ μb, μb = up (up μ0 113 (106 + 8 * r + 3) (mi + nI k)) 113 (106 + 8 * r + 7) (mi + nI k) := ⟨_, rfl⟩
    obtain ⟨μb, eb⟩ := hB
    have e13 : μc 113 = μb 113 := by rw [ec, eb]; exact up2_113 h13
    have fb : FrM μ0 μb := by rw [eb]; exact (FrM.rf.up (by omega)).up (by omega)
    have vb : vM 113 μb = up (up (vM 113 μ0) (10 + r) 3 (mi + nI k)) (10 + r) 7 (mi + nI k) := by rw [eb, umr hr (by decide), umr hr (by decide)]
    have vc : vM 113 μc = up (up (vM 113 μ0) (10 + r) 3 (mi + nI k)) (10 + r) 7 (mi + nI k) := (vM_congr e13).trans vb
    obtain ⟨μ1, x1, x2⟩ := y_endBy (d := d) (w := w) (n := 600) (μ := μc) hw (LWM_congr e13 (fb.lw hL)) (by rw [vc]; exact wf_37 hW hr (by omega)) (by rw [vc]; exact wd_37 hD) (by decide) (by rw [vc, up_o (by omega), up_o (by omega), hmi]; show mi.toInt + 600 ≤ 15001; omega)
    have eev : timesP (minP (mn 99999) (txM μc) (-1)) (600 : Int32).toNatClampNeg (vM 113 μc) (1 + w) 7 = ev k := by
      rw [← hev, vc, txM_congr e13, fb.tx]
      rfl
    rw [eev] at x1
    have x1' : cl d 163 [Sum.inr (Sum.inr (8, 112)), vI (nI w), vI 600] μc = _ := x1
    have yo : cl d 113 [Sum.inr (Sum.inr (8, 112)), vI (nI r), vI 2] μc = some (some (vI (nI w)), μc) := by
      have hh := yo2 (d := d) (μ := μc) hr
      rw [vc, up_j (by decide), up_j (by decide), hrw] at hh
      exact hh
    have hF1 : ∀ o, o ≠ 113 → o ≠ 115 → o ≠ 118 → o ≠ 119 → μ1 o = μ0 o := fun o p0 p1 p2 p3 => by rw [x2 o p1 p2 p3, ec, up_ne p0, up_ne p0, hF o p0 p1 p2 p3]
    have h131 : μ1 113 = up (up μ0 113 (106 + 8 * r + 3) (mi + nI k)) 113 (106 + 8 * r + 7) (mi + nI k) 113 := by rw [x2 113 (by omega) (by omega) (by omega), e13, eb]
    have hge := hrg' k (by omega)
    have es : mi + nI k + 1 = mi + nI (k + 1) := by rw [nI_succ]; exact Int32.add_assoc ..
    rcases sof_rg (ev := ev) (on := fun _ => true) (lab := lab) k (fun i hi => hlb i (by omega)) with ⟨s1, s2⟩ | ⟨s1, s2⟩
    · by_cases q2 : ev k = -1
      · have e1 : sof ev (fun _ => true) lab (k + 1) = sof ev (fun _ => true) lab k := if_neg (fun z => by have := z.2.1; rw [q2, t1] at this; omega)
        obtain ⟨μ', b1, b2⟩ := ih (k + 1) μ1 (some (vI (ev k))) so _ _ (by omega) hF1 h131 (by rw [e1]; exact hso)
        refine ⟨μ', ?_, b2⟩
        rw [e1] at b1
        rw [← b1, u_167_6]
        simp -implicitDefEqProofs only [u_167_0, u_167_1, u_167_2, u_167_3, u_167_4, u_167_5, u_167_7, u_167_8, u_167_9, u_167_10, u_167_11, u_167_12, u_167_13, u_167_14, u_167_15, e_iload_n, e_iload, e_lload_n, e_lload, e_aload_n, e_aload, e_istore_n, e_istore, e_astore_n, e_astore, e_lstore_n, e_lstore, e_iinc, e_iconst, e_bipush, e_sipush, e_ldc_w, e_ldc, e_ldcS, e_lconst, e_ldc2_w, e_iadd, e_isub, e_imul, e_iand, e_ixor, e_ishl, e_ishr, e_iushr, e_idiv, e_irem, e_ineg, e_i2b, e_i2s, e_i2c, e_ladd, e_lsub, e_lmul, e_land, e_lor, e_ldiv, e_lrem, e_lneg, e_lshl, e_lshr, e_lushr, e_i2l, e_l2i, e_lcmp, e_dupI, e_dupA, e_dup2, e_getI, e_getA, e_putI, e_putZ, e_getstatic, e_iaload, e_iastore, e_aaload10, e_alen10, e_aaload11, e_alen11, e_aaload12, e_alen12, e_aaload13, e_alen13, e_alen, e_invokevirtual, e_invokevirtualB, e_invokestatic, e_invokestaticB, ct_0, ct_i, ct_a, ct_l, os_0, os_s, rc_0, rc_s, sl_0, sl_i, sl_a, sl_l, simprocAttr, ix, z_em, up_eq, up_j, Nat.le_refl, true_or, or_true, true_and, and_true, and_self, or_self, beq_self_eq_true, if_true, if_false, ite_self, ca_f, ca_t, aLen, Int32.lt_iff_toInt_lt, Int32.le_iff_toInt_le, z_ite, z_iten, z_ite1, ite_not, not_true_eq_false, not_false_eq_true, false_and, and_false, false_or, or_false, b_max, b_min, b_minL, b_absL, b_ixD, b_ixH, b_copy, tk_0, tk_s, dr_0, dr_s, pu_s, pu_n, ca_0, ca_1, clr_0, clr_s, e_nop, e_goto, e_if_eq, e_if_ne, e_if_lt, e_if_ge, e_if_gt, e_if_le, e_ic_eq, e_ic_ne, e_ic_lt, e_ic_ge, e_ic_gt, e_ic_le, e_tsw, e_lsw, sw_0, sw_s, e_iret, e_zret, e_lret, e_aret, e_ret, en_0, en_n, en_i, en_a, en_l, List.getElem?_cons_zero, List.getElem?_cons_succ, List.set_cons_zero, List.set_cons_succ, len_s, List.length_nil, ne_eq, x_within, x_in, eT1, eT2, eT3, eT4, eT5, eT6, eM1, eM2, eM3, eM4, eM5, eM6, Nat.one_mul, Nat.mul_one, Nat.zero_add, m2, et, eN, h1, a3, a7, iA 3 (by decide), cA 3 (by decide), if_pos (bA 3 (by decide)), iA 7 (by decide), cA 7 (by decide), if_pos (bA 7 (by decide)), ← ec, yo, x1', q2, es]
      · have q2' : ¬ (ev k).toInt = -1 := fun z => q2 (Int32.toInt_inj.mp (by rw [t1]; exact z))
        have e1 : sof ev (fun _ => true) lab (k + 1) = (mi + nI k, ev k) := (if_pos ⟨rfl, by omega, Or.inl (by rw [s2, t1]; omega)⟩).trans (by rw [elb])
        obtain ⟨μ', b1, b2⟩ := ih (k + 1) μ1 (some (vI (ev k))) (ev k) _ _ (by omega) hF1 h131 (Or.inr (by rw [e1]))
        refine ⟨μ', ?_, b2⟩
        rw [e1] at b1
        rw [← b1, u_167_6]
        simp -implicitDefEqProofs only [u_167_0, u_167_1, u_167_2, u_167_3, u_167_4, u_167_5, u_167_7, u_167_8, u_167_9, u_167_10, u_167_11, u_167_12, u_167_13, u_167_14, u_167_15, e_iload_n, e_iload, e_lload_n, e_lload, e_aload_n, e_aload, e_istore_n, e_istore, e_astore_n, e_astore, e_lstore_n, e_lstore, e_iinc, e_iconst, e_bipush, e_sipush, e_ldc_w, e_ldc, e_ldcS, e_lconst, e_ldc2_w, e_iadd, e_isub, e_imul, e_iand, e_ixor, e_ishl, e_ishr, e_iushr, e_idiv, e_irem, e_ineg, e_i2b, e_i2s, e_i2c, e_ladd, e_lsub, e_lmul, e_land, e_lor, e_ldiv, e_lrem, e_lneg, e_lshl, e_lshr, e_lushr, e_i2l, e_l2i, e_lcmp, e_dupI, e_dupA, e_dup2, e_getI, e_getA, e_putI, e_putZ, e_getstatic, e_iaload, e_iastore, e_aaload10, e_alen10, e_aaload11, e_alen11, e_aaload12, e_alen12, e_aaload13, e_alen13, e_alen, e_invokevirtual, e_invokevirtualB, e_invokestatic, e_invokestaticB, ct_0, ct_i, ct_a, ct_l, os_0, os_s, rc_0, rc_s, sl_0, sl_i, sl_a, sl_l, simprocAttr, ix, z_em, up_eq, up_j, Nat.le_refl, true_or, or_true, true_and, and_true, and_self, or_self, beq_self_eq_true, if_true, if_false, ite_self, ca_f, ca_t, aLen, Int32.lt_iff_toInt_lt, Int32.le_iff_toInt_le, z_ite, z_iten, z_ite1, ite_not, not_true_eq_false, not_false_eq_true, false_and, and_false, false_or, or_false, b_max, b_min, b_minL, b_absL, b_ixD, b_ixH, b_copy, tk_0, tk_s, dr_0, dr_s, pu_s, pu_n, ca_0, ca_1, clr_0, clr_s, e_nop, e_goto, e_if_eq, e_if_ne, e_if_lt, e_if_ge, e_if_gt, e_if_le, e_ic_eq, e_ic_ne, e_ic_lt, e_ic_ge, e_ic_gt, e_ic_le, e_tsw, e_lsw, sw_0, sw_s, e_iret, e_zret, e_lret, e_aret, e_ret, en_0, en_n, en_i, en_a, en_l, List.getElem?_cons_zero, List.getElem?_cons_succ, List.set_cons_zero, List.set_cons_succ, len_s, List.length_nil, ne_eq, x_within, x_in, eT1, eT2, eT3, eT4, eT5, eT6, eM1, eM2, eM3, eM4, eM5, eM6, Nat.one_mul, Nat.mul_one, Nat.zero_add, m2, et, eN, h1, a3, a7, iA 3 (by decide), cA 3 (by decide), if_pos (bA 3 (by decide)), iA 7 (by decide), cA 7 (by decide), if_pos (bA 7 (by decide)), ← ec, yo, x1', q2, s1, es]
    · have s1' : ¬ (sof ev (fun _ => true) lab k).1 = -1 := fun z => by rw [z, t1] at s1; omega
      have hso' := hso.resolve_left s1'
      by_cases q2 : ev k = -1
      · have e1 : sof ev (fun _ => true) lab (k + 1) = sof ev (fun _ => true) lab k := if_neg (fun z => by have := z.2.1; rw [q2, t1] at this; omega)
        obtain ⟨μ', b1, b2⟩ := ih (k + 1) μ1 (some (vI (ev k))) so _ _ (by omega) hF1 h131 (by rw [e1]; exact hso)
        refine ⟨μ', ?_, b2⟩
        rw [e1] at b1
        rw [← b1, u_167_6]
        simp -implicitDefEqProofs only [u_167_0, u_167_1, u_167_2, u_167_3, u_167_4, u_167_5, u_167_7, u_167_8, u_167_9, u_167_10, u_167_11, u_167_12, u_167_13, u_167_14, u_167_15, e_iload_n, e_iload, e_lload_n, e_lload, e_aload_n, e_aload, e_istore_n, e_istore, e_astore_n, e_astore, e_lstore_n, e_lstore, e_iinc, e_iconst, e_bipush, e_sipush, e_ldc_w, e_ldc, e_ldcS, e_lconst, e_ldc2_w, e_iadd, e_isub, e_imul, e_iand, e_ixor, e_ishl, e_ishr, e_iushr, e_idiv, e_irem, e_ineg, e_i2b, e_i2s, e_i2c, e_ladd, e_lsub, e_lmul, e_land, e_lor, e_ldiv, e_lrem, e_lneg, e_lshl, e_lshr, e_lushr, e_i2l, e_l2i, e_lcmp, e_dupI, e_dupA, e_dup2, e_getI, e_getA, e_putI, e_putZ, e_getstatic, e_iaload, e_iastore, e_aaload10, e_alen10, e_aaload11, e_alen11, e_aaload12, e_alen12, e_aaload13, e_alen13, e_alen, e_invokevirtual, e_invokevirtualB, e_invokestatic, e_invokestaticB, ct_0, ct_i, ct_a, ct_l, os_0, os_s, rc_0, rc_s, sl_0, sl_i, sl_a, sl_l, simprocAttr, ix, z_em, up_eq, up_j, Nat.le_refl, true_or, or_true, true_and, and_true, and_self, or_self, beq_self_eq_true, if_true, if_false, ite_self, ca_f, ca_t, aLen, Int32.lt_iff_toInt_lt, Int32.le_iff_toInt_le, z_ite, z_iten, z_ite1, ite_not, not_true_eq_false, not_false_eq_true, false_and, and_false, false_or, or_false, b_max, b_min, b_minL, b_absL, b_ixD, b_ixH, b_copy, tk_0, tk_s, dr_0, dr_s, pu_s, pu_n, ca_0, ca_1, clr_0, clr_s, e_nop, e_goto, e_if_eq, e_if_ne, e_if_lt, e_if_ge, e_if_gt, e_if_le, e_ic_eq, e_ic_ne, e_ic_lt, e_ic_ge, e_ic_gt, e_ic_le, e_tsw, e_lsw, sw_0, sw_s, e_iret, e_zret, e_lret, e_aret, e_ret, en_0, en_n, en_i, en_a, en_l, List.getElem?_cons_zero, List.getElem?_cons_succ, List.set_cons_zero, List.set_cons_succ, len_s, List.length_nil, ne_eq, x_within, x_in, eT1, eT2, eT3, eT4, eT5, eT6, eM1, eM2, eM3, eM4, eM5, eM6, Nat.one_mul, Nat.mul_one, Nat.zero_add, m2, et, eN, h1, a3, a7, iA 3 (by decide), cA 3 (by decide), if_pos (bA 3 (by decide)), iA 7 (by decide), cA 7 (by decide), if_pos (bA 7 (by decide)), ← ec, yo, x1', q2, es]
      · have q2' : ¬ (ev k).toInt = -1 := fun z => q2 (Int32.toInt_inj.mp (by rw [t1]; exact z))
        by_cases q3 : (ev k).toInt < so.toInt
        · have e1 : sof ev (fun _ => true) lab (k + 1) = (mi + nI k, ev k) := (if_pos ⟨rfl, by omega, Or.inr (by rw [← hso']; exact q3)⟩).trans (by rw [elb])
          obtain ⟨μ', b1, b2⟩ := ih (k + 1) μ1 (some (vI (ev k))) (ev k) _ _ (by omega) hF1 h131 (Or.inr (by rw [e1]))
          refine ⟨μ', ?_, b2⟩
          rw [e1] at b1
          rw [← b1, u_167_6]
          simp -implicitDefEqProofs only [u_167_0, u_167_1, u_167_2, u_167_3, u_167_4, u_167_5, u_167_7, u_167_8, u_167_9, u_167_10, u_167_11, u_167_12, u_167_13, u_167_14, u_167_15, e_iload_n, e_iload, e_lload_n, e_lload, e_aload_n, e_aload, e_istore_n, e_istore, e_astore_n, e_astore, e_lstore_n, e_lstore, e_iinc, e_iconst, e_bipush, e_sipush, e_ldc_w, e_ldc, e_ldcS, e_lconst, e_ldc2_w, e_iadd, e_isub, e_imul, e_iand, e_ixor, e_ishl, e_ishr, e_iushr, e_idiv, e_irem, e_ineg, e_i2b, e_i2s, e_i2c, e_ladd, e_lsub, e_lmul, e_land, e_lor, e_ldiv, e_lrem, e_lneg, e_lshl, e_lshr, e_lushr, e_i2l, e_l2i, e_lcmp, e_dupI, e_dupA, e_dup2, e_getI, e_getA, e_putI, e_putZ, e_getstatic, e_iaload, e_iastore, e_aaload10, e_alen10, e_aaload11, e_alen11, e_aaload12, e_alen12, e_aaload13, e_alen13, e_alen, e_invokevirtual, e_invokevirtualB, e_invokestatic, e_invokestaticB, ct_0, ct_i, ct_a, ct_l, os_0, os_s, rc_0, rc_s, sl_0, sl_i, sl_a, sl_l, simprocAttr, ix, z_em, up_eq, up_j, Nat.le_refl, true_or, or_true, true_and, and_true, and_self, or_self, beq_self_eq_true, if_true, if_false, ite_self, ca_f, ca_t, aLen, Int32.lt_iff_toInt_lt, Int32.le_iff_toInt_le, z_ite, z_iten, z_ite1, ite_not, not_true_eq_false, not_false_eq_true, false_and, and_false, false_or, or_false, b_max, b_min, b_minL, b_absL, b_ixD, b_ixH, b_copy, tk_0, tk_s, dr_0, dr_s, pu_s, pu_n, ca_0, ca_1, clr_0, clr_s, e_nop, e_goto, e_if_eq, e_if_ne, e_if_lt, e_if_ge, e_if_gt, e_if_le, e_ic_eq, e_ic_ne, e_ic_lt, e_ic_ge, e_ic_gt, e_ic_le, e_tsw, e_lsw, sw_0, sw_s, e_iret, e_zret, e_lret, e_aret, e_ret, en_0, en_n, en_i, en_a, en_l, List.getElem?_cons_zero, List.getElem?_cons_succ, List.set_cons_zero, List.set_cons_succ, len_s, List.length_nil, ne_eq, x_within, x_in, eT1, eT2, eT3, eT4, eT5, eT6, eM1, eM2, eM3, eM4, eM5, eM6, Nat.one_mul, Nat.mul_one, Nat.zero_add, m2, et, eN, h1, a3, a7, iA 3 (by decide), cA 3 (by decide), if_pos (bA 3 (by decide)), iA 7 (by decide), cA 7 (by decide), if_pos (bA 7 (by decide)), ← ec, yo, x1', q2, s1', q3, es]
        · have e1 : sof ev (fun _ => true) lab (k + 1) = sof ev (fun _ => true) lab k := if_neg (fun z => by
            rcases z.2.2 with y | y
            · omega
            · rw [← hso'] at y
              exact q3 y)
          obtain ⟨μ', b1, b2⟩ := ih (k + 1) μ1 (some (vI (ev k))) so _ _ (by omega) hF1 h131 (by rw [e1]; exact hso)
          refine ⟨μ', ?_, b2⟩
          rw [e1] at b1
          rw [← b1, u_167_6]
          simp -implicitDefEqProofs only [u_167_0, u_167_1, u_167_2, u_167_3, u_167_4, u_167_5, u_167_7, u_167_8, u_167_9, u_167_10, u_167_11, u_167_12, u_167_13, u_167_14, u_167_15, e_iload_n, e_iload, e_lload_n, e_lload, e_aload_n, e_aload, e_istore_n, e_istore, e_astore_n, e_astore, e_lstore_n, e_lstore, e_iinc, e_iconst, e_bipush, e_sipush, e_ldc_w, e_ldc, e_ldcS, e_lconst, e_ldc2_w, e_iadd, e_isub, e_imul, e_iand, e_ixor, e_ishl, e_ishr, e_iushr, e_idiv, e_irem, e_ineg, e_i2b, e_i2s, e_i2c, e_ladd, e_lsub, e_lmul, e_land, e_lor, e_ldiv, e_lrem, e_lneg, e_lshl, e_lshr, e_lushr, e_i2l, e_l2i, e_lcmp, e_dupI, e_dupA, e_dup2, e_getI, e_getA, e_putI, e_putZ, e_getstatic, e_iaload, e_iastore, e_aaload10, e_alen10, e_aaload11, e_alen11, e_aaload12, e_alen12, e_aaload13, e_alen13, e_alen, e_invokevirtual, e_invokevirtualB, e_invokestatic, e_invokestaticB, ct_0, ct_i, ct_a, ct_l, os_0, os_s, rc_0, rc_s, sl_0, sl_i, sl_a, sl_l, simprocAttr, ix, z_em, up_eq, up_j, Nat.le_refl, true_or, or_true, true_and, and_true, and_self, or_self, beq_self_eq_true, if_true, if_false, ite_self, ca_f, ca_t, aLen, Int32.lt_iff_toInt_lt, Int32.le_iff_toInt_le, z_ite, z_iten, z_ite1, ite_not, not_true_eq_false, not_false_eq_true, false_and, and_false, false_or, or_false, b_max, b_min, b_minL, b_absL, b_ixD, b_ixH, b_copy, tk_0, tk_s, dr_0, dr_s, pu_s, pu_n, ca_0, ca_1, clr_0, clr_s, e_nop, e_goto, e_if_eq, e_if_ne, e_if_lt, e_if_ge, e_if_gt, e_if_le, e_ic_eq, e_ic_ne, e_ic_lt, e_ic_ge, e_ic_gt, e_ic_le, e_tsw, e_lsw, sw_0, sw_s, e_iret, e_zret, e_lret, e_aret, e_ret, en_0, en_n, en_i, en_a, en_l, List.getElem?_cons_zero, List.getElem?_cons_succ, List.set_cons_zero, List.set_cons_succ, len_s, List.length_nil, ne_eq, x_within, x_in, eT1, eT2, eT3, eT4, eT5, eT6, eM1, eM2, eM3, eM4, eM5, eM6, Nat.one_mul, Nat.mul_one, Nat.zero_add, m2, et, eN, h1, a3, a7, iA 3 (by decide), cA 3 (by decide), if_pos (bA 3 (by decide)), iA 7 (by decide), cA 7 (by decide), if_pos (bA 7 (by decide)), ← ec, yo, x1', q2, s1', q3, es]
theorem p_best {fz : Mem} {d : Nat} {r n : Int32} {μ : Mem} (h : RR fz μ) : PR fz d 74 167 [vI r, vI n] μ := by
  by_cases q1 : 0 ≤ r.toInt ∧ r.toInt < (vC 1 μ 0 1).toInt
  · by_cases q2 : 1 ≤ n.toInt ∧ n.toInt ≤ 120
    · have g := gs1 h.1.1.1
      have gm := gs2 h.1.1.1
      have gm9 := h.1.2.2.1
      obtain ⟨r', hr, rfl⟩ := nIof (v := r) (n := 8) q1.1 (by omega)
      obtain ⟨N, hN, rfl⟩ := nIof (v := n) (n := 121) (by omega) (by omega)
      have nN : (nI N).toInt = N := nI_toInt (by omega)
      have nr : (nI r').toInt = r' := nI_toInt (by omega)
      have cr : (nI r').toNatClampNeg = r' := ix_nI (by omega)
      have b4 : (r' : Int) < 8 := by omega
      have b0 : (0 : Int) ≤ (r' : Int) := by omega
      rw [nr] at q1
      rw [nN] at q2
      have c6 : μ (19 + r') 7 = vC 1 μ (10 + r') 6 := cr6 (b := 1) hr
      have he : ∀ k', k' < 8 → vM 113 μ (10 + r') k' = vC 1 μ (10 + r') k' := fun k' hk => h.1.2.2.2.1.2.2.1 r' hr q1.2 k' hk
      have g6 := gr6 h.1.1.1 hr
      have g2 := gr2 h.1.1.1 hr
      have g22 := h.1.1.1.2.2 r' hr q1.2
      have hyh : ∀ μ5 : Mem, μ5 113 = μ 113 → cl d 114 [Sum.inr (Sum.inr (8, 112)), vI (nI r')] μ5 = some (some (vI (if vC 1 μ (10 + r') 6 = 1 then 1 else 0)), μ5) := fun μ5 e => by
        have hh := y_has (d := d) (μ := μ5) hr
        rw [vM_congr e, he 6 (by decide)] at hh
        exact hh
      by_cases q3 : vC 1 μ (10 + r') 6 = 1
      · refine PR.er (k := 3) h (by decide) (by decide) ?_ (fun μ1 f => ?_)
        · simp -implicitDefEqProofs only [cl_74, u_74_0, u_74_1, u_74_2, u_74_3, u_74_4, u_74_5, u_74_7, u_74_8, u_74_9, u_74_10, u_74_11, u_74_12, u_74_13, e_iload_n, e_iload, e_lload_n, e_lload, e_aload_n, e_aload, e_istore_n, e_istore, e_astore_n, e_astore, e_lstore_n, e_lstore, e_iinc, e_iconst, e_bipush, e_sipush, e_ldc_w, e_ldc, e_ldcS, e_lconst, e_ldc2_w, e_iadd, e_isub, e_imul, e_iand, e_ixor, e_ishl, e_ishr, e_iushr, e_idiv, e_irem, e_ineg, e_i2b, e_i2s, e_i2c, e_ladd, e_lsub, e_lmul, e_land, e_lor, e_ldiv, e_lrem, e_lneg, e_lshl, e_lshr, e_lushr, e_i2l, e_l2i, e_lcmp, e_dupI, e_dupA, e_dup2, e_getI, e_getA, e_putI, e_putZ, e_getstatic, e_iaload, e_iastore, e_aaload10, e_alen10, e_aaload11, e_alen11, e_aaload12, e_alen12, e_aaload13, e_alen13, e_alen, e_invokevirtual, e_invokevirtualB, e_invokestatic, e_invokestaticB, ct_0, ct_i, ct_a, ct_l, os_0, os_s, rc_0, rc_s, sl_0, sl_i, sl_a, sl_l, simprocAttr, ix, z_em, up_eq, up_j, Nat.le_refl, true_or, or_true, true_and, and_true, and_self, or_self, beq_self_eq_true, if_true, if_false, ite_self, ca_f, ca_t, aLen, Int32.lt_iff_toInt_lt, Int32.le_iff_toInt_le, z_ite, z_iten, z_ite1, ite_not, not_true_eq_false, not_false_eq_true, false_and, and_false, false_or, or_false, b_max, b_min, b_minL, b_absL, b_ixD, b_ixH, b_copy, tk_0, tk_s, dr_0, dr_s, pu_s, pu_n, ca_0, ca_1, clr_0, clr_s, e_nop, e_goto, e_if_eq, e_if_ne, e_if_lt, e_if_ge, e_if_gt, e_if_le, e_ic_eq, e_ic_ne, e_ic_lt, e_ic_ge, e_ic_gt, e_ic_le, e_tsw, e_lsw, sw_0, sw_s, e_iret, e_zret, e_lret, e_aret, e_ret, en_0, en_n, en_i, en_a, en_l, List.getElem?_cons_zero, List.getElem?_cons_succ, List.set_cons_zero, List.set_cons_succ, len_s, List.length_nil, ne_eq, x_within, x_in, eT1, eT2, eT3, eT4, eT5, eT6, eM1, eM2, eM3, eM4, eM5, eM6, Nat.one_mul, Nat.mul_one, Nat.zero_add, xR h, nr, cr, nN, q1, q2, b4, b0, c6, q3]
        · simp -implicitDefEqProofs only [cl_167, u_167_0, u_167_1, u_167_2, u_167_3, u_167_4, u_167_5, u_167_7, u_167_8, u_167_9, u_167_10, u_167_11, u_167_12, u_167_13, u_167_14, u_167_15, e_iload_n, e_iload, e_lload_n, e_lload, e_aload_n, e_aload, e_istore_n, e_istore, e_astore_n, e_astore, e_lstore_n, e_lstore, e_iinc, e_iconst, e_bipush, e_sipush, e_ldc_w, e_ldc, e_ldcS, e_lconst, e_ldc2_w, e_iadd, e_isub, e_imul, e_iand, e_ixor, e_ishl, e_ishr, e_iushr, e_idiv, e_irem, e_ineg, e_i2b, e_i2s, e_i2c, e_ladd, e_lsub, e_lmul, e_land, e_lor, e_ldiv, e_lrem, e_lneg, e_lshl, e_lshr, e_lushr, e_i2l, e_l2i, e_lcmp, e_dupI, e_dupA, e_dup2, e_getI, e_getA, e_putI, e_putZ, e_getstatic, e_iaload, e_iastore, e_aaload10, e_alen10, e_aaload11, e_alen11, e_aaload12, e_alen12, e_aaload13, e_alen13, e_alen, e_invokevirtual, e_invokevirtualB, e_invokestatic, e_invokestaticB, ct_0, ct_i, ct_a, ct_l, os_0, os_s, rc_0, rc_s, sl_0, sl_i, sl_a, sl_l, simprocAttr, ix, z_em, up_eq, up_j, Nat.le_refl, true_or, or_true, true_and, and_true, and_self, or_self, beq_self_eq_true, if_true, if_false, ite_self, ca_f, ca_t, aLen, Int32.lt_iff_toInt_lt, Int32.le_iff_toInt_le, z_ite, z_iten, z_ite1, ite_not, not_true_eq_false, not_false_eq_true, false_and, and_false, false_or, or_false, b_max, b_min, b_minL, b_absL, b_ixD, b_ixH, b_copy, tk_0, tk_s, dr_0, dr_s, pu_s, pu_n, ca_0, ca_1, clr_0, clr_s, e_nop, e_goto, e_if_eq, e_if_ne, e_if_lt, e_if_ge, e_if_gt, e_if_le, e_ic_eq, e_ic_ne, e_ic_lt, e_ic_ge, e_ic_gt, e_ic_le, e_tsw, e_lsw, sw_0, sw_s, e_iret, e_zret, e_lret, e_aret, e_ret, en_0, en_n, en_i, en_a, en_l, List.getElem?_cons_zero, List.getElem?_cons_succ, List.set_cons_zero, List.set_cons_succ, len_s, List.length_nil, ne_eq, x_within, x_in, eT1, eT2, eT3, eT4, eT5, eT6, eM1, eM2, eM3, eM4, eM5, eM6, Nat.one_mul, Nat.mul_one, Nat.zero_add, yR h (f 113 (by decide)), nr, nN, q1, q2, hyh _ (f 113 (by decide)), if_pos q3]
      · obtain ⟨w, hw, ew⟩ := nIof (v := vC 1 μ (10 + r') 2) (n := 4) g2.1 (by omega)
        have nw : (nI w).toInt = w := nI_toInt (by omega)
        have hwc : (w : Int) < (vC 1 μ 0 0).toInt := by rw [ew, nw] at g22; exact g22
        obtain ⟨μ1, a1, a2, a3⟩ := l_best (d := d) (N := N) (mi := vC 1 μ 0 2) hw hwc hr q1.2 ew (by omega) rfl ⟨gm.1, gm9⟩ N 0 μ none (by omega) h (fun _ _ => rfl)
        have f13 : μ1 113 = μ 113 := a3 113 (by omega)
        have mm : vM 113 μ 0 2 = vC 1 μ 0 2 := h.e0 (by decide)
        have i3 : 106 + 8 * nI r' + 3 = nI (106 + 8 * r' + 3) := ad_r hr (by decide) rfl
        have i7 : 106 + 8 * nI r' + 7 = nI (106 + 8 * r' + 7) := ad_r hr (by decide) rfl
        have iA : ∀ k : Nat, k < 8 → (nI (106 + 8 * r' + k)).toInt = (106 + 8 * r' + k : Nat) := fun k hk => nI_toInt (by omega)
        have cA : ∀ k : Nat, k < 8 → (nI (106 + 8 * r' + k)).toNatClampNeg = 106 + 8 * r' + k := fun k hk => ix_nI (by omega)
        have bA : ∀ k : Nat, k < 8 → ((0 : Int) ≤ ((106 + 8 * r' + k : Nat) : Int) ∧ ((106 + 8 * r' + k : Nat) : Int) < 504) := fun k hk => by omega
        have key : ∀ μ5 : Mem, (∀ o, o ≠ 103 → μ5 o = μ1 o) → ∃ μ6, cl d 167 [vR 8 112, vI (nI r'), vI (nI N)] μ5 = (if (sof (fun i => evB μ w r' (vC 1 μ 0 2 + nI i)) (fun _ => true) (fun i => vC 1 μ 0 2 + nI i) N).1 = -1 then some (some (vI (-1000000000 - nI 2)), up μ6 116 2 (μ6 116 2 + 1)) else some (some (vI (sof (fun i => evB μ w r' (vC 1 μ 0 2 + nI i)) (fun _ => true) (fun i => vC 1 μ 0 2 + nI i) N).1), μ6)) ∧ FrA μ5 μ6 := by
          intro μ5 f5
          have e5 : μ5 113 = μ 113 := by rw [f5 113 (by decide), f13]
          have vm5 : vM 113 μ5 = vM 113 μ := vM_congr e5
          have e0 : μ5 113 = up (up μ5 113 (106 + 8 * r' + 3) (μ5 113 (106 + 8 * r' + 3))) 113 (106 + 8 * r' + 7) (μ5 113 (106 + 8 * r' + 7)) 113 := by
            funext c
            unfold up
            simp only [true_and]
            by_cases q7 : c = 106 + 8 * r' + 7
            · rw [if_pos q7, q7]
            · rw [if_neg q7]
              by_cases q3 : c = 106 + 8 * r' + 3
              · rw [if_pos q3, q3]
              · rw [if_neg q3]
          obtain ⟨μ6, b1, b2⟩ := k_best (d := d) (N := N) (mi := vC 1 μ 0 2) (μ0 := μ5) hw hr (by rw [vm5, he 2 (by decide), ew]) (by omega) (by rw [vm5, mm]) ⟨gm.1, gm9⟩ (LWM_congr e5 h.1.2.2.2.2.lwm) (by rw [vm5]; exact h.1.1.2) (by rw [vm5]; exact h.1.2.1.2) N 0 μ5 none 0 _ _ (by omega) (fun _ _ _ _ _ => rfl) e0 (Or.inl rfl)
          have es : sof (fun i => evB μ5 w r' (vC 1 μ 0 2 + nI i)) (fun _ => true) (fun i => vC 1 μ 0 2 + nI i) N = sof (fun i => evB μ w r' (vC 1 μ 0 2 + nI i)) (fun _ => true) (fun i => vC 1 μ 0 2 + nI i) N := sof_cg N (fun i hi => evB_cg e5 w r' _) (fun _ _ => rfl)
          rw [es] at b1
          have s0 : ∀ ev on lab, sof ev on lab 0 = (-1, -1) := fun _ _ _ => rfl
          have z0 : vC 1 μ 0 2 + nI 0 = vC 1 μ 0 2 := Int32.add_zero _
          rw [s0, z0] at b1
          refine ⟨μ6, ?_, b2⟩
          have m2 : μ5 113 2 = vC 1 μ 0 2 := by rw [e5, ms2 (m := 113) (μ := μ), mm]
          have m3 : μ5 113 (106 + 8 * r' + 3) = vM 113 μ5 (10 + r') 3 := mr hr (by decide)
          have m7 : μ5 113 (106 + 8 * r' + 7) = vM 113 μ5 (10 + r') 7 := mr hr (by decide)
          rw [← b1]
          simp -implicitDefEqProofs only [cl_167, u_167_0, u_167_1, u_167_2, u_167_3, u_167_4, u_167_5, u_167_7, u_167_8, u_167_9, u_167_10, u_167_11, u_167_12, u_167_13, u_167_14, u_167_15, e_iload_n, e_iload, e_lload_n, e_lload, e_aload_n, e_aload, e_istore_n, e_istore, e_astore_n, e_astore, e_lstore_n, e_lstore, e_iinc, e_iconst, e_bipush, e_sipush, e_ldc_w, e_ldc, e_ldcS, e_lconst, e_ldc2_w, e_iadd, e_isub, e_imul, e_iand, e_ixor, e_ishl, e_ishr, e_iushr, e_idiv, e_irem, e_ineg, e_i2b, e_i2s, e_i2c, e_ladd, e_lsub, e_lmul, e_land, e_lor, e_ldiv, e_lrem, e_lneg, e_lshl, e_lshr, e_lushr, e_i2l, e_l2i, e_lcmp, e_dupI, e_dupA, e_dup2, e_getI, e_getA, e_putI, e_putZ, e_getstatic, e_iaload, e_iastore, e_aaload10, e_alen10, e_aaload11, e_alen11, e_aaload12, e_alen12, e_aaload13, e_alen13, e_alen, e_invokevirtual, e_invokevirtualB, e_invokestatic, e_invokestaticB, ct_0, ct_i, ct_a, ct_l, os_0, os_s, rc_0, rc_s, sl_0, sl_i, sl_a, sl_l, simprocAttr, ix, z_em, up_eq, up_j, Nat.le_refl, true_or, or_true, true_and, and_true, and_self, or_self, beq_self_eq_true, if_true, if_false, ite_self, ca_f, ca_t, aLen, Int32.lt_iff_toInt_lt, Int32.le_iff_toInt_le, z_ite, z_iten, z_ite1, ite_not, not_true_eq_false, not_false_eq_true, false_and, and_false, false_or, or_false, b_max, b_min, b_minL, b_absL, b_ixD, b_ixH, b_copy, tk_0, tk_s, dr_0, dr_s, pu_s, pu_n, ca_0, ca_1, clr_0, clr_s, e_nop, e_goto, e_if_eq, e_if_ne, e_if_lt, e_if_ge, e_if_gt, e_if_le, e_ic_eq, e_ic_ne, e_ic_lt, e_ic_ge, e_ic_gt, e_ic_le, e_tsw, e_lsw, sw_0, sw_s, e_iret, e_zret, e_lret, e_aret, e_ret, en_0, en_n, en_i, en_a, en_l, List.getElem?_cons_zero, List.getElem?_cons_succ, List.set_cons_zero, List.set_cons_succ, len_s, List.length_nil, ne_eq, x_within, x_in, eT1, eT2, eT3, eT4, eT5, eT6, eM1, eM2, eM3, eM4, eM5, eM6, Nat.one_mul, Nat.mul_one, Nat.zero_add, yR h e5, nr, nN, q1, q2, hyh _ e5, if_neg q3, i3, i7, iA 3 (by decide), cA 3 (by decide), if_pos (bA 3 (by decide)), iA 7 (by decide), cA 7 (by decide), if_pos (bA 7 (by decide)), m2, m3, m7]
        have z0 : (vI (nI 0) : AV) = vI 0 := rfl
        have s0 : ∀ ev on lab, sof ev on lab 0 = (-1, -1) := fun _ _ _ => rfl
        rw [s0, z0] at a1
        have hrg := sof_rg (ev := fun i => evB μ w r' (vC 1 μ 0 2 + nI i)) (on := fun _ => true) (lab := fun i => vC 1 μ 0 2 + nI i) N (fun i hi => by
          show 0 ≤ (vC 1 μ 0 2 + nI i).toInt
          rw [ta] <;> rw [nI_toInt (by omega)] <;> omega)
        generalize sof (fun i => evB μ w r' (vC 1 μ 0 2 + nI i)) (fun _ => true) (fun i => vC 1 μ 0 2 + nI i) N = S at *
        have t1 : (-1 : Int32).toInt = -1 := rfl
        rcases hrg with ⟨s1, s2⟩ | ⟨s1, s2⟩
        · have n1 : S.1.toInt < 0 := by rw [s1, t1]; omega
          rw [if_pos n1] at a1
          refine PR.e2 (k := 2) a2 (by decide) (by decide) ?_ (fun μ5 f5 => ?_)
          · rw [← a1]
            simp -implicitDefEqProofs only [cl_74, u_74_0, u_74_1, u_74_2, u_74_3, u_74_4, u_74_5, u_74_7, u_74_8, u_74_9, u_74_10, u_74_11, u_74_12, u_74_13, e_iload_n, e_iload, e_lload_n, e_lload, e_aload_n, e_aload, e_istore_n, e_istore, e_astore_n, e_astore, e_lstore_n, e_lstore, e_iinc, e_iconst, e_bipush, e_sipush, e_ldc_w, e_ldc, e_ldcS, e_lconst, e_ldc2_w, e_iadd, e_isub, e_imul, e_iand, e_ixor, e_ishl, e_ishr, e_iushr, e_idiv, e_irem, e_ineg, e_i2b, e_i2s, e_i2c, e_ladd, e_lsub, e_lmul, e_land, e_lor, e_ldiv, e_lrem, e_lneg, e_lshl, e_lshr, e_lushr, e_i2l, e_l2i, e_lcmp, e_dupI, e_dupA, e_dup2, e_getI, e_getA, e_putI, e_putZ, e_getstatic, e_iaload, e_iastore, e_aaload10, e_alen10, e_aaload11, e_alen11, e_aaload12, e_alen12, e_aaload13, e_alen13, e_alen, e_invokevirtual, e_invokevirtualB, e_invokestatic, e_invokestaticB, ct_0, ct_i, ct_a, ct_l, os_0, os_s, rc_0, rc_s, sl_0, sl_i, sl_a, sl_l, simprocAttr, ix, z_em, up_eq, up_j, Nat.le_refl, true_or, or_true, true_and, and_true, and_self, or_self, beq_self_eq_true, if_true, if_false, ite_self, ca_f, ca_t, aLen, Int32.lt_iff_toInt_lt, Int32.le_iff_toInt_le, z_ite, z_iten, z_ite1, ite_not, not_true_eq_false, not_false_eq_true, false_and, and_false, false_or, or_false, b_max, b_min, b_minL, b_absL, b_ixD, b_ixH, b_copy, tk_0, tk_s, dr_0, dr_s, pu_s, pu_n, ca_0, ca_1, clr_0, clr_s, e_nop, e_goto, e_if_eq, e_if_ne, e_if_lt, e_if_ge, e_if_gt, e_if_le, e_ic_eq, e_ic_ne, e_ic_lt, e_ic_ge, e_ic_gt, e_ic_le, e_tsw, e_lsw, sw_0, sw_s, e_iret, e_zret, e_lret, e_aret, e_ret, en_0, en_n, en_i, en_a, en_l, List.getElem?_cons_zero, List.getElem?_cons_succ, List.set_cons_zero, List.set_cons_succ, len_s, List.length_nil, ne_eq, x_within, x_in, eT1, eT2, eT3, eT4, eT5, eT6, eM1, eM2, eM3, eM4, eM5, eM6, Nat.one_mul, Nat.mul_one, Nat.zero_add, xR h, nr, cr, nN, q1, q2, b4, b0, c6, q3]
          · obtain ⟨μ6, b1, b2⟩ := key μ5 f5
            rw [if_pos s1] at b1
            exact ⟨μ6, b1, b2⟩
        · have n1 : ¬ S.1.toInt < 0 := by omega
          have n2 : ¬ S.1 = -1 := fun z => by rw [z, t1] at s1; omega
          rw [if_neg n1] at a1
          obtain ⟨μ6, b1, b2⟩ := key μ1 (fun _ _ => rfl)
          rw [if_neg n2] at b1
          refine ⟨S.1, μ1, μ6, a2.u2, ?_, b1, a2.fa b2⟩
          rw [← a1]
          simp -implicitDefEqProofs only [cl_74, u_74_0, u_74_1, u_74_2, u_74_3, u_74_4, u_74_5, u_74_7, u_74_8, u_74_9, u_74_10, u_74_11, u_74_12, u_74_13, e_iload_n, e_iload, e_lload_n, e_lload, e_aload_n, e_aload, e_istore_n, e_istore, e_astore_n, e_astore, e_lstore_n, e_lstore, e_iinc, e_iconst, e_bipush, e_sipush, e_ldc_w, e_ldc, e_ldcS, e_lconst, e_ldc2_w, e_iadd, e_isub, e_imul, e_iand, e_ixor, e_ishl, e_ishr, e_iushr, e_idiv, e_irem, e_ineg, e_i2b, e_i2s, e_i2c, e_ladd, e_lsub, e_lmul, e_land, e_lor, e_ldiv, e_lrem, e_lneg, e_lshl, e_lshr, e_lushr, e_i2l, e_l2i, e_lcmp, e_dupI, e_dupA, e_dup2, e_getI, e_getA, e_putI, e_putZ, e_getstatic, e_iaload, e_iastore, e_aaload10, e_alen10, e_aaload11, e_alen11, e_aaload12, e_alen12, e_aaload13, e_alen13, e_alen, e_invokevirtual, e_invokevirtualB, e_invokestatic, e_invokestaticB, ct_0, ct_i, ct_a, ct_l, os_0, os_s, rc_0, rc_s, sl_0, sl_i, sl_a, sl_l, simprocAttr, ix, z_em, up_eq, up_j, Nat.le_refl, true_or, or_true, true_and, and_true, and_self, or_self, beq_self_eq_true, if_true, if_false, ite_self, ca_f, ca_t, aLen, Int32.lt_iff_toInt_lt, Int32.le_iff_toInt_le, z_ite, z_iten, z_ite1, ite_not, not_true_eq_false, not_false_eq_true, false_and, and_false, false_or, or_false, b_max, b_min, b_minL, b_absL, b_ixD, b_ixH, b_copy, tk_0, tk_s, dr_0, dr_s, pu_s, pu_n, ca_0, ca_1, clr_0, clr_s, e_nop, e_goto, e_if_eq, e_if_ne, e_if_lt, e_if_ge, e_if_gt, e_if_le, e_ic_eq, e_ic_ne, e_ic_lt, e_ic_ge, e_ic_gt, e_ic_le, e_tsw, e_lsw, sw_0, sw_s, e_iret, e_zret, e_lret, e_aret, e_ret, en_0, en_n, en_i, en_a, en_l, List.getElem?_cons_zero, List.getElem?_cons_succ, List.set_cons_zero, List.set_cons_succ, len_s, List.length_nil, ne_eq, x_within, x_in, eT1, eT2, eT3, eT4, eT5, eT6, eM1, eM2, eM3, eM4, eM5, eM6, Nat.one_mul, Nat.mul_one, Nat.zero_add, xR h, nr, cr, nN, q1, q2, b4, b0, c6, q3]
    · refine PR.er (k := 1) h (by decide) (by decide) ?_ (fun μ1 f => ?_)
      · simp -implicitDefEqProofs only [cl_74, u_74_0, u_74_1, u_74_2, u_74_3, u_74_4, u_74_5, u_74_7, u_74_8, u_74_9, u_74_10, u_74_11, u_74_12, u_74_13, e_iload_n, e_iload, e_lload_n, e_lload, e_aload_n, e_aload, e_istore_n, e_istore, e_astore_n, e_astore, e_lstore_n, e_lstore, e_iinc, e_iconst, e_bipush, e_sipush, e_ldc_w, e_ldc, e_ldcS, e_lconst, e_ldc2_w, e_iadd, e_isub, e_imul, e_iand, e_ixor, e_ishl, e_ishr, e_iushr, e_idiv, e_irem, e_ineg, e_i2b, e_i2s, e_i2c, e_ladd, e_lsub, e_lmul, e_land, e_lor, e_ldiv, e_lrem, e_lneg, e_lshl, e_lshr, e_lushr, e_i2l, e_l2i, e_lcmp, e_dupI, e_dupA, e_dup2, e_getI, e_getA, e_putI, e_putZ, e_getstatic, e_iaload, e_iastore, e_aaload10, e_alen10, e_aaload11, e_alen11, e_aaload12, e_alen12, e_aaload13, e_alen13, e_alen, e_invokevirtual, e_invokevirtualB, e_invokestatic, e_invokestaticB, ct_0, ct_i, ct_a, ct_l, os_0, os_s, rc_0, rc_s, sl_0, sl_i, sl_a, sl_l, simprocAttr, ix, z_em, up_eq, up_j, Nat.le_refl, true_or, or_true, true_and, and_true, and_self, or_self, beq_self_eq_true, if_true, if_false, ite_self, ca_f, ca_t, aLen, Int32.lt_iff_toInt_lt, Int32.le_iff_toInt_le, z_ite, z_iten, z_ite1, ite_not, not_true_eq_false, not_false_eq_true, false_and, and_false, false_or, or_false, b_max, b_min, b_minL, b_absL, b_ixD, b_ixH, b_copy, tk_0, tk_s, dr_0, dr_s, pu_s, pu_n, ca_0, ca_1, clr_0, clr_s, e_nop, e_goto, e_if_eq, e_if_ne, e_if_lt, e_if_ge, e_if_gt, e_if_le, e_ic_eq, e_ic_ne, e_ic_lt, e_ic_ge, e_ic_gt, e_ic_le, e_tsw, e_lsw, sw_0, sw_s, e_iret, e_zret, e_lret, e_aret, e_ret, en_0, en_n, en_i, en_a, en_l, List.getElem?_cons_zero, List.getElem?_cons_succ, List.set_cons_zero, List.set_cons_succ, len_s, List.length_nil, ne_eq, x_within, x_in, eT1, eT2, eT3, eT4, eT5, eT6, eM1, eM2, eM3, eM4, eM5, eM6, Nat.one_mul, Nat.mul_one, Nat.zero_add, xR h, q1, q2]
      · simp -implicitDefEqProofs only [cl_167, u_167_0, u_167_1, u_167_2, u_167_3, u_167_4, u_167_5, u_167_7, u_167_8, u_167_9, u_167_10, u_167_11, u_167_12, u_167_13, u_167_14, u_167_15, e_iload_n, e_iload, e_lload_n, e_lload, e_aload_n, e_aload, e_istore_n, e_istore, e_astore_n, e_astore, e_lstore_n, e_lstore, e_iinc, e_iconst, e_bipush, e_sipush, e_ldc_w, e_ldc, e_ldcS, e_lconst, e_ldc2_w, e_iadd, e_isub, e_imul, e_iand, e_ixor, e_ishl, e_ishr, e_iushr, e_idiv, e_irem, e_ineg, e_i2b, e_i2s, e_i2c, e_ladd, e_lsub, e_lmul, e_land, e_lor, e_ldiv, e_lrem, e_lneg, e_lshl, e_lshr, e_lushr, e_i2l, e_l2i, e_lcmp, e_dupI, e_dupA, e_dup2, e_getI, e_getA, e_putI, e_putZ, e_getstatic, e_iaload, e_iastore, e_aaload10, e_alen10, e_aaload11, e_alen11, e_aaload12, e_alen12, e_aaload13, e_alen13, e_alen, e_invokevirtual, e_invokevirtualB, e_invokestatic, e_invokestaticB, ct_0, ct_i, ct_a, ct_l, os_0, os_s, rc_0, rc_s, sl_0, sl_i, sl_a, sl_l, simprocAttr, ix, z_em, up_eq, up_j, Nat.le_refl, true_or, or_true, true_and, and_true, and_self, or_self, beq_self_eq_true, if_true, if_false, ite_self, ca_f, ca_t, aLen, Int32.lt_iff_toInt_lt, Int32.le_iff_toInt_le, z_ite, z_iten, z_ite1, ite_not, not_true_eq_false, not_false_eq_true, false_and, and_false, false_or, or_false, b_max, b_min, b_minL, b_absL, b_ixD, b_ixH, b_copy, tk_0, tk_s, dr_0, dr_s, pu_s, pu_n, ca_0, ca_1, clr_0, clr_s, e_nop, e_goto, e_if_eq, e_if_ne, e_if_lt, e_if_ge, e_if_gt, e_if_le, e_ic_eq, e_ic_ne, e_ic_lt, e_ic_ge, e_ic_gt, e_ic_le, e_tsw, e_lsw, sw_0, sw_s, e_iret, e_zret, e_lret, e_aret, e_ret, en_0, en_n, en_i, en_a, en_l, List.getElem?_cons_zero, List.getElem?_cons_succ, List.set_cons_zero, List.set_cons_succ, len_s, List.length_nil, ne_eq, x_within, x_in, eT1, eT2, eT3, eT4, eT5, eT6, eM1, eM2, eM3, eM4, eM5, eM6, Nat.one_mul, Nat.mul_one, Nat.zero_add, yR h (f 113 (by decide)), q1, q2]
  · refine PR.er (k := 1) h (by decide) (by decide) ?_ (fun μ1 f => ?_)
    · simp -implicitDefEqProofs only [cl_74, u_74_0, u_74_1, u_74_2, u_74_3, u_74_4, u_74_5, u_74_7, u_74_8, u_74_9, u_74_10, u_74_11, u_74_12, u_74_13, e_iload_n, e_iload, e_lload_n, e_lload, e_aload_n, e_aload, e_istore_n, e_istore, e_astore_n, e_astore, e_lstore_n, e_lstore, e_iinc, e_iconst, e_bipush, e_sipush, e_ldc_w, e_ldc, e_ldcS, e_lconst, e_ldc2_w, e_iadd, e_isub, e_imul, e_iand, e_ixor, e_ishl, e_ishr, e_iushr, e_idiv, e_irem, e_ineg, e_i2b, e_i2s, e_i2c, e_ladd, e_lsub, e_lmul, e_land, e_lor, e_ldiv, e_lrem, e_lneg, e_lshl, e_lshr, e_lushr, e_i2l, e_l2i, e_lcmp, e_dupI, e_dupA, e_dup2, e_getI, e_getA, e_putI, e_putZ, e_getstatic, e_iaload, e_iastore, e_aaload10, e_alen10, e_aaload11, e_alen11, e_aaload12, e_alen12, e_aaload13, e_alen13, e_alen, e_invokevirtual, e_invokevirtualB, e_invokestatic, e_invokestaticB, ct_0, ct_i, ct_a, ct_l, os_0, os_s, rc_0, rc_s, sl_0, sl_i, sl_a, sl_l, simprocAttr, ix, z_em, up_eq, up_j, Nat.le_refl, true_or, or_true, true_and, and_true, and_self, or_self, beq_self_eq_true, if_true, if_false, ite_self, ca_f, ca_t, aLen, Int32.lt_iff_toInt_lt, Int32.le_iff_toInt_le, z_ite, z_iten, z_ite1, ite_not, not_true_eq_false, not_false_eq_true, false_and, and_false, false_or, or_false, b_max, b_min, b_minL, b_absL, b_ixD, b_ixH, b_copy, tk_0, tk_s, dr_0, dr_s, pu_s, pu_n, ca_0, ca_1, clr_0, clr_s, e_nop, e_goto, e_if_eq, e_if_ne, e_if_lt, e_if_ge, e_if_gt, e_if_le, e_ic_eq, e_ic_ne, e_ic_lt, e_ic_ge, e_ic_gt, e_ic_le, e_tsw, e_lsw, sw_0, sw_s, e_iret, e_zret, e_lret, e_aret, e_ret, en_0, en_n, en_i, en_a, en_l, List.getElem?_cons_zero, List.getElem?_cons_succ, List.set_cons_zero, List.set_cons_succ, len_s, List.length_nil, ne_eq, x_within, x_in, eT1, eT2, eT3, eT4, eT5, eT6, eM1, eM2, eM3, eM4, eM5, eM6, Nat.one_mul, Nat.mul_one, Nat.zero_add, xR h, q1]
    · simp -implicitDefEqProofs only [cl_167, u_167_0, u_167_1, u_167_2, u_167_3, u_167_4, u_167_5, u_167_7, u_167_8, u_167_9, u_167_10, u_167_11, u_167_12, u_167_13, u_167_14, u_167_15, e_iload_n, e_iload, e_lload_n, e_lload, e_aload_n, e_aload, e_istore_n, e_istore, e_astore_n, e_astore, e_lstore_n, e_lstore, e_iinc, e_iconst, e_bipush, e_sipush, e_ldc_w, e_ldc, e_ldcS, e_lconst, e_ldc2_w, e_iadd, e_isub, e_imul, e_iand, e_ixor, e_ishl, e_ishr, e_iushr, e_idiv, e_irem, e_ineg, e_i2b, e_i2s, e_i2c, e_ladd, e_lsub, e_lmul, e_land, e_lor, e_ldiv, e_lrem, e_lneg, e_lshl, e_lshr, e_lushr, e_i2l, e_l2i, e_lcmp, e_dupI, e_dupA, e_dup2, e_getI, e_getA, e_putI, e_putZ, e_getstatic, e_iaload, e_iastore, e_aaload10, e_alen10, e_aaload11, e_alen11, e_aaload12, e_alen12, e_aaload13, e_alen13, e_alen, e_invokevirtual, e_invokevirtualB, e_invokestatic, e_invokestaticB, ct_0, ct_i, ct_a, ct_l, os_0, os_s, rc_0, rc_s, sl_0, sl_i, sl_a, sl_l, simprocAttr, ix, z_em, up_eq, up_j, Nat.le_refl, true_or, or_true, true_and, and_true, and_self, or_self, beq_self_eq_true, if_true, if_false, ite_self, ca_f, ca_t, aLen, Int32.lt_iff_toInt_lt, Int32.le_iff_toInt_le, z_ite, z_iten, z_ite1, ite_not, not_true_eq_false, not_false_eq_true, false_and, and_false, false_or, or_false, b_max, b_min, b_minL, b_absL, b_ixD, b_ixH, b_copy, tk_0, tk_s, dr_0, dr_s, pu_s, pu_n, ca_0, ca_1, clr_0, clr_s, e_nop, e_goto, e_if_eq, e_if_ne, e_if_lt, e_if_ge, e_if_gt, e_if_le, e_ic_eq, e_ic_ne, e_ic_lt, e_ic_ge, e_ic_gt, e_ic_le, e_tsw, e_lsw, sw_0, sw_s, e_iret, e_zret, e_lret, e_aret, e_ret, en_0, en_n, en_i, en_a, en_l, List.getElem?_cons_zero, List.getElem?_cons_succ, List.set_cons_zero, List.set_cons_succ, len_s, List.length_nil, ne_eq, x_within, x_in, eT1, eT2, eT3, eT4, eT5, eT6, eM1, eM2, eM3, eM4, eM5, eM6, Nat.one_mul, Nat.mul_one, Nat.zero_add, yR h (f 113 (by decide)), q1]
