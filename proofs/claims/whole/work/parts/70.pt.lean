/-! PAIRS OF CALLS: fits. -/
def ftF (ev : Nat → Int32) : Nat → Int32 × Int32
  | 0 => (0, -1)
  | n + 1 => if 0 ≤ (ev n).toInt ∧ ((ftF ev n).2.toInt < 0 ∨ (ev n).toInt < (ftF ev n).2.toInt) then (nI n, ev n) else ftF ev n
theorem ftF_rg {ev : Nat → Int32} (h : ∀ i, 0 ≤ (ev i).toInt) : ∀ n, n < 100 → 0 ≤ (ftF ev (n + 1)).2.toInt ∧ (ftF ev (n + 1)).1.toInt ≤ n := by
  intro n
  induction n with
  | zero =>
    intro _
    have e : ftF ev 1 = (nI 0, ev 0) := if_pos ⟨h 0, Or.inl (by show (-1 : Int32).toInt < 0; decide)⟩
    rw [e]
    exact ⟨h 0, by show (nI 0).toInt ≤ ((0 : Nat) : Int); decide⟩
  | succ n ih =>
    intro hn
    obtain ⟨i1, i2⟩ := ih (by omega)
    by_cases q : 0 ≤ (ev (n + 1)).toInt ∧ ((ftF ev (n + 1)).2.toInt < 0 ∨ (ev (n + 1)).toInt < (ftF ev (n + 1)).2.toInt)
    · have e : ftF ev (n + 1 + 1) = (nI (n + 1), ev (n + 1)) := if_pos q
      rw [e]
      exact ⟨h _, by rw [nI_toInt (by omega)]; omega⟩
    · have e : ftF ev (n + 1 + 1) = ftF ev (n + 1) := if_neg q
      rw [e]
      exact ⟨i1, by omega⟩
def evF (μ : Mem) (w r S : Nat) (nu : Nat → Int32) (m : Nat) : Int32 := offP nu (fun i => timesP (minP (mn 99999) (txM μ) (-1)) i (up (vM 113 μ) (10 + r) 1 (nI m)) (1 + w) 0) S
theorem evF_cg {μ μ' : Mem} (h : μ' 113 = μ 113) (w r S : Nat) (nu : Nat → Int32) (m : Nat) : evF μ' w r S nu m = evF μ w r S nu m := by
  unfold evF
  rw [txM_congr h, vM_congr h]
theorem wf_m {V : Mem} {r m : Nat} (hV : WFV V) (hr : r < 8) (hm : m < 10) : WFV (up V (10 + r) 1 (nI m)) := by
  refine wf_up hV (by unfold plV; omega) ?_
  rw [(lr1 hr).1, (lr1 hr).2, nI_toInt (by omega)]
  omega
theorem l_fits {fz : Mem} {d s w r S : Nat} {μ0 : Mem} (hs : s < 4) (hw : w < 4) (hwc : (w : Int) < (vC 1 μ0 0 0).toInt) (hr : r < 8) (hrc : (r : Int) < (vC 1 μ0 0 1).toInt) (hrw : vC 1 μ0 (10 + r) 2 = nI w) (hS : S ≤ 24) (hS2 : μ0 (104 + 2 * s) 2 = nI S) (hm9 : (vC 1 μ0 0 2).toInt ≤ 9999) : ∀ n k μ (x : Option AV), k + n = 10 → RR fz μ → (∀ o, (o < 33 ∨ 65 ≤ o) → μ o = μ0 o) → ∃ μ', res d 84 6 [some (vR 7 0), some (vI (nI s)), some (vI (nI r)), some (vI (ftF (evF μ0 w r S (fun i => μ0 (105 + 2 * s) i)) k).2), some (vI (ftF (evF μ0 w r S (fun i => μ0 (105 + 2 * s) i)) k).1), some (vI (nI k)), x] [] μ = some (some (vI (ftF (evF μ0 w r S (fun i => μ0 (105 + 2 * s) i)) 10).1), μ') ∧ RR fz μ' ∧ ∀ o, (o < 33 ∨ 65 ≤ o) → μ' o = μ0 o := by
  generalize hev : evF μ0 w r S (fun i => μ0 (105 + 2 * s) i) = ev
  intro n
  induction n with
  | zero =>
    intro k μ x hk hRR hf
    have hk : k = 10 := by omega
    subst hk
    have n10 : (nI 10).toInt = 10 := nI_toInt (by omega)
    refine ⟨μ, ?_, hRR, hf⟩
    rw [u_84_6]
    simp -implicitDefEqProofs only [u_84_0, u_84_1, u_84_2, u_84_3, u_84_4, u_84_5, u_84_7, u_84_8, u_84_9, u_84_10, e_iload_n, e_iload, e_lload_n, e_lload, e_aload_n, e_aload, e_istore_n, e_istore, e_astore_n, e_astore, e_lstore_n, e_lstore, e_iinc, e_iconst, e_bipush, e_sipush, e_ldc_w, e_ldc, e_ldcS, e_lconst, e_ldc2_w, e_iadd, e_isub, e_imul, e_iand, e_ixor, e_ishl, e_ishr, e_iushr, e_idiv, e_irem, e_ineg, e_i2b, e_i2s, e_i2c, e_ladd, e_lsub, e_lmul, e_land, e_lor, e_ldiv, e_lrem, e_lneg, e_lshl, e_lshr, e_lushr, e_i2l, e_l2i, e_lcmp, e_dupI, e_dupA, e_dup2, e_getI, e_getA, e_putI, e_putZ, e_getstatic, e_iaload, e_iastore, e_aaload10, e_alen10, e_aaload11, e_alen11, e_aaload12, e_alen12, e_aaload13, e_alen13, e_alen, e_invokevirtual, e_invokevirtualB, e_invokestatic, e_invokestaticB, ct_0, ct_i, ct_a, ct_l, os_0, os_s, rc_0, rc_s, sl_0, sl_i, sl_a, sl_l, simprocAttr, ix, z_em, up_eq, up_j, Nat.le_refl, true_or, or_true, true_and, and_true, and_self, or_self, beq_self_eq_true, if_true, if_false, ite_self, ca_f, ca_t, aLen, Int32.lt_iff_toInt_lt, Int32.le_iff_toInt_le, z_ite, z_iten, z_ite1, ite_not, not_true_eq_false, not_false_eq_true, false_and, and_false, false_or, or_false, b_max, b_min, b_minL, b_absL, b_ixD, b_ixH, b_copy, tk_0, tk_s, dr_0, dr_s, pu_s, pu_n, ca_0, ca_1, clr_0, clr_s, e_nop, e_goto, e_if_eq, e_if_ne, e_if_lt, e_if_ge, e_if_gt, e_if_le, e_ic_eq, e_ic_ne, e_ic_lt, e_ic_ge, e_ic_gt, e_ic_le, e_tsw, e_lsw, sw_0, sw_s, e_iret, e_zret, e_lret, e_aret, e_ret, en_0, en_n, en_i, en_a, en_l, List.getElem?_cons_zero, List.getElem?_cons_succ, List.set_cons_zero, List.set_cons_succ, len_s, List.length_nil, ne_eq, x_within, x_in, eT1, eT2, eT3, eT4, eT5, eT6, eM1, eM2, eM3, eM4, eM5, eM6, Nat.one_mul, Nat.mul_one, Nat.zero_add, n10]
  | succ n ih =>
    intro k μ x hk hRR hf
    have v1 : vC 1 μ = vC 1 μ0 := vC_congr fun o p1 p2 => hf o (by omega)
    have nk : (nI k).toInt = k := nI_toInt (by omega)
    have h1 : ¬ 9 < ((k : Nat) : Int) := by omega
    have nr : (nI r).toInt = r := nI_toInt (by omega)
    have cr : (nI r).toNatClampNeg = r := ix_nI (by omega)
    have b8 : (r : Int) < 8 := by omega
    have b0 : (0 : Int) ≤ (r : Int) := by omega
    have ns : (nI s).toInt = s := nI_toInt (by omega)
    have cs : (nI s).toNatClampNeg = s := ix_nI (by omega)
    have bs4 : (s : Int) < 4 := by omega
    have bs0 : (0 : Int) ≤ (s : Int) := by omega
    obtain ⟨μ1, a1, a2, a3, a4, a5, a6, a7, a8, a9, a10, a11, -⟩ := x_trial (d := d) hRR
    have n19 : ¬ 19 + r = 51 + r := by omega
    have c2 : μ1 (19 + r) 2 = nI w := by
      have q : μ1 (19 + r) 2 = vC 1 μ1 (10 + r) 2 := cr2 (b := 1) hr
      rw [q, a5, v1, hrw]
    have hO : 33 ≤ 51 + r ∧ 51 + r < 33 + 26 := by omega
    have vv : vC 33 (up μ1 (51 + r) 1 (nI k)) = up (vC 33 μ1) (10 + r) 1 (nI k) := ur1 (b := 33) hr
    have f1 : FrC 33 μ1 (up μ1 (51 + r) 1 (nI k)) := FrC.rf.up hO
    have rr1 := (a7.r1 (w := w) a10 (by rw [a11 0 (by decide), v1]; exact hwc)).b (o := 10 + r) (k := 1) (v := nI k) (v' := nI k) (by unfold pl2; omega) (Or.inr rfl)
    have w7 := wf_m (m := k) a10 hr (by omega)
    obtain ⟨μ2, b1, b2, b3⟩ := x_offBy (d := d) (b := 33) (o := 104 + 2 * s) (N := S) (w := w) (μ := up μ1 (51 + r) 1 (nI k)) (nu := fun i => μ0 (105 + 2 * s) i) hw (by omega) hS (f1.lw a9) (by rw [vv]; exact w7) (by rw [vv, up_o (by omega), a11 2 (by decide), v1]; omega) (by rw [up_o (by omega), a6 _ (by omega), hf _ (by omega)]; exact hS2) (fun i hi => by rw [up_o (by omega), show 104 + 2 * s + 1 = 105 + 2 * s by omega, a6 _ (by omega), hf _ (by omega)])
    have e := offP_cg (nu := fun i => μ0 (105 + 2 * s) i) (nu' := fun i => μ0 (105 + 2 * s) i) (de := fun i => timesP (minP (mn 99999) (txM μ) (-1)) i (up (vM 113 μ) (10 + r) 1 (nI k)) (1 + w) 0) (de' := fun i => timesP (minP (mn 99999) (txC 33 (up μ1 (51 + r) 1 (nI k))) (nI w)) i (vC 33 (up μ1 (51 + r) 1 (nI k))) (1 + w) 0) S (fun _ _ => rfl) (fun i hi => by
      have := tm_eq (n := i) rr1 w7 (wf_m hRR.1.1.2 hr (show k < 10 by omega)) hw (by rw [up_o (by omega), a11 2 (by decide), v1]; omega) a8 0 (by decide)
      rw [f1.tx, vv]
      exact this)
    rw [← e] at b1
    have ee : offP (fun i => μ0 (105 + 2 * s) i) (fun i => timesP (minP (mn 99999) (txM μ) (-1)) i (up (vM 113 μ) (10 + r) 1 (nI k)) (1 + w) 0) S = ev k := by
      rw [← hev]
      exact evF_cg (hf 113 (by omega)) w r S _ k
    rw [ee] at b1
    have b1' : cl d 53 [Sum.inr (Sum.inr (6, 33)), Sum.inr (Sum.inr (3, 104 + 2 * s)), vI (nI w)] (up μ1 (51 + r) 1 (nI k)) = _ := b1
    have hsn : cl d 99 [vI (ev k), vI (ftF ev k).2] μ2 = _ := x_isSooner
    have g2 : ∀ o, (o < 33 ∨ 65 ≤ o) → μ2 o = μ0 o := fun o p => by rw [b2 o (by omega) (by omega) (by omega), f1 o (by omega) (by omega) (by omega), a6 o p, hf o p]
    have r2 := a2.ct (f1.tr b2) b3
    by_cases q2 : 0 ≤ (ev k).toInt ∧ ((ftF ev k).2.toInt < 0 ∨ (ev k).toInt < (ftF ev k).2.toInt)
    · rw [if_pos q2] at hsn
      have e1 : ftF ev (k + 1) = (nI k, ev k) := if_pos q2
      obtain ⟨μ', c1, c2', c3⟩ := ih (k + 1) μ2 (some (vI (ev k))) (by omega) r2 g2
      refine ⟨μ', ?_, c2', c3⟩
      rw [e1] at c1
      rw [← c1, u_84_6]
      simp -implicitDefEqProofs only [u_84_0, u_84_1, u_84_2, u_84_3, u_84_4, u_84_5, u_84_7, u_84_8, u_84_9, u_84_10, e_iload_n, e_iload, e_lload_n, e_lload, e_aload_n, e_aload, e_istore_n, e_istore, e_astore_n, e_astore, e_lstore_n, e_lstore, e_iinc, e_iconst, e_bipush, e_sipush, e_ldc_w, e_ldc, e_ldcS, e_lconst, e_ldc2_w, e_iadd, e_isub, e_imul, e_iand, e_ixor, e_ishl, e_ishr, e_iushr, e_idiv, e_irem, e_ineg, e_i2b, e_i2s, e_i2c, e_ladd, e_lsub, e_lmul, e_land, e_lor, e_ldiv, e_lrem, e_lneg, e_lshl, e_lshr, e_lushr, e_i2l, e_l2i, e_lcmp, e_dupI, e_dupA, e_dup2, e_getI, e_getA, e_putI, e_putZ, e_getstatic, e_iaload, e_iastore, e_aaload10, e_alen10, e_aaload11, e_alen11, e_aaload12, e_alen12, e_aaload13, e_alen13, e_alen, e_invokevirtual, e_invokevirtualB, e_invokestatic, e_invokestaticB, ct_0, ct_i, ct_a, ct_l, os_0, os_s, rc_0, rc_s, sl_0, sl_i, sl_a, sl_l, simprocAttr, ix, z_em, up_eq, up_j, Nat.le_refl, true_or, or_true, true_and, and_true, and_self, or_self, beq_self_eq_true, if_true, if_false, ite_self, ca_f, ca_t, aLen, Int32.lt_iff_toInt_lt, Int32.le_iff_toInt_le, z_ite, z_iten, z_ite1, ite_not, not_true_eq_false, not_false_eq_true, false_and, and_false, false_or, or_false, b_max, b_min, b_minL, b_absL, b_ixD, b_ixH, b_copy, tk_0, tk_s, dr_0, dr_s, pu_s, pu_n, ca_0, ca_1, clr_0, clr_s, e_nop, e_goto, e_if_eq, e_if_ne, e_if_lt, e_if_ge, e_if_gt, e_if_le, e_ic_eq, e_ic_ne, e_ic_lt, e_ic_ge, e_ic_gt, e_ic_le, e_tsw, e_lsw, sw_0, sw_s, e_iret, e_zret, e_lret, e_aret, e_ret, en_0, en_n, en_i, en_a, en_l, List.getElem?_cons_zero, List.getElem?_cons_succ, List.set_cons_zero, List.set_cons_succ, len_s, List.length_nil, ne_eq, x_within, x_in, eT1, eT2, eT3, eT4, eT5, eT6, eM1, eM2, eM3, eM4, eM5, eM6, Nat.one_mul, Nat.mul_one, Nat.zero_add, nk, h1, nr, cr, b8, b0, ns, cs, bs4, bs0, a1, up_o n19, c2, b1', hsn, ← nI_succ]
    · rw [if_neg q2] at hsn
      have e1 : ftF ev (k + 1) = ftF ev k := if_neg q2
      obtain ⟨μ', c1, c2', c3⟩ := ih (k + 1) μ2 (some (vI (ev k))) (by omega) r2 g2
      refine ⟨μ', ?_, c2', c3⟩
      rw [e1] at c1
      rw [← c1, u_84_6]
      simp -implicitDefEqProofs only [u_84_0, u_84_1, u_84_2, u_84_3, u_84_4, u_84_5, u_84_7, u_84_8, u_84_9, u_84_10, e_iload_n, e_iload, e_lload_n, e_lload, e_aload_n, e_aload, e_istore_n, e_istore, e_astore_n, e_astore, e_lstore_n, e_lstore, e_iinc, e_iconst, e_bipush, e_sipush, e_ldc_w, e_ldc, e_ldcS, e_lconst, e_ldc2_w, e_iadd, e_isub, e_imul, e_iand, e_ixor, e_ishl, e_ishr, e_iushr, e_idiv, e_irem, e_ineg, e_i2b, e_i2s, e_i2c, e_ladd, e_lsub, e_lmul, e_land, e_lor, e_ldiv, e_lrem, e_lneg, e_lshl, e_lshr, e_lushr, e_i2l, e_l2i, e_lcmp, e_dupI, e_dupA, e_dup2, e_getI, e_getA, e_putI, e_putZ, e_getstatic, e_iaload, e_iastore, e_aaload10, e_alen10, e_aaload11, e_alen11, e_aaload12, e_alen12, e_aaload13, e_alen13, e_alen, e_invokevirtual, e_invokevirtualB, e_invokestatic, e_invokestaticB, ct_0, ct_i, ct_a, ct_l, os_0, os_s, rc_0, rc_s, sl_0, sl_i, sl_a, sl_l, simprocAttr, ix, z_em, up_eq, up_j, Nat.le_refl, true_or, or_true, true_and, and_true, and_self, or_self, beq_self_eq_true, if_true, if_false, ite_self, ca_f, ca_t, aLen, Int32.lt_iff_toInt_lt, Int32.le_iff_toInt_le, z_ite, z_iten, z_ite1, ite_not, not_true_eq_false, not_false_eq_true, false_and, and_false, false_or, or_false, b_max, b_min, b_minL, b_absL, b_ixD, b_ixH, b_copy, tk_0, tk_s, dr_0, dr_s, pu_s, pu_n, ca_0, ca_1, clr_0, clr_s, e_nop, e_goto, e_if_eq, e_if_ne, e_if_lt, e_if_ge, e_if_gt, e_if_le, e_ic_eq, e_ic_ne, e_ic_lt, e_ic_ge, e_ic_gt, e_ic_le, e_tsw, e_lsw, sw_0, sw_s, e_iret, e_zret, e_lret, e_aret, e_ret, en_0, en_n, en_i, en_a, en_l, List.getElem?_cons_zero, List.getElem?_cons_succ, List.set_cons_zero, List.set_cons_succ, len_s, List.length_nil, ne_eq, x_within, x_in, eT1, eT2, eT3, eT4, eT5, eT6, eM1, eM2, eM3, eM4, eM5, eM6, Nat.one_mul, Nat.mul_one, Nat.zero_add, nk, h1, nr, cr, b8, b0, ns, cs, bs4, bs0, a1, up_o n19, c2, b1', hsn, ← nI_succ]
theorem up1_113 {μ μ0 : Mem} {A : Nat} {a t : Int32} (h : μ 113 = up μ0 113 A a 113) : up μ 113 A t 113 = up μ0 113 A t 113 := by
  funext c
  have hc := congrFun h c
  unfold up at hc ⊢
  simp only [true_and] at hc ⊢
  by_cases q : c = A
  · rw [if_pos q, if_pos q]
  · rw [if_neg q] at hc
    rw [if_neg q, if_neg q]
    exact hc
theorem k_fits {d s w r S : Nat} {x3 : Int32} {μ0 : Mem} {nu : Nat → Int32} (hs : s < 4) (hw : w < 4) (hr : r < 8) (hrw : vM 113 μ0 (10 + r) 2 = nI w) (hS : S ≤ 24) (hS2 : μ0 124 s = nI S) (hnu : ∀ i, i < S → μ0 125 (24 * s + i) = nu i) (hL : LWM μ0) (hW : WFV (vM 113 μ0)) (hD : WFD (vM 113 μ0)) (hm9 : (vM 113 μ0 0 2).toInt ≤ 9999) : ∀ n k μ (x : Option AV) (le a : Int32), k + n = 10 → (∀ o, o ≠ 113 → o ≠ 115 → o ≠ 118 → o ≠ 119 → μ o = μ0 o) → μ 113 = up μ0 113 (106 + 8 * r + 1) a 113 → (k = 0 ∨ le = (ftF (evF μ0 w r S nu) k).2) → ∃ μ', res d 189 6 [some (vR 8 112), some (vI (nI s)), some (vI (nI r)), some (vI x3), some (vI (nI (106 + 8 * r + 1))), some (vI (vM 113 μ0 (10 + r) 1)), some (vI (ftF (evF μ0 w r S nu) k).1), some (vI le), some (vI (nI k)), x] [] μ = some (some (vI (ftF (evF μ0 w r S nu) 10).1), μ') ∧ FrA μ0 μ' := by
  have hpos : ∀ i, 0 ≤ (evF μ0 w r S nu i).toInt := fun i => (offP_rg S hS).1
  generalize hev : evF μ0 w r S nu = ev at hpos
  have iA : (nI (106 + 8 * r + 1)).toInt = (106 + 8 * r + 1 : Nat) := nI_toInt (by omega)
  have cA : (nI (106 + 8 * r + 1)).toNatClampNeg = 106 + 8 * r + 1 := ix_nI (by omega)
  have bA : (0 : Int) ≤ ((106 + 8 * r + 1 : Nat) : Int) ∧ ((106 + 8 * r + 1 : Nat) : Int) < 504 := by omega
  intro n
  induction n with
  | zero =>
    intro k μ x le a hk hF h13 hle
    have hk : k = 10 := by omega
    subst hk
    have n10 : (nI 10).toInt = 10 := nI_toInt (by omega)
    refine ⟨up μ 113 (106 + 8 * r + 1) (vM 113 μ0 (10 + r) 1), ?_, fun o p1 p2 p3 => ?_⟩
    · rw [u_189_6]
      simp -implicitDefEqProofs only [u_189_0, u_189_1, u_189_2, u_189_3, u_189_4, u_189_5, u_189_7, u_189_8, u_189_9, u_189_10, u_189_11, u_189_12, u_189_13, u_189_14, u_189_15, e_iload_n, e_iload, e_lload_n, e_lload, e_aload_n, e_aload, e_istore_n, e_istore, e_astore_n, e_astore, e_lstore_n, e_lstore, e_iinc, e_iconst, e_bipush, e_sipush, e_ldc_w, e_ldc, e_ldcS, e_lconst, e_ldc2_w, e_iadd, e_isub, e_imul, e_iand, e_ixor, e_ishl, e_ishr, e_iushr, e_idiv, e_irem, e_ineg, e_i2b, e_i2s, e_i2c, e_ladd, e_lsub, e_lmul, e_land, e_lor, e_ldiv, e_lrem, e_lneg, e_lshl, e_lshr, e_lushr, e_i2l, e_l2i, e_lcmp, e_dupI, e_dupA, e_dup2, e_getI, e_getA, e_putI, e_putZ, e_getstatic, e_iaload, e_iastore, e_aaload10, e_alen10, e_aaload11, e_alen11, e_aaload12, e_alen12, e_aaload13, e_alen13, e_alen, e_invokevirtual, e_invokevirtualB, e_invokestatic, e_invokestaticB, ct_0, ct_i, ct_a, ct_l, os_0, os_s, rc_0, rc_s, sl_0, sl_i, sl_a, sl_l, simprocAttr, ix, z_em, up_eq, up_j, Nat.le_refl, true_or, or_true, true_and, and_true, and_self, or_self, beq_self_eq_true, if_true, if_false, ite_self, ca_f, ca_t, aLen, Int32.lt_iff_toInt_lt, Int32.le_iff_toInt_le, z_ite, z_iten, z_ite1, ite_not, not_true_eq_false, not_false_eq_true, false_and, and_false, false_or, or_false, b_max, b_min, b_minL, b_absL, b_ixD, b_ixH, b_copy, tk_0, tk_s, dr_0, dr_s, pu_s, pu_n, ca_0, ca_1, clr_0, clr_s, e_nop, e_goto, e_if_eq, e_if_ne, e_if_lt, e_if_ge, e_if_gt, e_if_le, e_ic_eq, e_ic_ne, e_ic_lt, e_ic_ge, e_ic_gt, e_ic_le, e_tsw, e_lsw, sw_0, sw_s, e_iret, e_zret, e_lret, e_aret, e_ret, en_0, en_n, en_i, en_a, en_l, List.getElem?_cons_zero, List.getElem?_cons_succ, List.set_cons_zero, List.set_cons_succ, len_s, List.length_nil, ne_eq, x_within, x_in, eT1, eT2, eT3, eT4, eT5, eT6, eM1, eM2, eM3, eM4, eM5, eM6, Nat.one_mul, Nat.mul_one, Nat.zero_add, n10, iA, cA, if_pos bA]
    · by_cases q : o = 113
      · subst q
        rw [up1_113 h13]
        funext c
        unfold up
        simp only [true_and]
        by_cases q3 : c = 106 + 8 * r + 1
        · rw [if_pos q3, q3]
          exact (mr hr (by decide)).symm
        · rw [if_neg q3]
      · rw [up_ne q, hF o q p1 p2 p3]
  | succ n ih =>
    intro k μ x le a hk hF h13 hle
    have nk : (nI k).toInt = k := nI_toInt (by omega)
    have h1 : ((k : Nat) : Int) < 10 := by omega
    have hM : ∃ μc, μc = up μ 113 (106 + 8 * r + 1) (nI k) := ⟨_, rfl⟩
    obtain ⟨μc, ec⟩ := hM
    have hB : ∃ μb, μb = up μ0 113 (106 + 8 * r + 1) (nI k) := ⟨_, rfl⟩
    obtain ⟨μb, eb⟩ := hB
    have e13 : μc 113 = μb 113 := by rw [ec, eb]; exact up1_113 h13
    have fb : FrM μ0 μb := by rw [eb]; exact FrM.rf.up (by omega)
    have vb : vM 113 μb = up (vM 113 μ0) (10 + r) 1 (nI k) := by rw [eb, umr hr (by decide)]
    have vc : vM 113 μc = up (vM 113 μ0) (10 + r) 1 (nI k) := (vM_congr e13).trans vb
    have wd : WFD (up (vM 113 μ0) (10 + r) 1 (nI k)) := wd_up hD (by omega)
    obtain ⟨μ1, x1, x2⟩ := y_offBy (d := d) (s := s) (N := S) (w := w) (μ := μc) (nu := nu) hw hs hS (by rw [vc]; exact wf_m hW hr (by omega)) (by rw [vc]; exact wd) (by rw [vc, up_o (by omega)]; omega) (LWM_congr e13 (fb.lw hL)) (by rw [ec, up_o (by omega), hF 124 (by omega) (by omega) (by omega) (by omega)]; exact hS2) (fun i hi => by rw [ec, up_o (by omega), hF 125 (by omega) (by omega) (by omega) (by omega)]; exact hnu i hi)
    have eev : offP nu (fun i => timesP (minP (mn 99999) (txM μc) (-1)) i (vM 113 μc) (1 + w) 0) S = ev k := by
      rw [← hev, vc, txM_congr e13, fb.tx]
      rfl
    rw [eev] at x1
    have x1' : cl d 187 [Sum.inr (Sum.inr (8, 112)), vI (nI s), vI (nI w)] μc = _ := x1
    have yo : cl d 113 [Sum.inr (Sum.inr (8, 112)), vI (nI r), vI 2] μc = some (some (vI (nI w)), μc) := by
      have hh := yo2 (d := d) (μ := μc) hr
      rw [vc, up_j (by decide), hrw] at hh
      exact hh
    have hF1 : ∀ o, o ≠ 113 → o ≠ 115 → o ≠ 118 → o ≠ 119 → μ1 o = μ0 o := fun o p0 p1 p2 p3 => by rw [x2 o p1 p2 p3, ec, up_ne p0, hF o p0 p1 p2 p3]
    have h131 : μ1 113 = up μ0 113 (106 + 8 * r + 1) (nI k) 113 := by rw [x2 113 (by omega) (by omega) (by omega), e13, eb]
    by_cases k0 : k = 0
    · subst k0
      have e1 : ftF ev (0 + 1) = (nI 0, ev 0) := if_pos ⟨hpos 0, Or.inl (by show (-1 : Int32).toInt < 0; decide)⟩
      obtain ⟨μ', b1, b2⟩ := ih (0 + 1) μ1 (some (vI (ev 0))) (ev 0) _ (by omega) hF1 h131 (Or.inr (by rw [e1]))
      refine ⟨μ', ?_, b2⟩
      rw [e1] at b1
      have z0 : (nI 0 : Int32) = 0 := rfl
      have z1 : (nI (0 + 1) : Int32) = 1 := rfl
      rw [z0] at ec
      rw [z0, z1] at b1
      rw [← b1, u_189_6, z0]
      simp -implicitDefEqProofs only [u_189_0, u_189_1, u_189_2, u_189_3, u_189_4, u_189_5, u_189_7, u_189_8, u_189_9, u_189_10, u_189_11, u_189_12, u_189_13, u_189_14, u_189_15, e_iload_n, e_iload, e_lload_n, e_lload, e_aload_n, e_aload, e_istore_n, e_istore, e_astore_n, e_astore, e_lstore_n, e_lstore, e_iinc, e_iconst, e_bipush, e_sipush, e_ldc_w, e_ldc, e_ldcS, e_lconst, e_ldc2_w, e_iadd, e_isub, e_imul, e_iand, e_ixor, e_ishl, e_ishr, e_iushr, e_idiv, e_irem, e_ineg, e_i2b, e_i2s, e_i2c, e_ladd, e_lsub, e_lmul, e_land, e_lor, e_ldiv, e_lrem, e_lneg, e_lshl, e_lshr, e_lushr, e_i2l, e_l2i, e_lcmp, e_dupI, e_dupA, e_dup2, e_getI, e_getA, e_putI, e_putZ, e_getstatic, e_iaload, e_iastore, e_aaload10, e_alen10, e_aaload11, e_alen11, e_aaload12, e_alen12, e_aaload13, e_alen13, e_alen, e_invokevirtual, e_invokevirtualB, e_invokestatic, e_invokestaticB, ct_0, ct_i, ct_a, ct_l, os_0, os_s, rc_0, rc_s, sl_0, sl_i, sl_a, sl_l, simprocAttr, ix, z_em, up_eq, up_j, Nat.le_refl, true_or, or_true, true_and, and_true, and_self, or_self, beq_self_eq_true, if_true, if_false, ite_self, ca_f, ca_t, aLen, Int32.lt_iff_toInt_lt, Int32.le_iff_toInt_le, z_ite, z_iten, z_ite1, ite_not, not_true_eq_false, not_false_eq_true, false_and, and_false, false_or, or_false, b_max, b_min, b_minL, b_absL, b_ixD, b_ixH, b_copy, tk_0, tk_s, dr_0, dr_s, pu_s, pu_n, ca_0, ca_1, clr_0, clr_s, e_nop, e_goto, e_if_eq, e_if_ne, e_if_lt, e_if_ge, e_if_gt, e_if_le, e_ic_eq, e_ic_ne, e_ic_lt, e_ic_ge, e_ic_gt, e_ic_le, e_tsw, e_lsw, sw_0, sw_s, e_iret, e_zret, e_lret, e_aret, e_ret, en_0, en_n, en_i, en_a, en_l, List.getElem?_cons_zero, List.getElem?_cons_succ, List.set_cons_zero, List.set_cons_succ, len_s, List.length_nil, ne_eq, x_within, x_in, eT1, eT2, eT3, eT4, eT5, eT6, eM1, eM2, eM3, eM4, eM5, eM6, Nat.one_mul, Nat.mul_one, Nat.zero_add, iA, cA, if_pos bA, ← ec, yo, x1']
    · obtain ⟨i1, i2⟩ := ftF_rg hpos (k - 1) (by omega)
      rw [show k - 1 + 1 = k by omega] at i1 i2
      have hle' := hle.resolve_left k0
      have nk0 : ¬ nI k = 0 := fun z => by
        have := congrArg Int32.toInt z
        rw [nk] at this
        have t0 : (0 : Int32).toInt = 0 := rfl
        omega
      have nfk : ¬ (ftF ev k).1 = nI k := fun z => by rw [z, nk] at i2; omega
      by_cases q3 : (ev k).toInt < le.toInt
      · have e1 : ftF ev (k + 1) = (nI k, ev k) := if_pos ⟨hpos k, Or.inr (by rw [← hle']; exact q3)⟩
        obtain ⟨μ', b1, b2⟩ := ih (k + 1) μ1 (some (vI (ev k))) (ev k) _ (by omega) hF1 h131 (Or.inr (by rw [e1]))
        refine ⟨μ', ?_, b2⟩
        rw [e1] at b1
        rw [← b1, u_189_6]
        simp -implicitDefEqProofs only [u_189_0, u_189_1, u_189_2, u_189_3, u_189_4, u_189_5, u_189_7, u_189_8, u_189_9, u_189_10, u_189_11, u_189_12, u_189_13, u_189_14, u_189_15, e_iload_n, e_iload, e_lload_n, e_lload, e_aload_n, e_aload, e_istore_n, e_istore, e_astore_n, e_astore, e_lstore_n, e_lstore, e_iinc, e_iconst, e_bipush, e_sipush, e_ldc_w, e_ldc, e_ldcS, e_lconst, e_ldc2_w, e_iadd, e_isub, e_imul, e_iand, e_ixor, e_ishl, e_ishr, e_iushr, e_idiv, e_irem, e_ineg, e_i2b, e_i2s, e_i2c, e_ladd, e_lsub, e_lmul, e_land, e_lor, e_ldiv, e_lrem, e_lneg, e_lshl, e_lshr, e_lushr, e_i2l, e_l2i, e_lcmp, e_dupI, e_dupA, e_dup2, e_getI, e_getA, e_putI, e_putZ, e_getstatic, e_iaload, e_iastore, e_aaload10, e_alen10, e_aaload11, e_alen11, e_aaload12, e_alen12, e_aaload13, e_alen13, e_alen, e_invokevirtual, e_invokevirtualB, e_invokestatic, e_invokestaticB, ct_0, ct_i, ct_a, ct_l, os_0, os_s, rc_0, rc_s, sl_0, sl_i, sl_a, sl_l, simprocAttr, ix, z_em, up_eq, up_j, Nat.le_refl, true_or, or_true, true_and, and_true, and_self, or_self, beq_self_eq_true, if_true, if_false, ite_self, ca_f, ca_t, aLen, Int32.lt_iff_toInt_lt, Int32.le_iff_toInt_le, z_ite, z_iten, z_ite1, ite_not, not_true_eq_false, not_false_eq_true, false_and, and_false, false_or, or_false, b_max, b_min, b_minL, b_absL, b_ixD, b_ixH, b_copy, tk_0, tk_s, dr_0, dr_s, pu_s, pu_n, ca_0, ca_1, clr_0, clr_s, e_nop, e_goto, e_if_eq, e_if_ne, e_if_lt, e_if_ge, e_if_gt, e_if_le, e_ic_eq, e_ic_ne, e_ic_lt, e_ic_ge, e_ic_gt, e_ic_le, e_tsw, e_lsw, sw_0, sw_s, e_iret, e_zret, e_lret, e_aret, e_ret, en_0, en_n, en_i, en_a, en_l, List.getElem?_cons_zero, List.getElem?_cons_succ, List.set_cons_zero, List.set_cons_succ, len_s, List.length_nil, ne_eq, x_within, x_in, eT1, eT2, eT3, eT4, eT5, eT6, eM1, eM2, eM3, eM4, eM5, eM6, Nat.one_mul, Nat.mul_one, Nat.zero_add, nk, h1, iA, cA, if_pos bA, ← ec, yo, x1', nk0, q3, ← nI_succ]
      · have e1 : ftF ev (k + 1) = ftF ev k := if_neg (fun z => by
          rcases z.2 with y | y
          · omega
          · rw [← hle'] at y
            exact q3 y)
        obtain ⟨μ', b1, b2⟩ := ih (k + 1) μ1 (some (vI (ev k))) le _ (by omega) hF1 h131 (Or.inr (by rw [e1]; exact hle'))
        refine ⟨μ', ?_, b2⟩
        rw [e1] at b1
        rw [← b1, u_189_6]
        simp -implicitDefEqProofs only [u_189_0, u_189_1, u_189_2, u_189_3, u_189_4, u_189_5, u_189_7, u_189_8, u_189_9, u_189_10, u_189_11, u_189_12, u_189_13, u_189_14, u_189_15, e_iload_n, e_iload, e_lload_n, e_lload, e_aload_n, e_aload, e_istore_n, e_istore, e_astore_n, e_astore, e_lstore_n, e_lstore, e_iinc, e_iconst, e_bipush, e_sipush, e_ldc_w, e_ldc, e_ldcS, e_lconst, e_ldc2_w, e_iadd, e_isub, e_imul, e_iand, e_ixor, e_ishl, e_ishr, e_iushr, e_idiv, e_irem, e_ineg, e_i2b, e_i2s, e_i2c, e_ladd, e_lsub, e_lmul, e_land, e_lor, e_ldiv, e_lrem, e_lneg, e_lshl, e_lshr, e_lushr, e_i2l, e_l2i, e_lcmp, e_dupI, e_dupA, e_dup2, e_getI, e_getA, e_putI, e_putZ, e_getstatic, e_iaload, e_iastore, e_aaload10, e_alen10, e_aaload11, e_alen11, e_aaload12, e_alen12, e_aaload13, e_alen13, e_alen, e_invokevirtual, e_invokevirtualB, e_invokestatic, e_invokestaticB, ct_0, ct_i, ct_a, ct_l, os_0, os_s, rc_0, rc_s, sl_0, sl_i, sl_a, sl_l, simprocAttr, ix, z_em, up_eq, up_j, Nat.le_refl, true_or, or_true, true_and, and_true, and_self, or_self, beq_self_eq_true, if_true, if_false, ite_self, ca_f, ca_t, aLen, Int32.lt_iff_toInt_lt, Int32.le_iff_toInt_le, z_ite, z_iten, z_ite1, ite_not, not_true_eq_false, not_false_eq_true, false_and, and_false, false_or, or_false, b_max, b_min, b_minL, b_absL, b_ixD, b_ixH, b_copy, tk_0, tk_s, dr_0, dr_s, pu_s, pu_n, ca_0, ca_1, clr_0, clr_s, e_nop, e_goto, e_if_eq, e_if_ne, e_if_lt, e_if_ge, e_if_gt, e_if_le, e_ic_eq, e_ic_ne, e_ic_lt, e_ic_ge, e_ic_gt, e_ic_le, e_tsw, e_lsw, sw_0, sw_s, e_iret, e_zret, e_lret, e_aret, e_ret, en_0, en_n, en_i, en_a, en_l, List.getElem?_cons_zero, List.getElem?_cons_succ, List.set_cons_zero, List.set_cons_succ, len_s, List.length_nil, ne_eq, x_within, x_in, eT1, eT2, eT3, eT4, eT5, eT6, eM1, eM2, eM3, eM4, eM5, eM6, Nat.one_mul, Nat.mul_one, Nat.zero_add, nk, h1, iA, cA, if_pos bA, ← ec, yo, x1', nk0, q3, nfk, ← nI_succ]
theorem p_fits {fz : Mem} {d : Nat} {s r : Int32} {μ : Mem} (h : RR fz μ) : PR fz d 84 189 [vI s, vI r] μ := by
  by_cases q1 : 0 ≤ s.toInt ∧ s.toInt ≤ 3
  · by_cases q2 : 0 ≤ r.toInt ∧ r.toInt < (vC 1 μ 0 1).toInt
    · have g := gs1 h.1.1.1
      have gm9 := h.1.2.2.1
      obtain ⟨s', hs, rfl⟩ := nIof (v := s) (n := 4) q1.1 (by omega)
      obtain ⟨r', hr, rfl⟩ := nIof (v := r) (n := 8) q2.1 (by omega)
      have ns : (nI s').toInt = s' := nI_toInt (by omega)
      have cs : (nI s').toNatClampNeg = s' := ix_nI (by omega)
      have nr : (nI r').toInt = r' := nI_toInt (by omega)
      rw [ns] at q1
      rw [nr] at q2
      have b4 : (s' : Int) < 4 := by omega
      obtain ⟨t1, t2, t3, t4, t5⟩ := h.2.2.2.2.2.2.1 s' hs
      by_cases q3 : μ (104 + 2 * s') 1 = 0
      · refine PR.er (k := 2) h (by decide) (by decide) ?_ (fun μ1 f => ?_)
        · simp -implicitDefEqProofs only [cl_84, u_84_0, u_84_1, u_84_2, u_84_3, u_84_4, u_84_5, u_84_7, u_84_8, u_84_9, u_84_10, e_iload_n, e_iload, e_lload_n, e_lload, e_aload_n, e_aload, e_istore_n, e_istore, e_astore_n, e_astore, e_lstore_n, e_lstore, e_iinc, e_iconst, e_bipush, e_sipush, e_ldc_w, e_ldc, e_ldcS, e_lconst, e_ldc2_w, e_iadd, e_isub, e_imul, e_iand, e_ixor, e_ishl, e_ishr, e_iushr, e_idiv, e_irem, e_ineg, e_i2b, e_i2s, e_i2c, e_ladd, e_lsub, e_lmul, e_land, e_lor, e_ldiv, e_lrem, e_lneg, e_lshl, e_lshr, e_lushr, e_i2l, e_l2i, e_lcmp, e_dupI, e_dupA, e_dup2, e_getI, e_getA, e_putI, e_putZ, e_getstatic, e_iaload, e_iastore, e_aaload10, e_alen10, e_aaload11, e_alen11, e_aaload12, e_alen12, e_aaload13, e_alen13, e_alen, e_invokevirtual, e_invokevirtualB, e_invokestatic, e_invokestaticB, ct_0, ct_i, ct_a, ct_l, os_0, os_s, rc_0, rc_s, sl_0, sl_i, sl_a, sl_l, simprocAttr, ix, z_em, up_eq, up_j, Nat.le_refl, true_or, or_true, true_and, and_true, and_self, or_self, beq_self_eq_true, if_true, if_false, ite_self, ca_f, ca_t, aLen, Int32.lt_iff_toInt_lt, Int32.le_iff_toInt_le, z_ite, z_iten, z_ite1, ite_not, not_true_eq_false, not_false_eq_true, false_and, and_false, false_or, or_false, b_max, b_min, b_minL, b_absL, b_ixD, b_ixH, b_copy, tk_0, tk_s, dr_0, dr_s, pu_s, pu_n, ca_0, ca_1, clr_0, clr_s, e_nop, e_goto, e_if_eq, e_if_ne, e_if_lt, e_if_ge, e_if_gt, e_if_le, e_ic_eq, e_ic_ne, e_ic_lt, e_ic_ge, e_ic_gt, e_ic_le, e_tsw, e_lsw, sw_0, sw_s, e_iret, e_zret, e_lret, e_aret, e_ret, en_0, en_n, en_i, en_a, en_l, List.getElem?_cons_zero, List.getElem?_cons_succ, List.set_cons_zero, List.set_cons_succ, len_s, List.length_nil, ne_eq, x_within, x_in, eT1, eT2, eT3, eT4, eT5, eT6, eM1, eM2, eM3, eM4, eM5, eM6, Nat.one_mul, Nat.mul_one, Nat.zero_add, x_hasSheet, xR h, x_isMissing, ns, cs, nr, q1, q2, b4, if_pos q3]
        · have e : μ1 123 s' = 0 := by rw [f 123 (by decide), t1]; exact q3
          simp -implicitDefEqProofs only [cl_189, u_189_0, u_189_1, u_189_2, u_189_3, u_189_4, u_189_5, u_189_7, u_189_8, u_189_9, u_189_10, u_189_11, u_189_12, u_189_13, u_189_14, u_189_15, e_iload_n, e_iload, e_lload_n, e_lload, e_aload_n, e_aload, e_istore_n, e_istore, e_astore_n, e_astore, e_lstore_n, e_lstore, e_iinc, e_iconst, e_bipush, e_sipush, e_ldc_w, e_ldc, e_ldcS, e_lconst, e_ldc2_w, e_iadd, e_isub, e_imul, e_iand, e_ixor, e_ishl, e_ishr, e_iushr, e_idiv, e_irem, e_ineg, e_i2b, e_i2s, e_i2c, e_ladd, e_lsub, e_lmul, e_land, e_lor, e_ldiv, e_lrem, e_lneg, e_lshl, e_lshr, e_lushr, e_i2l, e_l2i, e_lcmp, e_dupI, e_dupA, e_dup2, e_getI, e_getA, e_putI, e_putZ, e_getstatic, e_iaload, e_iastore, e_aaload10, e_alen10, e_aaload11, e_alen11, e_aaload12, e_alen12, e_aaload13, e_alen13, e_alen, e_invokevirtual, e_invokevirtualB, e_invokestatic, e_invokestaticB, ct_0, ct_i, ct_a, ct_l, os_0, os_s, rc_0, rc_s, sl_0, sl_i, sl_a, sl_l, simprocAttr, ix, z_em, up_eq, up_j, Nat.le_refl, true_or, or_true, true_and, and_true, and_self, or_self, beq_self_eq_true, if_true, if_false, ite_self, ca_f, ca_t, aLen, Int32.lt_iff_toInt_lt, Int32.le_iff_toInt_le, z_ite, z_iten, z_ite1, ite_not, not_true_eq_false, not_false_eq_true, false_and, and_false, false_or, or_false, b_max, b_min, b_minL, b_absL, b_ixD, b_ixH, b_copy, tk_0, tk_s, dr_0, dr_s, pu_s, pu_n, ca_0, ca_1, clr_0, clr_s, e_nop, e_goto, e_if_eq, e_if_ne, e_if_lt, e_if_ge, e_if_gt, e_if_le, e_ic_eq, e_ic_ne, e_ic_lt, e_ic_ge, e_ic_gt, e_ic_le, e_tsw, e_lsw, sw_0, sw_s, e_iret, e_zret, e_lret, e_aret, e_ret, en_0, en_n, en_i, en_a, en_l, List.getElem?_cons_zero, List.getElem?_cons_succ, List.set_cons_zero, List.set_cons_succ, len_s, List.length_nil, ne_eq, x_within, x_in, eT1, eT2, eT3, eT4, eT5, eT6, eM1, eM2, eM3, eM4, eM5, eM6, Nat.one_mul, Nat.mul_one, Nat.zero_add, yR h (f 113 (by decide)), nr, q2, y_lacks hs, e]
      · obtain ⟨S, hS, eS⟩ := nIof (v := μ 124 s') (n := 25) t4.1 (by omega)
        have g2 := gr2 h.1.1.1 hr
        have g22 := h.1.1.1.2.2 r' hr q2.2
        obtain ⟨w, hw, ew⟩ := nIof (v := vC 1 μ (10 + r') 2) (n := 4) g2.1 (by omega)
        have nw : (nI w).toInt = w := nI_toInt (by omega)
        have hwc : (w : Int) < (vC 1 μ 0 0).toInt := by rw [ew, nw] at g22; exact g22
        obtain ⟨μ1, a1, a2, a3⟩ := l_fits (d := d) (s := s') (S := S) hs hw hwc hr q2.2 ew (by omega) (by rw [← t2, eS]) gm9 10 0 μ none (by omega) h (fun _ _ => rfl)
        have f13 : μ1 113 = μ 113 := a3 113 (by omega)
        have vm : vM 113 μ1 = vM 113 μ := vM_congr f13
        have mm : vM 113 μ 0 2 = vC 1 μ 0 2 := h.e0 (by decide)
        have he : ∀ k', k' < 8 → vM 113 μ (10 + r') k' = vC 1 μ (10 + r') k' := fun k' hk => h.1.2.2.2.1.2.2.1 r' hr q2.2 k' hk
        have e0 : μ1 113 = up μ1 113 (106 + 8 * r' + 1) (μ1 113 (106 + 8 * r' + 1)) 113 := by
          funext c
          unfold up
          simp only [true_and]
          by_cases q3 : c = 106 + 8 * r' + 1
          · rw [if_pos q3, q3]
          · rw [if_neg q3]
        obtain ⟨μ2, b1, b2⟩ := k_fits (d := d) (s := s') (S := S) (x3 := 0) (μ0 := μ1) (nu := fun i => μ (105 + 2 * s') i) hs hw hr (by rw [vm, he 2 (by decide), ew]) (by omega) (by rw [a3 124 (by omega)]; exact eS) (fun i hi => by rw [a3 125 (by omega)]; exact t5 i (by omega)) (LWM_congr f13 h.1.2.2.2.2.lwm) (by rw [vm]; exact h.1.1.2) (by rw [vm]; exact h.1.2.1.2) (by rw [vm, mm]; exact gm9) 10 0 μ1 none 0 _ (by omega) (fun _ _ _ _ _ => rfl) e0 (Or.inl rfl)
        have ee : evF μ1 w r' S (fun i => μ (105 + 2 * s') i) = evF μ w r' S (fun i => μ (105 + 2 * s') i) := by
          funext m
          exact evF_cg f13 w r' S _ m
        rw [ee] at b1
        have z0 : (vI (nI 0) : AV) = vI 0 := rfl
        have s0 : ∀ ev, ftF ev 0 = (0, -1) := fun _ => rfl
        rw [s0, z0] at a1 b1
        have i1 : 106 + 8 * nI r' + 1 = nI (106 + 8 * r' + 1) := ad_r hr (by decide) rfl
        have iA : (nI (106 + 8 * r' + 1)).toInt = (106 + 8 * r' + 1 : Nat) := nI_toInt (by omega)
        have cA : (nI (106 + 8 * r' + 1)).toNatClampNeg = 106 + 8 * r' + 1 := ix_nI (by omega)
        have bA : (0 : Int) ≤ ((106 + 8 * r' + 1 : Nat) : Int) ∧ ((106 + 8 * r' + 1 : Nat) : Int) < 504 := by omega
        have m1 : μ1 113 (106 + 8 * r' + 1) = vM 113 μ1 (10 + r') 1 := mr hr (by decide)
        have e123 : μ1 123 s' = μ (104 + 2 * s') 1 := by rw [a3 123 (by omega), t1]
        refine ⟨(ftF (evF μ w r' S (fun i => μ (105 + 2 * s') i)) 10).1, μ1, μ2, a2.u2, ?_, ?_, a2.fa b2⟩
        · rw [← a1]
          simp -implicitDefEqProofs only [cl_84, u_84_0, u_84_1, u_84_2, u_84_3, u_84_4, u_84_5, u_84_7, u_84_8, u_84_9, u_84_10, e_iload_n, e_iload, e_lload_n, e_lload, e_aload_n, e_aload, e_istore_n, e_istore, e_astore_n, e_astore, e_lstore_n, e_lstore, e_iinc, e_iconst, e_bipush, e_sipush, e_ldc_w, e_ldc, e_ldcS, e_lconst, e_ldc2_w, e_iadd, e_isub, e_imul, e_iand, e_ixor, e_ishl, e_ishr, e_iushr, e_idiv, e_irem, e_ineg, e_i2b, e_i2s, e_i2c, e_ladd, e_lsub, e_lmul, e_land, e_lor, e_ldiv, e_lrem, e_lneg, e_lshl, e_lshr, e_lushr, e_i2l, e_l2i, e_lcmp, e_dupI, e_dupA, e_dup2, e_getI, e_getA, e_putI, e_putZ, e_getstatic, e_iaload, e_iastore, e_aaload10, e_alen10, e_aaload11, e_alen11, e_aaload12, e_alen12, e_aaload13, e_alen13, e_alen, e_invokevirtual, e_invokevirtualB, e_invokestatic, e_invokestaticB, ct_0, ct_i, ct_a, ct_l, os_0, os_s, rc_0, rc_s, sl_0, sl_i, sl_a, sl_l, simprocAttr, ix, z_em, up_eq, up_j, Nat.le_refl, true_or, or_true, true_and, and_true, and_self, or_self, beq_self_eq_true, if_true, if_false, ite_self, ca_f, ca_t, aLen, Int32.lt_iff_toInt_lt, Int32.le_iff_toInt_le, z_ite, z_iten, z_ite1, ite_not, not_true_eq_false, not_false_eq_true, false_and, and_false, false_or, or_false, b_max, b_min, b_minL, b_absL, b_ixD, b_ixH, b_copy, tk_0, tk_s, dr_0, dr_s, pu_s, pu_n, ca_0, ca_1, clr_0, clr_s, e_nop, e_goto, e_if_eq, e_if_ne, e_if_lt, e_if_ge, e_if_gt, e_if_le, e_ic_eq, e_ic_ne, e_ic_lt, e_ic_ge, e_ic_gt, e_ic_le, e_tsw, e_lsw, sw_0, sw_s, e_iret, e_zret, e_lret, e_aret, e_ret, en_0, en_n, en_i, en_a, en_l, List.getElem?_cons_zero, List.getElem?_cons_succ, List.set_cons_zero, List.set_cons_succ, len_s, List.length_nil, ne_eq, x_within, x_in, eT1, eT2, eT3, eT4, eT5, eT6, eM1, eM2, eM3, eM4, eM5, eM6, Nat.one_mul, Nat.mul_one, Nat.zero_add, x_hasSheet, xR h, x_isMissing, ns, cs, nr, q1, q2, b4, if_neg q3]
        · rw [← b1]
          simp -implicitDefEqProofs only [cl_189, u_189_0, u_189_1, u_189_2, u_189_3, u_189_4, u_189_5, u_189_7, u_189_8, u_189_9, u_189_10, u_189_11, u_189_12, u_189_13, u_189_14, u_189_15, e_iload_n, e_iload, e_lload_n, e_lload, e_aload_n, e_aload, e_istore_n, e_istore, e_astore_n, e_astore, e_lstore_n, e_lstore, e_iinc, e_iconst, e_bipush, e_sipush, e_ldc_w, e_ldc, e_ldcS, e_lconst, e_ldc2_w, e_iadd, e_isub, e_imul, e_iand, e_ixor, e_ishl, e_ishr, e_iushr, e_idiv, e_irem, e_ineg, e_i2b, e_i2s, e_i2c, e_ladd, e_lsub, e_lmul, e_land, e_lor, e_ldiv, e_lrem, e_lneg, e_lshl, e_lshr, e_lushr, e_i2l, e_l2i, e_lcmp, e_dupI, e_dupA, e_dup2, e_getI, e_getA, e_putI, e_putZ, e_getstatic, e_iaload, e_iastore, e_aaload10, e_alen10, e_aaload11, e_alen11, e_aaload12, e_alen12, e_aaload13, e_alen13, e_alen, e_invokevirtual, e_invokevirtualB, e_invokestatic, e_invokestaticB, ct_0, ct_i, ct_a, ct_l, os_0, os_s, rc_0, rc_s, sl_0, sl_i, sl_a, sl_l, simprocAttr, ix, z_em, up_eq, up_j, Nat.le_refl, true_or, or_true, true_and, and_true, and_self, or_self, beq_self_eq_true, if_true, if_false, ite_self, ca_f, ca_t, aLen, Int32.lt_iff_toInt_lt, Int32.le_iff_toInt_le, z_ite, z_iten, z_ite1, ite_not, not_true_eq_false, not_false_eq_true, false_and, and_false, false_or, or_false, b_max, b_min, b_minL, b_absL, b_ixD, b_ixH, b_copy, tk_0, tk_s, dr_0, dr_s, pu_s, pu_n, ca_0, ca_1, clr_0, clr_s, e_nop, e_goto, e_if_eq, e_if_ne, e_if_lt, e_if_ge, e_if_gt, e_if_le, e_ic_eq, e_ic_ne, e_ic_lt, e_ic_ge, e_ic_gt, e_ic_le, e_tsw, e_lsw, sw_0, sw_s, e_iret, e_zret, e_lret, e_aret, e_ret, en_0, en_n, en_i, en_a, en_l, List.getElem?_cons_zero, List.getElem?_cons_succ, List.set_cons_zero, List.set_cons_succ, len_s, List.length_nil, ne_eq, x_within, x_in, eT1, eT2, eT3, eT4, eT5, eT6, eM1, eM2, eM3, eM4, eM5, eM6, Nat.one_mul, Nat.mul_one, Nat.zero_add, yR h f13, nr, q2, y_lacks hs, e123, if_neg q3, i1, iA, cA, if_pos bA, m1]
    · refine PR.er (k := 1) h (by decide) (by decide) ?_ (fun μ1 f => ?_)
      · simp -implicitDefEqProofs only [cl_84, u_84_0, u_84_1, u_84_2, u_84_3, u_84_4, u_84_5, u_84_7, u_84_8, u_84_9, u_84_10, e_iload_n, e_iload, e_lload_n, e_lload, e_aload_n, e_aload, e_istore_n, e_istore, e_astore_n, e_astore, e_lstore_n, e_lstore, e_iinc, e_iconst, e_bipush, e_sipush, e_ldc_w, e_ldc, e_ldcS, e_lconst, e_ldc2_w, e_iadd, e_isub, e_imul, e_iand, e_ixor, e_ishl, e_ishr, e_iushr, e_idiv, e_irem, e_ineg, e_i2b, e_i2s, e_i2c, e_ladd, e_lsub, e_lmul, e_land, e_lor, e_ldiv, e_lrem, e_lneg, e_lshl, e_lshr, e_lushr, e_i2l, e_l2i, e_lcmp, e_dupI, e_dupA, e_dup2, e_getI, e_getA, e_putI, e_putZ, e_getstatic, e_iaload, e_iastore, e_aaload10, e_alen10, e_aaload11, e_alen11, e_aaload12, e_alen12, e_aaload13, e_alen13, e_alen, e_invokevirtual, e_invokevirtualB, e_invokestatic, e_invokestaticB, ct_0, ct_i, ct_a, ct_l, os_0, os_s, rc_0, rc_s, sl_0, sl_i, sl_a, sl_l, simprocAttr, ix, z_em, up_eq, up_j, Nat.le_refl, true_or, or_true, true_and, and_true, and_self, or_self, beq_self_eq_true, if_true, if_false, ite_self, ca_f, ca_t, aLen, Int32.lt_iff_toInt_lt, Int32.le_iff_toInt_le, z_ite, z_iten, z_ite1, ite_not, not_true_eq_false, not_false_eq_true, false_and, and_false, false_or, or_false, b_max, b_min, b_minL, b_absL, b_ixD, b_ixH, b_copy, tk_0, tk_s, dr_0, dr_s, pu_s, pu_n, ca_0, ca_1, clr_0, clr_s, e_nop, e_goto, e_if_eq, e_if_ne, e_if_lt, e_if_ge, e_if_gt, e_if_le, e_ic_eq, e_ic_ne, e_ic_lt, e_ic_ge, e_ic_gt, e_ic_le, e_tsw, e_lsw, sw_0, sw_s, e_iret, e_zret, e_lret, e_aret, e_ret, en_0, en_n, en_i, en_a, en_l, List.getElem?_cons_zero, List.getElem?_cons_succ, List.set_cons_zero, List.set_cons_succ, len_s, List.length_nil, ne_eq, x_within, x_in, eT1, eT2, eT3, eT4, eT5, eT6, eM1, eM2, eM3, eM4, eM5, eM6, Nat.one_mul, Nat.mul_one, Nat.zero_add, x_hasSheet, xR h, q1, q2]
      · simp -implicitDefEqProofs only [cl_189, u_189_0, u_189_1, u_189_2, u_189_3, u_189_4, u_189_5, u_189_7, u_189_8, u_189_9, u_189_10, u_189_11, u_189_12, u_189_13, u_189_14, u_189_15, e_iload_n, e_iload, e_lload_n, e_lload, e_aload_n, e_aload, e_istore_n, e_istore, e_astore_n, e_astore, e_lstore_n, e_lstore, e_iinc, e_iconst, e_bipush, e_sipush, e_ldc_w, e_ldc, e_ldcS, e_lconst, e_ldc2_w, e_iadd, e_isub, e_imul, e_iand, e_ixor, e_ishl, e_ishr, e_iushr, e_idiv, e_irem, e_ineg, e_i2b, e_i2s, e_i2c, e_ladd, e_lsub, e_lmul, e_land, e_lor, e_ldiv, e_lrem, e_lneg, e_lshl, e_lshr, e_lushr, e_i2l, e_l2i, e_lcmp, e_dupI, e_dupA, e_dup2, e_getI, e_getA, e_putI, e_putZ, e_getstatic, e_iaload, e_iastore, e_aaload10, e_alen10, e_aaload11, e_alen11, e_aaload12, e_alen12, e_aaload13, e_alen13, e_alen, e_invokevirtual, e_invokevirtualB, e_invokestatic, e_invokestaticB, ct_0, ct_i, ct_a, ct_l, os_0, os_s, rc_0, rc_s, sl_0, sl_i, sl_a, sl_l, simprocAttr, ix, z_em, up_eq, up_j, Nat.le_refl, true_or, or_true, true_and, and_true, and_self, or_self, beq_self_eq_true, if_true, if_false, ite_self, ca_f, ca_t, aLen, Int32.lt_iff_toInt_lt, Int32.le_iff_toInt_le, z_ite, z_iten, z_ite1, ite_not, not_true_eq_false, not_false_eq_true, false_and, and_false, false_or, or_false, b_max, b_min, b_minL, b_absL, b_ixD, b_ixH, b_copy, tk_0, tk_s, dr_0, dr_s, pu_s, pu_n, ca_0, ca_1, clr_0, clr_s, e_nop, e_goto, e_if_eq, e_if_ne, e_if_lt, e_if_ge, e_if_gt, e_if_le, e_ic_eq, e_ic_ne, e_ic_lt, e_ic_ge, e_ic_gt, e_ic_le, e_tsw, e_lsw, sw_0, sw_s, e_iret, e_zret, e_lret, e_aret, e_ret, en_0, en_n, en_i, en_a, en_l, List.getElem?_cons_zero, List.getElem?_cons_succ, List.set_cons_zero, List.set_cons_succ, len_s, List.length_nil, ne_eq, x_within, x_in, eT1, eT2, eT3, eT4, eT5, eT6, eM1, eM2, eM3, eM4, eM5, eM6, Nat.one_mul, Nat.mul_one, Nat.zero_add, yR h (f 113 (by decide)), q2]
  · refine PR.er (k := 1) h (by decide) (by decide) ?_ (fun μ1 f => ?_)
    · simp -implicitDefEqProofs only [cl_84, u_84_0, u_84_1, u_84_2, u_84_3, u_84_4, u_84_5, u_84_7, u_84_8, u_84_9, u_84_10, e_iload_n, e_iload, e_lload_n, e_lload, e_aload_n, e_aload, e_istore_n, e_istore, e_astore_n, e_astore, e_lstore_n, e_lstore, e_iinc, e_iconst, e_bipush, e_sipush, e_ldc_w, e_ldc, e_ldcS, e_lconst, e_ldc2_w, e_iadd, e_isub, e_imul, e_iand, e_ixor, e_ishl, e_ishr, e_iushr, e_idiv, e_irem, e_ineg, e_i2b, e_i2s, e_i2c, e_ladd, e_lsub, e_lmul, e_land, e_lor, e_ldiv, e_lrem, e_lneg, e_lshl, e_lshr, e_lushr, e_i2l, e_l2i, e_lcmp, e_dupI, e_dupA, e_dup2, e_getI, e_getA, e_putI, e_putZ, e_getstatic, e_iaload, e_iastore, e_aaload10, e_alen10, e_aaload11, e_alen11, e_aaload12, e_alen12, e_aaload13, e_alen13, e_alen, e_invokevirtual, e_invokevirtualB, e_invokestatic, e_invokestaticB, ct_0, ct_i, ct_a, ct_l, os_0, os_s, rc_0, rc_s, sl_0, sl_i, sl_a, sl_l, simprocAttr, ix, z_em, up_eq, up_j, Nat.le_refl, true_or, or_true, true_and, and_true, and_self, or_self, beq_self_eq_true, if_true, if_false, ite_self, ca_f, ca_t, aLen, Int32.lt_iff_toInt_lt, Int32.le_iff_toInt_le, z_ite, z_iten, z_ite1, ite_not, not_true_eq_false, not_false_eq_true, false_and, and_false, false_or, or_false, b_max, b_min, b_minL, b_absL, b_ixD, b_ixH, b_copy, tk_0, tk_s, dr_0, dr_s, pu_s, pu_n, ca_0, ca_1, clr_0, clr_s, e_nop, e_goto, e_if_eq, e_if_ne, e_if_lt, e_if_ge, e_if_gt, e_if_le, e_ic_eq, e_ic_ne, e_ic_lt, e_ic_ge, e_ic_gt, e_ic_le, e_tsw, e_lsw, sw_0, sw_s, e_iret, e_zret, e_lret, e_aret, e_ret, en_0, en_n, en_i, en_a, en_l, List.getElem?_cons_zero, List.getElem?_cons_succ, List.set_cons_zero, List.set_cons_succ, len_s, List.length_nil, ne_eq, x_within, x_in, eT1, eT2, eT3, eT4, eT5, eT6, eM1, eM2, eM3, eM4, eM5, eM6, Nat.one_mul, Nat.mul_one, Nat.zero_add, x_hasSheet, q1]
    · by_cases q2 : 0 ≤ r.toInt ∧ r.toInt < (vC 1 μ 0 1).toInt
      · simp -implicitDefEqProofs only [cl_189, u_189_0, u_189_1, u_189_2, u_189_3, u_189_4, u_189_5, u_189_7, u_189_8, u_189_9, u_189_10, u_189_11, u_189_12, u_189_13, u_189_14, u_189_15, e_iload_n, e_iload, e_lload_n, e_lload, e_aload_n, e_aload, e_istore_n, e_istore, e_astore_n, e_astore, e_lstore_n, e_lstore, e_iinc, e_iconst, e_bipush, e_sipush, e_ldc_w, e_ldc, e_ldcS, e_lconst, e_ldc2_w, e_iadd, e_isub, e_imul, e_iand, e_ixor, e_ishl, e_ishr, e_iushr, e_idiv, e_irem, e_ineg, e_i2b, e_i2s, e_i2c, e_ladd, e_lsub, e_lmul, e_land, e_lor, e_ldiv, e_lrem, e_lneg, e_lshl, e_lshr, e_lushr, e_i2l, e_l2i, e_lcmp, e_dupI, e_dupA, e_dup2, e_getI, e_getA, e_putI, e_putZ, e_getstatic, e_iaload, e_iastore, e_aaload10, e_alen10, e_aaload11, e_alen11, e_aaload12, e_alen12, e_aaload13, e_alen13, e_alen, e_invokevirtual, e_invokevirtualB, e_invokestatic, e_invokestaticB, ct_0, ct_i, ct_a, ct_l, os_0, os_s, rc_0, rc_s, sl_0, sl_i, sl_a, sl_l, simprocAttr, ix, z_em, up_eq, up_j, Nat.le_refl, true_or, or_true, true_and, and_true, and_self, or_self, beq_self_eq_true, if_true, if_false, ite_self, ca_f, ca_t, aLen, Int32.lt_iff_toInt_lt, Int32.le_iff_toInt_le, z_ite, z_iten, z_ite1, ite_not, not_true_eq_false, not_false_eq_true, false_and, and_false, false_or, or_false, b_max, b_min, b_minL, b_absL, b_ixD, b_ixH, b_copy, tk_0, tk_s, dr_0, dr_s, pu_s, pu_n, ca_0, ca_1, clr_0, clr_s, e_nop, e_goto, e_if_eq, e_if_ne, e_if_lt, e_if_ge, e_if_gt, e_if_le, e_ic_eq, e_ic_ne, e_ic_lt, e_ic_ge, e_ic_gt, e_ic_le, e_tsw, e_lsw, sw_0, sw_s, e_iret, e_zret, e_lret, e_aret, e_ret, en_0, en_n, en_i, en_a, en_l, List.getElem?_cons_zero, List.getElem?_cons_succ, List.set_cons_zero, List.set_cons_succ, len_s, List.length_nil, ne_eq, x_within, x_in, eT1, eT2, eT3, eT4, eT5, eT6, eM1, eM2, eM3, eM4, eM5, eM6, Nat.one_mul, Nat.mul_one, Nat.zero_add, yR h (f 113 (by decide)), q2, y_lacksB q1]
      · simp -implicitDefEqProofs only [cl_189, u_189_0, u_189_1, u_189_2, u_189_3, u_189_4, u_189_5, u_189_7, u_189_8, u_189_9, u_189_10, u_189_11, u_189_12, u_189_13, u_189_14, u_189_15, e_iload_n, e_iload, e_lload_n, e_lload, e_aload_n, e_aload, e_istore_n, e_istore, e_astore_n, e_astore, e_lstore_n, e_lstore, e_iinc, e_iconst, e_bipush, e_sipush, e_ldc_w, e_ldc, e_ldcS, e_lconst, e_ldc2_w, e_iadd, e_isub, e_imul, e_iand, e_ixor, e_ishl, e_ishr, e_iushr, e_idiv, e_irem, e_ineg, e_i2b, e_i2s, e_i2c, e_ladd, e_lsub, e_lmul, e_land, e_lor, e_ldiv, e_lrem, e_lneg, e_lshl, e_lshr, e_lushr, e_i2l, e_l2i, e_lcmp, e_dupI, e_dupA, e_dup2, e_getI, e_getA, e_putI, e_putZ, e_getstatic, e_iaload, e_iastore, e_aaload10, e_alen10, e_aaload11, e_alen11, e_aaload12, e_alen12, e_aaload13, e_alen13, e_alen, e_invokevirtual, e_invokevirtualB, e_invokestatic, e_invokestaticB, ct_0, ct_i, ct_a, ct_l, os_0, os_s, rc_0, rc_s, sl_0, sl_i, sl_a, sl_l, simprocAttr, ix, z_em, up_eq, up_j, Nat.le_refl, true_or, or_true, true_and, and_true, and_self, or_self, beq_self_eq_true, if_true, if_false, ite_self, ca_f, ca_t, aLen, Int32.lt_iff_toInt_lt, Int32.le_iff_toInt_le, z_ite, z_iten, z_ite1, ite_not, not_true_eq_false, not_false_eq_true, false_and, and_false, false_or, or_false, b_max, b_min, b_minL, b_absL, b_ixD, b_ixH, b_copy, tk_0, tk_s, dr_0, dr_s, pu_s, pu_n, ca_0, ca_1, clr_0, clr_s, e_nop, e_goto, e_if_eq, e_if_ne, e_if_lt, e_if_ge, e_if_gt, e_if_le, e_ic_eq, e_ic_ne, e_ic_lt, e_ic_ge, e_ic_gt, e_ic_le, e_tsw, e_lsw, sw_0, sw_s, e_iret, e_zret, e_lret, e_aret, e_ret, en_0, en_n, en_i, en_a, en_l, List.getElem?_cons_zero, List.getElem?_cons_succ, List.set_cons_zero, List.set_cons_succ, len_s, List.length_nil, ne_eq, x_within, x_in, eT1, eT2, eT3, eT4, eT5, eT6, eM1, eM2, eM3, eM4, eM5, eM6, Nat.one_mul, Nat.mul_one, Nat.zero_add, yR h (f 113 (by decide)), q2]
