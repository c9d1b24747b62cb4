/-! THE CLASS'S MINUTE, and many. -/
theorem itN_inv {α : Type} {f : α → Nat → α} {P : α → Prop} {N : Nat} (hs : ∀ n V, n < N → P V → P (f V n)) : ∀ n V, n ≤ N → P V → P (itN f n V) := by
  intro n
  induction n with
  | zero => exact fun V _ h => h
  | succ n ih => exact fun V hn h => hs n _ (by omega) (ih V (by omega) h)
theorem rss_sm {tx : TX} {g : Int32 → Int32} {only : Int32} {V : Mem} {k : Nat} (hk : ¬ k = 5) : restsP g tx only V 0 k = V 0 k :=
  itN_inv (P := fun V' => V' 0 k = V 0 k) (N := (V 0 1).toNatClampNeg) (fun n V' _ h => (rs_sm hk).trans h) _ V (Nat.le_refl _) rfl
theorem wrk_sm {tx : TX} {only : Int32} {V : Mem} {w k : Nat} : wrkP tx only V w 0 k = V 0 k := by
  unfold wrkP
  split
  · exact wk_sm
  · rfl
theorem wks_sm {tx : TX} {only : Int32} {V : Mem} {k : Nat} : worksP tx only V 0 k = V 0 k :=
  itN_inv (P := fun V' => V' 0 k = V 0 k) (N := (V 0 0).toNatClampNeg) (fun n V' _ h => wrk_sm.trans h) _ V (Nat.le_refl _) rfl
theorem min_sm {tx : TX} {g : Int32 → Int32} {only : Int32} {V : Mem} {k : Nat} (h2 : ¬ k = 2) (h5 : ¬ k = 5) : minP g tx only V 0 k = V 0 k := by
  unfold minP
  rw [up_j h2, wks_sm, rss_sm h5]
theorem min_mi {tx : TX} {g : Int32 → Int32} {only : Int32} {V : Mem} : minP g tx only V 0 2 = V 0 2 + 1 := by
  unfold minP
  rw [up_eq, wks_sm, rss_sm (by decide)]
theorem wf_rests {tx : TX} {only : Int32} {V : Mem} (h : WFV V) (hm : (V 0 2).toInt ≤ 15000) : WFV (restsP (mn 99999) tx only V) := by
  have g1 := gs1 h
  have hN : (V 0 1).toNatClampNeg ≤ 8 := by
    have e : (V 0 1).toNatClampNeg = (V 0 1).toInt.toNat := rfl
    omega
  exact (itN_inv (P := fun V' => WFV V' ∧ V' 0 2 = V 0 2) (N := (V 0 1).toNatClampNeg) (fun n V' hn q => ⟨wf_rest q.1 (by omega), (rs_sm (by decide)).trans q.2⟩) _ V (Nat.le_refl _) ⟨h, rfl⟩).1
theorem wf_works {tx : TX} {only : Int32} {V : Mem} (h : WFV V) (hm : (V 0 2).toInt ≤ 15000) : WFV (worksP tx only V) := by
  have g1 := gs0 h
  have hN : (V 0 0).toNatClampNeg ≤ 4 := by
    have e : (V 0 0).toNatClampNeg = (V 0 0).toInt.toNat := rfl
    omega
  refine (itN_inv (P := fun V' => WFV V' ∧ V' 0 2 = V 0 2) (N := (V 0 0).toNatClampNeg) (fun n V' hn q => ⟨?_, wrk_sm.trans q.2⟩) _ V (Nat.le_refl _) ⟨h, rfl⟩).1
  unfold wrkP
  split
  · exact wf_work q.1 (by omega) (by rw [q.2]; exact hm)
  · exact q.1
theorem wd_min {tx : TX} {only : Int32} {V : Mem} (h : WFV V) (hd : WFD V) (hm : (V 0 2).toInt ≤ 15000) : WFD (minP (mn 99999) tx only V) := by
  have g1 := gs1 h
  have g0 := gs0 h
  have hN : (V 0 1).toNatClampNeg ≤ 8 := by
    have e : (V 0 1).toNatClampNeg = (V 0 1).toInt.toNat := rfl
    omega
  have hN0 : (V 0 0).toNatClampNeg ≤ 4 := by
    have e : (V 0 0).toNatClampNeg = (V 0 0).toInt.toNat := rfl
    omega
  have a := (itN_inv (f := restP (mn 99999) tx only) (P := fun V' => (WFV V' ∧ WFD V') ∧ V' 0 2 = V 0 2) (N := (V 0 1).toNatClampNeg) (fun n V' hn q => ⟨⟨wf_rest q.1.1 (by omega), wd_rest q.1.1 q.1.2 (by omega) (by rw [q.2]; exact hm)⟩, (rs_sm (by decide)).trans q.2⟩) _ V (Nat.le_refl _) ⟨⟨h, hd⟩, rfl⟩).1
  have e00 : restsP (mn 99999) tx only V 0 0 = V 0 0 := rss_sm (by decide)
  have b : WFD (worksP tx only (restsP (mn 99999) tx only V)) := itN_inv (f := wrkP tx only) (P := fun V' => WFD V') (N := (restsP (mn 99999) tx only V 0 0).toNatClampNeg) (fun n V' hn q => by
    unfold wrkP
    split
    · exact wd_work q (by rw [e00] at hn; omega)
    · exact q) _ _ (Nat.le_refl _) a.2
  unfold minP
  simp only []
  exact ⟨fun x hx => by rw [up_o (by omega), up_o (by omega)]; exact b.1 x hx, by rw [up_j (by decide)]; exact b.2⟩
theorem mi_1 {V : Mem} (h : WFV V) (hm : (V 0 2).toInt ≤ 15000) : (V 0 2 + 1).toInt = (V 0 2).toInt + 1 := by
  have g := gs2 h
  have t1 : (1 : Int32).toInt = 1 := rfl
  rw [ta] <;> rw [t1] <;> omega
theorem wf_min {tx : TX} {only : Int32} {V : Mem} (h : WFV V) (hm : (V 0 2).toInt ≤ 15000) : WFV (minP (mn 99999) tx only V) := by
  unfold minP
  simp only []
  have e : worksP tx only (restsP (mn 99999) tx only V) 0 2 = V 0 2 := by rw [wks_sm, rss_sm (by decide)]
  have e2 : restsP (mn 99999) tx only V 0 2 = V 0 2 := rss_sm (by decide)
  have g := gs2 h
  refine wf_up (wf_works (wf_rests h hm) (by rw [e2]; exact hm)) (by unfold plV; omega) ?_
  rw [e, mi_1 h hm, show loV 0 2 = 0 from rfl, show hiV 0 2 = 2147483647 from rfl]
  omega
theorem x_pass {d b : Nat} {only : Int32} {μ : Mem} (hL : LW b μ) (hW : WFV (vC b μ)) (hm : (vC b μ 0 2).toInt ≤ 15000) : ∃ μ', cl d 43 [vR 6 b, vI only] μ = some (none, μ') ∧ vC b μ' = minP (mn 99999) (txC b μ) only (vC b μ) ∧ FrC b μ μ' := by
  have g1 := gs1 hW
  have g0 := gs0 hW
  have e1 : (vC b μ 0 1).toNatClampNeg = (vC b μ 0 1).toInt.toNat := rfl
  have e0 : (vC b μ 0 0).toNatClampNeg = (vC b μ 0 0).toInt.toNat := rfl
  obtain ⟨μ1, a1, a2, a3, a4, a5⟩ := l_rests (d := d) (b := b) (R := (vC b μ 0 1).toNatClampNeg) (only := only) (tx := txC b μ) (V0 := vC b μ) (by omega) (vC b μ 0 1).toNatClampNeg 0 μ none (by omega) (by rw [nI_ix g1.1]; exact cs1) hL hW hm rfl rfl
  have h01 : vC b μ1 0 0 = vC b μ 0 0 := a5 0 (by decide)
  have h21 : vC b μ1 0 2 = vC b μ 0 2 := a5 2 (by decide)
  obtain ⟨μ2, b1, b2, b3, b4⟩ := l_works (d := d) (b := b) (N := (vC b μ 0 0).toNatClampNeg) (only := only) (tx := txC b μ) (V0 := vC b μ1) (by omega) (vC b μ 0 0).toNatClampNeg 0 μ1 none (by omega) (by rw [nI_ix g0.1, ← h01]; exact cs0) (a4.lw hL) a3 (by rw [cs2 (b := b) (μ := μ1), h21]; exact hm) a4.tx rfl
  refine ⟨μ2, ?_, ?_, a4.tr b4⟩
  · have z : (vI 0 : AV) = vI (nI 0) := rfl
    rw [z] at a1
    rw [b1] at a1
    rw [← a1]
    simp -implicitDefEqProofs only [cl_43, u_43_0, e_iload_n, e_iload, e_lload_n, e_lload, e_aload_n, e_aload, e_istore_n, e_istore, e_astore_n, e_astore, e_lstore_n, e_lstore, e_iinc, e_iconst, e_bipush, e_sipush, e_ldc_w, e_ldc, e_ldcS, e_lconst, e_ldc2_w, e_iadd, e_isub, e_imul, e_iand, e_ixor, e_ishl, e_ishr, e_iushr, e_idiv, e_irem, e_ineg, e_i2b, e_i2s, e_i2c, e_ladd, e_lsub, e_lmul, e_land, e_lor, e_ldiv, e_lrem, e_lneg, e_lshl, e_lshr, e_lushr, e_i2l, e_l2i, e_lcmp, e_dupI, e_dupA, e_dup2, e_getI, e_getA, e_putI, e_putZ, e_getstatic, e_iaload, e_iastore, e_aaload10, e_alen10, e_aaload11, e_alen11, e_aaload12, e_alen12, e_aaload13, e_alen13, e_alen, e_invokevirtual, e_invokevirtualB, e_invokestatic, e_invokestaticB, ct_0, ct_i, ct_a, ct_l, os_0, os_s, rc_0, rc_s, sl_0, sl_i, sl_a, sl_l, simprocAttr, ix, z_em, up_eq, up_j, Nat.le_refl, true_or, or_true, true_and, and_true, and_self, or_self, beq_self_eq_true, if_true, if_false, ite_self, ca_f, ca_t, aLen, Int32.lt_iff_toInt_lt, Int32.le_iff_toInt_le, z_ite, z_iten, z_ite1, ite_not, not_true_eq_false, not_false_eq_true, false_and, and_false, false_or, or_false, b_max, b_min, b_minL, b_absL, b_ixD, b_ixH, b_copy, tk_0, tk_s, dr_0, dr_s, pu_s, pu_n, ca_0, ca_1, clr_0, clr_s, e_nop, e_goto, e_if_eq, e_if_ne, e_if_lt, e_if_ge, e_if_gt, e_if_le, e_ic_eq, e_ic_ne, e_ic_lt, e_ic_ge, e_ic_gt, e_ic_le, e_tsw, e_lsw, sw_0, sw_s, e_iret, e_zret, e_lret, e_aret, e_ret, en_0, en_n, en_i, en_a, en_l, List.getElem?_cons_zero, List.getElem?_cons_succ, List.set_cons_zero, List.set_cons_succ, len_s, List.length_nil]
    rfl
  · rw [b2]
    unfold minP
    simp only []
    have ew : worksP (txC b μ) only (restsP (mn 99999) (txC b μ) only (vC b μ)) 0 2 = vC b μ 0 2 := by rw [wks_sm, rss_sm (by decide)]
    rw [ew]
    have er : restsP (mn 99999) (txC b μ) only (vC b μ) = vC b μ1 := a2.symm
    rw [er, cs2 (b := b) (μ := μ1), h21]
    unfold worksP
    rw [h01]
def timesP (f : Mem → Mem) : Nat → Mem → Mem
  | 0, V => V
  | n + 1, V => f (timesP f n V)
theorem times_in {f : Mem → Mem} : ∀ n V, timesP f n (f V) = f (timesP f n V) := by
  intro n
  induction n with
  | zero => exact fun _ => rfl
  | succ n ih => intro V; show f (timesP f n (f V)) = _; rw [ih]; rfl
/-- a run of minutes keeps a view well -/
theorem tm_keep {tx : TX} {only : Int32} {V : Mem} (h : WFV V) : ∀ (n : Nat), (V 0 2).toInt + n ≤ 15001 → WFV (timesP (minP (mn 99999) tx only) n V) ∧ (timesP (minP (mn 99999) tx only) n V 0 2).toInt = (V 0 2).toInt + n ∧ ∀ k, ¬ k = 2 → ¬ k = 5 → timesP (minP (mn 99999) tx only) n V 0 k = V 0 k := by
  intro n
  induction n with
  | zero => exact fun _ => ⟨h, by show (V 0 2).toInt = _; omega, fun _ _ _ => rfl⟩
  | succ n ih =>
    intro hn
    obtain ⟨i1, i2, i3⟩ := ih (by omega)
    refine ⟨wf_min i1 (by omega), ?_, fun k h2 h5 => (min_sm h2 h5).trans (i3 k h2 h5)⟩
    show (minP (mn 99999) tx only (timesP (minP (mn 99999) tx only) n V) 0 2).toInt = _
    rw [min_mi, mi_1 i1 (by omega), i2]
    omega
theorem td_keep {tx : TX} {only : Int32} {V : Mem} (h : WFV V) (hd : WFD V) : ∀ (n : Nat), (V 0 2).toInt + n ≤ 15001 → WFD (timesP (minP (mn 99999) tx only) n V) := by
  intro n
  induction n with
  | zero => exact fun _ => hd
  | succ n ih =>
    intro hn
    obtain ⟨i1, i2, i3⟩ := tm_keep (tx := tx) (only := only) h n (by omega)
    exact wd_min i1 (ih (by omega)) (by omega)
theorem l_ahead {d b N : Nat} {only : Int32} {tx : TX} {V0 : Mem} (hN : N ≤ 10000) (h0 : WFV V0) (hm : (V0 0 2).toInt + N ≤ 15001) : ∀ n k μ, k + n = N → LW b μ → txC b μ = tx → vC b μ = timesP (minP (mn 99999) tx only) k V0 → ∃ μ', res d 48 1 [some (vR 6 b), some (vI (nI N)), some (vI only), some (vI (nI k))] [] μ = some (none, μ') ∧ vC b μ' = timesP (minP (mn 99999) tx only) N V0 ∧ FrC b μ μ' := by
  intro n
  induction n with
  | zero =>
    intro k μ hk hL ht hv
    have hk : k = N := by omega
    subst hk
    refine ⟨μ, ?_, hv, FrC.rf⟩
    rw [u_48_1]
    simp -implicitDefEqProofs only [u_48_0, u_48_2, u_48_3, e_iload_n, e_iload, e_lload_n, e_lload, e_aload_n, e_aload, e_istore_n, e_istore, e_astore_n, e_astore, e_lstore_n, e_lstore, e_iinc, e_iconst, e_bipush, e_sipush, e_ldc_w, e_ldc, e_ldcS, e_lconst, e_ldc2_w, e_iadd, e_isub, e_imul, e_iand, e_ixor, e_ishl, e_ishr, e_iushr, e_idiv, e_irem, e_ineg, e_i2b, e_i2s, e_i2c, e_ladd, e_lsub, e_lmul, e_land, e_lor, e_ldiv, e_lrem, e_lneg, e_lshl, e_lshr, e_lushr, e_i2l, e_l2i, e_lcmp, e_dupI, e_dupA, e_dup2, e_getI, e_getA, e_putI, e_putZ, e_getstatic, e_iaload, e_iastore, e_aaload10, e_alen10, e_aaload11, e_alen11, e_aaload12, e_alen12, e_aaload13, e_alen13, e_alen, e_invokevirtual, e_invokevirtualB, e_invokestatic, e_invokestaticB, ct_0, ct_i, ct_a, ct_l, os_0, os_s, rc_0, rc_s, sl_0, sl_i, sl_a, sl_l, simprocAttr, ix, z_em, up_eq, up_j, Nat.le_refl, true_or, or_true, true_and, and_true, and_self, or_self, beq_self_eq_true, if_true, if_false, ite_self, ca_f, ca_t, aLen, Int32.lt_iff_toInt_lt, Int32.le_iff_toInt_le, z_ite, z_iten, z_ite1, ite_not, not_true_eq_false, not_false_eq_true, false_and, and_false, false_or, or_false, b_max, b_min, b_minL, b_absL, b_ixD, b_ixH, b_copy, tk_0, tk_s, dr_0, dr_s, pu_s, pu_n, ca_0, ca_1, clr_0, clr_s, e_nop, e_goto, e_if_eq, e_if_ne, e_if_lt, e_if_ge, e_if_gt, e_if_le, e_ic_eq, e_ic_ne, e_ic_lt, e_ic_ge, e_ic_gt, e_ic_le, e_tsw, e_lsw, sw_0, sw_s, e_iret, e_zret, e_lret, e_aret, e_ret, en_0, en_n, en_i, en_a, en_l, List.getElem?_cons_zero, List.getElem?_cons_succ, List.set_cons_zero, List.set_cons_succ, len_s, List.length_nil, ne_eq, Int.lt_irrefl]
  | succ n ih =>
    intro k μ hk hL ht hv
    have h1 : ((k : Nat) : Int) < (N : Int) := by omega
    have nk : (nI k).toInt = k := nI_toInt (by omega)
    have nR : (nI N).toInt = N := nI_toInt (by omega)
    obtain ⟨w1, w2, w3⟩ := tm_keep (tx := tx) (only := only) h0 k (by omega)
    rw [← hv] at w1 w2
    obtain ⟨μ1, a1, a2, a3⟩ := x_pass (d := d) (b := b) (only := only) (μ := μ) hL w1 (by omega)
    have a1' : cl d 43 [Sum.inr (Sum.inr (6, b)), vI only] μ = _ := a1
    obtain ⟨μ2, b1, b2, b3⟩ := ih (k + 1) μ1 (by omega) (a3.lw hL) (a3.tx.trans ht) (by rw [a2, ht, hv]; rfl)
    refine ⟨μ2, ?_, b2, a3.tr b3⟩
    rw [← b1, u_48_1]
    simp -implicitDefEqProofs only [u_48_0, u_48_2, u_48_3, e_iload_n, e_iload, e_lload_n, e_lload, e_aload_n, e_aload, e_istore_n, e_istore, e_astore_n, e_astore, e_lstore_n, e_lstore, e_iinc, e_iconst, e_bipush, e_sipush, e_ldc_w, e_ldc, e_ldcS, e_lconst, e_ldc2_w, e_iadd, e_isub, e_imul, e_iand, e_ixor, e_ishl, e_ishr, e_iushr, e_idiv, e_irem, e_ineg, e_i2b, e_i2s, e_i2c, e_ladd, e_lsub, e_lmul, e_land, e_lor, e_ldiv, e_lrem, e_lneg, e_lshl, e_lshr, e_lushr, e_i2l, e_l2i, e_lcmp, e_dupI, e_dupA, e_dup2, e_getI, e_getA, e_putI, e_putZ, e_getstatic, e_iaload, e_iastore, e_aaload10, e_alen10, e_aaload11, e_alen11, e_aaload12, e_alen12, e_aaload13, e_alen13, e_alen, e_invokevirtual, e_invokevirtualB, e_invokestatic, e_invokestaticB, ct_0, ct_i, ct_a, ct_l, os_0, os_s, rc_0, rc_s, sl_0, sl_i, sl_a, sl_l, simprocAttr, ix, z_em, up_eq, up_j, Nat.le_refl, true_or, or_true, true_and, and_true, and_self, or_self, beq_self_eq_true, if_true, if_false, ite_self, ca_f, ca_t, aLen, Int32.lt_iff_toInt_lt, Int32.le_iff_toInt_le, z_ite, z_iten, z_ite1, ite_not, not_true_eq_false, not_false_eq_true, false_and, and_false, false_or, or_false, b_max, b_min, b_minL, b_absL, b_ixD, b_ixH, b_copy, tk_0, tk_s, dr_0, dr_s, pu_s, pu_n, ca_0, ca_1, clr_0, clr_s, e_nop, e_goto, e_if_eq, e_if_ne, e_if_lt, e_if_ge, e_if_gt, e_if_le, e_ic_eq, e_ic_ne, e_ic_lt, e_ic_ge, e_ic_gt, e_ic_le, e_tsw, e_lsw, sw_0, sw_s, e_iret, e_zret, e_lret, e_aret, e_ret, en_0, en_n, en_i, en_a, en_l, List.getElem?_cons_zero, List.getElem?_cons_succ, List.set_cons_zero, List.set_cons_succ, len_s, List.length_nil, ne_eq, nk, nR, h1, a1', ← nI_succ]
theorem x_goAhead {d b : Nat} {n only : Int32} {μ : Mem} (hL : LW b μ) (hW : WFV (vC b μ)) (h0 : 0 ≤ n.toInt ∧ n.toInt ≤ 10000) (hm : (vC b μ 0 2).toInt + n.toInt ≤ 15001) : ∃ μ', cl d 48 [vR 6 b, vI n, vI only] μ = some (none, μ') ∧ vC b μ' = timesP (minP (mn 99999) (txC b μ) only) n.toNatClampNeg (vC b μ) ∧ FrC b μ μ' := by
  have e0 : n.toNatClampNeg = n.toInt.toNat := rfl
  obtain ⟨μ1, a1, a2, a3⟩ := l_ahead (d := d) (b := b) (N := n.toNatClampNeg) (only := only) (tx := txC b μ) (V0 := vC b μ) (by omega) hW (by omega) n.toNatClampNeg 0 μ (by omega) hL rfl rfl
  refine ⟨μ1, ?_, a2, a3⟩
  rw [nI_ix h0.1] at a1
  rw [← a1]
  simp -implicitDefEqProofs only [cl_48, u_48_0, e_iload_n, e_iload, e_lload_n, e_lload, e_aload_n, e_aload, e_istore_n, e_istore, e_astore_n, e_astore, e_lstore_n, e_lstore, e_iinc, e_iconst, e_bipush, e_sipush, e_ldc_w, e_ldc, e_ldcS, e_lconst, e_ldc2_w, e_iadd, e_isub, e_imul, e_iand, e_ixor, e_ishl, e_ishr, e_iushr, e_idiv, e_irem, e_ineg, e_i2b, e_i2s, e_i2c, e_ladd, e_lsub, e_lmul, e_land, e_lor, e_ldiv, e_lrem, e_lneg, e_lshl, e_lshr, e_lushr, e_i2l, e_l2i, e_lcmp, e_dupI, e_dupA, e_dup2, e_getI, e_getA, e_putI, e_putZ, e_getstatic, e_iaload, e_iastore, e_aaload10, e_alen10, e_aaload11, e_alen11, e_aaload12, e_alen12, e_aaload13, e_alen13, e_alen, e_invokevirtual, e_invokevirtualB, e_invokestatic, e_invokestaticB, ct_0, ct_i, ct_a, ct_l, os_0, os_s, rc_0, rc_s, sl_0, sl_i, sl_a, sl_l, simprocAttr, ix, z_em, up_eq, up_j, Nat.le_refl, true_or, or_true, true_and, and_true, and_self, or_self, beq_self_eq_true, if_true, if_false, ite_self, ca_f, ca_t, aLen, Int32.lt_iff_toInt_lt, Int32.le_iff_toInt_le, z_ite, z_iten, z_ite1, ite_not, not_true_eq_false, not_false_eq_true, false_and, and_false, false_or, or_false, b_max, b_min, b_minL, b_absL, b_ixD, b_ixH, b_copy, tk_0, tk_s, dr_0, dr_s, pu_s, pu_n, ca_0, ca_1, clr_0, clr_s, e_nop, e_goto, e_if_eq, e_if_ne, e_if_lt, e_if_ge, e_if_gt, e_if_le, e_ic_eq, e_ic_ne, e_ic_lt, e_ic_ge, e_ic_gt, e_ic_le, e_tsw, e_lsw, sw_0, sw_s, e_iret, e_zret, e_lret, e_aret, e_ret, en_0, en_n, en_i, en_a, en_l, List.getElem?_cons_zero, List.getElem?_cons_succ, List.set_cons_zero, List.set_cons_succ, len_s, List.length_nil]
  rfl
