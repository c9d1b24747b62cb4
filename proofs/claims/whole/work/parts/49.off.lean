/-! HOW FAR A LOG IS OFF. -/
def gapP (nu de : Int32) : Int32 := (if (if 0 < nu.toInt64 - de.toInt64 then nu.toInt64 - de.toInt64 else -(nu.toInt64 - de.toInt64)) < 1000 then (if 0 < nu.toInt64 - de.toInt64 then nu.toInt64 - de.toInt64 else -(nu.toInt64 - de.toInt64)) else 1000).toInt32
def offP (nu de : Nat → Int32) : Nat → Int32
  | 0 => 0
  | n + 1 => offP nu de n + gapP (nu n) (de (n + 1))
theorem offP_cg {nu de nu' de' : Nat → Int32} : ∀ n, (∀ i, i < n → nu i = nu' i) → (∀ i, i ≤ n → de i = de' i) → offP nu de n = offP nu' de' n := by
  intro n
  induction n with
  | zero => exact fun _ _ => rfl
  | succ n ih =>
    intro h1 h2
    unfold offP
    rw [ih (fun i hi => h1 i (by omega)) (fun i hi => h2 i (by omega)), h1 n (by omega), h2 (n + 1) (by omega)]
theorem l_offBy {d b o N w : Nat} {tx : TX} {V0 : Mem} {nu : Nat → Int32} (hw : w < 4) (ho : o + 1 < b ∨ b + 32 ≤ o) (hN : N ≤ 24) (h0 : WFV V0) (hm : (V0 0 2).toInt + N ≤ 15001) : ∀ n k μ (x : Option AV), k + n = N → LW b μ → txC b μ = tx → vC b μ = timesP (minP (mn 99999) tx (nI w)) k V0 → μ o 2 = nI N → (∀ i, i < N → μ (o + 1) i = nu i) → ∃ μ', res d 53 1 [some (vR 6 b), some (vR 3 o), some (vI (nI w)), some (vI (offP nu (fun i => timesP (minP (mn 99999) tx (nI w)) i V0 (1 + w) 0) k)), some (vI (nI k)), x, none] [] μ = some (some (vI (offP nu (fun i => timesP (minP (mn 99999) tx (nI w)) i V0 (1 + w) 0) N)), μ') ∧ FrC b μ μ' ∧ WFV (vC b μ') := by
  intro n
  induction n with
  | zero =>
    intro k μ x hk hL ht hv hs hn
    have hk : k = N := by omega
    subst hk
    refine ⟨μ, ?_, FrC.rf, by rw [hv]; exact (tm_keep (tx := tx) (only := nI w) h0 k (by omega)).1⟩
    rw [u_53_1]
    simp -implicitDefEqProofs only [u_53_0, u_53_2, u_53_3, e_iload_n, e_iload, e_lload_n, e_lload, e_aload_n, e_aload, e_istore_n, e_istore, e_astore_n, e_astore, e_lstore_n, e_lstore, e_iinc, e_iconst, e_bipush, e_sipush, e_ldc_w, e_ldc, e_ldcS, e_lconst, e_ldc2_w, e_iadd, e_isub, e_imul, e_iand, e_ixor, e_ishl, e_ishr, e_iushr, e_idiv, e_irem, e_ineg, e_i2b, e_i2s, e_i2c, e_ladd, e_lsub, e_lmul, e_land, e_lor, e_ldiv, e_lrem, e_lneg, e_lshl, e_lshr, e_lushr, e_i2l, e_l2i, e_lcmp, e_dupI, e_dupA, e_dup2, e_getI, e_getA, e_putI, e_putZ, e_getstatic, e_iaload, e_iastore, e_aaload10, e_alen10, e_aaload11, e_alen11, e_aaload12, e_alen12, e_aaload13, e_alen13, e_alen, e_invokevirtual, e_invokevirtualB, e_invokestatic, e_invokestaticB, ct_0, ct_i, ct_a, ct_l, os_0, os_s, rc_0, rc_s, sl_0, sl_i, sl_a, sl_l, simprocAttr, ix, z_em, up_eq, up_j, Nat.le_refl, true_or, or_true, true_and, and_true, and_self, or_self, beq_self_eq_true, if_true, if_false, ite_self, ca_f, ca_t, aLen, Int32.lt_iff_toInt_lt, Int32.le_iff_toInt_le, z_ite, z_iten, z_ite1, ite_not, not_true_eq_false, not_false_eq_true, false_and, and_false, false_or, or_false, b_max, b_min, b_minL, b_absL, b_ixD, b_ixH, b_copy, tk_0, tk_s, dr_0, dr_s, pu_s, pu_n, ca_0, ca_1, clr_0, clr_s, e_nop, e_goto, e_if_eq, e_if_ne, e_if_lt, e_if_ge, e_if_gt, e_if_le, e_ic_eq, e_ic_ne, e_ic_lt, e_ic_ge, e_ic_gt, e_ic_le, e_tsw, e_lsw, sw_0, sw_s, e_iret, e_zret, e_lret, e_aret, e_ret, en_0, en_n, en_i, en_a, en_l, List.getElem?_cons_zero, List.getElem?_cons_succ, List.set_cons_zero, List.set_cons_succ, len_s, List.length_nil, ne_eq, hs, Int.lt_irrefl]
  | succ n ih =>
    intro k μ x hk hL ht hv hs hn
    have h1 : ((k : Nat) : Int) < (N : Int) := by omega
    have h2 : ((k : Nat) : Int) < 24 := by omega
    have h3 : (0 : Int) ≤ ((k : Nat) : Int) := by omega
    have nk : (nI k).toInt = k := nI_toInt (by omega)
    have nR : (nI N).toInt = N := nI_toInt (by omega)
    have ck : (nI k).toNatClampNeg = k := ix_nI (by omega)
    have nw : (nI w).toInt = w := nI_toInt (by omega)
    have cw : (nI w).toNatClampNeg = w := ix_nI (by omega)
    have w4 : ((w : Nat) : Int) < 4 := by omega
    have w0 : (0 : Int) ≤ ((w : Nat) : Int) := by omega
    have e6 : b + 1 + 5 + 3 * w = b + 6 + 3 * w := by omega
    obtain ⟨w1, w2, w3⟩ := tm_keep (tx := tx) (only := nI w) h0 k (by omega)
    rw [← hv] at w1 w2
    obtain ⟨μ1, a1, a2, a3⟩ := x_pass (d := d) (b := b) (only := nI w) (μ := μ) hL w1 (by omega)
    have a1' : cl d 43 [Sum.inr (Sum.inr (6, b)), vI (nI w)] μ = _ := a1
    have v1 : vC b μ1 = timesP (minP (mn 99999) tx (nI w)) (k + 1) V0 := by rw [a2, ht, hv]; rfl
    have o1 : μ1 o = μ o := a3 o (by omega) (by omega) (by omega)
    have o2 : μ1 (o + 1) = μ (o + 1) := a3 (o + 1) (by omega) (by omega) (by omega)
    have hd : μ1 (b + 6 + 3 * w) 2 = timesP (minP (mn 99999) tx (nI w)) (k + 1) V0 (1 + w) 0 := by rw [cw0 (b := b) (μ := μ1) hw, v1]
    obtain ⟨μ', b1, b3, b4⟩ := ih (k + 1) μ1 (some (vL ((if 0 < (nu k).toInt64 - (timesP (minP (mn 99999) tx (nI w)) (k + 1) V0 (1 + w) 0).toInt64 then (nu k).toInt64 - (timesP (minP (mn 99999) tx (nI w)) (k + 1) V0 (1 + w) 0).toInt64 else -((nu k).toInt64 - (timesP (minP (mn 99999) tx (nI w)) (k + 1) V0 (1 + w) 0).toInt64))))) (by omega) (a3.lw hL) (a3.tx.trans ht) v1 (by rw [o1]; exact hs) (fun i hi => by rw [o2]; exact hn i hi)
    refine ⟨μ', ?_, a3.tr b3, b4⟩
    rw [← b1, u_53_1]
    have hnk := hn k (by omega)
    simp -implicitDefEqProofs only [u_53_0, u_53_2, u_53_3, e_iload_n, e_iload, e_lload_n, e_lload, e_aload_n, e_aload, e_istore_n, e_istore, e_astore_n, e_astore, e_lstore_n, e_lstore, e_iinc, e_iconst, e_bipush, e_sipush, e_ldc_w, e_ldc, e_ldcS, e_lconst, e_ldc2_w, e_iadd, e_isub, e_imul, e_iand, e_ixor, e_ishl, e_ishr, e_iushr, e_idiv, e_irem, e_ineg, e_i2b, e_i2s, e_i2c, e_ladd, e_lsub, e_lmul, e_land, e_lor, e_ldiv, e_lrem, e_lneg, e_lshl, e_lshr, e_lushr, e_i2l, e_l2i, e_lcmp, e_dupI, e_dupA, e_dup2, e_getI, e_getA, e_putI, e_putZ, e_getstatic, e_iaload, e_iastore, e_aaload10, e_alen10, e_aaload11, e_alen11, e_aaload12, e_alen12, e_aaload13, e_alen13, e_alen, e_invokevirtual, e_invokevirtualB, e_invokestatic, e_invokestaticB, ct_0, ct_i, ct_a, ct_l, os_0, os_s, rc_0, rc_s, sl_0, sl_i, sl_a, sl_l, simprocAttr, ix, z_em, up_eq, up_j, Nat.le_refl, true_or, or_true, true_and, and_true, and_self, or_self, beq_self_eq_true, if_true, if_false, ite_self, ca_f, ca_t, aLen, Int32.lt_iff_toInt_lt, Int32.le_iff_toInt_le, z_ite, z_iten, z_ite1, ite_not, not_true_eq_false, not_false_eq_true, false_and, and_false, false_or, or_false, b_max, b_min, b_minL, b_absL, b_ixD, b_ixH, b_copy, tk_0, tk_s, dr_0, dr_s, pu_s, pu_n, ca_0, ca_1, clr_0, clr_s, e_nop, e_goto, e_if_eq, e_if_ne, e_if_lt, e_if_ge, e_if_gt, e_if_le, e_ic_eq, e_ic_ne, e_ic_lt, e_ic_ge, e_ic_gt, e_ic_le, e_tsw, e_lsw, sw_0, sw_s, e_iret, e_zret, e_lret, e_aret, e_ret, en_0, en_n, en_i, en_a, en_l, List.getElem?_cons_zero, List.getElem?_cons_succ, List.set_cons_zero, List.set_cons_succ, len_s, List.length_nil, ne_eq, hs, nk, nR, ck, nw, cw, w4, w0, h1, h2, h3, e6, a1', o1, o2, hnk, hd, ← nI_succ]
    rfl
theorem x_offBy {d b o N w : Nat} {μ : Mem} {nu : Nat → Int32} (hw : w < 4) (ho : o + 1 < b ∨ b + 32 ≤ o) (hN : N ≤ 24) (hL : LW b μ) (hW : WFV (vC b μ)) (hm : (vC b μ 0 2).toInt + N ≤ 15001) (hs : μ o 2 = nI N) (hn : ∀ i, i < N → μ (o + 1) i = nu i) : ∃ μ', cl d 53 [vR 6 b, vR 3 o, vI (nI w)] μ = some (some (vI (offP nu (fun i => timesP (minP (mn 99999) (txC b μ) (nI w)) i (vC b μ) (1 + w) 0) N)), μ') ∧ FrC b μ μ' ∧ WFV (vC b μ') := by
  obtain ⟨μ1, a1, a2, a3⟩ := l_offBy (d := d) (b := b) (o := o) (N := N) (w := w) (tx := txC b μ) (V0 := vC b μ) (nu := nu) hw ho hN hW hm N 0 μ none (by omega) hL rfl rfl hs hn
  refine ⟨μ1, ?_, a2, a3⟩
  rw [← a1]
  simp -implicitDefEqProofs only [cl_53, u_53_0, e_iload_n, e_iload, e_lload_n, e_lload, e_aload_n, e_aload, e_istore_n, e_istore, e_astore_n, e_astore, e_lstore_n, e_lstore, e_iinc, e_iconst, e_bipush, e_sipush, e_ldc_w, e_ldc, e_ldcS, e_lconst, e_ldc2_w, e_iadd, e_isub, e_imul, e_iand, e_ixor, e_ishl, e_ishr, e_iushr, e_idiv, e_irem, e_ineg, e_i2b, e_i2s, e_i2c, e_ladd, e_lsub, e_lmul, e_land, e_lor, e_ldiv, e_lrem, e_lneg, e_lshl, e_lshr, e_lushr, e_i2l, e_l2i, e_lcmp, e_dupI, e_dupA, e_dup2, e_getI, e_getA, e_putI, e_putZ, e_getstatic, e_iaload, e_iastore, e_aaload10, e_alen10, e_aaload11, e_alen11, e_aaload12, e_alen12, e_aaload13, e_alen13, e_alen, e_invokevirtual, e_invokevirtualB, e_invokestatic, e_invokestaticB, ct_0, ct_i, ct_a, ct_l, os_0, os_s, rc_0, rc_s, sl_0, sl_i, sl_a, sl_l, simprocAttr, ix, z_em, up_eq, up_j, Nat.le_refl, true_or, or_true, true_and, and_true, and_self, or_self, beq_self_eq_true, if_true, if_false, ite_self, ca_f, ca_t, aLen, Int32.lt_iff_toInt_lt, Int32.le_iff_toInt_le, z_ite, z_iten, z_ite1, ite_not, not_true_eq_false, not_false_eq_true, false_and, and_false, false_or, or_false, b_max, b_min, b_minL, b_absL, b_ixD, b_ixH, b_copy, tk_0, tk_s, dr_0, dr_s, pu_s, pu_n, ca_0, ca_1, clr_0, clr_s, e_nop, e_goto, e_if_eq, e_if_ne, e_if_lt, e_if_ge, e_if_gt, e_if_le, e_ic_eq, e_ic_ne, e_ic_lt, e_ic_ge, e_ic_gt, e_ic_le, e_tsw, e_lsw, sw_0, sw_s, e_iret, e_zret, e_lret, e_aret, e_ret, en_0, en_n, en_i, en_a, en_l, List.getElem?_cons_zero, List.getElem?_cons_succ, List.set_cons_zero, List.set_cons_succ, len_s, List.length_nil]
  rfl
/-! the model's -/
theorem i64s {a b : Int32} : (a.toInt64 - b.toInt64).toInt = a.toInt - b.toInt := by
  have h1 := Int32.toInt_lt a
  have h2 := Int32.le_toInt a
  have h3 := Int32.toInt_lt b
  have h4 := Int32.le_toInt b
  rw [Int64.toInt_sub, Int32.toInt_toInt64, Int32.toInt_toInt64]
  rw [Int.bmod_eq_of_le] <;> omega
theorem i64n {a : Int64} (h : -9223372036854775808 < a.toInt) : (-a).toInt = -a.toInt := by
  have h1 := Int64.toInt_lt a
  rw [Int64.toInt_neg]
  rw [Int.bmod_eq_of_le] <;> omega
/-- the model's gap is the class's -/
theorem gapM {nu de : Int32} : (if (1000 : Int64) < (if de.toInt64 - nu.toInt64 < 0 then -(de.toInt64 - nu.toInt64) else de.toInt64 - nu.toInt64) then (1000 : Int32) else (if de.toInt64 - nu.toInt64 < 0 then -(de.toInt64 - nu.toInt64) else de.toInt64 - nu.toInt64).toInt32) = gapP nu de := by
  have e1 : (nu.toInt64 - de.toInt64).toInt = nu.toInt - de.toInt := i64s
  have e2 : (de.toInt64 - nu.toInt64).toInt = de.toInt - nu.toInt := i64s
  have h1 := Int32.toInt_lt nu
  have h2 := Int32.le_toInt nu
  have h3 := Int32.toInt_lt de
  have h4 := Int32.le_toInt de
  have z0 : (0 : Int64).toInt = 0 := rfl
  have zk : (1000 : Int64).toInt = 1000 := rfl
  have eA : (if de.toInt64 - nu.toInt64 < 0 then -(de.toInt64 - nu.toInt64) else de.toInt64 - nu.toInt64) = (if 0 < nu.toInt64 - de.toInt64 then nu.toInt64 - de.toInt64 else -(nu.toInt64 - de.toInt64)) := by
    apply Int64.toInt_inj.mp
    have n1 : (-(de.toInt64 - nu.toInt64)).toInt = nu.toInt - de.toInt := by rw [i64n (by omega), e2]; omega
    have n2 : (-(nu.toInt64 - de.toInt64)).toInt = de.toInt - nu.toInt := by rw [i64n (by omega), e1]; omega
    simp only [Int64.lt_iff_toInt_lt, e1, e2, z0]
    by_cases q : nu.toInt - de.toInt > 0
    · rw [if_pos (by omega), if_pos (by omega), n1, e1]
    · rw [if_neg (by omega), if_neg (by omega), e2, n2]
  unfold gapP
  rw [eA]
  generalize (if 0 < nu.toInt64 - de.toInt64 then nu.toInt64 - de.toInt64 else -(nu.toInt64 - de.toInt64)) = g
  by_cases q : (1000 : Int64) < g
  · rw [if_pos q, if_neg (by rw [Int64.lt_iff_toInt_lt] at q ⊢; omega)]
    rfl
  · rw [if_neg q]
    by_cases q2 : g < 1000
    · rw [if_pos q2]
    · have : g = 1000 := Int64.toInt_inj.mp (by rw [Int64.lt_iff_toInt_lt] at q q2; omega)
      rw [if_neg q2, this]
theorem lgl {x y : Int64} : ((lg_cmp x y).toInt < 0) = (x < y) := by
  unfold lg_cmp
  simp only [gt_iff_lt, Int64.lt_iff_toInt_lt, ← Int64.toInt_inj, eq_iff_iff]
  (repeat' split) <;> simp <;> omega
theorem lgg {x y : Int64} : (0 < (lg_cmp x y).toInt) = (y < x) := by
  unfold lg_cmp
  simp only [gt_iff_lt, Int64.lt_iff_toInt_lt, ← Int64.toInt_inj, eq_iff_iff]
  (repeat' split) <;> simp <;> omega
theorem lge {x y : Int64} : (lg_cmp x y = 0) = (x = y) := by
  unfold lg_cmp
  simp only [gt_iff_lt, Int64.lt_iff_toInt_lt, ← Int64.toInt_inj, eq_iff_iff]
  (repeat' split) <;> simp <;> omega
theorem ad_s {s i : Nat} (hs : s < 4) (hi : i < 24) : 24 * nI s + nI i = nI (24 * s + i) := by
  show nI 24 * nI s + nI i = _
  rw [nIm (by omega) (by omega) (by omega), nIa (by omega)]
theorem k_offBy {d s N w : Nat} {tx : TX} {V0 μ0 : Mem} {nu : Nat → Int32} (hw : w < 4) (hs4 : s < 4) (hN : N ≤ 24) (h0 : WFV V0) (hD : WFD V0) (hm : (V0 0 2).toInt + N ≤ 15001) (hL : LWM μ0) (ht : txM μ0 = tx) (hs : μ0 124 s = nI N) (hn : ∀ i, i < N → μ0 125 (24 * s + i) = nu i) : ∀ n k μ (x : Option AV), k + n = N → FrM μ0 μ → vM 113 μ = timesP (minP (mn 99999) tx (-1)) k V0 → ∃ μ2, res d 187 1 [some (vR 8 112), some (vI (nI s)), some (vI (nI w)), some (vI (offP nu (fun i => timesP (minP (mn 99999) tx (-1)) i V0 (1 + w) 0) k)), some (vI (nI k)), x, none] [] μ = some (some (vI (offP nu (fun i => timesP (minP (mn 99999) tx (-1)) i V0 (1 + w) 0) N)), cpR μ2 115 113 504) ∧ FrM μ0 μ2 := by
  have is : (nI s).toInt = s := nI_toInt (by omega)
  have cs : (nI s).toNatClampNeg = s := ix_nI (by omega)
  have bs : ((s : Nat) : Int) < 4 := by omega
  have zs : (0 : Int) ≤ ((s : Nat) : Int) := by omega
  have hcar : ∀ μ, cl d 108 [Sum.inr (Sum.inr (604, 115)), Sum.inr (Sum.inr (604, 113))] μ = _ := fun μ => y_carry (by decide)
  intro n
  induction n with
  | zero =>
    intro k μ x hk hF hv
    have hk : k = N := by omega
    subst hk
    have hs' : μ 124 s = nI k := by rw [hF.1 124 (by decide) (by decide) (by decide)]; exact hs
    refine ⟨μ, ?_, hF⟩
    rw [u_187_1]
    simp -implicitDefEqProofs only [u_187_0, u_187_2, u_187_3, u_187_4, u_187_5, u_187_6, u_187_7, u_187_8, u_187_9, e_iload_n, e_iload, e_lload_n, e_lload, e_aload_n, e_aload, e_istore_n, e_istore, e_astore_n, e_astore, e_lstore_n, e_lstore, e_iinc, e_iconst, e_bipush, e_sipush, e_ldc_w, e_ldc, e_ldcS, e_lconst, e_ldc2_w, e_iadd, e_isub, e_imul, e_iand, e_ixor, e_ishl, e_ishr, e_iushr, e_idiv, e_irem, e_ineg, e_i2b, e_i2s, e_i2c, e_ladd, e_lsub, e_lmul, e_land, e_lor, e_ldiv, e_lrem, e_lneg, e_lshl, e_lshr, e_lushr, e_i2l, e_l2i, e_lcmp, e_dupI, e_dupA, e_dup2, e_getI, e_getA, e_putI, e_putZ, e_getstatic, e_iaload, e_iastore, e_aaload10, e_alen10, e_aaload11, e_alen11, e_aaload12, e_alen12, e_aaload13, e_alen13, e_alen, e_invokevirtual, e_invokevirtualB, e_invokestatic, e_invokestaticB, ct_0, ct_i, ct_a, ct_l, os_0, os_s, rc_0, rc_s, sl_0, sl_i, sl_a, sl_l, simprocAttr, ix, z_em, up_eq, up_j, Nat.le_refl, true_or, or_true, true_and, and_true, and_self, or_self, beq_self_eq_true, if_true, if_false, ite_self, ca_f, ca_t, aLen, Int32.lt_iff_toInt_lt, Int32.le_iff_toInt_le, z_ite, z_iten, z_ite1, ite_not, not_true_eq_false, not_false_eq_true, false_and, and_false, false_or, or_false, b_max, b_min, b_minL, b_absL, b_ixD, b_ixH, b_copy, tk_0, tk_s, dr_0, dr_s, pu_s, pu_n, ca_0, ca_1, clr_0, clr_s, e_nop, e_goto, e_if_eq, e_if_ne, e_if_lt, e_if_ge, e_if_gt, e_if_le, e_ic_eq, e_ic_ne, e_ic_lt, e_ic_ge, e_ic_gt, e_ic_le, e_tsw, e_lsw, sw_0, sw_s, e_iret, e_zret, e_lret, e_aret, e_ret, en_0, en_n, en_i, en_a, en_l, List.getElem?_cons_zero, List.getElem?_cons_succ, List.set_cons_zero, List.set_cons_succ, len_s, List.length_nil, ne_eq, is, cs, bs, zs, hs', Int.lt_irrefl, hcar]
  | succ n ih =>
    intro k μ x hk hF hv
    have hs' : μ 124 s = nI N := by rw [hF.1 124 (by decide) (by decide) (by decide)]; exact hs
    have h1 : ((k : Nat) : Int) < (N : Int) := by omega
    have nk : (nI k).toInt = k := nI_toInt (by omega)
    have nR : (nI N).toInt = N := nI_toInt (by omega)
    obtain ⟨w1, w2, w3⟩ := tm_keep (tx := tx) (only := -1) h0 k (by omega)
    have wd := td_keep (tx := tx) (only := -1) h0 hD k (by omega)
    rw [← hv] at w1 w2 wd
    obtain ⟨μ1, a1, a2, a3⟩ := y_minute (d := d) (μ := μ) (hF.lw hL) w1 wd (by omega)
    have a1' : cl d 152 [Sum.inr (Sum.inr (8, 112))] μ = _ := a1
    have v1 : vM 113 μ1 = timesP (minP (mn 99999) tx (-1)) (k + 1) V0 := by rw [a2, hF.tx, ht, hv]; rfl
    have hF1 := hF.tr a3
    have hnk : μ1 125 (24 * s + k) = nu k := by rw [hF1.1 125 (by decide) (by decide) (by decide)]; exact hn k (by omega)
    have hd : ∀ z, cl d 111 [Sum.inr (Sum.inr (8, 112)), vI (nI w), vI z] μ1 = cl d 111 [Sum.inr (Sum.inr (8, 112)), vI (nI w), vI z] μ1 := fun _ => rfl
    have hy := yi0 (d := d) (μ := μ1) hw
    rw [v1] at hy
    have hy' : cl d 111 [Sum.inr (Sum.inr (8, 112)), vI (nI w), vI 0] μ1 = _ := hy
    have ia : (nI (24 * s + k)).toInt = (24 * s + k : Nat) := nI_toInt (by omega)
    have ca : (nI (24 * s + k)).toNatClampNeg = 24 * s + k := ix_nI (by omega)
    have ba : (0 : Int) ≤ ((24 * s + k : Nat) : Int) ∧ ((24 * s + k : Nat) : Int) < 96 := by omega
    obtain ⟨μ', b1, b3⟩ := ih (k + 1) μ1 (some (vL (if (timesP (minP (mn 99999) tx (-1)) (k + 1) V0 (1 + w) 0).toInt64 - (nu k).toInt64 < 0 then -((timesP (minP (mn 99999) tx (-1)) (k + 1) V0 (1 + w) 0).toInt64 - (nu k).toInt64) else (timesP (minP (mn 99999) tx (-1)) (k + 1) V0 (1 + w) 0).toInt64 - (nu k).toInt64))) (by omega) hF1 v1
    refine ⟨μ', ?_, b3⟩
    rw [← b1, u_187_1]
    have eg : offP nu (fun i => timesP (minP (mn 99999) tx (-1)) i V0 (1 + w) 0) (k + 1) = offP nu (fun i => timesP (minP (mn 99999) tx (-1)) i V0 (1 + w) 0) k + gapP (nu k) (timesP (minP (mn 99999) tx (-1)) (k + 1) V0 (1 + w) 0) := rfl
    rw [eg, ← gapM]
    generalize timesP (minP (mn 99999) tx (-1)) (k + 1) V0 (1 + w) 0 = de at *
    generalize offP nu (fun i => timesP (minP (mn 99999) tx (-1)) i V0 (1 + w) 0) k = acc at *
    by_cases q1 : de.toInt64 - (nu k).toInt64 < 0
    · by_cases q2 : (1000 : Int64) < -(de.toInt64 - (nu k).toInt64)
      · simp -implicitDefEqProofs only [u_187_0, u_187_2, u_187_3, u_187_4, u_187_5, u_187_6, u_187_7, u_187_8, u_187_9, e_iload_n, e_iload, e_lload_n, e_lload, e_aload_n, e_aload, e_istore_n, e_istore, e_astore_n, e_astore, e_lstore_n, e_lstore, e_iinc, e_iconst, e_bipush, e_sipush, e_ldc_w, e_ldc, e_ldcS, e_lconst, e_ldc2_w, e_iadd, e_isub, e_imul, e_iand, e_ixor, e_ishl, e_ishr, e_iushr, e_idiv, e_irem, e_ineg, e_i2b, e_i2s, e_i2c, e_ladd, e_lsub, e_lmul, e_land, e_lor, e_ldiv, e_lrem, e_lneg, e_lshl, e_lshr, e_lushr, e_i2l, e_l2i, e_lcmp, e_dupI, e_dupA, e_dup2, e_getI, e_getA, e_putI, e_putZ, e_getstatic, e_iaload, e_iastore, e_aaload10, e_alen10, e_aaload11, e_alen11, e_aaload12, e_alen12, e_aaload13, e_alen13, e_alen, e_invokevirtual, e_invokevirtualB, e_invokestatic, e_invokestaticB, ct_0, ct_i, ct_a, ct_l, os_0, os_s, rc_0, rc_s, sl_0, sl_i, sl_a, sl_l, simprocAttr, ix, z_em, up_eq, up_j, Nat.le_refl, true_or, or_true, true_and, and_true, and_self, or_self, beq_self_eq_true, if_true, if_false, ite_self, ca_f, ca_t, aLen, Int32.lt_iff_toInt_lt, Int32.le_iff_toInt_le, z_ite, z_iten, z_ite1, ite_not, not_true_eq_false, not_false_eq_true, false_and, and_false, false_or, or_false, b_max, b_min, b_minL, b_absL, b_ixD, b_ixH, b_copy, tk_0, tk_s, dr_0, dr_s, pu_s, pu_n, ca_0, ca_1, clr_0, clr_s, e_nop, e_goto, e_if_eq, e_if_ne, e_if_lt, e_if_ge, e_if_gt, e_if_le, e_ic_eq, e_ic_ne, e_ic_lt, e_ic_ge, e_ic_gt, e_ic_le, e_tsw, e_lsw, sw_0, sw_s, e_iret, e_zret, e_lret, e_aret, e_ret, en_0, en_n, en_i, en_a, en_l, List.getElem?_cons_zero, List.getElem?_cons_succ, List.set_cons_zero, List.set_cons_succ, len_s, List.length_nil, ne_eq, is, cs, bs, zs, hs', nk, nR, h1, a1', hy', ad_s hs4 (show k < 24 by omega), ia, ca, if_pos ba, hnk, lgl, lgg, if_pos q1, if_pos q2, ← nI_succ]
      · simp -implicitDefEqProofs only [u_187_0, u_187_2, u_187_3, u_187_4, u_187_5, u_187_6, u_187_7, u_187_8, u_187_9, e_iload_n, e_iload, e_lload_n, e_lload, e_aload_n, e_aload, e_istore_n, e_istore, e_astore_n, e_astore, e_lstore_n, e_lstore, e_iinc, e_iconst, e_bipush, e_sipush, e_ldc_w, e_ldc, e_ldcS, e_lconst, e_ldc2_w, e_iadd, e_isub, e_imul, e_iand, e_ixor, e_ishl, e_ishr, e_iushr, e_idiv, e_irem, e_ineg, e_i2b, e_i2s, e_i2c, e_ladd, e_lsub, e_lmul, e_land, e_lor, e_ldiv, e_lrem, e_lneg, e_lshl, e_lshr, e_lushr, e_i2l, e_l2i, e_lcmp, e_dupI, e_dupA, e_dup2, e_getI, e_getA, e_putI, e_putZ, e_getstatic, e_iaload, e_iastore, e_aaload10, e_alen10, e_aaload11, e_alen11, e_aaload12, e_alen12, e_aaload13, e_alen13, e_alen, e_invokevirtual, e_invokevirtualB, e_invokestatic, e_invokestaticB, ct_0, ct_i, ct_a, ct_l, os_0, os_s, rc_0, rc_s, sl_0, sl_i, sl_a, sl_l, simprocAttr, ix, z_em, up_eq, up_j, Nat.le_refl, true_or, or_true, true_and, and_true, and_self, or_self, beq_self_eq_true, if_true, if_false, ite_self, ca_f, ca_t, aLen, Int32.lt_iff_toInt_lt, Int32.le_iff_toInt_le, z_ite, z_iten, z_ite1, ite_not, not_true_eq_false, not_false_eq_true, false_and, and_false, false_or, or_false, b_max, b_min, b_minL, b_absL, b_ixD, b_ixH, b_copy, tk_0, tk_s, dr_0, dr_s, pu_s, pu_n, ca_0, ca_1, clr_0, clr_s, e_nop, e_goto, e_if_eq, e_if_ne, e_if_lt, e_if_ge, e_if_gt, e_if_le, e_ic_eq, e_ic_ne, e_ic_lt, e_ic_ge, e_ic_gt, e_ic_le, e_tsw, e_lsw, sw_0, sw_s, e_iret, e_zret, e_lret, e_aret, e_ret, en_0, en_n, en_i, en_a, en_l, List.getElem?_cons_zero, List.getElem?_cons_succ, List.set_cons_zero, List.set_cons_succ, len_s, List.length_nil, ne_eq, is, cs, bs, zs, hs', nk, nR, h1, a1', hy', ad_s hs4 (show k < 24 by omega), ia, ca, if_pos ba, hnk, lgl, lgg, if_pos q1, if_neg q2, ← nI_succ]
    · by_cases q2 : (1000 : Int64) < de.toInt64 - (nu k).toInt64
      · simp -implicitDefEqProofs only [u_187_0, u_187_2, u_187_3, u_187_4, u_187_5, u_187_6, u_187_7, u_187_8, u_187_9, e_iload_n, e_iload, e_lload_n, e_lload, e_aload_n, e_aload, e_istore_n, e_istore, e_astore_n, e_astore, e_lstore_n, e_lstore, e_iinc, e_iconst, e_bipush, e_sipush, e_ldc_w, e_ldc, e_ldcS, e_lconst, e_ldc2_w, e_iadd, e_isub, e_imul, e_iand, e_ixor, e_ishl, e_ishr, e_iushr, e_idiv, e_irem, e_ineg, e_i2b, e_i2s, e_i2c, e_ladd, e_lsub, e_lmul, e_land, e_lor, e_ldiv, e_lrem, e_lneg, e_lshl, e_lshr, e_lushr, e_i2l, e_l2i, e_lcmp, e_dupI, e_dupA, e_dup2, e_getI, e_getA, e_putI, e_putZ, e_getstatic, e_iaload, e_iastore, e_aaload10, e_alen10, e_aaload11, e_alen11, e_aaload12, e_alen12, e_aaload13, e_alen13, e_alen, e_invokevirtual, e_invokevirtualB, e_invokestatic, e_invokestaticB, ct_0, ct_i, ct_a, ct_l, os_0, os_s, rc_0, rc_s, sl_0, sl_i, sl_a, sl_l, simprocAttr, ix, z_em, up_eq, up_j, Nat.le_refl, true_or, or_true, true_and, and_true, and_self, or_self, beq_self_eq_true, if_true, if_false, ite_self, ca_f, ca_t, aLen, Int32.lt_iff_toInt_lt, Int32.le_iff_toInt_le, z_ite, z_iten, z_ite1, ite_not, not_true_eq_false, not_false_eq_true, false_and, and_false, false_or, or_false, b_max, b_min, b_minL, b_absL, b_ixD, b_ixH, b_copy, tk_0, tk_s, dr_0, dr_s, pu_s, pu_n, ca_0, ca_1, clr_0, clr_s, e_nop, e_goto, e_if_eq, e_if_ne, e_if_lt, e_if_ge, e_if_gt, e_if_le, e_ic_eq, e_ic_ne, e_ic_lt, e_ic_ge, e_ic_gt, e_ic_le, e_tsw, e_lsw, sw_0, sw_s, e_iret, e_zret, e_lret, e_aret, e_ret, en_0, en_n, en_i, en_a, en_l, List.getElem?_cons_zero, List.getElem?_cons_succ, List.set_cons_zero, List.set_cons_succ, len_s, List.length_nil, ne_eq, is, cs, bs, zs, hs', nk, nR, h1, a1', hy', ad_s hs4 (show k < 24 by omega), ia, ca, if_pos ba, hnk, lgl, lgg, if_neg q1, if_pos q2, ← nI_succ]
      · simp -implicitDefEqProofs only [u_187_0, u_187_2, u_187_3, u_187_4, u_187_5, u_187_6, u_187_7, u_187_8, u_187_9, e_iload_n, e_iload, e_lload_n, e_lload, e_aload_n, e_aload, e_istore_n, e_istore, e_astore_n, e_astore, e_lstore_n, e_lstore, e_iinc, e_iconst, e_bipush, e_sipush, e_ldc_w, e_ldc, e_ldcS, e_lconst, e_ldc2_w, e_iadd, e_isub, e_imul, e_iand, e_ixor, e_ishl, e_ishr, e_iushr, e_idiv, e_irem, e_ineg, e_i2b, e_i2s, e_i2c, e_ladd, e_lsub, e_lmul, e_land, e_lor, e_ldiv, e_lrem, e_lneg, e_lshl, e_lshr, e_lushr, e_i2l, e_l2i, e_lcmp, e_dupI, e_dupA, e_dup2, e_getI, e_getA, e_putI, e_putZ, e_getstatic, e_iaload, e_iastore, e_aaload10, e_alen10, e_aaload11, e_alen11, e_aaload12, e_alen12, e_aaload13, e_alen13, e_alen, e_invokevirtual, e_invokevirtualB, e_invokestatic, e_invokestaticB, ct_0, ct_i, ct_a, ct_l, os_0, os_s, rc_0, rc_s, sl_0, sl_i, sl_a, sl_l, simprocAttr, ix, z_em, up_eq, up_j, Nat.le_refl, true_or, or_true, true_and, and_true, and_self, or_self, beq_self_eq_true, if_true, if_false, ite_self, ca_f, ca_t, aLen, Int32.lt_iff_toInt_lt, Int32.le_iff_toInt_le, z_ite, z_iten, z_ite1, ite_not, not_true_eq_false, not_false_eq_true, false_and, and_false, false_or, or_false, b_max, b_min, b_minL, b_absL, b_ixD, b_ixH, b_copy, tk_0, tk_s, dr_0, dr_s, pu_s, pu_n, ca_0, ca_1, clr_0, clr_s, e_nop, e_goto, e_if_eq, e_if_ne, e_if_lt, e_if_ge, e_if_gt, e_if_le, e_ic_eq, e_ic_ne, e_ic_lt, e_ic_ge, e_ic_gt, e_ic_le, e_tsw, e_lsw, sw_0, sw_s, e_iret, e_zret, e_lret, e_aret, e_ret, en_0, en_n, en_i, en_a, en_l, List.getElem?_cons_zero, List.getElem?_cons_succ, List.set_cons_zero, List.set_cons_succ, len_s, List.length_nil, ne_eq, is, cs, bs, zs, hs', nk, nR, h1, a1', hy', ad_s hs4 (show k < 24 by omega), ia, ca, if_pos ba, hnk, lgl, lgg, if_neg q1, if_neg q2, ← nI_succ]
theorem y_offBy {d s N w : Nat} {μ : Mem} {nu : Nat → Int32} (hw : w < 4) (hs4 : s < 4) (hN : N ≤ 24) (hW : WFV (vM 113 μ)) (hD : WFD (vM 113 μ)) (hm : (vM 113 μ 0 2).toInt + N ≤ 15001) (hL : LWM μ) (hs : μ 124 s = nI N) (hn : ∀ i, i < N → μ 125 (24 * s + i) = nu i) : ∃ μ', cl d 187 [vR 8 112, vI (nI s), vI (nI w)] μ = some (some (vI (offP nu (fun i => timesP (minP (mn 99999) (txM μ) (-1)) i (vM 113 μ) (1 + w) 0) N)), μ') ∧ FrA μ μ' := by
  have r1 : cpR μ 113 115 504 113 = μ 113 := cp_o (by decide)
  have v1 : vM 113 (cpR μ 113 115 504) = vM 113 μ := vM_congr r1
  obtain ⟨μ2, a1, a2⟩ := k_offBy (d := d) (s := s) (N := N) (w := w) (tx := txM μ) (V0 := vM 113 μ) (μ0 := cpR μ 113 115 504) (nu := nu) hw hs4 hN hW hD hm (LWM_congr r1 hL) (txM_congr r1) (by rw [cp_o (by decide)]; exact hs) (fun i hi => by rw [cp_o (by decide)]; exact hn i hi) N 0 _ none (by omega) FrM.rf v1
  refine ⟨_, ?_, look_back a2⟩
  have hcar : cl d 108 [Sum.inr (Sum.inr (604, 113)), Sum.inr (Sum.inr (604, 115))] μ = _ := y_carry (by decide)
  rw [← a1]
  simp -implicitDefEqProofs only [cl_187, u_187_0, e_iload_n, e_iload, e_lload_n, e_lload, e_aload_n, e_aload, e_istore_n, e_istore, e_astore_n, e_astore, e_lstore_n, e_lstore, e_iinc, e_iconst, e_bipush, e_sipush, e_ldc_w, e_ldc, e_ldcS, e_lconst, e_ldc2_w, e_iadd, e_isub, e_imul, e_iand, e_ixor, e_ishl, e_ishr, e_iushr, e_idiv, e_irem, e_ineg, e_i2b, e_i2s, e_i2c, e_ladd, e_lsub, e_lmul, e_land, e_lor, e_ldiv, e_lrem, e_lneg, e_lshl, e_lshr, e_lushr, e_i2l, e_l2i, e_lcmp, e_dupI, e_dupA, e_dup2, e_getI, e_getA, e_putI, e_putZ, e_getstatic, e_iaload, e_iastore, e_aaload10, e_alen10, e_aaload11, e_alen11, e_aaload12, e_alen12, e_aaload13, e_alen13, e_alen, e_invokevirtual, e_invokevirtualB, e_invokestatic, e_invokestaticB, ct_0, ct_i, ct_a, ct_l, os_0, os_s, rc_0, rc_s, sl_0, sl_i, sl_a, sl_l, simprocAttr, ix, z_em, up_eq, up_j, Nat.le_refl, true_or, or_true, true_and, and_true, and_self, or_self, beq_self_eq_true, if_true, if_false, ite_self, ca_f, ca_t, aLen, Int32.lt_iff_toInt_lt, Int32.le_iff_toInt_le, z_ite, z_iten, z_ite1, ite_not, not_true_eq_false, not_false_eq_true, false_and, and_false, false_or, or_false, b_max, b_min, b_minL, b_absL, b_ixD, b_ixH, b_copy, tk_0, tk_s, dr_0, dr_s, pu_s, pu_n, ca_0, ca_1, clr_0, clr_s, e_nop, e_goto, e_if_eq, e_if_ne, e_if_lt, e_if_ge, e_if_gt, e_if_le, e_ic_eq, e_ic_ne, e_ic_lt, e_ic_ge, e_ic_gt, e_ic_le, e_tsw, e_lsw, sw_0, sw_s, e_iret, e_zret, e_lret, e_aret, e_ret, en_0, en_n, en_i, en_a, en_l, List.getElem?_cons_zero, List.getElem?_cons_succ, List.set_cons_zero, List.set_cons_succ, len_s, List.length_nil, ne_eq, hcar]
  rfl
/-- the end without a break -/
theorem y_endWithout {d w r : Nat} {n : Int32} {μ : Mem} (hw : w < 4) (hr : r < 8) (hL : LWM μ) (hW : WFV (vM 113 μ)) (hD : WFD (vM 113 μ)) (h0 : 0 ≤ n.toInt ∧ n.toInt ≤ 10000) (hm : (vM 113 μ 0 2).toInt + n.toInt ≤ 15001) (h6 : vM 113 μ (10 + r) 6 = 0) : ∃ μ', cl d 164 [vR 8 112, vI (nI w), vI n, vI (nI r)] μ = some (some (vI (timesP (minP (mn 99999) (txM μ) (-1)) n.toNatClampNeg (up (vM 113 μ) (10 + r) 6 1) (1 + w) 7)), μ') ∧ FrA μ μ' := by
  have v1 : vM 113 (up μ 113 (106 + 8 * r + 6) 1) = up (vM 113 μ) (10 + r) 6 1 := umr hr (by decide)
  have f1 : FrM μ (up μ 113 (106 + 8 * r + 6) 1) := FrM.rf.up (by omega)
  have d1 : WFD (up (vM 113 μ) (10 + r) 6 1) := ⟨fun x hx => by rw [up_j (by decide), up_j (by decide)]; exact hD.1 x hx, by rw [up_o (by omega)]; exact hD.2⟩
  obtain ⟨μ2, a1, a2⟩ := y_endBy (d := d) (w := w) (n := n) (μ := up μ 113 (106 + 8 * r + 6) 1) hw (f1.lw hL) (by rw [v1]; exact wf_6 hW hr (Or.inr rfl)) (by rw [v1]; exact d1) h0 (by rw [v1, up_o (by omega)]; exact hm)
  rw [v1, f1.tx] at a1
  have a1' : cl d 163 [Sum.inr (Sum.inr (8, 112)), vI (nI w), vI n] (up μ 113 (106 + 8 * r + 6) 1) = _ := a1
  have ea : 106 + 8 * nI r + 6 = nI (106 + 8 * r + 6) := ad_r hr (by decide) rfl
  have iR : (nI (106 + 8 * r + 6)).toInt = (106 + 8 * r + 6 : Nat) := nI_toInt (by omega)
  have dR : (nI (106 + 8 * r + 6)).toNatClampNeg = 106 + 8 * r + 6 := ix_nI (by omega)
  have bR : (0 : Int) ≤ ((106 + 8 * r + 6 : Nat) : Int) ∧ ((106 + 8 * r + 6 : Nat) : Int) < 504 := by omega
  refine ⟨up μ2 113 (106 + 8 * r + 6) 0, ?_, fun o h1 h2 h3 => ?_⟩
  · simp -implicitDefEqProofs only [cl_164, u_164_0, e_iload_n, e_iload, e_lload_n, e_lload, e_aload_n, e_aload, e_istore_n, e_istore, e_astore_n, e_astore, e_lstore_n, e_lstore, e_iinc, e_iconst, e_bipush, e_sipush, e_ldc_w, e_ldc, e_ldcS, e_lconst, e_ldc2_w, e_iadd, e_isub, e_imul, e_iand, e_ixor, e_ishl, e_ishr, e_iushr, e_idiv, e_irem, e_ineg, e_i2b, e_i2s, e_i2c, e_ladd, e_lsub, e_lmul, e_land, e_lor, e_ldiv, e_lrem, e_lneg, e_lshl, e_lshr, e_lushr, e_i2l, e_l2i, e_lcmp, e_dupI, e_dupA, e_dup2, e_getI, e_getA, e_putI, e_putZ, e_getstatic, e_iaload, e_iastore, e_aaload10, e_alen10, e_aaload11, e_alen11, e_aaload12, e_alen12, e_aaload13, e_alen13, e_alen, e_invokevirtual, e_invokevirtualB, e_invokestatic, e_invokestaticB, ct_0, ct_i, ct_a, ct_l, os_0, os_s, rc_0, rc_s, sl_0, sl_i, sl_a, sl_l, simprocAttr, ix, z_em, up_eq, up_j, Nat.le_refl, true_or, or_true, true_and, and_true, and_self, or_self, beq_self_eq_true, if_true, if_false, ite_self, ca_f, ca_t, aLen, Int32.lt_iff_toInt_lt, Int32.le_iff_toInt_le, z_ite, z_iten, z_ite1, ite_not, not_true_eq_false, not_false_eq_true, false_and, and_false, false_or, or_false, b_max, b_min, b_minL, b_absL, b_ixD, b_ixH, b_copy, tk_0, tk_s, dr_0, dr_s, pu_s, pu_n, ca_0, ca_1, clr_0, clr_s, e_nop, e_goto, e_if_eq, e_if_ne, e_if_lt, e_if_ge, e_if_gt, e_if_le, e_ic_eq, e_ic_ne, e_ic_lt, e_ic_ge, e_ic_gt, e_ic_le, e_tsw, e_lsw, sw_0, sw_s, e_iret, e_zret, e_lret, e_aret, e_ret, en_0, en_n, en_i, en_a, en_l, List.getElem?_cons_zero, List.getElem?_cons_succ, List.set_cons_zero, List.set_cons_succ, len_s, List.length_nil, ne_eq, ea, iR, dR, if_pos bR, a1']
  · by_cases q : o = 113
    · subst q
      funext c
      by_cases qc : c = 106 + 8 * r + 6
      · subst qc
        rw [up_eq]
        exact (((mr (m := 113) (μ := μ) hr (show 6 < 8 by decide)).trans h6)).symm
      · rw [up_j qc, a2 113 (by decide) (by decide) (by decide), up_j qc]
    · rw [up_ne q, a2 o h1 h2 h3, up_ne q]
