/-! THE MODEL'S TEXTS, worked out. -/
theorem nIa {a b : Nat} (h : a + b < 2147483648) : nI a + nI b = nI (a + b) := by
  apply Int32.toInt_inj.mp
  have e1 := nI_toInt (show a < 2147483648 by omega)
  have e2 := nI_toInt (show b < 2147483648 by omega)
  rw [ta (by omega) (by omega), nI_toInt h, e1, e2]
  omega
theorem nIm {a b : Nat} (h : a * b < 2147483648) (ha : a < 2147483648) (hb : b < 2147483648) : nI a * nI b = nI (a * b) := by
  apply Int32.toInt_inj.mp
  have e1 := nI_toInt ha
  have e2 := nI_toInt hb
  have h3 : (0 : Int) ≤ (a : Int) * (b : Int) := Int.mul_nonneg (by omega) (by omega)
  have h5 : ((a * b : Nat) : Int) < 2147483648 := by generalize a * b = c at h; omega
  have h4 : (a : Int) * (b : Int) < 2147483648 := by rw [← Int.natCast_mul]; exact h5
  rw [tm (by rw [e1, e2]; omega) (by rw [e1, e2]; omega), nI_toInt h, e1, e2]
  exact (Int.natCast_mul a b).symm
theorem ad_t {u : Nat} (hu : u < 2) : 170 + 125 * nI u = nI (170 + 125 * u) := by
  rw [show (125 : Int32) = nI 125 from rfl, nIm (by omega) (by omega) (by omega), show (170 : Int32) = nI 170 from rfl, nIa (by omega)]
theorem ad_w {t k c : Nat} (ht : t < 1000) (hk : k < 1000) (hc : c < 1000) : nI t + nI c + 2 * nI k = nI (t + c + 2 * k) := by
  rw [show (2 : Int32) = nI 2 from rfl, nIm (by omega) (by omega) (by omega), nIa (by omega), nIa (by omega)]
def nmU (u : Nat) (v : Int32) : Int32 := if v = 100 then 0 else if u = 0 then (if v = 116 then 1 else if v = 110 then 2 else 3) else (if v = 104 then 1 else 2)
def okN (u : Nat) (v : Int32) : Prop := v = 100 ∨ (u = 0 ∧ (v = 116 ∨ v = 110 ∨ v = 109)) ∨ (u = 1 ∧ (v = 104 ∨ v = 108))
def okG (c : Int32) : Prop := c = 37 ∨ c = 38 ∨ c = 42 ∨ c = 43 ∨ c = 45 ∨ c = 47 ∨ c = 60 ∨ c = 61 ∨ c = 62 ∨ c = 124
def mkM (u : Nat) (what v : Int32) : Int32 := if what = 0 then v else if what = 1 then 20000 + nmU u v else if what = 2 then 10033 else 10000 + v
def codeM (g : Nat → Int32) (u : Nat) : Nat → Int32 := fun k => mkM u (g (170 + 125 * u + 1 + 2 * k)) (g (170 + 125 * u + 2 + 2 * k))
theorem stepP_ln {a1 a2 a3 a4 c1 c2 c3 c4 mk : Int32} {st st' : List Int32} (h : st.length = st'.length) : (stepP a1 a2 a3 a4 st mk).length = (stepP c1 c2 c3 c4 st' mk).length := by
  unfold stepP
  by_cases q : mk = 10033
  · rw [if_pos q, if_pos q]
    rcases st with _ | ⟨x, r⟩ <;> rcases st' with _ | ⟨x', r'⟩ <;> simp at h ⊢
    exact h
  · rw [if_neg q, if_neg q]
    by_cases q2 : 10000 ≤ mk.toInt ∧ mk.toInt < 20000
    · rw [if_pos q2, if_pos q2]
      rcases st with _ | ⟨x, _ | ⟨y, r⟩⟩ <;> rcases st' with _ | ⟨x', _ | ⟨y', r'⟩⟩ <;> simp at h ⊢
      exact h
    · rw [if_neg q2, if_neg q2, h]
      by_cases q3 : st'.length < 60
      · rw [if_pos q3, if_pos q3]
        simp [h]
      · rw [if_neg q3, if_neg q3, h]
theorem runP_ln {a1 a2 a3 a4 : Int32} {f : Nat → Int32} : ∀ n, (runP a1 a2 a3 a4 f n).length = (runP 0 0 0 0 f n).length := by
  intro n
  induction n with
  | zero => rfl
  | succ n ih => exact stepP_ln ih
/-- a text as a row of steps that can be worked out -/
def TVM (g : Nat → Int32) (u : Nat) (N : Nat) : Prop := ∀ k, k < N →
  (g (170 + 125 * u + 1 + 2 * k) = 0 ∧ 0 ≤ (g (170 + 125 * u + 2 + 2 * k)).toInt ∧ (g (170 + 125 * u + 2 + 2 * k)).toInt ≤ 9999) ∨
  (g (170 + 125 * u + 1 + 2 * k) = 1 ∧ okN u (g (170 + 125 * u + 2 + 2 * k))) ∨
  (g (170 + 125 * u + 1 + 2 * k) = 2 ∧ 1 ≤ (runP 0 0 0 0 (codeM g u) k).length) ∨
  (g (170 + 125 * u + 1 + 2 * k) = 3 ∧ okG (g (170 + 125 * u + 2 + 2 * k)) ∧ 2 ≤ (runP 0 0 0 0 (codeM g u) k).length)
theorem i_divm {x : Int32} : x / -1 = -x := by
  apply Int32.toInt_inj.mp
  rw [Int32.toInt_div, show (-1 : Int32).toInt = -1 from by decide, Int.tdiv_neg, Int.tdiv_one, Int32.toInt_neg]
theorem i_remm {x : Int32} : x - -x * -1 = 0 := by
  rw [Int32.mul_neg, Int32.mul_one, Int32.neg_neg, Int32.sub_self]
theorem y_joined {d : Nat} {c x y : Int32} {μ : Mem} (h : okG c) : cl d 143 [vI c, vI x, vI y] μ = some (some (vI (joinP c x y)), μ) := by
  have hdiv : ∀ z w : Int32, (if y = 0 then (some (some (vI 0), μ) : Rs) else if y = -1 then some (some (vI z), μ) else if y = 0 then none else some (some (vI w), μ)) = if y = 0 then some (some (vI 0), μ) else if y = -1 then some (some (vI z), μ) else some (some (vI w), μ) := fun z w => by
    by_cases q : y = 0
    · rw [if_pos q, if_pos q]
    · rw [if_neg q, if_neg q, if_neg q]
  unfold joinP
  rcases h with h | h | h | h | h | h | h | h | h | h <;> subst h
  all_goals simp -implicitDefEqProofs only [cl_143, u_143_0, u_143_1, u_143_2, u_143_3, u_143_4, u_143_5, u_143_6, u_143_7, u_143_8, u_143_9, u_143_10, u_143_11, u_143_12, u_143_13, u_143_14, u_143_15, u_143_16, u_143_17, u_143_18, u_143_19, u_143_20, u_143_21, u_143_22, u_143_23, u_143_24, u_143_25, u_143_26, u_143_27, u_143_28, u_143_29, u_143_30, u_143_31, u_143_32, u_143_33, u_143_34, u_143_35, u_143_36, e_iload_n, e_iload, e_lload_n, e_lload, e_aload_n, e_aload, e_istore_n, e_istore, e_astore_n, e_astore, e_lstore_n, e_lstore, e_iinc, e_iconst, e_bipush, e_sipush, e_ldc_w, e_ldc, e_ldcS, e_lconst, e_ldc2_w, e_iadd, e_isub, e_imul, e_iand, e_ixor, e_ishl, e_ishr, e_iushr, e_idiv, e_irem, e_ineg, e_i2b, e_i2s, e_i2c, e_ladd, e_lsub, e_lmul, e_land, e_lor, e_ldiv, e_lrem, e_lneg, e_lshl, e_lshr, e_lushr, e_i2l, e_l2i, e_lcmp, e_dupI, e_dupA, e_dup2, e_getI, e_getA, e_putI, e_putZ, e_getstatic, e_iaload, e_iastore, e_aaload10, e_alen10, e_aaload11, e_alen11, e_aaload12, e_alen12, e_aaload13, e_alen13, e_alen, e_invokevirtual, e_invokevirtualB, e_invokestatic, e_invokestaticB, ct_0, ct_i, ct_a, ct_l, os_0, os_s, rc_0, rc_s, sl_0, sl_i, sl_a, sl_l, simprocAttr, ix, z_em, up_eq, up_j, Nat.le_refl, true_or, or_true, true_and, and_true, and_self, or_self, beq_self_eq_true, if_true, if_false, ite_self, ca_f, ca_t, aLen, Int32.lt_iff_toInt_lt, Int32.le_iff_toInt_le, z_ite, z_iten, z_ite1, ite_not, not_true_eq_false, not_false_eq_true, false_and, and_false, false_or, or_false, b_max, b_min, b_minL, b_absL, b_ixD, b_ixH, b_copy, tk_0, tk_s, dr_0, dr_s, pu_s, pu_n, ca_0, ca_1, clr_0, clr_s, e_nop, e_goto, e_if_eq, e_if_ne, e_if_lt, e_if_ge, e_if_gt, e_if_le, e_ic_eq, e_ic_ne, e_ic_lt, e_ic_ge, e_ic_gt, e_ic_le, e_tsw, e_lsw, sw_0, sw_s, e_iret, e_zret, e_lret, e_aret, e_ret, en_0, en_n, en_i, en_a, en_l, List.getElem?_cons_zero, List.getElem?_cons_succ, List.set_cons_zero, List.set_cons_succ, len_s, List.length_nil, ne_eq, hdiv]
  all_goals (try by_cases y0 : y = 0)
  all_goals (try subst y0)
  all_goals (try by_cases y1 : y = -1)
  all_goals (try subst y1)
  all_goals (try simp only [i_divm, i_remm])
  all_goals (try rfl)
  all_goals (repeat' split)
  all_goals rfl
set_option maxRecDepth 100000 in
set_option maxHeartbeats 4000000 in
theorem l_worked {d u N : Nat} {a1 a2 a3 a4 : Int32} {μ0 : Mem} (hu : u < 2) (hN : N ≤ 60) (h1 : 1 ≤ (runP 0 0 0 0 (codeM (μ0 113) u) N).length) (hs : μ0 113 (170 + 125 * u) = nI N) (hT : TVM (μ0 113) u N) (hnm : ∀ v, okN u v → μ0 118 v.toNatClampNeg = namP (nmU u v) a1 a2 a3 a4) : ∀ (n k : Nat) (μ : Mem) (x5 x6 : Option AV), k + n = N → Ag1 119 μ0 μ → stkAt (μ 119) (runP a1 a2 a3 a4 (codeM (μ0 113) u) k) →
    ∃ μ', res d 144 1 [some (vR 8 112), some (vI (nI u)), some (vI (nI (170 + 125 * u))), some (vI (nI (runP a1 a2 a3 a4 (codeM (μ0 113) u) k).length)), some (vI (nI k)), x5, x6] [] μ = some (some (vI (evP a1 a2 a3 a4 (codeM (μ0 113) u) N)), μ') ∧ Ag1 119 μ0 μ' := by
  intro n
  induction n with
  | zero =>
    intro k μ x5 x6 hk hA hst
    have hk : k = N := by omega
    subst hk
    have hg : μ 113 = μ0 113 := hA 113 (by decide)
    have a0 : (nI (170 + 125 * u)).toInt = (170 + 125 * u : Nat) := nI_toInt (by omega)
    have c0 : (nI (170 + 125 * u)).toNatClampNeg = 170 + 125 * u := ix_nI (by omega)
    have b0 : (0 : Int) ≤ ((170 + 125 * u : Nat) : Int) ∧ ((170 + 125 * u : Nat) : Int) < 504 := by omega
    rw [u_144_1]
    simp -implicitDefEqProofs only [u_144_0, u_144_2, u_144_3, u_144_4, u_144_5, u_144_6, u_144_7, u_144_8, u_144_9, u_144_10, u_144_11, u_144_12, u_144_13, u_144_14, u_144_15, e_iload_n, e_iload, e_lload_n, e_lload, e_aload_n, e_aload, e_istore_n, e_istore, e_astore_n, e_astore, e_lstore_n, e_lstore, e_iinc, e_iconst, e_bipush, e_sipush, e_ldc_w, e_ldc, e_ldcS, e_lconst, e_ldc2_w, e_iadd, e_isub, e_imul, e_iand, e_ixor, e_ishl, e_ishr, e_iushr, e_idiv, e_irem, e_ineg, e_i2b, e_i2s, e_i2c, e_ladd, e_lsub, e_lmul, e_land, e_lor, e_ldiv, e_lrem, e_lneg, e_lshl, e_lshr, e_lushr, e_i2l, e_l2i, e_lcmp, e_dupI, e_dupA, e_dup2, e_getI, e_getA, e_putI, e_putZ, e_getstatic, e_iaload, e_iastore, e_aaload10, e_alen10, e_aaload11, e_alen11, e_aaload12, e_alen12, e_aaload13, e_alen13, e_alen, e_invokevirtual, e_invokevirtualB, e_invokestatic, e_invokestaticB, ct_0, ct_i, ct_a, ct_l, os_0, os_s, rc_0, rc_s, sl_0, sl_i, sl_a, sl_l, simprocAttr, ix, z_em, up_eq, up_j, Nat.le_refl, true_or, or_true, true_and, and_true, and_self, or_self, beq_self_eq_true, if_true, if_false, ite_self, ca_f, ca_t, aLen, Int32.lt_iff_toInt_lt, Int32.le_iff_toInt_le, z_ite, z_iten, z_ite1, ite_not, not_true_eq_false, not_false_eq_true, false_and, and_false, false_or, or_false, b_max, b_min, b_minL, b_absL, b_ixD, b_ixH, b_copy, tk_0, tk_s, dr_0, dr_s, pu_s, pu_n, ca_0, ca_1, clr_0, clr_s, e_nop, e_goto, e_if_eq, e_if_ne, e_if_lt, e_if_ge, e_if_gt, e_if_le, e_ic_eq, e_ic_ne, e_ic_lt, e_ic_ge, e_ic_gt, e_ic_le, e_tsw, e_lsw, sw_0, sw_s, e_iret, e_zret, e_lret, e_aret, e_ret, en_0, en_n, en_i, en_a, en_l, List.getElem?_cons_zero, List.getElem?_cons_succ, List.set_cons_zero, List.set_cons_succ, len_s, List.length_nil, ne_eq, hg, a0, c0, if_pos b0, hs, Int.lt_irrefl]
    refine ⟨μ, ?_, hA⟩
    unfold evP
    have h0 : runP a1 a2 a3 a4 (codeM (μ0 113) u) k ≠ [] := by
      intro q
      rw [← runP_ln (a1 := a1) (a2 := a2) (a3 := a3) (a4 := a4), q] at h1
      exact absurd h1 (by decide)
    rw [stkAt_last _ hst h0]
  | succ n ih =>
    intro k μ x5 x6 hk hA hst
    have hg : μ 113 = μ0 113 := hA 113 (by decide)
    have hg8 : μ 118 = μ0 118 := hA 118 (by decide)
    have a0 : (nI (170 + 125 * u)).toInt = (170 + 125 * u : Nat) := nI_toInt (by omega)
    have c0 : (nI (170 + 125 * u)).toNatClampNeg = 170 + 125 * u := ix_nI (by omega)
    have b0 : (0 : Int) ≤ ((170 + 125 * u : Nat) : Int) ∧ ((170 + 125 * u : Nat) : Int) < 504 := by omega
    have w1 : nI (170 + 125 * u + 1) + 2 * nI k = nI (170 + 125 * u + 1 + 2 * k) := by rw [nI_succ]; exact ad_w (c := 1) (by omega) (by omega) (by decide)
    have w2 : nI (170 + 125 * u) + 2 + 2 * nI k = nI (170 + 125 * u + 2 + 2 * k) := ad_w (c := 2) (by omega) (by omega) (by decide)
    have e1 : (nI (170 + 125 * u + 1 + 2 * k)).toInt = (170 + 125 * u + 1 + 2 * k : Nat) := nI_toInt (by omega)
    have e2 : (nI (170 + 125 * u + 2 + 2 * k)).toInt = (170 + 125 * u + 2 + 2 * k : Nat) := nI_toInt (by omega)
    have d1 : (nI (170 + 125 * u + 1 + 2 * k)).toNatClampNeg = 170 + 125 * u + 1 + 2 * k := ix_nI (by omega)
    have d2 : (nI (170 + 125 * u + 2 + 2 * k)).toNatClampNeg = 170 + 125 * u + 2 + 2 * k := ix_nI (by omega)
    have b1 : (0 : Int) ≤ ((170 + 125 * u + 1 + 2 * k : Nat) : Int) ∧ ((170 + 125 * u + 1 + 2 * k : Nat) : Int) < 504 := by omega
    have b2 : (0 : Int) ≤ ((170 + 125 * u + 2 + 2 * k : Nat) : Int) ∧ ((170 + 125 * u + 2 + 2 * k : Nat) : Int) < 504 := by omega
    have nk : (nI k).toInt = k := nI_toInt (by omega)
    have nN : (nI N).toInt = N := nI_toInt (by omega)
    have hkN : ((k : Nat) : Int) < (N : Int) := by omega
    have hlen := runP_len (a1 := a1) (a2 := a2) (a3 := a3) (a4 := a4) (f := codeM (μ0 113) u) k
    have hln := runP_ln (a1 := a1) (a2 := a2) (a3 := a3) (a4 := a4) (f := codeM (μ0 113) u) k
    have hTk := hT k (by omega)
    have ihk := ih (k + 1)
    have hR : runP a1 a2 a3 a4 (codeM (μ0 113) u) (k + 1) = stepP a1 a2 a3 a4 (runP a1 a2 a3 a4 (codeM (μ0 113) u) k) (mkM u (μ0 113 (170 + 125 * u + 1 + 2 * k)) (μ0 113 (170 + 125 * u + 2 + 2 * k))) := rfl
    rw [hR] at ihk
    rw [← hln] at hTk
    generalize hL : runP a1 a2 a3 a4 (codeM (μ0 113) u) k = st at *
    generalize hwh : μ0 113 (170 + 125 * u + 1 + 2 * k) = what at *
    generalize hv : μ0 113 (170 + 125 * u + 2 + 2 * k) = v at *
    have hnl : (nI st.length).toInt = st.length := nI_toInt (by omega)
    have e3 : (nI st.length).toNatClampNeg = st.length := ix_nI (by omega)
    have bs : (0 : Int) ≤ (st.length : Int) ∧ (st.length : Int) < 64 := by omega
    have push : ∀ z : Int32, stkAt (up μ 119 st.length z 119) (z :: st) := fun z => ⟨up_eq, stkAt_congr st (fun i hi => up_j (by omega)) hst⟩
    rw [u_144_1]
    rcases hTk with ⟨q, q2, q3⟩ | ⟨q, q2⟩ | ⟨q, q2⟩ | ⟨q, q2, q3⟩
    · subst q
      simp -implicitDefEqProofs only [u_144_0, u_144_2, u_144_3, u_144_4, u_144_5, u_144_6, u_144_7, u_144_8, u_144_9, u_144_10, u_144_11, u_144_12, u_144_13, u_144_14, u_144_15, e_iload_n, e_iload, e_lload_n, e_lload, e_aload_n, e_aload, e_istore_n, e_istore, e_astore_n, e_astore, e_lstore_n, e_lstore, e_iinc, e_iconst, e_bipush, e_sipush, e_ldc_w, e_ldc, e_ldcS, e_lconst, e_ldc2_w, e_iadd, e_isub, e_imul, e_iand, e_ixor, e_ishl, e_ishr, e_iushr, e_idiv, e_irem, e_ineg, e_i2b, e_i2s, e_i2c, e_ladd, e_lsub, e_lmul, e_land, e_lor, e_ldiv, e_lrem, e_lneg, e_lshl, e_lshr, e_lushr, e_i2l, e_l2i, e_lcmp, e_dupI, e_dupA, e_dup2, e_getI, e_getA, e_putI, e_putZ, e_getstatic, e_iaload, e_iastore, e_aaload10, e_alen10, e_aaload11, e_alen11, e_aaload12, e_alen12, e_aaload13, e_alen13, e_alen, e_invokevirtual, e_invokevirtualB, e_invokestatic, e_invokestaticB, ct_0, ct_i, ct_a, ct_l, os_0, os_s, rc_0, rc_s, sl_0, sl_i, sl_a, sl_l, simprocAttr, ix, z_em, up_eq, up_j, Nat.le_refl, true_or, or_true, true_and, and_true, and_self, or_self, beq_self_eq_true, if_true, if_false, ite_self, ca_f, ca_t, aLen, Int32.lt_iff_toInt_lt, Int32.le_iff_toInt_le, z_ite, z_iten, z_ite1, ite_not, not_true_eq_false, not_false_eq_true, false_and, and_false, false_or, or_false, b_max, b_min, b_minL, b_absL, b_ixD, b_ixH, b_copy, tk_0, tk_s, dr_0, dr_s, pu_s, pu_n, ca_0, ca_1, clr_0, clr_s, e_nop, e_goto, e_if_eq, e_if_ne, e_if_lt, e_if_ge, e_if_gt, e_if_le, e_ic_eq, e_ic_ne, e_ic_lt, e_ic_ge, e_ic_gt, e_ic_le, e_tsw, e_lsw, sw_0, sw_s, e_iret, e_zret, e_lret, e_aret, e_ret, en_0, en_n, en_i, en_a, en_l, List.getElem?_cons_zero, List.getElem?_cons_succ, List.set_cons_zero, List.set_cons_succ, len_s, List.length_nil, ne_eq, hg, a0, c0, if_pos b0, hs, nk, nN, hkN, w1, w2, e1, e2, d1, d2, if_pos b1, if_pos b2, hwh, hv, hnl, e3, if_pos bs, ← nI_succ]
      have hm : mkM u 0 v = v := if_pos rfl
      rw [hm] at ihk
      have t1 : (10033 : Int32).toInt = 10033 := rfl
      unfold stepP at ihk
      rw [if_neg (fun q => by rw [q] at q3; omega), if_neg (by omega), if_pos (by omega), if_pos (by omega)] at ihk
      exact ihk _ _ _ (by omega) hA.up (push v)
    · subst q
      have hv0 : 0 ≤ v.toInt ∧ v.toInt < 128 := by
        rcases q2 with q2 | ⟨_, q2 | q2 | q2⟩ | ⟨_, q2 | q2⟩ <;> subst q2 <;> decide
      simp -implicitDefEqProofs only [u_144_0, u_144_2, u_144_3, u_144_4, u_144_5, u_144_6, u_144_7, u_144_8, u_144_9, u_144_10, u_144_11, u_144_12, u_144_13, u_144_14, u_144_15, e_iload_n, e_iload, e_lload_n, e_lload, e_aload_n, e_aload, e_istore_n, e_istore, e_astore_n, e_astore, e_lstore_n, e_lstore, e_iinc, e_iconst, e_bipush, e_sipush, e_ldc_w, e_ldc, e_ldcS, e_lconst, e_ldc2_w, e_iadd, e_isub, e_imul, e_iand, e_ixor, e_ishl, e_ishr, e_iushr, e_idiv, e_irem, e_ineg, e_i2b, e_i2s, e_i2c, e_ladd, e_lsub, e_lmul, e_land, e_lor, e_ldiv, e_lrem, e_lneg, e_lshl, e_lshr, e_lushr, e_i2l, e_l2i, e_lcmp, e_dupI, e_dupA, e_dup2, e_getI, e_getA, e_putI, e_putZ, e_getstatic, e_iaload, e_iastore, e_aaload10, e_alen10, e_aaload11, e_alen11, e_aaload12, e_alen12, e_aaload13, e_alen13, e_alen, e_invokevirtual, e_invokevirtualB, e_invokestatic, e_invokestaticB, ct_0, ct_i, ct_a, ct_l, os_0, os_s, rc_0, rc_s, sl_0, sl_i, sl_a, sl_l, simprocAttr, ix, z_em, up_eq, up_j, Nat.le_refl, true_or, or_true, true_and, and_true, and_self, or_self, beq_self_eq_true, if_true, if_false, ite_self, ca_f, ca_t, aLen, Int32.lt_iff_toInt_lt, Int32.le_iff_toInt_le, z_ite, z_iten, z_ite1, ite_not, not_true_eq_false, not_false_eq_true, false_and, and_false, false_or, or_false, b_max, b_min, b_minL, b_absL, b_ixD, b_ixH, b_copy, tk_0, tk_s, dr_0, dr_s, pu_s, pu_n, ca_0, ca_1, clr_0, clr_s, e_nop, e_goto, e_if_eq, e_if_ne, e_if_lt, e_if_ge, e_if_gt, e_if_le, e_ic_eq, e_ic_ne, e_ic_lt, e_ic_ge, e_ic_gt, e_ic_le, e_tsw, e_lsw, sw_0, sw_s, e_iret, e_zret, e_lret, e_aret, e_ret, en_0, en_n, en_i, en_a, en_l, List.getElem?_cons_zero, List.getElem?_cons_succ, List.set_cons_zero, List.set_cons_succ, len_s, List.length_nil, ne_eq, hg, a0, c0, if_pos b0, hs, nk, nN, hkN, w1, w2, e1, e2, d1, d2, if_pos b1, if_pos b2, hwh, hv, hnl, e3, if_pos bs, if_pos hv0, hg8, hnm v q2, ← nI_succ]
      have hn3 : 0 ≤ (nmU u v).toInt ∧ (nmU u v).toInt ≤ 3 := by
        unfold nmU
        repeat' split
        all_goals decide
      have hm : mkM u 1 v = 20000 + nmU u v := rfl
      have t1 : (20000 + nmU u v).toInt = 20000 + (nmU u v).toInt := by rw [ta] <;> rw [show (20000 : Int32).toInt = 20000 from rfl] <;> omega
      have t2 : 20000 + nmU u v - 20000 = nmU u v := by rw [Int32.add_comm, Int32.add_sub_cancel]
      rw [hm] at ihk
      unfold stepP at ihk
      rw [if_neg (fun q => by have := congrArg Int32.toInt q; rw [t1, show (10033 : Int32).toInt = 10033 from rfl] at this; omega), if_neg (by omega), if_pos (by omega), if_neg (by omega), t2] at ihk
      exact ihk _ _ _ (by omega) hA.up (push _)
    · subst q
      have hm : mkM u 2 v = 10033 := rfl
      rw [hm] at ihk
      rcases st with _ | ⟨x, r⟩
      · exact absurd q2 (by decide)
      · have hl : (x :: r).length = r.length + 1 := rfl
        have f1 : nI (r.length + 1) - 1 = nI r.length := nI_pred _
        have f2 : (nI r.length).toInt = r.length := nI_toInt (by omega)
        have f3 : (nI r.length).toNatClampNeg = r.length := ix_nI (by omega)
        have bl : (0 : Int) ≤ (r.length : Int) ∧ (r.length : Int) < 64 := by omega
        have hx : μ 119 r.length = x := hst.1
        have key : ∀ z : Int32, stkAt (up μ 119 r.length z 119) (z :: r) := fun z => ⟨up_eq, stkAt_congr r (fun i hi => up_j (by omega)) hst.2⟩
        simp -implicitDefEqProofs only [u_144_0, u_144_2, u_144_3, u_144_4, u_144_5, u_144_6, u_144_7, u_144_8, u_144_9, u_144_10, u_144_11, u_144_12, u_144_13, u_144_14, u_144_15, e_iload_n, e_iload, e_lload_n, e_lload, e_aload_n, e_aload, e_istore_n, e_istore, e_astore_n, e_astore, e_lstore_n, e_lstore, e_iinc, e_iconst, e_bipush, e_sipush, e_ldc_w, e_ldc, e_ldcS, e_lconst, e_ldc2_w, e_iadd, e_isub, e_imul, e_iand, e_ixor, e_ishl, e_ishr, e_iushr, e_idiv, e_irem, e_ineg, e_i2b, e_i2s, e_i2c, e_ladd, e_lsub, e_lmul, e_land, e_lor, e_ldiv, e_lrem, e_lneg, e_lshl, e_lshr, e_lushr, e_i2l, e_l2i, e_lcmp, e_dupI, e_dupA, e_dup2, e_getI, e_getA, e_putI, e_putZ, e_getstatic, e_iaload, e_iastore, e_aaload10, e_alen10, e_aaload11, e_alen11, e_aaload12, e_alen12, e_aaload13, e_alen13, e_alen, e_invokevirtual, e_invokevirtualB, e_invokestatic, e_invokestaticB, ct_0, ct_i, ct_a, ct_l, os_0, os_s, rc_0, rc_s, sl_0, sl_i, sl_a, sl_l, simprocAttr, ix, z_em, up_eq, up_j, Nat.le_refl, true_or, or_true, true_and, and_true, and_self, or_self, beq_self_eq_true, if_true, if_false, ite_self, ca_f, ca_t, aLen, Int32.lt_iff_toInt_lt, Int32.le_iff_toInt_le, z_ite, z_iten, z_ite1, ite_not, not_true_eq_false, not_false_eq_true, false_and, and_false, false_or, or_false, b_max, b_min, b_minL, b_absL, b_ixD, b_ixH, b_copy, tk_0, tk_s, dr_0, dr_s, pu_s, pu_n, ca_0, ca_1, clr_0, clr_s, e_nop, e_goto, e_if_eq, e_if_ne, e_if_lt, e_if_ge, e_if_gt, e_if_le, e_ic_eq, e_ic_ne, e_ic_lt, e_ic_ge, e_ic_gt, e_ic_le, e_tsw, e_lsw, sw_0, sw_s, e_iret, e_zret, e_lret, e_aret, e_ret, en_0, en_n, en_i, en_a, en_l, List.getElem?_cons_zero, List.getElem?_cons_succ, List.set_cons_zero, List.set_cons_succ, len_s, List.length_nil, ne_eq, hg, a0, c0, if_pos b0, hs, nk, nN, hkN, w1, w2, e1, e2, d1, d2, if_pos b1, if_pos b2, hwh, hv, hnl, e3, if_pos bs, hl, f1, f2, f3, if_pos bl, hx, ← nI_succ]
        unfold stepP at ihk
        rw [if_pos rfl] at ihk
        by_cases hx0 : x = 0
        · simp only [if_pos hx0] at ihk
          rw [if_pos hx0]
          exact ihk _ _ _ (by omega) hA.up (key 1)
        · simp only [if_neg hx0] at ihk
          rw [if_neg hx0]
          exact ihk _ _ _ (by omega) hA.up (key 0)
    · subst q
      have hm : mkM u 3 v = 10000 + v := rfl
      have hvr : 37 ≤ v.toInt ∧ v.toInt ≤ 124 := by
        rcases q2 with q2 | q2 | q2 | q2 | q2 | q2 | q2 | q2 | q2 | q2 <;> subst q2 <;> decide
      have t1 : (10000 + v).toInt = 10000 + v.toInt := by rw [ta] <;> rw [show (10000 : Int32).toInt = 10000 from rfl] <;> omega
      have t2 : 10000 + v - 10000 = v := by rw [Int32.add_comm, Int32.add_sub_cancel]
      rw [hm] at ihk
      rcases st with _ | ⟨y, _ | ⟨x, r⟩⟩
      · exact absurd q3 (by decide)
      · exact absurd q3 (by simp)
      · have hl : (y :: x :: r).length = r.length + 1 + 1 := rfl
        have f0 : nI (r.length + 1 + 1) + -1 = nI (r.length + 1) := pk_m1 _
        have f1 : nI (r.length + 1) - 1 = nI r.length := nI_pred _
        have f2 : (nI r.length).toInt = r.length := nI_toInt (by omega)
        have f4 : (nI r.length).toNatClampNeg = r.length := ix_nI (by omega)
        have f5 : (nI (r.length + 1)).toInt = (r.length + 1 : Nat) := nI_toInt (by omega)
        have f6 : (nI (r.length + 1)).toNatClampNeg = r.length + 1 := ix_nI (by omega)
        have bl : (0 : Int) ≤ (r.length : Int) ∧ (r.length : Int) < 64 := by omega
        have bl1 : (0 : Int) ≤ ((r.length + 1 : Nat) : Int) ∧ ((r.length + 1 : Nat) : Int) < 64 := by omega
        have hy : μ 119 (r.length + 1) = y := hst.1
        have hx : μ 119 r.length = x := hst.2.1
        simp -implicitDefEqProofs only [u_144_0, u_144_2, u_144_3, u_144_4, u_144_5, u_144_6, u_144_7, u_144_8, u_144_9, u_144_10, u_144_11, u_144_12, u_144_13, u_144_14, u_144_15, e_iload_n, e_iload, e_lload_n, e_lload, e_aload_n, e_aload, e_istore_n, e_istore, e_astore_n, e_astore, e_lstore_n, e_lstore, e_iinc, e_iconst, e_bipush, e_sipush, e_ldc_w, e_ldc, e_ldcS, e_lconst, e_ldc2_w, e_iadd, e_isub, e_imul, e_iand, e_ixor, e_ishl, e_ishr, e_iushr, e_idiv, e_irem, e_ineg, e_i2b, e_i2s, e_i2c, e_ladd, e_lsub, e_lmul, e_land, e_lor, e_ldiv, e_lrem, e_lneg, e_lshl, e_lshr, e_lushr, e_i2l, e_l2i, e_lcmp, e_dupI, e_dupA, e_dup2, e_getI, e_getA, e_putI, e_putZ, e_getstatic, e_iaload, e_iastore, e_aaload10, e_alen10, e_aaload11, e_alen11, e_aaload12, e_alen12, e_aaload13, e_alen13, e_alen, e_invokevirtual, e_invokevirtualB, e_invokestatic, e_invokestaticB, ct_0, ct_i, ct_a, ct_l, os_0, os_s, rc_0, rc_s, sl_0, sl_i, sl_a, sl_l, simprocAttr, ix, z_em, up_eq, up_j, Nat.le_refl, true_or, or_true, true_and, and_true, and_self, or_self, beq_self_eq_true, if_true, if_false, ite_self, ca_f, ca_t, aLen, Int32.lt_iff_toInt_lt, Int32.le_iff_toInt_le, z_ite, z_iten, z_ite1, ite_not, not_true_eq_false, not_false_eq_true, false_and, and_false, false_or, or_false, b_max, b_min, b_minL, b_absL, b_ixD, b_ixH, b_copy, tk_0, tk_s, dr_0, dr_s, pu_s, pu_n, ca_0, ca_1, clr_0, clr_s, e_nop, e_goto, e_if_eq, e_if_ne, e_if_lt, e_if_ge, e_if_gt, e_if_le, e_ic_eq, e_ic_ne, e_ic_lt, e_ic_ge, e_ic_gt, e_ic_le, e_tsw, e_lsw, sw_0, sw_s, e_iret, e_zret, e_lret, e_aret, e_ret, en_0, en_n, en_i, en_a, en_l, List.getElem?_cons_zero, List.getElem?_cons_succ, List.set_cons_zero, List.set_cons_succ, len_s, List.length_nil, ne_eq, hg, a0, c0, if_pos b0, hs, nk, nN, hkN, w1, w2, e1, e2, d1, d2, if_pos b1, if_pos b2, hwh, hv, hnl, e3, if_pos bs, hl, f0, f1, f2, f4, f5, f6, if_pos bl, if_pos bl1, hx, hy, y_joined q2, ← nI_succ]
        unfold stepP at ihk
        rw [if_neg (fun q => by have := congrArg Int32.toInt q; rw [t1, show (10033 : Int32).toInt = 10033 from rfl] at this; rcases q2 with q2 | q2 | q2 | q2 | q2 | q2 | q2 | q2 | q2 | q2 <;> subst q2 <;> simp at this), if_pos (by omega)] at ihk
        simp only [t2] at ihk
        exact ihk _ _ _ (by omega) hA.up ⟨up_eq, stkAt_congr r (fun i hi => up_j (by omega)) hst.2.2⟩
theorem y_worked {d u N : Nat} {a1 a2 a3 a4 : Int32} {μ : Mem} (hu : u < 2) (hN : N ≤ 60) (h1 : 1 ≤ (runP 0 0 0 0 (codeM (μ 113) u) N).length) (hs : μ 113 (170 + 125 * u) = nI N) (hT : TVM (μ 113) u N) (hnm : ∀ v, okN u v → μ 118 v.toNatClampNeg = namP (nmU u v) a1 a2 a3 a4) :
    ∃ μ', cl d 144 [vR 8 112, vI (nI u)] μ = some (some (vI (evP a1 a2 a3 a4 (codeM (μ 113) u) N)), μ') ∧ Ag1 119 μ μ' := by
  obtain ⟨μ', h, hA⟩ := l_worked (d := d) (a1 := a1) (a2 := a2) (a3 := a3) (a4 := a4) hu hN h1 hs hT hnm N 0 μ none none (by omega) Ag1.rf trivial
  refine ⟨μ', ?_, hA⟩
  rw [← h]
  simp -implicitDefEqProofs only [cl_144, u_144_0, e_iload_n, e_iload, e_lload_n, e_lload, e_aload_n, e_aload, e_istore_n, e_istore, e_astore_n, e_astore, e_lstore_n, e_lstore, e_iinc, e_iconst, e_bipush, e_sipush, e_ldc_w, e_ldc, e_ldcS, e_lconst, e_ldc2_w, e_iadd, e_isub, e_imul, e_iand, e_ixor, e_ishl, e_ishr, e_iushr, e_idiv, e_irem, e_ineg, e_i2b, e_i2s, e_i2c, e_ladd, e_lsub, e_lmul, e_land, e_lor, e_ldiv, e_lrem, e_lneg, e_lshl, e_lshr, e_lushr, e_i2l, e_l2i, e_lcmp, e_dupI, e_dupA, e_dup2, e_getI, e_getA, e_putI, e_putZ, e_getstatic, e_iaload, e_iastore, e_aaload10, e_alen10, e_aaload11, e_alen11, e_aaload12, e_alen12, e_aaload13, e_alen13, e_alen, e_invokevirtual, e_invokevirtualB, e_invokestatic, e_invokestaticB, ct_0, ct_i, ct_a, ct_l, os_0, os_s, rc_0, rc_s, sl_0, sl_i, sl_a, sl_l, simprocAttr, ix, z_em, up_eq, up_j, Nat.le_refl, true_or, or_true, true_and, and_true, and_self, or_self, beq_self_eq_true, if_true, if_false, ite_self, ca_f, ca_t, aLen, Int32.lt_iff_toInt_lt, Int32.le_iff_toInt_le, z_ite, z_iten, z_ite1, ite_not, not_true_eq_false, not_false_eq_true, false_and, and_false, false_or, or_false, b_max, b_min, b_minL, b_absL, b_ixD, b_ixH, b_copy, tk_0, tk_s, dr_0, dr_s, pu_s, pu_n, ca_0, ca_1, clr_0, clr_s, e_nop, e_goto, e_if_eq, e_if_ne, e_if_lt, e_if_ge, e_if_gt, e_if_le, e_ic_eq, e_ic_ne, e_ic_lt, e_ic_ge, e_ic_gt, e_ic_le, e_tsw, e_lsw, sw_0, sw_s, e_iret, e_zret, e_lret, e_aret, e_ret, en_0, en_n, en_i, en_a, en_l, List.getElem?_cons_zero, List.getElem?_cons_succ, List.set_cons_zero, List.set_cons_succ, len_s, List.length_nil, ad_t hu]
  rfl
