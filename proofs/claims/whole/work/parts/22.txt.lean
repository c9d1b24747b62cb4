/-! TEXTS AS MARKS, worked out over a list. -/
def joinP (s a b : Int32) : Int32 := if s = 38 then (if a = 0 then 0 else if b = 0 then 0 else 1) else if s = 42 then a * b else if s = 43 then a + b else if s = 45 then a - b else if s = 47 then (if b = 0 then 0 else a / b) else if s = 60 then (if a.toInt < b.toInt then 1 else 0) else if s = 61 then (if a = b then 1 else 0) else if s = 62 then (if b.toInt < a.toInt then 1 else 0) else if s = 124 then (if a = 0 then (if b = 0 then 0 else 1) else 1) else (if b = 0 then 0 else a - a / b * b)
def namP (k a1 a2 a3 a4 : Int32) : Int32 := if k = 0 then a1 else if k = 1 then a2 else if k = 2 then a3 else a4
/-- one mark: the list's head is the stack's top -/
def stepP (a1 a2 a3 a4 : Int32) (st : List Int32) (mk : Int32) : List Int32 :=
  if mk = 10033 then (match st with
    | x :: r => (if x = 0 then 1 else 0) :: r
    | [] => [])
  else if 10000 ≤ mk.toInt ∧ mk.toInt < 20000 then (match st with
    | y :: x :: r => joinP (mk - 10000) x y :: r
    | _ => st)
  else if st.length < 60 then (if mk.toInt < 10000 then mk else namP (mk - 20000) a1 a2 a3 a4) :: st
  else st
def runP (a1 a2 a3 a4 : Int32) (f : Nat → Int32) : Nat → List Int32
  | 0 => []
  | n + 1 => stepP a1 a2 a3 a4 (runP a1 a2 a3 a4 f n) (f n)
def evP (a1 a2 a3 a4 : Int32) (f : Nat → Int32) (n : Nat) : Int32 := (runP a1 a2 a3 a4 f n).getLastD 0
theorem stepP_len {a1 a2 a3 a4 : Int32} {st : List Int32} {mk : Int32} : (stepP a1 a2 a3 a4 st mk).length ≤ st.length + 1 := by
  unfold stepP
  split
  · split <;> simp
  · split
    · split <;> simp
    · split <;> simp
theorem runP_len {a1 a2 a3 a4 : Int32} {f : Nat → Int32} : ∀ n, (runP a1 a2 a3 a4 f n).length ≤ n := by
  intro n
  induction n with
  | zero => exact Nat.le_refl _
  | succ n ih =>
    have := stepP_len (a1 := a1) (a2 := a2) (a3 := a3) (a4 := a4) (st := runP a1 a2 a3 a4 f n) (mk := f n)
    show (stepP _ _ _ _ _ _).length ≤ _
    omega
/-- a row of memory holds the list, its head topmost -/
def stkAt (g : Nat → Int32) : List Int32 → Prop
  | [] => True
  | x :: r => g r.length = x ∧ stkAt g r
theorem stkAt_congr {g g' : Nat → Int32} : ∀ (st : List Int32), (∀ i, i < st.length → g' i = g i) → stkAt g st → stkAt g' st := by
  intro st
  induction st with
  | nil => intro _ _; trivial
  | cons x r ih =>
    intro h hs
    exact ⟨(h _ (by simp)).trans hs.1, ih (fun i hi => h i (by simp; omega)) hs.2⟩
theorem stkAt_last {g : Nat → Int32} : ∀ (st : List Int32), stkAt g st → st ≠ [] → st.getLastD 0 = g 0 := by
  intro st
  induction st with
  | nil => intro _ h; exact absurd rfl h
  | cons x r ih =>
    intro hs _
    cases r with
    | nil => exact hs.1.symm
    | cons y r => 
      have := ih hs.2 (by simp)
      simpa using this
theorem x_named {d : Nat} {k a1 a2 a3 a4 : Int32} {μ : Mem} : cl d 3 [vI k, vI a1, vI a2, vI a3, vI a4] μ = some (some (vI (namP k a1 a2 a3 a4)), μ) := by
  simp only [cl_3, u_3_0, u_3_1, u_3_2, u_3_3, u_3_4, e_iload_n, e_iload, e_lload_n, e_lload, e_aload_n, e_aload, e_istore_n, e_istore, e_astore_n, e_astore, e_lstore_n, e_lstore, e_iinc, e_iconst, e_bipush, e_sipush, e_ldc_w, e_ldc, e_ldcS, e_lconst, e_ldc2_w, e_iadd, e_isub, e_imul, e_iand, e_ixor, e_ishl, e_ishr, e_iushr, e_idiv, e_irem, e_ineg, e_i2b, e_i2s, e_i2c, e_ladd, e_lsub, e_lmul, e_land, e_lor, e_ldiv, e_lrem, e_lneg, e_lshl, e_lshr, e_lushr, e_i2l, e_l2i, e_lcmp, e_dupI, e_dupA, e_dup2, e_getI, e_getA, e_putI, e_putZ, e_getstatic, e_iaload, e_iastore, e_aaload10, e_alen10, e_aaload11, e_alen11, e_aaload12, e_alen12, e_aaload13, e_alen13, e_alen, e_invokevirtual, e_invokevirtualB, e_invokestatic, e_invokestaticB, ct_0, ct_i, ct_a, ct_l, os_0, os_s, rc_0, rc_s, sl_0, sl_i, sl_a, sl_l, simprocAttr, ix, z_em, up_eq, up_j, Nat.le_refl, true_or, or_true, true_and, and_true, and_self, or_self, beq_self_eq_true, if_true, if_false, ite_self, ca_f, ca_t, aLen, Int32.lt_iff_toInt_lt, Int32.le_iff_toInt_le, z_ite, z_iten, z_ite1, ite_not, not_true_eq_false, not_false_eq_true, false_and, and_false, false_or, or_false, b_max, b_min, b_minL, b_absL, b_ixD, b_ixH, b_copy, tk_0, tk_s, dr_0, dr_s, pu_s, pu_n, ca_0, ca_1, clr_0, clr_s, e_nop, e_goto, e_if_eq, e_if_ne, e_if_lt, e_if_ge, e_if_gt, e_if_le, e_ic_eq, e_ic_ne, e_ic_lt, e_ic_ge, e_ic_gt, e_ic_le, e_tsw, e_lsw, sw_0, sw_s, e_iret, e_zret, e_lret, e_aret, e_ret, en_0, en_n, en_i, en_a, en_l, List.getElem?_cons_zero, List.getElem?_cons_succ, List.set_cons_zero, List.set_cons_succ, len_s, List.length_nil]
  unfold namP
  repeat' split
  all_goals rfl
theorem x_join {d : Nat} {s a b : Int32} {μ : Mem} : cl d 4 [vI s, vI a, vI b] μ = some (some (vI (joinP s a b)), μ) := by
  simp only [cl_4, u_4_0, u_4_1, u_4_2, u_4_3, u_4_4, u_4_5, u_4_6, u_4_7, u_4_8, u_4_9, u_4_10, u_4_11, u_4_12, u_4_13, u_4_14, u_4_15, u_4_16, u_4_17, u_4_18, u_4_19, u_4_20, u_4_21, u_4_22, u_4_23, u_4_24, u_4_25, u_4_26, u_4_27, u_4_28, u_4_29, u_4_30, u_4_31, u_4_32, u_4_33, e_iload_n, e_iload, e_lload_n, e_lload, e_aload_n, e_aload, e_istore_n, e_istore, e_astore_n, e_astore, e_lstore_n, e_lstore, e_iinc, e_iconst, e_bipush, e_sipush, e_ldc_w, e_ldc, e_ldcS, e_lconst, e_ldc2_w, e_iadd, e_isub, e_imul, e_iand, e_ixor, e_ishl, e_ishr, e_iushr, e_idiv, e_irem, e_ineg, e_i2b, e_i2s, e_i2c, e_ladd, e_lsub, e_lmul, e_land, e_lor, e_ldiv, e_lrem, e_lneg, e_lshl, e_lshr, e_lushr, e_i2l, e_l2i, e_lcmp, e_dupI, e_dupA, e_dup2, e_getI, e_getA, e_putI, e_putZ, e_getstatic, e_iaload, e_iastore, e_aaload10, e_alen10, e_aaload11, e_alen11, e_aaload12, e_alen12, e_aaload13, e_alen13, e_alen, e_invokevirtual, e_invokevirtualB, e_invokestatic, e_invokestaticB, ct_0, ct_i, ct_a, ct_l, os_0, os_s, rc_0, rc_s, sl_0, sl_i, sl_a, sl_l, simprocAttr, ix, z_em, up_eq, up_j, Nat.le_refl, true_or, or_true, true_and, and_true, and_self, or_self, beq_self_eq_true, if_true, if_false, ite_self, ca_f, ca_t, aLen, Int32.lt_iff_toInt_lt, Int32.le_iff_toInt_le, z_ite, z_iten, z_ite1, ite_not, not_true_eq_false, not_false_eq_true, false_and, and_false, false_or, or_false, b_max, b_min, b_minL, b_absL, b_ixD, b_ixH, b_copy, tk_0, tk_s, dr_0, dr_s, pu_s, pu_n, ca_0, ca_1, clr_0, clr_s, e_nop, e_goto, e_if_eq, e_if_ne, e_if_lt, e_if_ge, e_if_gt, e_if_le, e_ic_eq, e_ic_ne, e_ic_lt, e_ic_ge, e_ic_gt, e_ic_le, e_tsw, e_lsw, sw_0, sw_s, e_iret, e_zret, e_lret, e_aret, e_ret, en_0, en_n, en_i, en_a, en_l, List.getElem?_cons_zero, List.getElem?_cons_succ, List.set_cons_zero, List.set_cons_succ, len_s, List.length_nil]
  unfold joinP
  simp only [pv_ite, z_dd]
/-- what a method that works a text out may change: the row on which it piles -/
def Ag1 (o : Nat) (μ μ' : Mem) : Prop := ∀ a, a ≠ o → μ' a = μ a
theorem Ag1.rf {o : Nat} {μ : Mem} : Ag1 o μ μ := fun _ _ => rfl
theorem Ag1.up {o j : Nat} {v : Int32} {μ μ' : Mem} (h : Ag1 o μ μ') : Ag1 o μ (up μ' o j v) := fun a ha => (up_ne ha).trans (h a ha)
set_option maxRecDepth 100000 in
set_option maxHeartbeats 4000000 in
theorem l_workOut {d lo N : Nat} {a1 a2 a3 a4 : Int32} {μ0 : Mem} (hN : N ≤ 60) (hs : μ0 lo 2 = nI N) : ∀ (n k : Nat) (μ : Mem) (x7 : Option AV), k + n = N → Ag1 (lo + 2) μ0 μ → stkAt (μ (lo + 2)) (runP a1 a2 a3 a4 (μ0 (lo + 1)) k) →
    ∃ μ', res d 2 1 [some (vR 0 lo), some (vI a1), some (vI a2), some (vI a3), some (vI a4), some (vI (nI (runP a1 a2 a3 a4 (μ0 (lo + 1)) k).length)), some (vI (nI k)), x7] [] μ = some (some (vI (evP a1 a2 a3 a4 (μ0 (lo + 1)) N)), μ') ∧ Ag1 (lo + 2) μ0 μ' := by
  intro n
  induction n with
  | zero =>
    intro k μ x7 hk hA hst
    have hk : k = N := by omega
    subst hk
    have hz : μ lo 2 = nI k := (congrFun (hA lo (by omega)) 2).trans hs
    have hlen := runP_len (a1 := a1) (a2 := a2) (a3 := a3) (a4 := a4) (f := μ0 (lo + 1)) k
    rw [u_2_1]
    simp -implicitDefEqProofs only [u_2_0, u_2_2, u_2_3, u_2_4, u_2_5, u_2_6, u_2_7, u_2_8, u_2_9, u_2_10, u_2_11, u_2_12, u_2_13, u_2_14, u_2_15, u_2_16, u_2_17, u_2_18, u_2_19, u_2_20, u_2_21, u_2_22, e_iload_n, e_iload, e_lload_n, e_lload, e_aload_n, e_aload, e_istore_n, e_istore, e_astore_n, e_astore, e_lstore_n, e_lstore, e_iinc, e_iconst, e_bipush, e_sipush, e_ldc_w, e_ldc, e_ldcS, e_lconst, e_ldc2_w, e_iadd, e_isub, e_imul, e_iand, e_ixor, e_ishl, e_ishr, e_iushr, e_idiv, e_irem, e_ineg, e_i2b, e_i2s, e_i2c, e_ladd, e_lsub, e_lmul, e_land, e_lor, e_ldiv, e_lrem, e_lneg, e_lshl, e_lshr, e_lushr, e_i2l, e_l2i, e_lcmp, e_dupI, e_dupA, e_dup2, e_getI, e_getA, e_putI, e_putZ, e_getstatic, e_iaload, e_iastore, e_aaload10, e_alen10, e_aaload11, e_alen11, e_aaload12, e_alen12, e_aaload13, e_alen13, e_alen, e_invokevirtual, e_invokevirtualB, e_invokestatic, e_invokestaticB, ct_0, ct_i, ct_a, ct_l, os_0, os_s, rc_0, rc_s, sl_0, sl_i, sl_a, sl_l, simprocAttr, ix, z_em, up_eq, up_j, Nat.le_refl, true_or, or_true, true_and, and_true, and_self, or_self, beq_self_eq_true, if_true, if_false, ite_self, ca_f, ca_t, aLen, Int32.lt_iff_toInt_lt, Int32.le_iff_toInt_le, z_ite, z_iten, z_ite1, ite_not, not_true_eq_false, not_false_eq_true, false_and, and_false, false_or, or_false, b_max, b_min, b_minL, b_absL, b_ixD, b_ixH, b_copy, tk_0, tk_s, dr_0, dr_s, pu_s, pu_n, ca_0, ca_1, clr_0, clr_s, e_nop, e_goto, e_if_eq, e_if_ne, e_if_lt, e_if_ge, e_if_gt, e_if_le, e_ic_eq, e_ic_ne, e_ic_lt, e_ic_ge, e_ic_gt, e_ic_le, e_tsw, e_lsw, sw_0, sw_s, e_iret, e_zret, e_lret, e_aret, e_ret, en_0, en_n, en_i, en_a, en_l, List.getElem?_cons_zero, List.getElem?_cons_succ, List.set_cons_zero, List.set_cons_succ, len_s, List.length_nil, hz, nI_toInt (show k < 2147483648 by omega), nI_toInt (show (runP a1 a2 a3 a4 (μ0 (lo + 1)) k).length < 2147483648 by omega), Int.lt_irrefl]
    refine ⟨μ, ?_, hA⟩
    unfold evP
    by_cases h0 : runP a1 a2 a3 a4 (μ0 (lo + 1)) k = []
    · rw [if_pos (by rw [h0]; decide), h0]
      rfl
    · have : 0 < (runP a1 a2 a3 a4 (μ0 (lo + 1)) k).length := List.length_pos_iff.mpr h0
      rw [if_neg (by omega), stkAt_last _ hst h0]
      try rfl
  | succ n ih =>
    intro k μ x7 hk hA hst
    have hz : μ lo 2 = nI N := (congrFun (hA lo (by omega)) 2).trans hs
    have hf : μ (lo + 1) k = μ0 (lo + 1) k := congrFun (hA (lo + 1) (by omega)) k
    have hlen := runP_len (a1 := a1) (a2 := a2) (a3 := a3) (a4 := a4) (f := μ0 (lo + 1)) k
    have h1 : ((k : Nat) : Int) < (N : Int) := by omega
    have h2 : ((k : Nat) : Int) < 60 := by omega
    have h3 : (0 : Int) ≤ (k : Int) := by omega
    have h60 : (nI 60).toInt = 60 := nI_toInt (by decide)
    have ihk := ih (k + 1)
    have hR : runP a1 a2 a3 a4 (μ0 (lo + 1)) (k + 1) = stepP a1 a2 a3 a4 (runP a1 a2 a3 a4 (μ0 (lo + 1)) k) (μ0 (lo + 1) k) := rfl
    rw [hR] at ihk
    generalize hL : runP a1 a2 a3 a4 (μ0 (lo + 1)) k = st at *
    generalize hmk : μ0 (lo + 1) k = mk at *
    rw [u_2_1]
    have hnl : (nI st.length).toInt = st.length := nI_toInt (by omega)
    simp -implicitDefEqProofs only [u_2_0, u_2_2, u_2_3, u_2_4, u_2_5, u_2_6, u_2_7, u_2_8, u_2_9, u_2_10, u_2_11, u_2_12, u_2_13, u_2_14, u_2_15, u_2_16, u_2_17, u_2_18, u_2_19, u_2_20, u_2_21, u_2_22, e_iload_n, e_iload, e_lload_n, e_lload, e_aload_n, e_aload, e_istore_n, e_istore, e_astore_n, e_astore, e_lstore_n, e_lstore, e_iinc, e_iconst, e_bipush, e_sipush, e_ldc_w, e_ldc, e_ldcS, e_lconst, e_ldc2_w, e_iadd, e_isub, e_imul, e_iand, e_ixor, e_ishl, e_ishr, e_iushr, e_idiv, e_irem, e_ineg, e_i2b, e_i2s, e_i2c, e_ladd, e_lsub, e_lmul, e_land, e_lor, e_ldiv, e_lrem, e_lneg, e_lshl, e_lshr, e_lushr, e_i2l, e_l2i, e_lcmp, e_dupI, e_dupA, e_dup2, e_getI, e_getA, e_putI, e_putZ, e_getstatic, e_iaload, e_iastore, e_aaload10, e_alen10, e_aaload11, e_alen11, e_aaload12, e_alen12, e_aaload13, e_alen13, e_alen, e_invokevirtual, e_invokevirtualB, e_invokestatic, e_invokestaticB, ct_0, ct_i, ct_a, ct_l, os_0, os_s, rc_0, rc_s, sl_0, sl_i, sl_a, sl_l, simprocAttr, ix, z_em, up_eq, up_j, Nat.le_refl, true_or, or_true, true_and, and_true, and_self, or_self, beq_self_eq_true, if_true, if_false, ite_self, ca_f, ca_t, aLen, Int32.lt_iff_toInt_lt, Int32.le_iff_toInt_le, z_ite, z_iten, z_ite1, ite_not, not_true_eq_false, not_false_eq_true, false_and, and_false, false_or, or_false, b_max, b_min, b_minL, b_absL, b_ixD, b_ixH, b_copy, tk_0, tk_s, dr_0, dr_s, pu_s, pu_n, ca_0, ca_1, clr_0, clr_s, e_nop, e_goto, e_if_eq, e_if_ne, e_if_lt, e_if_ge, e_if_gt, e_if_le, e_ic_eq, e_ic_ne, e_ic_lt, e_ic_ge, e_ic_gt, e_ic_le, e_tsw, e_lsw, sw_0, sw_s, e_iret, e_zret, e_lret, e_aret, e_ret, en_0, en_n, en_i, en_a, en_l, List.getElem?_cons_zero, List.getElem?_cons_succ, List.set_cons_zero, List.set_cons_succ, len_s, List.length_nil, hz, hf, nI_toInt (show k < 2147483648 by omega), nI_toInt (show N < 2147483648 by omega), hnl, h1, h2, h3, h60, ix_nI (show k < 2147483648 by omega), x_named, x_join, ← nI_succ]
    by_cases c1 : mk = 10033
    · rw [if_pos c1]
      rcases st with _ | ⟨x, r⟩
      · rw [if_pos (by decide)]
        unfold stepP at ihk
        simp only [if_pos c1] at ihk
        exact ihk μ _ (by omega) hA trivial
      · have hl : (x :: r).length = r.length + 1 := rfl
        have e1 : nI (r.length + 1) - 1 = nI r.length := nI_pred _
        have e2 : (nI r.length).toInt = r.length := nI_toInt (by omega)
        have e3 : (nI r.length).toNatClampNeg = r.length := ix_nI (by omega)
        rw [if_neg (by omega)]
        simp only [hl, e1, e2, e3]
        rw [if_pos (by omega)]
        have hx : μ (lo + 2) r.length = x := hst.1
        have key : ∀ z : Int32, stkAt (up μ (lo + 2) r.length z (lo + 2)) (z :: r) := fun z => ⟨up_eq, stkAt_congr r (fun i hi => up_j (by omega)) hst.2⟩
        unfold stepP at ihk
        simp only [if_pos c1] at ihk
        by_cases hx0 : μ (lo + 2) r.length = 0
        · rw [if_pos hx0, if_pos (by omega)]
          rw [hx] at hx0
          rw [if_pos hx0] at ihk
          exact ihk _ _ (by omega) hA.up (key 1)
        · rw [if_neg hx0, if_pos (by omega)]
          rw [hx] at hx0
          rw [if_neg hx0] at ihk
          exact ihk _ _ (by omega) hA.up (key 0)
    · rw [if_neg c1]
      have push : ∀ z : Int32, st.length < 60 → stkAt (up μ (lo + 2) st.length z (lo + 2)) (z :: st) := fun z _ => ⟨up_eq, stkAt_congr st (fun i hi => up_j (by omega)) hst⟩
      have e3 : (nI st.length).toNatClampNeg = st.length := ix_nI (by omega)
      have hpush : ∀ z : Int32, (if mk.toInt < 10000 then mk else namP (mk - 20000) a1 a2 a3 a4) = z → ¬ (10000 ≤ mk.toInt ∧ mk.toInt < 20000) → ∃ μ', (if (st.length : Int) < 60 then (if 0 ≤ (st.length : Int) ∧ (st.length : Int) < 60 then res d 2 1 [some (vR 0 lo), some (vI a1), some (vI a2), some (vI a3), some (vI a4), some (vI (nI (st.length + 1))), some (vI (nI (k + 1))), some (vI mk)] [] (up μ (lo + 2) st.length z) else none) else res d 2 1 [some (vR 0 lo), some (vI a1), some (vI a2), some (vI a3), some (vI a4), some (vI (nI st.length)), some (vI (nI (k + 1))), some (vI mk)] [] μ) = some (some (vI (evP a1 a2 a3 a4 (μ0 (lo + 1)) N)), μ') ∧ Ag1 (lo + 2) μ0 μ' := by
        intro z hz0 hnb
        unfold stepP at ihk
        rw [if_neg c1, if_neg hnb] at ihk
        by_cases h60 : st.length < 60
        · rw [if_pos (by omega), if_pos (by omega)]
          rw [if_pos h60, hz0] at ihk
          exact ihk _ _ (by omega) hA.up (push z h60)
        · rw [if_neg (by omega)]
          rw [if_neg h60] at ihk
          exact ihk _ _ (by omega) hA hst
      by_cases c2 : mk.toInt < 10000
      · simp only [if_pos c2, e3]
        exact hpush mk (if_pos c2) (by omega)
      · rw [if_neg c2]
        by_cases c3 : mk.toInt < 20000
        · rw [if_pos c3]
          have hb : 10000 ≤ mk.toInt ∧ mk.toInt < 20000 := by omega
          rcases st with _ | ⟨y, _ | ⟨x, r⟩⟩
          · rw [if_pos (by decide)]
            unfold stepP at ihk
            rw [if_neg c1, if_pos hb] at ihk
            exact ihk μ _ (by omega) hA trivial
          · rw [if_pos (show (([y].length : Nat) : Int) < 2 from (show ((1 : Nat) : Int) < 2 by decide))]
            unfold stepP at ihk
            rw [if_neg c1, if_pos hb] at ihk
            exact ihk μ _ (by omega) hA hst
          · have hl : (y :: x :: r).length = r.length + 1 + 1 := rfl
            have e0 : nI (r.length + 1 + 1) + -1 = nI (r.length + 1) := pk_m1 _
            have e1 : nI (r.length + 1) - 1 = nI r.length := nI_pred _
            have e2 : (nI r.length).toInt = r.length := nI_toInt (by omega)
            have e4 : (nI r.length).toNatClampNeg = r.length := ix_nI (by omega)
            have e5 : (nI (r.length + 1)).toInt = (r.length + 1 : Nat) := nI_toInt (by omega)
            have e6 : (nI (r.length + 1)).toNatClampNeg = r.length + 1 := ix_nI (by omega)
            rw [if_neg (by omega)]
            simp only [hl, e0, e1, e2, e4, e5, e6]
            rw [if_pos (by omega), if_pos (by omega), if_pos (by omega)]
            have hy : μ (lo + 2) (r.length + 1) = y := hst.1
            have hx : μ (lo + 2) r.length = x := hst.2.1
            rw [hx, hy]
            unfold stepP at ihk
            rw [if_neg c1, if_pos hb] at ihk
            exact ihk _ _ (by omega) hA.up ⟨up_eq, stkAt_congr r (fun i hi => up_j (by omega)) hst.2.2⟩
        · rw [if_neg c3]
          simp only [if_neg c2, e3]
          exact hpush _ (if_neg c2) (by omega)
theorem x_workOut {d lo N : Nat} {a1 a2 a3 a4 : Int32} {μ : Mem} (hN : N ≤ 60) (hs : μ lo 2 = nI N) : ∃ μ', cl d 2 [vR 0 lo, vI a1, vI a2, vI a3, vI a4] μ = some (some (vI (evP a1 a2 a3 a4 (μ (lo + 1)) N)), μ') ∧ Ag1 (lo + 2) μ μ' := by
  obtain ⟨μ', h, hA⟩ := l_workOut (d := d) (a1 := a1) (a2 := a2) (a3 := a3) (a4 := a4) hN hs N 0 μ none (by omega) Ag1.rf trivial
  refine ⟨μ', ?_, hA⟩
  simp -implicitDefEqProofs only [cl_2, u_2_0, e_iload_n, e_iload, e_lload_n, e_lload, e_aload_n, e_aload, e_istore_n, e_istore, e_astore_n, e_astore, e_lstore_n, e_lstore, e_iinc, e_iconst, e_bipush, e_sipush, e_ldc_w, e_ldc, e_ldcS, e_lconst, e_ldc2_w, e_iadd, e_isub, e_imul, e_iand, e_ixor, e_ishl, e_ishr, e_iushr, e_idiv, e_irem, e_ineg, e_i2b, e_i2s, e_i2c, e_ladd, e_lsub, e_lmul, e_land, e_lor, e_ldiv, e_lrem, e_lneg, e_lshl, e_lshr, e_lushr, e_i2l, e_l2i, e_lcmp, e_dupI, e_dupA, e_dup2, e_getI, e_getA, e_putI, e_putZ, e_getstatic, e_iaload, e_iastore, e_aaload10, e_alen10, e_aaload11, e_alen11, e_aaload12, e_alen12, e_aaload13, e_alen13, e_alen, e_invokevirtual, e_invokevirtualB, e_invokestatic, e_invokestaticB, ct_0, ct_i, ct_a, ct_l, os_0, os_s, rc_0, rc_s, sl_0, sl_i, sl_a, sl_l, simprocAttr, ix, z_em, up_eq, up_j, Nat.le_refl, true_or, or_true, true_and, and_true, and_self, or_self, beq_self_eq_true, if_true, if_false, ite_self, ca_f, ca_t, aLen, Int32.lt_iff_toInt_lt, Int32.le_iff_toInt_le, z_ite, z_iten, z_ite1, ite_not, not_true_eq_false, not_false_eq_true, false_and, and_false, false_or, or_false, b_max, b_min, b_minL, b_absL, b_ixD, b_ixH, b_copy, tk_0, tk_s, dr_0, dr_s, pu_s, pu_n, ca_0, ca_1, clr_0, clr_s, e_nop, e_goto, e_if_eq, e_if_ne, e_if_lt, e_if_ge, e_if_gt, e_if_le, e_ic_eq, e_ic_ne, e_ic_lt, e_ic_ge, e_ic_gt, e_ic_le, e_tsw, e_lsw, sw_0, sw_s, e_iret, e_zret, e_lret, e_aret, e_ret, en_0, en_n, en_i, en_a, en_l, List.getElem?_cons_zero, List.getElem?_cons_succ, List.set_cons_zero, List.set_cons_succ, len_s, List.length_nil]
  exact h
