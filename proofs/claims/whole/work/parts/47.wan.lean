/-! A LOOSE MINUTE'S WANDERING. -/
theorem td {a b : Int32} (ha : 0 ≤ a.toInt) (hb : 0 < b.toInt) : (a / b).toInt = a.toInt / b.toInt := by
  have h1 := Int32.toInt_lt a
  have h2 : a.toInt / b.toInt ≤ a.toInt := Int.ediv_le_self _ ha
  have h3 : 0 ≤ a.toInt / b.toInt := Int.ediv_nonneg ha (by omega)
  rw [Int32.toInt_div, Int.tdiv_eq_ediv_of_nonneg ha]
  exact bm_id (by omega) (by omega)
theorem rm {a b : Int32} (ha : 0 ≤ a.toInt) (hb : 0 < b.toInt) : (a - a / b * b).toInt = a.toInt % b.toInt := by
  have h1 := Int32.toInt_lt a
  have e1 := td ha hb
  have h2 : a.toInt / b.toInt * b.toInt ≤ a.toInt := Int.ediv_mul_le _ (by omega)
  have h3 : 0 ≤ a.toInt / b.toInt * b.toInt := Int.mul_nonneg (Int.ediv_nonneg ha (by omega)) (by omega)
  have e2 : (a / b * b).toInt = a.toInt / b.toInt * b.toInt := by rw [tm] <;> rw [e1] <;> omega
  have h4 : a.toInt % b.toInt = a.toInt - a.toInt / b.toInt * b.toInt := by rw [Int.emod_def, Int.mul_comm]
  rw [ts] <;> rw [e2] <;> omega
theorem dwz_rg {z : Int32} : 0 ≤ (dwz z).toInt ∧ (dwz z).toInt < 16777216 := by
  have h8 : (Int32.toUInt32 8 &&& Int32.toUInt32 31) = 8 := by decide
  have hn : (z.toUInt32 >>> (8 : UInt32)).toNat < 16777216 := by
    rw [UInt32.toNat_shiftRight]
    have h1 : z.toUInt32.toNat < 4294967296 := UInt32.toNat_lt _
    rw [show (8 : UInt32).toNat % 32 = 8 from rfl, Nat.shiftRight_eq_div_pow]
    omega
  unfold dwz
  rw [h8]
  have e : (z.toUInt32 >>> (8 : UInt32)).toInt32.toInt = ((z.toUInt32 >>> (8 : UInt32)).toNat : Int) := by
    show (z.toUInt32 >>> (8 : UInt32)).toBitVec.toInt = _
    exact BitVec.toInt_eq_toNat_of_lt (by show 2 * (z.toUInt32 >>> (8 : UInt32)).toNat < 2 ^ 32; omega)
  omega
def rmd (a b : Int32) : Int32 := a - a / b * b
theorem rmd_rg {a b : Int32} (ha : 0 ≤ a.toInt) (hb : 0 < b.toInt) : 0 ≤ (rmd a b).toInt ∧ (rmd a b).toInt < b.toInt := by
  unfold rmd
  rw [rm ha hb]
  exact ⟨Int.emod_nonneg _ (by omega), Int.emod_lt_of_pos _ hb⟩
def wanP (V : Mem) (w : Nat) : Mem :=
  if V (1 + w) 4 = 0 ∧ ¬ V (1 + w) 2 = V (1 + w) 1 then
    (if (rmd (dwz (nxz (V 0 8))) 60).toInt < (V (1 + w) (9 + 2 * (V (1 + w) 2).toNatClampNeg)).toInt then
      leaveP (up V 0 8 (nxz (nxz (V 0 8)))) w (V (1 + w) 0 * 3 / 4) (rmd (dwz (nxz (nxz (V 0 8)))) 5 + 1)
    else up V 0 8 (nxz (V 0 8)))
  else V
theorem tq {V : Mem} {w : Nat} (h : WFV V) (hw : w < 4) : 0 ≤ (V (1 + w) 0 * 3 / 4).toInt ∧ (V (1 + w) 0 * 3 / 4).toInt ≤ (V (1 + w) 0).toInt := by
  have g0 := gw0 h hw
  have t3 : (3 : Int32).toInt = 3 := rfl
  have t4 : (4 : Int32).toInt = 4 := rfl
  have e1 : (V (1 + w) 0 * 3).toInt = (V (1 + w) 0).toInt * 3 := by rw [tm] <;> rw [t3] <;> omega
  have e2 : (V (1 + w) 0 * 3 / 4).toInt = (V (1 + w) 0 * 3).toInt / 4 := by rw [td (by omega) (by rw [t4]; omega), t4]
  omega
theorem r5 {z : Int32} : 1 ≤ (rmd (dwz z) 5 + 1).toInt ∧ (rmd (dwz z) 5 + 1).toInt ≤ 5 := by
  have h := rmd_rg (a := dwz z) (b := 5) dwz_rg.1 (by decide)
  have t5 : (5 : Int32).toInt = 5 := rfl
  have t1 : (1 : Int32).toInt = 1 := rfl
  rw [t5] at h
  rw [ta] <;> rw [t1] <;> omega
theorem wf_z {V : Mem} {z : Int32} (h : WFV V) : WFV (up V 0 8 z) := by
  refine wf_up h (by unfold plV; omega) ?_
  have z1 : loV 0 8 = -2147483648 := rfl
  have z2 : hiV 0 8 = 2147483647 := rfl
  rw [z1, z2]
  have q1 := Int32.le_toInt z
  have q2 := Int32.toInt_lt z
  omega
theorem wf_wan {V : Mem} {w : Nat} (h : WFV V) (hw : w < 4) : WFV (wanP V w) := by
  unfold wanP
  have t := tq h hw
  have f := r5 (z := nxz (nxz (V 0 8)))
  split
  · split
    · refine wf_leave (wf_z h) hw ?_ (by omega)
      rw [up_o (show ¬ 1 + w = 0 by omega)]
      exact t
    · exact wf_z h
  · exact h
theorem wd_leave {V : Mem} {w : Nat} {x m : Int32} (hd : WFD V) (hw : w < 4) : WFD (leaveP V w x m) := by
  unfold leaveP
  refine ⟨fun r hr => ?_, ?_⟩
  · rw [up_o (by omega), up_o (by omega), up_o (by omega), up_o (by omega), up_o (by omega), up_o (by omega)]
    exact hd.1 r hr
  · rw [up_o (by omega), up_o (by omega), up_o (by omega)]
    exact hd.2
theorem wd_z {V : Mem} {z : Int32} (hd : WFD V) : WFD (up V 0 8 z) := ⟨fun r hr => by rw [up_o (by omega), up_o (by omega)]; exact hd.1 r hr, by rw [up_j (by decide)]; exact hd.2⟩
theorem wd_wan {V : Mem} {w : Nat} (hd : WFD V) (hw : w < 4) : WFD (wanP V w) := by
  unfold wanP
  split
  · split
    · exact wd_leave (wd_z hd) hw
    · exact wd_z hd
  · exact hd
theorem wan_sm {V : Mem} {w k : Nat} (hk : ¬ k = 8) : wanP V w 0 k = V 0 k := by
  unfold wanP leaveP
  split
  · split
    · rw [up_o (by omega), up_o (by omega), up_o (by omega), up_j hk]
    · rw [up_j hk]
  · rfl
theorem up_up {V : Mem} {o k : Nat} {x y : Int32} : up (up V o k x) o k y = up V o k y := by
  funext a c
  unfold up
  by_cases q : a = o ∧ c = k
  · rw [if_pos q, if_pos q]
  · rw [if_neg q, if_neg q, if_neg q]
theorem l_wander {d b N : Nat} {V0 : Mem} (hN : N ≤ 4) (h0 : WFV V0) (hc : V0 0 0 = nI N) : ∀ n k μ (x : Option AV), k + n = N → vC b μ = itN wanP k V0 → ∃ μ', res d 51 1 [some (vR 6 b), some (vI (nI k)), x] [] μ = some (none, μ') ∧ vC b μ' = itN wanP N V0 ∧ FrC b μ μ' := by
  intro n
  induction n with
  | zero =>
    intro k μ x hk hv
    have hk : k = N := by omega
    subst hk
    have hi := (itN_inv (f := wanP) (P := fun V' => V' 0 0 = V0 0 0) (N := k) (fun n V' _ q => (wan_sm (by decide)).trans q) k V0 (Nat.le_refl _) rfl)
    have hr : μ b 5 = nI k := by rw [cs0 (b := b) (μ := μ), hv, hi, hc]
    refine ⟨μ, ?_, hv, FrC.rf⟩
    rw [u_51_1]
    simp -implicitDefEqProofs only [u_51_0, u_51_2, u_51_3, u_51_4, u_51_5, u_51_6, u_51_7, e_iload_n, e_iload, e_lload_n, e_lload, e_aload_n, e_aload, e_istore_n, e_istore, e_astore_n, e_astore, e_lstore_n, e_lstore, e_iinc, e_iconst, e_bipush, e_sipush, e_ldc_w, e_ldc, e_ldcS, e_lconst, e_ldc2_w, e_iadd, e_isub, e_imul, e_iand, e_ixor, e_ishl, e_ishr, e_iushr, e_idiv, e_irem, e_ineg, e_i2b, e_i2s, e_i2c, e_ladd, e_lsub, e_lmul, e_land, e_lor, e_ldiv, e_lrem, e_lneg, e_lshl, e_lshr, e_lushr, e_i2l, e_l2i, e_lcmp, e_dupI, e_dupA, e_dup2, e_getI, e_getA, e_putI, e_putZ, e_getstatic, e_iaload, e_iastore, e_aaload10, e_alen10, e_aaload11, e_alen11, e_aaload12, e_alen12, e_aaload13, e_alen13, e_alen, e_invokevirtual, e_invokevirtualB, e_invokestatic, e_invokestaticB, ct_0, ct_i, ct_a, ct_l, os_0, os_s, rc_0, rc_s, sl_0, sl_i, sl_a, sl_l, simprocAttr, ix, z_em, up_eq, up_j, Nat.le_refl, true_or, or_true, true_and, and_true, and_self, or_self, beq_self_eq_true, if_true, if_false, ite_self, ca_f, ca_t, aLen, Int32.lt_iff_toInt_lt, Int32.le_iff_toInt_le, z_ite, z_iten, z_ite1, ite_not, not_true_eq_false, not_false_eq_true, false_and, and_false, false_or, or_false, b_max, b_min, b_minL, b_absL, b_ixD, b_ixH, b_copy, tk_0, tk_s, dr_0, dr_s, pu_s, pu_n, ca_0, ca_1, clr_0, clr_s, e_nop, e_goto, e_if_eq, e_if_ne, e_if_lt, e_if_ge, e_if_gt, e_if_le, e_ic_eq, e_ic_ne, e_ic_lt, e_ic_ge, e_ic_gt, e_ic_le, e_tsw, e_lsw, sw_0, sw_s, e_iret, e_zret, e_lret, e_aret, e_ret, en_0, en_n, en_i, en_a, en_l, List.getElem?_cons_zero, List.getElem?_cons_succ, List.set_cons_zero, List.set_cons_succ, len_s, List.length_nil, ne_eq, hr, Int.lt_irrefl]
  | succ n ih =>
    intro k μ x hk hv
    have hi := (itN_inv (f := wanP) (P := fun V' => WFV V' ∧ V' 0 0 = V0 0 0) (N := k) (fun n V' hn q => ⟨wf_wan q.1 (by omega), (wan_sm (by decide)).trans q.2⟩) k V0 (Nat.le_refl _) ⟨h0, rfl⟩)
    rw [← hv] at hi
    obtain ⟨hW, hi2⟩ := hi
    have hr : μ b 5 = nI N := by rw [cs0 (b := b) (μ := μ), hi2, hc]
    have hk4 : k < 4 := by omega
    have h1 : ((k : Nat) : Int) < (N : Int) := by omega
    have h2 : ((k : Nat) : Int) < 4 := by omega
    have h3 : (0 : Int) ≤ ((k : Nat) : Int) := by omega
    have nk : (nI k).toInt = k := nI_toInt (by omega)
    have nR : (nI N).toInt = N := nI_toInt (by omega)
    have ck : (nI k).toNatClampNeg = k := ix_nI (by omega)
    have e6 : b + 1 + 5 + 3 * k = b + 6 + 3 * k := by omega
    have n3 : ¬ b + 6 + 3 * k = b := by omega
    have n4 : ¬ b + 6 + 3 * k + 2 = b := by omega
    have hb : b ≤ b ∧ b < b + 26 := by omega
    have hO : b ≤ b + 6 + 3 * k ∧ b + 6 + 3 * k < b + 26 := by omega
    have hx : ∀ μ, cl d 36 [Sum.inr (Sum.inr (5, b + 6 + 3 * k))] μ = _ := fun μ => x_isAtStep
    have hd : ∀ μ, cl d 50 [Sum.inr (Sum.inr (6, b))] μ = _ := fun μ => x_draw
    have hl : ∀ x m μ, cl d 37 [Sum.inr (Sum.inr (5, b + 6 + 3 * k)), vI x, vI m] μ = _ := fun x m μ => x_leave
    have g2 := gw2 hW hk4
    have g1 := gw1 hW hk4
    have g21 := hW.2.1 k hk4
    have t99 : (99999 : Int32).toInt = 99999 := rfl
    have key : ∃ μ1, vC b μ1 = wanP (vC b μ) k ∧ FrC b μ μ1 ∧ ∃ y, res d 51 1 [some (vR 6 b), some (vI (nI k)), x] [] μ = res d 51 1 [some (vR 6 b), some (vI (nI (k + 1))), y] [] μ1 := by
      unfold wanP
      rw [← cw4 hk4, ← cw2 hk4, ← cw1 hk4, ← cs8, ← cw0 hk4]
      by_cases q1 : μ (b + 6 + 3 * k) 6 = 0
      · by_cases q2 : μ (b + 6 + 3 * k) 4 = μ (b + 6 + 3 * k) 3
        · refine ⟨μ, by rw [if_neg (fun z => z.2 q2)], FrC.rf, some (vR 5 (b + 6 + 3 * k)), ?_⟩
          have hn : ¬ (0 ≤ (μ (b + 6 + 3 * k) 4).toInt ∧ (μ (b + 6 + 3 * k) 4).toInt < (μ (b + 6 + 3 * k) 3).toInt ∧ (μ (b + 6 + 3 * k) 4).toInt < 8) := by
            rw [q2]
            omega
          rw [u_51_1]
          simp -implicitDefEqProofs only [u_51_0, u_51_2, u_51_3, u_51_4, u_51_5, u_51_6, u_51_7, e_iload_n, e_iload, e_lload_n, e_lload, e_aload_n, e_aload, e_istore_n, e_istore, e_astore_n, e_astore, e_lstore_n, e_lstore, e_iinc, e_iconst, e_bipush, e_sipush, e_ldc_w, e_ldc, e_ldcS, e_lconst, e_ldc2_w, e_iadd, e_isub, e_imul, e_iand, e_ixor, e_ishl, e_ishr, e_iushr, e_idiv, e_irem, e_ineg, e_i2b, e_i2s, e_i2c, e_ladd, e_lsub, e_lmul, e_land, e_lor, e_ldiv, e_lrem, e_lneg, e_lshl, e_lshr, e_lushr, e_i2l, e_l2i, e_lcmp, e_dupI, e_dupA, e_dup2, e_getI, e_getA, e_putI, e_putZ, e_getstatic, e_iaload, e_iastore, e_aaload10, e_alen10, e_aaload11, e_alen11, e_aaload12, e_alen12, e_aaload13, e_alen13, e_alen, e_invokevirtual, e_invokevirtualB, e_invokestatic, e_invokestaticB, ct_0, ct_i, ct_a, ct_l, os_0, os_s, rc_0, rc_s, sl_0, sl_i, sl_a, sl_l, simprocAttr, ix, z_em, up_eq, up_j, Nat.le_refl, true_or, or_true, true_and, and_true, and_self, or_self, beq_self_eq_true, if_true, if_false, ite_self, ca_f, ca_t, aLen, Int32.lt_iff_toInt_lt, Int32.le_iff_toInt_le, z_ite, z_iten, z_ite1, ite_not, not_true_eq_false, not_false_eq_true, false_and, and_false, false_or, or_false, b_max, b_min, b_minL, b_absL, b_ixD, b_ixH, b_copy, tk_0, tk_s, dr_0, dr_s, pu_s, pu_n, ca_0, ca_1, clr_0, clr_s, e_nop, e_goto, e_if_eq, e_if_ne, e_if_lt, e_if_ge, e_if_gt, e_if_le, e_ic_eq, e_ic_ne, e_ic_lt, e_ic_ge, e_ic_gt, e_ic_le, e_tsw, e_lsw, sw_0, sw_s, e_iret, e_zret, e_lret, e_aret, e_ret, en_0, en_n, en_i, en_a, en_l, List.getElem?_cons_zero, List.getElem?_cons_succ, List.set_cons_zero, List.set_cons_succ, len_s, List.length_nil, ne_eq, hr, nk, nR, ck, h1, h2, h3, e6, if_pos q1, hx, if_neg hn, ← nI_succ]
        · have hne : ¬ (vC b μ (1 + k) 2).toInt = (vC b μ (1 + k) 1).toInt := fun z => q2 (by rw [cw2 (b := b) (μ := μ) hk4, cw1 (b := b) (μ := μ) hk4]; exact Int32.toInt_inj.mp z)
          have hn : 0 ≤ (μ (b + 6 + 3 * k) 4).toInt ∧ (μ (b + 6 + 3 * k) 4).toInt < (μ (b + 6 + 3 * k) 3).toInt ∧ (μ (b + 6 + 3 * k) 4).toInt < 8 := by
            rw [cw2 (b := b) (μ := μ) hk4, cw1 (b := b) (μ := μ) hk4]
            omega
          have h8 : 0 ≤ (μ (b + 6 + 3 * k) 4).toInt ∧ (μ (b + 6 + 3 * k) 4).toInt < 8 := ⟨hn.1, hn.2.2⟩
          have hi8 : (μ (b + 6 + 3 * k) 4).toNatClampNeg < 8 := ix_lt h8.1 h8.2
          rw [if_pos ⟨q1, q2⟩, ← cwh hk4 hi8, show b + 8 + 3 * k = b + 6 + 3 * k + 2 by omega]
          by_cases q3 : (rmd (dwz (nxz (μ b 13))) 60).toInt < (μ (b + 6 + 3 * k + 2) (μ (b + 6 + 3 * k) 4).toNatClampNeg).toInt
          · have q3' := q3
            unfold rmd at q3'
            rw [if_pos q3]
            refine ⟨up (up (up (up μ b 13 (nxz (nxz (μ b 13)))) (b + 6 + 3 * k) 8 (if (μ (b + 6 + 3 * k) 8 + μ (b + 6 + 3 * k) 2 - μ (b + 6 + 3 * k) 2 * 3 / 4).toInt < 99999 then μ (b + 6 + 3 * k) 8 + μ (b + 6 + 3 * k) 2 - μ (b + 6 + 3 * k) 2 * 3 / 4 else 99999)) (b + 6 + 3 * k) 2 (μ (b + 6 + 3 * k) 2 * 3 / 4)) (b + 6 + 3 * k) 6 (dwz (nxz (nxz (μ b 13))) - dwz (nxz (nxz (μ b 13))) / 5 * 5 + 1), ?_, ?_, some (vR 5 (b + 6 + 3 * k)), ?_⟩
            · rw [uw4 hk4, uw0 hk4, uw6 hk4, us8]
              unfold leaveP
              rw [up_o (show ¬ 1 + k = 0 by omega), up_o (show ¬ 1 + k = 0 by omega), ← cw6 hk4, ← cw0 hk4, mn, t99]
              rfl
            · exact (((FrC.rf.up hb).up hO).up hO).up hO
            · rw [u_51_1]
              simp -implicitDefEqProofs only [u_51_0, u_51_2, u_51_3, u_51_4, u_51_5, u_51_6, u_51_7, e_iload_n, e_iload, e_lload_n, e_lload, e_aload_n, e_aload, e_istore_n, e_istore, e_astore_n, e_astore, e_lstore_n, e_lstore, e_iinc, e_iconst, e_bipush, e_sipush, e_ldc_w, e_ldc, e_ldcS, e_lconst, e_ldc2_w, e_iadd, e_isub, e_imul, e_iand, e_ixor, e_ishl, e_ishr, e_iushr, e_idiv, e_irem, e_ineg, e_i2b, e_i2s, e_i2c, e_ladd, e_lsub, e_lmul, e_land, e_lor, e_ldiv, e_lrem, e_lneg, e_lshl, e_lshr, e_lushr, e_i2l, e_l2i, e_lcmp, e_dupI, e_dupA, e_dup2, e_getI, e_getA, e_putI, e_putZ, e_getstatic, e_iaload, e_iastore, e_aaload10, e_alen10, e_aaload11, e_alen11, e_aaload12, e_alen12, e_aaload13, e_alen13, e_alen, e_invokevirtual, e_invokevirtualB, e_invokestatic, e_invokestaticB, ct_0, ct_i, ct_a, ct_l, os_0, os_s, rc_0, rc_s, sl_0, sl_i, sl_a, sl_l, simprocAttr, ix, z_em, up_eq, up_j, Nat.le_refl, true_or, or_true, true_and, and_true, and_self, or_self, beq_self_eq_true, if_true, if_false, ite_self, ca_f, ca_t, aLen, Int32.lt_iff_toInt_lt, Int32.le_iff_toInt_le, z_ite, z_iten, z_ite1, ite_not, not_true_eq_false, not_false_eq_true, false_and, and_false, false_or, or_false, b_max, b_min, b_minL, b_absL, b_ixD, b_ixH, b_copy, tk_0, tk_s, dr_0, dr_s, pu_s, pu_n, ca_0, ca_1, clr_0, clr_s, e_nop, e_goto, e_if_eq, e_if_ne, e_if_lt, e_if_ge, e_if_gt, e_if_le, e_ic_eq, e_ic_ne, e_ic_lt, e_ic_ge, e_ic_gt, e_ic_le, e_tsw, e_lsw, sw_0, sw_s, e_iret, e_zret, e_lret, e_aret, e_ret, en_0, en_n, en_i, en_a, en_l, List.getElem?_cons_zero, List.getElem?_cons_succ, List.set_cons_zero, List.set_cons_succ, len_s, List.length_nil, ne_eq, hr, nk, nR, ck, h1, h2, h3, h8, hn, e6, if_pos q1, hx, hd, up_o n3, up_o n4, if_pos q3', up_up, hl, ← nI_succ]
          · have q3' := q3
            unfold rmd at q3'
            rw [if_neg q3]
            refine ⟨up μ b 13 (nxz (μ b 13)), us8, FrC.rf.up hb, some (vR 5 (b + 6 + 3 * k)), ?_⟩
            rw [u_51_1]
            simp -implicitDefEqProofs only [u_51_0, u_51_2, u_51_3, u_51_4, u_51_5, u_51_6, u_51_7, e_iload_n, e_iload, e_lload_n, e_lload, e_aload_n, e_aload, e_istore_n, e_istore, e_astore_n, e_astore, e_lstore_n, e_lstore, e_iinc, e_iconst, e_bipush, e_sipush, e_ldc_w, e_ldc, e_ldcS, e_lconst, e_ldc2_w, e_iadd, e_isub, e_imul, e_iand, e_ixor, e_ishl, e_ishr, e_iushr, e_idiv, e_irem, e_ineg, e_i2b, e_i2s, e_i2c, e_ladd, e_lsub, e_lmul, e_land, e_lor, e_ldiv, e_lrem, e_lneg, e_lshl, e_lshr, e_lushr, e_i2l, e_l2i, e_lcmp, e_dupI, e_dupA, e_dup2, e_getI, e_getA, e_putI, e_putZ, e_getstatic, e_iaload, e_iastore, e_aaload10, e_alen10, e_aaload11, e_alen11, e_aaload12, e_alen12, e_aaload13, e_alen13, e_alen, e_invokevirtual, e_invokevirtualB, e_invokestatic, e_invokestaticB, ct_0, ct_i, ct_a, ct_l, os_0, os_s, rc_0, rc_s, sl_0, sl_i, sl_a, sl_l, simprocAttr, ix, z_em, up_eq, up_j, Nat.le_refl, true_or, or_true, true_and, and_true, and_self, or_self, beq_self_eq_true, if_true, if_false, ite_self, ca_f, ca_t, aLen, Int32.lt_iff_toInt_lt, Int32.le_iff_toInt_le, z_ite, z_iten, z_ite1, ite_not, not_true_eq_false, not_false_eq_true, false_and, and_false, false_or, or_false, b_max, b_min, b_minL, b_absL, b_ixD, b_ixH, b_copy, tk_0, tk_s, dr_0, dr_s, pu_s, pu_n, ca_0, ca_1, clr_0, clr_s, e_nop, e_goto, e_if_eq, e_if_ne, e_if_lt, e_if_ge, e_if_gt, e_if_le, e_ic_eq, e_ic_ne, e_ic_lt, e_ic_ge, e_ic_gt, e_ic_le, e_tsw, e_lsw, sw_0, sw_s, e_iret, e_zret, e_lret, e_aret, e_ret, en_0, en_n, en_i, en_a, en_l, List.getElem?_cons_zero, List.getElem?_cons_succ, List.set_cons_zero, List.set_cons_succ, len_s, List.length_nil, ne_eq, hr, nk, nR, ck, h1, h2, h3, h8, hn, e6, if_pos q1, hx, hd, up_o n3, up_o n4, if_neg q3', ← nI_succ]
      · refine ⟨μ, by rw [if_neg (fun z => q1 z.1)], FrC.rf, some (vR 5 (b + 6 + 3 * k)), ?_⟩
        rw [u_51_1]
        simp -implicitDefEqProofs only [u_51_0, u_51_2, u_51_3, u_51_4, u_51_5, u_51_6, u_51_7, e_iload_n, e_iload, e_lload_n, e_lload, e_aload_n, e_aload, e_istore_n, e_istore, e_astore_n, e_astore, e_lstore_n, e_lstore, e_iinc, e_iconst, e_bipush, e_sipush, e_ldc_w, e_ldc, e_ldcS, e_lconst, e_ldc2_w, e_iadd, e_isub, e_imul, e_iand, e_ixor, e_ishl, e_ishr, e_iushr, e_idiv, e_irem, e_ineg, e_i2b, e_i2s, e_i2c, e_ladd, e_lsub, e_lmul, e_land, e_lor, e_ldiv, e_lrem, e_lneg, e_lshl, e_lshr, e_lushr, e_i2l, e_l2i, e_lcmp, e_dupI, e_dupA, e_dup2, e_getI, e_getA, e_putI, e_putZ, e_getstatic, e_iaload, e_iastore, e_aaload10, e_alen10, e_aaload11, e_alen11, e_aaload12, e_alen12, e_aaload13, e_alen13, e_alen, e_invokevirtual, e_invokevirtualB, e_invokestatic, e_invokestaticB, ct_0, ct_i, ct_a, ct_l, os_0, os_s, rc_0, rc_s, sl_0, sl_i, sl_a, sl_l, simprocAttr, ix, z_em, up_eq, up_j, Nat.le_refl, true_or, or_true, true_and, and_true, and_self, or_self, beq_self_eq_true, if_true, if_false, ite_self, ca_f, ca_t, aLen, Int32.lt_iff_toInt_lt, Int32.le_iff_toInt_le, z_ite, z_iten, z_ite1, ite_not, not_true_eq_false, not_false_eq_true, false_and, and_false, false_or, or_false, b_max, b_min, b_minL, b_absL, b_ixD, b_ixH, b_copy, tk_0, tk_s, dr_0, dr_s, pu_s, pu_n, ca_0, ca_1, clr_0, clr_s, e_nop, e_goto, e_if_eq, e_if_ne, e_if_lt, e_if_ge, e_if_gt, e_if_le, e_ic_eq, e_ic_ne, e_ic_lt, e_ic_ge, e_ic_gt, e_ic_le, e_tsw, e_lsw, sw_0, sw_s, e_iret, e_zret, e_lret, e_aret, e_ret, en_0, en_n, en_i, en_a, en_l, List.getElem?_cons_zero, List.getElem?_cons_succ, List.set_cons_zero, List.set_cons_succ, len_s, List.length_nil, ne_eq, hr, nk, nR, ck, h1, h2, h3, e6, if_neg q1, ← nI_succ]
    obtain ⟨μ1, v1, f1, y, e1⟩ := key
    obtain ⟨μ', b1, b2, b3⟩ := ih (k + 1) μ1 y (by omega) (by rw [v1, hv]; rfl)
    exact ⟨μ', by rw [e1, b1], b2, f1.tr b3⟩
def wansP (V : Mem) : Mem := itN wanP (V 0 0).toNatClampNeg V
theorem x_wander {d b : Nat} {μ : Mem} (hW : WFV (vC b μ)) : ∃ μ', cl d 51 [vR 6 b] μ = some (none, μ') ∧ vC b μ' = wansP (vC b μ) ∧ FrC b μ μ' := by
  have g0 := gs0 hW
  have e0 : (vC b μ 0 0).toNatClampNeg = (vC b μ 0 0).toInt.toNat := rfl
  obtain ⟨μ1, a1, a2, a3⟩ := l_wander (d := d) (b := b) (N := (vC b μ 0 0).toNatClampNeg) (V0 := vC b μ) (by omega) hW (nI_ix g0.1).symm (vC b μ 0 0).toNatClampNeg 0 μ none (by omega) rfl
  refine ⟨μ1, ?_, a2, a3⟩
  rw [← a1]
  simp -implicitDefEqProofs only [cl_51, u_51_0, e_iload_n, e_iload, e_lload_n, e_lload, e_aload_n, e_aload, e_istore_n, e_istore, e_astore_n, e_astore, e_lstore_n, e_lstore, e_iinc, e_iconst, e_bipush, e_sipush, e_ldc_w, e_ldc, e_ldcS, e_lconst, e_ldc2_w, e_iadd, e_isub, e_imul, e_iand, e_ixor, e_ishl, e_ishr, e_iushr, e_idiv, e_irem, e_ineg, e_i2b, e_i2s, e_i2c, e_ladd, e_lsub, e_lmul, e_land, e_lor, e_ldiv, e_lrem, e_lneg, e_lshl, e_lshr, e_lushr, e_i2l, e_l2i, e_lcmp, e_dupI, e_dupA, e_dup2, e_getI, e_getA, e_putI, e_putZ, e_getstatic, e_iaload, e_iastore, e_aaload10, e_alen10, e_aaload11, e_alen11, e_aaload12, e_alen12, e_aaload13, e_alen13, e_alen, e_invokevirtual, e_invokevirtualB, e_invokestatic, e_invokestaticB, ct_0, ct_i, ct_a, ct_l, os_0, os_s, rc_0, rc_s, sl_0, sl_i, sl_a, sl_l, simprocAttr, ix, z_em, up_eq, up_j, Nat.le_refl, true_or, or_true, true_and, and_true, and_self, or_self, beq_self_eq_true, if_true, if_false, ite_self, ca_f, ca_t, aLen, Int32.lt_iff_toInt_lt, Int32.le_iff_toInt_le, z_ite, z_iten, z_ite1, ite_not, not_true_eq_false, not_false_eq_true, false_and, and_false, false_or, or_false, b_max, b_min, b_minL, b_absL, b_ixD, b_ixH, b_copy, tk_0, tk_s, dr_0, dr_s, pu_s, pu_n, ca_0, ca_1, clr_0, clr_s, e_nop, e_goto, e_if_eq, e_if_ne, e_if_lt, e_if_ge, e_if_gt, e_if_le, e_ic_eq, e_ic_ne, e_ic_lt, e_ic_ge, e_ic_gt, e_ic_le, e_tsw, e_lsw, sw_0, sw_s, e_iret, e_zret, e_lret, e_aret, e_ret, en_0, en_n, en_i, en_a, en_l, List.getElem?_cons_zero, List.getElem?_cons_succ, List.set_cons_zero, List.set_cons_succ, len_s, List.length_nil]
  rfl
/-! the model's -/
theorem y_wanders {d w : Nat} {μ : Mem} (hw : w < 4) (hW : WFV (vM 113 μ)) : ∃ μ', cl d 156 [vR 8 112, vI (nI w)] μ = some (none, μ') ∧ vM 113 μ' = wanP (vM 113 μ) w ∧ FrM μ μ' := by
  have g2 := gw2 hW hw
  have g1 := gw1 hW hw
  have g21 := hW.2.1 w hw
  have g0 := gw0 hW hw
  have g6 := gw6 hW hw
  have t := tq hW hw
  have hd : ∀ μ, cl d 155 [Sum.inr (Sum.inr (8, 112))] μ = _ := fun μ => y_draw
  have hs : ∀ x μ, cl d 148 [Sum.inr (Sum.inr (8, 112)), vI (nI w), vI x] μ = _ := fun x μ => y_sinks hw
  have nw : ∀ k, ¬ 8 = 10 + 24 * w + k := fun k => by omega
  have nz : ¬ 1 + w = 0 := by omega
  unfold wanP
  by_cases q1 : vM 113 μ (1 + w) 4 = 0
  · by_cases q2 : vM 113 μ (1 + w) 2 = vM 113 μ (1 + w) 1
    · refine ⟨μ, ?_, by rw [if_neg (fun z => z.2 q2)], FrM.rf⟩
      simp -implicitDefEqProofs only [cl_156, u_156_0, u_156_1, u_156_2, u_156_3, u_156_4, u_156_5, u_156_6, u_156_7, e_iload_n, e_iload, e_lload_n, e_lload, e_aload_n, e_aload, e_istore_n, e_istore, e_astore_n, e_astore, e_lstore_n, e_lstore, e_iinc, e_iconst, e_bipush, e_sipush, e_ldc_w, e_ldc, e_ldcS, e_lconst, e_ldc2_w, e_iadd, e_isub, e_imul, e_iand, e_ixor, e_ishl, e_ishr, e_iushr, e_idiv, e_irem, e_ineg, e_i2b, e_i2s, e_i2c, e_ladd, e_lsub, e_lmul, e_land, e_lor, e_ldiv, e_lrem, e_lneg, e_lshl, e_lshr, e_lushr, e_i2l, e_l2i, e_lcmp, e_dupI, e_dupA, e_dup2, e_getI, e_getA, e_putI, e_putZ, e_getstatic, e_iaload, e_iastore, e_aaload10, e_alen10, e_aaload11, e_alen11, e_aaload12, e_alen12, e_aaload13, e_alen13, e_alen, e_invokevirtual, e_invokevirtualB, e_invokestatic, e_invokestaticB, ct_0, ct_i, ct_a, ct_l, os_0, os_s, rc_0, rc_s, sl_0, sl_i, sl_a, sl_l, simprocAttr, ix, z_em, up_eq, up_j, Nat.le_refl, true_or, or_true, true_and, and_true, and_self, or_self, beq_self_eq_true, if_true, if_false, ite_self, ca_f, ca_t, aLen, Int32.lt_iff_toInt_lt, Int32.le_iff_toInt_le, z_ite, z_iten, z_ite1, ite_not, not_true_eq_false, not_false_eq_true, false_and, and_false, false_or, or_false, b_max, b_min, b_minL, b_absL, b_ixD, b_ixH, b_copy, tk_0, tk_s, dr_0, dr_s, pu_s, pu_n, ca_0, ca_1, clr_0, clr_s, e_nop, e_goto, e_if_eq, e_if_ne, e_if_lt, e_if_ge, e_if_gt, e_if_le, e_ic_eq, e_ic_ne, e_ic_lt, e_ic_ge, e_ic_gt, e_ic_le, e_tsw, e_lsw, sw_0, sw_s, e_iret, e_zret, e_lret, e_aret, e_ret, en_0, en_n, en_i, en_a, en_l, List.getElem?_cons_zero, List.getElem?_cons_succ, List.set_cons_zero, List.set_cons_succ, len_s, List.length_nil, ne_eq, yi4 hw, yi2 hw, yi1 hw, q1, q2, Int.lt_irrefl]
    · have hne : ¬ (vM 113 μ (1 + w) 2).toInt = (vM 113 μ (1 + w) 1).toInt := fun z => q2 (Int32.toInt_inj.mp z)
      have hlt : (vM 113 μ (1 + w) 2).toInt < (vM 113 μ (1 + w) 1).toInt := by omega
      have hi : (vM 113 μ (1 + w) 2).toNatClampNeg < 8 := ix_lt g2.1 (by omega)
      have e9 : 8 + 2 * vM 113 μ (1 + w) 2 + 1 = nI (9 + 2 * (vM 113 μ (1 + w) 2).toNatClampNeg) := by
        have q1 := nIm (a := 2) (b := (vM 113 μ (1 + w) 2).toNatClampNeg) (by omega) (by omega) (by omega)
        have q2 := nIa (a := 8) (b := 2 * (vM 113 μ (1 + w) 2).toNatClampNeg) (by omega)
        rw [nI_ix g2.1] at q1
        have q3 : 8 + 2 * vM 113 μ (1 + w) 2 = nI (8 + 2 * (vM 113 μ (1 + w) 2).toNatClampNeg) := by
          show nI 8 + nI 2 * vM 113 μ (1 + w) 2 = _
          rw [q1, q2]
        rw [q3, ← nI_succ]
        exact congrArg nI (by omega)
      have y9 : ∀ μ2, cl d 111 [Sum.inr (Sum.inr (8, 112)), vI (nI w), vI (8 + 2 * vM 113 μ (1 + w) 2 + 1)] μ2 = _ := fun μ2 => y_its (d := d) (μ := μ2) hw (show 9 + 2 * (vM 113 μ (1 + w) 2).toNatClampNeg < 24 by omega) e9
      have vz : ∀ (μ2 : Mem) z, vM 113 (up μ2 113 8 z) = up (vM 113 μ2) 0 8 z := fun μ2 z => ums8
      have vz2 : ∀ (μ2 : Mem) z k, vM 113 (up μ2 113 8 z) (1 + w) k = vM 113 μ2 (1 + w) k := fun μ2 z k => by rw [vz, up_o nz]
      have u0 : ∀ (μ3 : Mem) v, vM 113 (up μ3 113 (10 + 24 * w + 0) v) = up (vM 113 μ3) (1 + w) 0 v := fun μ3 v => umw hw (by decide)
      have u4 : ∀ (μ3 : Mem) v, vM 113 (up μ3 113 (10 + 24 * w + 4) v) = up (vM 113 μ3) (1 + w) 4 v := fun μ3 v => umw hw (by decide)
      have u6 : ∀ (μ3 : Mem) v, vM 113 (up μ3 113 (10 + 24 * w + 6) v) = up (vM 113 μ3) (1 + w) 6 v := fun μ3 v => umw hw (by decide)
      have r4 : ∀ (μ3 : Mem) v k, ¬ k = 4 → vM 113 (up μ3 113 (10 + 24 * w + 4) v) (1 + w) k = vM 113 μ3 (1 + w) k := fun μ3 v k h => by rw [u4, up_j h]
      rw [if_pos ⟨q1, q2⟩, ← ms8 (m := 113) (μ := μ)]
      by_cases q3 : (rmd (dwz (nxz (μ 113 8))) 60).toInt < (vM 113 μ (1 + w) (9 + 2 * (vM 113 μ (1 + w) 2).toNatClampNeg)).toInt
      · have q3' := q3
        unfold rmd at q3'
        rw [if_pos q3]
        refine ⟨up (up (up (up μ 113 8 (nxz (nxz (μ 113 8)))) 113 (10 + 24 * w + 4) (dwz (nxz (nxz (μ 113 8))) - dwz (nxz (nxz (μ 113 8))) / 5 * 5 + 1)) 113 (10 + 24 * w + 6) (heldP (vM 113 μ (1 + w) 6 + vM 113 μ (1 + w) 0 - vM 113 μ (1 + w) 0 * 3 / 4) 0 99999)) 113 (10 + 24 * w + 0) (vM 113 μ (1 + w) 0 * 3 / 4), ?_, ?_, ?_⟩
        · simp -implicitDefEqProofs only [cl_156, u_156_0, u_156_1, u_156_2, u_156_3, u_156_4, u_156_5, u_156_6, u_156_7, e_iload_n, e_iload, e_lload_n, e_lload, e_aload_n, e_aload, e_istore_n, e_istore, e_astore_n, e_astore, e_lstore_n, e_lstore, e_iinc, e_iconst, e_bipush, e_sipush, e_ldc_w, e_ldc, e_ldcS, e_lconst, e_ldc2_w, e_iadd, e_isub, e_imul, e_iand, e_ixor, e_ishl, e_ishr, e_iushr, e_idiv, e_irem, e_ineg, e_i2b, e_i2s, e_i2c, e_ladd, e_lsub, e_lmul, e_land, e_lor, e_ldiv, e_lrem, e_lneg, e_lshl, e_lshr, e_lushr, e_i2l, e_l2i, e_lcmp, e_dupI, e_dupA, e_dup2, e_getI, e_getA, e_putI, e_putZ, e_getstatic, e_iaload, e_iastore, e_aaload10, e_alen10, e_aaload11, e_alen11, e_aaload12, e_alen12, e_aaload13, e_alen13, e_alen, e_invokevirtual, e_invokevirtualB, e_invokestatic, e_invokestaticB, ct_0, ct_i, ct_a, ct_l, os_0, os_s, rc_0, rc_s, sl_0, sl_i, sl_a, sl_l, simprocAttr, ix, z_em, up_eq, up_j, Nat.le_refl, true_or, or_true, true_and, and_true, and_self, or_self, beq_self_eq_true, if_true, if_false, ite_self, ca_f, ca_t, aLen, Int32.lt_iff_toInt_lt, Int32.le_iff_toInt_le, z_ite, z_iten, z_ite1, ite_not, not_true_eq_false, not_false_eq_true, false_and, and_false, false_or, or_false, b_max, b_min, b_minL, b_absL, b_ixD, b_ixH, b_copy, tk_0, tk_s, dr_0, dr_s, pu_s, pu_n, ca_0, ca_1, clr_0, clr_s, e_nop, e_goto, e_if_eq, e_if_ne, e_if_lt, e_if_ge, e_if_gt, e_if_le, e_ic_eq, e_ic_ne, e_ic_lt, e_ic_ge, e_ic_gt, e_ic_le, e_tsw, e_lsw, sw_0, sw_s, e_iret, e_zret, e_lret, e_aret, e_ret, en_0, en_n, en_i, en_a, en_l, List.getElem?_cons_zero, List.getElem?_cons_succ, List.set_cons_zero, List.set_cons_succ, len_s, List.length_nil, ne_eq, yi4 hw, yi2 hw, yi1 hw, yi0 hw, q1, hlt, hd, vz2, y9, if_pos q3', up_up, yl4 hw, r4 _ _ 0 (show ¬ 0 = 4 by decide), r4 _ _ 6 (show ¬ 6 = 4 by decide), hs]
        · rw [u0, u6, u4, vz]
          unfold leaveP
          have e1 : (vM 113 μ (1 + w) 6 + vM 113 μ (1 + w) 0).toInt = (vM 113 μ (1 + w) 6).toInt + (vM 113 μ (1 + w) 0).toInt := ta (by omega) (by omega)
          rw [up_o nz, up_o nz, held_mn (by rw [ts] <;> rw [e1] <;> omega)]
          rw [up_comm (show ¬ (1 + w = 1 + w ∧ (4 : Nat) = 6) by omega), up_comm (show ¬ (1 + w = 1 + w ∧ (4 : Nat) = 0) by omega)]
          rfl
        · exact (((FrM.rf.up (by omega)).up (by omega)).up (by omega)).up (by omega)
      · have q3' := q3
        unfold rmd at q3'
        rw [if_neg q3]
        refine ⟨up μ 113 8 (nxz (μ 113 8)), ?_, ums8, FrM.rf.up (by omega)⟩
        simp -implicitDefEqProofs only [cl_156, u_156_0, u_156_1, u_156_2, u_156_3, u_156_4, u_156_5, u_156_6, u_156_7, e_iload_n, e_iload, e_lload_n, e_lload, e_aload_n, e_aload, e_istore_n, e_istore, e_astore_n, e_astore, e_lstore_n, e_lstore, e_iinc, e_iconst, e_bipush, e_sipush, e_ldc_w, e_ldc, e_ldcS, e_lconst, e_ldc2_w, e_iadd, e_isub, e_imul, e_iand, e_ixor, e_ishl, e_ishr, e_iushr, e_idiv, e_irem, e_ineg, e_i2b, e_i2s, e_i2c, e_ladd, e_lsub, e_lmul, e_land, e_lor, e_ldiv, e_lrem, e_lneg, e_lshl, e_lshr, e_lushr, e_i2l, e_l2i, e_lcmp, e_dupI, e_dupA, e_dup2, e_getI, e_getA, e_putI, e_putZ, e_getstatic, e_iaload, e_iastore, e_aaload10, e_alen10, e_aaload11, e_alen11, e_aaload12, e_alen12, e_aaload13, e_alen13, e_alen, e_invokevirtual, e_invokevirtualB, e_invokestatic, e_invokestaticB, ct_0, ct_i, ct_a, ct_l, os_0, os_s, rc_0, rc_s, sl_0, sl_i, sl_a, sl_l, simprocAttr, ix, z_em, up_eq, up_j, Nat.le_refl, true_or, or_true, true_and, and_true, and_self, or_self, beq_self_eq_true, if_true, if_false, ite_self, ca_f, ca_t, aLen, Int32.lt_iff_toInt_lt, Int32.le_iff_toInt_le, z_ite, z_iten, z_ite1, ite_not, not_true_eq_false, not_false_eq_true, false_and, and_false, false_or, or_false, b_max, b_min, b_minL, b_absL, b_ixD, b_ixH, b_copy, tk_0, tk_s, dr_0, dr_s, pu_s, pu_n, ca_0, ca_1, clr_0, clr_s, e_nop, e_goto, e_if_eq, e_if_ne, e_if_lt, e_if_ge, e_if_gt, e_if_le, e_ic_eq, e_ic_ne, e_ic_lt, e_ic_ge, e_ic_gt, e_ic_le, e_tsw, e_lsw, sw_0, sw_s, e_iret, e_zret, e_lret, e_aret, e_ret, en_0, en_n, en_i, en_a, en_l, List.getElem?_cons_zero, List.getElem?_cons_succ, List.set_cons_zero, List.set_cons_succ, len_s, List.length_nil, ne_eq, yi4 hw, yi2 hw, yi1 hw, q1, hlt, hd, vz2, y9, if_neg q3']
  · refine ⟨μ, ?_, by rw [if_neg (fun z => q1 z.1)], FrM.rf⟩
    simp -implicitDefEqProofs only [cl_156, u_156_0, u_156_1, u_156_2, u_156_3, u_156_4, u_156_5, u_156_6, u_156_7, e_iload_n, e_iload, e_lload_n, e_lload, e_aload_n, e_aload, e_istore_n, e_istore, e_astore_n, e_astore, e_lstore_n, e_lstore, e_iinc, e_iconst, e_bipush, e_sipush, e_ldc_w, e_ldc, e_ldcS, e_lconst, e_ldc2_w, e_iadd, e_isub, e_imul, e_iand, e_ixor, e_ishl, e_ishr, e_iushr, e_idiv, e_irem, e_ineg, e_i2b, e_i2s, e_i2c, e_ladd, e_lsub, e_lmul, e_land, e_lor, e_ldiv, e_lrem, e_lneg, e_lshl, e_lshr, e_lushr, e_i2l, e_l2i, e_lcmp, e_dupI, e_dupA, e_dup2, e_getI, e_getA, e_putI, e_putZ, e_getstatic, e_iaload, e_iastore, e_aaload10, e_alen10, e_aaload11, e_alen11, e_aaload12, e_alen12, e_aaload13, e_alen13, e_alen, e_invokevirtual, e_invokevirtualB, e_invokestatic, e_invokestaticB, ct_0, ct_i, ct_a, ct_l, os_0, os_s, rc_0, rc_s, sl_0, sl_i, sl_a, sl_l, simprocAttr, ix, z_em, up_eq, up_j, Nat.le_refl, true_or, or_true, true_and, and_true, and_self, or_self, beq_self_eq_true, if_true, if_false, ite_self, ca_f, ca_t, aLen, Int32.lt_iff_toInt_lt, Int32.le_iff_toInt_le, z_ite, z_iten, z_ite1, ite_not, not_true_eq_false, not_false_eq_true, false_and, and_false, false_or, or_false, b_max, b_min, b_minL, b_absL, b_ixD, b_ixH, b_copy, tk_0, tk_s, dr_0, dr_s, pu_s, pu_n, ca_0, ca_1, clr_0, clr_s, e_nop, e_goto, e_if_eq, e_if_ne, e_if_lt, e_if_ge, e_if_gt, e_if_le, e_ic_eq, e_ic_ne, e_ic_lt, e_ic_ge, e_ic_gt, e_ic_le, e_tsw, e_lsw, sw_0, sw_s, e_iret, e_zret, e_lret, e_aret, e_ret, en_0, en_n, en_i, en_a, en_l, List.getElem?_cons_zero, List.getElem?_cons_succ, List.set_cons_zero, List.set_cons_succ, len_s, List.length_nil, ne_eq, yi4 hw, if_neg q1]
