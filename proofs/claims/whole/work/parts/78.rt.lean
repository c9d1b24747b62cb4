/-! TEXTS READ: a byte, and all of them, by the class. -/
def INV (n : Nat) (c p : List Int32) (g : Nat) : Prop := (∀ s, s ∈ p → s = 40 ∨ 1 ≤ lvl s) ∧ c.length + p.length ≤ n ∧ g ≤ 4
theorem clo_sub {l : Nat} {P : Int32 → Prop} : ∀ (p c : List Int32), (∀ s, s ∈ p → P s) → ∀ s, s ∈ (clo l p c).1 → P s := by
  intro p
  induction p with
  | nil => exact fun c _ s hs => by cases hs
  | cons x p ih =>
    intro c h s hs
    unfold clo at hs
    split at hs
    · exact ih _ (fun s hs => h s (List.mem_cons_of_mem _ hs)) s hs
    · exact h s hs
theorem clo_top {l : Nat} : ∀ (p c : List Int32), ∀ x r, (clo l p c).1 = x :: r → lvl x < l := by
  intro p
  induction p with
  | nil => intro c x r h; exact absurd h (by simp [clo])
  | cons y p ih =>
    intro c x r h
    unfold clo at h
    split at h
    · exact ih _ x r h
    · rename_i q
      have : y = x := (List.cons.inj h).1
      rw [← this]
      omega
theorem RDR.d0 {μ : Mem} {c p : List Int32} {g : Nat} {w : Bool} (h : RDR μ c p g w) : RDR (up μ 97 5 0) c p 0 w := by
  obtain ⟨h1, h2, h3, h4, h5, h6, h7⟩ := h
  refine ⟨?_, ?_, ?_, ?_, ?_, up_eq, ?_⟩
  · rw [up_j (by decide)]; exact h1
  · rw [up_ne (by decide)]; exact h2
  · rw [up_j (by decide)]; exact h3
  · rw [up_ne (by decide)]; exact h4
  · rw [up_j (by decide)]; exact h5
  · rw [up_j (by decide)]; exact h7
theorem i2c_id {b : Int32} (h : 0 ≤ b.toInt ∧ b.toInt ≤ 255) : (b.toUInt32 % 65536).toInt32 = b := by
  apply Int32.toInt_inj.mp
  have e0 : b.toBitVec.toNat = b.toInt.toNat := by
    have h1 : b.toBitVec.toInt = b.toInt := rfl
    have h3 : b.toBitVec.toNat < 2147483648 := by
      have hb := b.toBitVec.isLt
      rcases Nat.lt_or_ge b.toBitVec.toNat 2147483648 with q | q
      · exact q
      · exfalso
        have : b.toBitVec.toInt < 0 := by rw [BitVec.toInt_eq_toNat_cond]; split <;> omega
        omega
    have h2 := BitVec.toInt_eq_toNat_of_lt (x := b.toBitVec) (by omega)
    omega
  have e1 : (b.toUInt32 % 65536).toNat = b.toInt.toNat := by
    rw [UInt32.toNat_mod]
    show b.toBitVec.toNat % 65536 = _
    omega
  have e2 : (b.toUInt32 % 65536).toInt32.toInt = ((b.toUInt32 % 65536).toNat : Int) := by
    show (b.toUInt32 % 65536).toBitVec.toInt = _
    exact BitVec.toInt_eq_toNat_of_lt (by show 2 * (b.toUInt32 % 65536).toNat < 2 ^ 32; omega)
  omega
theorem x_takesSign {d n : Nat} {c p : List Int32} {b : Int32} {μ : Mem} (h : RDR μ c p 0 false) (hI : INV n c p 0) (hn : n < 60) (h41 : ¬ b = 41) (hd : ¬ (48 ≤ b.toInt ∧ b.toInt ≤ 57)) (u g : Nat) : ∃ r μ', cl d 10 [vR 1 97, vI b] μ = some (some (vI r), μ') ∧ Fr97 μ μ' ∧ ((r = 0 ∧ tak u b (c, p, g, false) = none) ∨ (r = 1 ∧ ∃ c' p' g' w', tak u b (c, p, g, false) = some (c', p', g', w') ∧ RDR μ' c' p' g' w' ∧ INV (n + 1) c' p' g')) := by
  obtain ⟨i1, i2, i3⟩ := hI
  have lv6 : lvl b ≤ 6 := by
    unfold lvl
    (repeat' split) <;> omega
  have et : tak u b (c, p, g, false) = (if lvl b = 0 ∨ lvl b = 6 then none else if lvl b = 3 ∧ topl (clo (if lvl b = 3 then 4 else lvl b) p c).1 = 3 then none else some ((clo (if lvl b = 3 then 4 else lvl b) p c).2, b :: (clo (if lvl b = 3 then 4 else lvl b) p c).1, 0, true)) := by
    unfold tak
    rw [if_neg hd, if_neg (by simp), if_neg h41]
  rw [et]
  by_cases q0 : lvl b = 0
  · rw [if_pos (Or.inl q0)]
    refine ⟨0, μ, ?_, Fr97.rf, Or.inl ⟨rfl, rfl⟩⟩
    have e : cl d 15 [vI b] μ = some (some (vI 0), μ) := by rw [x_levelOf, q0]; rfl
    simp -implicitDefEqProofs only [cl_10, u_10_0, u_10_1, u_10_2, u_10_3, u_10_4, u_10_5, u_10_6, u_10_7, u_10_8, u_10_9, e_iload_n, e_iload, e_lload_n, e_lload, e_aload_n, e_aload, e_istore_n, e_istore, e_astore_n, e_astore, e_lstore_n, e_lstore, e_iinc, e_iconst, e_bipush, e_sipush, e_ldc_w, e_ldc, e_ldcS, e_lconst, e_ldc2_w, e_iadd, e_isub, e_imul, e_iand, e_ixor, e_ishl, e_ishr, e_iushr, e_idiv, e_irem, e_ineg, e_i2b, e_i2s, e_i2c, e_ladd, e_lsub, e_lmul, e_land, e_lor, e_ldiv, e_lrem, e_lneg, e_lshl, e_lshr, e_lushr, e_i2l, e_l2i, e_lcmp, e_dupI, e_dupA, e_dup2, e_getI, e_getA, e_putI, e_putZ, e_getstatic, e_iaload, e_iastore, e_aaload10, e_alen10, e_aaload11, e_alen11, e_aaload12, e_alen12, e_aaload13, e_alen13, e_alen, e_invokevirtual, e_invokevirtualB, e_invokestatic, e_invokestaticB, ct_0, ct_i, ct_a, ct_l, os_0, os_s, rc_0, rc_s, sl_0, sl_i, sl_a, sl_l, simprocAttr, ix, z_em, up_eq, up_j, Nat.le_refl, true_or, or_true, true_and, and_true, and_self, or_self, beq_self_eq_true, if_true, if_false, ite_self, ca_f, ca_t, aLen, Int32.lt_iff_toInt_lt, Int32.le_iff_toInt_le, z_ite, z_iten, z_ite1, ite_not, not_true_eq_false, not_false_eq_true, false_and, and_false, false_or, or_false, b_max, b_min, b_minL, b_absL, b_ixD, b_ixH, b_copy, tk_0, tk_s, dr_0, dr_s, pu_s, pu_n, ca_0, ca_1, clr_0, clr_s, e_nop, e_goto, e_if_eq, e_if_ne, e_if_lt, e_if_ge, e_if_gt, e_if_le, e_ic_eq, e_ic_ne, e_ic_lt, e_ic_ge, e_ic_gt, e_ic_le, e_tsw, e_lsw, sw_0, sw_s, e_iret, e_zret, e_lret, e_aret, e_ret, en_0, en_n, en_i, en_a, en_l, List.getElem?_cons_zero, List.getElem?_cons_succ, List.set_cons_zero, List.set_cons_succ, len_s, List.length_nil, ne_eq, x_within, x_in, eT1, eT2, eT3, eT4, eT5, eT6, eM1, eM2, eM3, eM4, eM5, eM6, Nat.one_mul, Nat.mul_one, Nat.zero_add, e]
  · by_cases q6 : lvl b = 6
    · rw [if_pos (Or.inr q6)]
      refine ⟨0, μ, ?_, Fr97.rf, Or.inl ⟨rfl, rfl⟩⟩
      have e : cl d 15 [vI b] μ = some (some (vI 6), μ) := by rw [x_levelOf, q6]; rfl
      simp -implicitDefEqProofs only [cl_10, u_10_0, u_10_1, u_10_2, u_10_3, u_10_4, u_10_5, u_10_6, u_10_7, u_10_8, u_10_9, e_iload_n, e_iload, e_lload_n, e_lload, e_aload_n, e_aload, e_istore_n, e_istore, e_astore_n, e_astore, e_lstore_n, e_lstore, e_iinc, e_iconst, e_bipush, e_sipush, e_ldc_w, e_ldc, e_ldcS, e_lconst, e_ldc2_w, e_iadd, e_isub, e_imul, e_iand, e_ixor, e_ishl, e_ishr, e_iushr, e_idiv, e_irem, e_ineg, e_i2b, e_i2s, e_i2c, e_ladd, e_lsub, e_lmul, e_land, e_lor, e_ldiv, e_lrem, e_lneg, e_lshl, e_lshr, e_lushr, e_i2l, e_l2i, e_lcmp, e_dupI, e_dupA, e_dup2, e_getI, e_getA, e_putI, e_putZ, e_getstatic, e_iaload, e_iastore, e_aaload10, e_alen10, e_aaload11, e_alen11, e_aaload12, e_alen12, e_aaload13, e_alen13, e_alen, e_invokevirtual, e_invokevirtualB, e_invokestatic, e_invokestaticB, ct_0, ct_i, ct_a, ct_l, os_0, os_s, rc_0, rc_s, sl_0, sl_i, sl_a, sl_l, simprocAttr, ix, z_em, up_eq, up_j, Nat.le_refl, true_or, or_true, true_and, and_true, and_self, or_self, beq_self_eq_true, if_true, if_false, ite_self, ca_f, ca_t, aLen, Int32.lt_iff_toInt_lt, Int32.le_iff_toInt_le, z_ite, z_iten, z_ite1, ite_not, not_true_eq_false, not_false_eq_true, false_and, and_false, false_or, or_false, b_max, b_min, b_minL, b_absL, b_ixD, b_ixH, b_copy, tk_0, tk_s, dr_0, dr_s, pu_s, pu_n, ca_0, ca_1, clr_0, clr_s, e_nop, e_goto, e_if_eq, e_if_ne, e_if_lt, e_if_ge, e_if_gt, e_if_le, e_ic_eq, e_ic_ne, e_ic_lt, e_ic_ge, e_ic_gt, e_ic_le, e_tsw, e_lsw, sw_0, sw_s, e_iret, e_zret, e_lret, e_aret, e_ret, en_0, en_n, en_i, en_a, en_l, List.getElem?_cons_zero, List.getElem?_cons_succ, List.set_cons_zero, List.set_cons_succ, len_s, List.length_nil, ne_eq, x_within, x_in, eT1, eT2, eT3, eT4, eT5, eT6, eM1, eM2, eM3, eM4, eM5, eM6, Nat.one_mul, Nat.mul_one, Nat.zero_add, e]
    · rw [if_neg (fun z => z.elim q0 q6)]
      have nb0 : ¬ nI (lvl b) = 0 := nI_ne (b := 0) (by omega) (by omega) q0
      have nb6 : ¬ nI (lvl b) = 6 := nI_ne (b := 6) (by omega) (by omega) q6
      have ob : opn (b :: (clo (if lvl b = 3 then 4 else lvl b) p c).1) = opn (clo (if lvl b = 3 then 4 else lvl b) p c).1 := opn_b ⟨by omega, by omega⟩
      have hs : ∀ s, s ∈ b :: (clo (if lvl b = 3 then 4 else lvl b) p c).1 → s = 40 ∨ 1 ≤ lvl s := fun s hs => by
        rcases List.mem_cons.mp hs with q | q
        · exact Or.inr (by rw [q]; omega)
        · exact clo_sub p c i1 s q
      have hcl := clo_len (l := if lvl b = 3 then 4 else lvl b) p c
      by_cases q3 : lvl b = 3
      · have nb3 : nI (lvl b) = 3 := by rw [q3]; rfl
        rw [if_pos q3] at ob hs hcl ⊢
        obtain ⟨μ1, a1, a2, a3⟩ := x_close (d := d) (l := 4) (by omega) h (by omega)
        have a1' : cl d 11 [Sum.inr (Sum.inr (1, 97)), vI 4] μ = some (none, μ1) := a1
        have hp := x_pendingLevel (d := d) a2 (by omega)
        have hp' : cl d 12 [Sum.inr (Sum.inr (1, 97))] μ1 = _ := hp
        by_cases qt : topl (clo 4 p c).1 = 3
        · rw [if_pos ⟨q3, qt⟩]
          rw [qt] at hp'
          have hp2 : cl d 12 [Sum.inr (Sum.inr (1, 97))] μ1 = some (some (vI 3), μ1) := hp'
          refine ⟨0, μ1, ?_, a3, Or.inl ⟨rfl, rfl⟩⟩
          simp -implicitDefEqProofs only [cl_10, u_10_0, u_10_1, u_10_2, u_10_3, u_10_4, u_10_5, u_10_6, u_10_7, u_10_8, u_10_9, e_iload_n, e_iload, e_lload_n, e_lload, e_aload_n, e_aload, e_istore_n, e_istore, e_astore_n, e_astore, e_lstore_n, e_lstore, e_iinc, e_iconst, e_bipush, e_sipush, e_ldc_w, e_ldc, e_ldcS, e_lconst, e_ldc2_w, e_iadd, e_isub, e_imul, e_iand, e_ixor, e_ishl, e_ishr, e_iushr, e_idiv, e_irem, e_ineg, e_i2b, e_i2s, e_i2c, e_ladd, e_lsub, e_lmul, e_land, e_lor, e_ldiv, e_lrem, e_lneg, e_lshl, e_lshr, e_lushr, e_i2l, e_l2i, e_lcmp, e_dupI, e_dupA, e_dup2, e_getI, e_getA, e_putI, e_putZ, e_getstatic, e_iaload, e_iastore, e_aaload10, e_alen10, e_aaload11, e_alen11, e_aaload12, e_alen12, e_aaload13, e_alen13, e_alen, e_invokevirtual, e_invokevirtualB, e_invokestatic, e_invokestaticB, ct_0, ct_i, ct_a, ct_l, os_0, os_s, rc_0, rc_s, sl_0, sl_i, sl_a, sl_l, simprocAttr, ix, z_em, up_eq, up_j, Nat.le_refl, true_or, or_true, true_and, and_true, and_self, or_self, beq_self_eq_true, if_true, if_false, ite_self, ca_f, ca_t, aLen, Int32.lt_iff_toInt_lt, Int32.le_iff_toInt_le, z_ite, z_iten, z_ite1, ite_not, not_true_eq_false, not_false_eq_true, false_and, and_false, false_or, or_false, b_max, b_min, b_minL, b_absL, b_ixD, b_ixH, b_copy, tk_0, tk_s, dr_0, dr_s, pu_s, pu_n, ca_0, ca_1, clr_0, clr_s, e_nop, e_goto, e_if_eq, e_if_ne, e_if_lt, e_if_ge, e_if_gt, e_if_le, e_ic_eq, e_ic_ne, e_ic_lt, e_ic_ge, e_ic_gt, e_ic_le, e_tsw, e_lsw, sw_0, sw_s, e_iret, e_zret, e_lret, e_aret, e_ret, en_0, en_n, en_i, en_a, en_l, List.getElem?_cons_zero, List.getElem?_cons_succ, List.set_cons_zero, List.set_cons_succ, len_s, List.length_nil, ne_eq, x_within, x_in, eT1, eT2, eT3, eT4, eT5, eT6, eM1, eM2, eM3, eM4, eM5, eM6, Nat.one_mul, Nat.mul_one, Nat.zero_add, x_levelOf, nb3, a1', hp2]
        · rw [if_neg (fun z => qt z.2)]
          have tl6 : topl (clo 4 p c).1 ≤ 6 := by
            cases (clo 4 p c).1 with
            | nil => exact Nat.zero_le _
            | cons x r =>
              show lvl x ≤ 6
              unfold lvl
              (repeat' split) <;> omega
          have nt : ¬ nI (topl (clo 4 p c).1) = 3 := nI_ne (b := 3) (by omega) (by omega) qt
          obtain ⟨e1, e2, e3, e4, e5, e6, e7⟩ := a2
          obtain ⟨μ2, b1, b2, b3⟩ := x_push (d := d) (m := b) e1 e2 e3 e4 e5 e6 e7 (by rw [ob]) (by omega)
          have b1' : cl d 13 [Sum.inr (Sum.inr (1, 97)), vI b] μ1 = _ := b1
          obtain ⟨f1, f2, f3, f4, f5, f6, f7⟩ := b2
          refine ⟨1, up μ2 97 6 1, ?_, (a3.tr b3).u (by omega), Or.inr ⟨rfl, _, _, _, _, rfl, ⟨?_, ?_, ?_, ?_, ?_, ?_, up_eq⟩, hs, by rw [List.length_cons]; omega, by omega⟩⟩
          · simp -implicitDefEqProofs only [cl_10, u_10_0, u_10_1, u_10_2, u_10_3, u_10_4, u_10_5, u_10_6, u_10_7, u_10_8, u_10_9, e_iload_n, e_iload, e_lload_n, e_lload, e_aload_n, e_aload, e_istore_n, e_istore, e_astore_n, e_astore, e_lstore_n, e_lstore, e_iinc, e_iconst, e_bipush, e_sipush, e_ldc_w, e_ldc, e_ldcS, e_lconst, e_ldc2_w, e_iadd, e_isub, e_imul, e_iand, e_ixor, e_ishl, e_ishr, e_iushr, e_idiv, e_irem, e_ineg, e_i2b, e_i2s, e_i2c, e_ladd, e_lsub, e_lmul, e_land, e_lor, e_ldiv, e_lrem, e_lneg, e_lshl, e_lshr, e_lushr, e_i2l, e_l2i, e_lcmp, e_dupI, e_dupA, e_dup2, e_getI, e_getA, e_putI, e_putZ, e_getstatic, e_iaload, e_iastore, e_aaload10, e_alen10, e_aaload11, e_alen11, e_aaload12, e_alen12, e_aaload13, e_alen13, e_alen, e_invokevirtual, e_invokevirtualB, e_invokestatic, e_invokestaticB, ct_0, ct_i, ct_a, ct_l, os_0, os_s, rc_0, rc_s, sl_0, sl_i, sl_a, sl_l, simprocAttr, ix, z_em, up_eq, up_j, Nat.le_refl, true_or, or_true, true_and, and_true, and_self, or_self, beq_self_eq_true, if_true, if_false, ite_self, ca_f, ca_t, aLen, Int32.lt_iff_toInt_lt, Int32.le_iff_toInt_le, z_ite, z_iten, z_ite1, ite_not, not_true_eq_false, not_false_eq_true, false_and, and_false, false_or, or_false, b_max, b_min, b_minL, b_absL, b_ixD, b_ixH, b_copy, tk_0, tk_s, dr_0, dr_s, pu_s, pu_n, ca_0, ca_1, clr_0, clr_s, e_nop, e_goto, e_if_eq, e_if_ne, e_if_lt, e_if_ge, e_if_gt, e_if_le, e_ic_eq, e_ic_ne, e_ic_lt, e_ic_ge, e_ic_gt, e_ic_le, e_tsw, e_lsw, sw_0, sw_s, e_iret, e_zret, e_lret, e_aret, e_ret, en_0, en_n, en_i, en_a, en_l, List.getElem?_cons_zero, List.getElem?_cons_succ, List.set_cons_zero, List.set_cons_succ, len_s, List.length_nil, ne_eq, x_within, x_in, eT1, eT2, eT3, eT4, eT5, eT6, eM1, eM2, eM3, eM4, eM5, eM6, Nat.one_mul, Nat.mul_one, Nat.zero_add, x_levelOf, nb3, a1', hp', nt, b1']
          · rw [up_j (by decide)]; exact f1
          · rw [up_ne (by decide)]; exact f2
          · rw [up_j (by decide)]; exact f3
          · rw [up_ne (by decide)]; exact f4
          · rw [up_j (by decide)]; exact f5
          · rw [up_j (by decide)]; exact f6
      · have nb3 : ¬ nI (lvl b) = 3 := nI_ne (b := 3) (by omega) (by omega) q3
        rw [if_neg q3] at ob hs hcl ⊢
        rw [if_neg (fun z => q3 z.1)]
        obtain ⟨μ1, a1, a2, a3⟩ := x_close (d := d) (l := lvl b) (by omega) h (by omega)
        have a1' : cl d 11 [Sum.inr (Sum.inr (1, 97)), vI (nI (lvl b))] μ = some (none, μ1) := a1
        obtain ⟨e1, e2, e3, e4, e5, e6, e7⟩ := a2
        obtain ⟨μ2, b1, b2, b3⟩ := x_push (d := d) (m := b) e1 e2 e3 e4 e5 e6 e7 (by rw [ob]) (by omega)
        have b1' : cl d 13 [Sum.inr (Sum.inr (1, 97)), vI b] μ1 = _ := b1
        obtain ⟨f1, f2, f3, f4, f5, f6, f7⟩ := b2
        refine ⟨1, up μ2 97 6 1, ?_, (a3.tr b3).u (by omega), Or.inr ⟨rfl, _, _, _, _, rfl, ⟨?_, ?_, ?_, ?_, ?_, ?_, up_eq⟩, hs, by rw [List.length_cons]; omega, by omega⟩⟩
        · simp -implicitDefEqProofs only [cl_10, u_10_0, u_10_1, u_10_2, u_10_3, u_10_4, u_10_5, u_10_6, u_10_7, u_10_8, u_10_9, e_iload_n, e_iload, e_lload_n, e_lload, e_aload_n, e_aload, e_istore_n, e_istore, e_astore_n, e_astore, e_lstore_n, e_lstore, e_iinc, e_iconst, e_bipush, e_sipush, e_ldc_w, e_ldc, e_ldcS, e_lconst, e_ldc2_w, e_iadd, e_isub, e_imul, e_iand, e_ixor, e_ishl, e_ishr, e_iushr, e_idiv, e_irem, e_ineg, e_i2b, e_i2s, e_i2c, e_ladd, e_lsub, e_lmul, e_land, e_lor, e_ldiv, e_lrem, e_lneg, e_lshl, e_lshr, e_lushr, e_i2l, e_l2i, e_lcmp, e_dupI, e_dupA, e_dup2, e_getI, e_getA, e_putI, e_putZ, e_getstatic, e_iaload, e_iastore, e_aaload10, e_alen10, e_aaload11, e_alen11, e_aaload12, e_alen12, e_aaload13, e_alen13, e_alen, e_invokevirtual, e_invokevirtualB, e_invokestatic, e_invokestaticB, ct_0, ct_i, ct_a, ct_l, os_0, os_s, rc_0, rc_s, sl_0, sl_i, sl_a, sl_l, simprocAttr, ix, z_em, up_eq, up_j, Nat.le_refl, true_or, or_true, true_and, and_true, and_self, or_self, beq_self_eq_true, if_true, if_false, ite_self, ca_f, ca_t, aLen, Int32.lt_iff_toInt_lt, Int32.le_iff_toInt_le, z_ite, z_iten, z_ite1, ite_not, not_true_eq_false, not_false_eq_true, false_and, and_false, false_or, or_false, b_max, b_min, b_minL, b_absL, b_ixD, b_ixH, b_copy, tk_0, tk_s, dr_0, dr_s, pu_s, pu_n, ca_0, ca_1, clr_0, clr_s, e_nop, e_goto, e_if_eq, e_if_ne, e_if_lt, e_if_ge, e_if_gt, e_if_le, e_ic_eq, e_ic_ne, e_ic_lt, e_ic_ge, e_ic_gt, e_ic_le, e_tsw, e_lsw, sw_0, sw_s, e_iret, e_zret, e_lret, e_aret, e_ret, en_0, en_n, en_i, en_a, en_l, List.getElem?_cons_zero, List.getElem?_cons_succ, List.set_cons_zero, List.set_cons_succ, len_s, List.length_nil, ne_eq, x_within, x_in, eT1, eT2, eT3, eT4, eT5, eT6, eM1, eM2, eM3, eM4, eM5, eM6, Nat.one_mul, Nat.mul_one, Nat.zero_add, x_levelOf, nb0, nb6, nb3, a1', b1']
        · rw [up_j (by decide)]; exact f1
        · rw [up_ne (by decide)]; exact f2
        · rw [up_j (by decide)]; exact f3
        · rw [up_ne (by decide)]; exact f4
        · rw [up_j (by decide)]; exact f5
        · rw [up_j (by decide)]; exact f6
theorem x_takesClosing {d n : Nat} {c p : List Int32} {μ : Mem} (h : RDR μ c p 0 false) (hI : INV n c p 0) (hn : n < 60) (u g : Nat) : ∃ r μ', cl d 9 [vR 1 97] μ = some (some (vI r), μ') ∧ Fr97 μ μ' ∧ ((r = 0 ∧ tak u 41 (c, p, g, false) = none) ∨ (r = 1 ∧ ∃ c' p' g' w', tak u 41 (c, p, g, false) = some (c', p', g', w') ∧ RDR μ' c' p' g' w' ∧ INV (n + 1) c' p' g')) := by
  obtain ⟨i1, i2, i3⟩ := hI
  have hcl := clo_len (l := 1) p c
  have hsub := clo_sub (l := 1) p c i1
  obtain ⟨μ1, a1, a2, a3⟩ := x_close (d := d) (l := 1) (by omega) h (by omega)
  have a1' : cl d 11 [Sum.inr (Sum.inr (1, 97)), vI 1] μ = some (none, μ1) := a1
  cases hp : (clo 1 p c).1 with
  | nil =>
    have e : tak u 41 (c, p, g, false) = none := by
      unfold tak
      rw [if_neg (by decide), if_neg (by simp), if_pos rfl]
      simp only [hp]
    rw [hp] at a2
    have z3 : μ1 97 3 = 0 := a2.2.2.1
    refine ⟨0, μ1, ?_, a3, Or.inl ⟨rfl, e⟩⟩
    simp -implicitDefEqProofs only [cl_9, u_9_0, u_9_1, u_9_2, e_iload_n, e_iload, e_lload_n, e_lload, e_aload_n, e_aload, e_istore_n, e_istore, e_astore_n, e_astore, e_lstore_n, e_lstore, e_iinc, e_iconst, e_bipush, e_sipush, e_ldc_w, e_ldc, e_ldcS, e_lconst, e_ldc2_w, e_iadd, e_isub, e_imul, e_iand, e_ixor, e_ishl, e_ishr, e_iushr, e_idiv, e_irem, e_ineg, e_i2b, e_i2s, e_i2c, e_ladd, e_lsub, e_lmul, e_land, e_lor, e_ldiv, e_lrem, e_lneg, e_lshl, e_lshr, e_lushr, e_i2l, e_l2i, e_lcmp, e_dupI, e_dupA, e_dup2, e_getI, e_getA, e_putI, e_putZ, e_getstatic, e_iaload, e_iastore, e_aaload10, e_alen10, e_aaload11, e_alen11, e_aaload12, e_alen12, e_aaload13, e_alen13, e_alen, e_invokevirtual, e_invokevirtualB, e_invokestatic, e_invokestaticB, ct_0, ct_i, ct_a, ct_l, os_0, os_s, rc_0, rc_s, sl_0, sl_i, sl_a, sl_l, simprocAttr, ix, z_em, up_eq, up_j, Nat.le_refl, true_or, or_true, true_and, and_true, and_self, or_self, beq_self_eq_true, if_true, if_false, ite_self, ca_f, ca_t, aLen, Int32.lt_iff_toInt_lt, Int32.le_iff_toInt_le, z_ite, z_iten, z_ite1, ite_not, not_true_eq_false, not_false_eq_true, false_and, and_false, false_or, or_false, b_max, b_min, b_minL, b_absL, b_ixD, b_ixH, b_copy, tk_0, tk_s, dr_0, dr_s, pu_s, pu_n, ca_0, ca_1, clr_0, clr_s, e_nop, e_goto, e_if_eq, e_if_ne, e_if_lt, e_if_ge, e_if_gt, e_if_le, e_ic_eq, e_ic_ne, e_ic_lt, e_ic_ge, e_ic_gt, e_ic_le, e_tsw, e_lsw, sw_0, sw_s, e_iret, e_zret, e_lret, e_aret, e_ret, en_0, en_n, en_i, en_a, en_l, List.getElem?_cons_zero, List.getElem?_cons_succ, List.set_cons_zero, List.set_cons_succ, len_s, List.length_nil, ne_eq, x_within, x_in, eT1, eT2, eT3, eT4, eT5, eT6, eM1, eM2, eM3, eM4, eM5, eM6, Nat.one_mul, Nat.mul_one, Nat.zero_add, a1', z3]
  | cons x r =>
    have e : tak u 41 (c, p, g, false) = some ((clo 1 p c).2, r, 0, false) := by
      unfold tak
      rw [if_neg (by decide), if_neg (by simp), if_pos rfl]
      simp only [hp]
    rw [hp] at a2 hsub hcl
    have hx : x = 40 := (hsub x List.mem_cons_self).resolve_right (by have := clo_top p c x r hp; omega)
    obtain ⟨e1, e2, e3, e4, e5, e6, e7⟩ := a2
    rw [List.length_cons] at hcl
    have e3' : μ1 97 3 = nI (r.length + 1) := e3
    have nz : ¬ nI (r.length + 1) = 0 := nI_ne (b := 0) (by omega) (by omega) (by omega)
    have em : nI (r.length + 1) - 1 = nI r.length := by
      rw [nI_succ]
      exact Int32.add_sub_cancel ..
    have eo : opn (x :: r) = opn r + 1 := if_pos (Or.inr hx)
    have e5' : μ1 97 4 = nI (opn r + 1) := by rw [e5, eo]
    have eo2 : nI (opn r + 1) - 1 = nI (opn r) := by
      rw [nI_succ]
      exact Int32.add_sub_cancel ..
    refine ⟨1, up (up μ1 97 3 (nI r.length)) 97 4 (nI (opn r)), ?_, (a3.u (by omega)).u (by omega), Or.inr ⟨rfl, _, _, _, _, e, ⟨?_, ?_, ?_, ?_, up_eq, ?_, ?_⟩, fun s hs => hsub s (List.mem_cons_of_mem _ hs), by omega, by omega⟩⟩
    · simp -implicitDefEqProofs only [cl_9, u_9_0, u_9_1, u_9_2, e_iload_n, e_iload, e_lload_n, e_lload, e_aload_n, e_aload, e_istore_n, e_istore, e_astore_n, e_astore, e_lstore_n, e_lstore, e_iinc, e_iconst, e_bipush, e_sipush, e_ldc_w, e_ldc, e_ldcS, e_lconst, e_ldc2_w, e_iadd, e_isub, e_imul, e_iand, e_ixor, e_ishl, e_ishr, e_iushr, e_idiv, e_irem, e_ineg, e_i2b, e_i2s, e_i2c, e_ladd, e_lsub, e_lmul, e_land, e_lor, e_ldiv, e_lrem, e_lneg, e_lshl, e_lshr, e_lushr, e_i2l, e_l2i, e_lcmp, e_dupI, e_dupA, e_dup2, e_getI, e_getA, e_putI, e_putZ, e_getstatic, e_iaload, e_iastore, e_aaload10, e_alen10, e_aaload11, e_alen11, e_aaload12, e_alen12, e_aaload13, e_alen13, e_alen, e_invokevirtual, e_invokevirtualB, e_invokestatic, e_invokestaticB, ct_0, ct_i, ct_a, ct_l, os_0, os_s, rc_0, rc_s, sl_0, sl_i, sl_a, sl_l, simprocAttr, ix, z_em, up_eq, up_j, Nat.le_refl, true_or, or_true, true_and, and_true, and_self, or_self, beq_self_eq_true, if_true, if_false, ite_self, ca_f, ca_t, aLen, Int32.lt_iff_toInt_lt, Int32.le_iff_toInt_le, z_ite, z_iten, z_ite1, ite_not, not_true_eq_false, not_false_eq_true, false_and, and_false, false_or, or_false, b_max, b_min, b_minL, b_absL, b_ixD, b_ixH, b_copy, tk_0, tk_s, dr_0, dr_s, pu_s, pu_n, ca_0, ca_1, clr_0, clr_s, e_nop, e_goto, e_if_eq, e_if_ne, e_if_lt, e_if_ge, e_if_gt, e_if_le, e_ic_eq, e_ic_ne, e_ic_lt, e_ic_ge, e_ic_gt, e_ic_le, e_tsw, e_lsw, sw_0, sw_s, e_iret, e_zret, e_lret, e_aret, e_ret, en_0, en_n, en_i, en_a, en_l, List.getElem?_cons_zero, List.getElem?_cons_succ, List.set_cons_zero, List.set_cons_succ, len_s, List.length_nil, ne_eq, x_within, x_in, eT1, eT2, eT3, eT4, eT5, eT6, eM1, eM2, eM3, eM4, eM5, eM6, Nat.one_mul, Nat.mul_one, Nat.zero_add, a1', e3', nz, em, e5', eo2]
    · rw [up_j (by decide), up_j (by decide)]; exact e1
    · rw [up_ne (by decide), up_ne (by decide)]; exact e2
    · rw [up_j (by decide), up_eq]
    · rw [up_ne (by decide), up_ne (by decide)]; exact e4.2
    · rw [up_j (by decide), up_j (by decide)]; exact e6
    · rw [up_j (by decide), up_j (by decide)]; exact e7
theorem x_takesDigit {d n g : Nat} {c p : List Int32} {w : Bool} {b : Int32} {μ : Mem} (h : RDR μ c p g w) (hI : INV n c p g) (hn : n < 60) (hd : 48 ≤ b.toInt ∧ b.toInt ≤ 57) (u : Nat) : ∃ r μ', cl d 7 [vR 1 97, vI (b - 48)] μ = some (some (vI r), μ') ∧ Fr97 μ μ' ∧ ((r = 0 ∧ tak u b (c, p, g, w) = none) ∨ (r = 1 ∧ ∃ c' p' g' w', tak u b (c, p, g, w) = some (c', p', g', w') ∧ RDR μ' c' p' g' w' ∧ INV (n + 1) c' p' g')) := by
  obtain ⟨i1, i2, i3⟩ := hI
  cases w with
  | true =>
    have e : tak u b (c, p, g, true) = some ((b - 48) :: c, p, 1, false) := by
      unfold tak
      rw [if_pos hd, if_pos rfl]
    have h7 : μ 97 6 = 1 := h.2.2.2.2.2.2
    obtain ⟨μ1, a1, a2, a3, a4⟩ := x_emit (d := d) (m := b - 48) h (by omega)
    have a1' : cl d 14 [Sum.inr (Sum.inr (1, 97)), vI (b - 48)] μ = _ := a1
    obtain ⟨e1, e2, e3, e4, e5, e6, e7⟩ := a2
    refine ⟨1, up (up μ1 97 5 1) 97 6 0, ?_, (a3.u (by omega)).u (by omega), Or.inr ⟨rfl, _, _, _, _, e, ⟨?_, ?_, ?_, ?_, ?_, ?_, up_eq⟩, i1, by rw [List.length_cons]; omega, by omega⟩⟩
    · simp -implicitDefEqProofs only [cl_7, u_7_0, u_7_1, u_7_2, u_7_3, u_7_4, u_7_5, u_7_6, e_iload_n, e_iload, e_lload_n, e_lload, e_aload_n, e_aload, e_istore_n, e_istore, e_astore_n, e_astore, e_lstore_n, e_lstore, e_iinc, e_iconst, e_bipush, e_sipush, e_ldc_w, e_ldc, e_ldcS, e_lconst, e_ldc2_w, e_iadd, e_isub, e_imul, e_iand, e_ixor, e_ishl, e_ishr, e_iushr, e_idiv, e_irem, e_ineg, e_i2b, e_i2s, e_i2c, e_ladd, e_lsub, e_lmul, e_land, e_lor, e_ldiv, e_lrem, e_lneg, e_lshl, e_lshr, e_lushr, e_i2l, e_l2i, e_lcmp, e_dupI, e_dupA, e_dup2, e_getI, e_getA, e_putI, e_putZ, e_getstatic, e_iaload, e_iastore, e_aaload10, e_alen10, e_aaload11, e_alen11, e_aaload12, e_alen12, e_aaload13, e_alen13, e_alen, e_invokevirtual, e_invokevirtualB, e_invokestatic, e_invokestaticB, ct_0, ct_i, ct_a, ct_l, os_0, os_s, rc_0, rc_s, sl_0, sl_i, sl_a, sl_l, simprocAttr, ix, z_em, up_eq, up_j, Nat.le_refl, true_or, or_true, true_and, and_true, and_self, or_self, beq_self_eq_true, if_true, if_false, ite_self, ca_f, ca_t, aLen, Int32.lt_iff_toInt_lt, Int32.le_iff_toInt_le, z_ite, z_iten, z_ite1, ite_not, not_true_eq_false, not_false_eq_true, false_and, and_false, false_or, or_false, b_max, b_min, b_minL, b_absL, b_ixD, b_ixH, b_copy, tk_0, tk_s, dr_0, dr_s, pu_s, pu_n, ca_0, ca_1, clr_0, clr_s, e_nop, e_goto, e_if_eq, e_if_ne, e_if_lt, e_if_ge, e_if_gt, e_if_le, e_ic_eq, e_ic_ne, e_ic_lt, e_ic_ge, e_ic_gt, e_ic_le, e_tsw, e_lsw, sw_0, sw_s, e_iret, e_zret, e_lret, e_aret, e_ret, en_0, en_n, en_i, en_a, en_l, List.getElem?_cons_zero, List.getElem?_cons_succ, List.set_cons_zero, List.set_cons_succ, len_s, List.length_nil, ne_eq, x_within, x_in, eT1, eT2, eT3, eT4, eT5, eT6, eM1, eM2, eM3, eM4, eM5, eM6, Nat.one_mul, Nat.mul_one, Nat.zero_add, h7, a1']
    · rw [up_j (by decide), up_j (by decide)]; exact e1
    · rw [up_ne (by decide), up_ne (by decide)]; exact e2
    · rw [up_j (by decide), up_j (by decide)]; exact e3
    · rw [up_ne (by decide), up_ne (by decide)]; exact e4
    · rw [up_j (by decide), up_j (by decide)]; exact e5
    · rw [up_j (by decide), up_eq]; rfl
  | false =>
    obtain ⟨e1, e2, e3, e4, e5, e6, e7⟩ := h
    have h7 : μ 97 6 = 0 := e7
    have e0 : tak u b (c, p, g, false) = (if g = 0 ∨ g = 4 then none else match c with
        | [] => none
        | x :: c => some ((x * 10 + (b - 48)) :: c, p, g + 1, false)) := by
      unfold tak
      rw [if_pos hd, if_neg (by simp)]
      rfl
    rw [e0]
    by_cases q0 : g = 0
    · subst q0
      rw [if_pos (Or.inl rfl)]
      have e6' : μ 97 5 = 0 := e6
      refine ⟨0, μ, ?_, Fr97.rf, Or.inl ⟨rfl, rfl⟩⟩
      simp -implicitDefEqProofs only [cl_7, u_7_0, u_7_1, u_7_2, u_7_3, u_7_4, u_7_5, u_7_6, e_iload_n, e_iload, e_lload_n, e_lload, e_aload_n, e_aload, e_istore_n, e_istore, e_astore_n, e_astore, e_lstore_n, e_lstore, e_iinc, e_iconst, e_bipush, e_sipush, e_ldc_w, e_ldc, e_ldcS, e_lconst, e_ldc2_w, e_iadd, e_isub, e_imul, e_iand, e_ixor, e_ishl, e_ishr, e_iushr, e_idiv, e_irem, e_ineg, e_i2b, e_i2s, e_i2c, e_ladd, e_lsub, e_lmul, e_land, e_lor, e_ldiv, e_lrem, e_lneg, e_lshl, e_lshr, e_lushr, e_i2l, e_l2i, e_lcmp, e_dupI, e_dupA, e_dup2, e_getI, e_getA, e_putI, e_putZ, e_getstatic, e_iaload, e_iastore, e_aaload10, e_alen10, e_aaload11, e_alen11, e_aaload12, e_alen12, e_aaload13, e_alen13, e_alen, e_invokevirtual, e_invokevirtualB, e_invokestatic, e_invokestaticB, ct_0, ct_i, ct_a, ct_l, os_0, os_s, rc_0, rc_s, sl_0, sl_i, sl_a, sl_l, simprocAttr, ix, z_em, up_eq, up_j, Nat.le_refl, true_or, or_true, true_and, and_true, and_self, or_self, beq_self_eq_true, if_true, if_false, ite_self, ca_f, ca_t, aLen, Int32.lt_iff_toInt_lt, Int32.le_iff_toInt_le, z_ite, z_iten, z_ite1, ite_not, not_true_eq_false, not_false_eq_true, false_and, and_false, false_or, or_false, b_max, b_min, b_minL, b_absL, b_ixD, b_ixH, b_copy, tk_0, tk_s, dr_0, dr_s, pu_s, pu_n, ca_0, ca_1, clr_0, clr_s, e_nop, e_goto, e_if_eq, e_if_ne, e_if_lt, e_if_ge, e_if_gt, e_if_le, e_ic_eq, e_ic_ne, e_ic_lt, e_ic_ge, e_ic_gt, e_ic_le, e_tsw, e_lsw, sw_0, sw_s, e_iret, e_zret, e_lret, e_aret, e_ret, en_0, en_n, en_i, en_a, en_l, List.getElem?_cons_zero, List.getElem?_cons_succ, List.set_cons_zero, List.set_cons_succ, len_s, List.length_nil, ne_eq, x_within, x_in, eT1, eT2, eT3, eT4, eT5, eT6, eM1, eM2, eM3, eM4, eM5, eM6, Nat.one_mul, Nat.mul_one, Nat.zero_add, h7, e6']
    · have ng0 : ¬ nI g = 0 := nI_ne (b := 0) (by omega) (by omega) q0
      by_cases q4 : g = 4
      · subst q4
        rw [if_pos (Or.inr rfl)]
        have e6' : μ 97 5 = 4 := e6
        refine ⟨0, μ, ?_, Fr97.rf, Or.inl ⟨rfl, rfl⟩⟩
        simp -implicitDefEqProofs only [cl_7, u_7_0, u_7_1, u_7_2, u_7_3, u_7_4, u_7_5, u_7_6, e_iload_n, e_iload, e_lload_n, e_lload, e_aload_n, e_aload, e_istore_n, e_istore, e_astore_n, e_astore, e_lstore_n, e_lstore, e_iinc, e_iconst, e_bipush, e_sipush, e_ldc_w, e_ldc, e_ldcS, e_lconst, e_ldc2_w, e_iadd, e_isub, e_imul, e_iand, e_ixor, e_ishl, e_ishr, e_iushr, e_idiv, e_irem, e_ineg, e_i2b, e_i2s, e_i2c, e_ladd, e_lsub, e_lmul, e_land, e_lor, e_ldiv, e_lrem, e_lneg, e_lshl, e_lshr, e_lushr, e_i2l, e_l2i, e_lcmp, e_dupI, e_dupA, e_dup2, e_getI, e_getA, e_putI, e_putZ, e_getstatic, e_iaload, e_iastore, e_aaload10, e_alen10, e_aaload11, e_alen11, e_aaload12, e_alen12, e_aaload13, e_alen13, e_alen, e_invokevirtual, e_invokevirtualB, e_invokestatic, e_invokestaticB, ct_0, ct_i, ct_a, ct_l, os_0, os_s, rc_0, rc_s, sl_0, sl_i, sl_a, sl_l, simprocAttr, ix, z_em, up_eq, up_j, Nat.le_refl, true_or, or_true, true_and, and_true, and_self, or_self, beq_self_eq_true, if_true, if_false, ite_self, ca_f, ca_t, aLen, Int32.lt_iff_toInt_lt, Int32.le_iff_toInt_le, z_ite, z_iten, z_ite1, ite_not, not_true_eq_false, not_false_eq_true, false_and, and_false, false_or, or_false, b_max, b_min, b_minL, b_absL, b_ixD, b_ixH, b_copy, tk_0, tk_s, dr_0, dr_s, pu_s, pu_n, ca_0, ca_1, clr_0, clr_s, e_nop, e_goto, e_if_eq, e_if_ne, e_if_lt, e_if_ge, e_if_gt, e_if_le, e_ic_eq, e_ic_ne, e_ic_lt, e_ic_ge, e_ic_gt, e_ic_le, e_tsw, e_lsw, sw_0, sw_s, e_iret, e_zret, e_lret, e_aret, e_ret, en_0, en_n, en_i, en_a, en_l, List.getElem?_cons_zero, List.getElem?_cons_succ, List.set_cons_zero, List.set_cons_succ, len_s, List.length_nil, ne_eq, x_within, x_in, eT1, eT2, eT3, eT4, eT5, eT6, eM1, eM2, eM3, eM4, eM5, eM6, Nat.one_mul, Nat.mul_one, Nat.zero_add, h7, e6']
      · have ng4 : ¬ nI g = 4 := nI_ne (b := 4) (by omega) (by omega) q4
        rw [if_neg (fun z => z.elim q0 q4)]
        cases c with
        | nil =>
          have e1' : μ 97 2 = 0 := e1
          refine ⟨0, μ, ?_, Fr97.rf, Or.inl ⟨rfl, rfl⟩⟩
          simp -implicitDefEqProofs only [cl_7, u_7_0, u_7_1, u_7_2, u_7_3, u_7_4, u_7_5, u_7_6, e_iload_n, e_iload, e_lload_n, e_lload, e_aload_n, e_aload, e_istore_n, e_istore, e_astore_n, e_astore, e_lstore_n, e_lstore, e_iinc, e_iconst, e_bipush, e_sipush, e_ldc_w, e_ldc, e_ldcS, e_lconst, e_ldc2_w, e_iadd, e_isub, e_imul, e_iand, e_ixor, e_ishl, e_ishr, e_iushr, e_idiv, e_irem, e_ineg, e_i2b, e_i2s, e_i2c, e_ladd, e_lsub, e_lmul, e_land, e_lor, e_ldiv, e_lrem, e_lneg, e_lshl, e_lshr, e_lushr, e_i2l, e_l2i, e_lcmp, e_dupI, e_dupA, e_dup2, e_getI, e_getA, e_putI, e_putZ, e_getstatic, e_iaload, e_iastore, e_aaload10, e_alen10, e_aaload11, e_alen11, e_aaload12, e_alen12, e_aaload13, e_alen13, e_alen, e_invokevirtual, e_invokevirtualB, e_invokestatic, e_invokestaticB, ct_0, ct_i, ct_a, ct_l, os_0, os_s, rc_0, rc_s, sl_0, sl_i, sl_a, sl_l, simprocAttr, ix, z_em, up_eq, up_j, Nat.le_refl, true_or, or_true, true_and, and_true, and_self, or_self, beq_self_eq_true, if_true, if_false, ite_self, ca_f, ca_t, aLen, Int32.lt_iff_toInt_lt, Int32.le_iff_toInt_le, z_ite, z_iten, z_ite1, ite_not, not_true_eq_false, not_false_eq_true, false_and, and_false, false_or, or_false, b_max, b_min, b_minL, b_absL, b_ixD, b_ixH, b_copy, tk_0, tk_s, dr_0, dr_s, pu_s, pu_n, ca_0, ca_1, clr_0, clr_s, e_nop, e_goto, e_if_eq, e_if_ne, e_if_lt, e_if_ge, e_if_gt, e_if_le, e_ic_eq, e_ic_ne, e_ic_lt, e_ic_ge, e_ic_gt, e_ic_le, e_tsw, e_lsw, sw_0, sw_s, e_iret, e_zret, e_lret, e_aret, e_ret, en_0, en_n, en_i, en_a, en_l, List.getElem?_cons_zero, List.getElem?_cons_succ, List.set_cons_zero, List.set_cons_succ, len_s, List.length_nil, ne_eq, x_within, x_in, eT1, eT2, eT3, eT4, eT5, eT6, eM1, eM2, eM3, eM4, eM5, eM6, Nat.one_mul, Nat.mul_one, Nat.zero_add, h7, e6, ng0, ng4, e1']
        | cons x c =>
          rw [List.length_cons] at i2
          have e1' : μ 97 2 = nI (c.length + 1) := e1
          have nz : ¬ nI (c.length + 1) = 0 := nI_ne (b := 0) (by omega) (by omega) (by omega)
          have em : nI (c.length + 1) - 1 = nI c.length := by
            rw [nI_succ]
            exact Int32.add_sub_cancel ..
          have np : (nI c.length).toInt = c.length := nI_toInt (by omega)
          have cp : (nI c.length).toNatClampNeg = c.length := ix_nI (by omega)
          have b1 : ((c.length : Nat) : Int) < 60 := by omega
          have b0 : (0 : Int) ≤ ((c.length : Nat) : Int) := by omega
          have hx : μ 98 c.length = x := e2.1
          refine ⟨1, up (up μ 98 c.length (x * 10 + (b - 48))) 97 5 (nI (g + 1)), ?_, (Fr97.rf.u (by omega)).u (by omega), Or.inr ⟨rfl, _, _, _, _, rfl, ⟨?_, ?_, ?_, ?_, ?_, up_eq, ?_⟩, i1, by rw [List.length_cons]; omega, by omega⟩⟩
          · simp -implicitDefEqProofs only [cl_7, u_7_0, u_7_1, u_7_2, u_7_3, u_7_4, u_7_5, u_7_6, e_iload_n, e_iload, e_lload_n, e_lload, e_aload_n, e_aload, e_istore_n, e_istore, e_astore_n, e_astore, e_lstore_n, e_lstore, e_iinc, e_iconst, e_bipush, e_sipush, e_ldc_w, e_ldc, e_ldcS, e_lconst, e_ldc2_w, e_iadd, e_isub, e_imul, e_iand, e_ixor, e_ishl, e_ishr, e_iushr, e_idiv, e_irem, e_ineg, e_i2b, e_i2s, e_i2c, e_ladd, e_lsub, e_lmul, e_land, e_lor, e_ldiv, e_lrem, e_lneg, e_lshl, e_lshr, e_lushr, e_i2l, e_l2i, e_lcmp, e_dupI, e_dupA, e_dup2, e_getI, e_getA, e_putI, e_putZ, e_getstatic, e_iaload, e_iastore, e_aaload10, e_alen10, e_aaload11, e_alen11, e_aaload12, e_alen12, e_aaload13, e_alen13, e_alen, e_invokevirtual, e_invokevirtualB, e_invokestatic, e_invokestaticB, ct_0, ct_i, ct_a, ct_l, os_0, os_s, rc_0, rc_s, sl_0, sl_i, sl_a, sl_l, simprocAttr, ix, z_em, up_eq, up_j, Nat.le_refl, true_or, or_true, true_and, and_true, and_self, or_self, beq_self_eq_true, if_true, if_false, ite_self, ca_f, ca_t, aLen, Int32.lt_iff_toInt_lt, Int32.le_iff_toInt_le, z_ite, z_iten, z_ite1, ite_not, not_true_eq_false, not_false_eq_true, false_and, and_false, false_or, or_false, b_max, b_min, b_minL, b_absL, b_ixD, b_ixH, b_copy, tk_0, tk_s, dr_0, dr_s, pu_s, pu_n, ca_0, ca_1, clr_0, clr_s, e_nop, e_goto, e_if_eq, e_if_ne, e_if_lt, e_if_ge, e_if_gt, e_if_le, e_ic_eq, e_ic_ne, e_ic_lt, e_ic_ge, e_ic_gt, e_ic_le, e_tsw, e_lsw, sw_0, sw_s, e_iret, e_zret, e_lret, e_aret, e_ret, en_0, en_n, en_i, en_a, en_l, List.getElem?_cons_zero, List.getElem?_cons_succ, List.set_cons_zero, List.set_cons_succ, len_s, List.length_nil, ne_eq, x_within, x_in, eT1, eT2, eT3, eT4, eT5, eT6, eM1, eM2, eM3, eM4, eM5, eM6, Nat.one_mul, Nat.mul_one, Nat.zero_add, h7, e6, ng0, ng4, e1', nz, em, np, cp, b1, b0, hx, up_o (show ¬ (97 : Nat) = 98 by decide), ← nI_succ]
          · rw [up_j (by decide), up_o (by decide)]; exact e1
          · rw [up_ne (by decide), up_row]
            exact stk_p e2.2
          · rw [up_j (by decide), up_o (by decide)]; exact e3
          · rw [up_ne (by decide), up_ne (by decide)]; exact e4
          · rw [up_j (by decide), up_o (by decide)]; exact e5
          · rw [up_j (by decide), up_o (by decide)]; exact e7
