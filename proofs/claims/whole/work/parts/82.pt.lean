/-! PAIRS OF CALLS: text. -/
theorem EQV.z6 {V V' : Mem} (h : EQV V V') : EQV (up V 0 6 0) (up V' 0 6 0) := by
  obtain ⟨e1, e2, e3, e4, e5⟩ := h
  have e : ∀ (W : Mem) a c, ¬ (a = 0 ∧ c = 6) → up W 0 6 0 a c = W a c := fun W a c p1 => if_neg p1
  refine ⟨fun k hk => ?_, fun w hw hwc k hk hu => ?_, fun r hr hrc k hk => ?_, fun i hi hic => ?_, fun i hi hic => ?_⟩
  · by_cases q : k = 6
    · subst q
      rw [up_eq, up_eq]
    · rw [e _ _ _ (by omega), e _ _ _ (by omega)]
      exact e1 k hk
  · rw [e _ _ _ (by omega)] at hwc
    unfold usK at hu
    rw [e _ _ _ (by omega)] at hu
    rw [e _ _ _ (by omega), e _ _ _ (by omega)]
    exact e2 w hw hwc k hk hu
  · rw [e _ _ _ (by omega)] at hrc
    rw [e _ _ _ (by omega), e _ _ _ (by omega)]
    exact e3 r hr hrc k hk
  · rw [up_eq] at hic
    have t0 : (0 : Int32).toInt = 0 := rfl
    omega
  · rw [e _ _ _ (by omega)] at hic
    rw [e _ _ _ (by omega), e _ _ _ (by omega)]
    exact e5 i hi hic
theorem wf_z6 {V : Mem} (h : WFV V) : WFV (up V 0 6 0) := by
  refine wf_up h (by unfold plV; omega) ?_
  show (0 : Int) ≤ (0 : Int32).toInt ∧ (0 : Int32).toInt ≤ (60 : Int)
  decide
theorem mkL_len {u : Nat} : ∀ E, (mkL u E).length = E.length := by
  intro E
  induction E with
  | nil => rfl
  | cons p r ih => show (mkL u r).length + 1 = r.length + 1; rw [ih]
/-- the class's row of marks is the model's row of steps -/
theorem row_eq {u : Nat} {g h : Nat → Int32} : ∀ E, rowP g E → stkAt h (mkL u E) → ∀ i, i < E.length → h i = mkM u (g (2 * i)) (g (2 * i + 1)) := by
  intro E
  induction E with
  | nil => exact fun _ _ i hi => absurd hi (Nat.not_lt_zero i)
  | cons p r ih =>
    intro ⟨h1, h2, h3⟩ ⟨s1, s2⟩ i hi
    rw [List.length_cons] at hi
    by_cases q : i = r.length
    · rw [mkL_len] at s1
      rw [q, h1, h2]
      exact s1
    · exact ih h3 s2 i (by omega)
theorem nm_rg {u : Nat} {v : Int32} : 0 ≤ (nmU u v).toInt ∧ (nmU u v).toInt ≤ 3 := by
  unfold nmU
  (repeat' split) <;> decide
theorem okG_rg {v : Int32} (h : okG v) : (37 ≤ v.toInt ∧ v.toInt ≤ 124) ∧ ¬ v = 33 := by
  unfold okG at h
  rcases h with rfl | rfl | rfl | rfl | rfl | rfl | rfl | rfl | rfl | rfl <;> decide
theorem run_len {u : Nat} {g : Nat → Int32} {f : Nat → Int32} (hu : u < 2) (hf : ∀ i, f i = mkM u (g (2 * i)) (g (2 * i + 1))) : ∀ E, E.length ≤ 60 → rowP g E → okE u E → (runP 0 0 0 0 f E.length).length = dpE E ∧ ∀ k, k < E.length → (g (2 * k) = 0 ∧ 0 ≤ (g (2 * k + 1)).toInt ∧ (g (2 * k + 1)).toInt ≤ 9999) ∨ (g (2 * k) = 1 ∧ okN u (g (2 * k + 1))) ∨ (g (2 * k) = 2 ∧ 1 ≤ (runP 0 0 0 0 f k).length) ∨ (g (2 * k) = 3 ∧ okG (g (2 * k + 1)) ∧ 2 ≤ (runP 0 0 0 0 f k).length) := by
  intro E
  induction E with
  | nil => exact fun _ _ _ => ⟨rfl, fun k hk => absurd hk (Nat.not_lt_zero k)⟩
  | cons p r ih =>
    intro h60 ⟨h1, h2, h3⟩ ⟨o1, o2⟩
    rw [List.length_cons] at h60
    obtain ⟨i1, i2⟩ := ih (by omega) h3 o1
    have hlt : (runP 0 0 0 0 f r.length).length < 60 := by
      have := runP_len (a1 := 0) (a2 := 0) (a3 := 0) (a4 := 0) (f := f) r.length
      omega
    have e : runP 0 0 0 0 f (r.length + 1) = stepP 0 0 0 0 (runP 0 0 0 0 f r.length) (mkM u p.1 p.2) := by
      show stepP 0 0 0 0 (runP 0 0 0 0 f r.length) (f r.length) = _
      rw [hf, h1, h2]
    refine ⟨?_, fun k hk => ?_⟩
    · rw [List.length_cons, e]
      generalize hst : runP 0 0 0 0 f r.length = st at *
      have t1 : (10000 : Int32).toInt = 10000 := rfl
      have t2 : (20000 : Int32).toInt = 20000 := rfl
      have t3 : (10033 : Int32).toInt = 10033 := rfl
      rcases o2 with ⟨a, b1, b2⟩ | ⟨a, b⟩ | ⟨a, b⟩ | ⟨a, b, c⟩
      · have em : mkM u p.1 p.2 = p.2 := by unfold mkM; rw [if_pos a]
        have ed : dpE (p :: r) = dpE r + 1 := by
          show (if p.1 = 2 then _ else _) = _
          rw [a, if_neg (by decide), if_neg (by decide)]
        rw [em, ed, ← i1]
        unfold stepP
        rw [if_neg (fun z => by rw [z, t3] at b2; omega), if_neg (by omega), if_pos hlt]
        rfl
      · have hn := nm_rg (u := u) (v := p.2)
        have em : mkM u p.1 p.2 = 20000 + nmU u p.2 := by unfold mkM; rw [if_neg (by rw [a]; decide), if_pos a]
        have es : (20000 + nmU u p.2).toInt = 20000 + (nmU u p.2).toInt := by rw [ta] <;> rw [t2] <;> omega
        have ed : dpE (p :: r) = dpE r + 1 := by
          show (if p.1 = 2 then _ else _) = _
          rw [a, if_neg (by decide), if_neg (by decide)]
        rw [em, ed, ← i1]
        unfold stepP
        rw [if_neg (fun z => by rw [z, t3] at es; omega), if_neg (by omega), if_pos hlt]
        rfl
      · have em : mkM u p.1 p.2 = 10033 := by unfold mkM; rw [if_neg (by rw [a]; decide), if_neg (by rw [a]; decide), if_pos a]
        have ed : dpE (p :: r) = dpE r := by
          show (if p.1 = 2 then _ else _) = _
          rw [if_pos a]
        rw [em, ed, ← i1]
        unfold stepP
        rw [if_pos rfl]
        cases st with
        | nil => rfl
        | cons x s => rfl
      · obtain ⟨⟨g1, g2⟩, g3⟩ := okG_rg b
        have em : mkM u p.1 p.2 = 10000 + p.2 := by unfold mkM; rw [if_neg (by rw [a]; decide), if_neg (by rw [a]; decide), if_neg (by rw [a]; decide)]
        have es : (10000 + p.2).toInt = 10000 + p.2.toInt := by rw [ta] <;> rw [t1] <;> omega
        have ed : dpE (p :: r) = dpE r - 1 := by
          show (if p.1 = 2 then _ else _) = _
          rw [a, if_neg (by decide), if_pos rfl]
        have n33 : ¬ 10000 + p.2 = 10033 := fun z => by
          rw [z, t3] at es
          exact g3 (Int32.toInt_inj.mp (by have t : (33 : Int32).toInt = 33 := rfl; omega))
        rw [em, ed, ← i1]
        unfold stepP
        rw [if_neg n33, if_pos (by omega)]
        cases st with
        | nil => rfl
        | cons x s =>
          cases s with
          | nil => rw [← i1] at c; exact absurd c (by simp)
          | cons y s => rfl
    · rw [List.length_cons] at hk
      by_cases q : k = r.length
      · subst q
        rw [h1, h2, i1]
        exact o2
      · exact i2 k (by omega)
theorem x_lawTake {d u n : Nat} {μ : Mem} (hn : n ≤ 60) : cl d 0 [vR 0 (27 + 3 * u), vR 160 98, vI (nI n)] μ = some (none, up (cpy (up μ (27 + 3 * u) 2 (nI n)) 98 0 (27 + 3 * u + 1) 0 n) (27 + 3 * u) 3 1) := by
  have nn : (nI n).toInt = n := nI_toInt (by omega)
  have cn : (nI n).toNatClampNeg = n := ix_nI (by omega)
  have n60 : ¬ (60 : Int) < (n : Int) := by omega
  have b0 : (0 : Int) ≤ (n : Int) := by omega
  have b1 : (n : Int) ≤ 60 := by omega
  simp -implicitDefEqProofs only [cl_0, u_0_0, e_iload_n, e_iload, e_lload_n, e_lload, e_aload_n, e_aload, e_istore_n, e_istore, e_astore_n, e_astore, e_lstore_n, e_lstore, e_iinc, e_iconst, e_bipush, e_sipush, e_ldc_w, e_ldc, e_ldcS, e_lconst, e_ldc2_w, e_iadd, e_isub, e_imul, e_iand, e_ixor, e_ishl, e_ishr, e_iushr, e_idiv, e_irem, e_ineg, e_i2b, e_i2s, e_i2c, e_ladd, e_lsub, e_lmul, e_land, e_lor, e_ldiv, e_lrem, e_lneg, e_lshl, e_lshr, e_lushr, e_i2l, e_l2i, e_lcmp, e_dupI, e_dupA, e_dup2, e_getI, e_getA, e_putI, e_putZ, e_getstatic, e_iaload, e_iastore, e_aaload10, e_alen10, e_aaload11, e_alen11, e_aaload12, e_alen12, e_aaload13, e_alen13, e_alen, e_invokevirtual, e_invokevirtualB, e_invokestatic, e_invokestaticB, ct_0, ct_i, ct_a, ct_l, os_0, os_s, rc_0, rc_s, sl_0, sl_i, sl_a, sl_l, simprocAttr, ix, z_em, up_eq, up_j, Nat.le_refl, true_or, or_true, true_and, and_true, and_self, or_self, beq_self_eq_true, if_true, if_false, ite_self, ca_f, ca_t, aLen, Int32.lt_iff_toInt_lt, Int32.le_iff_toInt_le, z_ite, z_iten, z_ite1, ite_not, not_true_eq_false, not_false_eq_true, false_and, and_false, false_or, or_false, b_max, b_min, b_minL, b_absL, b_ixD, b_ixH, b_copy, tk_0, tk_s, dr_0, dr_s, pu_s, pu_n, ca_0, ca_1, clr_0, clr_s, e_nop, e_goto, e_if_eq, e_if_ne, e_if_lt, e_if_ge, e_if_gt, e_if_le, e_ic_eq, e_ic_ne, e_ic_lt, e_ic_ge, e_ic_gt, e_ic_le, e_tsw, e_lsw, sw_0, sw_s, e_iret, e_zret, e_lret, e_aret, e_ret, en_0, en_n, en_i, en_a, en_l, List.getElem?_cons_zero, List.getElem?_cons_succ, List.set_cons_zero, List.set_cons_succ, len_s, List.length_nil, ne_eq, x_within, x_in, eT1, eT2, eT3, eT4, eT5, eT6, eM1, eM2, eM3, eM4, eM5, eM6, Nat.one_mul, Nat.mul_one, Nat.zero_add, nn, cn, n60, b0, b1, Int.zero_add]
theorem k_text {d u N : Nat} {c2 : Int32} (hu : u < 2) (hN : N ≤ 60) : ∀ (n k : Nat) (μ μ0 : Mem), k + n = 2 * N → μ 112 7 = nI N → (∀ o, o ≠ 113 → μ o = μ0 o) → (∀ j, j < k → μ 113 (170 + 125 * u + 1 + j) = μ0 117 j) → (∀ c, c < 170 + 125 * u + 1 ∨ 170 + 125 * u + 1 + 2 * N ≤ c → μ 113 c = μ0 113 c) → ∃ μ', res d 141 9 [some (vR 8 112), some (vI (nI u)), some (vI c2), some (vI (nI (170 + 125 * u))), some (vI (nI k))] [] μ = some (some (vI 1), μ') ∧ (∀ o, o ≠ 113 → μ' o = μ0 o) ∧ (∀ j, j < 2 * N → μ' 113 (170 + 125 * u + 1 + j) = μ0 117 j) ∧ (∀ c, c < 170 + 125 * u + 1 ∨ 170 + 125 * u + 1 + 2 * N ≤ c → μ' 113 c = μ0 113 c) := by
  have e2 : 2 * nI N = nI (2 * N) := by
    show nI 2 * nI N = _
    exact nIm (by omega) (by omega) (by omega)
  have n2 : (nI (2 * N)).toInt = (2 * N : Nat) := nI_toInt (by omega)
  intro n
  induction n with
  | zero =>
    intro k μ μ0 hk h7 hf hj hc
    have hk : k = 2 * N := by omega
    subst hk
    refine ⟨μ, ?_, hf, hj, hc⟩
    rw [u_141_9]
    simp -implicitDefEqProofs only [u_141_0, u_141_1, u_141_2, u_141_3, u_141_4, u_141_5, u_141_6, u_141_7, u_141_8, u_141_10, u_141_11, e_iload_n, e_iload, e_lload_n, e_lload, e_aload_n, e_aload, e_istore_n, e_istore, e_astore_n, e_astore, e_lstore_n, e_lstore, e_iinc, e_iconst, e_bipush, e_sipush, e_ldc_w, e_ldc, e_ldcS, e_lconst, e_ldc2_w, e_iadd, e_isub, e_imul, e_iand, e_ixor, e_ishl, e_ishr, e_iushr, e_idiv, e_irem, e_ineg, e_i2b, e_i2s, e_i2c, e_ladd, e_lsub, e_lmul, e_land, e_lor, e_ldiv, e_lrem, e_lneg, e_lshl, e_lshr, e_lushr, e_i2l, e_l2i, e_lcmp, e_dupI, e_dupA, e_dup2, e_getI, e_getA, e_putI, e_putZ, e_getstatic, e_iaload, e_iastore, e_aaload10, e_alen10, e_aaload11, e_alen11, e_aaload12, e_alen12, e_aaload13, e_alen13, e_alen, e_invokevirtual, e_invokevirtualB, e_invokestatic, e_invokestaticB, ct_0, ct_i, ct_a, ct_l, os_0, os_s, rc_0, rc_s, sl_0, sl_i, sl_a, sl_l, simprocAttr, ix, z_em, up_eq, up_j, Nat.le_refl, true_or, or_true, true_and, and_true, and_self, or_self, beq_self_eq_true, if_true, if_false, ite_self, ca_f, ca_t, aLen, Int32.lt_iff_toInt_lt, Int32.le_iff_toInt_le, z_ite, z_iten, z_ite1, ite_not, not_true_eq_false, not_false_eq_true, false_and, and_false, false_or, or_false, b_max, b_min, b_minL, b_absL, b_ixD, b_ixH, b_copy, tk_0, tk_s, dr_0, dr_s, pu_s, pu_n, ca_0, ca_1, clr_0, clr_s, e_nop, e_goto, e_if_eq, e_if_ne, e_if_lt, e_if_ge, e_if_gt, e_if_le, e_ic_eq, e_ic_ne, e_ic_lt, e_ic_ge, e_ic_gt, e_ic_le, e_tsw, e_lsw, sw_0, sw_s, e_iret, e_zret, e_lret, e_aret, e_ret, en_0, en_n, en_i, en_a, en_l, List.getElem?_cons_zero, List.getElem?_cons_succ, List.set_cons_zero, List.set_cons_succ, len_s, List.length_nil, ne_eq, x_within, x_in, eT1, eT2, eT3, eT4, eT5, eT6, eM1, eM2, eM3, eM4, eM5, eM6, Nat.one_mul, Nat.mul_one, Nat.zero_add, h7, e2, Int.lt_irrefl]
  | succ n ih =>
    intro k μ μ0 hk h7 hf hj hc
    have nk : (nI k).toInt = k := nI_toInt (by omega)
    have ck : (nI k).toNatClampNeg = k := ix_nI (by omega)
    have h1 : ((k : Nat) : Int) < ((2 * N : Nat) : Int) := by omega
    have h0 : (0 : Int) ≤ ((k : Nat) : Int) := by omega
    have h2 : ((k : Nat) : Int) < 124 := by omega
    have ea : nI (170 + 125 * u + 1) + nI k = nI (170 + 125 * u + 1 + k) := nIa (by omega)
    have ia : (nI (170 + 125 * u + 1 + k)).toInt = (170 + 125 * u + 1 + k : Nat) := nI_toInt (by omega)
    have ca : (nI (170 + 125 * u + 1 + k)).toNatClampNeg = 170 + 125 * u + 1 + k := ix_nI (by omega)
    have ba : (0 : Int) ≤ ((170 + 125 * u + 1 + k : Nat) : Int) ∧ ((170 + 125 * u + 1 + k : Nat) : Int) < 504 := by omega
    obtain ⟨μ', b1, b2⟩ := ih (k + 1) (up μ 113 (170 + 125 * u + 1 + k) (μ 117 k)) μ0 (by omega) (by rw [up_o (by decide)]; exact h7) (fun o p => by rw [up_ne p]; exact hf o p) (fun j hjk => by
      by_cases q : j = k
      · rw [q, up_eq, hf 117 (by decide)]
      · rw [up_j (by omega)]
        exact hj j (by omega)) (fun c p => by rw [up_j (by omega)]; exact hc c p)
    refine ⟨μ', ?_, b2⟩
    rw [← b1, u_141_9]
    simp -implicitDefEqProofs only [u_141_0, u_141_1, u_141_2, u_141_3, u_141_4, u_141_5, u_141_6, u_141_7, u_141_8, u_141_10, u_141_11, e_iload_n, e_iload, e_lload_n, e_lload, e_aload_n, e_aload, e_istore_n, e_istore, e_astore_n, e_astore, e_lstore_n, e_lstore, e_iinc, e_iconst, e_bipush, e_sipush, e_ldc_w, e_ldc, e_ldcS, e_lconst, e_ldc2_w, e_iadd, e_isub, e_imul, e_iand, e_ixor, e_ishl, e_ishr, e_iushr, e_idiv, e_irem, e_ineg, e_i2b, e_i2s, e_i2c, e_ladd, e_lsub, e_lmul, e_land, e_lor, e_ldiv, e_lrem, e_lneg, e_lshl, e_lshr, e_lushr, e_i2l, e_l2i, e_lcmp, e_dupI, e_dupA, e_dup2, e_getI, e_getA, e_putI, e_putZ, e_getstatic, e_iaload, e_iastore, e_aaload10, e_alen10, e_aaload11, e_alen11, e_aaload12, e_alen12, e_aaload13, e_alen13, e_alen, e_invokevirtual, e_invokevirtualB, e_invokestatic, e_invokestaticB, ct_0, ct_i, ct_a, ct_l, os_0, os_s, rc_0, rc_s, sl_0, sl_i, sl_a, sl_l, simprocAttr, ix, z_em, up_eq, up_j, Nat.le_refl, true_or, or_true, true_and, and_true, and_self, or_self, beq_self_eq_true, if_true, if_false, ite_self, ca_f, ca_t, aLen, Int32.lt_iff_toInt_lt, Int32.le_iff_toInt_le, z_ite, z_iten, z_ite1, ite_not, not_true_eq_false, not_false_eq_true, false_and, and_false, false_or, or_false, b_max, b_min, b_minL, b_absL, b_ixD, b_ixH, b_copy, tk_0, tk_s, dr_0, dr_s, pu_s, pu_n, ca_0, ca_1, clr_0, clr_s, e_nop, e_goto, e_if_eq, e_if_ne, e_if_lt, e_if_ge, e_if_gt, e_if_le, e_ic_eq, e_ic_ne, e_ic_lt, e_ic_ge, e_ic_gt, e_ic_le, e_tsw, e_lsw, sw_0, sw_s, e_iret, e_zret, e_lret, e_aret, e_ret, en_0, en_n, en_i, en_a, en_l, List.getElem?_cons_zero, List.getElem?_cons_succ, List.set_cons_zero, List.set_cons_succ, len_s, List.length_nil, ne_eq, x_within, x_in, eT1, eT2, eT3, eT4, eT5, eT6, eM1, eM2, eM3, eM4, eM5, eM6, Nat.one_mul, Nat.mul_one, Nat.zero_add, h7, e2, n2, nk, ck, h1, h0, h2, ea, ia, ca, if_pos ba, ← nI_succ]
theorem p_text {fz : Mem} {d : Nat} {u : Int32} {μ : Mem} (h : RR fz μ) : PR fz (d + 6) 65 141 [vI u] μ := by
  by_cases q1 : 0 ≤ u.toInt ∧ u.toInt ≤ 1
  · obtain ⟨u', hu, rfl⟩ := nIof (v := u) (n := 2) q1.1 (by omega)
    have nu : (nI u').toInt = u' := nI_toInt (by omega)
    have cu : (nI u').toNatClampNeg = u' := ix_nI (by omega)
    rw [nu] at q1
    have b2 : (u' : Int) < 2 := by omega
    have g6 := gs6 h.1.1.1
    obtain ⟨L, hL, eL⟩ := nIof (v := vC 1 μ 0 6) (n := 61) g6.1 (by omega)
    have nL : (nI L).toInt = L := nI_toInt (by omega)
    obtain ⟨t, ht⟩ : ∃ t : Nat → Int32, t = fun i => vC 1 μ 20 i := ⟨_, rfl⟩
    have htp : ∀ i, i < L → vM 113 μ 20 i = t i ∧ 0 ≤ (t i).toInt ∧ (t i).toInt ≤ 255 := fun i hi => by
      have := h.1.2.2.2.1.2.2.2.1 i (by omega) (by rw [eL, nL]; omega)
      rw [ht]
      exact this
    have hrg : ∀ i, i < L → 0 ≤ (t i).toInt ∧ (t i).toInt ≤ 255 := fun i hi => (htp i hi).2
    -- the descent, from a memory that has the model's part
    obtain ⟨μm, emm⟩ : ∃ μm : Mem → Mem, μm = fun W => up (up (up (up W 112 8 (nI u')) 112 5 0) 112 6 0) 112 7 0 := ⟨_, rfl⟩
    have hTP : ∀ W : Mem, W 113 = μ 113 → TP u' L t (μm W) := fun W hW => by
      refine ⟨hu, by omega, ?_, fun j hj => ?_, ?_⟩
      · rw [emm]
        show up (up (up (up W 112 8 (nI u')) 112 5 0) 112 6 0) 112 7 0 113 6 = _
        rw [up_o (by decide), up_o (by decide), up_o (by decide), up_o (by decide), hW, ms6 (m := 113) (μ := μ), h.e0 (by decide), eL]
      · rw [emm]
        show up (up (up (up W 112 8 (nI u')) 112 5 0) 112 6 0) 112 7 0 113 (420 + j) = _
        rw [up_o (by decide), up_o (by decide), up_o (by decide), up_o (by decide), hW, mt (m := 113) (μ := μ) (show j < 60 by omega)]
        exact (htp j hj).1
      · rw [emm]
        show up (up (up (up W 112 8 (nI u')) 112 5 0) 112 6 0) 112 7 0 112 8 = _
        rw [up_j (by decide), up_j (by decide), up_j (by decide), up_eq]
    have hRES : ∀ W : Mem, W 113 = μ 113 → RES u' L t (μm W) 1 0 0 [] [] (cl (d + 6) 133 [vR 8 112] (μm W)) := fun W hW => by
      refine (z_all (hTP W hW) hrg 5 d).2 0 0 [] [] (μm W) (by omega) rfl ⟨fun _ _ _ => rfl, fun _ _ _ _ => rfl, ?_, ?_, ?_, trivial⟩ trivial (by decide) (Nat.le_refl _) (Nat.zero_le _)
      · rw [emm]
        show up (up (up (up W 112 8 (nI u')) 112 5 0) 112 6 0) 112 7 0 112 5 = _
        rw [up_j (by decide), up_j (by decide), up_eq]; rfl
      · rw [emm]
        show up (up (up (up W 112 8 (nI u')) 112 5 0) 112 6 0) 112 7 0 112 6 = _
        rw [up_j (by decide), up_eq]; rfl
      · rw [emm]
        show up (up (up (up W 112 8 (nI u')) 112 5 0) 112 6 0) 112 7 0 112 7 = _
        rw [up_eq]; rfl
    -- the class's reader
    obtain ⟨μr, er⟩ : ∃ μr, μr = up (up (up (up (up μ 97 2 0) 97 3 0) 97 4 0) 97 5 0) 97 6 1 := ⟨_, rfl⟩
    have fr : Fr97 μ μr := by rw [er]; exact ((((Fr97.rf.u (by omega)).u (by omega)).u (by omega)).u (by omega)).u (by omega)
    have hRD : RDR μr [] [] 0 true := by
      rw [er]
      refine ⟨?_, trivial, ?_, trivial, ?_, ?_, ?_⟩
      · rw [up_j (by decide), up_j (by decide), up_j (by decide), up_j (by decide), up_eq]; rfl
      · rw [up_j (by decide), up_j (by decide), up_j (by decide), up_eq]; rfl
      · rw [up_j (by decide), up_j (by decide), up_eq]; rfl
      · rw [up_j (by decide), up_eq]; rfl
      · rw [up_eq]; rfl
    have htape : ∀ i, i < L → μr 5 i = t i := fun i hi => by
      rw [fr 5 (by decide) (by decide) (by decide), ht]
      exact ct (b := 1) (by omega)
    have hread : ∀ n s1, n ≤ L → rnT u' t n 0 ([], [], 0, true) = some s1 → (n < L → tak u' (t n) s1 = none) → ∃ μ', cl (d + 6) 5 [Sum.inr (Sum.inr (1, 97)), Sum.inr (Sum.inr (160, 5)), vI (nI L), Sum.inr (Sum.inr (14 + u', 203 + u'))] μ = some (some (vI (if n < L then nI n else if s1.2.2.2 = true then nI L else if (clo 1 s1.2.1 s1.1).1 = [] then -1 else nI L)), μ') ∧ Fr97 μ μ' ∧ (n = L → s1.2.2.2 = false → μ' 97 2 = nI (clo 1 s1.2.1 s1.1).2.length ∧ stkAt (μ' 98) (clo 1 s1.2.1 s1.1).2) := fun n s1 hn hrn hst => by
      obtain ⟨μ', a1, a2, a3⟩ := k_read (d := d + 6) (u := u') (L := L) (t := t) (tb := 5) hu (by omega) (by decide) hrg n 0 [] [] 0 true μr s1 (by omega) htape hRD ⟨(fun s hs => by cases hs), Nat.le_refl _, by omega⟩ hrn (by rw [Nat.zero_add]; exact hst)
      rw [Nat.zero_add] at a1 a3
      refine ⟨μ', ?_, fr.tr a2, a3⟩
      rw [← a1]
      have z0 : (vI (nI 0) : AV) = vI 0 := rfl
      rw [z0]
      simp -implicitDefEqProofs only [cl_5, u_5_0, e_iload_n, e_iload, e_lload_n, e_lload, e_aload_n, e_aload, e_istore_n, e_istore, e_astore_n, e_astore, e_lstore_n, e_lstore, e_iinc, e_iconst, e_bipush, e_sipush, e_ldc_w, e_ldc, e_ldcS, e_lconst, e_ldc2_w, e_iadd, e_isub, e_imul, e_iand, e_ixor, e_ishl, e_ishr, e_iushr, e_idiv, e_irem, e_ineg, e_i2b, e_i2s, e_i2c, e_ladd, e_lsub, e_lmul, e_land, e_lor, e_ldiv, e_lrem, e_lneg, e_lshl, e_lshr, e_lushr, e_i2l, e_l2i, e_lcmp, e_dupI, e_dupA, e_dup2, e_getI, e_getA, e_putI, e_putZ, e_getstatic, e_iaload, e_iastore, e_aaload10, e_alen10, e_aaload11, e_alen11, e_aaload12, e_alen12, e_aaload13, e_alen13, e_alen, e_invokevirtual, e_invokevirtualB, e_invokestatic, e_invokestaticB, ct_0, ct_i, ct_a, ct_l, os_0, os_s, rc_0, rc_s, sl_0, sl_i, sl_a, sl_l, simprocAttr, ix, z_em, up_eq, up_j, Nat.le_refl, true_or, or_true, true_and, and_true, and_self, or_self, beq_self_eq_true, if_true, if_false, ite_self, ca_f, ca_t, aLen, Int32.lt_iff_toInt_lt, Int32.le_iff_toInt_le, z_ite, z_iten, z_ite1, ite_not, not_true_eq_false, not_false_eq_true, false_and, and_false, false_or, or_false, b_max, b_min, b_minL, b_absL, b_ixD, b_ixH, b_copy, tk_0, tk_s, dr_0, dr_s, pu_s, pu_n, ca_0, ca_1, clr_0, clr_s, e_nop, e_goto, e_if_eq, e_if_ne, e_if_lt, e_if_ge, e_if_gt, e_if_le, e_ic_eq, e_ic_ne, e_ic_lt, e_ic_ge, e_ic_gt, e_ic_le, e_tsw, e_lsw, sw_0, sw_s, e_iret, e_zret, e_lret, e_aret, e_ret, en_0, en_n, en_i, en_a, en_l, List.getElem?_cons_zero, List.getElem?_cons_succ, List.set_cons_zero, List.set_cons_succ, len_s, List.length_nil, ne_eq, x_within, x_in, eT1, eT2, eT3, eT4, eT5, eT6, eM1, eM2, eM3, eM4, eM5, eM6, Nat.one_mul, Nat.mul_one, Nat.zero_add, ← er]
    have e7 : μ 1 7 = nI L := cs6.trans eL
    have hu2 : u' = 0 ∨ u' = 1 := by omega
    -- a text that was refused
    have bad : ∀ (μ1 : Mem) (j : Nat) (W : Mem), j ≤ L → cl (d + 6) 5 [Sum.inr (Sum.inr (1, 97)), Sum.inr (Sum.inr (160, 5)), vI (nI L), Sum.inr (Sum.inr (14 + u', 203 + u'))] μ = some (some (vI (nI j)), μ1) → Fr97 μ μ1 → (∃ μ2 r, (r = 0 ∨ (r = 1 ∧ j < L)) ∧ cl (d + 6) 133 [vR 8 112] (μm (up μ1 1 7 0)) = some (some (vI r), μ2) ∧ (∀ a, a ≠ 112 → a ≠ 117 → μ2 a = (μm (up μ1 1 7 0)) a) ∧ (∀ k, k ≠ 5 → k ≠ 6 → k ≠ 7 → μ2 112 k = (μm (up μ1 1 7 0)) 112 k) ∧ μ2 112 5 = nI j) → PR fz (d + 6) 65 141 [vI (nI u')] μ := by
      intro μ1 j W hj hc hF ⟨μ2, r, hr, hm, hm1, hm2, hm5⟩
      have nj : (nI j).toInt = j := nI_toInt (by omega)
      have njn : ¬ ((j : Nat) : Int) < 0 := by omega
      have e17 : μ1 1 7 = nI L := by rw [hF 1 (by decide) (by decide) (by decide)]; exact e7
      have fm : ∀ o, o ≠ 112 → μm (up μ1 1 7 0) o = up μ1 1 7 0 o := fun o p => by
        rw [emm]
        show up (up (up (up (up μ1 1 7 0) 112 8 (nI u')) 112 5 0) 112 6 0) 112 7 0 o = _
        rw [up_ne p, up_ne p, up_ne p, up_ne p]
      have fm2 : ∀ k, k ≠ 5 → k ≠ 6 → k ≠ 7 → k ≠ 8 → μm (up μ1 1 7 0) 112 k = μ 112 k := fun k p5 p6 p7 p8 => by
        rw [emm]
        show up (up (up (up (up μ1 1 7 0) 112 8 (nI u')) 112 5 0) 112 6 0) 112 7 0 112 k = _
        rw [up_j p7, up_j p6, up_j p5, up_j p8, up_ne (by decide), hF 112 (by decide) (by decide) (by decide)]
      have e6 : μ2 113 6 = nI L := by rw [hm1 113 (by decide) (by decide)]; exact (hTP (up μ1 1 7 0) (by rw [up_ne (by decide), hF 113 (by decide) (by decide) (by decide)])).2.2.1
      have hm' : cl (d + 6) 133 [Sum.inr (Sum.inr (8, 112))] (up (up (up (up (up μ1 1 7 0) 112 8 (nI u')) 112 5 0) 112 6 0) 112 7 0) = some (some (vI r), μ2) := by
        rw [emm] at hm
        exact hm
      refine ⟨(-10 - nI j), up μ1 1 7 0, up μ2 113 6 0, (by rw [up_ne (by decide), hF 202 (by decide) (by decide) (by decide)]; exact h.u2), ?_, ?_, ?_⟩
      · rcases hu2 with rfl | rfl
        · show cl (d + 6) _ [vR 7 0, vI 0] μ = _
          have hc' : cl (d + 6) 5 [Sum.inr (Sum.inr (1, 97)), Sum.inr (Sum.inr (160, 5)), vI (nI L), Sum.inr (Sum.inr (14, 203))] μ = _ := hc
          simp -implicitDefEqProofs only [cl_65, u_65_0, u_65_1, u_65_2, u_65_3, u_65_4, u_65_5, u_65_6, u_65_7, e_iload_n, e_iload, e_lload_n, e_lload, e_aload_n, e_aload, e_istore_n, e_istore, e_astore_n, e_astore, e_lstore_n, e_lstore, e_iinc, e_iconst, e_bipush, e_sipush, e_ldc_w, e_ldc, e_ldcS, e_lconst, e_ldc2_w, e_iadd, e_isub, e_imul, e_iand, e_ixor, e_ishl, e_ishr, e_iushr, e_idiv, e_irem, e_ineg, e_i2b, e_i2s, e_i2c, e_ladd, e_lsub, e_lmul, e_land, e_lor, e_ldiv, e_lrem, e_lneg, e_lshl, e_lshr, e_lushr, e_i2l, e_l2i, e_lcmp, e_dupI, e_dupA, e_dup2, e_getI, e_getA, e_putI, e_putZ, e_getstatic, e_iaload, e_iastore, e_aaload10, e_alen10, e_aaload11, e_alen11, e_aaload12, e_alen12, e_aaload13, e_alen13, e_alen, e_invokevirtual, e_invokevirtualB, e_invokestatic, e_invokestaticB, ct_0, ct_i, ct_a, ct_l, os_0, os_s, rc_0, rc_s, sl_0, sl_i, sl_a, sl_l, simprocAttr, ix, z_em, up_eq, up_j, Nat.le_refl, true_or, or_true, true_and, and_true, and_self, or_self, beq_self_eq_true, if_true, if_false, ite_self, ca_f, ca_t, aLen, Int32.lt_iff_toInt_lt, Int32.le_iff_toInt_le, z_ite, z_iten, z_ite1, ite_not, not_true_eq_false, not_false_eq_true, false_and, and_false, false_or, or_false, b_max, b_min, b_minL, b_absL, b_ixD, b_ixH, b_copy, tk_0, tk_s, dr_0, dr_s, pu_s, pu_n, ca_0, ca_1, clr_0, clr_s, e_nop, e_goto, e_if_eq, e_if_ne, e_if_lt, e_if_ge, e_if_gt, e_if_le, e_ic_eq, e_ic_ne, e_ic_lt, e_ic_ge, e_ic_gt, e_ic_le, e_tsw, e_lsw, sw_0, sw_s, e_iret, e_zret, e_lret, e_aret, e_ret, en_0, en_n, en_i, en_a, en_l, List.getElem?_cons_zero, List.getElem?_cons_succ, List.set_cons_zero, List.set_cons_succ, len_s, List.length_nil, ne_eq, x_within, x_in, eT1, eT2, eT3, eT4, eT5, eT6, eM1, eM2, eM3, eM4, eM5, eM6, Nat.one_mul, Nat.mul_one, Nat.zero_add, e7, hc', nj, njn]
        · show cl (d + 6) _ [vR 7 0, vI 1] μ = _
          have hc' : cl (d + 6) 5 [Sum.inr (Sum.inr (1, 97)), Sum.inr (Sum.inr (160, 5)), vI (nI L), Sum.inr (Sum.inr (15, 204))] μ = _ := hc
          simp -implicitDefEqProofs only [cl_65, u_65_0, u_65_1, u_65_2, u_65_3, u_65_4, u_65_5, u_65_6, u_65_7, e_iload_n, e_iload, e_lload_n, e_lload, e_aload_n, e_aload, e_istore_n, e_istore, e_astore_n, e_astore, e_lstore_n, e_lstore, e_iinc, e_iconst, e_bipush, e_sipush, e_ldc_w, e_ldc, e_ldcS, e_lconst, e_ldc2_w, e_iadd, e_isub, e_imul, e_iand, e_ixor, e_ishl, e_ishr, e_iushr, e_idiv, e_irem, e_ineg, e_i2b, e_i2s, e_i2c, e_ladd, e_lsub, e_lmul, e_land, e_lor, e_ldiv, e_lrem, e_lneg, e_lshl, e_lshr, e_lushr, e_i2l, e_l2i, e_lcmp, e_dupI, e_dupA, e_dup2, e_getI, e_getA, e_putI, e_putZ, e_getstatic, e_iaload, e_iastore, e_aaload10, e_alen10, e_aaload11, e_alen11, e_aaload12, e_alen12, e_aaload13, e_alen13, e_alen, e_invokevirtual, e_invokevirtualB, e_invokestatic, e_invokestaticB, ct_0, ct_i, ct_a, ct_l, os_0, os_s, rc_0, rc_s, sl_0, sl_i, sl_a, sl_l, simprocAttr, ix, z_em, up_eq, up_j, Nat.le_refl, true_or, or_true, true_and, and_true, and_self, or_self, beq_self_eq_true, if_true, if_false, ite_self, ca_f, ca_t, aLen, Int32.lt_iff_toInt_lt, Int32.le_iff_toInt_le, z_ite, z_iten, z_ite1, ite_not, not_true_eq_false, not_false_eq_true, false_and, and_false, false_or, or_false, b_max, b_min, b_minL, b_absL, b_ixD, b_ixH, b_copy, tk_0, tk_s, dr_0, dr_s, pu_s, pu_n, ca_0, ca_1, clr_0, clr_s, e_nop, e_goto, e_if_eq, e_if_ne, e_if_lt, e_if_ge, e_if_gt, e_if_le, e_ic_eq, e_ic_ne, e_ic_lt, e_ic_ge, e_ic_gt, e_ic_le, e_tsw, e_lsw, sw_0, sw_s, e_iret, e_zret, e_lret, e_aret, e_ret, en_0, en_n, en_i, en_a, en_l, List.getElem?_cons_zero, List.getElem?_cons_succ, List.set_cons_zero, List.set_cons_succ, len_s, List.length_nil, ne_eq, x_within, x_in, eT1, eT2, eT3, eT4, eT5, eT6, eM1, eM2, eM3, eM4, eM5, eM6, Nat.one_mul, Nat.mul_one, Nat.zero_add, e7, hc', nj, njn]
      · rcases hr with rfl | ⟨rfl, hjL⟩
        · simp -implicitDefEqProofs only [cl_141, u_141_0, u_141_1, u_141_2, u_141_3, u_141_4, u_141_5, u_141_6, u_141_7, u_141_8, u_141_10, u_141_11, e_iload_n, e_iload, e_lload_n, e_lload, e_aload_n, e_aload, e_istore_n, e_istore, e_astore_n, e_astore, e_lstore_n, e_lstore, e_iinc, e_iconst, e_bipush, e_sipush, e_ldc_w, e_ldc, e_ldcS, e_lconst, e_ldc2_w, e_iadd, e_isub, e_imul, e_iand, e_ixor, e_ishl, e_ishr, e_iushr, e_idiv, e_irem, e_ineg, e_i2b, e_i2s, e_i2c, e_ladd, e_lsub, e_lmul, e_land, e_lor, e_ldiv, e_lrem, e_lneg, e_lshl, e_lshr, e_lushr, e_i2l, e_l2i, e_lcmp, e_dupI, e_dupA, e_dup2, e_getI, e_getA, e_putI, e_putZ, e_getstatic, e_iaload, e_iastore, e_aaload10, e_alen10, e_aaload11, e_alen11, e_aaload12, e_alen12, e_aaload13, e_alen13, e_alen, e_invokevirtual, e_invokevirtualB, e_invokestatic, e_invokestaticB, ct_0, ct_i, ct_a, ct_l, os_0, os_s, rc_0, rc_s, sl_0, sl_i, sl_a, sl_l, simprocAttr, ix, z_em, up_eq, up_j, Nat.le_refl, true_or, or_true, true_and, and_true, and_self, or_self, beq_self_eq_true, if_true, if_false, ite_self, ca_f, ca_t, aLen, Int32.lt_iff_toInt_lt, Int32.le_iff_toInt_le, z_ite, z_iten, z_ite1, ite_not, not_true_eq_false, not_false_eq_true, false_and, and_false, false_or, or_false, b_max, b_min, b_minL, b_absL, b_ixD, b_ixH, b_copy, tk_0, tk_s, dr_0, dr_s, pu_s, pu_n, ca_0, ca_1, clr_0, clr_s, e_nop, e_goto, e_if_eq, e_if_ne, e_if_lt, e_if_ge, e_if_gt, e_if_le, e_ic_eq, e_ic_ne, e_ic_lt, e_ic_ge, e_ic_gt, e_ic_le, e_tsw, e_lsw, sw_0, sw_s, e_iret, e_zret, e_lret, e_aret, e_ret, en_0, en_n, en_i, en_a, en_l, List.getElem?_cons_zero, List.getElem?_cons_succ, List.set_cons_zero, List.set_cons_succ, len_s, List.length_nil, ne_eq, x_within, x_in, eT1, eT2, eT3, eT4, eT5, eT6, eM1, eM2, eM3, eM4, eM5, eM6, Nat.one_mul, Nat.mul_one, Nat.zero_add, nu, q1, hm', hm5, up_o (show ¬ (112 : Nat) = 113 by decide)]
        · have ne := nI_ne (by omega) (by omega) (show j ≠ L by omega)
          simp -implicitDefEqProofs only [cl_141, u_141_0, u_141_1, u_141_2, u_141_3, u_141_4, u_141_5, u_141_6, u_141_7, u_141_8, u_141_10, u_141_11, e_iload_n, e_iload, e_lload_n, e_lload, e_aload_n, e_aload, e_istore_n, e_istore, e_astore_n, e_astore, e_lstore_n, e_lstore, e_iinc, e_iconst, e_bipush, e_sipush, e_ldc_w, e_ldc, e_ldcS, e_lconst, e_ldc2_w, e_iadd, e_isub, e_imul, e_iand, e_ixor, e_ishl, e_ishr, e_iushr, e_idiv, e_irem, e_ineg, e_i2b, e_i2s, e_i2c, e_ladd, e_lsub, e_lmul, e_land, e_lor, e_ldiv, e_lrem, e_lneg, e_lshl, e_lshr, e_lushr, e_i2l, e_l2i, e_lcmp, e_dupI, e_dupA, e_dup2, e_getI, e_getA, e_putI, e_putZ, e_getstatic, e_iaload, e_iastore, e_aaload10, e_alen10, e_aaload11, e_alen11, e_aaload12, e_alen12, e_aaload13, e_alen13, e_alen, e_invokevirtual, e_invokevirtualB, e_invokestatic, e_invokestaticB, ct_0, ct_i, ct_a, ct_l, os_0, os_s, rc_0, rc_s, sl_0, sl_i, sl_a, sl_l, simprocAttr, ix, z_em, up_eq, up_j, Nat.le_refl, true_or, or_true, true_and, and_true, and_self, or_self, beq_self_eq_true, if_true, if_false, ite_self, ca_f, ca_t, aLen, Int32.lt_iff_toInt_lt, Int32.le_iff_toInt_le, z_ite, z_iten, z_ite1, ite_not, not_true_eq_false, not_false_eq_true, false_and, and_false, false_or, or_false, b_max, b_min, b_minL, b_absL, b_ixD, b_ixH, b_copy, tk_0, tk_s, dr_0, dr_s, pu_s, pu_n, ca_0, ca_1, clr_0, clr_s, e_nop, e_goto, e_if_eq, e_if_ne, e_if_lt, e_if_ge, e_if_gt, e_if_le, e_ic_eq, e_ic_ne, e_ic_lt, e_ic_ge, e_ic_gt, e_ic_le, e_tsw, e_lsw, sw_0, sw_s, e_iret, e_zret, e_lret, e_aret, e_ret, en_0, en_n, en_i, en_a, en_l, List.getElem?_cons_zero, List.getElem?_cons_succ, List.set_cons_zero, List.set_cons_succ, len_s, List.length_nil, ne_eq, x_within, x_in, eT1, eT2, eT3, eT4, eT5, eT6, eM1, eM2, eM3, eM4, eM5, eM6, Nat.one_mul, Nat.mul_one, Nat.zero_add, nu, q1, hm', hm5, e6, ne, up_o (show ¬ (112 : Nat) = 113 by decide)]
      · have g : ∀ o, o ≠ 1 → o ≠ 113 → o ≠ 112 → o ≠ 117 → o ≠ 97 → o ≠ 98 → o ≠ 99 → up μ2 113 6 0 o = μ o := fun o p1 p2 p3 p4 p5 p6 p7 => by rw [up_ne p2, hm1 o p3 p4, fm o p3, up_ne p1, hF o p5 p6 p7]
        have g1 : up μ2 113 6 0 1 = up μ 1 7 0 1 := by
          funext c
          rw [up_o (by decide), hm1 1 (by decide) (by decide), fm 1 (by decide)]
          unfold up
          rw [hF 1 (by decide) (by decide) (by decide)]
        have g13 : up μ2 113 6 0 113 = up μ 113 6 0 113 := by
          funext c
          unfold up
          rw [hm1 113 (by decide) (by decide), fm 113 (by decide), up_ne (by decide), hF 113 (by decide) (by decide) (by decide)]
        have vc : vC 1 (up μ2 113 6 0) = up (vC 1 μ) 0 6 0 := by
          rw [← us6]
          refine vC_congr fun o p1 p2 => ?_
          by_cases q : o = 1
          · subst q
            exact g1
          · rw [g o q (by omega) (by omega) (by omega) (by omega) (by omega) (by omega), up_ne q]
        have vm : vM 113 (up μ2 113 6 0) = up (vM 113 μ) 0 6 0 := by rw [← ums6]; exact vM_congr g13
        refine h.w (fun o p1 p2 p3 p4 p5 => g o (by omega) p3 p4 (by unfold junk at p1; omega) (by unfold junk at p1; omega) (by unfold junk at p1; omega) (by unfold junk at p1; omega)) (by rw [g 100 (by decide) (by decide) (by decide) (by decide) (by decide) (by decide) (by decide)]) (by rw [up_o (by decide), hm2 3 (by decide) (by decide) (by decide), fm2 3 (by decide) (by decide) (by decide) (by decide)]) (by rw [up_o (by decide), hm2 15 (by decide) (by decide) (by decide), fm2 15 (by decide) (by decide) (by decide) (by decide)]) (fun k p1 p2 => by rw [g13, up_j (by omega)]) (by rw [vC_congr (fun o p1 p2 => g o (by omega) (by omega) (by omega) (by omega) (by omega) (by omega) (by omega))]; exact h.2.2.2.1) (by rw [vc]; exact wf_z6 h.1.1.1) (by rw [vm]; exact wf_z6 h.1.1.2) (by rw [vc]; exact wd_up h.1.2.1.1 (by omega)) (by rw [vm]; exact wd_up h.1.2.1.2 (by omega)) (by rw [vc, up_j (by decide)]; exact h.1.2.2.1) (by rw [vc, vm]; exact h.1.2.2.2.1.z6)
    -- the outcome of the descent does not hang on the class's part: take it over any such memory
    have h113 : ∀ μ1 : Mem, Fr97 μ μ1 → up μ1 1 7 0 113 = μ 113 := fun μ1 hF => by rw [up_ne (by decide), hF 113 (by decide) (by decide) (by decide)]
    have clq : ∀ (q c1 : List Int32), (∀ s, s ∈ q → 1 ≤ lvl s) → clo 1 (q ++ []) c1 = ([], mks q c1) := fun q c1 w => clo_app (by decide) q c1 w
    have fst : ∃ a μ1, cl (d + 6) 5 [Sum.inr (Sum.inr (1, 97)), Sum.inr (Sum.inr (160, 5)), vI (nI L), Sum.inr (Sum.inr (14 + u', 203 + u'))] μ = some (some a, μ1) ∧ Fr97 μ μ1 := by
      obtain ⟨r0, μ20, j, x1, x2⟩ := hRES μ rfl
      rcases x2 with ⟨rfl, E', m1, m2, m3, m4, n, c1, q, g1, w1, w2, w3, w4, w5, w6⟩ | ⟨rfl, -, n, s1, w1, w2, w3, w4, w5⟩
      · rw [Nat.zero_add] at w1
        subst w1
        obtain ⟨μ1, a1, a2, -⟩ := hread j (c1, q ++ [], g1, false) w2 w3 (fun hn => stk_no (w6 hn) (Or.inr (by rw [clq q c1 w4])))
        exact ⟨_, μ1, a1, a2⟩
      · rw [Nat.zero_add] at w1
        subst w1
        obtain ⟨μ1, a1, a2, -⟩ := hread j s1 w2 w3 w4
        exact ⟨_, μ1, a1, a2⟩
    obtain ⟨a, μ1, c0, hF⟩ := fst
    have ver : ∀ W : Mem, W 113 = μ 113 → (∃ μ2 r j, (r = 0 ∨ (r = 1 ∧ j < L)) ∧ j ≤ L ∧ a = vI (nI j) ∧ cl (d + 6) 133 [vR 8 112] (μm W) = some (some (vI r), μ2) ∧ (∀ a, a ≠ 112 → a ≠ 117 → μ2 a = (μm W) a) ∧ (∀ k, k ≠ 5 → k ≠ 6 → k ≠ 7 → μ2 112 k = (μm W) 112 k) ∧ μ2 112 5 = nI j) ∨ (∃ μ2 E', a = vI (-1) ∧ cl (d + 6) 133 [vR 8 112] (μm W) = some (some (vI 1), μ2) ∧ MLR (μm W) μ2 L 0 E' ∧ okE u' E' ∧ dpE E' = 1 ∧ E'.length ≤ L ∧ μ1 97 2 = nI E'.length ∧ stkAt (μ1 98) (mkL u' E')) := fun W hW => by
      obtain ⟨r, μ2, j, x1, x2⟩ := hRES W hW
      rcases x2 with ⟨rfl, E', m1, m2, m3, m4, n, c1, q, g1, w1, w2, w3, w4, w5, w6⟩ | ⟨rfl, ⟨o', E', m1⟩, n, s1, w1, w2, w3, w4, w5⟩
      · rw [Nat.zero_add] at w1
        subst w1
        obtain ⟨μ1', a1, a2, a3⟩ := hread j (c1, q ++ [], g1, false) w2 w3 (fun hn => stk_no (w6 hn) (Or.inr (by rw [clq q c1 w4])))
        obtain ⟨e1, e2⟩ := Prod.mk.inj (Option.some.inj (c0.symm.trans a1))
        subst e2
        have e1 := Option.some.inj e1
        by_cases hj : j < L
        · rw [if_pos hj] at e1
          exact Or.inl ⟨μ2, 1, j, Or.inr ⟨rfl, hj⟩, w2, e1, x1, m1.1, m1.2.1, m1.2.2.1⟩
        · have hj : j = L := by omega
          subst hj
          have b3 := a3 rfl rfl
          dsimp only at b3 e1
          rw [clq q c1 w4] at b3 e1
          dsimp only at b3 e1
          rw [← w5, mkL_len] at b3
          rw [if_neg (Nat.lt_irrefl _), if_neg (by decide), if_pos rfl] at e1
          exact Or.inr ⟨μ2, E', e1, x1, m1, m2, m3, by have e0 : ([] : List (Int32 × Int32)).length = 0 := rfl; omega, by rw [b3.1], b3.2⟩
      · rw [Nat.zero_add] at w1
        subst w1
        obtain ⟨μ1', a1, a2, a3⟩ := hread j s1 w2 w3 w4
        obtain ⟨e1, e2⟩ := Prod.mk.inj (Option.some.inj (c0.symm.trans a1))
        subst e2
        have e1 := Option.some.inj e1
        refine Or.inl ⟨μ2, 0, j, Or.inl rfl, w2, ?_, x1, m1.1, m1.2.1, m1.2.2.1⟩
        by_cases hj : j < L
        · rw [if_pos hj] at e1
          exact e1
        · have hj : j = L := by omega
          subst hj
          rw [if_neg (Nat.lt_irrefl _)] at e1
          rcases w5 rfl with z | z
          · rw [if_pos z] at e1
            exact e1
          · rw [if_neg z] at e1
            split at e1 <;> exact e1
    rcases ver (up μ1 1 7 0) (h113 μ1 hF) with ⟨μ2, r, j, y1, y2, y3, y4, y5, y6, y7⟩ | ⟨-, E0, ha, -, -, -, -, hN0, h97, -⟩
    · rw [y3] at c0
      exact bad μ1 j μ y2 c0 hF ⟨μ2, r, y1, y4, y5, y6, y7⟩
    · obtain ⟨N, hN⟩ : ∃ N, N = E0.length := ⟨_, rfl⟩
      rw [← hN] at hN0 h97
      obtain ⟨μc, ec⟩ : ∃ μc, μc = up (cpy (up (up μ1 1 7 0) (27 + 3 * u') 2 (nI N)) 98 0 (27 + 3 * u' + 1) 0 N) (27 + 3 * u') 3 1 := ⟨_, rfl⟩
      have fc : ∀ o, o ≠ 1 → o ≠ 27 + 3 * u' → o ≠ 27 + 3 * u' + 1 → μc o = μ1 o := fun o p1 p2 p3 => by rw [ec, up_ne p2, cpy_o p3, up_ne p2, up_ne p1]
      have c13 : μc 113 = μ 113 := by rw [fc 113 (by omega) (by omega) (by omega), hF 113 (by decide) (by decide) (by decide)]
      rcases ver μc c13 with ⟨-, -, j, -, yj, y3, -⟩ | ⟨μ2, E', -, hm, m1, m2, m3, m4, m5, m6⟩
      · have e := ha.symm.trans y3
        have e2 : (-1 : Int32) = nI j := Sum.inl.inj e
        have e3 : (nI j).toInt = -1 := by rw [← e2]; rfl
        have e4 : (nI j).toInt = j := nI_toInt (by omega)
        omega
      · obtain ⟨N', hN'⟩ : ∃ N', N' = E'.length := ⟨_, rfl⟩
        have eN : N' = N := by
          rw [← hN', h97] at m5
          have e1 : (nI N).toInt = N := nI_toInt (by omega)
          have e2 : (nI N').toInt = N' := nI_toInt (by omega)
          rw [m5] at e1
          omega
        rw [eN] at hN'
        have N1 : 1 ≤ N := by
          rcases Nat.eq_zero_or_pos N with z | z
          · rw [z] at hN'
            cases E' with
            | nil => exact absurd m3 (by decide)
            | cons x y => exact absurd hN' (by simp)
          · exact z
        have N60 : N ≤ 60 := by omega
        have nN : (nI N).toInt = N := nI_toInt (by omega)
        have cN : (nI N).toNatClampNeg = N := ix_nI (by omega)
        -- the class
        have hcl : cl (d + 6) 65 [vR 7 0, vI (nI u')] μ = some (some (vI 1), μc) := by
          rw [ha] at c0
          have nm : ¬ (0 : Int) ≤ (-1 : Int32).toInt := by decide
          rcases hu2 with rfl | rfl
          · show cl (d + 6) _ [vR 7 0, vI 0] μ = _
            have hc' : cl (d + 6) 5 [Sum.inr (Sum.inr (1, 97)), Sum.inr (Sum.inr (160, 5)), vI (nI L), Sum.inr (Sum.inr (14, 203))] μ = _ := c0
            have ht' : cl (d + 6) 0 [Sum.inr (Sum.inr (0, 27)), Sum.inr (Sum.inr (160, 98)), vI (nI N)] (up μ1 1 7 0) = some (none, μc) := by
              rw [ec]
              exact x_lawTake (u := 0) N60
            simp -implicitDefEqProofs only [cl_65, u_65_0, u_65_1, u_65_2, u_65_3, u_65_4, u_65_5, u_65_6, u_65_7, e_iload_n, e_iload, e_lload_n, e_lload, e_aload_n, e_aload, e_istore_n, e_istore, e_astore_n, e_astore, e_lstore_n, e_lstore, e_iinc, e_iconst, e_bipush, e_sipush, e_ldc_w, e_ldc, e_ldcS, e_lconst, e_ldc2_w, e_iadd, e_isub, e_imul, e_iand, e_ixor, e_ishl, e_ishr, e_iushr, e_idiv, e_irem, e_ineg, e_i2b, e_i2s, e_i2c, e_ladd, e_lsub, e_lmul, e_land, e_lor, e_ldiv, e_lrem, e_lneg, e_lshl, e_lshr, e_lushr, e_i2l, e_l2i, e_lcmp, e_dupI, e_dupA, e_dup2, e_getI, e_getA, e_putI, e_putZ, e_getstatic, e_iaload, e_iastore, e_aaload10, e_alen10, e_aaload11, e_alen11, e_aaload12, e_alen12, e_aaload13, e_alen13, e_alen, e_invokevirtual, e_invokevirtualB, e_invokestatic, e_invokestaticB, ct_0, ct_i, ct_a, ct_l, os_0, os_s, rc_0, rc_s, sl_0, sl_i, sl_a, sl_l, simprocAttr, ix, z_em, up_eq, up_j, Nat.le_refl, true_or, or_true, true_and, and_true, and_self, or_self, beq_self_eq_true, if_true, if_false, ite_self, ca_f, ca_t, aLen, Int32.lt_iff_toInt_lt, Int32.le_iff_toInt_le, z_ite, z_iten, z_ite1, ite_not, not_true_eq_false, not_false_eq_true, false_and, and_false, false_or, or_false, b_max, b_min, b_minL, b_absL, b_ixD, b_ixH, b_copy, tk_0, tk_s, dr_0, dr_s, pu_s, pu_n, ca_0, ca_1, clr_0, clr_s, e_nop, e_goto, e_if_eq, e_if_ne, e_if_lt, e_if_ge, e_if_gt, e_if_le, e_ic_eq, e_ic_ne, e_ic_lt, e_ic_ge, e_ic_gt, e_ic_le, e_tsw, e_lsw, sw_0, sw_s, e_iret, e_zret, e_lret, e_aret, e_ret, en_0, en_n, en_i, en_a, en_l, List.getElem?_cons_zero, List.getElem?_cons_succ, List.set_cons_zero, List.set_cons_succ, len_s, List.length_nil, ne_eq, x_within, x_in, eT1, eT2, eT3, eT4, eT5, eT6, eM1, eM2, eM3, eM4, eM5, eM6, Nat.one_mul, Nat.mul_one, Nat.zero_add, e7, hc', nm, h97, ht']
          · show cl (d + 6) _ [vR 7 0, vI 1] μ = _
            have hc' : cl (d + 6) 5 [Sum.inr (Sum.inr (1, 97)), Sum.inr (Sum.inr (160, 5)), vI (nI L), Sum.inr (Sum.inr (15, 204))] μ = _ := c0
            have ht' : cl (d + 6) 0 [Sum.inr (Sum.inr (0, 30)), Sum.inr (Sum.inr (160, 98)), vI (nI N)] (up μ1 1 7 0) = some (none, μc) := by
              rw [ec]
              exact x_lawTake (u := 1) N60
            simp -implicitDefEqProofs only [cl_65, u_65_0, u_65_1, u_65_2, u_65_3, u_65_4, u_65_5, u_65_6, u_65_7, e_iload_n, e_iload, e_lload_n, e_lload, e_aload_n, e_aload, e_istore_n, e_istore, e_astore_n, e_astore, e_lstore_n, e_lstore, e_iinc, e_iconst, e_bipush, e_sipush, e_ldc_w, e_ldc, e_ldcS, e_lconst, e_ldc2_w, e_iadd, e_isub, e_imul, e_iand, e_ixor, e_ishl, e_ishr, e_iushr, e_idiv, e_irem, e_ineg, e_i2b, e_i2s, e_i2c, e_ladd, e_lsub, e_lmul, e_land, e_lor, e_ldiv, e_lrem, e_lneg, e_lshl, e_lshr, e_lushr, e_i2l, e_l2i, e_lcmp, e_dupI, e_dupA, e_dup2, e_getI, e_getA, e_putI, e_putZ, e_getstatic, e_iaload, e_iastore, e_aaload10, e_alen10, e_aaload11, e_alen11, e_aaload12, e_alen12, e_aaload13, e_alen13, e_alen, e_invokevirtual, e_invokevirtualB, e_invokestatic, e_invokestaticB, ct_0, ct_i, ct_a, ct_l, os_0, os_s, rc_0, rc_s, sl_0, sl_i, sl_a, sl_l, simprocAttr, ix, z_em, up_eq, up_j, Nat.le_refl, true_or, or_true, true_and, and_true, and_self, or_self, beq_self_eq_true, if_true, if_false, ite_self, ca_f, ca_t, aLen, Int32.lt_iff_toInt_lt, Int32.le_iff_toInt_le, z_ite, z_iten, z_ite1, ite_not, not_true_eq_false, not_false_eq_true, false_and, and_false, false_or, or_false, b_max, b_min, b_minL, b_absL, b_ixD, b_ixH, b_copy, tk_0, tk_s, dr_0, dr_s, pu_s, pu_n, ca_0, ca_1, clr_0, clr_s, e_nop, e_goto, e_if_eq, e_if_ne, e_if_lt, e_if_ge, e_if_gt, e_if_le, e_ic_eq, e_ic_ne, e_ic_lt, e_ic_ge, e_ic_gt, e_ic_le, e_tsw, e_lsw, sw_0, sw_s, e_iret, e_zret, e_lret, e_aret, e_ret, en_0, en_n, en_i, en_a, en_l, List.getElem?_cons_zero, List.getElem?_cons_succ, List.set_cons_zero, List.set_cons_succ, len_s, List.length_nil, ne_eq, x_within, x_in, eT1, eT2, eT3, eT4, eT5, eT6, eM1, eM2, eM3, eM4, eM5, eM6, Nat.one_mul, Nat.mul_one, Nat.zero_add, e7, hc', nm, h97, ht']
        -- the model
        have fm : ∀ o, o ≠ 112 → μm μc o = μc o := fun o p => by
          rw [emm]
          show up (up (up (up μc 112 8 (nI u')) 112 5 0) 112 6 0) 112 7 0 o = _
          rw [up_ne p, up_ne p, up_ne p, up_ne p]
        have fm2 : ∀ k, k ≠ 5 → k ≠ 6 → k ≠ 7 → k ≠ 8 → μm μc 112 k = μ 112 k := fun k p5 p6 p7 p8 => by
          rw [emm]
          show up (up (up (up μc 112 8 (nI u')) 112 5 0) 112 6 0) 112 7 0 112 k = _
          rw [up_j p7, up_j p6, up_j p5, up_j p8, fc 112 (by omega) (by omega) (by omega), hF 112 (by decide) (by decide) (by decide)]
        obtain ⟨z1, z2, z5, z6, z7, zr⟩ := m1
        rw [← hN'] at z7
        have e6 : μ2 113 6 = nI L := by rw [z1 113 (by decide) (by decide)]; exact (hTP μc c13).2.2.1
        have hm' : cl (d + 6) 133 [Sum.inr (Sum.inr (8, 112))] (up (up (up (up μc 112 8 (nI u')) 112 5 0) 112 6 0) 112 7 0) = some (some (vI 1), μ2) := by
          rw [emm] at hm
          exact hm
        obtain ⟨μ3, e3⟩ : ∃ μ3, μ3 = up (up μ2 113 6 0) 113 (170 + 125 * u') (nI N) := ⟨_, rfl⟩
        obtain ⟨μ4, k1, k2, k3, k4⟩ := k_text (d := d + 6) (c2 := 1) hu N60 (2 * N) 0 μ3 μ3 (by omega) (by rw [e3, up_o (by decide), up_o (by decide)]; exact z7) (fun _ _ => rfl) (fun j hj => absurd hj (Nat.not_lt_zero j)) (fun _ _ => rfl)
        have et := ad_t hu
        have it : (nI (170 + 125 * u')).toInt = (170 + 125 * u' : Nat) := nI_toInt (by omega)
        have ct : (nI (170 + 125 * u')).toNatClampNeg = 170 + 125 * u' := ix_nI (by omega)
        have bt : (0 : Int) ≤ ((170 + 125 * u' : Nat) : Int) ∧ ((170 + 125 * u' : Nat) : Int) < 504 := by omega
        have z7' : up μ2 113 6 0 112 7 = nI N := by rw [up_o (by decide)]; exact z7
        have hml : cl (d + 6) 141 [vR 8 112, vI (nI u')] μc = some (some (vI 1), μ4) := by
          rw [e3] at k1
          have k1' : res (d + 6) 141 9 [some (Sum.inr (Sum.inr (8, 112))), some (vI (nI u')), some (vI 1), some (vI (nI (170 + 125 * u'))), some (vI 0)] [] (up (up μ2 113 6 0) 113 (170 + 125 * u') (nI N)) = some (some (vI 1), μ4) := k1
          simp -implicitDefEqProofs only [cl_141, u_141_0, u_141_1, u_141_2, u_141_3, u_141_4, u_141_5, u_141_6, u_141_7, u_141_8, u_141_10, u_141_11, e_iload_n, e_iload, e_lload_n, e_lload, e_aload_n, e_aload, e_istore_n, e_istore, e_astore_n, e_astore, e_lstore_n, e_lstore, e_iinc, e_iconst, e_bipush, e_sipush, e_ldc_w, e_ldc, e_ldcS, e_lconst, e_ldc2_w, e_iadd, e_isub, e_imul, e_iand, e_ixor, e_ishl, e_ishr, e_iushr, e_idiv, e_irem, e_ineg, e_i2b, e_i2s, e_i2c, e_ladd, e_lsub, e_lmul, e_land, e_lor, e_ldiv, e_lrem, e_lneg, e_lshl, e_lshr, e_lushr, e_i2l, e_l2i, e_lcmp, e_dupI, e_dupA, e_dup2, e_getI, e_getA, e_putI, e_putZ, e_getstatic, e_iaload, e_iastore, e_aaload10, e_alen10, e_aaload11, e_alen11, e_aaload12, e_alen12, e_aaload13, e_alen13, e_alen, e_invokevirtual, e_invokevirtualB, e_invokestatic, e_invokestaticB, ct_0, ct_i, ct_a, ct_l, os_0, os_s, rc_0, rc_s, sl_0, sl_i, sl_a, sl_l, simprocAttr, ix, z_em, up_eq, up_j, Nat.le_refl, true_or, or_true, true_and, and_true, and_self, or_self, beq_self_eq_true, if_true, if_false, ite_self, ca_f, ca_t, aLen, Int32.lt_iff_toInt_lt, Int32.le_iff_toInt_le, z_ite, z_iten, z_ite1, ite_not, not_true_eq_false, not_false_eq_true, false_and, and_false, false_or, or_false, b_max, b_min, b_minL, b_absL, b_ixD, b_ixH, b_copy, tk_0, tk_s, dr_0, dr_s, pu_s, pu_n, ca_0, ca_1, clr_0, clr_s, e_nop, e_goto, e_if_eq, e_if_ne, e_if_lt, e_if_ge, e_if_gt, e_if_le, e_ic_eq, e_ic_ne, e_ic_lt, e_ic_ge, e_ic_gt, e_ic_le, e_tsw, e_lsw, sw_0, sw_s, e_iret, e_zret, e_lret, e_aret, e_ret, en_0, en_n, en_i, en_a, en_l, List.getElem?_cons_zero, List.getElem?_cons_succ, List.set_cons_zero, List.set_cons_succ, len_s, List.length_nil, ne_eq, x_within, x_in, eT1, eT2, eT3, eT4, eT5, eT6, eM1, eM2, eM3, eM4, eM5, eM6, Nat.one_mul, Nat.mul_one, Nat.zero_add, nu, q1, hm', z5, e6, et, it, ct, if_pos bt, z7, z7', k1']
        refine ⟨1, μc, μ4, (by rw [fc 202 (by decide) (by omega) (by omega), hF 202 (by decide) (by decide) (by decide)]; exact h.u2), hcl, hml, ?_⟩
        have g : ∀ o, o ≠ 1 → o ≠ 113 → o ≠ 112 → o ≠ 117 → o ≠ 97 → o ≠ 98 → o ≠ 99 → o ≠ 27 + 3 * u' → o ≠ 27 + 3 * u' + 1 → μ4 o = μ o := fun o p1 p2 p3 p4 p5 p6 p7 p8 p9 => by rw [k2 o p2, e3, up_ne p2, up_ne p2, z1 o p3 p4, fm o p3, fc o p1 p8 p9, hF o p5 p6 p7]
        have gl : ∀ o, o ≠ 113 → o ≠ 112 → o ≠ 117 → μ4 o = μc o := fun o p2 p3 p4 => by rw [k2 o p2, e3, up_ne p2, up_ne p2, z1 o p3 p4, fm o p3]
        have g1 : μ4 1 = up μ 1 7 0 1 := by
          rw [gl 1 (by decide) (by decide) (by decide), ec, up_ne (by omega), cpy_o (by omega), up_ne (by omega)]
          funext c
          unfold up
          rw [hF 1 (by decide) (by decide) (by decide)]
        have g2 : μ2 113 = μ 113 := by rw [z1 113 (by decide) (by decide), fm 113 (by decide), c13]
        have g13 : ∀ c, c < 170 + 125 * u' ∨ 170 + 125 * u' + 125 ≤ c → μ4 113 c = up μ 113 6 0 113 c := fun c hc => by
          rw [k4 c (by omega), e3, up_j (by omega)]
          unfold up
          rw [g2]
        have gN : μ4 113 (170 + 125 * u') = nI N := by rw [k4 _ (Or.inl (by omega)), e3, up_eq]
        have g117 : ∀ j, μ3 117 j = μ2 117 j := fun j => by rw [e3, up_o (by decide), up_o (by decide)]
        have vc : vC 1 μ4 = up (vC 1 μ) 0 6 0 := by
          rw [← us6]
          refine vC_congr fun o p1 p2 => ?_
          by_cases q : o = 1
          · subst q
            exact g1
          · rw [g o q (by omega) (by omega) (by omega) (by omega) (by omega) (by omega) (by omega) (by omega), up_ne q]
        have vm : vM 113 μ4 = up (vM 113 μ) 0 6 0 := by
          rw [← ums6]
          funext o k
          unfold vM
          by_cases hi : inC o k
          · rw [if_pos hi, if_pos hi]
            refine g13 _ ?_
            unfold inC at hi
            unfold mI
            rcases hi with hi | hi | hi | hi | hi <;> (repeat' split) <;> omega
          · rw [if_neg hi, if_neg hi]
        have h15 : ∀ k, k ≠ 5 → k ≠ 6 → k ≠ 7 → k ≠ 8 → μ4 112 k = μ 112 k := fun k p5 p6 p7 p8 => by rw [k2 112 (by decide), e3, up_o (by decide), up_o (by decide), z2 k p5 p6 p7, fm2 k p5 p6 p7 p8]
        refine h.rw' ⟨⟨by rw [vc]; exact wf_z6 h.1.1.1, by rw [vm]; exact wf_z6 h.1.1.2⟩, ⟨by rw [vc]; exact wd_up h.1.2.1.1 (by omega), by rw [vm]; exact wd_up h.1.2.1.2 (by omega)⟩, by rw [vc, up_j (by decide)]; exact h.1.2.2.1, by rw [vc, vm]; exact h.1.2.2.2.1.z6, fun x hx => ?_⟩ (fun o p1 p2 p3 p4 p5 => g o (by omega) p3 p4 (by unfold junk at p1; omega) (by unfold junk at p1; omega) (by unfold junk at p1; omega) (by unfold junk at p1; omega) (by omega) (by omega)) (by rw [g 100 (by decide) (by decide) (by decide) (by decide) (by decide) (by decide) (by decide) (by omega) (by omega)]) (h15 3 (by decide) (by decide) (by decide) (by decide)) (h15 15 (by decide) (by decide) (by decide) (by decide)) (by rw [vC_congr (fun o p1 p2 => g o (by omega) (by omega) (by omega) (by omega) (by omega) (by omega) (by omega) (by omega) (by omega))]; exact h.2.2.2.1)
        by_cases q : x = u'
        · subst q
          -- the two rows of steps
          obtain ⟨gr, egr⟩ : ∃ gr : Nat → Int32, gr = μ2 117 := ⟨_, rfl⟩
          obtain ⟨f, ef⟩ : ∃ f : Nat → Int32, f = fun i => mkM x (gr (2 * i)) (gr (2 * i + 1)) := ⟨_, rfl⟩
          rw [← egr] at zr
          obtain ⟨rl1, rl2⟩ := run_len (f := f) hx (fun i => by rw [ef]) E' (by omega) zr m2
          rw [← hN'] at rl1 rl2
          have ge : ∀ i, i < N → μ4 113 (170 + 125 * x + 1 + 2 * i) = gr (2 * i) ∧ μ4 113 (170 + 125 * x + 2 + 2 * i) = gr (2 * i + 1) := fun i hi => ⟨by rw [k3 _ (by omega), g117, egr], by rw [show 170 + 125 * x + 2 + 2 * i = 170 + 125 * x + 1 + (2 * i + 1) by omega, k3 _ (by omega), g117, egr]⟩
          have ce : ∀ i, i < N → codeM (μ4 113) x i = f i := fun i hi => by
            unfold codeM
            rw [(ge i hi).1, (ge i hi).2, ef]
          have e27 : μ4 (1 + 26 + 3 * x) = μc (27 + 3 * x) := by rw [show 1 + 26 + 3 * x = 27 + 3 * x by omega, gl _ (by omega) (by omega) (by omega)]
          have e28 : ∀ i, i < N → μ4 (1 + 27 + 3 * x) i = μ1 98 i := fun i hi => by rw [show 1 + 27 + 3 * x = 27 + 3 * x + 1 by omega, gl _ (by omega) (by omega) (by omega), ec, up_ne (by omega), cpy_in (by omega), up_ne (by omega), up_ne (by omega), show 0 + (i - 0) = i by omega]
          have e2 : μ4 (1 + 26 + 3 * x) 2 = nI N := by rw [e27, ec, up_j (by decide), cpy_o (by omega), up_eq]
          have e33 : μ4 (1 + 26 + 3 * x) 3 = 1 := by rw [e27, ec, up_eq]
          have rc : ∀ k, k ≤ N → runP 0 0 0 0 (codeM (μ4 113) x) k = runP 0 0 0 0 f k := fun k hk => runP_cg k (fun i hi => ce i (by omega))
          rw [e2, e33, gN, nN, cN]
          refine ⟨by omega, Or.inr ⟨rfl, rfl, by omega, fun i hi => ?_, fun k hk => ?_, ?_⟩⟩
          · rw [e28 i hi, ce i hi, ef]
            exact row_eq E' zr m6 i (by omega)
          · rw [(ge k hk).1, (ge k hk).2, rc k (by omega)]
            exact rl2 k hk
          · rw [rc N (Nat.le_refl _), rl1, m3]
            exact Nat.le_refl _
        · exact rwl_cg (h.1.2.2.2.2 x hx) (g _ (by omega) (by omega) (by omega) (by omega) (by omega) (by omega) (by omega) (by omega) (by omega)) (g _ (by omega) (by omega) (by omega) (by omega) (by omega) (by omega) (by omega) (by omega) (by omega)) (fun k p1 p2 => by rw [g13 k (by omega), up_j (by omega)])
  · refine PR.er (k := 1) h (by decide) (by decide) ?_ (fun μ1 f => ?_)
    · simp -implicitDefEqProofs only [cl_65, u_65_0, u_65_1, u_65_2, u_65_3, u_65_4, u_65_5, u_65_6, u_65_7, e_iload_n, e_iload, e_lload_n, e_lload, e_aload_n, e_aload, e_istore_n, e_istore, e_astore_n, e_astore, e_lstore_n, e_lstore, e_iinc, e_iconst, e_bipush, e_sipush, e_ldc_w, e_ldc, e_ldcS, e_lconst, e_ldc2_w, e_iadd, e_isub, e_imul, e_iand, e_ixor, e_ishl, e_ishr, e_iushr, e_idiv, e_irem, e_ineg, e_i2b, e_i2s, e_i2c, e_ladd, e_lsub, e_lmul, e_land, e_lor, e_ldiv, e_lrem, e_lneg, e_lshl, e_lshr, e_lushr, e_i2l, e_l2i, e_lcmp, e_dupI, e_dupA, e_dup2, e_getI, e_getA, e_putI, e_putZ, e_getstatic, e_iaload, e_iastore, e_aaload10, e_alen10, e_aaload11, e_alen11, e_aaload12, e_alen12, e_aaload13, e_alen13, e_alen, e_invokevirtual, e_invokevirtualB, e_invokestatic, e_invokestaticB, ct_0, ct_i, ct_a, ct_l, os_0, os_s, rc_0, rc_s, sl_0, sl_i, sl_a, sl_l, simprocAttr, ix, z_em, up_eq, up_j, Nat.le_refl, true_or, or_true, true_and, and_true, and_self, or_self, beq_self_eq_true, if_true, if_false, ite_self, ca_f, ca_t, aLen, Int32.lt_iff_toInt_lt, Int32.le_iff_toInt_le, z_ite, z_iten, z_ite1, ite_not, not_true_eq_false, not_false_eq_true, false_and, and_false, false_or, or_false, b_max, b_min, b_minL, b_absL, b_ixD, b_ixH, b_copy, tk_0, tk_s, dr_0, dr_s, pu_s, pu_n, ca_0, ca_1, clr_0, clr_s, e_nop, e_goto, e_if_eq, e_if_ne, e_if_lt, e_if_ge, e_if_gt, e_if_le, e_ic_eq, e_ic_ne, e_ic_lt, e_ic_ge, e_ic_gt, e_ic_le, e_tsw, e_lsw, sw_0, sw_s, e_iret, e_zret, e_lret, e_aret, e_ret, en_0, en_n, en_i, en_a, en_l, List.getElem?_cons_zero, List.getElem?_cons_succ, List.set_cons_zero, List.set_cons_succ, len_s, List.length_nil, ne_eq, x_within, x_in, eT1, eT2, eT3, eT4, eT5, eT6, eM1, eM2, eM3, eM4, eM5, eM6, Nat.one_mul, Nat.mul_one, Nat.zero_add, q1]
    · simp -implicitDefEqProofs only [cl_141, u_141_0, u_141_1, u_141_2, u_141_3, u_141_4, u_141_5, u_141_6, u_141_7, u_141_8, u_141_10, u_141_11, e_iload_n, e_iload, e_lload_n, e_lload, e_aload_n, e_aload, e_istore_n, e_istore, e_astore_n, e_astore, e_lstore_n, e_lstore, e_iinc, e_iconst, e_bipush, e_sipush, e_ldc_w, e_ldc, e_ldcS, e_lconst, e_ldc2_w, e_iadd, e_isub, e_imul, e_iand, e_ixor, e_ishl, e_ishr, e_iushr, e_idiv, e_irem, e_ineg, e_i2b, e_i2s, e_i2c, e_ladd, e_lsub, e_lmul, e_land, e_lor, e_ldiv, e_lrem, e_lneg, e_lshl, e_lshr, e_lushr, e_i2l, e_l2i, e_lcmp, e_dupI, e_dupA, e_dup2, e_getI, e_getA, e_putI, e_putZ, e_getstatic, e_iaload, e_iastore, e_aaload10, e_alen10, e_aaload11, e_alen11, e_aaload12, e_alen12, e_aaload13, e_alen13, e_alen, e_invokevirtual, e_invokevirtualB, e_invokestatic, e_invokestaticB, ct_0, ct_i, ct_a, ct_l, os_0, os_s, rc_0, rc_s, sl_0, sl_i, sl_a, sl_l, simprocAttr, ix, z_em, up_eq, up_j, Nat.le_refl, true_or, or_true, true_and, and_true, and_self, or_self, beq_self_eq_true, if_true, if_false, ite_self, ca_f, ca_t, aLen, Int32.lt_iff_toInt_lt, Int32.le_iff_toInt_le, z_ite, z_iten, z_ite1, ite_not, not_true_eq_false, not_false_eq_true, false_and, and_false, false_or, or_false, b_max, b_min, b_minL, b_absL, b_ixD, b_ixH, b_copy, tk_0, tk_s, dr_0, dr_s, pu_s, pu_n, ca_0, ca_1, clr_0, clr_s, e_nop, e_goto, e_if_eq, e_if_ne, e_if_lt, e_if_ge, e_if_gt, e_if_le, e_ic_eq, e_ic_ne, e_ic_lt, e_ic_ge, e_ic_gt, e_ic_le, e_tsw, e_lsw, sw_0, sw_s, e_iret, e_zret, e_lret, e_aret, e_ret, en_0, en_n, en_i, en_a, en_l, List.getElem?_cons_zero, List.getElem?_cons_succ, List.set_cons_zero, List.set_cons_succ, len_s, List.length_nil, ne_eq, x_within, x_in, eT1, eT2, eT3, eT4, eT5, eT6, eM1, eM2, eM3, eM4, eM5, eM6, Nat.one_mul, Nat.mul_one, Nat.zero_add, q1]
