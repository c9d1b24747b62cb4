/-! SOUNDNESS, the builtins and the whole. -/
def cIX : ByteArray := prog_13_method_79_code
def rmIX : Room := { frames := 10, cells := 0, slots := 0, locals := 600 }
def wsIX : List Cond := Cond.code (bnm 7) cIX 2 (some .int) :: lw_tb
/-- String.indexOf of the two constants -/
def IXM (l : Launch) (dC : Nat → ClassId) (dI : Nat → Nat → Nat) (dA : Nat → ClassId) (ad : Nat → Nat) (L : Nat) (fz : Mem) : Prop := ∀ (k o : Nat) (c : Int32) (μ : Mem), (k = 14 ∧ o = 203) ∨ (k = 15 ∧ o = 204) → Met l (bnm 7) wsIX rmIX (PC dC dI dA ad L fz [vR k o, vI c] μ) (QC dC dI dA ad L fz (some (vI (if k = 14 then ixD c else ixH c)), μ)) 0 0 (Fr ad)
set_option maxRecDepth 100000 in
theorem ix_code : Cond.code (bnm 7) cIX 2 (some .int) ∈ lw_tbl := List.mem_append_right _ (List.mem_of_getElem? (i := 494) rfl)
theorem ix_sel : Cond.selects "java/lang/String" (bnm 7) (bnm 7) ∈ lw_tbl := List.mem_append_right _ (List.mem_of_getElem? (i := 493) (by decide +kernel))
theorem ix_in : Cond.instanceMethod (bnm 7) ∈ lw_tbl := List.mem_append_right _ (List.mem_of_getElem? (i := 492) (by decide +kernel))
theorem ix_ini : Cond.initialized "java/lang/String" ∈ lw_tbl := List.mem_append_right _ (List.mem_of_getElem? (i := 11) (by decide +kernel))
theorem tcn {i : Int32} (h : 0 ≤ i.toInt) : ¬ i < 0 := by
  rw [Int32.lt_iff_toInt_lt]
  have : (0 : Int32).toInt = 0 := rfl
  omega
section MN
variable {p : Program} {l : Launch} {e : Env} {R : Room} {s : State} {m : MethodId} {args : Array Value} {below : List Frame} {meth : Method} {c : Code} {cells slots : Nat} {Q : State → Prop} {nL : Nat} {dC : Nat → ClassId} {dI : Nat → Nat → Nat} {dA : Nat → ClassId} {ad : Nat → Nat} {L : Nat} {fz : Mem} {A : Nat → Prop}
theorem bui_ok {cc : ByteArray} {ci mm k pc d : Nat} {st : Bool} {z b : Nat} {lv : LV} {stk : List AV} {μ : Mem} {q : List AV × Mem} (hC : CX p R s m args c cells slots nL ad A cc ci) (hIX : IXM l dC dI dA ad L fz) (hRm : rkm mm + 12 + 40 * d ≤ R.frames ∧ 60 * (rkm mm + 12 + 40 * d) ≤ R.locals) (hd : decode cc pc = .ok (if st = true then .invokestatic k else .invokevirtual k, 3)) (hI : okCall ci mm k st [z, b] = true) (hct : catOK 10 stk = true) (h : bui b stk μ = some q) (kk : GO p l e R s m args below meth c cells slots Q nL dC dI dA ad L fz A (pc + 3) lv q.1 q.2) : GO p l e R s m args below meth c cells slots Q nL dC dI dA ad L fz A pc lv stk μ := by
  obtain ⟨⟨hx, hb, hml, hown, hts⟩, ⟨hR1, hR2, hR3, hR4⟩, hE, hA, hA2, hV⟩ := id hC
  simp only [okCall, Bool.and_eq_true, beq_iff_eq] at hI
  obtain ⟨hBL, hbb⟩ := hI
  have hlink := hts _ (in_tb (BL_get hBL) g_ml)
  have hsum := cat_sum (ad := ad) 10 stk hct
  cases st with
  | true =>
    simp only [if_true, Bool.or_eq_true, beq_iff_eq] at hbb hd
    rcases hbb with rfl | rfl | rfl | rfl | rfl
    · rcases stk with _ | ⟨v, _ | ⟨w, r⟩⟩
      · cases h
      · rcases v with v | v | v <;> cases h
      · rcases v with v | v | v
        · rcases w with w | w | w
          · cases h
            intro H locs ls hW hS hl hst
            refine va_mmax hx hb (hml.trans hl.1.1.symm) hown hlink (hts _ (in_tb bs_max g_st)) (hts _ (in_tb bi_Math g_ini)) (hts _ (in_tb bc_max g_code)) hR1 ?_ hR3 hR4 hd (kk H locs ls hW hS hl (mem_c trivial (tl_c (tl_c hst))))
            simp only [List.map_cons, List.sum_cons] at hsum
            omega
          · cases h
          · cases h
        · cases h
        · cases h
    · rcases stk with _ | ⟨v, _ | ⟨w, r⟩⟩
      · cases h
      · rcases v with v | v | v <;> cases h
      · rcases v with v | v | v
        · rcases w with w | w | w
          · cases h
            intro H locs ls hW hS hl hst
            refine va_mmin hx hb (hml.trans hl.1.1.symm) hown hlink (hts _ (in_tb bs_min g_st)) (hts _ (in_tb bi_Math g_ini)) (hts _ (in_tb bc_min g_code)) hR1 ?_ hR3 hR4 hd (kk H locs ls hW hS hl (mem_c trivial (tl_c (tl_c hst))))
            simp only [List.map_cons, List.sum_cons] at hsum
            omega
          · cases h
          · cases h
        · cases h
        · cases h
    · rcases stk with _ | ⟨v, _ | ⟨w, r⟩⟩
      · cases h
      · rcases v with v | v | v <;> cases h
      · rcases v with v | v | v
        · cases h
        · rcases w with w | w | w
          · cases h
          · cases h
            intro H locs ls hW hS hl hst
            refine va_mmin_long hx hb (hml.trans hl.1.1.symm) hown hlink (hts _ (in_tb bs_minL g_st)) (hts _ (in_tb bi_Math g_ini)) (hts _ (in_tb bc_minL g_code)) hR1 ?_ hR3 hR4 hd (kk H locs ls hW hS hl (mem_c trivial (tl_c (tl_c hst))))
            simp only [List.map_cons, List.sum_cons] at hsum
            omega
          · cases h
        · cases h
    · rcases stk with _ | ⟨v, r⟩
      · cases h
      · rcases v with v | v | v
        · cases h
        · cases h
          intro H locs ls hW hS hl hst
          refine va_mabs_long hx hb (hml.trans hl.1.1.symm) hown hlink (hts _ (in_tb bs_absL g_st)) (hts _ (in_tb bi_Math g_ini)) (hts _ (in_tb bc_absL g_code)) hR1 ?_ hR3 hR4 hd (kk H locs ls hW hS hl (mem_c trivial (tl_c hst)))
          simp only [List.map_cons, List.sum_cons] at hsum
          omega
        · cases h
    · rcases stk with _ | ⟨v, r⟩
      · cases h
      rcases v with n | v | v <;> rcases r with _ | ⟨v, r⟩ <;> try (cases h; done)
      rcases v with dp | v | v <;> rcases r with _ | ⟨v, r⟩ <;> try (cases h; done)
      rcases v with v | v | ⟨k2, o2⟩ <;> rcases r with _ | ⟨v, r⟩ <;> try (cases h; done)
      rcases v with sp | v | v <;> rcases r with _ | ⟨v, r⟩ <;> try (cases h; done)
      rcases v with v | v | ⟨k1, o1⟩ <;> try (cases h; done)
      replace h : (if ((100 ≤ k1 ∧ k1 < 1000) ∧ (100 ≤ k2 ∧ k2 < 1000)) ∧ (0 ≤ sp.toInt ∧ 0 ≤ dp.toInt ∧ 0 ≤ n.toInt) ∧ (sp.toInt + n.toInt ≤ ((k1 - 100 : Nat) : Int) ∧ dp.toInt + n.toInt ≤ ((k2 - 100 : Nat) : Int)) then some (r, cpy μ o1 (ix sp) o2 (ix dp) (ix n)) else none) = some q := h
      by_cases hp : ((100 ≤ k1 ∧ k1 < 1000) ∧ (100 ≤ k2 ∧ k2 < 1000)) ∧ (0 ≤ sp.toInt ∧ 0 ≤ dp.toInt ∧ 0 ≤ n.toInt) ∧ (sp.toInt + n.toInt ≤ ((k1 - 100 : Nat) : Int) ∧ dp.toInt + n.toInt ≤ ((k2 - 100 : Nat) : Int))
      · rw [if_pos hp] at h
        cases h
        obtain ⟨⟨hk1, hk2⟩, ⟨p1, p2, p3⟩, p4, p5⟩ := hp
        intro H locs ls hW hS hl hst
        obtain ⟨ho2, hko2, he2⟩ := arr_kd (hd_c (tl_c (tl_c hst))) hk2 dA ad μ
        obtain ⟨ho1, hko1, he1⟩ := arr_kd (hd_c (tl_c (tl_c (tl_c (tl_c hst))))) hk1 dA ad μ
        have hset : (wsA dA ad μ).set o2 (ad o2, .inl (dA 0, k2 - 100, .inl (va_cpy (μ o1) (μ o2) sp.toNatClampNeg dp.toNatClampNeg n.toNatClampNeg))) = wsA dA ad (cpy μ o1 (ix sp) o2 (ix dp) (ix n)) := by
          refine wsA_set ho2 (fun a ha => cpy_ne ha) ?_
          rw [hko2]; unfold ent
          rw [if_neg (by omega), show elm k2 = none from by unfold elm; rw [if_neg (by omega), if_neg (by omega), if_neg (by omega), if_neg (by omega)]]
          dsimp only
          rw [cpy_at]
        have e1 : sp.toNatClampNeg = sp.toInt.toNat := rfl
        have e2 : dp.toNatClampNeg = dp.toInt.toNat := rfl
        have e3 : n.toNatClampNeg = n.toInt.toNat := rfl
        refine va_copyi hx hb (hml.trans hl.1.1.symm) hown hlink (hts _ (in_tb bn_copy g_nat)) (hts _ (in_tb bs_copy g_st)) (hts _ (in_tb bi_Sys g_ini)) hW.1 hW.2.1 (wsA_D hE hA) (⟨Nat.le_refl _, fun _ _ _ => rfl, hS.2.2⟩ : va_S A H H locs) o1 o2 0 0 he1 he2 rfl rfl rfl (tcn p1) (tcn p2) (tcn p3) (by omega) (by omega) (fun _ _ => rfl) hR1 ?_ hd (fun H1 locs1 hP1 _ hS1 => ?_)
        · simp only [List.map_cons, List.sum_cons] at hsum
          have : nativeFrameWords "java/lang/System" "arraycopy" 5 = 7 := by decide +kernel
          omega
        · rw [hset] at hP1
          refine kk H1 locs1 ls (hW.put hP1 (fun a ha => ?_) (fun a h1 h2 => hS1.2.1 a h1 h2)) ⟨Nat.le_trans hS.1 hS1.1, fun a h1 h2 => (hS1.2.1 a (Nat.lt_of_lt_of_le h1 hS.1) h2).trans (hS.2.1 a h1 h2), hS1.2.2⟩ hl (tl_c (tl_c (tl_c (tl_c (tl_c hst)))))
          show cpy μ o1 (ix sp) o2 (ix dp) (ix n) a = fz a
          rw [cpy_ne (by omega)]
          exact hW.2.2.1 a ha
      · rw [if_neg hp] at h; cases h
  | false =>
    simp only [Bool.false_eq_true, if_false, beq_iff_eq] at hbb hd
    subst hbb
    rcases stk with _ | ⟨v, _ | ⟨w, r⟩⟩
    · cases h
    · rcases v with v | v | v <;> cases h
    · rcases v with v | v | v
      · rcases w with w | w | ⟨k0, ob⟩
        · cases h
        · cases h
        · replace h : (if k0 = 14 then some (vI (ixD v) :: r, μ) else if k0 = 15 then some (vI (ixH v) :: r, μ) else none) = some q := h
          have hkk : (k0 = 14 ∨ k0 = 15) ∧ q = (vI (if k0 = 14 then ixD v else ixH v) :: r, μ) := by
            by_cases h14 : k0 = 14
            · rw [if_pos h14] at h
              exact ⟨Or.inl h14, by rw [if_pos h14]; exact (Option.some.inj h).symm⟩
            · rw [if_neg h14] at h
              by_cases h15 : k0 = 15
              · rw [if_pos h15] at h
                exact ⟨Or.inr h15, by rw [if_neg h14]; exact (Option.some.inj h).symm⟩
              · rw [if_neg h15] at h; cases h
          obtain ⟨hk0, rfl⟩ := hkk
          intro H locs ls hW hS hl hst
          have hvr := hd_c (tl_c hst)
          have hob : (k0 = 14 ∧ ob = 203) ∨ (k0 = 15 ∧ ob = 204) := by
            have hvr : kdL L ob = k0 := hvr
            have hnk : kd ob ≠ 14 ∧ kd ob ≠ 15 := by
              rcases Nat.lt_or_ge ob 127 with hq | hq
              · exact of_decide_eq_true (List.all_eq_true.mp (show (List.range 127).all (fun o => decide (kd o ≠ 14 ∧ kd o ≠ 15)) = true by decide +kernel) ob (List.mem_range.mpr hq))
              · have h50 : kd ob = 50 := by
                  by_cases h50 : kd ob = 50
                  · exact h50
                  · exact absurd (kd_lt h50) (by omega)
                rw [h50]; exact ⟨by decide, by decide⟩
            unfold kdL at hvr
            split at hvr
            · omega
            · split at hvr
              · omega
              · split at hvr
                · omega
                · split at hvr
                  · exact Or.inl ⟨hvr.symm, ‹_›⟩
                  · split at hvr
                    · exact Or.inr ⟨hvr.symm, ‹_›⟩
                    · omega
          have hM := hIX k0 ob v μ hob
          have hrec : ∃ cell : Cell, H[ad ob]? = some cell ∧ cell.vm.isStatics = false ∧ s.vm.findClass "java/lang/String" = some cell.cls := by
            obtain ⟨-, -, adV, hSt, -⟩ := hW.2.2.2
            rcases hob with ⟨-, rfl⟩ | ⟨-, rfl⟩
            · obtain ⟨⟨cell, z1, z2, z3, -⟩, -⟩ := hSt 0 (by decide)
              exact ⟨cell, z1, z2, z3⟩
            · obtain ⟨⟨cell, z1, z2, z3, -⟩, -⟩ := hSt 1 (by decide)
              exact ⟨cell, z1, z2, z3⟩
          have hmon : 2 * (F0 m pc ls ((Sum.inl v :: Sum.inr (Sum.inr (k0, ob)) :: r).map (cv ad))).monitorRoom + ((r.map (cv ad)).map fun v => v.category).sum ≤ 8 := by
            refine lv_room (rest := (Sum.inl v :: Sum.inr (Sum.inr (k0, ob)) :: r).map (cv ad)) ?_
            simp only [List.map_cons, List.sum_cons] at hsum
            have e1 : (cv ad (Sum.inl v)).category = 1 := rfl
            have e2 : (cv ad (Sum.inr (Sum.inr (k0, ob)))).category = 1 := rfl
            omega
          have hcode := hts _ (in_tb ix_code g_code)
          have hini := hts _ (in_tb ix_ini g_ini)
          refine run_go (q := (some (vI (if k0 = 14 then ixD v else ixH v)), μ)) (va_runV (As := [.int v]) (rest := r.map (cv ad)) (n := 1) (C := "java/lang/String") (b := ad ob) ⟨hx, hb, hml, hown, hts⟩ hM ⟨⟨rfl, rfl, ?_, ?_, ?_, List.mem_cons_self, hcode, hini, ⟨by decide, by decide⟩, ?_, hlink⟩, hts _ (in_tb ix_in g_in), hts _ (in_tb ix_sel g_se)⟩ ⟨PC_blind, hrec, ?_⟩ rfl rfl hl.1.1 rfl hmon hd ⟨hR3, hR4⟩) hA2 hS ?_
          · show 10 + 1 ≤ R.frames; omega
          · show 8 + (2 + 11) + 600 ≤ R.locals; omega
          · intro w hw
            rcases List.mem_cons.mp hw with h1 | h1
            · subst h1; exact ride g_code hcode
            · exact tb_ride hts w h1
          · intro sig hsig
            have : (parseMethodDescriptor (bnm 7).desc).map (fun d => d.parameters.length) = some 1 := by decide +kernel
            rw [hsig] at this
            exact (Option.some.inj this).symm
          · intro U hU hWm
            refine ⟨rfl, ?_, hV.warm hWm⟩
            rw [hU]
            exact (hW.narrow hA2).moved hWm.alike
          · intro H1 locs1 _ hP1 hz hfr hS1
            exact kk H1 locs1 ls (hW.put hP1 hz hfr) hS1 hl (mem_c trivial (tl_c (tl_c hst)))
      · cases h
      · cases h
theorem if_row {cc : ByteArray} {pc t0 : Nat} {cnd : ClassFile.Cond} {off : Int} {lv : LV} {r : List AV} {μ : Mem} {a : Int32} (hx : p.tables.exec = Jvm.exec) (hb : c.code = cc) (hd : decode cc pc = .ok (.ifCond cnd off, 3)) (ht : (pc : Int) + off = (t0 : Int)) (kt : cmpB cnd a 0 = true → GO p l e R s m args below meth c cells slots Q nL dC dI dA ad L fz A t0 lv r μ) (kf : ¬ cmpB cnd a 0 = true → GO p l e R s m args below meth c cells slots Q nL dC dI dA ad L fz A (pc + 3) lv r μ) : GO p l e R s m args below meth c cells slots Q nL dC dI dA ad L fz A pc lv (Sum.inl a :: r) μ := by
  intro H locs ls hW hS hl hst
  cases cnd with
  | eq => exact lv_if_eq hx hb hd ht (fun q => kt (decide_eq_true q) H locs ls hW hS hl (tl_c hst)) (fun q => kf (fun z => q (of_decide_eq_true z)) H locs ls hW hS hl (tl_c hst))
  | ne => exact lv_if_ne hx hb hd ht (fun q => kt (decide_eq_true q) H locs ls hW hS hl (tl_c hst)) (fun q => kf (fun z => (of_decide_eq_true z : ¬ _) q) H locs ls hW hS hl (tl_c hst))
  | lt => exact lv_if_lt hx hb hd ht (fun q => kt (decide_eq_true q) H locs ls hW hS hl (tl_c hst)) (fun q => kf (fun z => q (of_decide_eq_true z)) H locs ls hW hS hl (tl_c hst))
  | ge => exact lv_if_ge hx hb hd ht (fun q => kt (decide_eq_true q) H locs ls hW hS hl (tl_c hst)) (fun q => kf (fun z => q (of_decide_eq_true z)) H locs ls hW hS hl (tl_c hst))
  | gt => exact lv_if_gt hx hb hd ht (fun q => kt (decide_eq_true q) H locs ls hW hS hl (tl_c hst)) (fun q => kf (fun z => q (of_decide_eq_true z)) H locs ls hW hS hl (tl_c hst))
  | le => exact lv_if_le hx hb hd ht (fun q => kt (decide_eq_true q) H locs ls hW hS hl (tl_c hst)) (fun q => kf (fun z => q (of_decide_eq_true z)) H locs ls hW hS hl (tl_c hst))
theorem ic_row {cc : ByteArray} {pc t0 : Nat} {cnd : ClassFile.Cond} {off : Int} {lv : LV} {r : List AV} {μ : Mem} {a b : Int32} (hx : p.tables.exec = Jvm.exec) (hb : c.code = cc) (hd : decode cc pc = .ok (.if_icmp cnd off, 3)) (ht : (pc : Int) + off = (t0 : Int)) (kt : cmpB cnd a b = true → GO p l e R s m args below meth c cells slots Q nL dC dI dA ad L fz A t0 lv r μ) (kf : ¬ cmpB cnd a b = true → GO p l e R s m args below meth c cells slots Q nL dC dI dA ad L fz A (pc + 3) lv r μ) : GO p l e R s m args below meth c cells slots Q nL dC dI dA ad L fz A pc lv (Sum.inl b :: Sum.inl a :: r) μ := by
  intro H locs ls hW hS hl hst
  cases cnd with
  | eq => exact lv_icmp_eq hx hb hd ht (fun q => kt (decide_eq_true q) H locs ls hW hS hl (tl_c (tl_c hst))) (fun q => kf (fun z => q (of_decide_eq_true z)) H locs ls hW hS hl (tl_c (tl_c hst)))
  | ne => exact lv_icmp_ne hx hb hd ht (fun q => kt (decide_eq_true q) H locs ls hW hS hl (tl_c (tl_c hst))) (fun q => kf (fun z => (of_decide_eq_true z : ¬ _) q) H locs ls hW hS hl (tl_c (tl_c hst)))
  | lt => exact lv_icmp_lt hx hb hd ht (fun q => kt (decide_eq_true q) H locs ls hW hS hl (tl_c (tl_c hst))) (fun q => kf (fun z => q (of_decide_eq_true z)) H locs ls hW hS hl (tl_c (tl_c hst)))
  | ge => exact lv_icmp_ge hx hb hd ht (fun q => kt (decide_eq_true q) H locs ls hW hS hl (tl_c (tl_c hst))) (fun q => kf (fun z => q (of_decide_eq_true z)) H locs ls hW hS hl (tl_c (tl_c hst)))
  | gt => exact lv_icmp_gt hx hb hd ht (fun q => kt (decide_eq_true q) H locs ls hW hS hl (tl_c (tl_c hst))) (fun q => kf (fun z => q (of_decide_eq_true z)) H locs ls hW hS hl (tl_c (tl_c hst)))
  | le => exact lv_icmp_le hx hb hd ht (fun q => kt (decide_eq_true q) H locs ls hW hS hl (tl_c (tl_c hst))) (fun q => kf (fun z => q (of_decide_eq_true z)) H locs ls hW hS hl (tl_c (tl_c hst)))
end MN
