/-! SOUNDNESS of a block, of a run. -/
section SO
variable {p : Program} {l : Launch} {e : Env} {R : Room} {s : State} {m : MethodId} {args : Array Value} {below : List Frame} {meth : Method} {c : Code} {cells slots : Nat} {Q : State → Prop} {nL : Nat} {dC : Nat → ClassId} {dI : Nat → Nat → Nat} {dA : Nat → ClassId} {ad : Nat → Nat} {L : Nat} {fz : Mem} {A : Nat → Prop}
theorem jmp_ok {cc : ByteArray} {ci mm pc len t0 : Nat} {off : Int} {lv : LV} {st : List AV} {μ : Mem} (hC : CX p R s m args c cells slots nL ad A cc ci) (hd : decode cc pc = .ok (.goto off, 3)) (ht : tgt (pcs mm) pc off t0 = true) (kk : GO p l e R s m args below meth c cells slots Q nL dC dI dA ad L fz A (pcb mm t0) lv st μ) : GO p l e R s m args below meth c cells slots Q nL dC dI dA ad L fz A pc lv st μ := by
  obtain ⟨⟨hx, hb, hml, hown, hts⟩, ⟨hR1, hR2, hR3, hR4⟩, hE, hA, hA2, hV⟩ := id hC
  intro H locs ls hW hS hl hst
  exact lv_goto hx hb hd (tgt_eq ht) (kk H locs ls hW hS hl hst)
theorem exL_ok {cc : ByteArray} {ci mm d : Nat} {cal : Bool → Nat → List AV → Mem → Rs} {jmp : Nat → LV → List AV → Mem → Rs} {r : Option AV × Mem} (hC : CX p R s m args c cells slots nL ad A cc ci) (hIX : IXM l dC dI dA ad L fz) (hRm : rkm mm + 12 + 40 * d ≤ R.frames ∧ 60 * (rkm mm + 12 + 40 * d) ≤ R.locals)
    (hRT : RT p l e R s m args below meth c cells slots Q nL dC dI dA ad L fz A cc (rt mm) r) (hj : ∀ t lv st μ, jmp t lv st μ = some r → GO p l e R s m args below meth c cells slots Q nL dC dI dA ad L fz A (pcb mm t) lv st μ)
    (hc : ∀ rc m' as μ q, cal rc m' as μ = some q → m' < 196 → (∀ v ∈ as, vOk L v) → (rc = false → MT l dC dI dA ad L fz d m' as μ q) ∧ (rc = true → ∃ d', d = d' + 1 ∧ MT l dC dI dA ad L fz d' m' as μ q)) (hcd : d = 0 → ∀ m' as μ, cal true m' as μ = none) :
    ∀ (is : List AI) (pc : Nat) (lv : LV) (st : List AV) (μ : Mem), chkL ci mm nL cc (pcs mm) pc is = true → exL cal jmp is lv st μ = some r → GO p l e R s m args below meth c cells slots Q nL dC dI dA ad L fz A pc lv st μ := by
  obtain ⟨⟨hx, hb, hml, hown, hts⟩, ⟨hR1, hR2, hR3, hR4⟩, hE, hA, hA2, hV⟩ := id hC
  intro is
  induction is with
  | nil => intro pc lv st μ _ h; exact absurd h (by simp [exL])
  | cons a is ih =>
    obtain ⟨i, x, y, dd, sw⟩ := a
    intro pc lv st μ hck h
    have hinv : ∀ (k : Nat) (s0 : Bool), decode cc pc = .ok (if s0 = true then .invokestatic k else .invokevirtual k, 3) → okCall ci mm k s0 dd = true → chkL ci mm nL cc (pcs mm) (pc + 3) is = true → (inv cal dd st μ).bind (fun q => exL cal jmp is lv q.1 q.2) = some r → GO p l e R s m args below meth c cells slots Q nL dC dI dA ad L fz A pc lv st μ := by
      intro k s0 hd hok hck2 h
      rw [Option.bind_eq_some_iff] at h
      obtain ⟨q, hq, h⟩ := h
      have hkk : GO p l e R s m args below meth c cells slots Q nL dC dI dA ad L fz A (pc + 3) lv q.1 q.2 := ih _ _ _ _ hck2 h
      rcases dd with _ | ⟨z, _ | ⟨m', _ | ⟨n, _ | ⟨rc, _ | ⟨w, dd⟩⟩⟩⟩⟩
      · cases hq
      · cases hq
      · unfold inv at hq
        dsimp only at hq
        by_cases hct : catOK 10 st = true
        · rw [if_pos hct] at hq
          exact bui_ok hC hIX hRm hd hok hct hq hkk
        · rw [if_neg hct] at hq; cases hq
      · cases hq
      · unfold inv at hq
        dsimp only at hq
        by_cases hp : okS n st = true ∧ rcv z (tkA n st []) = true
        · rw [if_pos hp] at hq
          rw [Option.bind_eq_some_iff] at hq
          obtain ⟨q0, hq0, hq1⟩ := hq
          have e := Option.some.inj hq1
          have hok2 := hok
          simp only [okCall, Bool.and_eq_true, Bool.or_eq_true, decide_eq_true_eq, beq_iff_eq] at hok2
          obtain ⟨-, hm, -, -, hrk⟩ := hok2
          have hcc : ∃ d', ((rc = 0 ∧ d' = d) ∨ (rc = 1 ∧ d = d' + 1)) ∧ ((∀ v ∈ tkA n st [], vOk L v) → MT l dC dI dA ad L fz d' m' (tkA n st []) μ q0) := by
            rcases hrk with h1 | ⟨h1, -⟩
            · subst h1
              cases d with
              | zero => rw [show ((1 : Nat) == 1) = true from rfl, hcd rfl] at hq0; cases hq0
              | succ d' =>
                refine ⟨d', Or.inr ⟨rfl, rfl⟩, fun hv => ?_⟩
                obtain ⟨d2, e2, hM⟩ := (hc _ _ _ _ _ hq0 hm hv).2 rfl
                have : d2 = d' := by omega
                subst this
                exact hM
            · subst h1
              exact ⟨d, Or.inl ⟨rfl, rfl⟩, fun hv => (hc _ _ _ _ _ hq0 hm hv).1 rfl⟩
          obtain ⟨d', hdd, hM⟩ := hcc
          refine call_ok (len := 3) hC hRm hd hok hp.1 hp.2 hdd hM (fun _ => ?_)
          rw [← e] at hkk
          exact hkk
        · rw [if_neg hp] at hq; cases hq
      · cases hq
    have hdec : ∀ (i0 : Instr), i = i0 → i0 ≠ .nop → ∃ len, decode cc pc = .ok (i0, len) ∧ okC ci mm nL (pcs mm) pc len i0 x y dd sw = true ∧ chkL ci mm nL cc (pcs mm) (pc + len) is = true := by
      intro i0 hi hn
      subst hi
      unfold chkL at hck
      split at hck
      · exact absurd rfl hn
      · split at hck
        · rename_i i' len hdc
          simp only [Bool.and_eq_true, decide_eq_true_eq] at hck
          obtain ⟨e, h1, h2⟩ := hck
          subst e
          exact ⟨len, hdc, h1, h2⟩
        · cases hck
    unfold exL at h
    split at h
    · -- nop
      unfold chkL at hck
      unfold jmpD at h
      rcases dd with _ | ⟨t0, _ | ⟨z, dd⟩⟩
      · cases h
      · have e := tgt_eq (show tgt (pcs mm) pc 0 t0 = true from hck)
        have e2 : pc = pcb mm t0 := by
          show pc = (pcs mm).getD t0 0
          omega
        rw [e2]
        exact hj _ _ _ _ h
      · cases h
    · -- goto
      obtain ⟨len, hd, hok, -⟩ := hdec _ rfl (by intro q; cases q)
      unfold jmpD at h
      rcases dd with _ | ⟨t0, _ | ⟨z, dd⟩⟩
      · cases h
      · simp only [okC, Bool.and_eq_true, beq_iff_eq] at hok
        obtain ⟨ht, rfl⟩ := hok
        exact jmp_ok (len := 3) hC hd ht (hj _ _ _ _ h)
      · cases h
    · -- ifCond
      obtain ⟨len, hd, hok, -⟩ := hdec _ rfl (by intro q; cases q)
      unfold if1 at h
      rcases dd with _ | ⟨t0, _ | ⟨f0, _ | ⟨z, dd⟩⟩⟩
      · cases h
      · cases h
      · simp only [okC, Bool.and_eq_true, beq_iff_eq] at hok
        obtain ⟨⟨ht, hf⟩, rfl⟩ := hok
        rcases st with _ | ⟨v, st⟩
        · cases h
        · rcases v with v | v | v
          · dsimp only at h
            have e2 : pc + 3 = pcb mm f0 := by
              have := tgt_eq hf
              show pc + 3 = (pcs mm).getD f0 0
              omega
            refine if_row hx hb hd (tgt_eq ht) (fun q => ?_) (fun q => ?_)
            · rw [if_pos q] at h; exact hj _ _ _ _ h
            · rw [if_neg q] at h; rw [e2]; exact hj _ _ _ _ h
          · cases h
          · cases h
      · cases h
    · -- if_icmp
      obtain ⟨len, hd, hok, -⟩ := hdec _ rfl (by intro q; cases q)
      unfold if2 at h
      rcases dd with _ | ⟨t0, _ | ⟨f0, _ | ⟨z, dd⟩⟩⟩
      · cases h
      · cases h
      · simp only [okC, Bool.and_eq_true, beq_iff_eq] at hok
        obtain ⟨⟨ht, hf⟩, rfl⟩ := hok
        rcases st with _ | ⟨v, _ | ⟨w, st⟩⟩
        · cases h
        · rcases v with v | v | v <;> cases h
        · rcases v with v | v | v
          · rcases w with w | w | w
            · dsimp only at h
              have e2 : pc + 3 = pcb mm f0 := by
                have := tgt_eq hf
                show pc + 3 = (pcs mm).getD f0 0
                omega
              refine ic_row hx hb hd (tgt_eq ht) (fun q => ?_) (fun q => ?_)
              · rw [if_pos q] at h; exact hj _ _ _ _ h
              · rw [if_neg q] at h; rw [e2]; exact hj _ _ _ _ h
            · cases h
            · cases h
          · cases h
          · cases h
      · cases h
    · -- tableswitch
      obtain ⟨len, hd, hok, -⟩ := hdec _ rfl (by intro q; cases q)
      unfold sw1 at h
      rcases dd with _ | ⟨e0, _ | ⟨z, dd⟩⟩
      · cases h
      · simp only [okC, Bool.and_eq_true, beq_iff_eq] at hok
        obtain ⟨he, hhi, hsw⟩ := hok
        rcases st with _ | ⟨v, st⟩
        · cases h
        · rcases v with v | v | v
          · dsimp only at h
            rcases swT_ok sw _ _ hsw h with ⟨i, t0, off, g1, g2, g3, g4⟩ | ⟨g1, g2⟩
            · intro H locs ls hW hS hl hst
              have hlt : i < _ := (List.getElem?_eq_some_iff.mp g1).1
              refine lv_tableIn hx hb hd (by omega) (by omega) (off := off) ?_ (tgt_eq g3) (hj _ _ _ _ g4 H locs ls hW hS hl (tl_c hst))
              rw [show (v.toInt - _).toNat = i from by rw [g2]; omega]
              rw [← Array.getElem?_toList]
              exact g1
            · intro H locs ls hW hS hl hst
              exact lv_tableOut hx hb hd (by omega) (tgt_eq he) (hj _ _ _ _ g2 H locs ls hW hS hl (tl_c hst))
          · cases h
          · cases h
      · cases h
    · -- lookupswitch
      obtain ⟨len, hd, hok, -⟩ := hdec _ rfl (by intro q; cases q)
      unfold sw1 at h
      rcases dd with _ | ⟨e0, _ | ⟨z, dd⟩⟩
      · cases h
      · simp only [okC, Bool.and_eq_true] at hok
        obtain ⟨he, hp, hsw⟩ := hok
        rcases st with _ | ⟨v, st⟩
        · cases h
        · rcases v with v | v | v
          · dsimp only at h
            obtain ⟨t0, g1, g2⟩ := swL_ok he sw _ hsw h
            intro H locs ls hW hS hl hst
            exact lv_lookup hx hb hd hp rfl (tgt_eq g1) (hj _ _ _ _ g2 H locs ls hW hS hl (tl_c hst))
          · cases h
          · cases h
      · cases h
    · -- ireturn
      obtain ⟨len, hd, hok, -⟩ := hdec _ rfl (by intro q; cases q)
      unfold retI at h
      rcases dd with _ | ⟨z, _ | ⟨z2, dd⟩⟩
      · simp only [okC, Bool.and_eq_true, beq_iff_eq, decide_eq_true_eq] at hok
        obtain ⟨hr, rfl⟩ := hok
        rcases st with _ | ⟨v, _ | ⟨w, st⟩⟩
        · cases h
        · rcases v with v | v | v
          · exact hRT.1 v μ pc lv (Option.some.inj h).symm hd (Or.inl hr)
          · cases h
          · cases h
        · rcases v with v | v | v <;> cases h
      · simp only [okC, Bool.and_eq_true, beq_iff_eq, decide_eq_true_eq] at hok
        obtain ⟨hr, rfl⟩ := hok
        rcases st with _ | ⟨v, _ | ⟨w, st⟩⟩
        · cases h
        · rcases v with v | v | v
          · dsimp only at h
            by_cases hz : v = 0 ∨ v = 1
            · rw [if_pos hz] at h
              exact hRT.1 v μ pc lv (Option.some.inj h).symm hd (Or.inr ⟨hr, hz⟩)
            · rw [if_neg hz] at h; cases h
          · cases h
          · cases h
        · rcases v with v | v | v <;> cases h
      · rcases st with _ | ⟨v, _ | ⟨w, st⟩⟩
        · cases h
        · rcases v with v | v | v <;> cases h
        · rcases v with v | v | v <;> cases h
    · -- lreturn
      obtain ⟨len, hd, hok, -⟩ := hdec _ rfl (by intro q; cases q)
      simp only [okC, Bool.and_eq_true, beq_iff_eq, decide_eq_true_eq] at hok
      obtain ⟨hr, rfl⟩ := hok
      unfold retL at h
      rcases st with _ | ⟨v, _ | ⟨w, st⟩⟩
      · cases h
      · rcases v with v | v | v
        · cases h
        · exact hRT.2.1 v μ pc lv (Option.some.inj h).symm hd hr
        · cases h
      · rcases v with v | v | v <;> cases h
    · -- areturn
      obtain ⟨len, hd, hok, -⟩ := hdec _ rfl (by intro q; cases q)
      simp only [okC, Bool.and_eq_true, beq_iff_eq] at hok
      obtain ⟨hr, rfl⟩ := hok
      have hr2 : ∃ n, rt mm = some (.object n) := by
        split at hr
        · exact ⟨_, ‹_›⟩
        · cases hr
      unfold retA at h
      rcases st with _ | ⟨v, _ | ⟨w, st⟩⟩
      · cases h
      · rcases v with v | v | v
        · cases h
        · cases h
        · exact hRT.2.2.1 v μ pc lv (Option.some.inj h).symm hd hr2
      · rcases v with v | v | v <;> cases h
    · -- return
      obtain ⟨len, hd, hok, -⟩ := hdec _ rfl (by intro q; cases q)
      simp only [okC, Bool.and_eq_true, beq_iff_eq, decide_eq_true_eq] at hok
      obtain ⟨hr, rfl⟩ := hok
      unfold retV at h
      rcases st with _ | ⟨v, st⟩
      · exact hRT.2.2.2 μ pc lv (Option.some.inj h).symm hd hr
      · cases h
    · -- invokevirtual
      obtain ⟨len, hd, hok, hck2⟩ := hdec _ rfl (by intro q; cases q)
      simp only [okC, Bool.and_eq_true, beq_iff_eq] at hok
      obtain ⟨hok, rfl⟩ := hok
      exact hinv _ false hd hok hck2 h
    · -- invokestatic
      obtain ⟨len, hd, hok, hck2⟩ := hdec _ rfl (by intro q; cases q)
      simp only [okC, Bool.and_eq_true, beq_iff_eq] at hok
      obtain ⟨hok, rfl⟩ := hok
      exact hinv _ true hd hok hck2 h
    · -- the straight ones
      rename_i n1 n2 n3 n4 n5 n6 n7 n8 n9 n10 n11 n12
      obtain ⟨len, hd, hok, hck2⟩ := hdec i rfl (fun q => n1 q)
      rw [Option.bind_eq_some_iff] at h
      obtain ⟨q, hq, h⟩ := h
      have hok2 : okI ci nL len i x y dd = true := by
        unfold okC at hok
        split at hok
        · exact absurd rfl (n2 _)
        · exact absurd rfl (n3 _ _)
        · exact absurd rfl (n4 _ _)
        · exact absurd rfl (n5 _ _ _ _)
        · exact absurd rfl (n6 _ _)
        · exact absurd rfl n7
        · exact absurd rfl n8
        · exact absurd rfl n9
        · exact absurd rfl n10
        · exact absurd rfl (n11 _)
        · exact absurd rfl (n12 _)
        · exact hok
      exact op1_ok hC hd hok2 hq (ih _ _ _ _ hck2 h)
end SO
