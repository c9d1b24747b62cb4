/-! SOUNDNESS of a run, by its fuel. -/
def SN (l : Launch) (dC : Nat → ClassId) (dI : Nat → Nat → Nat) (dA : Nat → ClassId) (ad : Nat → Nat) (L : Nat) (fz : Mem) (n : Nat) : Prop := ∀ (p : Program) (e : Env) (R : Room) (s : State) (m : MethodId) (args : Array Value) (below : List Frame) (meth : Method) (c : Code) (cells slots : Nat) (Q : State → Prop) (A : Nat → Prop) (mm d b : Nat) (lv : LV) (st : List AV) (μ : Mem) (r : Option AV × Mem), mm < 197 → CX p R s m args c cells slots (mxL mm) ad A (cb mm) (cix mm) → (rkm mm + 12 + 40 * d ≤ R.frames ∧ 60 * (rkm mm + 12 + 40 * d) ≤ R.locals) → RT p l e R s m args below meth c cells slots Q (mxL mm) dC dI dA ad L fz A (cb mm) (rt mm) r → rn n d mm b lv st μ = some r → GO p l e R s m args below meth c cells slots Q (mxL mm) dC dI dA ad L fz A (pcb mm b) lv st μ
theorem tb_len : (List.range 197).all (fun m => decide ((tbs.getD m []).length = (pcs m).length) && decide (pcb m 0 = 0)) = true := by decide +kernel
theorem chk_b {mm : Nat} (hm : mm < 197) (b : Nat) : chkL (cix mm) mm (mxL mm) (cb mm) (pcs mm) (pcb mm b) (blk mm b) = true := by
  by_cases hb : b < (pcs mm).length
  · exact List.all_eq_true.mp (chk_all mm hm) b (List.mem_range.mpr hb)
  · have h := List.all_eq_true.mp tb_len mm (List.mem_range.mpr hm)
    simp only [Bool.and_eq_true, decide_eq_true_eq] at h
    have : blk mm b = [] := by
      unfold blk
      rw [List.getD_eq_getElem?_getD, List.getElem?_eq_none (by omega)]
      rfl
    rw [this]
    rfl
theorem pcb_0 {mm : Nat} (hm : mm < 197) : pcb mm 0 = 0 := by
  have h := List.all_eq_true.mp tb_len mm (List.mem_range.mpr hm)
  simp only [Bool.and_eq_true, decide_eq_true_eq] at h
  exact h.2
section SS
variable {l : Launch} {dC : Nat → ClassId} {dI : Nat → Nat → Nat} {dA : Nat → ClassId} {ad : Nat → Nat} {L : Nat} {fz : Mem}
theorem MT_of {n : Nat} (hE : EO ad) (h : SN l dC dI dA ad L fz n) {d mm : Nat} {as : List AV} {μ : Mem} {r : Option AV × Mem} (hm : mm < 196) (hr : rnc n d mm as μ = some r) (hv : ∀ v ∈ as, vOk L v) : MT l dC dI dA ad L fz d mm as μ r := by
  obtain ⟨-, -, -, k4, -, -, -, -, k9⟩ := mt_kind hm
  unfold rnc at hr
  by_cases hs : slA as ≤ mxL mm
  · rw [if_pos hs] at hr
    refine Met.ofW (cc := cb mm) (maxL := mxL mm) (ret := rt mm) k9 rfl ?_
    intro p e s m args below meth c s₁ B hml hP
    obtain ⟨rfl, hW, hVR⟩ := hP
    have hts := atoms_spec (ws := wss mm) B.pre
    have hown : s.vm.findClass (cn (cix mm)) = some m.cls := by rw [← k4]; exact findClass_of_methodNamed B.named
    have hC : CX p (rmm d mm) s m (as.map (cv ad)).toArray c 0 0 (mxL mm) ad (Fr ad) (cb mm) (cix mm) := by
      refine ⟨⟨B.exec, B.bytes, hml, hown, fun w hw => hts w (List.mem_cons_of_mem _ hw)⟩, ⟨?_, ?_, Nat.le_refl _, Nat.le_refl _⟩, hE, fun o ho => ⟨o, ho, rfl⟩, fun q hq => hq, hVR⟩
      · show 1 ≤ rkm mm + 12 + 40 * d; omega
      · show 60 ≤ 60 * (rkm mm + 12 + 40 * d); omega
    have hRT : RT p l e (rmm d mm) s m (as.map (cv ad)).toArray below meth c 0 0 (MQ below (QC dC dI dA ad L fz r) (as.map (cv ad)).toArray s 0 0 (Fr ad)) (mxL mm) dC dI dA ad L fz (Fr ad) (cb mm) (rt mm) r := by
      refine ⟨fun v μ' pc lv he hd hty => ?_, fun v μ' pc lv he hd hty => ?_, fun v μ' pc lv he hd hty => ?_, fun μ' pc lv he hd hty => ?_⟩
      · intro H locs ls hW hS hl hst
        have hq : ∀ t : State, t.heap = H → s.WarmedH t.vm → QC dC dI dA ad L fz r (as.map (cv ad)).toArray s (.returned (some (.int v))) t := by
          intro t ht _
          rw [he]
          exact ⟨⟨⟨rfl, fun w hw => by rw [← Option.some.inj hw]; trivial⟩, by rw [ht]; exact hW.2.1, hW.2.2.1⟩, hS.F ht⟩
        rcases hty with hty | ⟨hty, hz⟩
        · exact W.zret (ty := .int) B.exec B.bytes (B.returns.trans hty) rfl hq hS.2.2 hd (hlocks := B.notSynchronized)
        · exact W.zret (ty := .boolean) B.exec B.bytes (B.returns.trans hty) (by rcases hz with rfl | rfl <;> rfl) hq hS.2.2 hd (hlocks := B.notSynchronized)
      · intro H locs ls hW hS hl hst
        have hq : ∀ t : State, t.heap = H → s.WarmedH t.vm → QC dC dI dA ad L fz r (as.map (cv ad)).toArray s (.returned (some (.long v))) t := by
          intro t ht _
          rw [he]
          exact ⟨⟨⟨rfl, fun w hw => by rw [← Option.some.inj hw]; trivial⟩, by rw [ht]; exact hW.2.1, hW.2.2.1⟩, hS.F ht⟩
        exact W.lret B.exec B.bytes (B.returns.trans hty) hq hS.2.2 hd (hlocks := B.notSynchronized)
      · intro H locs ls hW hS hl hst
        have hq : ∀ t : State, t.heap = H → s.WarmedH t.vm → QC dC dI dA ad L fz r (as.map (cv ad)).toArray s (.returned (some (.ref (ad v.2)))) t := by
          intro t ht _
          rw [he]
          exact ⟨⟨⟨rfl, fun w hw => by rw [← Option.some.inj hw]; exact hst _ List.mem_cons_self⟩, by rw [ht]; exact hW.2.1, hW.2.2.1⟩, hS.F ht⟩
        obtain ⟨nn, hty⟩ := hty
        exact W.aret B.exec B.bytes (B.returns.trans hty) (Or.inl ⟨nn, rfl⟩) (Or.inr ⟨_, rfl⟩) hq hS.2.2 hd (hlocks := B.notSynchronized)
      · intro H locs ls hW hS hl hst
        have hq : ∀ t : State, t.heap = H → s.WarmedH t.vm → QC dC dI dA ad L fz r (as.map (cv ad)).toArray s (.returned none) t := by
          intro t ht _
          rw [he]
          exact ⟨⟨⟨rfl, fun w hw => by cases hw⟩, by rw [ht]; exact hW.2.1, hW.2.2.1⟩, hS.F ht⟩
        exact W.vret B.exec B.bytes (B.returns.trans hty) hq hS.2.2 hd (hlocks := B.notSynchronized)
    have hg := h p e (rmm d mm) s m (as.map (cv ad)).toArray below meth c 0 0 (MQ below (QC dC dI dA ad L fz r) (as.map (cv ad)).toArray s 0 0 (Fr ad)) (Fr ad) mm d 0 _ _ μ r (by omega) hC ⟨Nat.le_refl _, Nat.le_refl _⟩ hRT hr
    rw [pcb_0 (by omega)] at hg
    rw [lg_entry_eq]
    exact hg s.heap [] _ hW va_S.rf (ent_ok hs hv) (fun v hv => by cases hv)
  · rw [if_neg hs] at hr; cases hr
theorem SN_all (hE : EO ad) (hIX : IXM l dC dI dA ad L fz) : ∀ n, SN l dC dI dA ad L fz n := by
  intro n
  induction n with
  | zero => intro p e R s m args below meth c cells slots Q A mm d b lv st μ r _ _ _ _ h; exact absurd h (by simp [rn])
  | succ n ih =>
    intro p e R s m args below meth c cells slots Q A mm d b lv st μ r hm hC hRm hRT h
    rw [rn_s] at h
    refine exL_ok hC hIX hRm hRT (fun t lv st μ h => ih p e R s m args below meth c cells slots Q A mm d t lv st μ r hm hC hRm hRT h) (fun rc m' as μ q hq hm' hv => ?_) (fun hd m' as μ => ?_) _ _ _ _ _ (chk_b hm b) h
    · refine ⟨fun e1 => ?_, fun e1 => ?_⟩
      · subst e1
        exact MT_of hE ih hm' (by simpa using hq) hv
      · subst e1
        rw [if_pos rfl] at hq
        by_cases hd : d = 0
        · rw [if_pos hd] at hq; cases hq
        · rw [if_neg hd] at hq
          exact ⟨d - 1, by omega, MT_of hE ih hm' hq hv⟩
    · rw [if_pos rfl, if_pos hd]
/-- what a method answers, it answers -/
theorem snd_cl (hE : EO ad) (hIX : IXM l dC dI dA ad L fz) {d mm : Nat} {as : List AV} {μ : Mem} {r : Option AV × Mem} (hm : mm < 196) (h : cl d mm as μ = some r) (hv : ∀ v ∈ as, vOk L v) : MT l dC dI dA ad L fz d mm as μ r := by
  obtain ⟨n, hn⟩ := cl_iff.mp h
  exact MT_of hE (SN_all hE hIX n) hm hn hv
/-- a run from a block of a method on -/
theorem snd_res (hE : EO ad) (hIX : IXM l dC dI dA ad L fz) {p : Program} {e : Env} {R : Room} {s : State} {m : MethodId} {args : Array Value} {below : List Frame} {meth : Method} {c : Code} {cells slots : Nat} {Q : State → Prop} {A : Nat → Prop} {mm d b : Nat} {lv : LV} {st : List AV} {μ : Mem} {r : Option AV × Mem} (hm : mm < 197) (hC : CX p R s m args c cells slots (mxL mm) ad A (cb mm) (cix mm)) (hRm : rkm mm + 12 + 40 * d ≤ R.frames ∧ 60 * (rkm mm + 12 + 40 * d) ≤ R.locals) (hRT : RT p l e R s m args below meth c cells slots Q (mxL mm) dC dI dA ad L fz A (cb mm) (rt mm) r) (h : res d mm b lv st μ = some r) : GO p l e R s m args below meth c cells slots Q (mxL mm) dC dI dA ad L fz A (pcb mm b) lv st μ := by
  obtain ⟨n, hn⟩ := res_iff.mp h
  exact SN_all hE hIX n p e R s m args below meth c cells slots Q A mm d b lv st μ r hm hC hRm hRT hn
end SS
