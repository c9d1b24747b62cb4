/-! THE FIRST MEMORY. -/
def zZ : Nat → Int32 := fun _ => 0
def zW : Nat → Int32 := fun j => if j = 13 then 1 else 0
def wW : Nat → Int32 := fun j => if j = 9 then -1 else 0
def sM : Nat → Int32 := upd (fun _ => 0) 8 1
def mu1 (o : Nat) : Nat → Int32 := if o = 1 ∨ o = 33 ∨ o = 65 then zW else if ([7, 10, 13, 16, 39, 42, 45, 48, 71, 74, 77, 80] : List Nat).contains o = true then wW else if o = 113 then sM else zZ
def mu0 (fz : Mem) : Mem := fun o => if o < 127 then mu1 o else fz o
def vI0 (o k : Nat) : Int32 := if o = 0 ∧ k = 8 then 1 else if (1 ≤ o ∧ o < 5) ∧ k = 7 then -1 else 0
def vJ0 (o k : Nat) : Int32 := if o = 0 ∧ k = 8 then 1 else 0
def okIC (b o k : Nat) : Bool := (decide (cO b o k < 127) && (decide (loV o k ≤ (mu1 (cO b o k) (cK o k)).toInt) && decide ((mu1 (cO b o k) (cK o k)).toInt ≤ hiV o k))) && decide (mu1 (cO b o k) (cK o k) = vI0 o k)
def okIM (o k : Nat) : Bool := (decide (loV o k ≤ (mu1 113 (mI o k)).toInt) && decide ((mu1 113 (mI o k)).toInt ≤ hiV o k)) && decide (mu1 113 (mI o k) = vJ0 o k)
theorem ini_Cb : (([1, 33, 65] : List Nat).all fun b => (List.range 22).all fun o => (List.range 60).all fun k => !(decide (inC o k)) || okIC b o k) = true := by decide +kernel
theorem ini_Mb : ((List.range 22).all fun o => (List.range 60).all fun k => !(decide (inC o k)) || okIM o k) = true := by decide +kernel
theorem ini_C (b : Nat) (hb : b ∈ ([1, 33, 65] : List Nat)) (o : Nat) (ho : o < 22) (k : Nat) (hk : k < 60) (h : inC o k) : (cO b o k < 127 ∧ (loV o k ≤ (mu1 (cO b o k) (cK o k)).toInt ∧ (mu1 (cO b o k) (cK o k)).toInt ≤ hiV o k)) ∧ mu1 (cO b o k) (cK o k) = vI0 o k := by
  have h1 := List.all_eq_true.mp (List.all_eq_true.mp (List.all_eq_true.mp ini_Cb b hb) o (List.mem_range.mpr ho)) k (List.mem_range.mpr hk)
  rw [decide_eq_true h] at h1
  have h2 : okIC b o k = true := h1
  unfold okIC at h2
  simp only [Bool.and_eq_true, decide_eq_true_eq] at h2
  exact h2
theorem ini_M (o : Nat) (ho : o < 22) (k : Nat) (hk : k < 60) (h : inC o k) : (loV o k ≤ (mu1 113 (mI o k)).toInt ∧ (mu1 113 (mI o k)).toInt ≤ hiV o k) ∧ mu1 113 (mI o k) = vJ0 o k := by
  have h1 := List.all_eq_true.mp (List.all_eq_true.mp ini_Mb o (List.mem_range.mpr ho)) k (List.mem_range.mpr hk)
  rw [decide_eq_true h] at h1
  have h2 : okIM o k = true := h1
  unfold okIM at h2
  simp only [Bool.and_eq_true, decide_eq_true_eq] at h2
  exact h2
theorem z_0 : (0 : Int) ≤ (0 : Int32).toInt := by decide
theorem z_24 : (0 : Int32).toInt ≤ 24 := by decide
theorem z_60 : (0 : Int32).toInt ≤ 60 := by decide
theorem inC_b {o k : Nat} (h : inC o k) : o < 22 ∧ k < 60 := by
  unfold inC at h
  omega
theorem iC {fz : Mem} {b o k : Nat} (hb : b ∈ ([1, 33, 65] : List Nat)) (h : inC o k) : (loV o k ≤ (vC b (mu0 fz) o k).toInt ∧ (vC b (mu0 fz) o k).toInt ≤ hiV o k) ∧ vC b (mu0 fz) o k = vI0 o k := by
  obtain ⟨h1, h2⟩ := inC_b h
  obtain ⟨⟨q1, q2⟩, q3⟩ := ini_C b hb o h1 k h2 h
  have e : vC b (mu0 fz) o k = mu1 (cO b o k) (cK o k) := by
    unfold vC mu0
    rw [if_pos h, if_pos q1]
  rw [e]
  exact ⟨q2, q3⟩
theorem iM {fz : Mem} {o k : Nat} (h : inC o k) : (loV o k ≤ (vM 113 (mu0 fz) o k).toInt ∧ (vM 113 (mu0 fz) o k).toInt ≤ hiV o k) ∧ vM 113 (mu0 fz) o k = vJ0 o k := by
  obtain ⟨h1, h2⟩ := inC_b h
  obtain ⟨q2, q3⟩ := ini_M o h1 k h2 h
  have e : vM 113 (mu0 fz) o k = mu1 113 (mI o k) := by
    unfold vM mu0
    rw [if_pos h, if_pos (by decide)]
  rw [e]
  exact ⟨q2, q3⟩
theorem iC0 {fz : Mem} {b o k : Nat} (hb : b ∈ ([1, 33, 65] : List Nat)) (h : inC o k) (h1 : ¬ (o = 0 ∧ k = 8)) (h2 : ¬ ((1 ≤ o ∧ o < 5) ∧ k = 7)) : vC b (mu0 fz) o k = 0 := by
  rw [(iC hb h).2]
  unfold vI0
  rw [if_neg h1, if_neg h2]
theorem iM0 {fz : Mem} {o k : Nat} (h : inC o k) (h1 : ¬ (o = 0 ∧ k = 8)) : vM 113 (mu0 fz) o k = 0 := by
  rw [(iM h).2]
  unfold vJ0
  rw [if_neg h1]
theorem i_wf {fz : Mem} {b : Nat} (hb : b ∈ ([1, 33, 65] : List Nat)) : WFV (vC b (mu0 fz)) := by
  refine ⟨fun o k h => (iC hb h).1, fun w hw => ?_, fun r hr hc => ?_⟩
  · rw [iC0 hb (by unfold inC; omega) (by omega) (by omega), iC0 hb (by unfold inC; omega) (by omega) (by omega)]
    exact Int.le_refl _
  · rw [iC0 hb (by unfold inC; omega) (by omega) (by omega)] at hc
    have z : (0 : Int32).toInt = 0 := rfl
    omega
theorem i_wfM {fz : Mem} : WFV (vM 113 (mu0 fz)) := by
  refine ⟨fun o k h => (iM h).1, fun w hw => ?_, fun r hr hc => ?_⟩
  · rw [iM0 (by unfold inC; omega) (by omega), iM0 (by unfold inC; omega) (by omega)]
    exact Int.le_refl _
  · rw [iM0 (by unfold inC; omega) (by omega)] at hc
    have z : (0 : Int32).toInt = 0 := rfl
    omega
theorem i_wd {fz : Mem} {b : Nat} (hb : b ∈ ([1, 33, 65] : List Nat)) : WFD (vC b (mu0 fz)) := by
  refine ⟨fun r hr => ?_, ?_⟩
  · rw [iC0 hb (by unfold inC; omega) (by omega) (by omega), iC0 hb (by unfold inC; omega) (by omega) (by omega)]
    exact Int.le_refl _
  · rw [iC0 hb (by unfold inC; omega) (by omega) (by omega)]
    decide
theorem i_wdM {fz : Mem} : WFD (vM 113 (mu0 fz)) := by
  refine ⟨fun r hr => ?_, ?_⟩
  · rw [iM0 (by unfold inC; omega) (by omega), iM0 (by unfold inC; omega) (by omega)]
    exact Int.le_refl _
  · rw [iM0 (by unfold inC; omega) (by omega)]
    decide
theorem RR_ini {fz : Mem} : RR fz (mu0 fz) := by
  have h1 : 1 ∈ ([1, 33, 65] : List Nat) := by decide
  have h33 : 33 ∈ ([1, 33, 65] : List Nat) := by decide
  have h65 : 65 ∈ ([1, 33, 65] : List Nat) := by decide
  have z : (0 : Int32).toInt = 0 := rfl
  refine ⟨⟨⟨i_wf h1, i_wfM⟩, ⟨i_wd h1, i_wdM⟩, ?_, ?_, fun u hu => ?_⟩, Or.inl rfl, rfl, i_wf h33, ⟨i_wf h65, (i_wd h65).1⟩, fun k p1 p2 => ?_, fun s hs => ?_, ?_, fun o ho => ?_⟩
  · rw [iC0 h1 (by unfold inC; omega) (by omega) (by omega)]
    decide
  · refine ⟨fun k hk => ?_, fun w hw hc => ?_, fun r hr hc => ?_, fun i hi hc => ?_, fun i hi hc => ?_⟩
    · rw [(iC h1 (by unfold inC; omega)).2, (iM (by unfold inC; omega)).2]
      unfold vI0 vJ0
      by_cases q : (0 : Nat) = 0 ∧ k = 8
      · rw [if_pos q, if_pos q]
      · rw [if_neg q, if_neg q, if_neg (by omega)]
    · rw [iC0 h1 (by unfold inC; omega) (by omega) (by omega)] at hc
      omega
    · rw [iC0 h1 (by unfold inC; omega) (by omega) (by omega)] at hc
      omega
    · rw [iC0 h1 (by unfold inC; omega) (by omega) (by omega)] at hc
      omega
    · rw [iC0 h1 (by unfold inC; omega) (by omega) (by omega)] at hc
      omega
  · have hu2 : u = 0 ∨ u = 1 := by omega
    rcases hu2 with rfl | rfl
    · exact ⟨⟨z_0, z_60⟩, Or.inl ⟨rfl, rfl⟩⟩
    · exact ⟨⟨z_0, z_60⟩, Or.inl ⟨rfl, rfl⟩⟩
  · rfl
  · have hs4 : s = 0 ∨ s = 1 ∨ s = 2 ∨ s = 3 := by omega
    rcases hs4 with rfl | rfl | rfl | rfl
    · exact ⟨rfl, rfl, Or.inl rfl, ⟨z_0, z_24⟩, fun _ _ => rfl⟩
    · exact ⟨rfl, rfl, Or.inl rfl, ⟨z_0, z_24⟩, fun _ _ => rfl⟩
    · exact ⟨rfl, rfl, Or.inl rfl, ⟨z_0, z_24⟩, fun _ _ => rfl⟩
    · exact ⟨rfl, rfl, Or.inl rfl, ⟨z_0, z_24⟩, fun _ _ => rfl⟩
  · have e : mu0 fz 100 1 = 0 := rfl
    refine ⟨rfl, ?_, fun i hi => ?_⟩
    · rw [e]
      decide
    · rw [e] at hi
      exact absurd hi (Nat.not_lt_zero _)
  · unfold mu0
    rw [if_neg (by omega)]
def fz0 (xs : Nat → Int32) : Mem := fun o => if o = 200 then (fun j => ([-1, 0, 0, 0, 1, 2, 0] : List Int32).getD j 0) else if o = 201 then (fun j => ([10, 11, 12, 13, 20, 0, 0, 21, 0, 30, 0, 0, 0, 0, 40, 0, 50, 0, 51, 0, 0, 60, 0, 0, 70, 71, 0, 0] : List Int32).getD j 0) else if o = 202 then xs else fun _ => 0
theorem FZ_ini (xs : Nat → Int32) : FZ (fz0 xs) := by
  unfold FZ
  refine ⟨⟨?_, ?_, ?_, ?_, ?_, ?_, ?_⟩, ?_⟩
  all_goals first | rfl | (repeat' (first | rfl | constructor))
