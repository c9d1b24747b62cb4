/-! ODDS: the class's sum. -/
theorem bit_ok : ∀ c : Fin 64, ∀ k : Fin 8, (bitE (nI c.val) (nI k.val) = 1 ↔ c.val.testBit k.val = true) := by decide +kernel
theorem shl_ok : ∀ c : Fin 7, (1 : Int32) <<< (nI c.val &&& 31) = nI (2 ^ c.val) := by decide +kernel
def aS (only : Int32) (V : Mem) : Nat → Bool := fun r => decide (V (10 + r) 6 = 0 ∧ (only = -1 ∨ V (10 + r) 2 = only))
def tnS (V : Mem) : Nat → Int := fun r => (V (10 + r) 5).toInt
theorem cnt_nb {only : Int32} {V : Mem} : ∀ n, cntP only V n = nb (aS only V) n := by
  intro n
  induction n with
  | zero => rfl
  | succ n ih =>
    unfold cntP nb
    rw [ih]
    by_cases q : V (10 + n) 6 = 0 ∧ (only = -1 ∨ V (10 + n) 2 = only)
    · rw [if_pos q, if_pos (show aS only V n = true from decide_eq_true q)]
    · rw [if_neg q, if_neg (show ¬ aS only V n = true from fun z => q (of_decide_eq_true z))]
theorem ch_e {only : Int32} {V : Mem} {c : Nat} (hc : c < 64) : ∀ n, n ≤ 8 → chV only (nI c) V n = eV (aS only V) true V c n := by
  intro n
  induction n with
  | zero => exact fun _ => rfl
  | succ n ih =>
    intro hn
    rw [eV_s]
    unfold chV
    rw [ih (by omega), cnt_nb]
    have b := bit_ok ⟨c, hc⟩ ⟨nb (aS only V) n, by have := nb_le (sel := aS only V) n; omega⟩
    have b : bitE (nI c) (nI (nb (aS only V) n)) = 1 ↔ c.testBit (nb (aS only V) n) = true := b
    by_cases q : V (10 + n) 6 = 0 ∧ (only = -1 ∨ V (10 + n) 2 = only)
    · rw [if_pos q, if_pos (show aS only V n = true from decide_eq_true q)]
      by_cases q2 : c.testBit (nb (aS only V) n) = true
      · rw [if_pos q2, if_pos (b.mpr q2)]
      · rw [if_neg q2, if_neg (fun z => q2 (b.mp z))]
    · rw [if_neg q, if_neg (show ¬ aS only V n = true from fun z => q (of_decide_eq_true z))]
theorem ip6 {k : Nat} (h : k ≤ 6) : (10 : Int) ^ k ≤ 1000000 := by
  have : k = 0 ∨ k = 1 ∨ k = 2 ∨ k = 3 ∨ k = 4 ∨ k = 5 ∨ k = 6 := by omega
  rcases this with rfl | rfl | rfl | rfl | rfl | rfl | rfl <;> decide
theorem i64m {a b : Int64} {x y : Int} (ha : a.toInt = x) (hb : b.toInt = y) (h : 0 ≤ x ∧ x ≤ 1000000) (h2 : 0 ≤ y ∧ y ≤ 10) : (a * b).toInt = x * y := by
  have h3 : 0 ≤ x * y := Int.mul_nonneg h.1 h2.1
  have h4 : x * y ≤ 1000000 * 10 := Int.mul_le_mul h.2 h2.2 h2.1 (by omega)
  rw [Int64.toInt_mul, ha, hb, Int.bmod_eq_of_le] <;> omega
theorem ch_w {only : Int32} {V : Mem} {c : Nat} (hW : WFV V) (hc : c < 64) : ∀ n, n ≤ 8 → nb (aS only V) n ≤ 6 → (chL only (nI c) V n).toInt = eW (aS only V) true (tnS V) c n := by
  intro n
  induction n with
  | zero => exact fun _ _ => rfl
  | succ n ih =>
    intro hn h6
    have hm := nb_mono (sel := aS only V) (m := n) 1
    have i1 := ih (by omega) (by omega)
    have g5 := gr5 hW (r := n) (by omega)
    have er := eW_rg (sel := aS only V) (one := true) (tn := tnS V) (c := c) n (fun r hr => gr5 hW (by omega))
    have e6 := ip6 (k := nb (aS only V) n) (by omega)
    rw [eW_s]
    unfold chL
    rw [cnt_nb]
    have b := bit_ok ⟨c, hc⟩ ⟨nb (aS only V) n, by have := nb_le (sel := aS only V) n; omega⟩
    have b : bitE (nI c) (nI (nb (aS only V) n)) = 1 ↔ c.testBit (nb (aS only V) n) = true := b
    by_cases q : V (10 + n) 6 = 0 ∧ (only = -1 ∨ V (10 + n) 2 = only)
    · rw [if_pos q, if_pos (show aS only V n = true from decide_eq_true q)]
      by_cases q2 : c.testBit (nb (aS only V) n) = true
      · rw [if_pos q2, if_pos (b.mpr q2)]
        exact i64m i1 (Int32.toInt_toInt64 _) (by omega) g5
      · rw [if_neg q2, if_neg (fun z => q2 (b.mp z))]
        have t10 : (10 : Int32).toInt = 10 := rfl
        have e : (10 - V (10 + n) 5).toInt = 10 - (V (10 + n) 5).toInt := by rw [ts] <;> rw [t10] <;> omega
        exact i64m i1 ((Int32.toInt_toInt64 _).trans e) (by omega) (by show 0 ≤ 10 - (V (10 + n) 5).toInt ∧ 10 - (V (10 + n) 5).toInt ≤ 10; omega)
    · rw [if_neg q, if_neg (show ¬ aS only V n = true from fun z => q (of_decide_eq_true z))]
      exact i1
theorem e_sel {sel sel' : Nat → Bool} {one : Bool} {V : Mem} {tn tn' : Nat → Int} {c : Nat} : ∀ n, (∀ r, r < n → sel r = sel' r ∧ tn r = tn' r) → nb sel n = nb sel' n ∧ eV sel one V c n = eV sel' one V c n ∧ eW sel one tn c n = eW sel' one tn' c n := by
  intro n
  induction n with
  | zero => exact fun _ => ⟨rfl, rfl, rfl⟩
  | succ n ih =>
    intro h
    obtain ⟨i1, i2, i3⟩ := ih (fun r hr => h r (by omega))
    obtain ⟨h1, h2⟩ := h n (by omega)
    have en : ∀ s : Nat → Bool, nb s (n + 1) = if s n then nb s n + 1 else nb s n := fun s => rfl
    rw [eV_s, eV_s, eW_s, eW_s, en, en, i1, i2, i3, h1, h2]
    exact ⟨rfl, rfl, rfl⟩
theorem eV_eqv {sel : Nat → Bool} {one : Bool} {V V' : Mem} {c : Nat} (h : EQV V V') : ∀ n, n ≤ 8 → EQV (eV sel one V c n) (eV sel one V' c n) := by
  intro n
  induction n with
  | zero => exact fun _ => h
  | succ n ih =>
    intro hn
    rw [eV_s, eV_s]
    split
    · exact (ih (by omega)).b (by unfold plE; omega)
    · exact ih (by omega)
theorem eV_wf {sel : Nat → Bool} {one : Bool} {V : Mem} {c : Nat} (h : WFV V) : ∀ n, n ≤ 8 → WFV (eV sel one V c n) := by
  intro n
  induction n with
  | zero => exact fun _ => h
  | succ n ih =>
    intro hn
    rw [eV_s]
    split
    · refine wf_6 (ih (by omega)) (by omega) ?_
      split
      · exact Or.inl rfl
      · exact Or.inr rfl
    · exact ih (by omega)
theorem eV_lo {sel : Nat → Bool} {one : Bool} {V : Mem} {c : Nat} : ∀ n o k, (o < 10 ∨ ¬ k = 6) → eV sel one V c n o k = V o k := by
  intro n
  induction n with
  | zero => exact fun _ _ _ => rfl
  | succ n ih =>
    intro o k h
    rw [eV_s]
    split
    · rcases h with h | h
      · rw [up_o (by omega)]
        exact ih o k (Or.inl h)
      · rw [up_j h]
        exact ih o k (Or.inr h)
    · exact ih o k h
def eeT (tx : TX) (n : Int32) (w : Nat) (W : Mem) : Int32 := timesP (minP (mn 99999) tx (-1)) n.toNatClampNeg W (1 + w) 7
def inT (tx : TX) (n t : Int32) (w : Nat) (W : Mem) : Int := if 0 ≤ (eeT tx n w W).toInt ∧ (eeT tx n w W).toInt ≤ t.toInt then 1 else 0
theorem inT_rg {tx : TX} {n t : Int32} {w : Nat} (W : Mem) : 0 ≤ inT tx n t w W ∧ inT tx n t w W ≤ 1 := by
  unfold inT
  split <;> decide
