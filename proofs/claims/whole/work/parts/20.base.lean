/-! NUMBERS: sums of ints that don't wrap; memory reads behind writes. -/
theorem bm_id {x : Int} (h1 : -2147483648 ≤ x) (h2 : x < 2147483648) : x.bmod (2 ^ 32) = x := by
  rw [Int.bmod_eq_of_le] <;> omega
theorem ta {a b : Int32} (h1 : -2147483648 ≤ a.toInt + b.toInt) (h2 : a.toInt + b.toInt < 2147483648) : (a + b).toInt = a.toInt + b.toInt := by
  rw [Int32.toInt_add]; exact bm_id h1 h2
theorem ts {a b : Int32} (h1 : -2147483648 ≤ a.toInt - b.toInt) (h2 : a.toInt - b.toInt < 2147483648) : (a - b).toInt = a.toInt - b.toInt := by
  rw [Int32.toInt_sub]; exact bm_id h1 h2
theorem tm {a b : Int32} (h1 : -2147483648 ≤ a.toInt * b.toInt) (h2 : a.toInt * b.toInt < 2147483648) : (a * b).toInt = a.toInt * b.toInt := by
  rw [Int32.toInt_mul]; exact bm_id h1 h2
theorem tl (n : Nat) (h : n < 2147483648) : (OfNat.ofNat n : Int32).toInt = n := by
  show (Int32.ofNat n).toInt = n
  exact nI_toInt h
theorem nI_ix {i : Int32} (h : 0 ≤ i.toInt) : nI i.toNatClampNeg = i := by
  apply Int32.toInt_inj.mp
  have hb : i.toInt < 2147483648 := Int32.toInt_lt i
  have e : i.toNatClampNeg = i.toInt.toNat := rfl
  rw [nI_toInt (by omega), e]
  omega
theorem ix_nI {n : Nat} (h : n < 2147483648) : (nI n).toNatClampNeg = n := nI_clamp h
theorem ix_lt {i : Int32} {n : Nat} (h0 : 0 ≤ i.toInt) (h : i.toInt < n) : i.toNatClampNeg < n := by
  have e : i.toNatClampNeg = i.toInt.toNat := rfl
  omega
theorem ix_i {i : Int32} (h0 : 0 ≤ i.toInt) : (i.toNatClampNeg : Int) = i.toInt := by
  have e : i.toNatClampNeg = i.toInt.toNat := rfl
  omega
/-- an index into a row of equal pieces -/
theorem ar_its {w k : Int32} (hw : 0 ≤ w.toInt ∧ w.toInt < 4) (hk : 0 ≤ k.toInt ∧ k.toInt < 24) : (10 + 24 * w + k).toInt = 10 + 24 * w.toInt + k.toInt := by
  have e1 : (24 * w).toInt = 24 * w.toInt := by rw [tm] <;> simp only [tl 24 (by omega)] <;> omega
  have e2 : (10 + 24 * w).toInt = 10 + 24 * w.toInt := by rw [ta] <;> simp only [tl 10 (by omega), e1] <;> omega
  rw [ta] <;> rw [e2] <;> omega
theorem ar_of {r k : Int32} (hw : 0 ≤ r.toInt ∧ r.toInt < 8) (hk : 0 ≤ k.toInt ∧ k.toInt < 8) : (106 + 8 * r + k).toInt = 106 + 8 * r.toInt + k.toInt := by
  have e1 : (8 * r).toInt = 8 * r.toInt := by rw [tm] <;> simp only [tl 8 (by omega)] <;> omega
  have e2 : (106 + 8 * r).toInt = 106 + 8 * r.toInt := by rw [ta] <;> simp only [tl 106 (by omega), e1] <;> omega
  rw [ta] <;> rw [e2] <;> omega
theorem up_eq {μ : Mem} {o j : Nat} {v : Int32} : up μ o j v o j = v := if_pos ⟨rfl, rfl⟩
theorem up_o {μ : Mem} {o j a b : Nat} {v : Int32} (h : a ≠ o) : up μ o j v a b = μ a b := if_neg (fun q => h q.1)
theorem up_j {μ : Mem} {o j a b : Nat} {v : Int32} (h : b ≠ j) : up μ o j v a b = μ a b := if_neg (fun q => h q.2)
def heldP (v lo hi : Int32) : Int32 := if v.toInt < lo.toInt then lo else if hi.toInt < v.toInt then hi else v
theorem held_in {v lo hi : Int32} (h : lo.toInt ≤ hi.toInt) : lo.toInt ≤ (heldP v lo hi).toInt ∧ (heldP v lo hi).toInt ≤ hi.toInt := by
  unfold heldP
  split
  · omega
  · split <;> omega
theorem z_em {c : Prop} : (¬ c ∨ c) = True := by
  by_cases h : c <;> simp [h]
theorem pv_ite {c : Prop} [Decidable c] {x y : Int32} {μ : Mem} : (some (some (vI (if c then x else y)), μ) : Rs) = if c then some (some (vI x), μ) else some (some (vI y), μ) := by split <;> rfl
theorem z_dd {c : Prop} [Decidable c] {α : Type} {x y z : α} : (if c then x else if c then y else z) = if c then x else z := by
  by_cases h : c <;> simp [h]
