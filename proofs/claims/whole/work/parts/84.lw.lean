/-! ODDS: long numbers; lowest terms. -/
def nL (n : Nat) : Int64 := Int64.ofNat n
theorem nL_toInt {n : Nat} (h : n < 4611686018427387904) : (nL n).toInt = n := Int64.toInt_ofNat_of_lt (by omega)
theorem nLm {a b : Nat} (ha : a < 1073741824) (hb : b < 1073741824) : nL a * nL b = nL (a * b) := by
  have hab : a * b ≤ 1073741824 * 1073741824 := Nat.mul_le_mul (by omega) (by omega)
  have e : ((a * b : Nat) : Int) = (a : Int) * b := Int.natCast_mul a b
  apply Int64.toInt_inj.mp
  rw [Int64.toInt_mul, nL_toInt (by omega), nL_toInt (by omega), nL_toInt (by omega), Int.bmod_eq_of_le] <;> omega
theorem nLa {a b : Nat} (ha : a < 1073741824) (hb : b < 1073741824) : nL a + nL b = nL (a + b) := by
  apply Int64.toInt_inj.mp
  rw [Int64.toInt_add, nL_toInt (by omega), nL_toInt (by omega), nL_toInt (by omega), Int.bmod_eq_of_le] <;> omega
theorem nLd {a b : Nat} (ha : a < 1073741824) (hb : 0 < b ∧ b < 1073741824) : nL a / nL b = nL (a / b) := by
  have h2 : a / b ≤ a := Nat.div_le_self a b
  have e : ((a / b : Nat) : Int) = (a : Int) / b := Int.natCast_ediv a b
  have h3 : (0 : Int) ≤ (a : Int) / b := by rw [← e]; exact Int.natCast_nonneg _
  apply Int64.toInt_inj.mp
  rw [Int64.toInt_div, nL_toInt (by omega), nL_toInt (by omega), nL_toInt (by omega), Int.tdiv_eq_ediv_of_nonneg (by omega), ← e, Int.bmod_eq_of_le] <;> omega
theorem nLr {a b : Nat} (ha : a < 1073741824) (hb : 0 < b ∧ b < 1073741824) : nL a - nL a / nL b * nL b = nL (a % b) := by
  have h2 : a / b ≤ a := Nat.div_le_self a b
  have h3 : b * (a / b) + a % b = a := Nat.div_add_mod a b
  rw [nLd ha hb, nLm (by omega) hb.2]
  rw [Nat.mul_comm] at h3
  apply Int64.toInt_inj.mp
  rw [Int64.toInt_sub, nL_toInt (by omega), nL_toInt (by omega), nL_toInt (by omega), Int.bmod_eq_of_le] <;> omega
theorem nLz {a : Nat} (ha : a < 1073741824) : (nL a = 0) = (a = 0) := by
  rw [← Int64.toInt_inj, nL_toInt (by omega)]
  have z0 : (0 : Int64).toInt = 0 := rfl
  rw [z0]
  exact propext ⟨fun h => by omega, fun h => by omega⟩
theorem p5o : ∀ y : Nat, 5 ^ y % 2 = 1 := by
  intro y
  induction y with
  | zero => rfl
  | succ y ih => rw [Nat.pow_succ]; omega
theorem p2o : ∀ x : Nat, 2 ^ x % 5 ≠ 0 := by
  intro x
  induction x with
  | zero => decide
  | succ x ih => rw [Nat.pow_succ]; omega
def LWJ (A B c i j t b : Nat) : Prop := ∃ x y, b = 2 ^ x * 5 ^ y ∧ b ≤ B ∧ t * B = b * A ∧ t ≤ A ∧ (x + i ≤ c ∨ t % 2 = 1) ∧ (y + j ≤ c ∨ t % 5 ≠ 0)
theorem lw_2 {A B c i j t b : Nat} (h : LWJ A B c i j t b) (hi : i < c) : (t % 2 = 0 → b % 2 = 0 → LWJ A B c (i + 1) j (t / 2) (b / 2)) ∧ (¬ (t % 2 = 0 ∧ b % 2 = 0) → LWJ A B c (i + 1) j t b) := by
  obtain ⟨x, y, h1, h2, h3, h4, h5, h6⟩ := h
  constructor
  · intro q1 q2
    cases x with
    | zero =>
      have := p5o y
      rw [Nat.pow_zero, Nat.one_mul] at h1
      omega
    | succ x =>
      have e : 2 ^ (x + 1) * 5 ^ y = 2 ^ x * 5 ^ y * 2 := by rw [Nat.pow_succ, Nat.mul_right_comm]
      have eb : b / 2 = 2 ^ x * 5 ^ y := by omega
      have t2 : t = t / 2 * 2 := by omega
      have b2 : b = b / 2 * 2 := by omega
      refine ⟨x, y, eb, by omega, ?_, by omega, Or.inl (by omega), ?_⟩
      · rw [t2, b2, Nat.mul_right_comm, Nat.mul_right_comm (b / 2)] at h3
        exact Nat.eq_of_mul_eq_mul_right (by decide) h3
      · rcases h6 with z | z
        · exact Or.inl z
        · exact Or.inr (by omega)
  · intro q
    refine ⟨x, y, h1, h2, h3, h4, ?_, h6⟩
    by_cases q1 : t % 2 = 0
    · cases x with
      | zero => exact Or.inl (by omega)
      | succ x =>
        have e : 2 ^ (x + 1) * 5 ^ y = 2 ^ x * 5 ^ y * 2 := by rw [Nat.pow_succ, Nat.mul_right_comm]
        exact absurd ⟨q1, by omega⟩ q
    · exact Or.inr (by omega)
theorem lw_5 {A B c i j t b : Nat} (h : LWJ A B c i j t b) (hj : j < c) : (t % 5 = 0 → b % 5 = 0 → LWJ A B c i (j + 1) (t / 5) (b / 5)) ∧ (¬ (t % 5 = 0 ∧ b % 5 = 0) → LWJ A B c i (j + 1) t b) := by
  obtain ⟨x, y, h1, h2, h3, h4, h5, h6⟩ := h
  constructor
  · intro q1 q2
    cases y with
    | zero =>
      have := p2o x
      rw [Nat.pow_zero, Nat.mul_one] at h1
      rw [← h1] at this
      exact absurd q2 this
    | succ y =>
      have e : 2 ^ x * 5 ^ (y + 1) = 2 ^ x * 5 ^ y * 5 := by rw [Nat.pow_succ, Nat.mul_assoc]
      have eb : b / 5 = 2 ^ x * 5 ^ y := by omega
      have t2 : t = t / 5 * 5 := by omega
      have b2 : b = b / 5 * 5 := by omega
      refine ⟨x, y, eb, by omega, ?_, by omega, ?_, Or.inl (by omega)⟩
      · rw [t2, b2, Nat.mul_right_comm, Nat.mul_right_comm (b / 5)] at h3
        exact Nat.eq_of_mul_eq_mul_right (by decide) h3
      · rcases h5 with z | z
        · exact Or.inl z
        · exact Or.inr (by omega)
  · intro q
    refine ⟨x, y, h1, h2, h3, h4, h5, ?_⟩
    by_cases q1 : t % 5 = 0
    · cases y with
      | zero => exact Or.inl (by omega)
      | succ y =>
        have e : 2 ^ x * 5 ^ (y + 1) = 2 ^ x * 5 ^ y * 5 := by rw [Nat.pow_succ, Nat.mul_assoc]
        exact absurd ⟨q1, by omega⟩ q
    · exact Or.inr q1
/-- a fraction in lowest terms is the one that the greatest common divisor gives -/
theorem low_eq {p q A B : Nat} (hB : 0 < B) (hq : 0 < q) (h : p * B = q * A) (hc : Nat.Coprime p q) : p = A / Nat.gcd A B ∧ q = B / Nat.gcd A B := by
  have hg : 0 < Nat.gcd A B := Nat.gcd_pos_of_pos_right A hB
  have cp := Nat.coprime_div_gcd_div_gcd hg
  have hA := Nat.div_mul_cancel (Nat.gcd_dvd_left A B)
  have hBB := Nat.div_mul_cancel (Nat.gcd_dvd_right A B)
  generalize Nat.gcd A B = g at *
  generalize A / g = a at *
  generalize B / g = b at *
  have e : p * b = q * a := by
    rw [← hA, ← hBB, ← Nat.mul_assoc, ← Nat.mul_assoc] at h
    exact Nat.eq_of_mul_eq_mul_right hg h
  have d1 : b ∣ q := Nat.Coprime.dvd_of_dvd_mul_right cp.symm ⟨p, by rw [← e, Nat.mul_comm]⟩
  have d2 : q ∣ b := Nat.Coprime.dvd_of_dvd_mul_left hc.symm ⟨a, e⟩
  have eq : q = b := Nat.dvd_antisymm d2 d1
  refine ⟨?_, eq⟩
  rw [eq, Nat.mul_comm b] at e
  exact Nat.eq_of_mul_eq_mul_right (by omega) e
theorem lw_end {A B c t b : Nat} (h : LWJ A B c c c t b) (hB : 0 < B) : t = A / Nat.gcd A B ∧ b = B / Nat.gcd A B := by
  obtain ⟨x, y, h1, h2, h3, h4, h5, h6⟩ := h
  have hb : 0 < b := by
    rw [h1]
    exact Nat.mul_pos (Nat.pow_pos (by decide)) (Nat.pow_pos (by decide))
  have c2 : Nat.Coprime t (2 ^ x) := by
    rcases h5 with z | z
    · have : x = 0 := by omega
      rw [this]
      exact Nat.coprime_one_right t
    · refine Nat.Coprime.pow_right x ?_
      show Nat.gcd t 2 = 1
      rw [Nat.gcd_comm, Nat.gcd_rec, z]
      rfl
  have c5 : Nat.Coprime t (5 ^ y) := by
    rcases h6 with z | z
    · have : y = 0 := by omega
      rw [this]
      exact Nat.coprime_one_right t
    · refine Nat.Coprime.pow_right y ?_
      show Nat.gcd t 5 = 1
      rw [Nat.gcd_comm, Nat.gcd_rec]
      have : t % 5 = 1 ∨ t % 5 = 2 ∨ t % 5 = 3 ∨ t % 5 = 4 := by omega
      rcases this with z | z | z | z <;> rw [z] <;> rfl
  exact low_eq hB hb h3 (by rw [h1]; exact Nat.Coprime.mul_right c2 c5)
