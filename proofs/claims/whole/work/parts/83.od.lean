/-! ODDS: sums over which breaks come. -/
def sumN (f : Nat → Int) : Nat → Int
  | 0 => 0
  | n + 1 => sumN f n + f n
theorem sumN_cg {f g : Nat → Int} : ∀ n, (∀ i, i < n → f i = g i) → sumN f n = sumN g n := by
  intro n
  induction n with
  | zero => exact fun _ => rfl
  | succ n ih =>
    intro h
    unfold sumN
    rw [ih (fun i hi => h i (by omega)), h n (by omega)]
theorem sumN_add {f : Nat → Int} {a : Nat} : ∀ b, sumN f (a + b) = sumN f a + sumN (fun i => f (a + i)) b := by
  intro b
  induction b with
  | zero => exact (Int.add_zero _).symm
  | succ b ih =>
    show sumN f (a + b) + f (a + b) = sumN f a + (sumN (fun i => f (a + i)) b + f (a + b))
    rw [ih, Int.add_assoc]
theorem sumN_mul {f : Nat → Int} {k : Int} : ∀ n, sumN (fun i => k * f i) n = k * sumN f n := by
  intro n
  induction n with
  | zero => exact (Int.mul_zero _).symm
  | succ n ih =>
    show sumN (fun i => k * f i) n + k * f n = k * (sumN f n + f n)
    rw [ih, Int.mul_add]
theorem sumN_nn {f : Nat → Int} : ∀ n, (∀ i, i < n → 0 ≤ f i) → 0 ≤ sumN f n := by
  intro n
  induction n with
  | zero => exact fun _ => Int.le_refl _
  | succ n ih =>
    intro h
    have h1 := ih (fun i hi => h i (by omega))
    have h2 := h n (by omega)
    show 0 ≤ sumN f n + f n
    omega
theorem sumN_le {f : Nat → Int} {n i : Nat} (h : ∀ i, i < n → 0 ≤ f i) (hi : i ≤ n) : 0 ≤ sumN f i ∧ sumN f i ≤ sumN f n := by
  obtain ⟨b, rfl⟩ : ∃ b, n = i + b := ⟨n - i, by omega⟩
  have h1 := sumN_nn (f := f) i (fun j hj => h j (by omega))
  have h2 := sumN_nn (f := fun j => f (i + j)) b (fun j hj => h (i + j) (by omega))
  rw [sumN_add]
  omega
def nb (sel : Nat → Bool) : Nat → Nat
  | 0 => 0
  | n + 1 => if sel n then nb sel n + 1 else nb sel n
theorem nb_le {sel : Nat → Bool} : ∀ n, nb sel n ≤ n := by
  intro n
  induction n with
  | zero => exact Nat.le_refl _
  | succ n ih =>
    unfold nb
    split <;> omega
theorem nb_mono {sel : Nat → Bool} {m : Nat} : ∀ k, nb sel m ≤ nb sel (m + k) := by
  intro k
  induction k with
  | zero => exact Nat.le_refl _
  | succ k ih =>
    show _ ≤ if sel (m + k) then nb sel (m + k) + 1 else nb sel (m + k)
    split <;> omega
def eV (sel : Nat → Bool) (one : Bool) (V : Mem) (c : Nat) : Nat → Mem
  | 0 => V
  | n + 1 => if sel n then up (eV sel one V c n) (10 + n) 6 (if c.testBit (nb sel n) = one then 0 else 1) else eV sel one V c n
def eW (sel : Nat → Bool) (one : Bool) (tn : Nat → Int) (c : Nat) : Nat → Int
  | 0 => 1
  | n + 1 => if sel n then eW sel one tn c n * (if c.testBit (nb sel n) = one then tn n else 10 - tn n) else eW sel one tn c n
def tot (sel : Nat → Bool) (tn : Nat → Int) (V : Mem) : Nat → (Mem → Int) → Int
  | 0, E => E V
  | n + 1, E => if sel n then tn n * tot sel tn V n (fun W => E (up W (10 + n) 6 0)) + (10 - tn n) * tot sel tn V n (fun W => E (up W (10 + n) 6 1)) else tot sel tn V n E
theorem e_cg {sel : Nat → Bool} {one : Bool} {V : Mem} {tn : Nat → Int} {c c' : Nat} : ∀ n, (∀ k, k < nb sel n → c.testBit k = c'.testBit k) → eV sel one V c n = eV sel one V c' n ∧ eW sel one tn c n = eW sel one tn c' n := by
  intro n
  induction n with
  | zero => exact fun _ => ⟨rfl, rfl⟩
  | succ n ih =>
    intro h
    by_cases q : sel n = true
    · have e : nb sel (n + 1) = nb sel n + 1 := if_pos q
      rw [e] at h
      obtain ⟨i1, i2⟩ := ih (fun k hk => h k (by omega))
      unfold eV eW
      rw [if_pos q, if_pos q, if_pos q, if_pos q, i1, i2, h _ (Nat.lt_succ_self _)]
      exact ⟨rfl, rfl⟩
    · have e : nb sel (n + 1) = nb sel n := if_neg q
      rw [e] at h
      unfold eV eW
      rw [if_neg q, if_neg q, if_neg q, if_neg q]
      exact ih h
theorem eV_s {sel : Nat → Bool} {one : Bool} {V : Mem} {c n : Nat} : eV sel one V c (n + 1) = if sel n then up (eV sel one V c n) (10 + n) 6 (if c.testBit (nb sel n) = one then 0 else 1) else eV sel one V c n := rfl
theorem eW_s {sel : Nat → Bool} {one : Bool} {tn : Nat → Int} {c n : Nat} : eW sel one tn c (n + 1) = if sel n then eW sel one tn c n * (if c.testBit (nb sel n) = one then tn n else 10 - tn n) else eW sel one tn c n := rfl
/-- all choices one by one are the sum taken break by break -/
theorem en {sel : Nat → Bool} {one : Bool} {V : Mem} {tn : Nat → Int} : ∀ n (E : Mem → Int), sumN (fun c => eW sel one tn c n * E (eV sel one V c n)) (2 ^ nb sel n) = tot sel tn V n E := by
  intro n
  induction n with
  | zero =>
    intro E
    show 0 + 1 * E V = E V
    omega
  | succ n ih =>
    intro E
    by_cases q : sel n = true
    · have e : nb sel (n + 1) = nb sel n + 1 := if_pos q
      have e2 : (2 : Nat) ^ (nb sel n + 1) = 2 ^ nb sel n + 2 ^ nb sel n := by rw [Nat.pow_succ]; omega
      rw [e, e2, sumN_add]
      have eT : tot sel tn V (n + 1) E = tn n * tot sel tn V n (fun W => E (up W (10 + n) 6 0)) + (10 - tn n) * tot sel tn V n (fun W => E (up W (10 + n) 6 1)) := if_pos q
      rw [eT, ← ih, ← ih, ← sumN_mul, ← sumN_mul]
      have lo : ∀ i, i < 2 ^ nb sel n → eW sel one tn i (n + 1) * E (eV sel one V i (n + 1)) = if false = one then tn n * (eW sel one tn i n * E (up (eV sel one V i n) (10 + n) 6 0)) else (10 - tn n) * (eW sel one tn i n * E (up (eV sel one V i n) (10 + n) 6 1)) := fun i hi => by
        have b := Nat.testBit_lt_two_pow hi
        rw [eV_s, eW_s]
        rw [if_pos q, if_pos q, b]
        by_cases qo : false = one
        · rw [if_pos qo, if_pos qo, if_pos qo, Int.mul_comm (eW sel one tn i n) (tn n), Int.mul_assoc]
        · rw [if_neg qo, if_neg qo, if_neg qo, Int.mul_comm (eW sel one tn i n) (10 - tn n), Int.mul_assoc]
      have hi : ∀ i, i < 2 ^ nb sel n → eW sel one tn (2 ^ nb sel n + i) (n + 1) * E (eV sel one V (2 ^ nb sel n + i) (n + 1)) = if true = one then tn n * (eW sel one tn i n * E (up (eV sel one V i n) (10 + n) 6 0)) else (10 - tn n) * (eW sel one tn i n * E (up (eV sel one V i n) (10 + n) 6 1)) := fun i hi => by
        have b : (2 ^ nb sel n + i).testBit (nb sel n) = true := by rw [Nat.testBit_two_pow_add_eq, Nat.testBit_lt_two_pow hi]; rfl
        obtain ⟨c1, c2⟩ := e_cg (sel := sel) (one := one) (V := V) (tn := tn) (c := 2 ^ nb sel n + i) (c' := i) n (fun k hk => Nat.testBit_two_pow_add_gt hk i)
        rw [eV_s, eW_s]
        rw [if_pos q, if_pos q, b, c1, c2]
        by_cases qo : true = one
        · rw [if_pos qo, if_pos qo, if_pos qo, Int.mul_comm (eW sel one tn i n) (tn n), Int.mul_assoc]
        · rw [if_neg qo, if_neg qo, if_neg qo, Int.mul_comm (eW sel one tn i n) (10 - tn n), Int.mul_assoc]
      rw [sumN_cg _ lo, sumN_cg (f := fun i => eW sel one tn (2 ^ nb sel n + i) (n + 1) * E (eV sel one V (2 ^ nb sel n + i) (n + 1))) _ hi]
      cases one with
      | true => exact Int.add_comm _ _
      | false => rfl
    · have e : nb sel (n + 1) = nb sel n := if_neg q
      have eT : tot sel tn V (n + 1) E = tot sel tn V n E := if_neg q
      rw [e, eT, ← ih]
      refine sumN_cg _ fun i hi => ?_
      rw [eV_s, eW_s]
      rw [if_neg q, if_neg q]
theorem tot_cg {sel : Nat → Bool} {tn : Nat → Int} {V : Mem} {G : Mem → Prop} (hG : ∀ W n v, G W → n < 8 → sel n = true → (v = 0 ∨ v = 1) → G (up W (10 + n) 6 v)) (hV : G V) : ∀ n (E E' : Mem → Int), n ≤ 8 → (∀ W, G W → E W = E' W) → tot sel tn V n E = tot sel tn V n E' := by
  intro n
  induction n with
  | zero => exact fun E E' _ h => h V hV
  | succ n ih =>
    intro E E' hn h
    unfold tot
    by_cases q : sel n = true
    · rw [if_pos q, if_pos q, ih _ (fun W => E' (up W (10 + n) 6 0)) (by omega) (fun W hW => h _ (hG W n 0 hW (by omega) q (Or.inl rfl))), ih (fun W => E (up W (10 + n) 6 1)) (fun W => E' (up W (10 + n) 6 1)) (by omega) (fun W hW => h _ (hG W n 1 hW (by omega) q (Or.inr rfl)))]
    · rw [if_neg q, if_neg q]
      exact ih E E' (by omega) h
theorem up_cm {V : Mem} {o k o' k' : Nat} {x y : Int32} (h : ¬ o = o') : up (up V o k x) o' k' y = up (up V o' k' y) o k x := by
  funext a c
  unfold up
  by_cases q1 : a = o ∧ c = k
  · rw [if_pos q1, if_pos q1, if_neg (fun z => h (q1.1.symm.trans z.1))]
  · rw [if_neg q1, if_neg q1]
/-- what does not hang on the breaks of others has their weights times ten -/
theorem tot_oth {all own : Nat → Bool} {tn : Nat → Int} {V : Mem} {G : Mem → Prop} (hs : ∀ r, own r = true → all r = true) (hG : ∀ W n v, G W → n < 8 → all n = true → (v = 0 ∨ v = 1) → G (up W (10 + n) 6 v)) (hV : G V) : ∀ n (E : Mem → Int), n ≤ 8 → (∀ W r v, G W → r < 8 → all r = true → own r = false → (v = 0 ∨ v = 1) → E (up W (10 + r) 6 v) = E W) → tot all tn V n E = 10 ^ (nb all n - nb own n) * tot own tn V n E ∧ nb own n ≤ nb all n := by
  intro n
  induction n with
  | zero =>
    intro E _ _
    refine ⟨?_, Nat.le_refl _⟩
    show E V = 1 * E V
    omega
  | succ n ih =>
    intro E hn h
    by_cases q : own n = true
    · have qa := hs n q
      have ins : ∀ v', (v' = 0 ∨ v' = 1) → ∀ W r v, G W → r < 8 → all r = true → own r = false → (v = 0 ∨ v = 1) → (fun W => E (up W (10 + n) 6 v')) (up W (10 + r) 6 v) = (fun W => E (up W (10 + n) 6 v')) W := fun v' hv' W r v hW hr ha ho hv => by
        have ne : ¬ 10 + r = 10 + n := fun z => by
          have : r = n := by omega
          rw [this, q] at ho
          exact absurd ho (by decide)
        show E (up (up W (10 + r) 6 v) (10 + n) 6 v') = E (up W (10 + n) 6 v')
        rw [up_cm ne]
        exact h _ r v (hG W n v' hW (by omega) qa hv') hr ha ho hv
      obtain ⟨i1, i2⟩ := ih (fun W => E (up W (10 + n) 6 0)) (by omega) (ins 0 (Or.inl rfl))
      obtain ⟨j1, -⟩ := ih (fun W => E (up W (10 + n) 6 1)) (by omega) (ins 1 (Or.inr rfl))
      have e1 : nb own (n + 1) = nb own n + 1 := if_pos q
      have e2 : nb all (n + 1) = nb all n + 1 := if_pos qa
      refine ⟨?_, by omega⟩
      have e3 : nb all (n + 1) - nb own (n + 1) = nb all n - nb own n := by omega
      unfold tot
      rw [if_pos q, if_pos qa, e3, i1, j1, Int.mul_add, Int.mul_left_comm, Int.mul_left_comm (10 ^ (nb all n - nb own n)) (10 - tn n)]
    · have e1 : nb own (n + 1) = nb own n := if_neg q
      have eo : tot own tn V (n + 1) E = tot own tn V n E := if_neg q
      obtain ⟨i1, i2⟩ := ih E (by omega) h
      by_cases qa : all n = true
      · have e2 : nb all (n + 1) = nb all n + 1 := if_pos qa
        refine ⟨?_, by omega⟩
        have e3 : nb all (n + 1) - nb own (n + 1) = (nb all n - nb own n) + 1 := by omega
        have ho : own n = false := by
          cases z : own n with
          | true => exact absurd z q
          | false => rfl
        have c0 := tot_cg (tn := tn) hG hV n (fun W => E (up W (10 + n) 6 0)) E (by omega) (fun W hW => h W n 0 hW (by omega) qa ho (Or.inl rfl))
        have c1 := tot_cg (tn := tn) hG hV n (fun W => E (up W (10 + n) 6 1)) E (by omega) (fun W hW => h W n 1 hW (by omega) qa ho (Or.inr rfl))
        have eT : tot all tn V (n + 1) E = tn n * tot all tn V n (fun W => E (up W (10 + n) 6 0)) + (10 - tn n) * tot all tn V n (fun W => E (up W (10 + n) 6 1)) := if_pos qa
        rw [eT, c0, c1, eo, e3, ← Int.add_mul, show tn n + (10 - tn n) = 10 by omega, i1, Int.pow_succ, Int.mul_comm (10 ^ (nb all n - nb own n)) 10, Int.mul_assoc]
      · have e2 : nb all (n + 1) = nb all n := if_neg qa
        have eT : tot all tn V (n + 1) E = tot all tn V n E := if_neg qa
        refine ⟨?_, by omega⟩
        rw [eT, eo, e1, e2]
        exact i1
theorem tot_rg {sel : Nat → Bool} {tn : Nat → Int} {V : Mem} : ∀ n (E : Mem → Int), (∀ r, r < n → 0 ≤ tn r ∧ tn r ≤ 10) → (∀ W, 0 ≤ E W ∧ E W ≤ 1) → 0 ≤ tot sel tn V n E ∧ tot sel tn V n E ≤ 10 ^ nb sel n := by
  intro n
  induction n with
  | zero => exact fun E _ h => h V
  | succ n ih =>
    intro E ht h
    by_cases q : sel n = true
    · have e1 : nb sel (n + 1) = nb sel n + 1 := if_pos q
      have eT : tot sel tn V (n + 1) E = tn n * tot sel tn V n (fun W => E (up W (10 + n) 6 0)) + (10 - tn n) * tot sel tn V n (fun W => E (up W (10 + n) 6 1)) := if_pos q
      obtain ⟨a1, a2⟩ := ih (fun W => E (up W (10 + n) 6 0)) (fun r hr => ht r (by omega)) (fun W => h _)
      obtain ⟨b1, b2⟩ := ih (fun W => E (up W (10 + n) 6 1)) (fun r hr => ht r (by omega)) (fun W => h _)
      obtain ⟨t1, t2⟩ := ht n (by omega)
      rw [eT, e1, Int.pow_succ]
      generalize tot sel tn V n (fun W => E (up W (10 + n) 6 0)) = x at *
      generalize tot sel tn V n (fun W => E (up W (10 + n) 6 1)) = y at *
      generalize (10 : Int) ^ nb sel n = z at *
      have p1 : 0 ≤ tn n * x := Int.mul_nonneg t1 a1
      have p2 : 0 ≤ (10 - tn n) * y := Int.mul_nonneg (by omega) b1
      have p3 : tn n * x ≤ tn n * z := Int.mul_le_mul_of_nonneg_left a2 t1
      have p4 : (10 - tn n) * y ≤ (10 - tn n) * z := Int.mul_le_mul_of_nonneg_left b2 (by omega)
      have p5 : tn n * z + (10 - tn n) * z = z * 10 := by rw [← Int.add_mul, show tn n + (10 - tn n) = 10 by omega, Int.mul_comm]
      omega
    · have e1 : nb sel (n + 1) = nb sel n := if_neg q
      have eT : tot sel tn V (n + 1) E = tot sel tn V n E := if_neg q
      rw [eT, e1]
      exact ih E (fun r hr => ht r (by omega)) h
theorem eW_rg {sel : Nat → Bool} {one : Bool} {tn : Nat → Int} {c : Nat} : ∀ n, (∀ r, r < n → 0 ≤ tn r ∧ tn r ≤ 10) → 0 ≤ eW sel one tn c n ∧ eW sel one tn c n ≤ 10 ^ nb sel n := by
  intro n
  induction n with
  | zero => exact fun _ => ⟨(by show (0 : Int) ≤ 1; decide), (by show (1 : Int) ≤ 10 ^ 0; decide)⟩
  | succ n ih =>
    intro ht
    obtain ⟨a1, a2⟩ := ih (fun r hr => ht r (by omega))
    by_cases q : sel n = true
    · have e1 : nb sel (n + 1) = nb sel n + 1 := if_pos q
      have eT : eW sel one tn c (n + 1) = eW sel one tn c n * (if c.testBit (nb sel n) = one then tn n else 10 - tn n) := if_pos q
      obtain ⟨t1, t2⟩ := ht n (by omega)
      have hx : 0 ≤ (if c.testBit (nb sel n) = one then tn n else 10 - tn n) ∧ (if c.testBit (nb sel n) = one then tn n else 10 - tn n) ≤ 10 := by split <;> omega
      rw [eT, e1, Int.pow_succ]
      exact ⟨Int.mul_nonneg a1 hx.1, Int.mul_le_mul a2 hx.2 hx.1 (by omega)⟩
    · have e1 : nb sel (n + 1) = nb sel n := if_neg q
      have eT : eW sel one tn c (n + 1) = eW sel one tn c n := if_neg q
      rw [eT, e1]
      exact ⟨a1, a2⟩
