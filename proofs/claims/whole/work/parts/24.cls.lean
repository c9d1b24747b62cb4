/-! THE CLASS'S WORLD AS A VIEW. -/
abbrev inC (o k : Nat) : Prop := (o = 0 ∧ k < 9) ∨ (1 ≤ o ∧ o < 5 ∧ k < 24) ∨ (10 ≤ o ∧ o < 18 ∧ k < 8) ∨ (o = 20 ∧ k < 60) ∨ (o = 21 ∧ k < 24)
def cO (b o k : Nat) : Nat := if o = 0 then b else if o < 5 then (if k < 8 then b + 6 + 3 * (o - 1) else b + 7 + 3 * (o - 1) + k % 2) else if o < 18 then b + 18 + (o - 10) else b + o - 16
def cKs (k : Nat) : Nat := if k < 2 then k + 5 else if k = 2 then 9 else if k < 5 then k + 8 else if k = 5 then 10 else if k < 8 then k + 1 else 13
def cK (o k : Nat) : Nat := if o = 0 then cKs k else if o < 5 then (if k < 8 then k + 2 else (k - 8) / 2) else if o < 18 then (if k < 4 then k else if k < 7 then k + 1 else 4) else k
def vC (b : Nat) (μ : Mem) : Mem := fun o k => if inC o k then μ (cO b o k) (cK o k) else 0
theorem c_inj {b a c o k : Nat} (h1 : inC a c) (h2 : inC o k) (h3 : cO b a c = cO b o k) (h4 : cK a c = cK o k) : a = o ∧ c = k := by
  unfold inC at h1 h2
  unfold cO at h3
  unfold cK cKs at h4
  rcases h1 with h1 | h1 | h1 | h1 | h1 <;> rcases h2 with h2 | h2 | h2 | h2 | h2 <;> (repeat' split at h3) <;> (try omega) <;> (repeat' split at h4) <;> omega
theorem c_ge {b o k : Nat} (h : inC o k) : b ≤ cO b o k ∧ cO b o k < b + 26 := by
  unfold inC at h
  unfold cO
  split
  · omega
  · split
    · split <;> omega
    · split <;> omega
theorem vC_congr {b : Nat} {μ μ' : Mem} (h : ∀ o, b ≤ o → o < b + 26 → μ' o = μ o) : vC b μ' = vC b μ := by
  funext o k
  unfold vC
  by_cases hi : inC o k
  · rw [if_pos hi, if_pos hi, h _ (c_ge hi).1 (c_ge hi).2]
  · rw [if_neg hi, if_neg hi]
theorem vC_rd {b O K o k : Nat} {μ : Mem} (hi : inC o k) (hO : cO b o k = O) (hK : cK o k = K) : μ O K = vC b μ o k := by
  unfold vC
  rw [if_pos hi, hO, hK]
theorem vC_up {b O K o k : Nat} {μ : Mem} {v : Int32} (hi : inC o k) (hO : cO b o k = O) (hK : cK o k = K) : vC b (up μ O K v) = up (vC b μ) o k v := by
  funext a c
  unfold vC
  by_cases h : a = o ∧ c = k
  · obtain ⟨rfl, rfl⟩ := h
    rw [if_pos hi, hO, hK, up_eq, up_eq]
  · by_cases hac : inC a c
    · have h2 : ¬ (cO b a c = O ∧ cK a c = K) := fun q => h (c_inj hac hi (q.1.trans hO.symm) (q.2.trans hK.symm))
      simp only [up, if_neg h2, if_neg h, if_pos hac]
    · simp only [up, if_neg h, if_neg hac]
theorem vC_un {b O K : Nat} {μ : Mem} {v : Int32} (h : O < b ∨ b + 26 ≤ O) : vC b (up μ O K v) = vC b μ := vC_congr fun o h1 h2 => by
  funext k
  exact up_o (by omega)
theorem cs0 {b : Nat} {μ : Mem} : μ b 5 = vC b μ 0 0 := vC_rd (by decide) rfl rfl
theorem us0 {b : Nat} {μ : Mem} {v : Int32} : vC b (up μ b 5 v) = up (vC b μ) 0 0 v := vC_up (by decide) rfl rfl
theorem cs1 {b : Nat} {μ : Mem} : μ b 6 = vC b μ 0 1 := vC_rd (by decide) rfl rfl
theorem us1 {b : Nat} {μ : Mem} {v : Int32} : vC b (up μ b 6 v) = up (vC b μ) 0 1 v := vC_up (by decide) rfl rfl
theorem cs2 {b : Nat} {μ : Mem} : μ b 9 = vC b μ 0 2 := vC_rd (by decide) rfl rfl
theorem us2 {b : Nat} {μ : Mem} {v : Int32} : vC b (up μ b 9 v) = up (vC b μ) 0 2 v := vC_up (by decide) rfl rfl
theorem cs3 {b : Nat} {μ : Mem} : μ b 11 = vC b μ 0 3 := vC_rd (by decide) rfl rfl
theorem us3 {b : Nat} {μ : Mem} {v : Int32} : vC b (up μ b 11 v) = up (vC b μ) 0 3 v := vC_up (by decide) rfl rfl
theorem cs4 {b : Nat} {μ : Mem} : μ b 12 = vC b μ 0 4 := vC_rd (by decide) rfl rfl
theorem us4 {b : Nat} {μ : Mem} {v : Int32} : vC b (up μ b 12 v) = up (vC b μ) 0 4 v := vC_up (by decide) rfl rfl
theorem cs5 {b : Nat} {μ : Mem} : μ b 10 = vC b μ 0 5 := vC_rd (by decide) rfl rfl
theorem us5 {b : Nat} {μ : Mem} {v : Int32} : vC b (up μ b 10 v) = up (vC b μ) 0 5 v := vC_up (by decide) rfl rfl
theorem cs6 {b : Nat} {μ : Mem} : μ b 7 = vC b μ 0 6 := vC_rd (by decide) rfl rfl
theorem us6 {b : Nat} {μ : Mem} {v : Int32} : vC b (up μ b 7 v) = up (vC b μ) 0 6 v := vC_up (by decide) rfl rfl
theorem cs7 {b : Nat} {μ : Mem} : μ b 8 = vC b μ 0 7 := vC_rd (by decide) rfl rfl
theorem us7 {b : Nat} {μ : Mem} {v : Int32} : vC b (up μ b 8 v) = up (vC b μ) 0 7 v := vC_up (by decide) rfl rfl
theorem cs8 {b : Nat} {μ : Mem} : μ b 13 = vC b μ 0 8 := vC_rd (by decide) rfl rfl
theorem us8 {b : Nat} {μ : Mem} {v : Int32} : vC b (up μ b 13 v) = up (vC b μ) 0 8 v := vC_up (by decide) rfl rfl
theorem cw0 {b w : Nat} {μ : Mem} (h : w < 4) : μ (b + 6 + 3 * w) 2 = vC b μ (1 + w) 0 := vC_rd (by unfold inC; omega) (by unfold cO; rw [if_neg (by omega), if_pos (by omega), if_pos (by omega)]; omega) (by unfold cK; rw [if_neg (by omega), if_pos (by omega), if_pos (by omega)])
theorem uw0 {b w : Nat} {μ : Mem} {v : Int32} (h : w < 4) : vC b (up μ (b + 6 + 3 * w) 2 v) = up (vC b μ) (1 + w) 0 v := vC_up (by unfold inC; omega) (by unfold cO; rw [if_neg (by omega), if_pos (by omega), if_pos (by omega)]; omega) (by unfold cK; rw [if_neg (by omega), if_pos (by omega), if_pos (by omega)])
theorem cw1 {b w : Nat} {μ : Mem} (h : w < 4) : μ (b + 6 + 3 * w) 3 = vC b μ (1 + w) 1 := vC_rd (by unfold inC; omega) (by unfold cO; rw [if_neg (by omega), if_pos (by omega), if_pos (by omega)]; omega) (by unfold cK; rw [if_neg (by omega), if_pos (by omega), if_pos (by omega)])
theorem uw1 {b w : Nat} {μ : Mem} {v : Int32} (h : w < 4) : vC b (up μ (b + 6 + 3 * w) 3 v) = up (vC b μ) (1 + w) 1 v := vC_up (by unfold inC; omega) (by unfold cO; rw [if_neg (by omega), if_pos (by omega), if_pos (by omega)]; omega) (by unfold cK; rw [if_neg (by omega), if_pos (by omega), if_pos (by omega)])
theorem cw2 {b w : Nat} {μ : Mem} (h : w < 4) : μ (b + 6 + 3 * w) 4 = vC b μ (1 + w) 2 := vC_rd (by unfold inC; omega) (by unfold cO; rw [if_neg (by omega), if_pos (by omega), if_pos (by omega)]; omega) (by unfold cK; rw [if_neg (by omega), if_pos (by omega), if_pos (by omega)])
theorem uw2 {b w : Nat} {μ : Mem} {v : Int32} (h : w < 4) : vC b (up μ (b + 6 + 3 * w) 4 v) = up (vC b μ) (1 + w) 2 v := vC_up (by unfold inC; omega) (by unfold cO; rw [if_neg (by omega), if_pos (by omega), if_pos (by omega)]; omega) (by unfold cK; rw [if_neg (by omega), if_pos (by omega), if_pos (by omega)])
theorem cw3 {b w : Nat} {μ : Mem} (h : w < 4) : μ (b + 6 + 3 * w) 5 = vC b μ (1 + w) 3 := vC_rd (by unfold inC; omega) (by unfold cO; rw [if_neg (by omega), if_pos (by omega), if_pos (by omega)]; omega) (by unfold cK; rw [if_neg (by omega), if_pos (by omega), if_pos (by omega)])
theorem uw3 {b w : Nat} {μ : Mem} {v : Int32} (h : w < 4) : vC b (up μ (b + 6 + 3 * w) 5 v) = up (vC b μ) (1 + w) 3 v := vC_up (by unfold inC; omega) (by unfold cO; rw [if_neg (by omega), if_pos (by omega), if_pos (by omega)]; omega) (by unfold cK; rw [if_neg (by omega), if_pos (by omega), if_pos (by omega)])
theorem cw4 {b w : Nat} {μ : Mem} (h : w < 4) : μ (b + 6 + 3 * w) 6 = vC b μ (1 + w) 4 := vC_rd (by unfold inC; omega) (by unfold cO; rw [if_neg (by omega), if_pos (by omega), if_pos (by omega)]; omega) (by unfold cK; rw [if_neg (by omega), if_pos (by omega), if_pos (by omega)])
theorem uw4 {b w : Nat} {μ : Mem} {v : Int32} (h : w < 4) : vC b (up μ (b + 6 + 3 * w) 6 v) = up (vC b μ) (1 + w) 4 v := vC_up (by unfold inC; omega) (by unfold cO; rw [if_neg (by omega), if_pos (by omega), if_pos (by omega)]; omega) (by unfold cK; rw [if_neg (by omega), if_pos (by omega), if_pos (by omega)])
theorem cw5 {b w : Nat} {μ : Mem} (h : w < 4) : μ (b + 6 + 3 * w) 7 = vC b μ (1 + w) 5 := vC_rd (by unfold inC; omega) (by unfold cO; rw [if_neg (by omega), if_pos (by omega), if_pos (by omega)]; omega) (by unfold cK; rw [if_neg (by omega), if_pos (by omega), if_pos (by omega)])
theorem uw5 {b w : Nat} {μ : Mem} {v : Int32} (h : w < 4) : vC b (up μ (b + 6 + 3 * w) 7 v) = up (vC b μ) (1 + w) 5 v := vC_up (by unfold inC; omega) (by unfold cO; rw [if_neg (by omega), if_pos (by omega), if_pos (by omega)]; omega) (by unfold cK; rw [if_neg (by omega), if_pos (by omega), if_pos (by omega)])
theorem cw6 {b w : Nat} {μ : Mem} (h : w < 4) : μ (b + 6 + 3 * w) 8 = vC b μ (1 + w) 6 := vC_rd (by unfold inC; omega) (by unfold cO; rw [if_neg (by omega), if_pos (by omega), if_pos (by omega)]; omega) (by unfold cK; rw [if_neg (by omega), if_pos (by omega), if_pos (by omega)])
theorem uw6 {b w : Nat} {μ : Mem} {v : Int32} (h : w < 4) : vC b (up μ (b + 6 + 3 * w) 8 v) = up (vC b μ) (1 + w) 6 v := vC_up (by unfold inC; omega) (by unfold cO; rw [if_neg (by omega), if_pos (by omega), if_pos (by omega)]; omega) (by unfold cK; rw [if_neg (by omega), if_pos (by omega), if_pos (by omega)])
theorem cw7 {b w : Nat} {μ : Mem} (h : w < 4) : μ (b + 6 + 3 * w) 9 = vC b μ (1 + w) 7 := vC_rd (by unfold inC; omega) (by unfold cO; rw [if_neg (by omega), if_pos (by omega), if_pos (by omega)]; omega) (by unfold cK; rw [if_neg (by omega), if_pos (by omega), if_pos (by omega)])
theorem uw7 {b w : Nat} {μ : Mem} {v : Int32} (h : w < 4) : vC b (up μ (b + 6 + 3 * w) 9 v) = up (vC b μ) (1 + w) 7 v := vC_up (by unfold inC; omega) (by unfold cO; rw [if_neg (by omega), if_pos (by omega), if_pos (by omega)]; omega) (by unfold cK; rw [if_neg (by omega), if_pos (by omega), if_pos (by omega)])
theorem cr0 {b r : Nat} {μ : Mem} (h : r < 8) : μ (b + 18 + r) 0 = vC b μ (10 + r) 0 := vC_rd (by unfold inC; omega) (by unfold cO; rw [if_neg (by omega), if_neg (by omega), if_pos (by omega)]; omega) (by unfold cK; rw [if_neg (by omega), if_neg (by omega), if_pos (by omega)]; rfl)
theorem ur0 {b r : Nat} {μ : Mem} {v : Int32} (h : r < 8) : vC b (up μ (b + 18 + r) 0 v) = up (vC b μ) (10 + r) 0 v := vC_up (by unfold inC; omega) (by unfold cO; rw [if_neg (by omega), if_neg (by omega), if_pos (by omega)]; omega) (by unfold cK; rw [if_neg (by omega), if_neg (by omega), if_pos (by omega)]; rfl)
theorem cr1 {b r : Nat} {μ : Mem} (h : r < 8) : μ (b + 18 + r) 1 = vC b μ (10 + r) 1 := vC_rd (by unfold inC; omega) (by unfold cO; rw [if_neg (by omega), if_neg (by omega), if_pos (by omega)]; omega) (by unfold cK; rw [if_neg (by omega), if_neg (by omega), if_pos (by omega)]; rfl)
theorem ur1 {b r : Nat} {μ : Mem} {v : Int32} (h : r < 8) : vC b (up μ (b + 18 + r) 1 v) = up (vC b μ) (10 + r) 1 v := vC_up (by unfold inC; omega) (by unfold cO; rw [if_neg (by omega), if_neg (by omega), if_pos (by omega)]; omega) (by unfold cK; rw [if_neg (by omega), if_neg (by omega), if_pos (by omega)]; rfl)
theorem cr2 {b r : Nat} {μ : Mem} (h : r < 8) : μ (b + 18 + r) 2 = vC b μ (10 + r) 2 := vC_rd (by unfold inC; omega) (by unfold cO; rw [if_neg (by omega), if_neg (by omega), if_pos (by omega)]; omega) (by unfold cK; rw [if_neg (by omega), if_neg (by omega), if_pos (by omega)]; rfl)
theorem ur2 {b r : Nat} {μ : Mem} {v : Int32} (h : r < 8) : vC b (up μ (b + 18 + r) 2 v) = up (vC b μ) (10 + r) 2 v := vC_up (by unfold inC; omega) (by unfold cO; rw [if_neg (by omega), if_neg (by omega), if_pos (by omega)]; omega) (by unfold cK; rw [if_neg (by omega), if_neg (by omega), if_pos (by omega)]; rfl)
theorem cr3 {b r : Nat} {μ : Mem} (h : r < 8) : μ (b + 18 + r) 3 = vC b μ (10 + r) 3 := vC_rd (by unfold inC; omega) (by unfold cO; rw [if_neg (by omega), if_neg (by omega), if_pos (by omega)]; omega) (by unfold cK; rw [if_neg (by omega), if_neg (by omega), if_pos (by omega)]; rfl)
theorem ur3 {b r : Nat} {μ : Mem} {v : Int32} (h : r < 8) : vC b (up μ (b + 18 + r) 3 v) = up (vC b μ) (10 + r) 3 v := vC_up (by unfold inC; omega) (by unfold cO; rw [if_neg (by omega), if_neg (by omega), if_pos (by omega)]; omega) (by unfold cK; rw [if_neg (by omega), if_neg (by omega), if_pos (by omega)]; rfl)
theorem cr4 {b r : Nat} {μ : Mem} (h : r < 8) : μ (b + 18 + r) 5 = vC b μ (10 + r) 4 := vC_rd (by unfold inC; omega) (by unfold cO; rw [if_neg (by omega), if_neg (by omega), if_pos (by omega)]; omega) (by unfold cK; rw [if_neg (by omega), if_neg (by omega), if_pos (by omega)]; rfl)
theorem ur4 {b r : Nat} {μ : Mem} {v : Int32} (h : r < 8) : vC b (up μ (b + 18 + r) 5 v) = up (vC b μ) (10 + r) 4 v := vC_up (by unfold inC; omega) (by unfold cO; rw [if_neg (by omega), if_neg (by omega), if_pos (by omega)]; omega) (by unfold cK; rw [if_neg (by omega), if_neg (by omega), if_pos (by omega)]; rfl)
theorem cr5 {b r : Nat} {μ : Mem} (h : r < 8) : μ (b + 18 + r) 6 = vC b μ (10 + r) 5 := vC_rd (by unfold inC; omega) (by unfold cO; rw [if_neg (by omega), if_neg (by omega), if_pos (by omega)]; omega) (by unfold cK; rw [if_neg (by omega), if_neg (by omega), if_pos (by omega)]; rfl)
theorem ur5 {b r : Nat} {μ : Mem} {v : Int32} (h : r < 8) : vC b (up μ (b + 18 + r) 6 v) = up (vC b μ) (10 + r) 5 v := vC_up (by unfold inC; omega) (by unfold cO; rw [if_neg (by omega), if_neg (by omega), if_pos (by omega)]; omega) (by unfold cK; rw [if_neg (by omega), if_neg (by omega), if_pos (by omega)]; rfl)
theorem cr6 {b r : Nat} {μ : Mem} (h : r < 8) : μ (b + 18 + r) 7 = vC b μ (10 + r) 6 := vC_rd (by unfold inC; omega) (by unfold cO; rw [if_neg (by omega), if_neg (by omega), if_pos (by omega)]; omega) (by unfold cK; rw [if_neg (by omega), if_neg (by omega), if_pos (by omega)]; rfl)
theorem ur6 {b r : Nat} {μ : Mem} {v : Int32} (h : r < 8) : vC b (up μ (b + 18 + r) 7 v) = up (vC b μ) (10 + r) 6 v := vC_up (by unfold inC; omega) (by unfold cO; rw [if_neg (by omega), if_neg (by omega), if_pos (by omega)]; omega) (by unfold cK; rw [if_neg (by omega), if_neg (by omega), if_pos (by omega)]; rfl)
theorem cr7 {b r : Nat} {μ : Mem} (h : r < 8) : μ (b + 18 + r) 4 = vC b μ (10 + r) 7 := vC_rd (by unfold inC; omega) (by unfold cO; rw [if_neg (by omega), if_neg (by omega), if_pos (by omega)]; omega) (by unfold cK; rw [if_neg (by omega), if_neg (by omega), if_pos (by omega)]; rfl)
theorem ur7 {b r : Nat} {μ : Mem} {v : Int32} (h : r < 8) : vC b (up μ (b + 18 + r) 4 v) = up (vC b μ) (10 + r) 7 v := vC_up (by unfold inC; omega) (by unfold cO; rw [if_neg (by omega), if_neg (by omega), if_pos (by omega)]; omega) (by unfold cK; rw [if_neg (by omega), if_neg (by omega), if_pos (by omega)]; rfl)
theorem cwl {b w i : Nat} {μ : Mem} (h : w < 4) (hi : i < 8) : μ (b + 7 + 3 * w) i = vC b μ (1 + w) (8 + 2 * i) := vC_rd (by unfold inC; omega) (by unfold cO; rw [if_neg (by omega), if_pos (by omega), if_neg (by omega)]; omega) (by unfold cK; rw [if_neg (by omega), if_pos (by omega), if_neg (by omega)]; omega)
theorem uwl {b w i : Nat} {μ : Mem} {v : Int32} (h : w < 4) (hi : i < 8) : vC b (up μ (b + 7 + 3 * w) i v) = up (vC b μ) (1 + w) (8 + 2 * i) v := vC_up (by unfold inC; omega) (by unfold cO; rw [if_neg (by omega), if_pos (by omega), if_neg (by omega)]; omega) (by unfold cK; rw [if_neg (by omega), if_pos (by omega), if_neg (by omega)]; omega)
theorem cwh {b w i : Nat} {μ : Mem} (h : w < 4) (hi : i < 8) : μ (b + 8 + 3 * w) i = vC b μ (1 + w) (9 + 2 * i) := vC_rd (by unfold inC; omega) (by unfold cO; rw [if_neg (by omega), if_pos (by omega), if_neg (by omega)]; omega) (by unfold cK; rw [if_neg (by omega), if_pos (by omega), if_neg (by omega)]; omega)
theorem uwh {b w i : Nat} {μ : Mem} {v : Int32} (h : w < 4) (hi : i < 8) : vC b (up μ (b + 8 + 3 * w) i v) = up (vC b μ) (1 + w) (9 + 2 * i) v := vC_up (by unfold inC; omega) (by unfold cO; rw [if_neg (by omega), if_pos (by omega), if_neg (by omega)]; omega) (by unfold cK; rw [if_neg (by omega), if_pos (by omega), if_neg (by omega)]; omega)
theorem ct {b i : Nat} {μ : Mem} (h : i < 60) : μ (b + 4) i = vC b μ 20 i := vC_rd (by unfold inC; omega) (by unfold cO; rw [if_neg (by omega), if_neg (by omega), if_neg (by omega)]; omega) (by unfold cK; rw [if_neg (by omega), if_neg (by omega), if_neg (by omega)])
theorem ut {b i : Nat} {μ : Mem} {v : Int32} (h : i < 60) : vC b (up μ (b + 4) i v) = up (vC b μ) 20 i v := vC_up (by unfold inC; omega) (by unfold cO; rw [if_neg (by omega), if_neg (by omega), if_neg (by omega)]; omega) (by unfold cK; rw [if_neg (by omega), if_neg (by omega), if_neg (by omega)])
theorem cq {b i : Nat} {μ : Mem} (h : i < 24) : μ (b + 5) i = vC b μ 21 i := vC_rd (by unfold inC; omega) (by unfold cO; rw [if_neg (by omega), if_neg (by omega), if_neg (by omega)]; omega) (by unfold cK; rw [if_neg (by omega), if_neg (by omega), if_neg (by omega)])
theorem uq {b i : Nat} {μ : Mem} {v : Int32} (h : i < 24) : vC b (up μ (b + 5) i v) = up (vC b μ) 21 i v := vC_up (by unfold inC; omega) (by unfold cO; rw [if_neg (by omega), if_neg (by omega), if_neg (by omega)]; omega) (by unfold cK; rw [if_neg (by omega), if_neg (by omega), if_neg (by omega)])
def txC (b : Nat) (μ : Mem) : TX := fun u a1 a2 a3 a4 => if μ (b + 26 + 3 * u) 3 = 0 then none else some (evP a1 a2 a3 a4 (μ (b + 27 + 3 * u)) (μ (b + 26 + 3 * u) 2).toNatClampNeg)
def LW (b : Nat) (μ : Mem) : Prop := ∀ u, u < 2 → 0 ≤ (μ (b + 26 + 3 * u) 2).toInt ∧ (μ (b + 26 + 3 * u) 2).toInt ≤ 60
/-- all but the rows on which the texts pile -/
def AgS (b : Nat) (μ μ' : Mem) : Prop := ∀ o, o ≠ b + 28 → o ≠ b + 31 → μ' o = μ o
theorem AgS.rf {b : Nat} {μ : Mem} : AgS b μ μ := fun _ _ _ => rfl
theorem AgS.vC {b : Nat} {μ μ' : Mem} (h : AgS b μ μ') : vC b μ' = vC b μ := vC_congr fun o h1 h2 => h o (by omega) (by omega)
theorem x_leaves {d b : Nat} {a1 a2 a3 a4 : Int32} {μ : Mem} (hL : LW b μ) : ∃ μ', cl d 46 [vR 6 b, vI a1, vI a2, vI a3, vI a4] μ = some (some (vI ((txC b μ 0 a1 a2 a3 a4).getD (a1 - a2))), μ') ∧ AgS b μ μ' := by
  obtain ⟨h1, h2⟩ := hL 0 (by decide)
  have hs : μ (b + 26) 2 = nI (μ (b + 26) 2).toNatClampNeg := (nI_ix h1).symm
  obtain ⟨μ', hw, hA⟩ := x_workOut (d := d) (lo := b + 26) (a1 := a1) (a2 := a2) (a3 := a3) (a4 := a4) (N := (μ (b + 26) 2).toNatClampNeg) (by have e : (μ (b + 26) 2).toNatClampNeg = (μ (b + 26) 2).toInt.toNat := rfl; have : (μ (b + 26) 2).toInt ≤ 60 := h2; omega) hs
  by_cases hz : μ (b + 26) 3 = 0
  · refine ⟨μ, ?_, AgS.rf⟩
    simp -implicitDefEqProofs only [cl_46, u_46_0, u_46_1, u_46_2, u_46_3, e_iload_n, e_iload, e_lload_n, e_lload, e_aload_n, e_aload, e_istore_n, e_istore, e_astore_n, e_astore, e_lstore_n, e_lstore, e_iinc, e_iconst, e_bipush, e_sipush, e_ldc_w, e_ldc, e_ldcS, e_lconst, e_ldc2_w, e_iadd, e_isub, e_imul, e_iand, e_ixor, e_ishl, e_ishr, e_iushr, e_idiv, e_irem, e_ineg, e_i2b, e_i2s, e_i2c, e_ladd, e_lsub, e_lmul, e_land, e_lor, e_ldiv, e_lrem, e_lneg, e_lshl, e_lshr, e_lushr, e_i2l, e_l2i, e_lcmp, e_dupI, e_dupA, e_dup2, e_getI, e_getA, e_putI, e_putZ, e_getstatic, e_iaload, e_iastore, e_aaload10, e_alen10, e_aaload11, e_alen11, e_aaload12, e_alen12, e_aaload13, e_alen13, e_alen, e_invokevirtual, e_invokevirtualB, e_invokestatic, e_invokestaticB, ct_0, ct_i, ct_a, ct_l, os_0, os_s, rc_0, rc_s, sl_0, sl_i, sl_a, sl_l, simprocAttr, ix, z_em, up_eq, up_j, Nat.le_refl, true_or, or_true, true_and, and_true, and_self, or_self, beq_self_eq_true, if_true, if_false, ite_self, ca_f, ca_t, aLen, Int32.lt_iff_toInt_lt, Int32.le_iff_toInt_le, z_ite, z_iten, z_ite1, ite_not, not_true_eq_false, not_false_eq_true, false_and, and_false, false_or, or_false, b_max, b_min, b_minL, b_absL, b_ixD, b_ixH, b_copy, tk_0, tk_s, dr_0, dr_s, pu_s, pu_n, ca_0, ca_1, clr_0, clr_s, e_nop, e_goto, e_if_eq, e_if_ne, e_if_lt, e_if_ge, e_if_gt, e_if_le, e_ic_eq, e_ic_ne, e_ic_lt, e_ic_ge, e_ic_gt, e_ic_le, e_tsw, e_lsw, sw_0, sw_s, e_iret, e_zret, e_lret, e_aret, e_ret, en_0, en_n, en_i, en_a, en_l, List.getElem?_cons_zero, List.getElem?_cons_succ, List.set_cons_zero, List.set_cons_succ, len_s, List.length_nil, show b + 3 + 23 + 0 = b + 26 by omega, hz, txC, Option.getD, Nat.mul_zero, Nat.add_zero]
  · refine ⟨μ', ?_, fun o h1 h2 => hA o (by omega)⟩
    simp -implicitDefEqProofs only [cl_46, u_46_0, u_46_1, u_46_2, u_46_3, e_iload_n, e_iload, e_lload_n, e_lload, e_aload_n, e_aload, e_istore_n, e_istore, e_astore_n, e_astore, e_lstore_n, e_lstore, e_iinc, e_iconst, e_bipush, e_sipush, e_ldc_w, e_ldc, e_ldcS, e_lconst, e_ldc2_w, e_iadd, e_isub, e_imul, e_iand, e_ixor, e_ishl, e_ishr, e_iushr, e_idiv, e_irem, e_ineg, e_i2b, e_i2s, e_i2c, e_ladd, e_lsub, e_lmul, e_land, e_lor, e_ldiv, e_lrem, e_lneg, e_lshl, e_lshr, e_lushr, e_i2l, e_l2i, e_lcmp, e_dupI, e_dupA, e_dup2, e_getI, e_getA, e_putI, e_putZ, e_getstatic, e_iaload, e_iastore, e_aaload10, e_alen10, e_aaload11, e_alen11, e_aaload12, e_alen12, e_aaload13, e_alen13, e_alen, e_invokevirtual, e_invokevirtualB, e_invokestatic, e_invokestaticB, ct_0, ct_i, ct_a, ct_l, os_0, os_s, rc_0, rc_s, sl_0, sl_i, sl_a, sl_l, simprocAttr, ix, z_em, up_eq, up_j, Nat.le_refl, true_or, or_true, true_and, and_true, and_self, or_self, beq_self_eq_true, if_true, if_false, ite_self, ca_f, ca_t, aLen, Int32.lt_iff_toInt_lt, Int32.le_iff_toInt_le, z_ite, z_iten, z_ite1, ite_not, not_true_eq_false, not_false_eq_true, false_and, and_false, false_or, or_false, b_max, b_min, b_minL, b_absL, b_ixD, b_ixH, b_copy, tk_0, tk_s, dr_0, dr_s, pu_s, pu_n, ca_0, ca_1, clr_0, clr_s, e_nop, e_goto, e_if_eq, e_if_ne, e_if_lt, e_if_ge, e_if_gt, e_if_le, e_ic_eq, e_ic_ne, e_ic_lt, e_ic_ge, e_ic_gt, e_ic_le, e_tsw, e_lsw, sw_0, sw_s, e_iret, e_zret, e_lret, e_aret, e_ret, en_0, en_n, en_i, en_a, en_l, List.getElem?_cons_zero, List.getElem?_cons_succ, List.set_cons_zero, List.set_cons_succ, len_s, List.length_nil, show b + 3 + 23 + 0 = b + 26 by omega, if_neg hz, hw, txC, Option.getD, Nat.mul_zero, Nat.add_zero]
