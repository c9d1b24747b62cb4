/-! A WORLD TAKEN OVER: what the two have in common. -/
def told3 (b : Nat) (μ : Mem) : Prop := ∀ u, u < 2 → μ (b + 26 + 3 * u) 3 = 0 ∨ μ (b + 26 + 3 * u) 3 = 1
/-- world b at μ' is world c at μ, as far as it is used -/
def SW (b c : Nat) (μ μ' : Mem) : Prop :=
  (∀ k, k < 9 → vC b μ' 0 k = vC c μ 0 k) ∧
  (∀ w, w < (vC c μ 0 0).toNatClampNeg → ∀ k, k < 24 → vC b μ' (1 + w) k = vC c μ (1 + w) k) ∧
  (∀ r, r < (vC c μ 0 1).toNatClampNeg → ∀ k, k < 8 → vC b μ' (10 + r) k = vC c μ (10 + r) k) ∧
  (∀ i, i < (vC c μ 0 6).toNatClampNeg → vC b μ' 20 i = vC c μ 20 i) ∧
  (∀ i, i < (vC c μ 0 7).toNatClampNeg → vC b μ' 21 i = vC c μ 21 i) ∧
  ∀ u, u < 2 → μ' (b + 26 + 3 * u) 2 = μ (c + 26 + 3 * u) 2 ∧ μ' (b + 26 + 3 * u) 3 = μ (c + 26 + 3 * u) 3 ∧ ∀ i, i < (μ (c + 26 + 3 * u) 2).toNatClampNeg → μ' (b + 27 + 3 * u) i = μ (c + 27 + 3 * u) i
theorem runP_cg {a1 a2 a3 a4 : Int32} {f g : Nat → Int32} : ∀ n, (∀ i, i < n → f i = g i) → runP a1 a2 a3 a4 f n = runP a1 a2 a3 a4 g n := by
  intro n
  induction n with
  | zero => exact fun _ => rfl
  | succ n ih =>
    intro h
    unfold runP
    rw [ih (fun i hi => h i (by omega)), h n (by omega)]
theorem SW.lw {b c : Nat} {μ μ' : Mem} (h : SW b c μ μ') (hL : LW c μ) : LW b μ' := fun u hu => by
  rw [(h.2.2.2.2.2 u hu).1]
  exact hL u hu
theorem SW.told {b c : Nat} {μ μ' : Mem} (h : SW b c μ μ') (hL : told3 c μ) : told3 b μ' := fun u hu => by
  rw [(h.2.2.2.2.2 u hu).2.1]
  exact hL u hu
theorem tx_cg {tx tx' : TX} {V : Mem} {w r : Nat} (h : ∀ u, u < 2 → tx u = tx' u) : keepsP tx V w r = keepsP tx' V w r ∧ goesP tx V w = goesP tx' V w := by
  unfold keepsP goesP
  rw [h 0 (by decide), h 1 (by decide)]
  exact ⟨rfl, rfl⟩
theorem SW.tx {b c : Nat} {μ μ' : Mem} (h : SW b c μ μ') : ∀ u, u < 2 → txC b μ' u = txC c μ u := fun u hu => by
  obtain ⟨h1, h2, h3⟩ := h.2.2.2.2.2 u hu
  funext a1 a2 a3 a4
  unfold txC evP
  rw [h1, h2, runP_cg _ h3]
theorem itN_cg {α : Type} {f g : α → Nat → α} (h : ∀ V n, f V n = g V n) : f = g := by
  funext V n
  exact h V n
theorem min_cg {tx tx' : TX} (h : ∀ u, u < 2 → tx u = tx' u) : minP (mn 99999) tx = minP (mn 99999) tx' := by
  have hc : comeP (mn 99999) tx = comeP (mn 99999) tx' := by
    funext V r
    unfold comeP
    simp only [(tx_cg (V := V) (r := r) h).1]
  have hr : restP (mn 99999) tx = restP (mn 99999) tx' := by
    funext o V r
    unfold restP
    rw [hc]
  have hw : wrkP tx = wrkP tx' := by
    funext o V w
    unfold wrkP workP
    rw [(tx_cg (V := V) (w := w) (r := 0) h).2]
  funext o V
  unfold minP restsP worksP
  rw [hr, hw]
theorem SW.rel {b c : Nat} {μ μ' : Mem} (h : SW b c μ μ') (hW : WFV (vC c μ)) : REL (fun x => (x : Int) < (vC c μ 0 0).toInt) True (vC c μ) (vC b μ') := by
  have g0 := gs0 hW
  have g1 := gs1 hW
  have e0 : (vC c μ 0 0).toNatClampNeg = (vC c μ 0 0).toInt.toNat := rfl
  have e1 : (vC c μ 0 1).toNatClampNeg = (vC c μ 0 1).toInt.toNat := rfl
  refine ⟨fun k hk => h.1 k (by omega), fun _ => h.1 5 (by decide), fun x hx hp k hk => ?_, fun r hr hc => ?_⟩
  · have gx := gw1 hW hx
    have ex : (vC c μ (1 + x) 1).toNatClampNeg = (vC c μ (1 + x) 1).toInt.toNat := rfl
    refine h.2.1 x (by omega) k ?_
    unfold usK at hk
    omega
  · have q := h.2.2.1 r (by omega)
    refine ⟨q 2 (by decide), fun _ k hk => q k (by unfold rK at hk; omega), fun _ => q 3 (by decide)⟩
theorem x_takeW {d b c : Nat} {μ : Mem} (hbc : b + 32 ≤ c ∨ c + 32 ≤ b) (hW : WFV (vC c μ)) (hB : WFV (vC b μ)) (hL : LW c μ) (h3 : told3 c μ) :
    ∃ μ', cl d 39 [vR 6 b, vR 6 c] μ = some (none, μ') ∧ SW b c μ μ' ∧ WFV (vC b μ') ∧ (∀ a, (a < b ∨ b + 32 ≤ a) → μ' a = μ a) ∧ ∀ r, r < 8 → (∀ k, k < 8 → vC b μ' (10 + r) k = vC c μ (10 + r) k) ∨ (∀ k, k < 8 → vC b μ' (10 + r) k = vC b μ (10 + r) k) := by
  have g0 := gs0 hW
  have g1 := gs1 hW
  have g6 := gs6 hW
  have g7 := gs7 hW
  have c0 : μ c 5 = vC c μ 0 0 := cs0
  have c1 : μ c 6 = vC c μ 0 1 := cs1
  have c6 : μ c 7 = vC c μ 0 6 := cs6
  have c7 : μ c 8 = vC c μ 0 7 := cs7
  have e0 : (vC c μ 0 0).toNatClampNeg = (vC c μ 0 0).toInt.toNat := rfl
  have e1 : (vC c μ 0 1).toNatClampNeg = (vC c μ 0 1).toInt.toNat := rfl
  have e6 : (vC c μ 0 6).toNatClampNeg = (vC c μ 0 6).toInt.toNat := rfl
  have e7 : (vC c μ 0 7).toNatClampNeg = (vC c μ 0 7).toInt.toNat := rfl
  obtain ⟨μs, μ1, μ2, μ3, hcl, hs, hj, i1, i2, i3⟩ := x_take (d := d) (b := b) (c := c) (N := (vC c μ 0 0).toNatClampNeg) (R := (vC c μ 0 1).toNatClampNeg) (μ := μ) hbc (by omega) (by omega) (by rw [c0, nI_ix g0.1]) (by rw [c1, nI_ix g1.1]) hL h3 (by rw [c6]; exact g6) (by rw [c7]; exact g7)
  rw [c6, c7] at hcl
  generalize hN : (vC c μ 0 0).toNatClampNeg = N at *
  generalize hR : (vC c μ 0 1).toNatClampNeg = R at *
  generalize hT : (vC c μ 0 6).toNatClampNeg = T at *
  generalize hQ : (vC c μ 0 7).toNatClampNeg = Q at *
  have f1 : ∀ a, (a < b + 6 ∨ b + 6 + 3 * N ≤ a) → μ1 a = μs a := i1.2
  have f2 : ∀ a, (a < b + 18 ∨ b + 18 + R ≤ a) → μ2 a = μ1 a := i2.2
  have f3 : ∀ a, (a < b + 26 ∨ b + 32 ≤ a) → μ3 a = μ2 a := i3.2
  generalize hE : cpy (cpy μ3 (c + 4) 0 (b + 4) 0 T) (c + 5) 0 (b + 5) 0 Q = μ' at hcl
  have f4 : ∀ a, a ≠ b + 4 → a ≠ b + 5 → μ' a = μ3 a := fun a h1 h2 => by rw [← hE, cpy_o h2, cpy_o h1]
  have fr : ∀ a, (a < b ∨ b + 32 ≤ a) → μ' a = μ a := fun a h => by rw [f4 a (by omega) (by omega), f3 a (by omega), f2 a (by omega), f1 a (by omega), hs a (by omega)]
  -- object by object
  have o0 : ∀ j, 5 ≤ j → j ≤ 13 → μ' b j = μ c j := fun j p1 p2 => by rw [f4 b (by omega) (by omega), f3 b (by omega), f2 b (by omega), f1 b (by omega), hj j p1 p2]
  have ow : ∀ t, b + 6 ≤ t → t < b + 18 → μ' t = μ1 t := fun t h1 h2 => by rw [f4 t (by omega) (by omega), f3 t (by omega), f2 t (by omega)]
  have cw' : ∀ t, t < 32 → μs (c + t) = μ (c + t) := fun t ht => hs _ (by omega)
  have or' : ∀ t, b + 18 ≤ t → t < b + 26 → μ' t = μ2 t := fun t h1 h2 => by rw [f4 t (by omega) (by omega), f3 t (by omega)]
  have cr' : ∀ t, t < 32 → μ1 (c + t) = μ (c + t) := fun t ht => by rw [f1 _ (by omega), cw' t ht]
  have cl' : ∀ t, t < 32 → μ2 (c + t) = μ (c + t) := fun t ht => by rw [f2 _ (by omega), cr' t ht]
  have ck' : ∀ t, t < 32 → μ3 (c + t) = μ (c + t) := fun t ht => by rw [f3 _ (by omega), cl' t ht]
  have s0 : ∀ k, k < 9 → vC b μ' 0 k = vC c μ 0 k := fun k hk => by
    have hi : inC 0 k := Or.inl ⟨rfl, hk⟩
    have h1 : vC b μ' 0 k = μ' (cO b 0 k) (cK 0 k) := if_pos hi
    have h2 : vC c μ 0 k = μ (cO c 0 k) (cK 0 k) := if_pos hi
    have q : 5 ≤ cK 0 k ∧ cK 0 k ≤ 13 := by unfold cK cKs; rw [if_pos rfl]; (repeat' split) <;> omega
    rw [h1, h2]
    exact o0 _ q.1 q.2
  have s1 : ∀ w, w < N → ∀ k, k < 24 → vC b μ' (1 + w) k = vC c μ (1 + w) k := fun w hw k hk => by
    have hi : inC (1 + w) k := by unfold inC; omega
    have h1 : vC b μ' (1 + w) k = μ' (cO b (1 + w) k) (cK (1 + w) k) := if_pos hi
    have h2 : vC c μ (1 + w) k = μ (cO c (1 + w) k) (cK (1 + w) k) := if_pos hi
    obtain ⟨j1, j2, j3⟩ := i1.1 w hw
    have n0 : ¬ 1 + w = 0 := by omega
    have n5 : 1 + w < 5 := by omega
    have w1 : 1 + w - 1 = w := by omega
    rw [h1, h2]
    unfold cO cK
    simp only [if_neg n0, if_pos n5, w1]
    by_cases h8 : k < 8
    · simp only [if_pos h8]
      rw [ow _ (by omega) (by omega), j1 _ (by omega) (by omega), show c + 6 + 3 * w = c + (6 + 3 * w) by omega, cw' _ (by omega)]
    · simp only [if_neg h8]
      rcases (show k % 2 = 0 ∨ k % 2 = 1 by omega) with q | q
      · rw [q, ow _ (by omega) (by omega), show b + 7 + 3 * w + 0 = b + 6 + 3 * w + 1 by omega, j2 _ (by omega), show c + 6 + 3 * w + 1 = c + (7 + 3 * w) by omega, cw' _ (by omega)]
        exact congrFun (congrArg μ (by omega)) _
      · rw [q, ow _ (by omega) (by omega), show b + 7 + 3 * w + 1 = b + 6 + 3 * w + 2 by omega, j3 _ (by omega), show c + 6 + 3 * w + 2 = c + (8 + 3 * w) by omega, cw' _ (by omega)]
        exact congrFun (congrArg μ (by omega)) _
  have s1n : ∀ w, w < 4 → ¬ w < N → ∀ k, k < 24 → vC b μ' (1 + w) k = vC b μ (1 + w) k := fun w hw hn k hk => by
    have hi : inC (1 + w) k := by unfold inC; omega
    have h1 : vC b μ' (1 + w) k = μ' (cO b (1 + w) k) (cK (1 + w) k) := if_pos hi
    have h2 : vC b μ (1 + w) k = μ (cO b (1 + w) k) (cK (1 + w) k) := if_pos hi
    have q : b + 6 + 3 * w ≤ cO b (1 + w) k ∧ cO b (1 + w) k < b + 9 + 3 * w := by
      unfold cO
      rw [if_neg (by omega), if_pos (by omega)]
      split <;> omega
    rw [h1, h2, ow _ (by omega) (by omega), f1 _ (by omega), hs _ (by omega)]
  have s2 : ∀ r, r < 8 → ∀ k, k < 8 → vC b μ' (10 + r) k = if r < R then vC c μ (10 + r) k else vC b μ (10 + r) k := fun r hr k hk => by
    have hi : inC (10 + r) k := by unfold inC; omega
    have h1 : vC b μ' (10 + r) k = μ' (cO b (10 + r) k) (cK (10 + r) k) := if_pos hi
    have h2 : vC c μ (10 + r) k = μ (cO c (10 + r) k) (cK (10 + r) k) := if_pos hi
    have h2' : vC b μ (10 + r) k = μ (cO b (10 + r) k) (cK (10 + r) k) := if_pos hi
    have q : ∀ x, cO x (10 + r) k = x + 18 + r := fun x => by
      unfold cO
      rw [if_neg (by omega), if_neg (by omega), if_pos (by omega)]
      omega
    have q2 : cK (10 + r) k ≤ 7 := by
      unfold cK
      rw [if_neg (by omega), if_neg (by omega), if_pos (by omega)]
      (repeat' split) <;> omega
    rw [h1, h2, h2', q, q, or' _ (by omega) (by omega)]
    by_cases hrr : r < R
    · rw [if_pos hrr, i2.1 r hrr _ q2, show c + 18 + r = c + (18 + r) by omega, cr' _ (by omega)]
    · rw [if_neg hrr, f2 _ (by omega), f1 _ (by omega), hs _ (by omega)]
  have s3 : ∀ i, i < T → vC b μ' 20 i = vC c μ 20 i := fun i hi => by
    rw [← ct (b := b) (μ := μ') (show i < 60 by omega), ← ct (b := c) (μ := μ) (show i < 60 by omega), ← hE, cpy_o (by omega), cpy_in (by omega), show 0 + (i - 0) = i by omega, ck' 4 (by omega)]
  have s4 : ∀ i, i < Q → vC b μ' 21 i = vC c μ 21 i := fun i hi => by
    rw [← cq (b := b) (μ := μ') (show i < 24 by omega), ← cq (b := c) (μ := μ) (show i < 24 by omega), ← hE, cpy_in (by omega), show 0 + (i - 0) = i by omega, cpy_o (by omega), ck' 5 (by omega)]
  have s5 : ∀ u, u < 2 → μ' (b + 26 + 3 * u) 2 = μ (c + 26 + 3 * u) 2 ∧ μ' (b + 26 + 3 * u) 3 = μ (c + 26 + 3 * u) 3 ∧ ∀ i, i < (μ (c + 26 + 3 * u) 2).toNatClampNeg → μ' (b + 27 + 3 * u) i = μ (c + 27 + 3 * u) i := fun u hu => by
    obtain ⟨j1, j2, j3⟩ := i3.1 u hu
    have k1 : μ2 (c + 26 + 3 * u) = μ (c + 26 + 3 * u) := by rw [show c + 26 + 3 * u = c + (26 + 3 * u) by omega]; exact cl' _ (by omega)
    have k2 : μ2 (c + 27 + 3 * u) = μ (c + 27 + 3 * u) := by rw [show c + 27 + 3 * u = c + (27 + 3 * u) by omega]; exact cl' _ (by omega)
    rw [k1] at j1 j2 j3
    rw [f4 _ (by omega) (by omega), f4 _ (by omega) (by omega)]
    refine ⟨j1, j2, fun i hi => ?_⟩
    rw [j3 i hi, k2]
  refine ⟨μ', hcl, ⟨s0, by rw [hN]; exact s1, by rw [hR]; exact fun r hr k hk => by rw [s2 r (by omega) k hk, if_pos hr], by rw [hT]; exact s3, by rw [hQ]; exact s4, s5⟩, ⟨fun o k hi => ?_, fun w hw => ?_, fun r hr hc => ?_⟩, fr, fun r hr => by
    by_cases q : r < R
    · exact Or.inl (fun k hk => by rw [s2 r hr k hk, if_pos q])
    · exact Or.inr (fun k hk => by rw [s2 r hr k hk, if_neg q])⟩
  · have hi2 := hi
    unfold inC at hi2
    rcases hi2 with ⟨rfl, hk⟩ | ⟨h1, h2, hk⟩ | ⟨h1, h2, hk⟩ | ⟨rfl, hk⟩ | ⟨rfl, hk⟩
    · rw [s0 k hk]
      exact hW.1 0 k hi
    · obtain ⟨w, rfl⟩ : ∃ w, o = 1 + w := ⟨o - 1, by omega⟩
      by_cases hw : w < N
      · rw [s1 w hw k hk]
        exact hW.1 _ k hi
      · rw [s1n w (by omega) hw k hk]
        exact hB.1 _ k hi
    · obtain ⟨r, rfl⟩ : ∃ r, o = 10 + r := ⟨o - 10, by omega⟩
      rw [s2 r (by omega) k hk]
      split
      · exact hW.1 _ k hi
      · exact hB.1 _ k hi
    · have z1 : loV 20 k = -2147483648 := rfl
      have z2 : hiV 20 k = 2147483647 := rfl
      rw [z1, z2]
      have q1 := Int32.le_toInt (vC b μ' 20 k)
      have q2 := Int32.toInt_lt (vC b μ' 20 k)
      omega
    · have z1 : loV 21 k = -2147483648 := rfl
      have z2 : hiV 21 k = 2147483647 := rfl
      rw [z1, z2]
      have q1 := Int32.le_toInt (vC b μ' 21 k)
      have q2 := Int32.toInt_lt (vC b μ' 21 k)
      omega
  · by_cases q : w < N
    · rw [s1 w q 2 (by decide), s1 w q 1 (by decide)]
      exact hW.2.1 w hw
    · rw [s1n w hw q 2 (by decide), s1n w hw q 1 (by decide)]
      exact hB.2.1 w hw
  · rw [s0 1 (by decide)] at hc
    have hrr : r < R := by omega
    rw [s0 0 (by decide), s2 r hr 2 (by decide), if_pos hrr]
    exact hW.2.2 r hr hc
