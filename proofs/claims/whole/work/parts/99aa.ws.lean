/-! THE WORLD BEHIND THE TWO CONSTRUCTORS is the first memory's. -/
def adF (q q2 : Nat) (g g2 : Nat → Nat) (t0 t1 b : Nat) (aK : Nat → Nat) : Nat → Nat := fun o => if o = 0 then q else if o < 112 then g (o - 1) else if o = 112 then q2 else if o < 127 then g2 (o - 113) else if o = 200 then t0 else if o = 201 then t1 else if o = 202 then b else aK (o - 203)
def wB (dA : Nat → ClassId) (q q2 : Nat) (g g2 : Nat → Nat) : va_W := [] ++ ws_TakenUp dA q g ++ ws_Model dA q2 g2
def WL (dA : Nat → ClassId) (q q2 : Nat) (g g2 : Nat → Nat) : va_W := [
  (q, .inr (7, [.ref (g 0), .ref (g 32), .ref (g 64), .ref (g 96), .ref (g 99), .ref (g 101), .ref (g 102), .int 0])),
  (g 0, .inr (6, [.ref (g 1), .ref (g 2), .ref (g 3), .ref (g 4), .ref (g 5), .int 0, .int 0, .int 0, .int 0, .int 0, .int 0, .int 0, .int 0, .int 1])),
  (g 1, .inl (dA 4, 4, .inr (.inr (.inr (.inr (fun i => some (g (1 + (5 + 3 * i))))))))),
  (g 2, .inl (dA 2, 8, .inr (.inr (.inr (.inr (fun i => some (g (1 + (17 + i))))))))),
  (g 3, .inl (dA 1, 2, .inr (.inr (.inr (.inr (fun i => some (g (1 + (25 + 3 * i))))))))),
  (g 4, .inl (dA 0, 60, .inl (fun _ => 0))),
  (g 5, .inl (dA 0, 24, .inl (fun _ => 0))),
  (g 6, .inr (5, [.ref (g 7), .ref (g 8), .int 0, .int 0, .int 0, .int 0, .int 0, .int 0, .int 0, .int (-1)])),
  (g 7, .inl (dA 0, 8, .inl (fun _ => 0))),
  (g 8, .inl (dA 0, 8, .inl (fun _ => 0))),
  (g 9, .inr (5, [.ref (g 10), .ref (g 11), .int 0, .int 0, .int 0, .int 0, .int 0, .int 0, .int 0, .int (-1)])),
  (g 10, .inl (dA 0, 8, .inl (fun _ => 0))),
  (g 11, .inl (dA 0, 8, .inl (fun _ => 0))),
  (g 12, .inr (5, [.ref (g 13), .ref (g 14), .int 0, .int 0, .int 0, .int 0, .int 0, .int 0, .int 0, .int (-1)])),
  (g 13, .inl (dA 0, 8, .inl (fun _ => 0))),
  (g 14, .inl (dA 0, 8, .inl (fun _ => 0))),
  (g 15, .inr (5, [.ref (g 16), .ref (g 17), .int 0, .int 0, .int 0, .int 0, .int 0, .int 0, .int 0, .int (-1)])),
  (g 16, .inl (dA 0, 8, .inl (fun _ => 0))),
  (g 17, .inl (dA 0, 8, .inl (fun _ => 0))),
  (g 18, .inr (2, [.int 0, .int 0, .int 0, .int 0, .int 0, .int 0, .int 0, .int 0])),
  (g 19, .inr (2, [.int 0, .int 0, .int 0, .int 0, .int 0, .int 0, .int 0, .int 0])),
  (g 20, .inr (2, [.int 0, .int 0, .int 0, .int 0, .int 0, .int 0, .int 0, .int 0])),
  (g 21, .inr (2, [.int 0, .int 0, .int 0, .int 0, .int 0, .int 0, .int 0, .int 0])),
  (g 22, .inr (2, [.int 0, .int 0, .int 0, .int 0, .int 0, .int 0, .int 0, .int 0])),
  (g 23, .inr (2, [.int 0, .int 0, .int 0, .int 0, .int 0, .int 0, .int 0, .int 0])),
  (g 24, .inr (2, [.int 0, .int 0, .int 0, .int 0, .int 0, .int 0, .int 0, .int 0])),
  (g 25, .inr (2, [.int 0, .int 0, .int 0, .int 0, .int 0, .int 0, .int 0, .int 0])),
  (g 26, .inr (0, [.ref (g 27), .ref (g 28), .int 0, .int 0])),
  (g 27, .inl (dA 0, 60, .inl (fun _ => 0))),
  (g 28, .inl (dA 0, 60, .inl (fun _ => 0))),
  (g 29, .inr (0, [.ref (g 30), .ref (g 31), .int 0, .int 0])),
  (g 30, .inl (dA 0, 60, .inl (fun _ => 0))),
  (g 31, .inl (dA 0, 60, .inl (fun _ => 0))),
  (g 32, .inr (6, [.ref (g 33), .ref (g 34), .ref (g 35), .ref (g 36), .ref (g 37), .int 0, .int 0, .int 0, .int 0, .int 0, .int 0, .int 0, .int 0, .int 1])),
  (g 33, .inl (dA 4, 4, .inr (.inr (.inr (.inr (fun i => some (g (33 + (5 + 3 * i))))))))),
  (g 34, .inl (dA 2, 8, .inr (.inr (.inr (.inr (fun i => some (g (33 + (17 + i))))))))),
  (g 35, .inl (dA 1, 2, .inr (.inr (.inr (.inr (fun i => some (g (33 + (25 + 3 * i))))))))),
  (g 36, .inl (dA 0, 60, .inl (fun _ => 0))),
  (g 37, .inl (dA 0, 24, .inl (fun _ => 0))),
  (g 38, .inr (5, [.ref (g 39), .ref (g 40), .int 0, .int 0, .int 0, .int 0, .int 0, .int 0, .int 0, .int (-1)])),
  (g 39, .inl (dA 0, 8, .inl (fun _ => 0))),
  (g 40, .inl (dA 0, 8, .inl (fun _ => 0))),
  (g 41, .inr (5, [.ref (g 42), .ref (g 43), .int 0, .int 0, .int 0, .int 0, .int 0, .int 0, .int 0, .int (-1)])),
  (g 42, .inl (dA 0, 8, .inl (fun _ => 0))),
  (g 43, .inl (dA 0, 8, .inl (fun _ => 0))),
  (g 44, .inr (5, [.ref (g 45), .ref (g 46), .int 0, .int 0, .int 0, .int 0, .int 0, .int 0, .int 0, .int (-1)])),
  (g 45, .inl (dA 0, 8, .inl (fun _ => 0))),
  (g 46, .inl (dA 0, 8, .inl (fun _ => 0))),
  (g 47, .inr (5, [.ref (g 48), .ref (g 49), .int 0, .int 0, .int 0, .int 0, .int 0, .int 0, .int 0, .int (-1)])),
  (g 48, .inl (dA 0, 8, .inl (fun _ => 0))),
  (g 49, .inl (dA 0, 8, .inl (fun _ => 0))),
  (g 50, .inr (2, [.int 0, .int 0, .int 0, .int 0, .int 0, .int 0, .int 0, .int 0])),
  (g 51, .inr (2, [.int 0, .int 0, .int 0, .int 0, .int 0, .int 0, .int 0, .int 0])),
  (g 52, .inr (2, [.int 0, .int 0, .int 0, .int 0, .int 0, .int 0, .int 0, .int 0])),
  (g 53, .inr (2, [.int 0, .int 0, .int 0, .int 0, .int 0, .int 0, .int 0, .int 0])),
  (g 54, .inr (2, [.int 0, .int 0, .int 0, .int 0, .int 0, .int 0, .int 0, .int 0])),
  (g 55, .inr (2, [.int 0, .int 0, .int 0, .int 0, .int 0, .int 0, .int 0, .int 0])),
  (g 56, .inr (2, [.int 0, .int 0, .int 0, .int 0, .int 0, .int 0, .int 0, .int 0])),
  (g 57, .inr (2, [.int 0, .int 0, .int 0, .int 0, .int 0, .int 0, .int 0, .int 0])),
  (g 58, .inr (0, [.ref (g 59), .ref (g 60), .int 0, .int 0])),
  (g 59, .inl (dA 0, 60, .inl (fun _ => 0))),
  (g 60, .inl (dA 0, 60, .inl (fun _ => 0))),
  (g 61, .inr (0, [.ref (g 62), .ref (g 63), .int 0, .int 0])),
  (g 62, .inl (dA 0, 60, .inl (fun _ => 0))),
  (g 63, .inl (dA 0, 60, .inl (fun _ => 0))),
  (g 64, .inr (6, [.ref (g 65), .ref (g 66), .ref (g 67), .ref (g 68), .ref (g 69), .int 0, .int 0, .int 0, .int 0, .int 0, .int 0, .int 0, .int 0, .int 1])),
  (g 65, .inl (dA 4, 4, .inr (.inr (.inr (.inr (fun i => some (g (65 + (5 + 3 * i))))))))),
  (g 66, .inl (dA 2, 8, .inr (.inr (.inr (.inr (fun i => some (g (65 + (17 + i))))))))),
  (g 67, .inl (dA 1, 2, .inr (.inr (.inr (.inr (fun i => some (g (65 + (25 + 3 * i))))))))),
  (g 68, .inl (dA 0, 60, .inl (fun _ => 0))),
  (g 69, .inl (dA 0, 24, .inl (fun _ => 0))),
  (g 70, .inr (5, [.ref (g 71), .ref (g 72), .int 0, .int 0, .int 0, .int 0, .int 0, .int 0, .int 0, .int (-1)])),
  (g 71, .inl (dA 0, 8, .inl (fun _ => 0))),
  (g 72, .inl (dA 0, 8, .inl (fun _ => 0))),
  (g 73, .inr (5, [.ref (g 74), .ref (g 75), .int 0, .int 0, .int 0, .int 0, .int 0, .int 0, .int 0, .int (-1)])),
  (g 74, .inl (dA 0, 8, .inl (fun _ => 0))),
  (g 75, .inl (dA 0, 8, .inl (fun _ => 0))),
  (g 76, .inr (5, [.ref (g 77), .ref (g 78), .int 0, .int 0, .int 0, .int 0, .int 0, .int 0, .int 0, .int (-1)])),
  (g 77, .inl (dA 0, 8, .inl (fun _ => 0))),
  (g 78, .inl (dA 0, 8, .inl (fun _ => 0))),
  (g 79, .inr (5, [.ref (g 80), .ref (g 81), .int 0, .int 0, .int 0, .int 0, .int 0, .int 0, .int 0, .int (-1)])),
  (g 80, .inl (dA 0, 8, .inl (fun _ => 0))),
  (g 81, .inl (dA 0, 8, .inl (fun _ => 0))),
  (g 82, .inr (2, [.int 0, .int 0, .int 0, .int 0, .int 0, .int 0, .int 0, .int 0])),
  (g 83, .inr (2, [.int 0, .int 0, .int 0, .int 0, .int 0, .int 0, .int 0, .int 0])),
  (g 84, .inr (2, [.int 0, .int 0, .int 0, .int 0, .int 0, .int 0, .int 0, .int 0])),
  (g 85, .inr (2, [.int 0, .int 0, .int 0, .int 0, .int 0, .int 0, .int 0, .int 0])),
  (g 86, .inr (2, [.int 0, .int 0, .int 0, .int 0, .int 0, .int 0, .int 0, .int 0])),
  (g 87, .inr (2, [.int 0, .int 0, .int 0, .int 0, .int 0, .int 0, .int 0, .int 0])),
  (g 88, .inr (2, [.int 0, .int 0, .int 0, .int 0, .int 0, .int 0, .int 0, .int 0])),
  (g 89, .inr (2, [.int 0, .int 0, .int 0, .int 0, .int 0, .int 0, .int 0, .int 0])),
  (g 90, .inr (0, [.ref (g 91), .ref (g 92), .int 0, .int 0])),
  (g 91, .inl (dA 0, 60, .inl (fun _ => 0))),
  (g 92, .inl (dA 0, 60, .inl (fun _ => 0))),
  (g 93, .inr (0, [.ref (g 94), .ref (g 95), .int 0, .int 0])),
  (g 94, .inl (dA 0, 60, .inl (fun _ => 0))),
  (g 95, .inl (dA 0, 60, .inl (fun _ => 0))),
  (g 96, .inr (1, [.ref (g 97), .ref (g 98), .int 0, .int 0, .int 0, .int 0, .int 0])),
  (g 97, .inl (dA 0, 60, .inl (fun _ => 0))),
  (g 98, .inl (dA 0, 60, .inl (fun _ => 0))),
  (g 99, .inr (4, [.ref (g 100), .int 0, .int 0, .int 0, .int 0, .int 0])),
  (g 100, .inl (dA 0, 30, .inl (fun _ => 0))),
  (g 101, .inl (dA 3, 4, .inr (.inr (.inr (.inr (fun i => some (g (103 + 2 * i)))))))),
  (g 102, .inl (dA 0, 7, .inl (fun _ => 0))),
  (g 103, .inr (3, [.ref (g 104), .int 0, .int 0])),
  (g 104, .inl (dA 0, 24, .inl (fun _ => 0))),
  (g 105, .inr (3, [.ref (g 106), .int 0, .int 0])),
  (g 106, .inl (dA 0, 24, .inl (fun _ => 0))),
  (g 107, .inr (3, [.ref (g 108), .int 0, .int 0])),
  (g 108, .inl (dA 0, 24, .inl (fun _ => 0))),
  (g 109, .inr (3, [.ref (g 110), .int 0, .int 0])),
  (g 110, .inl (dA 0, 24, .inl (fun _ => 0))),
  (q2, .inr (8, [.ref (g2 0), .ref (g2 1), .ref (g2 2), .int 0, .ref (g2 3), .int 0, .int 0, .int 0, .int 0, .ref (g2 4), .ref (g2 5), .ref (g2 6), .ref (g2 7), .ref (g2 8), .ref (g2 9), .int 0, .int 0, .int 0, .ref (g2 10), .ref (g2 11), .ref (g2 12), .ref (g2 13)])),
  (g2 0, .inl (dA 0, 504, .inl (upd (fun _ => 0) 8 1))),
  (g2 1, .inl (dA 0, 504, .inl (fun _ => 0))),
  (g2 2, .inl (dA 0, 504, .inl (fun _ => 0))),
  (g2 3, .inl (dA 0, 7, .inl (fun _ => 0))),
  (g2 4, .inl (dA 0, 124, .inl (fun _ => 0))),
  (g2 5, .inl (dA 0, 128, .inl (fun _ => 0))),
  (g2 6, .inl (dA 0, 64, .inl (fun _ => 0))),
  (g2 7, .inl (dA 0, 8, .inl (fun _ => 0))),
  (g2 8, .inl (dA 0, 8, .inl (fun _ => 0))),
  (g2 9, .inl (dA 0, 30, .inl (fun _ => 0))),
  (g2 10, .inl (dA 0, 4, .inl (fun _ => 0))),
  (g2 11, .inl (dA 0, 4, .inl (fun _ => 0))),
  (g2 12, .inl (dA 0, 96, .inl (fun _ => 0))),
  (g2 13, .inl (dA 0, 24, .inl (fun _ => 0)))]
/-- the same as far as the machine's cells go -/
def EQE (e e2 : va_E) : Prop := e = e2 ∨ ∃ (cA : ClassId) (n : Nat) (f f' : Nat → Option Nat), e = .inl (cA, n, .inr (.inr (.inr (.inr f)))) ∧ e2 = .inl (cA, n, .inr (.inr (.inr (.inr f')))) ∧ ∀ i, i < n → f i = f' i
section WE
variable {dC : Nat → ClassId} {dI : Nat → Nat → Nat} {dA : Nat → ClassId} {A : Nat → Prop} {s : State} {H : Heap} {locs : List Loc} {ws ws2 : va_W}
theorem zq_cv_ext (V : CV dC dI dA A s ws H locs) (h : ∀ (k : Nat) (q : Nat × va_E), ws2[k]? = some q → ∃ e, ws[k]? = some (q.1, e) ∧ EQE e q.2) : CV dC dI dA A s ws2 H locs := by
  obtain ⟨⟨⟨hK, hO⟩, hP⟩, ⟨hD, hS⟩, hA⟩ := V
  refine ⟨⟨⟨hK, hO⟩, fun k q hq => ?_⟩, ⟨⟨fun i j p q hp hq he => ?_, fun k q hq => ?_⟩, hS⟩, hA⟩
  · obtain ⟨e, h1, h2⟩ := h k q hq
    obtain ⟨a, e2⟩ := q
    have h3 := hP k _ h1
    rcases h2 with h2 | ⟨cA, n, f, f', rfl, h4, h5⟩
    · rw [← show e = e2 from h2]
      exact h3
    · cases h4
      show H[a]? = some (vp_cell _ _)
      rw [vp_cell_q]
      replace h3 : H[a]? = some (vp_cell _ _) := h3
      rw [vp_cell_q] at h3
      rw [h3]
      unfold arrV
      congr 2
      apply Array.ext
      · simp
      · intro i z1 z2
        simp only [Array.size_ofFn] at z1
        rw [Array.getElem_ofFn, Array.getElem_ofFn]
        show va_rf (f i) = va_rf (f' i)
        rw [h5 i z1]
  · obtain ⟨e, h1, -⟩ := h i p hp
    obtain ⟨e', h1', -⟩ := h j q hq
    exact hD.1 i j (p.1, e) (q.1, e') h1 h1' he
  · obtain ⟨e, h1, -⟩ := h k q hq
    exact hD.2 k (q.1, e) h1
variable {q q2 : Nat} {g g2 : Nat → Nat} {t0 t1 b : Nat} {aK : Nat → Nat} {fz : Mem}
set_option maxRecDepth 100000 in
theorem zq_wB_eq : wB dA q q2 g g2 = WL dA q q2 g g2 := rfl
theorem zq_we_0 : (adF q q2 g g2 t0 t1 b aK 0 = q) ∧ ent dA (adF q q2 g g2 t0 t1 b aK) (mu0 fz) (kd 0) 0 = (.inr (7, [.ref (g 0), .ref (g 32), .ref (g 64), .ref (g 96), .ref (g 99), .ref (g 101), .ref (g 102), .int 0]) : va_E) := ⟨rfl, rfl⟩
theorem zq_we_1 : (adF q q2 g g2 t0 t1 b aK 1 = g 0) ∧ ent dA (adF q q2 g g2 t0 t1 b aK) (mu0 fz) (kd 1) 1 = (.inr (6, [.ref (g 1), .ref (g 2), .ref (g 3), .ref (g 4), .ref (g 5), .int 0, .int 0, .int 0, .int 0, .int 0, .int 0, .int 0, .int 0, .int 1]) : va_E) := ⟨rfl, rfl⟩
theorem zq_we_2 : (adF q q2 g g2 t0 t1 b aK 2 = g 1) ∧ EQE (.inl (dA 4, 4, .inr (.inr (.inr (.inr (fun i => some (g (1 + (5 + 3 * i))))))))) (ent dA (adF q q2 g g2 t0 t1 b aK) (mu0 fz) (kd 2) 2) := ⟨rfl, Or.inr ⟨_, _, _, _, rfl, rfl, fun i hi => by
  have : i = 0 ∨ i = 1 ∨ i = 2 ∨ i = 3 := by omega
  rcases this with rfl | rfl | rfl | rfl <;> rfl⟩⟩
theorem zq_we_3 : (adF q q2 g g2 t0 t1 b aK 3 = g 2) ∧ EQE (.inl (dA 2, 8, .inr (.inr (.inr (.inr (fun i => some (g (1 + (17 + i))))))))) (ent dA (adF q q2 g g2 t0 t1 b aK) (mu0 fz) (kd 3) 3) := ⟨rfl, Or.inr ⟨_, _, _, _, rfl, rfl, fun i hi => by
  have : i = 0 ∨ i = 1 ∨ i = 2 ∨ i = 3 ∨ i = 4 ∨ i = 5 ∨ i = 6 ∨ i = 7 := by omega
  rcases this with rfl | rfl | rfl | rfl | rfl | rfl | rfl | rfl <;> rfl⟩⟩
theorem zq_we_4 : (adF q q2 g g2 t0 t1 b aK 4 = g 3) ∧ EQE (.inl (dA 1, 2, .inr (.inr (.inr (.inr (fun i => some (g (1 + (25 + 3 * i))))))))) (ent dA (adF q q2 g g2 t0 t1 b aK) (mu0 fz) (kd 4) 4) := ⟨rfl, Or.inr ⟨_, _, _, _, rfl, rfl, fun i hi => by
  have : i = 0 ∨ i = 1 := by omega
  rcases this with rfl | rfl <;> rfl⟩⟩
theorem zq_we_5 : (adF q q2 g g2 t0 t1 b aK 5 = g 4) ∧ ent dA (adF q q2 g g2 t0 t1 b aK) (mu0 fz) (kd 5) 5 = (.inl (dA 0, 60, .inl (fun _ => 0)) : va_E) := ⟨rfl, rfl⟩
theorem zq_we_6 : (adF q q2 g g2 t0 t1 b aK 6 = g 5) ∧ ent dA (adF q q2 g g2 t0 t1 b aK) (mu0 fz) (kd 6) 6 = (.inl (dA 0, 24, .inl (fun _ => 0)) : va_E) := ⟨rfl, rfl⟩
theorem zq_we_7 : (adF q q2 g g2 t0 t1 b aK 7 = g 6) ∧ ent dA (adF q q2 g g2 t0 t1 b aK) (mu0 fz) (kd 7) 7 = (.inr (5, [.ref (g 7), .ref (g 8), .int 0, .int 0, .int 0, .int 0, .int 0, .int 0, .int 0, .int (-1)]) : va_E) := ⟨rfl, rfl⟩
theorem zq_we_8 : (adF q q2 g g2 t0 t1 b aK 8 = g 7) ∧ ent dA (adF q q2 g g2 t0 t1 b aK) (mu0 fz) (kd 8) 8 = (.inl (dA 0, 8, .inl (fun _ => 0)) : va_E) := ⟨rfl, rfl⟩
theorem zq_we_9 : (adF q q2 g g2 t0 t1 b aK 9 = g 8) ∧ ent dA (adF q q2 g g2 t0 t1 b aK) (mu0 fz) (kd 9) 9 = (.inl (dA 0, 8, .inl (fun _ => 0)) : va_E) := ⟨rfl, rfl⟩
theorem zq_we_10 : (adF q q2 g g2 t0 t1 b aK 10 = g 9) ∧ ent dA (adF q q2 g g2 t0 t1 b aK) (mu0 fz) (kd 10) 10 = (.inr (5, [.ref (g 10), .ref (g 11), .int 0, .int 0, .int 0, .int 0, .int 0, .int 0, .int 0, .int (-1)]) : va_E) := ⟨rfl, rfl⟩
theorem zq_we_11 : (adF q q2 g g2 t0 t1 b aK 11 = g 10) ∧ ent dA (adF q q2 g g2 t0 t1 b aK) (mu0 fz) (kd 11) 11 = (.inl (dA 0, 8, .inl (fun _ => 0)) : va_E) := ⟨rfl, rfl⟩
theorem zq_we_12 : (adF q q2 g g2 t0 t1 b aK 12 = g 11) ∧ ent dA (adF q q2 g g2 t0 t1 b aK) (mu0 fz) (kd 12) 12 = (.inl (dA 0, 8, .inl (fun _ => 0)) : va_E) := ⟨rfl, rfl⟩
theorem zq_we_13 : (adF q q2 g g2 t0 t1 b aK 13 = g 12) ∧ ent dA (adF q q2 g g2 t0 t1 b aK) (mu0 fz) (kd 13) 13 = (.inr (5, [.ref (g 13), .ref (g 14), .int 0, .int 0, .int 0, .int 0, .int 0, .int 0, .int 0, .int (-1)]) : va_E) := ⟨rfl, rfl⟩
theorem zq_we_14 : (adF q q2 g g2 t0 t1 b aK 14 = g 13) ∧ ent dA (adF q q2 g g2 t0 t1 b aK) (mu0 fz) (kd 14) 14 = (.inl (dA 0, 8, .inl (fun _ => 0)) : va_E) := ⟨rfl, rfl⟩
theorem zq_we_15 : (adF q q2 g g2 t0 t1 b aK 15 = g 14) ∧ ent dA (adF q q2 g g2 t0 t1 b aK) (mu0 fz) (kd 15) 15 = (.inl (dA 0, 8, .inl (fun _ => 0)) : va_E) := ⟨rfl, rfl⟩
theorem zq_we_16 : (adF q q2 g g2 t0 t1 b aK 16 = g 15) ∧ ent dA (adF q q2 g g2 t0 t1 b aK) (mu0 fz) (kd 16) 16 = (.inr (5, [.ref (g 16), .ref (g 17), .int 0, .int 0, .int 0, .int 0, .int 0, .int 0, .int 0, .int (-1)]) : va_E) := ⟨rfl, rfl⟩
theorem zq_we_17 : (adF q q2 g g2 t0 t1 b aK 17 = g 16) ∧ ent dA (adF q q2 g g2 t0 t1 b aK) (mu0 fz) (kd 17) 17 = (.inl (dA 0, 8, .inl (fun _ => 0)) : va_E) := ⟨rfl, rfl⟩
theorem zq_we_18 : (adF q q2 g g2 t0 t1 b aK 18 = g 17) ∧ ent dA (adF q q2 g g2 t0 t1 b aK) (mu0 fz) (kd 18) 18 = (.inl (dA 0, 8, .inl (fun _ => 0)) : va_E) := ⟨rfl, rfl⟩
theorem zq_we_19 : (adF q q2 g g2 t0 t1 b aK 19 = g 18) ∧ ent dA (adF q q2 g g2 t0 t1 b aK) (mu0 fz) (kd 19) 19 = (.inr (2, [.int 0, .int 0, .int 0, .int 0, .int 0, .int 0, .int 0, .int 0]) : va_E) := ⟨rfl, rfl⟩
theorem zq_we_20 : (adF q q2 g g2 t0 t1 b aK 20 = g 19) ∧ ent dA (adF q q2 g g2 t0 t1 b aK) (mu0 fz) (kd 20) 20 = (.inr (2, [.int 0, .int 0, .int 0, .int 0, .int 0, .int 0, .int 0, .int 0]) : va_E) := ⟨rfl, rfl⟩
theorem zq_we_21 : (adF q q2 g g2 t0 t1 b aK 21 = g 20) ∧ ent dA (adF q q2 g g2 t0 t1 b aK) (mu0 fz) (kd 21) 21 = (.inr (2, [.int 0, .int 0, .int 0, .int 0, .int 0, .int 0, .int 0, .int 0]) : va_E) := ⟨rfl, rfl⟩
theorem zq_we_22 : (adF q q2 g g2 t0 t1 b aK 22 = g 21) ∧ ent dA (adF q q2 g g2 t0 t1 b aK) (mu0 fz) (kd 22) 22 = (.inr (2, [.int 0, .int 0, .int 0, .int 0, .int 0, .int 0, .int 0, .int 0]) : va_E) := ⟨rfl, rfl⟩
theorem zq_we_23 : (adF q q2 g g2 t0 t1 b aK 23 = g 22) ∧ ent dA (adF q q2 g g2 t0 t1 b aK) (mu0 fz) (kd 23) 23 = (.inr (2, [.int 0, .int 0, .int 0, .int 0, .int 0, .int 0, .int 0, .int 0]) : va_E) := ⟨rfl, rfl⟩
theorem zq_we_24 : (adF q q2 g g2 t0 t1 b aK 24 = g 23) ∧ ent dA (adF q q2 g g2 t0 t1 b aK) (mu0 fz) (kd 24) 24 = (.inr (2, [.int 0, .int 0, .int 0, .int 0, .int 0, .int 0, .int 0, .int 0]) : va_E) := ⟨rfl, rfl⟩
theorem zq_we_25 : (adF q q2 g g2 t0 t1 b aK 25 = g 24) ∧ ent dA (adF q q2 g g2 t0 t1 b aK) (mu0 fz) (kd 25) 25 = (.inr (2, [.int 0, .int 0, .int 0, .int 0, .int 0, .int 0, .int 0, .int 0]) : va_E) := ⟨rfl, rfl⟩
theorem zq_we_26 : (adF q q2 g g2 t0 t1 b aK 26 = g 25) ∧ ent dA (adF q q2 g g2 t0 t1 b aK) (mu0 fz) (kd 26) 26 = (.inr (2, [.int 0, .int 0, .int 0, .int 0, .int 0, .int 0, .int 0, .int 0]) : va_E) := ⟨rfl, rfl⟩
theorem zq_we_27 : (adF q q2 g g2 t0 t1 b aK 27 = g 26) ∧ ent dA (adF q q2 g g2 t0 t1 b aK) (mu0 fz) (kd 27) 27 = (.inr (0, [.ref (g 27), .ref (g 28), .int 0, .int 0]) : va_E) := ⟨rfl, rfl⟩
theorem zq_we_28 : (adF q q2 g g2 t0 t1 b aK 28 = g 27) ∧ ent dA (adF q q2 g g2 t0 t1 b aK) (mu0 fz) (kd 28) 28 = (.inl (dA 0, 60, .inl (fun _ => 0)) : va_E) := ⟨rfl, rfl⟩
theorem zq_we_29 : (adF q q2 g g2 t0 t1 b aK 29 = g 28) ∧ ent dA (adF q q2 g g2 t0 t1 b aK) (mu0 fz) (kd 29) 29 = (.inl (dA 0, 60, .inl (fun _ => 0)) : va_E) := ⟨rfl, rfl⟩
theorem zq_we_30 : (adF q q2 g g2 t0 t1 b aK 30 = g 29) ∧ ent dA (adF q q2 g g2 t0 t1 b aK) (mu0 fz) (kd 30) 30 = (.inr (0, [.ref (g 30), .ref (g 31), .int 0, .int 0]) : va_E) := ⟨rfl, rfl⟩
theorem zq_we_31 : (adF q q2 g g2 t0 t1 b aK 31 = g 30) ∧ ent dA (adF q q2 g g2 t0 t1 b aK) (mu0 fz) (kd 31) 31 = (.inl (dA 0, 60, .inl (fun _ => 0)) : va_E) := ⟨rfl, rfl⟩
theorem zq_we_32 : (adF q q2 g g2 t0 t1 b aK 32 = g 31) ∧ ent dA (adF q q2 g g2 t0 t1 b aK) (mu0 fz) (kd 32) 32 = (.inl (dA 0, 60, .inl (fun _ => 0)) : va_E) := ⟨rfl, rfl⟩
theorem zq_we_33 : (adF q q2 g g2 t0 t1 b aK 33 = g 32) ∧ ent dA (adF q q2 g g2 t0 t1 b aK) (mu0 fz) (kd 33) 33 = (.inr (6, [.ref (g 33), .ref (g 34), .ref (g 35), .ref (g 36), .ref (g 37), .int 0, .int 0, .int 0, .int 0, .int 0, .int 0, .int 0, .int 0, .int 1]) : va_E) := ⟨rfl, rfl⟩
theorem zq_we_34 : (adF q q2 g g2 t0 t1 b aK 34 = g 33) ∧ EQE (.inl (dA 4, 4, .inr (.inr (.inr (.inr (fun i => some (g (33 + (5 + 3 * i))))))))) (ent dA (adF q q2 g g2 t0 t1 b aK) (mu0 fz) (kd 34) 34) := ⟨rfl, Or.inr ⟨_, _, _, _, rfl, rfl, fun i hi => by
  have : i = 0 ∨ i = 1 ∨ i = 2 ∨ i = 3 := by omega
  rcases this with rfl | rfl | rfl | rfl <;> rfl⟩⟩
theorem zq_we_35 : (adF q q2 g g2 t0 t1 b aK 35 = g 34) ∧ EQE (.inl (dA 2, 8, .inr (.inr (.inr (.inr (fun i => some (g (33 + (17 + i))))))))) (ent dA (adF q q2 g g2 t0 t1 b aK) (mu0 fz) (kd 35) 35) := ⟨rfl, Or.inr ⟨_, _, _, _, rfl, rfl, fun i hi => by
  have : i = 0 ∨ i = 1 ∨ i = 2 ∨ i = 3 ∨ i = 4 ∨ i = 5 ∨ i = 6 ∨ i = 7 := by omega
  rcases this with rfl | rfl | rfl | rfl | rfl | rfl | rfl | rfl <;> rfl⟩⟩
theorem zq_we_36 : (adF q q2 g g2 t0 t1 b aK 36 = g 35) ∧ EQE (.inl (dA 1, 2, .inr (.inr (.inr (.inr (fun i => some (g (33 + (25 + 3 * i))))))))) (ent dA (adF q q2 g g2 t0 t1 b aK) (mu0 fz) (kd 36) 36) := ⟨rfl, Or.inr ⟨_, _, _, _, rfl, rfl, fun i hi => by
  have : i = 0 ∨ i = 1 := by omega
  rcases this with rfl | rfl <;> rfl⟩⟩
theorem zq_we_37 : (adF q q2 g g2 t0 t1 b aK 37 = g 36) ∧ ent dA (adF q q2 g g2 t0 t1 b aK) (mu0 fz) (kd 37) 37 = (.inl (dA 0, 60, .inl (fun _ => 0)) : va_E) := ⟨rfl, rfl⟩
theorem zq_we_38 : (adF q q2 g g2 t0 t1 b aK 38 = g 37) ∧ ent dA (adF q q2 g g2 t0 t1 b aK) (mu0 fz) (kd 38) 38 = (.inl (dA 0, 24, .inl (fun _ => 0)) : va_E) := ⟨rfl, rfl⟩
theorem zq_we_39 : (adF q q2 g g2 t0 t1 b aK 39 = g 38) ∧ ent dA (adF q q2 g g2 t0 t1 b aK) (mu0 fz) (kd 39) 39 = (.inr (5, [.ref (g 39), .ref (g 40), .int 0, .int 0, .int 0, .int 0, .int 0, .int 0, .int 0, .int (-1)]) : va_E) := ⟨rfl, rfl⟩
theorem zq_we_40 : (adF q q2 g g2 t0 t1 b aK 40 = g 39) ∧ ent dA (adF q q2 g g2 t0 t1 b aK) (mu0 fz) (kd 40) 40 = (.inl (dA 0, 8, .inl (fun _ => 0)) : va_E) := ⟨rfl, rfl⟩
theorem zq_we_41 : (adF q q2 g g2 t0 t1 b aK 41 = g 40) ∧ ent dA (adF q q2 g g2 t0 t1 b aK) (mu0 fz) (kd 41) 41 = (.inl (dA 0, 8, .inl (fun _ => 0)) : va_E) := ⟨rfl, rfl⟩
theorem zq_we_42 : (adF q q2 g g2 t0 t1 b aK 42 = g 41) ∧ ent dA (adF q q2 g g2 t0 t1 b aK) (mu0 fz) (kd 42) 42 = (.inr (5, [.ref (g 42), .ref (g 43), .int 0, .int 0, .int 0, .int 0, .int 0, .int 0, .int 0, .int (-1)]) : va_E) := ⟨rfl, rfl⟩
theorem zq_we_43 : (adF q q2 g g2 t0 t1 b aK 43 = g 42) ∧ ent dA (adF q q2 g g2 t0 t1 b aK) (mu0 fz) (kd 43) 43 = (.inl (dA 0, 8, .inl (fun _ => 0)) : va_E) := ⟨rfl, rfl⟩
theorem zq_we_44 : (adF q q2 g g2 t0 t1 b aK 44 = g 43) ∧ ent dA (adF q q2 g g2 t0 t1 b aK) (mu0 fz) (kd 44) 44 = (.inl (dA 0, 8, .inl (fun _ => 0)) : va_E) := ⟨rfl, rfl⟩
theorem zq_we_45 : (adF q q2 g g2 t0 t1 b aK 45 = g 44) ∧ ent dA (adF q q2 g g2 t0 t1 b aK) (mu0 fz) (kd 45) 45 = (.inr (5, [.ref (g 45), .ref (g 46), .int 0, .int 0, .int 0, .int 0, .int 0, .int 0, .int 0, .int (-1)]) : va_E) := ⟨rfl, rfl⟩
theorem zq_we_46 : (adF q q2 g g2 t0 t1 b aK 46 = g 45) ∧ ent dA (adF q q2 g g2 t0 t1 b aK) (mu0 fz) (kd 46) 46 = (.inl (dA 0, 8, .inl (fun _ => 0)) : va_E) := ⟨rfl, rfl⟩
theorem zq_we_47 : (adF q q2 g g2 t0 t1 b aK 47 = g 46) ∧ ent dA (adF q q2 g g2 t0 t1 b aK) (mu0 fz) (kd 47) 47 = (.inl (dA 0, 8, .inl (fun _ => 0)) : va_E) := ⟨rfl, rfl⟩
theorem zq_we_48 : (adF q q2 g g2 t0 t1 b aK 48 = g 47) ∧ ent dA (adF q q2 g g2 t0 t1 b aK) (mu0 fz) (kd 48) 48 = (.inr (5, [.ref (g 48), .ref (g 49), .int 0, .int 0, .int 0, .int 0, .int 0, .int 0, .int 0, .int (-1)]) : va_E) := ⟨rfl, rfl⟩
theorem zq_we_49 : (adF q q2 g g2 t0 t1 b aK 49 = g 48) ∧ ent dA (adF q q2 g g2 t0 t1 b aK) (mu0 fz) (kd 49) 49 = (.inl (dA 0, 8, .inl (fun _ => 0)) : va_E) := ⟨rfl, rfl⟩
theorem zq_we_50 : (adF q q2 g g2 t0 t1 b aK 50 = g 49) ∧ ent dA (adF q q2 g g2 t0 t1 b aK) (mu0 fz) (kd 50) 50 = (.inl (dA 0, 8, .inl (fun _ => 0)) : va_E) := ⟨rfl, rfl⟩
theorem zq_we_51 : (adF q q2 g g2 t0 t1 b aK 51 = g 50) ∧ ent dA (adF q q2 g g2 t0 t1 b aK) (mu0 fz) (kd 51) 51 = (.inr (2, [.int 0, .int 0, .int 0, .int 0, .int 0, .int 0, .int 0, .int 0]) : va_E) := ⟨rfl, rfl⟩
theorem zq_we_52 : (adF q q2 g g2 t0 t1 b aK 52 = g 51) ∧ ent dA (adF q q2 g g2 t0 t1 b aK) (mu0 fz) (kd 52) 52 = (.inr (2, [.int 0, .int 0, .int 0, .int 0, .int 0, .int 0, .int 0, .int 0]) : va_E) := ⟨rfl, rfl⟩
theorem zq_we_53 : (adF q q2 g g2 t0 t1 b aK 53 = g 52) ∧ ent dA (adF q q2 g g2 t0 t1 b aK) (mu0 fz) (kd 53) 53 = (.inr (2, [.int 0, .int 0, .int 0, .int 0, .int 0, .int 0, .int 0, .int 0]) : va_E) := ⟨rfl, rfl⟩
theorem zq_we_54 : (adF q q2 g g2 t0 t1 b aK 54 = g 53) ∧ ent dA (adF q q2 g g2 t0 t1 b aK) (mu0 fz) (kd 54) 54 = (.inr (2, [.int 0, .int 0, .int 0, .int 0, .int 0, .int 0, .int 0, .int 0]) : va_E) := ⟨rfl, rfl⟩
theorem zq_we_55 : (adF q q2 g g2 t0 t1 b aK 55 = g 54) ∧ ent dA (adF q q2 g g2 t0 t1 b aK) (mu0 fz) (kd 55) 55 = (.inr (2, [.int 0, .int 0, .int 0, .int 0, .int 0, .int 0, .int 0, .int 0]) : va_E) := ⟨rfl, rfl⟩
theorem zq_we_56 : (adF q q2 g g2 t0 t1 b aK 56 = g 55) ∧ ent dA (adF q q2 g g2 t0 t1 b aK) (mu0 fz) (kd 56) 56 = (.inr (2, [.int 0, .int 0, .int 0, .int 0, .int 0, .int 0, .int 0, .int 0]) : va_E) := ⟨rfl, rfl⟩
theorem zq_we_57 : (adF q q2 g g2 t0 t1 b aK 57 = g 56) ∧ ent dA (adF q q2 g g2 t0 t1 b aK) (mu0 fz) (kd 57) 57 = (.inr (2, [.int 0, .int 0, .int 0, .int 0, .int 0, .int 0, .int 0, .int 0]) : va_E) := ⟨rfl, rfl⟩
theorem zq_we_58 : (adF q q2 g g2 t0 t1 b aK 58 = g 57) ∧ ent dA (adF q q2 g g2 t0 t1 b aK) (mu0 fz) (kd 58) 58 = (.inr (2, [.int 0, .int 0, .int 0, .int 0, .int 0, .int 0, .int 0, .int 0]) : va_E) := ⟨rfl, rfl⟩
theorem zq_we_59 : (adF q q2 g g2 t0 t1 b aK 59 = g 58) ∧ ent dA (adF q q2 g g2 t0 t1 b aK) (mu0 fz) (kd 59) 59 = (.inr (0, [.ref (g 59), .ref (g 60), .int 0, .int 0]) : va_E) := ⟨rfl, rfl⟩
theorem zq_we_60 : (adF q q2 g g2 t0 t1 b aK 60 = g 59) ∧ ent dA (adF q q2 g g2 t0 t1 b aK) (mu0 fz) (kd 60) 60 = (.inl (dA 0, 60, .inl (fun _ => 0)) : va_E) := ⟨rfl, rfl⟩
theorem zq_we_61 : (adF q q2 g g2 t0 t1 b aK 61 = g 60) ∧ ent dA (adF q q2 g g2 t0 t1 b aK) (mu0 fz) (kd 61) 61 = (.inl (dA 0, 60, .inl (fun _ => 0)) : va_E) := ⟨rfl, rfl⟩
theorem zq_we_62 : (adF q q2 g g2 t0 t1 b aK 62 = g 61) ∧ ent dA (adF q q2 g g2 t0 t1 b aK) (mu0 fz) (kd 62) 62 = (.inr (0, [.ref (g 62), .ref (g 63), .int 0, .int 0]) : va_E) := ⟨rfl, rfl⟩
theorem zq_we_63 : (adF q q2 g g2 t0 t1 b aK 63 = g 62) ∧ ent dA (adF q q2 g g2 t0 t1 b aK) (mu0 fz) (kd 63) 63 = (.inl (dA 0, 60, .inl (fun _ => 0)) : va_E) := ⟨rfl, rfl⟩
theorem zq_we_64 : (adF q q2 g g2 t0 t1 b aK 64 = g 63) ∧ ent dA (adF q q2 g g2 t0 t1 b aK) (mu0 fz) (kd 64) 64 = (.inl (dA 0, 60, .inl (fun _ => 0)) : va_E) := ⟨rfl, rfl⟩
theorem zq_we_65 : (adF q q2 g g2 t0 t1 b aK 65 = g 64) ∧ ent dA (adF q q2 g g2 t0 t1 b aK) (mu0 fz) (kd 65) 65 = (.inr (6, [.ref (g 65), .ref (g 66), .ref (g 67), .ref (g 68), .ref (g 69), .int 0, .int 0, .int 0, .int 0, .int 0, .int 0, .int 0, .int 0, .int 1]) : va_E) := ⟨rfl, rfl⟩
theorem zq_we_66 : (adF q q2 g g2 t0 t1 b aK 66 = g 65) ∧ EQE (.inl (dA 4, 4, .inr (.inr (.inr (.inr (fun i => some (g (65 + (5 + 3 * i))))))))) (ent dA (adF q q2 g g2 t0 t1 b aK) (mu0 fz) (kd 66) 66) := ⟨rfl, Or.inr ⟨_, _, _, _, rfl, rfl, fun i hi => by
  have : i = 0 ∨ i = 1 ∨ i = 2 ∨ i = 3 := by omega
  rcases this with rfl | rfl | rfl | rfl <;> rfl⟩⟩
theorem zq_we_67 : (adF q q2 g g2 t0 t1 b aK 67 = g 66) ∧ EQE (.inl (dA 2, 8, .inr (.inr (.inr (.inr (fun i => some (g (65 + (17 + i))))))))) (ent dA (adF q q2 g g2 t0 t1 b aK) (mu0 fz) (kd 67) 67) := ⟨rfl, Or.inr ⟨_, _, _, _, rfl, rfl, fun i hi => by
  have : i = 0 ∨ i = 1 ∨ i = 2 ∨ i = 3 ∨ i = 4 ∨ i = 5 ∨ i = 6 ∨ i = 7 := by omega
  rcases this with rfl | rfl | rfl | rfl | rfl | rfl | rfl | rfl <;> rfl⟩⟩
theorem zq_we_68 : (adF q q2 g g2 t0 t1 b aK 68 = g 67) ∧ EQE (.inl (dA 1, 2, .inr (.inr (.inr (.inr (fun i => some (g (65 + (25 + 3 * i))))))))) (ent dA (adF q q2 g g2 t0 t1 b aK) (mu0 fz) (kd 68) 68) := ⟨rfl, Or.inr ⟨_, _, _, _, rfl, rfl, fun i hi => by
  have : i = 0 ∨ i = 1 := by omega
  rcases this with rfl | rfl <;> rfl⟩⟩
theorem zq_we_69 : (adF q q2 g g2 t0 t1 b aK 69 = g 68) ∧ ent dA (adF q q2 g g2 t0 t1 b aK) (mu0 fz) (kd 69) 69 = (.inl (dA 0, 60, .inl (fun _ => 0)) : va_E) := ⟨rfl, rfl⟩
theorem zq_we_70 : (adF q q2 g g2 t0 t1 b aK 70 = g 69) ∧ ent dA (adF q q2 g g2 t0 t1 b aK) (mu0 fz) (kd 70) 70 = (.inl (dA 0, 24, .inl (fun _ => 0)) : va_E) := ⟨rfl, rfl⟩
theorem zq_we_71 : (adF q q2 g g2 t0 t1 b aK 71 = g 70) ∧ ent dA (adF q q2 g g2 t0 t1 b aK) (mu0 fz) (kd 71) 71 = (.inr (5, [.ref (g 71), .ref (g 72), .int 0, .int 0, .int 0, .int 0, .int 0, .int 0, .int 0, .int (-1)]) : va_E) := ⟨rfl, rfl⟩
theorem zq_we_72 : (adF q q2 g g2 t0 t1 b aK 72 = g 71) ∧ ent dA (adF q q2 g g2 t0 t1 b aK) (mu0 fz) (kd 72) 72 = (.inl (dA 0, 8, .inl (fun _ => 0)) : va_E) := ⟨rfl, rfl⟩
theorem zq_we_73 : (adF q q2 g g2 t0 t1 b aK 73 = g 72) ∧ ent dA (adF q q2 g g2 t0 t1 b aK) (mu0 fz) (kd 73) 73 = (.inl (dA 0, 8, .inl (fun _ => 0)) : va_E) := ⟨rfl, rfl⟩
theorem zq_we_74 : (adF q q2 g g2 t0 t1 b aK 74 = g 73) ∧ ent dA (adF q q2 g g2 t0 t1 b aK) (mu0 fz) (kd 74) 74 = (.inr (5, [.ref (g 74), .ref (g 75), .int 0, .int 0, .int 0, .int 0, .int 0, .int 0, .int 0, .int (-1)]) : va_E) := ⟨rfl, rfl⟩
theorem zq_we_75 : (adF q q2 g g2 t0 t1 b aK 75 = g 74) ∧ ent dA (adF q q2 g g2 t0 t1 b aK) (mu0 fz) (kd 75) 75 = (.inl (dA 0, 8, .inl (fun _ => 0)) : va_E) := ⟨rfl, rfl⟩
theorem zq_we_76 : (adF q q2 g g2 t0 t1 b aK 76 = g 75) ∧ ent dA (adF q q2 g g2 t0 t1 b aK) (mu0 fz) (kd 76) 76 = (.inl (dA 0, 8, .inl (fun _ => 0)) : va_E) := ⟨rfl, rfl⟩
theorem zq_we_77 : (adF q q2 g g2 t0 t1 b aK 77 = g 76) ∧ ent dA (adF q q2 g g2 t0 t1 b aK) (mu0 fz) (kd 77) 77 = (.inr (5, [.ref (g 77), .ref (g 78), .int 0, .int 0, .int 0, .int 0, .int 0, .int 0, .int 0, .int (-1)]) : va_E) := ⟨rfl, rfl⟩
theorem zq_we_78 : (adF q q2 g g2 t0 t1 b aK 78 = g 77) ∧ ent dA (adF q q2 g g2 t0 t1 b aK) (mu0 fz) (kd 78) 78 = (.inl (dA 0, 8, .inl (fun _ => 0)) : va_E) := ⟨rfl, rfl⟩
theorem zq_we_79 : (adF q q2 g g2 t0 t1 b aK 79 = g 78) ∧ ent dA (adF q q2 g g2 t0 t1 b aK) (mu0 fz) (kd 79) 79 = (.inl (dA 0, 8, .inl (fun _ => 0)) : va_E) := ⟨rfl, rfl⟩
theorem zq_we_80 : (adF q q2 g g2 t0 t1 b aK 80 = g 79) ∧ ent dA (adF q q2 g g2 t0 t1 b aK) (mu0 fz) (kd 80) 80 = (.inr (5, [.ref (g 80), .ref (g 81), .int 0, .int 0, .int 0, .int 0, .int 0, .int 0, .int 0, .int (-1)]) : va_E) := ⟨rfl, rfl⟩
theorem zq_we_81 : (adF q q2 g g2 t0 t1 b aK 81 = g 80) ∧ ent dA (adF q q2 g g2 t0 t1 b aK) (mu0 fz) (kd 81) 81 = (.inl (dA 0, 8, .inl (fun _ => 0)) : va_E) := ⟨rfl, rfl⟩
theorem zq_we_82 : (adF q q2 g g2 t0 t1 b aK 82 = g 81) ∧ ent dA (adF q q2 g g2 t0 t1 b aK) (mu0 fz) (kd 82) 82 = (.inl (dA 0, 8, .inl (fun _ => 0)) : va_E) := ⟨rfl, rfl⟩
theorem zq_we_83 : (adF q q2 g g2 t0 t1 b aK 83 = g 82) ∧ ent dA (adF q q2 g g2 t0 t1 b aK) (mu0 fz) (kd 83) 83 = (.inr (2, [.int 0, .int 0, .int 0, .int 0, .int 0, .int 0, .int 0, .int 0]) : va_E) := ⟨rfl, rfl⟩
theorem zq_we_84 : (adF q q2 g g2 t0 t1 b aK 84 = g 83) ∧ ent dA (adF q q2 g g2 t0 t1 b aK) (mu0 fz) (kd 84) 84 = (.inr (2, [.int 0, .int 0, .int 0, .int 0, .int 0, .int 0, .int 0, .int 0]) : va_E) := ⟨rfl, rfl⟩
theorem zq_we_85 : (adF q q2 g g2 t0 t1 b aK 85 = g 84) ∧ ent dA (adF q q2 g g2 t0 t1 b aK) (mu0 fz) (kd 85) 85 = (.inr (2, [.int 0, .int 0, .int 0, .int 0, .int 0, .int 0, .int 0, .int 0]) : va_E) := ⟨rfl, rfl⟩
theorem zq_we_86 : (adF q q2 g g2 t0 t1 b aK 86 = g 85) ∧ ent dA (adF q q2 g g2 t0 t1 b aK) (mu0 fz) (kd 86) 86 = (.inr (2, [.int 0, .int 0, .int 0, .int 0, .int 0, .int 0, .int 0, .int 0]) : va_E) := ⟨rfl, rfl⟩
theorem zq_we_87 : (adF q q2 g g2 t0 t1 b aK 87 = g 86) ∧ ent dA (adF q q2 g g2 t0 t1 b aK) (mu0 fz) (kd 87) 87 = (.inr (2, [.int 0, .int 0, .int 0, .int 0, .int 0, .int 0, .int 0, .int 0]) : va_E) := ⟨rfl, rfl⟩
theorem zq_we_88 : (adF q q2 g g2 t0 t1 b aK 88 = g 87) ∧ ent dA (adF q q2 g g2 t0 t1 b aK) (mu0 fz) (kd 88) 88 = (.inr (2, [.int 0, .int 0, .int 0, .int 0, .int 0, .int 0, .int 0, .int 0]) : va_E) := ⟨rfl, rfl⟩
theorem zq_we_89 : (adF q q2 g g2 t0 t1 b aK 89 = g 88) ∧ ent dA (adF q q2 g g2 t0 t1 b aK) (mu0 fz) (kd 89) 89 = (.inr (2, [.int 0, .int 0, .int 0, .int 0, .int 0, .int 0, .int 0, .int 0]) : va_E) := ⟨rfl, rfl⟩
theorem zq_we_90 : (adF q q2 g g2 t0 t1 b aK 90 = g 89) ∧ ent dA (adF q q2 g g2 t0 t1 b aK) (mu0 fz) (kd 90) 90 = (.inr (2, [.int 0, .int 0, .int 0, .int 0, .int 0, .int 0, .int 0, .int 0]) : va_E) := ⟨rfl, rfl⟩
theorem zq_we_91 : (adF q q2 g g2 t0 t1 b aK 91 = g 90) ∧ ent dA (adF q q2 g g2 t0 t1 b aK) (mu0 fz) (kd 91) 91 = (.inr (0, [.ref (g 91), .ref (g 92), .int 0, .int 0]) : va_E) := ⟨rfl, rfl⟩
theorem zq_we_92 : (adF q q2 g g2 t0 t1 b aK 92 = g 91) ∧ ent dA (adF q q2 g g2 t0 t1 b aK) (mu0 fz) (kd 92) 92 = (.inl (dA 0, 60, .inl (fun _ => 0)) : va_E) := ⟨rfl, rfl⟩
theorem zq_we_93 : (adF q q2 g g2 t0 t1 b aK 93 = g 92) ∧ ent dA (adF q q2 g g2 t0 t1 b aK) (mu0 fz) (kd 93) 93 = (.inl (dA 0, 60, .inl (fun _ => 0)) : va_E) := ⟨rfl, rfl⟩
theorem zq_we_94 : (adF q q2 g g2 t0 t1 b aK 94 = g 93) ∧ ent dA (adF q q2 g g2 t0 t1 b aK) (mu0 fz) (kd 94) 94 = (.inr (0, [.ref (g 94), .ref (g 95), .int 0, .int 0]) : va_E) := ⟨rfl, rfl⟩
theorem zq_we_95 : (adF q q2 g g2 t0 t1 b aK 95 = g 94) ∧ ent dA (adF q q2 g g2 t0 t1 b aK) (mu0 fz) (kd 95) 95 = (.inl (dA 0, 60, .inl (fun _ => 0)) : va_E) := ⟨rfl, rfl⟩
theorem zq_we_96 : (adF q q2 g g2 t0 t1 b aK 96 = g 95) ∧ ent dA (adF q q2 g g2 t0 t1 b aK) (mu0 fz) (kd 96) 96 = (.inl (dA 0, 60, .inl (fun _ => 0)) : va_E) := ⟨rfl, rfl⟩
theorem zq_we_97 : (adF q q2 g g2 t0 t1 b aK 97 = g 96) ∧ ent dA (adF q q2 g g2 t0 t1 b aK) (mu0 fz) (kd 97) 97 = (.inr (1, [.ref (g 97), .ref (g 98), .int 0, .int 0, .int 0, .int 0, .int 0]) : va_E) := ⟨rfl, rfl⟩
theorem zq_we_98 : (adF q q2 g g2 t0 t1 b aK 98 = g 97) ∧ ent dA (adF q q2 g g2 t0 t1 b aK) (mu0 fz) (kd 98) 98 = (.inl (dA 0, 60, .inl (fun _ => 0)) : va_E) := ⟨rfl, rfl⟩
theorem zq_we_99 : (adF q q2 g g2 t0 t1 b aK 99 = g 98) ∧ ent dA (adF q q2 g g2 t0 t1 b aK) (mu0 fz) (kd 99) 99 = (.inl (dA 0, 60, .inl (fun _ => 0)) : va_E) := ⟨rfl, rfl⟩
theorem zq_we_100 : (adF q q2 g g2 t0 t1 b aK 100 = g 99) ∧ ent dA (adF q q2 g g2 t0 t1 b aK) (mu0 fz) (kd 100) 100 = (.inr (4, [.ref (g 100), .int 0, .int 0, .int 0, .int 0, .int 0]) : va_E) := ⟨rfl, rfl⟩
theorem zq_we_101 : (adF q q2 g g2 t0 t1 b aK 101 = g 100) ∧ ent dA (adF q q2 g g2 t0 t1 b aK) (mu0 fz) (kd 101) 101 = (.inl (dA 0, 30, .inl (fun _ => 0)) : va_E) := ⟨rfl, rfl⟩
theorem zq_we_102 : (adF q q2 g g2 t0 t1 b aK 102 = g 101) ∧ EQE (.inl (dA 3, 4, .inr (.inr (.inr (.inr (fun i => some (g (103 + 2 * i)))))))) (ent dA (adF q q2 g g2 t0 t1 b aK) (mu0 fz) (kd 102) 102) := ⟨rfl, Or.inr ⟨_, _, _, _, rfl, rfl, fun i hi => by
  have : i = 0 ∨ i = 1 ∨ i = 2 ∨ i = 3 := by omega
  rcases this with rfl | rfl | rfl | rfl <;> rfl⟩⟩
theorem zq_we_103 : (adF q q2 g g2 t0 t1 b aK 103 = g 102) ∧ ent dA (adF q q2 g g2 t0 t1 b aK) (mu0 fz) (kd 103) 103 = (.inl (dA 0, 7, .inl (fun _ => 0)) : va_E) := ⟨rfl, rfl⟩
theorem zq_we_104 : (adF q q2 g g2 t0 t1 b aK 104 = g 103) ∧ ent dA (adF q q2 g g2 t0 t1 b aK) (mu0 fz) (kd 104) 104 = (.inr (3, [.ref (g 104), .int 0, .int 0]) : va_E) := ⟨rfl, rfl⟩
theorem zq_we_105 : (adF q q2 g g2 t0 t1 b aK 105 = g 104) ∧ ent dA (adF q q2 g g2 t0 t1 b aK) (mu0 fz) (kd 105) 105 = (.inl (dA 0, 24, .inl (fun _ => 0)) : va_E) := ⟨rfl, rfl⟩
theorem zq_we_106 : (adF q q2 g g2 t0 t1 b aK 106 = g 105) ∧ ent dA (adF q q2 g g2 t0 t1 b aK) (mu0 fz) (kd 106) 106 = (.inr (3, [.ref (g 106), .int 0, .int 0]) : va_E) := ⟨rfl, rfl⟩
theorem zq_we_107 : (adF q q2 g g2 t0 t1 b aK 107 = g 106) ∧ ent dA (adF q q2 g g2 t0 t1 b aK) (mu0 fz) (kd 107) 107 = (.inl (dA 0, 24, .inl (fun _ => 0)) : va_E) := ⟨rfl, rfl⟩
theorem zq_we_108 : (adF q q2 g g2 t0 t1 b aK 108 = g 107) ∧ ent dA (adF q q2 g g2 t0 t1 b aK) (mu0 fz) (kd 108) 108 = (.inr (3, [.ref (g 108), .int 0, .int 0]) : va_E) := ⟨rfl, rfl⟩
theorem zq_we_109 : (adF q q2 g g2 t0 t1 b aK 109 = g 108) ∧ ent dA (adF q q2 g g2 t0 t1 b aK) (mu0 fz) (kd 109) 109 = (.inl (dA 0, 24, .inl (fun _ => 0)) : va_E) := ⟨rfl, rfl⟩
theorem zq_we_110 : (adF q q2 g g2 t0 t1 b aK 110 = g 109) ∧ ent dA (adF q q2 g g2 t0 t1 b aK) (mu0 fz) (kd 110) 110 = (.inr (3, [.ref (g 110), .int 0, .int 0]) : va_E) := ⟨rfl, rfl⟩
theorem zq_we_111 : (adF q q2 g g2 t0 t1 b aK 111 = g 110) ∧ ent dA (adF q q2 g g2 t0 t1 b aK) (mu0 fz) (kd 111) 111 = (.inl (dA 0, 24, .inl (fun _ => 0)) : va_E) := ⟨rfl, rfl⟩
theorem zq_we_112 : (adF q q2 g g2 t0 t1 b aK 112 = q2) ∧ ent dA (adF q q2 g g2 t0 t1 b aK) (mu0 fz) (kd 112) 112 = (.inr (8, [.ref (g2 0), .ref (g2 1), .ref (g2 2), .int 0, .ref (g2 3), .int 0, .int 0, .int 0, .int 0, .ref (g2 4), .ref (g2 5), .ref (g2 6), .ref (g2 7), .ref (g2 8), .ref (g2 9), .int 0, .int 0, .int 0, .ref (g2 10), .ref (g2 11), .ref (g2 12), .ref (g2 13)]) : va_E) := ⟨rfl, rfl⟩
theorem zq_we_113 : (adF q q2 g g2 t0 t1 b aK 113 = g2 0) ∧ ent dA (adF q q2 g g2 t0 t1 b aK) (mu0 fz) (kd 113) 113 = (.inl (dA 0, 504, .inl (upd (fun _ => 0) 8 1)) : va_E) := ⟨rfl, rfl⟩
theorem zq_we_114 : (adF q q2 g g2 t0 t1 b aK 114 = g2 1) ∧ ent dA (adF q q2 g g2 t0 t1 b aK) (mu0 fz) (kd 114) 114 = (.inl (dA 0, 504, .inl (fun _ => 0)) : va_E) := ⟨rfl, rfl⟩
theorem zq_we_115 : (adF q q2 g g2 t0 t1 b aK 115 = g2 2) ∧ ent dA (adF q q2 g g2 t0 t1 b aK) (mu0 fz) (kd 115) 115 = (.inl (dA 0, 504, .inl (fun _ => 0)) : va_E) := ⟨rfl, rfl⟩
theorem zq_we_116 : (adF q q2 g g2 t0 t1 b aK 116 = g2 3) ∧ ent dA (adF q q2 g g2 t0 t1 b aK) (mu0 fz) (kd 116) 116 = (.inl (dA 0, 7, .inl (fun _ => 0)) : va_E) := ⟨rfl, rfl⟩
theorem zq_we_117 : (adF q q2 g g2 t0 t1 b aK 117 = g2 4) ∧ ent dA (adF q q2 g g2 t0 t1 b aK) (mu0 fz) (kd 117) 117 = (.inl (dA 0, 124, .inl (fun _ => 0)) : va_E) := ⟨rfl, rfl⟩
theorem zq_we_118 : (adF q q2 g g2 t0 t1 b aK 118 = g2 5) ∧ ent dA (adF q q2 g g2 t0 t1 b aK) (mu0 fz) (kd 118) 118 = (.inl (dA 0, 128, .inl (fun _ => 0)) : va_E) := ⟨rfl, rfl⟩
theorem zq_we_119 : (adF q q2 g g2 t0 t1 b aK 119 = g2 6) ∧ ent dA (adF q q2 g g2 t0 t1 b aK) (mu0 fz) (kd 119) 119 = (.inl (dA 0, 64, .inl (fun _ => 0)) : va_E) := ⟨rfl, rfl⟩
theorem zq_we_120 : (adF q q2 g g2 t0 t1 b aK 120 = g2 7) ∧ ent dA (adF q q2 g g2 t0 t1 b aK) (mu0 fz) (kd 120) 120 = (.inl (dA 0, 8, .inl (fun _ => 0)) : va_E) := ⟨rfl, rfl⟩
theorem zq_we_121 : (adF q q2 g g2 t0 t1 b aK 121 = g2 8) ∧ ent dA (adF q q2 g g2 t0 t1 b aK) (mu0 fz) (kd 121) 121 = (.inl (dA 0, 8, .inl (fun _ => 0)) : va_E) := ⟨rfl, rfl⟩
theorem zq_we_122 : (adF q q2 g g2 t0 t1 b aK 122 = g2 9) ∧ ent dA (adF q q2 g g2 t0 t1 b aK) (mu0 fz) (kd 122) 122 = (.inl (dA 0, 30, .inl (fun _ => 0)) : va_E) := ⟨rfl, rfl⟩
theorem zq_we_123 : (adF q q2 g g2 t0 t1 b aK 123 = g2 10) ∧ ent dA (adF q q2 g g2 t0 t1 b aK) (mu0 fz) (kd 123) 123 = (.inl (dA 0, 4, .inl (fun _ => 0)) : va_E) := ⟨rfl, rfl⟩
theorem zq_we_124 : (adF q q2 g g2 t0 t1 b aK 124 = g2 11) ∧ ent dA (adF q q2 g g2 t0 t1 b aK) (mu0 fz) (kd 124) 124 = (.inl (dA 0, 4, .inl (fun _ => 0)) : va_E) := ⟨rfl, rfl⟩
theorem zq_we_125 : (adF q q2 g g2 t0 t1 b aK 125 = g2 12) ∧ ent dA (adF q q2 g g2 t0 t1 b aK) (mu0 fz) (kd 125) 125 = (.inl (dA 0, 96, .inl (fun _ => 0)) : va_E) := ⟨rfl, rfl⟩
theorem zq_we_126 : (adF q q2 g g2 t0 t1 b aK 126 = g2 13) ∧ ent dA (adF q q2 g g2 t0 t1 b aK) (mu0 fz) (kd 126) 126 = (.inl (dA 0, 24, .inl (fun _ => 0)) : va_E) := ⟨rfl, rfl⟩
set_option maxRecDepth 100000 in
theorem zq_we_all : ∀ o, o < 127 → ∃ e, (wB dA q q2 g g2)[o]? = some (adF q q2 g g2 t0 t1 b aK o, e) ∧ EQE e (ent dA (adF q q2 g g2 t0 t1 b aK) (mu0 fz) (kd o) o) := by
  intro o ho
  rw [zq_wB_eq]
  match o, ho with
  | 0, _ => exact ⟨.inr (7, [.ref (g 0), .ref (g 32), .ref (g 64), .ref (g 96), .ref (g 99), .ref (g 101), .ref (g 102), .int 0]), by rw [(zq_we_0 (q := q) (q2 := q2) (g := g) (g2 := g2) (t0 := t0) (t1 := t1) (b := b) (aK := aK) (fz := fz) (dA := dA)).1]; rfl, Or.inl (zq_we_0 (q := q) (q2 := q2) (g := g) (g2 := g2) (t0 := t0) (t1 := t1) (b := b) (aK := aK) (fz := fz) (dA := dA)).2.symm⟩
  | 1, _ => exact ⟨.inr (6, [.ref (g 1), .ref (g 2), .ref (g 3), .ref (g 4), .ref (g 5), .int 0, .int 0, .int 0, .int 0, .int 0, .int 0, .int 0, .int 0, .int 1]), by rw [(zq_we_1 (q := q) (q2 := q2) (g := g) (g2 := g2) (t0 := t0) (t1 := t1) (b := b) (aK := aK) (fz := fz) (dA := dA)).1]; rfl, Or.inl (zq_we_1 (q := q) (q2 := q2) (g := g) (g2 := g2) (t0 := t0) (t1 := t1) (b := b) (aK := aK) (fz := fz) (dA := dA)).2.symm⟩
  | 2, _ => exact ⟨.inl (dA 4, 4, .inr (.inr (.inr (.inr (fun i => some (g (1 + (5 + 3 * i)))))))), by rw [(zq_we_2 (q := q) (q2 := q2) (g := g) (g2 := g2) (t0 := t0) (t1 := t1) (b := b) (aK := aK) (fz := fz) (dA := dA)).1]; rfl, (zq_we_2 (q := q) (q2 := q2) (g := g) (g2 := g2) (t0 := t0) (t1 := t1) (b := b) (aK := aK) (fz := fz) (dA := dA)).2⟩
  | 3, _ => exact ⟨.inl (dA 2, 8, .inr (.inr (.inr (.inr (fun i => some (g (1 + (17 + i)))))))), by rw [(zq_we_3 (q := q) (q2 := q2) (g := g) (g2 := g2) (t0 := t0) (t1 := t1) (b := b) (aK := aK) (fz := fz) (dA := dA)).1]; rfl, (zq_we_3 (q := q) (q2 := q2) (g := g) (g2 := g2) (t0 := t0) (t1 := t1) (b := b) (aK := aK) (fz := fz) (dA := dA)).2⟩
  | 4, _ => exact ⟨.inl (dA 1, 2, .inr (.inr (.inr (.inr (fun i => some (g (1 + (25 + 3 * i)))))))), by rw [(zq_we_4 (q := q) (q2 := q2) (g := g) (g2 := g2) (t0 := t0) (t1 := t1) (b := b) (aK := aK) (fz := fz) (dA := dA)).1]; rfl, (zq_we_4 (q := q) (q2 := q2) (g := g) (g2 := g2) (t0 := t0) (t1 := t1) (b := b) (aK := aK) (fz := fz) (dA := dA)).2⟩
  | 5, _ => exact ⟨.inl (dA 0, 60, .inl (fun _ => 0)), by rw [(zq_we_5 (q := q) (q2 := q2) (g := g) (g2 := g2) (t0 := t0) (t1 := t1) (b := b) (aK := aK) (fz := fz) (dA := dA)).1]; rfl, Or.inl (zq_we_5 (q := q) (q2 := q2) (g := g) (g2 := g2) (t0 := t0) (t1 := t1) (b := b) (aK := aK) (fz := fz) (dA := dA)).2.symm⟩
  | 6, _ => exact ⟨.inl (dA 0, 24, .inl (fun _ => 0)), by rw [(zq_we_6 (q := q) (q2 := q2) (g := g) (g2 := g2) (t0 := t0) (t1 := t1) (b := b) (aK := aK) (fz := fz) (dA := dA)).1]; rfl, Or.inl (zq_we_6 (q := q) (q2 := q2) (g := g) (g2 := g2) (t0 := t0) (t1 := t1) (b := b) (aK := aK) (fz := fz) (dA := dA)).2.symm⟩
  | 7, _ => exact ⟨.inr (5, [.ref (g 7), .ref (g 8), .int 0, .int 0, .int 0, .int 0, .int 0, .int 0, .int 0, .int (-1)]), by rw [(zq_we_7 (q := q) (q2 := q2) (g := g) (g2 := g2) (t0 := t0) (t1 := t1) (b := b) (aK := aK) (fz := fz) (dA := dA)).1]; rfl, Or.inl (zq_we_7 (q := q) (q2 := q2) (g := g) (g2 := g2) (t0 := t0) (t1 := t1) (b := b) (aK := aK) (fz := fz) (dA := dA)).2.symm⟩
  | 8, _ => exact ⟨.inl (dA 0, 8, .inl (fun _ => 0)), by rw [(zq_we_8 (q := q) (q2 := q2) (g := g) (g2 := g2) (t0 := t0) (t1 := t1) (b := b) (aK := aK) (fz := fz) (dA := dA)).1]; rfl, Or.inl (zq_we_8 (q := q) (q2 := q2) (g := g) (g2 := g2) (t0 := t0) (t1 := t1) (b := b) (aK := aK) (fz := fz) (dA := dA)).2.symm⟩
  | 9, _ => exact ⟨.inl (dA 0, 8, .inl (fun _ => 0)), by rw [(zq_we_9 (q := q) (q2 := q2) (g := g) (g2 := g2) (t0 := t0) (t1 := t1) (b := b) (aK := aK) (fz := fz) (dA := dA)).1]; rfl, Or.inl (zq_we_9 (q := q) (q2 := q2) (g := g) (g2 := g2) (t0 := t0) (t1 := t1) (b := b) (aK := aK) (fz := fz) (dA := dA)).2.symm⟩
  | 10, _ => exact ⟨.inr (5, [.ref (g 10), .ref (g 11), .int 0, .int 0, .int 0, .int 0, .int 0, .int 0, .int 0, .int (-1)]), by rw [(zq_we_10 (q := q) (q2 := q2) (g := g) (g2 := g2) (t0 := t0) (t1 := t1) (b := b) (aK := aK) (fz := fz) (dA := dA)).1]; rfl, Or.inl (zq_we_10 (q := q) (q2 := q2) (g := g) (g2 := g2) (t0 := t0) (t1 := t1) (b := b) (aK := aK) (fz := fz) (dA := dA)).2.symm⟩
  | 11, _ => exact ⟨.inl (dA 0, 8, .inl (fun _ => 0)), by rw [(zq_we_11 (q := q) (q2 := q2) (g := g) (g2 := g2) (t0 := t0) (t1 := t1) (b := b) (aK := aK) (fz := fz) (dA := dA)).1]; rfl, Or.inl (zq_we_11 (q := q) (q2 := q2) (g := g) (g2 := g2) (t0 := t0) (t1 := t1) (b := b) (aK := aK) (fz := fz) (dA := dA)).2.symm⟩
  | 12, _ => exact ⟨.inl (dA 0, 8, .inl (fun _ => 0)), by rw [(zq_we_12 (q := q) (q2 := q2) (g := g) (g2 := g2) (t0 := t0) (t1 := t1) (b := b) (aK := aK) (fz := fz) (dA := dA)).1]; rfl, Or.inl (zq_we_12 (q := q) (q2 := q2) (g := g) (g2 := g2) (t0 := t0) (t1 := t1) (b := b) (aK := aK) (fz := fz) (dA := dA)).2.symm⟩
  | 13, _ => exact ⟨.inr (5, [.ref (g 13), .ref (g 14), .int 0, .int 0, .int 0, .int 0, .int 0, .int 0, .int 0, .int (-1)]), by rw [(zq_we_13 (q := q) (q2 := q2) (g := g) (g2 := g2) (t0 := t0) (t1 := t1) (b := b) (aK := aK) (fz := fz) (dA := dA)).1]; rfl, Or.inl (zq_we_13 (q := q) (q2 := q2) (g := g) (g2 := g2) (t0 := t0) (t1 := t1) (b := b) (aK := aK) (fz := fz) (dA := dA)).2.symm⟩
  | 14, _ => exact ⟨.inl (dA 0, 8, .inl (fun _ => 0)), by rw [(zq_we_14 (q := q) (q2 := q2) (g := g) (g2 := g2) (t0 := t0) (t1 := t1) (b := b) (aK := aK) (fz := fz) (dA := dA)).1]; rfl, Or.inl (zq_we_14 (q := q) (q2 := q2) (g := g) (g2 := g2) (t0 := t0) (t1 := t1) (b := b) (aK := aK) (fz := fz) (dA := dA)).2.symm⟩
  | 15, _ => exact ⟨.inl (dA 0, 8, .inl (fun _ => 0)), by rw [(zq_we_15 (q := q) (q2 := q2) (g := g) (g2 := g2) (t0 := t0) (t1 := t1) (b := b) (aK := aK) (fz := fz) (dA := dA)).1]; rfl, Or.inl (zq_we_15 (q := q) (q2 := q2) (g := g) (g2 := g2) (t0 := t0) (t1 := t1) (b := b) (aK := aK) (fz := fz) (dA := dA)).2.symm⟩
  | 16, _ => exact ⟨.inr (5, [.ref (g 16), .ref (g 17), .int 0, .int 0, .int 0, .int 0, .int 0, .int 0, .int 0, .int (-1)]), by rw [(zq_we_16 (q := q) (q2 := q2) (g := g) (g2 := g2) (t0 := t0) (t1 := t1) (b := b) (aK := aK) (fz := fz) (dA := dA)).1]; rfl, Or.inl (zq_we_16 (q := q) (q2 := q2) (g := g) (g2 := g2) (t0 := t0) (t1 := t1) (b := b) (aK := aK) (fz := fz) (dA := dA)).2.symm⟩
  | 17, _ => exact ⟨.inl (dA 0, 8, .inl (fun _ => 0)), by rw [(zq_we_17 (q := q) (q2 := q2) (g := g) (g2 := g2) (t0 := t0) (t1 := t1) (b := b) (aK := aK) (fz := fz) (dA := dA)).1]; rfl, Or.inl (zq_we_17 (q := q) (q2 := q2) (g := g) (g2 := g2) (t0 := t0) (t1 := t1) (b := b) (aK := aK) (fz := fz) (dA := dA)).2.symm⟩
  | 18, _ => exact ⟨.inl (dA 0, 8, .inl (fun _ => 0)), by rw [(zq_we_18 (q := q) (q2 := q2) (g := g) (g2 := g2) (t0 := t0) (t1 := t1) (b := b) (aK := aK) (fz := fz) (dA := dA)).1]; rfl, Or.inl (zq_we_18 (q := q) (q2 := q2) (g := g) (g2 := g2) (t0 := t0) (t1 := t1) (b := b) (aK := aK) (fz := fz) (dA := dA)).2.symm⟩
  | 19, _ => exact ⟨.inr (2, [.int 0, .int 0, .int 0, .int 0, .int 0, .int 0, .int 0, .int 0]), by rw [(zq_we_19 (q := q) (q2 := q2) (g := g) (g2 := g2) (t0 := t0) (t1 := t1) (b := b) (aK := aK) (fz := fz) (dA := dA)).1]; rfl, Or.inl (zq_we_19 (q := q) (q2 := q2) (g := g) (g2 := g2) (t0 := t0) (t1 := t1) (b := b) (aK := aK) (fz := fz) (dA := dA)).2.symm⟩
  | 20, _ => exact ⟨.inr (2, [.int 0, .int 0, .int 0, .int 0, .int 0, .int 0, .int 0, .int 0]), by rw [(zq_we_20 (q := q) (q2 := q2) (g := g) (g2 := g2) (t0 := t0) (t1 := t1) (b := b) (aK := aK) (fz := fz) (dA := dA)).1]; rfl, Or.inl (zq_we_20 (q := q) (q2 := q2) (g := g) (g2 := g2) (t0 := t0) (t1 := t1) (b := b) (aK := aK) (fz := fz) (dA := dA)).2.symm⟩
  | 21, _ => exact ⟨.inr (2, [.int 0, .int 0, .int 0, .int 0, .int 0, .int 0, .int 0, .int 0]), by rw [(zq_we_21 (q := q) (q2 := q2) (g := g) (g2 := g2) (t0 := t0) (t1 := t1) (b := b) (aK := aK) (fz := fz) (dA := dA)).1]; rfl, Or.inl (zq_we_21 (q := q) (q2 := q2) (g := g) (g2 := g2) (t0 := t0) (t1 := t1) (b := b) (aK := aK) (fz := fz) (dA := dA)).2.symm⟩
  | 22, _ => exact ⟨.inr (2, [.int 0, .int 0, .int 0, .int 0, .int 0, .int 0, .int 0, .int 0]), by rw [(zq_we_22 (q := q) (q2 := q2) (g := g) (g2 := g2) (t0 := t0) (t1 := t1) (b := b) (aK := aK) (fz := fz) (dA := dA)).1]; rfl, Or.inl (zq_we_22 (q := q) (q2 := q2) (g := g) (g2 := g2) (t0 := t0) (t1 := t1) (b := b) (aK := aK) (fz := fz) (dA := dA)).2.symm⟩
  | 23, _ => exact ⟨.inr (2, [.int 0, .int 0, .int 0, .int 0, .int 0, .int 0, .int 0, .int 0]), by rw [(zq_we_23 (q := q) (q2 := q2) (g := g) (g2 := g2) (t0 := t0) (t1 := t1) (b := b) (aK := aK) (fz := fz) (dA := dA)).1]; rfl, Or.inl (zq_we_23 (q := q) (q2 := q2) (g := g) (g2 := g2) (t0 := t0) (t1 := t1) (b := b) (aK := aK) (fz := fz) (dA := dA)).2.symm⟩
  | 24, _ => exact ⟨.inr (2, [.int 0, .int 0, .int 0, .int 0, .int 0, .int 0, .int 0, .int 0]), by rw [(zq_we_24 (q := q) (q2 := q2) (g := g) (g2 := g2) (t0 := t0) (t1 := t1) (b := b) (aK := aK) (fz := fz) (dA := dA)).1]; rfl, Or.inl (zq_we_24 (q := q) (q2 := q2) (g := g) (g2 := g2) (t0 := t0) (t1 := t1) (b := b) (aK := aK) (fz := fz) (dA := dA)).2.symm⟩
  | 25, _ => exact ⟨.inr (2, [.int 0, .int 0, .int 0, .int 0, .int 0, .int 0, .int 0, .int 0]), by rw [(zq_we_25 (q := q) (q2 := q2) (g := g) (g2 := g2) (t0 := t0) (t1 := t1) (b := b) (aK := aK) (fz := fz) (dA := dA)).1]; rfl, Or.inl (zq_we_25 (q := q) (q2 := q2) (g := g) (g2 := g2) (t0 := t0) (t1 := t1) (b := b) (aK := aK) (fz := fz) (dA := dA)).2.symm⟩
  | 26, _ => exact ⟨.inr (2, [.int 0, .int 0, .int 0, .int 0, .int 0, .int 0, .int 0, .int 0]), by rw [(zq_we_26 (q := q) (q2 := q2) (g := g) (g2 := g2) (t0 := t0) (t1 := t1) (b := b) (aK := aK) (fz := fz) (dA := dA)).1]; rfl, Or.inl (zq_we_26 (q := q) (q2 := q2) (g := g) (g2 := g2) (t0 := t0) (t1 := t1) (b := b) (aK := aK) (fz := fz) (dA := dA)).2.symm⟩
  | 27, _ => exact ⟨.inr (0, [.ref (g 27), .ref (g 28), .int 0, .int 0]), by rw [(zq_we_27 (q := q) (q2 := q2) (g := g) (g2 := g2) (t0 := t0) (t1 := t1) (b := b) (aK := aK) (fz := fz) (dA := dA)).1]; rfl, Or.inl (zq_we_27 (q := q) (q2 := q2) (g := g) (g2 := g2) (t0 := t0) (t1 := t1) (b := b) (aK := aK) (fz := fz) (dA := dA)).2.symm⟩
  | 28, _ => exact ⟨.inl (dA 0, 60, .inl (fun _ => 0)), by rw [(zq_we_28 (q := q) (q2 := q2) (g := g) (g2 := g2) (t0 := t0) (t1 := t1) (b := b) (aK := aK) (fz := fz) (dA := dA)).1]; rfl, Or.inl (zq_we_28 (q := q) (q2 := q2) (g := g) (g2 := g2) (t0 := t0) (t1 := t1) (b := b) (aK := aK) (fz := fz) (dA := dA)).2.symm⟩
  | 29, _ => exact ⟨.inl (dA 0, 60, .inl (fun _ => 0)), by rw [(zq_we_29 (q := q) (q2 := q2) (g := g) (g2 := g2) (t0 := t0) (t1 := t1) (b := b) (aK := aK) (fz := fz) (dA := dA)).1]; rfl, Or.inl (zq_we_29 (q := q) (q2 := q2) (g := g) (g2 := g2) (t0 := t0) (t1 := t1) (b := b) (aK := aK) (fz := fz) (dA := dA)).2.symm⟩
  | 30, _ => exact ⟨.inr (0, [.ref (g 30), .ref (g 31), .int 0, .int 0]), by rw [(zq_we_30 (q := q) (q2 := q2) (g := g) (g2 := g2) (t0 := t0) (t1 := t1) (b := b) (aK := aK) (fz := fz) (dA := dA)).1]; rfl, Or.inl (zq_we_30 (q := q) (q2 := q2) (g := g) (g2 := g2) (t0 := t0) (t1 := t1) (b := b) (aK := aK) (fz := fz) (dA := dA)).2.symm⟩
  | 31, _ => exact ⟨.inl (dA 0, 60, .inl (fun _ => 0)), by rw [(zq_we_31 (q := q) (q2 := q2) (g := g) (g2 := g2) (t0 := t0) (t1 := t1) (b := b) (aK := aK) (fz := fz) (dA := dA)).1]; rfl, Or.inl (zq_we_31 (q := q) (q2 := q2) (g := g) (g2 := g2) (t0 := t0) (t1 := t1) (b := b) (aK := aK) (fz := fz) (dA := dA)).2.symm⟩
  | 32, _ => exact ⟨.inl (dA 0, 60, .inl (fun _ => 0)), by rw [(zq_we_32 (q := q) (q2 := q2) (g := g) (g2 := g2) (t0 := t0) (t1 := t1) (b := b) (aK := aK) (fz := fz) (dA := dA)).1]; rfl, Or.inl (zq_we_32 (q := q) (q2 := q2) (g := g) (g2 := g2) (t0 := t0) (t1 := t1) (b := b) (aK := aK) (fz := fz) (dA := dA)).2.symm⟩
  | 33, _ => exact ⟨.inr (6, [.ref (g 33), .ref (g 34), .ref (g 35), .ref (g 36), .ref (g 37), .int 0, .int 0, .int 0, .int 0, .int 0, .int 0, .int 0, .int 0, .int 1]), by rw [(zq_we_33 (q := q) (q2 := q2) (g := g) (g2 := g2) (t0 := t0) (t1 := t1) (b := b) (aK := aK) (fz := fz) (dA := dA)).1]; rfl, Or.inl (zq_we_33 (q := q) (q2 := q2) (g := g) (g2 := g2) (t0 := t0) (t1 := t1) (b := b) (aK := aK) (fz := fz) (dA := dA)).2.symm⟩
  | 34, _ => exact ⟨.inl (dA 4, 4, .inr (.inr (.inr (.inr (fun i => some (g (33 + (5 + 3 * i)))))))), by rw [(zq_we_34 (q := q) (q2 := q2) (g := g) (g2 := g2) (t0 := t0) (t1 := t1) (b := b) (aK := aK) (fz := fz) (dA := dA)).1]; rfl, (zq_we_34 (q := q) (q2 := q2) (g := g) (g2 := g2) (t0 := t0) (t1 := t1) (b := b) (aK := aK) (fz := fz) (dA := dA)).2⟩
  | 35, _ => exact ⟨.inl (dA 2, 8, .inr (.inr (.inr (.inr (fun i => some (g (33 + (17 + i)))))))), by rw [(zq_we_35 (q := q) (q2 := q2) (g := g) (g2 := g2) (t0 := t0) (t1 := t1) (b := b) (aK := aK) (fz := fz) (dA := dA)).1]; rfl, (zq_we_35 (q := q) (q2 := q2) (g := g) (g2 := g2) (t0 := t0) (t1 := t1) (b := b) (aK := aK) (fz := fz) (dA := dA)).2⟩
  | 36, _ => exact ⟨.inl (dA 1, 2, .inr (.inr (.inr (.inr (fun i => some (g (33 + (25 + 3 * i)))))))), by rw [(zq_we_36 (q := q) (q2 := q2) (g := g) (g2 := g2) (t0 := t0) (t1 := t1) (b := b) (aK := aK) (fz := fz) (dA := dA)).1]; rfl, (zq_we_36 (q := q) (q2 := q2) (g := g) (g2 := g2) (t0 := t0) (t1 := t1) (b := b) (aK := aK) (fz := fz) (dA := dA)).2⟩
  | 37, _ => exact ⟨.inl (dA 0, 60, .inl (fun _ => 0)), by rw [(zq_we_37 (q := q) (q2 := q2) (g := g) (g2 := g2) (t0 := t0) (t1 := t1) (b := b) (aK := aK) (fz := fz) (dA := dA)).1]; rfl, Or.inl (zq_we_37 (q := q) (q2 := q2) (g := g) (g2 := g2) (t0 := t0) (t1 := t1) (b := b) (aK := aK) (fz := fz) (dA := dA)).2.symm⟩
  | 38, _ => exact ⟨.inl (dA 0, 24, .inl (fun _ => 0)), by rw [(zq_we_38 (q := q) (q2 := q2) (g := g) (g2 := g2) (t0 := t0) (t1 := t1) (b := b) (aK := aK) (fz := fz) (dA := dA)).1]; rfl, Or.inl (zq_we_38 (q := q) (q2 := q2) (g := g) (g2 := g2) (t0 := t0) (t1 := t1) (b := b) (aK := aK) (fz := fz) (dA := dA)).2.symm⟩
  | 39, _ => exact ⟨.inr (5, [.ref (g 39), .ref (g 40), .int 0, .int 0, .int 0, .int 0, .int 0, .int 0, .int 0, .int (-1)]), by rw [(zq_we_39 (q := q) (q2 := q2) (g := g) (g2 := g2) (t0 := t0) (t1 := t1) (b := b) (aK := aK) (fz := fz) (dA := dA)).1]; rfl, Or.inl (zq_we_39 (q := q) (q2 := q2) (g := g) (g2 := g2) (t0 := t0) (t1 := t1) (b := b) (aK := aK) (fz := fz) (dA := dA)).2.symm⟩
  | 40, _ => exact ⟨.inl (dA 0, 8, .inl (fun _ => 0)), by rw [(zq_we_40 (q := q) (q2 := q2) (g := g) (g2 := g2) (t0 := t0) (t1 := t1) (b := b) (aK := aK) (fz := fz) (dA := dA)).1]; rfl, Or.inl (zq_we_40 (q := q) (q2 := q2) (g := g) (g2 := g2) (t0 := t0) (t1 := t1) (b := b) (aK := aK) (fz := fz) (dA := dA)).2.symm⟩
  | 41, _ => exact ⟨.inl (dA 0, 8, .inl (fun _ => 0)), by rw [(zq_we_41 (q := q) (q2 := q2) (g := g) (g2 := g2) (t0 := t0) (t1 := t1) (b := b) (aK := aK) (fz := fz) (dA := dA)).1]; rfl, Or.inl (zq_we_41 (q := q) (q2 := q2) (g := g) (g2 := g2) (t0 := t0) (t1 := t1) (b := b) (aK := aK) (fz := fz) (dA := dA)).2.symm⟩
  | 42, _ => exact ⟨.inr (5, [.ref (g 42), .ref (g 43), .int 0, .int 0, .int 0, .int 0, .int 0, .int 0, .int 0, .int (-1)]), by rw [(zq_we_42 (q := q) (q2 := q2) (g := g) (g2 := g2) (t0 := t0) (t1 := t1) (b := b) (aK := aK) (fz := fz) (dA := dA)).1]; rfl, Or.inl (zq_we_42 (q := q) (q2 := q2) (g := g) (g2 := g2) (t0 := t0) (t1 := t1) (b := b) (aK := aK) (fz := fz) (dA := dA)).2.symm⟩
  | 43, _ => exact ⟨.inl (dA 0, 8, .inl (fun _ => 0)), by rw [(zq_we_43 (q := q) (q2 := q2) (g := g) (g2 := g2) (t0 := t0) (t1 := t1) (b := b) (aK := aK) (fz := fz) (dA := dA)).1]; rfl, Or.inl (zq_we_43 (q := q) (q2 := q2) (g := g) (g2 := g2) (t0 := t0) (t1 := t1) (b := b) (aK := aK) (fz := fz) (dA := dA)).2.symm⟩
  | 44, _ => exact ⟨.inl (dA 0, 8, .inl (fun _ => 0)), by rw [(zq_we_44 (q := q) (q2 := q2) (g := g) (g2 := g2) (t0 := t0) (t1 := t1) (b := b) (aK := aK) (fz := fz) (dA := dA)).1]; rfl, Or.inl (zq_we_44 (q := q) (q2 := q2) (g := g) (g2 := g2) (t0 := t0) (t1 := t1) (b := b) (aK := aK) (fz := fz) (dA := dA)).2.symm⟩
  | 45, _ => exact ⟨.inr (5, [.ref (g 45), .ref (g 46), .int 0, .int 0, .int 0, .int 0, .int 0, .int 0, .int 0, .int (-1)]), by rw [(zq_we_45 (q := q) (q2 := q2) (g := g) (g2 := g2) (t0 := t0) (t1 := t1) (b := b) (aK := aK) (fz := fz) (dA := dA)).1]; rfl, Or.inl (zq_we_45 (q := q) (q2 := q2) (g := g) (g2 := g2) (t0 := t0) (t1 := t1) (b := b) (aK := aK) (fz := fz) (dA := dA)).2.symm⟩
  | 46, _ => exact ⟨.inl (dA 0, 8, .inl (fun _ => 0)), by rw [(zq_we_46 (q := q) (q2 := q2) (g := g) (g2 := g2) (t0 := t0) (t1 := t1) (b := b) (aK := aK) (fz := fz) (dA := dA)).1]; rfl, Or.inl (zq_we_46 (q := q) (q2 := q2) (g := g) (g2 := g2) (t0 := t0) (t1 := t1) (b := b) (aK := aK) (fz := fz) (dA := dA)).2.symm⟩
  | 47, _ => exact ⟨.inl (dA 0, 8, .inl (fun _ => 0)), by rw [(zq_we_47 (q := q) (q2 := q2) (g := g) (g2 := g2) (t0 := t0) (t1 := t1) (b := b) (aK := aK) (fz := fz) (dA := dA)).1]; rfl, Or.inl (zq_we_47 (q := q) (q2 := q2) (g := g) (g2 := g2) (t0 := t0) (t1 := t1) (b := b) (aK := aK) (fz := fz) (dA := dA)).2.symm⟩
  | 48, _ => exact ⟨.inr (5, [.ref (g 48), .ref (g 49), .int 0, .int 0, .int 0, .int 0, .int 0, .int 0, .int 0, .int (-1)]), by rw [(zq_we_48 (q := q) (q2 := q2) (g := g) (g2 := g2) (t0 := t0) (t1 := t1) (b := b) (aK := aK) (fz := fz) (dA := dA)).1]; rfl, Or.inl (zq_we_48 (q := q) (q2 := q2) (g := g) (g2 := g2) (t0 := t0) (t1 := t1) (b := b) (aK := aK) (fz := fz) (dA := dA)).2.symm⟩
  | 49, _ => exact ⟨.inl (dA 0, 8, .inl (fun _ => 0)), by rw [(zq_we_49 (q := q) (q2 := q2) (g := g) (g2 := g2) (t0 := t0) (t1 := t1) (b := b) (aK := aK) (fz := fz) (dA := dA)).1]; rfl, Or.inl (zq_we_49 (q := q) (q2 := q2) (g := g) (g2 := g2) (t0 := t0) (t1 := t1) (b := b) (aK := aK) (fz := fz) (dA := dA)).2.symm⟩
  | 50, _ => exact ⟨.inl (dA 0, 8, .inl (fun _ => 0)), by rw [(zq_we_50 (q := q) (q2 := q2) (g := g) (g2 := g2) (t0 := t0) (t1 := t1) (b := b) (aK := aK) (fz := fz) (dA := dA)).1]; rfl, Or.inl (zq_we_50 (q := q) (q2 := q2) (g := g) (g2 := g2) (t0 := t0) (t1 := t1) (b := b) (aK := aK) (fz := fz) (dA := dA)).2.symm⟩
  | 51, _ => exact ⟨.inr (2, [.int 0, .int 0, .int 0, .int 0, .int 0, .int 0, .int 0, .int 0]), by rw [(zq_we_51 (q := q) (q2 := q2) (g := g) (g2 := g2) (t0 := t0) (t1 := t1) (b := b) (aK := aK) (fz := fz) (dA := dA)).1]; rfl, Or.inl (zq_we_51 (q := q) (q2 := q2) (g := g) (g2 := g2) (t0 := t0) (t1 := t1) (b := b) (aK := aK) (fz := fz) (dA := dA)).2.symm⟩
  | 52, _ => exact ⟨.inr (2, [.int 0, .int 0, .int 0, .int 0, .int 0, .int 0, .int 0, .int 0]), by rw [(zq_we_52 (q := q) (q2 := q2) (g := g) (g2 := g2) (t0 := t0) (t1 := t1) (b := b) (aK := aK) (fz := fz) (dA := dA)).1]; rfl, Or.inl (zq_we_52 (q := q) (q2 := q2) (g := g) (g2 := g2) (t0 := t0) (t1 := t1) (b := b) (aK := aK) (fz := fz) (dA := dA)).2.symm⟩
  | 53, _ => exact ⟨.inr (2, [.int 0, .int 0, .int 0, .int 0, .int 0, .int 0, .int 0, .int 0]), by rw [(zq_we_53 (q := q) (q2 := q2) (g := g) (g2 := g2) (t0 := t0) (t1 := t1) (b := b) (aK := aK) (fz := fz) (dA := dA)).1]; rfl, Or.inl (zq_we_53 (q := q) (q2 := q2) (g := g) (g2 := g2) (t0 := t0) (t1 := t1) (b := b) (aK := aK) (fz := fz) (dA := dA)).2.symm⟩
  | 54, _ => exact ⟨.inr (2, [.int 0, .int 0, .int 0, .int 0, .int 0, .int 0, .int 0, .int 0]), by rw [(zq_we_54 (q := q) (q2 := q2) (g := g) (g2 := g2) (t0 := t0) (t1 := t1) (b := b) (aK := aK) (fz := fz) (dA := dA)).1]; rfl, Or.inl (zq_we_54 (q := q) (q2 := q2) (g := g) (g2 := g2) (t0 := t0) (t1 := t1) (b := b) (aK := aK) (fz := fz) (dA := dA)).2.symm⟩
  | 55, _ => exact ⟨.inr (2, [.int 0, .int 0, .int 0, .int 0, .int 0, .int 0, .int 0, .int 0]), by rw [(zq_we_55 (q := q) (q2 := q2) (g := g) (g2 := g2) (t0 := t0) (t1 := t1) (b := b) (aK := aK) (fz := fz) (dA := dA)).1]; rfl, Or.inl (zq_we_55 (q := q) (q2 := q2) (g := g) (g2 := g2) (t0 := t0) (t1 := t1) (b := b) (aK := aK) (fz := fz) (dA := dA)).2.symm⟩
  | 56, _ => exact ⟨.inr (2, [.int 0, .int 0, .int 0, .int 0, .int 0, .int 0, .int 0, .int 0]), by rw [(zq_we_56 (q := q) (q2 := q2) (g := g) (g2 := g2) (t0 := t0) (t1 := t1) (b := b) (aK := aK) (fz := fz) (dA := dA)).1]; rfl, Or.inl (zq_we_56 (q := q) (q2 := q2) (g := g) (g2 := g2) (t0 := t0) (t1 := t1) (b := b) (aK := aK) (fz := fz) (dA := dA)).2.symm⟩
  | 57, _ => exact ⟨.inr (2, [.int 0, .int 0, .int 0, .int 0, .int 0, .int 0, .int 0, .int 0]), by rw [(zq_we_57 (q := q) (q2 := q2) (g := g) (g2 := g2) (t0 := t0) (t1 := t1) (b := b) (aK := aK) (fz := fz) (dA := dA)).1]; rfl, Or.inl (zq_we_57 (q := q) (q2 := q2) (g := g) (g2 := g2) (t0 := t0) (t1 := t1) (b := b) (aK := aK) (fz := fz) (dA := dA)).2.symm⟩
  | 58, _ => exact ⟨.inr (2, [.int 0, .int 0, .int 0, .int 0, .int 0, .int 0, .int 0, .int 0]), by rw [(zq_we_58 (q := q) (q2 := q2) (g := g) (g2 := g2) (t0 := t0) (t1 := t1) (b := b) (aK := aK) (fz := fz) (dA := dA)).1]; rfl, Or.inl (zq_we_58 (q := q) (q2 := q2) (g := g) (g2 := g2) (t0 := t0) (t1 := t1) (b := b) (aK := aK) (fz := fz) (dA := dA)).2.symm⟩
  | 59, _ => exact ⟨.inr (0, [.ref (g 59), .ref (g 60), .int 0, .int 0]), by rw [(zq_we_59 (q := q) (q2 := q2) (g := g) (g2 := g2) (t0 := t0) (t1 := t1) (b := b) (aK := aK) (fz := fz) (dA := dA)).1]; rfl, Or.inl (zq_we_59 (q := q) (q2 := q2) (g := g) (g2 := g2) (t0 := t0) (t1 := t1) (b := b) (aK := aK) (fz := fz) (dA := dA)).2.symm⟩
  | 60, _ => exact ⟨.inl (dA 0, 60, .inl (fun _ => 0)), by rw [(zq_we_60 (q := q) (q2 := q2) (g := g) (g2 := g2) (t0 := t0) (t1 := t1) (b := b) (aK := aK) (fz := fz) (dA := dA)).1]; rfl, Or.inl (zq_we_60 (q := q) (q2 := q2) (g := g) (g2 := g2) (t0 := t0) (t1 := t1) (b := b) (aK := aK) (fz := fz) (dA := dA)).2.symm⟩
  | 61, _ => exact ⟨.inl (dA 0, 60, .inl (fun _ => 0)), by rw [(zq_we_61 (q := q) (q2 := q2) (g := g) (g2 := g2) (t0 := t0) (t1 := t1) (b := b) (aK := aK) (fz := fz) (dA := dA)).1]; rfl, Or.inl (zq_we_61 (q := q) (q2 := q2) (g := g) (g2 := g2) (t0 := t0) (t1 := t1) (b := b) (aK := aK) (fz := fz) (dA := dA)).2.symm⟩
  | 62, _ => exact ⟨.inr (0, [.ref (g 62), .ref (g 63), .int 0, .int 0]), by rw [(zq_we_62 (q := q) (q2 := q2) (g := g) (g2 := g2) (t0 := t0) (t1 := t1) (b := b) (aK := aK) (fz := fz) (dA := dA)).1]; rfl, Or.inl (zq_we_62 (q := q) (q2 := q2) (g := g) (g2 := g2) (t0 := t0) (t1 := t1) (b := b) (aK := aK) (fz := fz) (dA := dA)).2.symm⟩
  | 63, _ => exact ⟨.inl (dA 0, 60, .inl (fun _ => 0)), by rw [(zq_we_63 (q := q) (q2 := q2) (g := g) (g2 := g2) (t0 := t0) (t1 := t1) (b := b) (aK := aK) (fz := fz) (dA := dA)).1]; rfl, Or.inl (zq_we_63 (q := q) (q2 := q2) (g := g) (g2 := g2) (t0 := t0) (t1 := t1) (b := b) (aK := aK) (fz := fz) (dA := dA)).2.symm⟩
  | 64, _ => exact ⟨.inl (dA 0, 60, .inl (fun _ => 0)), by rw [(zq_we_64 (q := q) (q2 := q2) (g := g) (g2 := g2) (t0 := t0) (t1 := t1) (b := b) (aK := aK) (fz := fz) (dA := dA)).1]; rfl, Or.inl (zq_we_64 (q := q) (q2 := q2) (g := g) (g2 := g2) (t0 := t0) (t1 := t1) (b := b) (aK := aK) (fz := fz) (dA := dA)).2.symm⟩
  | 65, _ => exact ⟨.inr (6, [.ref (g 65), .ref (g 66), .ref (g 67), .ref (g 68), .ref (g 69), .int 0, .int 0, .int 0, .int 0, .int 0, .int 0, .int 0, .int 0, .int 1]), by rw [(zq_we_65 (q := q) (q2 := q2) (g := g) (g2 := g2) (t0 := t0) (t1 := t1) (b := b) (aK := aK) (fz := fz) (dA := dA)).1]; rfl, Or.inl (zq_we_65 (q := q) (q2 := q2) (g := g) (g2 := g2) (t0 := t0) (t1 := t1) (b := b) (aK := aK) (fz := fz) (dA := dA)).2.symm⟩
  | 66, _ => exact ⟨.inl (dA 4, 4, .inr (.inr (.inr (.inr (fun i => some (g (65 + (5 + 3 * i)))))))), by rw [(zq_we_66 (q := q) (q2 := q2) (g := g) (g2 := g2) (t0 := t0) (t1 := t1) (b := b) (aK := aK) (fz := fz) (dA := dA)).1]; rfl, (zq_we_66 (q := q) (q2 := q2) (g := g) (g2 := g2) (t0 := t0) (t1 := t1) (b := b) (aK := aK) (fz := fz) (dA := dA)).2⟩
  | 67, _ => exact ⟨.inl (dA 2, 8, .inr (.inr (.inr (.inr (fun i => some (g (65 + (17 + i)))))))), by rw [(zq_we_67 (q := q) (q2 := q2) (g := g) (g2 := g2) (t0 := t0) (t1 := t1) (b := b) (aK := aK) (fz := fz) (dA := dA)).1]; rfl, (zq_we_67 (q := q) (q2 := q2) (g := g) (g2 := g2) (t0 := t0) (t1 := t1) (b := b) (aK := aK) (fz := fz) (dA := dA)).2⟩
  | 68, _ => exact ⟨.inl (dA 1, 2, .inr (.inr (.inr (.inr (fun i => some (g (65 + (25 + 3 * i)))))))), by rw [(zq_we_68 (q := q) (q2 := q2) (g := g) (g2 := g2) (t0 := t0) (t1 := t1) (b := b) (aK := aK) (fz := fz) (dA := dA)).1]; rfl, (zq_we_68 (q := q) (q2 := q2) (g := g) (g2 := g2) (t0 := t0) (t1 := t1) (b := b) (aK := aK) (fz := fz) (dA := dA)).2⟩
  | 69, _ => exact ⟨.inl (dA 0, 60, .inl (fun _ => 0)), by rw [(zq_we_69 (q := q) (q2 := q2) (g := g) (g2 := g2) (t0 := t0) (t1 := t1) (b := b) (aK := aK) (fz := fz) (dA := dA)).1]; rfl, Or.inl (zq_we_69 (q := q) (q2 := q2) (g := g) (g2 := g2) (t0 := t0) (t1 := t1) (b := b) (aK := aK) (fz := fz) (dA := dA)).2.symm⟩
  | 70, _ => exact ⟨.inl (dA 0, 24, .inl (fun _ => 0)), by rw [(zq_we_70 (q := q) (q2 := q2) (g := g) (g2 := g2) (t0 := t0) (t1 := t1) (b := b) (aK := aK) (fz := fz) (dA := dA)).1]; rfl, Or.inl (zq_we_70 (q := q) (q2 := q2) (g := g) (g2 := g2) (t0 := t0) (t1 := t1) (b := b) (aK := aK) (fz := fz) (dA := dA)).2.symm⟩
  | 71, _ => exact ⟨.inr (5, [.ref (g 71), .ref (g 72), .int 0, .int 0, .int 0, .int 0, .int 0, .int 0, .int 0, .int (-1)]), by rw [(zq_we_71 (q := q) (q2 := q2) (g := g) (g2 := g2) (t0 := t0) (t1 := t1) (b := b) (aK := aK) (fz := fz) (dA := dA)).1]; rfl, Or.inl (zq_we_71 (q := q) (q2 := q2) (g := g) (g2 := g2) (t0 := t0) (t1 := t1) (b := b) (aK := aK) (fz := fz) (dA := dA)).2.symm⟩
  | 72, _ => exact ⟨.inl (dA 0, 8, .inl (fun _ => 0)), by rw [(zq_we_72 (q := q) (q2 := q2) (g := g) (g2 := g2) (t0 := t0) (t1 := t1) (b := b) (aK := aK) (fz := fz) (dA := dA)).1]; rfl, Or.inl (zq_we_72 (q := q) (q2 := q2) (g := g) (g2 := g2) (t0 := t0) (t1 := t1) (b := b) (aK := aK) (fz := fz) (dA := dA)).2.symm⟩
  | 73, _ => exact ⟨.inl (dA 0, 8, .inl (fun _ => 0)), by rw [(zq_we_73 (q := q) (q2 := q2) (g := g) (g2 := g2) (t0 := t0) (t1 := t1) (b := b) (aK := aK) (fz := fz) (dA := dA)).1]; rfl, Or.inl (zq_we_73 (q := q) (q2 := q2) (g := g) (g2 := g2) (t0 := t0) (t1 := t1) (b := b) (aK := aK) (fz := fz) (dA := dA)).2.symm⟩
  | 74, _ => exact ⟨.inr (5, [.ref (g 74), .ref (g 75), .int 0, .int 0, .int 0, .int 0, .int 0, .int 0, .int 0, .int (-1)]), by rw [(zq_we_74 (q := q) (q2 := q2) (g := g) (g2 := g2) (t0 := t0) (t1 := t1) (b := b) (aK := aK) (fz := fz) (dA := dA)).1]; rfl, Or.inl (zq_we_74 (q := q) (q2 := q2) (g := g) (g2 := g2) (t0 := t0) (t1 := t1) (b := b) (aK := aK) (fz := fz) (dA := dA)).2.symm⟩
  | 75, _ => exact ⟨.inl (dA 0, 8, .inl (fun _ => 0)), by rw [(zq_we_75 (q := q) (q2 := q2) (g := g) (g2 := g2) (t0 := t0) (t1 := t1) (b := b) (aK := aK) (fz := fz) (dA := dA)).1]; rfl, Or.inl (zq_we_75 (q := q) (q2 := q2) (g := g) (g2 := g2) (t0 := t0) (t1 := t1) (b := b) (aK := aK) (fz := fz) (dA := dA)).2.symm⟩
  | 76, _ => exact ⟨.inl (dA 0, 8, .inl (fun _ => 0)), by rw [(zq_we_76 (q := q) (q2 := q2) (g := g) (g2 := g2) (t0 := t0) (t1 := t1) (b := b) (aK := aK) (fz := fz) (dA := dA)).1]; rfl, Or.inl (zq_we_76 (q := q) (q2 := q2) (g := g) (g2 := g2) (t0 := t0) (t1 := t1) (b := b) (aK := aK) (fz := fz) (dA := dA)).2.symm⟩
  | 77, _ => exact ⟨.inr (5, [.ref (g 77), .ref (g 78), .int 0, .int 0, .int 0, .int 0, .int 0, .int 0, .int 0, .int (-1)]), by rw [(zq_we_77 (q := q) (q2 := q2) (g := g) (g2 := g2) (t0 := t0) (t1 := t1) (b := b) (aK := aK) (fz := fz) (dA := dA)).1]; rfl, Or.inl (zq_we_77 (q := q) (q2 := q2) (g := g) (g2 := g2) (t0 := t0) (t1 := t1) (b := b) (aK := aK) (fz := fz) (dA := dA)).2.symm⟩
  | 78, _ => exact ⟨.inl (dA 0, 8, .inl (fun _ => 0)), by rw [(zq_we_78 (q := q) (q2 := q2) (g := g) (g2 := g2) (t0 := t0) (t1 := t1) (b := b) (aK := aK) (fz := fz) (dA := dA)).1]; rfl, Or.inl (zq_we_78 (q := q) (q2 := q2) (g := g) (g2 := g2) (t0 := t0) (t1 := t1) (b := b) (aK := aK) (fz := fz) (dA := dA)).2.symm⟩
  | 79, _ => exact ⟨.inl (dA 0, 8, .inl (fun _ => 0)), by rw [(zq_we_79 (q := q) (q2 := q2) (g := g) (g2 := g2) (t0 := t0) (t1 := t1) (b := b) (aK := aK) (fz := fz) (dA := dA)).1]; rfl, Or.inl (zq_we_79 (q := q) (q2 := q2) (g := g) (g2 := g2) (t0 := t0) (t1 := t1) (b := b) (aK := aK) (fz := fz) (dA := dA)).2.symm⟩
  | 80, _ => exact ⟨.inr (5, [.ref (g 80), .ref (g 81), .int 0, .int 0, .int 0, .int 0, .int 0, .int 0, .int 0, .int (-1)]), by rw [(zq_we_80 (q := q) (q2 := q2) (g := g) (g2 := g2) (t0 := t0) (t1 := t1) (b := b) (aK := aK) (fz := fz) (dA := dA)).1]; rfl, Or.inl (zq_we_80 (q := q) (q2 := q2) (g := g) (g2 := g2) (t0 := t0) (t1 := t1) (b := b) (aK := aK) (fz := fz) (dA := dA)).2.symm⟩
  | 81, _ => exact ⟨.inl (dA 0, 8, .inl (fun _ => 0)), by rw [(zq_we_81 (q := q) (q2 := q2) (g := g) (g2 := g2) (t0 := t0) (t1 := t1) (b := b) (aK := aK) (fz := fz) (dA := dA)).1]; rfl, Or.inl (zq_we_81 (q := q) (q2 := q2) (g := g) (g2 := g2) (t0 := t0) (t1 := t1) (b := b) (aK := aK) (fz := fz) (dA := dA)).2.symm⟩
  | 82, _ => exact ⟨.inl (dA 0, 8, .inl (fun _ => 0)), by rw [(zq_we_82 (q := q) (q2 := q2) (g := g) (g2 := g2) (t0 := t0) (t1 := t1) (b := b) (aK := aK) (fz := fz) (dA := dA)).1]; rfl, Or.inl (zq_we_82 (q := q) (q2 := q2) (g := g) (g2 := g2) (t0 := t0) (t1 := t1) (b := b) (aK := aK) (fz := fz) (dA := dA)).2.symm⟩
  | 83, _ => exact ⟨.inr (2, [.int 0, .int 0, .int 0, .int 0, .int 0, .int 0, .int 0, .int 0]), by rw [(zq_we_83 (q := q) (q2 := q2) (g := g) (g2 := g2) (t0 := t0) (t1 := t1) (b := b) (aK := aK) (fz := fz) (dA := dA)).1]; rfl, Or.inl (zq_we_83 (q := q) (q2 := q2) (g := g) (g2 := g2) (t0 := t0) (t1 := t1) (b := b) (aK := aK) (fz := fz) (dA := dA)).2.symm⟩
  | 84, _ => exact ⟨.inr (2, [.int 0, .int 0, .int 0, .int 0, .int 0, .int 0, .int 0, .int 0]), by rw [(zq_we_84 (q := q) (q2 := q2) (g := g) (g2 := g2) (t0 := t0) (t1 := t1) (b := b) (aK := aK) (fz := fz) (dA := dA)).1]; rfl, Or.inl (zq_we_84 (q := q) (q2 := q2) (g := g) (g2 := g2) (t0 := t0) (t1 := t1) (b := b) (aK := aK) (fz := fz) (dA := dA)).2.symm⟩
  | 85, _ => exact ⟨.inr (2, [.int 0, .int 0, .int 0, .int 0, .int 0, .int 0, .int 0, .int 0]), by rw [(zq_we_85 (q := q) (q2 := q2) (g := g) (g2 := g2) (t0 := t0) (t1 := t1) (b := b) (aK := aK) (fz := fz) (dA := dA)).1]; rfl, Or.inl (zq_we_85 (q := q) (q2 := q2) (g := g) (g2 := g2) (t0 := t0) (t1 := t1) (b := b) (aK := aK) (fz := fz) (dA := dA)).2.symm⟩
  | 86, _ => exact ⟨.inr (2, [.int 0, .int 0, .int 0, .int 0, .int 0, .int 0, .int 0, .int 0]), by rw [(zq_we_86 (q := q) (q2 := q2) (g := g) (g2 := g2) (t0 := t0) (t1 := t1) (b := b) (aK := aK) (fz := fz) (dA := dA)).1]; rfl, Or.inl (zq_we_86 (q := q) (q2 := q2) (g := g) (g2 := g2) (t0 := t0) (t1 := t1) (b := b) (aK := aK) (fz := fz) (dA := dA)).2.symm⟩
  | 87, _ => exact ⟨.inr (2, [.int 0, .int 0, .int 0, .int 0, .int 0, .int 0, .int 0, .int 0]), by rw [(zq_we_87 (q := q) (q2 := q2) (g := g) (g2 := g2) (t0 := t0) (t1 := t1) (b := b) (aK := aK) (fz := fz) (dA := dA)).1]; rfl, Or.inl (zq_we_87 (q := q) (q2 := q2) (g := g) (g2 := g2) (t0 := t0) (t1 := t1) (b := b) (aK := aK) (fz := fz) (dA := dA)).2.symm⟩
  | 88, _ => exact ⟨.inr (2, [.int 0, .int 0, .int 0, .int 0, .int 0, .int 0, .int 0, .int 0]), by rw [(zq_we_88 (q := q) (q2 := q2) (g := g) (g2 := g2) (t0 := t0) (t1 := t1) (b := b) (aK := aK) (fz := fz) (dA := dA)).1]; rfl, Or.inl (zq_we_88 (q := q) (q2 := q2) (g := g) (g2 := g2) (t0 := t0) (t1 := t1) (b := b) (aK := aK) (fz := fz) (dA := dA)).2.symm⟩
  | 89, _ => exact ⟨.inr (2, [.int 0, .int 0, .int 0, .int 0, .int 0, .int 0, .int 0, .int 0]), by rw [(zq_we_89 (q := q) (q2 := q2) (g := g) (g2 := g2) (t0 := t0) (t1 := t1) (b := b) (aK := aK) (fz := fz) (dA := dA)).1]; rfl, Or.inl (zq_we_89 (q := q) (q2 := q2) (g := g) (g2 := g2) (t0 := t0) (t1 := t1) (b := b) (aK := aK) (fz := fz) (dA := dA)).2.symm⟩
  | 90, _ => exact ⟨.inr (2, [.int 0, .int 0, .int 0, .int 0, .int 0, .int 0, .int 0, .int 0]), by rw [(zq_we_90 (q := q) (q2 := q2) (g := g) (g2 := g2) (t0 := t0) (t1 := t1) (b := b) (aK := aK) (fz := fz) (dA := dA)).1]; rfl, Or.inl (zq_we_90 (q := q) (q2 := q2) (g := g) (g2 := g2) (t0 := t0) (t1 := t1) (b := b) (aK := aK) (fz := fz) (dA := dA)).2.symm⟩
  | 91, _ => exact ⟨.inr (0, [.ref (g 91), .ref (g 92), .int 0, .int 0]), by rw [(zq_we_91 (q := q) (q2 := q2) (g := g) (g2 := g2) (t0 := t0) (t1 := t1) (b := b) (aK := aK) (fz := fz) (dA := dA)).1]; rfl, Or.inl (zq_we_91 (q := q) (q2 := q2) (g := g) (g2 := g2) (t0 := t0) (t1 := t1) (b := b) (aK := aK) (fz := fz) (dA := dA)).2.symm⟩
  | 92, _ => exact ⟨.inl (dA 0, 60, .inl (fun _ => 0)), by rw [(zq_we_92 (q := q) (q2 := q2) (g := g) (g2 := g2) (t0 := t0) (t1 := t1) (b := b) (aK := aK) (fz := fz) (dA := dA)).1]; rfl, Or.inl (zq_we_92 (q := q) (q2 := q2) (g := g) (g2 := g2) (t0 := t0) (t1 := t1) (b := b) (aK := aK) (fz := fz) (dA := dA)).2.symm⟩
  | 93, _ => exact ⟨.inl (dA 0, 60, .inl (fun _ => 0)), by rw [(zq_we_93 (q := q) (q2 := q2) (g := g) (g2 := g2) (t0 := t0) (t1 := t1) (b := b) (aK := aK) (fz := fz) (dA := dA)).1]; rfl, Or.inl (zq_we_93 (q := q) (q2 := q2) (g := g) (g2 := g2) (t0 := t0) (t1 := t1) (b := b) (aK := aK) (fz := fz) (dA := dA)).2.symm⟩
  | 94, _ => exact ⟨.inr (0, [.ref (g 94), .ref (g 95), .int 0, .int 0]), by rw [(zq_we_94 (q := q) (q2 := q2) (g := g) (g2 := g2) (t0 := t0) (t1 := t1) (b := b) (aK := aK) (fz := fz) (dA := dA)).1]; rfl, Or.inl (zq_we_94 (q := q) (q2 := q2) (g := g) (g2 := g2) (t0 := t0) (t1 := t1) (b := b) (aK := aK) (fz := fz) (dA := dA)).2.symm⟩
  | 95, _ => exact ⟨.inl (dA 0, 60, .inl (fun _ => 0)), by rw [(zq_we_95 (q := q) (q2 := q2) (g := g) (g2 := g2) (t0 := t0) (t1 := t1) (b := b) (aK := aK) (fz := fz) (dA := dA)).1]; rfl, Or.inl (zq_we_95 (q := q) (q2 := q2) (g := g) (g2 := g2) (t0 := t0) (t1 := t1) (b := b) (aK := aK) (fz := fz) (dA := dA)).2.symm⟩
  | 96, _ => exact ⟨.inl (dA 0, 60, .inl (fun _ => 0)), by rw [(zq_we_96 (q := q) (q2 := q2) (g := g) (g2 := g2) (t0 := t0) (t1 := t1) (b := b) (aK := aK) (fz := fz) (dA := dA)).1]; rfl, Or.inl (zq_we_96 (q := q) (q2 := q2) (g := g) (g2 := g2) (t0 := t0) (t1 := t1) (b := b) (aK := aK) (fz := fz) (dA := dA)).2.symm⟩
  | 97, _ => exact ⟨.inr (1, [.ref (g 97), .ref (g 98), .int 0, .int 0, .int 0, .int 0, .int 0]), by rw [(zq_we_97 (q := q) (q2 := q2) (g := g) (g2 := g2) (t0 := t0) (t1 := t1) (b := b) (aK := aK) (fz := fz) (dA := dA)).1]; rfl, Or.inl (zq_we_97 (q := q) (q2 := q2) (g := g) (g2 := g2) (t0 := t0) (t1 := t1) (b := b) (aK := aK) (fz := fz) (dA := dA)).2.symm⟩
  | 98, _ => exact ⟨.inl (dA 0, 60, .inl (fun _ => 0)), by rw [(zq_we_98 (q := q) (q2 := q2) (g := g) (g2 := g2) (t0 := t0) (t1 := t1) (b := b) (aK := aK) (fz := fz) (dA := dA)).1]; rfl, Or.inl (zq_we_98 (q := q) (q2 := q2) (g := g) (g2 := g2) (t0 := t0) (t1 := t1) (b := b) (aK := aK) (fz := fz) (dA := dA)).2.symm⟩
  | 99, _ => exact ⟨.inl (dA 0, 60, .inl (fun _ => 0)), by rw [(zq_we_99 (q := q) (q2 := q2) (g := g) (g2 := g2) (t0 := t0) (t1 := t1) (b := b) (aK := aK) (fz := fz) (dA := dA)).1]; rfl, Or.inl (zq_we_99 (q := q) (q2 := q2) (g := g) (g2 := g2) (t0 := t0) (t1 := t1) (b := b) (aK := aK) (fz := fz) (dA := dA)).2.symm⟩
  | 100, _ => exact ⟨.inr (4, [.ref (g 100), .int 0, .int 0, .int 0, .int 0, .int 0]), by rw [(zq_we_100 (q := q) (q2 := q2) (g := g) (g2 := g2) (t0 := t0) (t1 := t1) (b := b) (aK := aK) (fz := fz) (dA := dA)).1]; rfl, Or.inl (zq_we_100 (q := q) (q2 := q2) (g := g) (g2 := g2) (t0 := t0) (t1 := t1) (b := b) (aK := aK) (fz := fz) (dA := dA)).2.symm⟩
  | 101, _ => exact ⟨.inl (dA 0, 30, .inl (fun _ => 0)), by rw [(zq_we_101 (q := q) (q2 := q2) (g := g) (g2 := g2) (t0 := t0) (t1 := t1) (b := b) (aK := aK) (fz := fz) (dA := dA)).1]; rfl, Or.inl (zq_we_101 (q := q) (q2 := q2) (g := g) (g2 := g2) (t0 := t0) (t1 := t1) (b := b) (aK := aK) (fz := fz) (dA := dA)).2.symm⟩
  | 102, _ => exact ⟨.inl (dA 3, 4, .inr (.inr (.inr (.inr (fun i => some (g (103 + 2 * i))))))), by rw [(zq_we_102 (q := q) (q2 := q2) (g := g) (g2 := g2) (t0 := t0) (t1 := t1) (b := b) (aK := aK) (fz := fz) (dA := dA)).1]; rfl, (zq_we_102 (q := q) (q2 := q2) (g := g) (g2 := g2) (t0 := t0) (t1 := t1) (b := b) (aK := aK) (fz := fz) (dA := dA)).2⟩
  | 103, _ => exact ⟨.inl (dA 0, 7, .inl (fun _ => 0)), by rw [(zq_we_103 (q := q) (q2 := q2) (g := g) (g2 := g2) (t0 := t0) (t1 := t1) (b := b) (aK := aK) (fz := fz) (dA := dA)).1]; rfl, Or.inl (zq_we_103 (q := q) (q2 := q2) (g := g) (g2 := g2) (t0 := t0) (t1 := t1) (b := b) (aK := aK) (fz := fz) (dA := dA)).2.symm⟩
  | 104, _ => exact ⟨.inr (3, [.ref (g 104), .int 0, .int 0]), by rw [(zq_we_104 (q := q) (q2 := q2) (g := g) (g2 := g2) (t0 := t0) (t1 := t1) (b := b) (aK := aK) (fz := fz) (dA := dA)).1]; rfl, Or.inl (zq_we_104 (q := q) (q2 := q2) (g := g) (g2 := g2) (t0 := t0) (t1 := t1) (b := b) (aK := aK) (fz := fz) (dA := dA)).2.symm⟩
  | 105, _ => exact ⟨.inl (dA 0, 24, .inl (fun _ => 0)), by rw [(zq_we_105 (q := q) (q2 := q2) (g := g) (g2 := g2) (t0 := t0) (t1 := t1) (b := b) (aK := aK) (fz := fz) (dA := dA)).1]; rfl, Or.inl (zq_we_105 (q := q) (q2 := q2) (g := g) (g2 := g2) (t0 := t0) (t1 := t1) (b := b) (aK := aK) (fz := fz) (dA := dA)).2.symm⟩
  | 106, _ => exact ⟨.inr (3, [.ref (g 106), .int 0, .int 0]), by rw [(zq_we_106 (q := q) (q2 := q2) (g := g) (g2 := g2) (t0 := t0) (t1 := t1) (b := b) (aK := aK) (fz := fz) (dA := dA)).1]; rfl, Or.inl (zq_we_106 (q := q) (q2 := q2) (g := g) (g2 := g2) (t0 := t0) (t1 := t1) (b := b) (aK := aK) (fz := fz) (dA := dA)).2.symm⟩
  | 107, _ => exact ⟨.inl (dA 0, 24, .inl (fun _ => 0)), by rw [(zq_we_107 (q := q) (q2 := q2) (g := g) (g2 := g2) (t0 := t0) (t1 := t1) (b := b) (aK := aK) (fz := fz) (dA := dA)).1]; rfl, Or.inl (zq_we_107 (q := q) (q2 := q2) (g := g) (g2 := g2) (t0 := t0) (t1 := t1) (b := b) (aK := aK) (fz := fz) (dA := dA)).2.symm⟩
  | 108, _ => exact ⟨.inr (3, [.ref (g 108), .int 0, .int 0]), by rw [(zq_we_108 (q := q) (q2 := q2) (g := g) (g2 := g2) (t0 := t0) (t1 := t1) (b := b) (aK := aK) (fz := fz) (dA := dA)).1]; rfl, Or.inl (zq_we_108 (q := q) (q2 := q2) (g := g) (g2 := g2) (t0 := t0) (t1 := t1) (b := b) (aK := aK) (fz := fz) (dA := dA)).2.symm⟩
  | 109, _ => exact ⟨.inl (dA 0, 24, .inl (fun _ => 0)), by rw [(zq_we_109 (q := q) (q2 := q2) (g := g) (g2 := g2) (t0 := t0) (t1 := t1) (b := b) (aK := aK) (fz := fz) (dA := dA)).1]; rfl, Or.inl (zq_we_109 (q := q) (q2 := q2) (g := g) (g2 := g2) (t0 := t0) (t1 := t1) (b := b) (aK := aK) (fz := fz) (dA := dA)).2.symm⟩
  | 110, _ => exact ⟨.inr (3, [.ref (g 110), .int 0, .int 0]), by rw [(zq_we_110 (q := q) (q2 := q2) (g := g) (g2 := g2) (t0 := t0) (t1 := t1) (b := b) (aK := aK) (fz := fz) (dA := dA)).1]; rfl, Or.inl (zq_we_110 (q := q) (q2 := q2) (g := g) (g2 := g2) (t0 := t0) (t1 := t1) (b := b) (aK := aK) (fz := fz) (dA := dA)).2.symm⟩
  | 111, _ => exact ⟨.inl (dA 0, 24, .inl (fun _ => 0)), by rw [(zq_we_111 (q := q) (q2 := q2) (g := g) (g2 := g2) (t0 := t0) (t1 := t1) (b := b) (aK := aK) (fz := fz) (dA := dA)).1]; rfl, Or.inl (zq_we_111 (q := q) (q2 := q2) (g := g) (g2 := g2) (t0 := t0) (t1 := t1) (b := b) (aK := aK) (fz := fz) (dA := dA)).2.symm⟩
  | 112, _ => exact ⟨.inr (8, [.ref (g2 0), .ref (g2 1), .ref (g2 2), .int 0, .ref (g2 3), .int 0, .int 0, .int 0, .int 0, .ref (g2 4), .ref (g2 5), .ref (g2 6), .ref (g2 7), .ref (g2 8), .ref (g2 9), .int 0, .int 0, .int 0, .ref (g2 10), .ref (g2 11), .ref (g2 12), .ref (g2 13)]), by rw [(zq_we_112 (q := q) (q2 := q2) (g := g) (g2 := g2) (t0 := t0) (t1 := t1) (b := b) (aK := aK) (fz := fz) (dA := dA)).1]; rfl, Or.inl (zq_we_112 (q := q) (q2 := q2) (g := g) (g2 := g2) (t0 := t0) (t1 := t1) (b := b) (aK := aK) (fz := fz) (dA := dA)).2.symm⟩
  | 113, _ => exact ⟨.inl (dA 0, 504, .inl (upd (fun _ => 0) 8 1)), by rw [(zq_we_113 (q := q) (q2 := q2) (g := g) (g2 := g2) (t0 := t0) (t1 := t1) (b := b) (aK := aK) (fz := fz) (dA := dA)).1]; rfl, Or.inl (zq_we_113 (q := q) (q2 := q2) (g := g) (g2 := g2) (t0 := t0) (t1 := t1) (b := b) (aK := aK) (fz := fz) (dA := dA)).2.symm⟩
  | 114, _ => exact ⟨.inl (dA 0, 504, .inl (fun _ => 0)), by rw [(zq_we_114 (q := q) (q2 := q2) (g := g) (g2 := g2) (t0 := t0) (t1 := t1) (b := b) (aK := aK) (fz := fz) (dA := dA)).1]; rfl, Or.inl (zq_we_114 (q := q) (q2 := q2) (g := g) (g2 := g2) (t0 := t0) (t1 := t1) (b := b) (aK := aK) (fz := fz) (dA := dA)).2.symm⟩
  | 115, _ => exact ⟨.inl (dA 0, 504, .inl (fun _ => 0)), by rw [(zq_we_115 (q := q) (q2 := q2) (g := g) (g2 := g2) (t0 := t0) (t1 := t1) (b := b) (aK := aK) (fz := fz) (dA := dA)).1]; rfl, Or.inl (zq_we_115 (q := q) (q2 := q2) (g := g) (g2 := g2) (t0 := t0) (t1 := t1) (b := b) (aK := aK) (fz := fz) (dA := dA)).2.symm⟩
  | 116, _ => exact ⟨.inl (dA 0, 7, .inl (fun _ => 0)), by rw [(zq_we_116 (q := q) (q2 := q2) (g := g) (g2 := g2) (t0 := t0) (t1 := t1) (b := b) (aK := aK) (fz := fz) (dA := dA)).1]; rfl, Or.inl (zq_we_116 (q := q) (q2 := q2) (g := g) (g2 := g2) (t0 := t0) (t1 := t1) (b := b) (aK := aK) (fz := fz) (dA := dA)).2.symm⟩
  | 117, _ => exact ⟨.inl (dA 0, 124, .inl (fun _ => 0)), by rw [(zq_we_117 (q := q) (q2 := q2) (g := g) (g2 := g2) (t0 := t0) (t1 := t1) (b := b) (aK := aK) (fz := fz) (dA := dA)).1]; rfl, Or.inl (zq_we_117 (q := q) (q2 := q2) (g := g) (g2 := g2) (t0 := t0) (t1 := t1) (b := b) (aK := aK) (fz := fz) (dA := dA)).2.symm⟩
  | 118, _ => exact ⟨.inl (dA 0, 128, .inl (fun _ => 0)), by rw [(zq_we_118 (q := q) (q2 := q2) (g := g) (g2 := g2) (t0 := t0) (t1 := t1) (b := b) (aK := aK) (fz := fz) (dA := dA)).1]; rfl, Or.inl (zq_we_118 (q := q) (q2 := q2) (g := g) (g2 := g2) (t0 := t0) (t1 := t1) (b := b) (aK := aK) (fz := fz) (dA := dA)).2.symm⟩
  | 119, _ => exact ⟨.inl (dA 0, 64, .inl (fun _ => 0)), by rw [(zq_we_119 (q := q) (q2 := q2) (g := g) (g2 := g2) (t0 := t0) (t1 := t1) (b := b) (aK := aK) (fz := fz) (dA := dA)).1]; rfl, Or.inl (zq_we_119 (q := q) (q2 := q2) (g := g) (g2 := g2) (t0 := t0) (t1 := t1) (b := b) (aK := aK) (fz := fz) (dA := dA)).2.symm⟩
  | 120, _ => exact ⟨.inl (dA 0, 8, .inl (fun _ => 0)), by rw [(zq_we_120 (q := q) (q2 := q2) (g := g) (g2 := g2) (t0 := t0) (t1 := t1) (b := b) (aK := aK) (fz := fz) (dA := dA)).1]; rfl, Or.inl (zq_we_120 (q := q) (q2 := q2) (g := g) (g2 := g2) (t0 := t0) (t1 := t1) (b := b) (aK := aK) (fz := fz) (dA := dA)).2.symm⟩
  | 121, _ => exact ⟨.inl (dA 0, 8, .inl (fun _ => 0)), by rw [(zq_we_121 (q := q) (q2 := q2) (g := g) (g2 := g2) (t0 := t0) (t1 := t1) (b := b) (aK := aK) (fz := fz) (dA := dA)).1]; rfl, Or.inl (zq_we_121 (q := q) (q2 := q2) (g := g) (g2 := g2) (t0 := t0) (t1 := t1) (b := b) (aK := aK) (fz := fz) (dA := dA)).2.symm⟩
  | 122, _ => exact ⟨.inl (dA 0, 30, .inl (fun _ => 0)), by rw [(zq_we_122 (q := q) (q2 := q2) (g := g) (g2 := g2) (t0 := t0) (t1 := t1) (b := b) (aK := aK) (fz := fz) (dA := dA)).1]; rfl, Or.inl (zq_we_122 (q := q) (q2 := q2) (g := g) (g2 := g2) (t0 := t0) (t1 := t1) (b := b) (aK := aK) (fz := fz) (dA := dA)).2.symm⟩
  | 123, _ => exact ⟨.inl (dA 0, 4, .inl (fun _ => 0)), by rw [(zq_we_123 (q := q) (q2 := q2) (g := g) (g2 := g2) (t0 := t0) (t1 := t1) (b := b) (aK := aK) (fz := fz) (dA := dA)).1]; rfl, Or.inl (zq_we_123 (q := q) (q2 := q2) (g := g) (g2 := g2) (t0 := t0) (t1 := t1) (b := b) (aK := aK) (fz := fz) (dA := dA)).2.symm⟩
  | 124, _ => exact ⟨.inl (dA 0, 4, .inl (fun _ => 0)), by rw [(zq_we_124 (q := q) (q2 := q2) (g := g) (g2 := g2) (t0 := t0) (t1 := t1) (b := b) (aK := aK) (fz := fz) (dA := dA)).1]; rfl, Or.inl (zq_we_124 (q := q) (q2 := q2) (g := g) (g2 := g2) (t0 := t0) (t1 := t1) (b := b) (aK := aK) (fz := fz) (dA := dA)).2.symm⟩
  | 125, _ => exact ⟨.inl (dA 0, 96, .inl (fun _ => 0)), by rw [(zq_we_125 (q := q) (q2 := q2) (g := g) (g2 := g2) (t0 := t0) (t1 := t1) (b := b) (aK := aK) (fz := fz) (dA := dA)).1]; rfl, Or.inl (zq_we_125 (q := q) (q2 := q2) (g := g) (g2 := g2) (t0 := t0) (t1 := t1) (b := b) (aK := aK) (fz := fz) (dA := dA)).2.symm⟩
  | 126, _ => exact ⟨.inl (dA 0, 24, .inl (fun _ => 0)), by rw [(zq_we_126 (q := q) (q2 := q2) (g := g) (g2 := g2) (t0 := t0) (t1 := t1) (b := b) (aK := aK) (fz := fz) (dA := dA)).1]; rfl, Or.inl (zq_we_126 (q := q) (q2 := q2) (g := g) (g2 := g2) (t0 := t0) (t1 := t1) (b := b) (aK := aK) (fz := fz) (dA := dA)).2.symm⟩
  | n + 127, h => exact absurd h (by omega)
theorem zq_ws_all (V : CV dC dI dA A s ([] ++ ws_TakenUp dA q g ++ ws_Model dA q2 g2) H locs) : CV dC dI dA A s (wsA dA (adF q q2 g g2 t0 t1 b aK) (mu0 fz)) H locs := by
  refine zq_cv_ext V (fun k x hx => ?_)
  by_cases hk : k < 127
  · rw [wsA_at hk] at hx
    cases hx
    exact zq_we_all k hk
  · rw [wsA_out hk] at hx
    cases hx
end WE
