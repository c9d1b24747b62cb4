/-! CLASS AND MODEL TOGETHER. -/
def EQV (V V' : Mem) : Prop :=
  (∀ k, k < 9 → V' 0 k = V 0 k) ∧
  (∀ (w : Nat), w < 4 → (w : Int) < (V 0 0).toInt → ∀ k, k < 24 → usK V w k → V' (1 + w) k = V (1 + w) k) ∧
  (∀ (r : Nat), r < 8 → (r : Int) < (V 0 1).toInt → ∀ k, k < 8 → V' (10 + r) k = V (10 + r) k) ∧
  (∀ (i : Nat), i < 60 → (i : Int) < (V 0 6).toInt → V' 20 i = V 20 i ∧ 0 ≤ (V 20 i).toInt ∧ (V 20 i).toInt ≤ 255) ∧
  ∀ (i : Nat), i < 24 → (i : Int) < (V 0 7).toInt → V' 21 i = V 21 i
def allW (V : Mem) : Nat → Prop := fun x => (x : Int) < (V 0 0).toInt
theorem EQV.rel {V V' : Mem} (h : EQV V V') (hW : WFV V) : REL (allW V) True V V' := by
  refine ⟨fun k hk => h.1 k (by omega), fun _ => h.1 5 (by decide), fun x hx hp k hk => ?_, fun r hr hc => ?_⟩
  · have gx := gw1 hW hx
    have ex : (V (1 + x) 1).toNatClampNeg = (V (1 + x) 1).toInt.toNat := rfl
    refine h.2.1 x hx hp k ?_ hk
    unfold usK at hk
    omega
  · have q := h.2.2.1 r hr hc
    exact ⟨q 2 (by decide), fun _ k hk => q k (by unfold rK at hk; omega), fun _ => q 3 (by decide)⟩
theorem REL.eqv {V V' : Mem} {P : Nat → Prop} (h : REL P True V V') (hP : ∀ (x : Nat), x < 4 → (x : Int) < (V 0 0).toInt → P x) (hW : WFV V) (h6 : ∀ k, 5 < k → k < 9 → V' 0 k = V 0 k) (ht : ∀ (r : Nat), r < 8 → (r : Int) < (V 0 1).toInt → V' (10 + r) 5 = V (10 + r) 5)
    (hT : ∀ (i : Nat), i < 60 → (i : Int) < (V 0 6).toInt → V' 20 i = V 20 i ∧ 0 ≤ (V 20 i).toInt ∧ (V 20 i).toInt ≤ 255) (hQ : ∀ (i : Nat), i < 24 → (i : Int) < (V 0 7).toInt → V' 21 i = V 21 i) : EQV V V' := by
  obtain ⟨h1, h2, h3, h4⟩ := h
  refine ⟨fun k hk => ?_, fun w hw hc k _ hk => h3 w hw (hP w hw hc) k hk, fun r hr hc k hk => ?_, hT, hQ⟩
  · by_cases q : k < 5
    · exact h1 k q
    · by_cases q2 : k = 5
      · subst q2
        exact h2 trivial
      · exact h6 k (by omega) hk
  · obtain ⟨a, b, c⟩ := h4 r hr hc
    have g2 := gr2 hW hr
    have hp : P (V (10 + r) 2).toNatClampNeg := hP _ (ix_lt g2.1 (by omega)) (by rw [ix_i g2.1]; exact hW.2.2 r hr hc)
    have hk8 : k = 2 ∨ k = 3 ∨ k = 5 ∨ rK k := by unfold rK; omega
    rcases hk8 with rfl | rfl | rfl | hk8
    · exact a
    · exact c trivial
    · exact ht r hr hc
    · exact b hp k hk8
def plE (o k : Nat) : Prop := ¬ (o = 0 ∧ (k = 0 ∨ k = 1 ∨ k = 6 ∨ k = 7)) ∧ ¬ (1 ≤ o ∧ o < 5 ∧ k = 1) ∧ ¬ o = 20
theorem EQV.b {V V' : Mem} {o k : Nat} {v : Int32} (h : EQV V V') (hp : plE o k) : EQV (up V o k v) (up V' o k v) := by
  obtain ⟨p1, p2, p3⟩ := hp
  have e : ∀ a c, ¬ (a = o ∧ c = k) → up V o k v a c = V a c := fun a c q => if_neg q
  have both : ∀ a c, V' a c = V a c → up V' o k v a c = up V o k v a c := fun a c q => by
    unfold up
    by_cases q2 : a = o ∧ c = k
    · rw [if_pos q2, if_pos q2]
    · rw [if_neg q2, if_neg q2, q]
  refine ⟨fun c hc => both _ _ (h.1 c hc), fun w hw hc c hc2 hu => both _ _ (h.2.1 w hw ?_ c hc2 ?_), fun r hr hc c hc2 => both _ _ (h.2.2.1 r hr ?_ c hc2), fun i hi hc => ?_, fun i hi hc => both _ _ (h.2.2.2.2 i hi ?_)⟩
  · rw [e 0 0 (by omega)] at hc
    exact hc
  · unfold usK at hu ⊢
    rw [e _ _ (by omega)] at hu
    exact hu
  · rw [e 0 1 (by omega)] at hc
    exact hc
  · rw [e 0 6 (by omega)] at hc
    rw [up_o (fun q => p3 q.symm), up_o (fun q => p3 q.symm)]
    exact h.2.2.2.1 i hi hc
  · rw [e 0 7 (by omega)] at hc
    exact hc
def RWL (b m : Nat) (μ : Mem) : Prop := ∀ u, u < 2 → (0 ≤ (μ (b + 26 + 3 * u) 2).toInt ∧ (μ (b + 26 + 3 * u) 2).toInt ≤ 60) ∧
  ((μ (b + 26 + 3 * u) 3 = 0 ∧ μ m (170 + 125 * u) = 0) ∨
  (μ (b + 26 + 3 * u) 3 = 1 ∧ μ (b + 26 + 3 * u) 2 = μ m (170 + 125 * u) ∧ 0 < (μ m (170 + 125 * u)).toInt ∧ (∀ i, i < (μ m (170 + 125 * u)).toNatClampNeg → μ (b + 27 + 3 * u) i = codeM (μ m) u i) ∧ TVM (μ m) u (μ m (170 + 125 * u)).toNatClampNeg ∧ 1 ≤ (runP 0 0 0 0 (codeM (μ m) u) (μ m (170 + 125 * u)).toNatClampNeg).length))
theorem RWL.lw {b m : Nat} {μ : Mem} (h : RWL b m μ) : LW b μ := fun u hu => (h u hu).1
theorem RWL.told {b m : Nat} {μ : Mem} (h : RWL b m μ) : told3 b μ := fun u hu => (h u hu).2.imp (fun q => q.1) (fun q => q.1)
theorem RWL.lwm {b : Nat} {μ : Mem} (h : RWL b 113 μ) : LWM μ := fun u hu => by
  obtain ⟨h1, h2⟩ := h u hu
  rcases h2 with ⟨a, e⟩ | ⟨a, e, c, f, g, i⟩
  · rw [e]
    exact ⟨by decide, fun q => absurd q (by decide)⟩
  · exact ⟨by rw [← e]; exact h1.2, fun _ => ⟨g, i⟩⟩
theorem RWL.tx {b : Nat} {μ : Mem} (h : RWL b 113 μ) : ∀ u, u < 2 → txC b μ u = txM μ u := fun u hu => by
  obtain ⟨h1, h2⟩ := h u hu
  funext a1 a2 a3 a4
  unfold txC txM evP
  rcases h2 with ⟨a, e⟩ | ⟨a, e, c, f, g, i⟩
  · rw [if_pos a, if_pos (by rw [e]; decide)]
  · rw [if_neg (by rw [a]; decide), if_neg (by omega), e, runP_cg _ f]
def RW (b m : Nat) (μ : Mem) : Prop := (WFV (vC b μ) ∧ WFV (vM m μ)) ∧ (WFD (vC b μ) ∧ WFD (vM m μ)) ∧ (vC b μ 0 2).toInt ≤ 9999 ∧ EQV (vC b μ) (vM m μ) ∧ RWL b m μ
theorem RW.cg {b m : Nat} {μ μ' : Mem} (h : RW b m μ) (h1 : ∀ o, b ≤ o → o < b + 32 → o ≠ b + 28 → o ≠ b + 31 → μ' o = μ o) (h2 : μ' m = μ m) : RW b m μ' := by
  have v : vC b μ' = vC b μ := vC_congr fun o p1 p2 => h1 o p1 (by omega) (by omega) (by omega)
  have vm : vM m μ' = vM m μ := vM_congr h2
  obtain ⟨a1, a2, a3, a4, a5⟩ := h
  refine ⟨by rw [v, vm]; exact a1, by rw [v, vm]; exact a2, by rw [v]; exact a3, by rw [v, vm]; exact a4, fun u hu => ?_⟩
  rw [h2, h1 (b + 26 + 3 * u) (by omega) (by omega) (by omega) (by omega), h1 (b + 27 + 3 * u) (by omega) (by omega) (by omega) (by omega)]
  exact a5 u hu
def WFQ (V : Mem) : Prop := ∀ r, r < 8 → (V (10 + r) 3).toInt ≤ (V (10 + r) 7).toInt
def junk (o : Nat) : Prop := o = 29 ∨ o = 32 ∨ (33 ≤ o ∧ o < 65) ∨ o = 93 ∨ o = 96 ∨ o = 97 ∨ o = 98 ∨ o = 99 ∨ o = 115 ∨ o = 117 ∨ o = 118 ∨ o = 119 ∨ o = 120 ∨ o = 121 ∨ o = 126
def SHT (μ : Mem) : Prop := ∀ s, s < 4 → μ 123 s = μ (104 + 2 * s) 1 ∧ μ 124 s = μ (104 + 2 * s) 2 ∧ (μ 123 s = 0 ∨ μ 123 s = 8 ∨ μ 123 s = 16 ∨ μ 123 s = 32) ∧ (0 ≤ (μ 124 s).toInt ∧ (μ 124 s).toInt ≤ 24) ∧ ∀ i, i < 24 → μ 125 (24 * s + i) = μ (105 + 2 * s) i
def TRC (μ : Mem) : Prop := μ 112 15 = μ 100 1 ∧ (0 ≤ (μ 100 1).toInt ∧ (μ 100 1).toInt ≤ 30) ∧ ∀ i, i < (μ 100 1).toNatClampNeg → μ 122 i = μ 101 i
def RR (fz μ : Mem) : Prop :=
  RW 1 113 μ ∧ (μ 0 7 = 0 ∨ RW 65 114 μ) ∧ μ 112 3 = μ 0 7 ∧ WFV (vC 33 μ) ∧ (WFV (vC 65 μ) ∧ WFQ (vC 65 μ)) ∧
  (∀ k, 1 ≤ k → k ≤ 6 → μ 116 k = μ 103 k) ∧ SHT μ ∧ TRC μ ∧ ∀ o, 127 ≤ o → μ o = fz o
theorem RR.cg {fz μ μ' : Mem} (h : RR fz μ) (ho : ∀ o, ¬ junk o → o ≠ 100 → o ≠ 112 → μ' o = μ o) (h1 : μ' 100 1 = μ 100 1) (h3 : μ' 112 3 = μ 112 3) (h15 : μ' 112 15 = μ 112 15) (hW : WFV (vC 33 μ')) : RR fz μ' := by
  obtain ⟨a1, a2, a3, a4, a5, a6, a7, a8, a9⟩ := h
  have k0 : μ' 0 = μ 0 := ho 0 (by unfold junk; omega) (by omega) (by omega)
  have v65 : vC 65 μ' = vC 65 μ := vC_congr fun o p1 p2 => ho o (by unfold junk; omega) (by omega) (by omega)
  refine ⟨a1.cg (fun o p1 p2 p3 p4 => ho o (by unfold junk; omega) (by omega) (by omega)) (ho 113 (by unfold junk; omega) (by omega) (by omega)), ?_, by rw [h3, k0]; exact a3, hW, by rw [v65]; exact a5, fun k p1 p2 => ?_, fun s hs => ?_, ?_, fun o p => ?_⟩
  · rw [k0]
    exact a2.imp id (fun q => q.cg (fun o p1 p2 p3 p4 => ho o (by unfold junk; omega) (by omega) (by omega)) (ho 114 (by unfold junk; omega) (by omega) (by omega)))
  · rw [ho 116 (by unfold junk; omega) (by omega) (by omega), ho 103 (by unfold junk; omega) (by omega) (by omega)]
    exact a6 k p1 p2
  · rw [ho 123 (by unfold junk; omega) (by omega) (by omega), ho 124 (by unfold junk; omega) (by omega) (by omega), ho 125 (by unfold junk; omega) (by omega) (by omega), ho (104 + 2 * s) (by unfold junk; omega) (by omega) (by omega), ho (105 + 2 * s) (by unfold junk; omega) (by omega) (by omega)]
    exact a7 s hs
  · unfold TRC
    rw [h1, h15, ho 122 (by unfold junk; omega) (by omega) (by omega), ho 101 (by unfold junk; omega) (by omega) (by omega)]
    exact a8
  · rw [ho o (by unfold junk; omega) (by omega) (by omega)]
    exact a9 o p
/-- the model's looks ahead touch nothing that counts -/
theorem RR.fa {fz μ μ' : Mem} (h : RR fz μ) (hf : FrA μ μ') : RR fz μ' :=
  h.cg (fun o p1 p2 p3 => hf o (by unfold junk at p1; omega) (by unfold junk at p1; omega) (by unfold junk at p1; omega)) (by rw [hf 100 (by omega) (by omega) (by omega)]) (by rw [hf 112 (by omega) (by omega) (by omega)]) (by rw [hf 112 (by omega) (by omega) (by omega)])
    (by rw [vC_congr (fun o p1 p2 => hf o (by omega) (by omega) (by omega))]; exact h.2.2.2.1)
/-- nor do the class's -/
theorem RR.tr {fz μ μ' : Mem} (h : RR fz μ) (hf : ∀ o, (o < 33 ∨ 65 ≤ o) → μ' o = μ o) (hW : WFV (vC 33 μ')) : RR fz μ' :=
  h.cg (fun o p1 p2 p3 => hf o (by unfold junk at p1; omega)) (by rw [hf 100 (by omega)]) (by rw [hf 112 (by omega)]) (by rw [hf 112 (by omega)]) hW
theorem RR.er {fz μ : Mem} {k : Nat} (h : RR fz μ) (h1 : 1 ≤ k) (h6 : k ≤ 6) : RR fz (up (up μ 103 k (μ 103 k + 1)) 116 k (μ 116 k + 1)) := by
  obtain ⟨a1, a2, a3, a4, a5, a6, a7, a8, a9⟩ := h
  have f : ∀ o, o ≠ 103 → o ≠ 116 → up (up μ 103 k (μ 103 k + 1)) 116 k (μ 116 k + 1) o = μ o := fun o p1 p2 => by rw [up_ne p2, up_ne p1]
  generalize hM : up (up μ 103 k (μ 103 k + 1)) 116 k (μ 116 k + 1) = μ' at *
  have v33 : vC 33 μ' = vC 33 μ := vC_congr fun o p1 p2 => f o (by omega) (by omega)
  have v65 : vC 65 μ' = vC 65 μ := vC_congr fun o p1 p2 => f o (by omega) (by omega)
  refine ⟨a1.cg (fun o p1 p2 p3 p4 => f o (by omega) (by omega)) (f 113 (by omega) (by omega)), ?_, ?_, by rw [v33]; exact a4, by rw [v65]; exact a5, fun j p1 p2 => ?_, fun s hs => ?_, ?_, fun o p => ?_⟩
  · rw [f 0 (by omega) (by omega)]
    exact a2.imp id (fun q => q.cg (fun o p1 p2 p3 p4 => f o (by omega) (by omega)) (f 114 (by omega) (by omega)))
  · rw [f 112 (by omega) (by omega), f 0 (by omega) (by omega)]
    exact a3
  · rw [← hM]
    have q := a6 j p1 p2
    by_cases e : j = k
    · subst e
      rw [up_eq, up_o (by omega), up_eq, q]
    · rw [up_j e, up_o (by omega), up_o (by omega), up_j e, q]
  · rw [f 123 (by omega) (by omega), f 124 (by omega) (by omega), f 125 (by omega) (by omega), f (104 + 2 * s) (by omega) (by omega), f (105 + 2 * s) (by omega) (by omega)]
    exact a7 s hs
  · unfold TRC
    rw [f 112 (by omega) (by omega), f 100 (by omega) (by omega), f 122 (by omega) (by omega), f 101 (by omega) (by omega)]
    exact a8
  · rw [f o (by omega) (by omega)]
    exact a9 o p
theorem RR.u2 {fz μ : Mem} (h : RR fz μ) : μ 202 = fz 202 := h.2.2.2.2.2.2.2.2 202 (by decide)
/-- a pair of calls that answer the same (the script, object 202, stands between them as it stood) -/
def PR (fz : Mem) (d mc mm : Nat) (as : List AV) (μ : Mem) : Prop := ∃ (a : Int32) (μ1 μ2 : Mem), μ1 202 = fz 202 ∧ cl d mc (vR 7 0 :: as) μ = some (some (vI a), μ1) ∧ cl d mm (vR 8 112 :: as) μ1 = some (some (vI a), μ2) ∧ RR fz μ2
theorem PR.er {fz : Mem} {d mc mm k : Nat} {as : List AV} {μ : Mem} (h : RR fz μ) (h1 : 1 ≤ k) (h6 : k ≤ 6) (hc : cl d mc (vR 7 0 :: as) μ = some (some (vI (-1000000000 - nI k)), up μ 103 k (μ 103 k + 1))) (hm : ∀ μ1 : Mem, (∀ o, o ≠ 103 → μ1 o = μ o) → cl d mm (vR 8 112 :: as) μ1 = some (some (vI (-1000000000 - nI k)), up μ1 116 k (μ1 116 k + 1))) : PR fz d mc mm as μ := by
  refine ⟨_, _, _, (by rw [up_ne (by decide)]; exact h.u2), hc, hm _ (fun o q => up_ne q), ?_⟩
  rw [up_o (show ¬ (116 : Nat) = 103 by decide)]
  exact h.er h1 h6
