/-! THE MODEL'S ROW AS A VIEW. -/
def mI (o k : Nat) : Nat := if o = 0 then k else if o < 5 then 10 + 24 * (o - 1) + k else if o < 18 then 106 + 8 * (o - 10) + k else if o = 20 then 420 + k else 480 + k
def vM (m : Nat) (μ : Mem) : Mem := fun o k => if inC o k then μ m (mI o k) else 0
theorem m_inj {a c o k : Nat} (h1 : inC a c) (h2 : inC o k) (h3 : mI a c = mI o k) : a = o ∧ c = k := by
  unfold inC at h1 h2
  unfold mI at h3
  rcases h1 with h1 | h1 | h1 | h1 | h1 <;> rcases h2 with h2 | h2 | h2 | h2 | h2 <;> (repeat' split at h3) <;> omega
theorem vM_congr {m : Nat} {μ μ' : Mem} (h : μ' m = μ m) : vM m μ' = vM m μ := by
  funext o k
  unfold vM
  rw [h]
theorem vM_rd {m K o k : Nat} {μ : Mem} (hi : inC o k) (hK : mI o k = K) : μ m K = vM m μ o k := by
  unfold vM
  rw [if_pos hi, hK]
theorem vM_up {m K o k : Nat} {μ : Mem} {v : Int32} (hi : inC o k) (hK : mI o k = K) : vM m (up μ m K v) = up (vM m μ) o k v := by
  funext a c
  unfold vM
  by_cases h : a = o ∧ c = k
  · obtain ⟨rfl, rfl⟩ := h
    rw [if_pos hi, hK, up_eq, up_eq]
  · by_cases hac : inC a c
    · have h2 : ¬ (m = m ∧ mI a c = K) := fun q => h (m_inj hac hi (q.2.trans hK.symm))
      rw [if_pos hac]
      unfold up
      rw [if_neg h2, if_neg h]
      exact (if_pos hac).symm
    · simp only [up, if_neg h, if_neg hac]
theorem vM_un {m O K : Nat} {μ : Mem} {v : Int32} (h : ¬ m = O) : vM m (up μ O K v) = vM m μ := vM_congr (up_ne h)
theorem ms0 {m : Nat} {μ : Mem} : μ m 0 = vM m μ 0 0 := vM_rd (by decide) rfl
theorem ums0 {m : Nat} {μ : Mem} {v : Int32} : vM m (up μ m 0 v) = up (vM m μ) 0 0 v := vM_up (by decide) rfl
theorem ms1 {m : Nat} {μ : Mem} : μ m 1 = vM m μ 0 1 := vM_rd (by decide) rfl
theorem ums1 {m : Nat} {μ : Mem} {v : Int32} : vM m (up μ m 1 v) = up (vM m μ) 0 1 v := vM_up (by decide) rfl
theorem ms2 {m : Nat} {μ : Mem} : μ m 2 = vM m μ 0 2 := vM_rd (by decide) rfl
theorem ums2 {m : Nat} {μ : Mem} {v : Int32} : vM m (up μ m 2 v) = up (vM m μ) 0 2 v := vM_up (by decide) rfl
theorem ms3 {m : Nat} {μ : Mem} : μ m 3 = vM m μ 0 3 := vM_rd (by decide) rfl
theorem ums3 {m : Nat} {μ : Mem} {v : Int32} : vM m (up μ m 3 v) = up (vM m μ) 0 3 v := vM_up (by decide) rfl
theorem ms4 {m : Nat} {μ : Mem} : μ m 4 = vM m μ 0 4 := vM_rd (by decide) rfl
theorem ums4 {m : Nat} {μ : Mem} {v : Int32} : vM m (up μ m 4 v) = up (vM m μ) 0 4 v := vM_up (by decide) rfl
theorem ms5 {m : Nat} {μ : Mem} : μ m 5 = vM m μ 0 5 := vM_rd (by decide) rfl
theorem ums5 {m : Nat} {μ : Mem} {v : Int32} : vM m (up μ m 5 v) = up (vM m μ) 0 5 v := vM_up (by decide) rfl
theorem ms6 {m : Nat} {μ : Mem} : μ m 6 = vM m μ 0 6 := vM_rd (by decide) rfl
theorem ums6 {m : Nat} {μ : Mem} {v : Int32} : vM m (up μ m 6 v) = up (vM m μ) 0 6 v := vM_up (by decide) rfl
theorem ms7 {m : Nat} {μ : Mem} : μ m 7 = vM m μ 0 7 := vM_rd (by decide) rfl
theorem ums7 {m : Nat} {μ : Mem} {v : Int32} : vM m (up μ m 7 v) = up (vM m μ) 0 7 v := vM_up (by decide) rfl
theorem ms8 {m : Nat} {μ : Mem} : μ m 8 = vM m μ 0 8 := vM_rd (by decide) rfl
theorem ums8 {m : Nat} {μ : Mem} {v : Int32} : vM m (up μ m 8 v) = up (vM m μ) 0 8 v := vM_up (by decide) rfl
theorem mw {m w k : Nat} {μ : Mem} (h : w < 4) (hk : k < 24) : μ m (10 + 24 * w + k) = vM m μ (1 + w) k := vM_rd (by unfold inC; omega) (by unfold mI; rw [if_neg (by omega), if_pos (by omega)]; omega)
theorem umw {m w k : Nat} {μ : Mem} {v : Int32} (h : w < 4) (hk : k < 24) : vM m (up μ m (10 + 24 * w + k) v) = up (vM m μ) (1 + w) k v := vM_up (by unfold inC; omega) (by unfold mI; rw [if_neg (by omega), if_pos (by omega)]; omega)
theorem mr {m r k : Nat} {μ : Mem} (h : r < 8) (hk : k < 8) : μ m (106 + 8 * r + k) = vM m μ (10 + r) k := vM_rd (by unfold inC; omega) (by unfold mI; rw [if_neg (by omega), if_neg (by omega), if_pos (by omega)]; omega)
theorem umr {m r k : Nat} {μ : Mem} {v : Int32} (h : r < 8) (hk : k < 8) : vM m (up μ m (106 + 8 * r + k) v) = up (vM m μ) (10 + r) k v := vM_up (by unfold inC; omega) (by unfold mI; rw [if_neg (by omega), if_neg (by omega), if_pos (by omega)]; omega)
theorem mt {m i : Nat} {μ : Mem} (h : i < 60) : μ m (420 + i) = vM m μ 20 i := vM_rd (by unfold inC; omega) (by unfold mI; rw [if_neg (by omega), if_neg (by omega), if_neg (by omega)]; first | rw [if_pos (by omega)] | rw [if_neg (by omega)])
theorem umt {m i : Nat} {μ : Mem} {v : Int32} (h : i < 60) : vM m (up μ m (420 + i) v) = up (vM m μ) 20 i v := vM_up (by unfold inC; omega) (by unfold mI; rw [if_neg (by omega), if_neg (by omega), if_neg (by omega)]; first | rw [if_pos (by omega)] | rw [if_neg (by omega)])
theorem mq {m i : Nat} {μ : Mem} (h : i < 24) : μ m (480 + i) = vM m μ 21 i := vM_rd (by unfold inC; omega) (by unfold mI; rw [if_neg (by omega), if_neg (by omega), if_neg (by omega)]; first | rw [if_pos (by omega)] | rw [if_neg (by omega)])
theorem umq {m i : Nat} {μ : Mem} {v : Int32} (h : i < 24) : vM m (up μ m (480 + i) v) = up (vM m μ) 21 i v := vM_up (by unfold inC; omega) (by unfold mI; rw [if_neg (by omega), if_neg (by omega), if_neg (by omega)]; first | rw [if_pos (by omega)] | rw [if_neg (by omega)])
theorem y_its {d w k : Nat} {x : Int32} {μ : Mem} (hw : w < 4) (hk : k < 24) (hx : x = nI k) : cl d 111 [vR 8 112, vI (nI w), vI x] μ = some (some (vI (vM 113 μ (1 + w) k)), μ) := by
  have e1 := nI_toInt (show w < 2147483648 by omega)
  have e2 := nI_toInt (show k < 2147483648 by omega)
  rw [hx, x_its (by omega) (by omega), ix_nI (by omega), ix_nI (by omega), mw (m := 113) (μ := μ) hw hk]
theorem y_lays1 {d w k : Nat} {x v : Int32} {μ : Mem} (hw : w < 4) (hk : k < 24) (hx : x = nI k) : cl d 112 [vR 8 112, vI (nI w), vI x, vI v] μ = some (none, up μ 113 (10 + 24 * w + k) v) := by
  have e1 := nI_toInt (show w < 2147483648 by omega)
  have e2 := nI_toInt (show k < 2147483648 by omega)
  rw [hx, x_lays1 (by omega) (by omega), ix_nI (by omega), ix_nI (by omega)]
theorem y_of {d r k : Nat} {x : Int32} {μ : Mem} (hr : r < 8) (hk : k < 8) (hx : x = nI k) : cl d 113 [vR 8 112, vI (nI r), vI x] μ = some (some (vI (vM 113 μ (10 + r) k)), μ) := by
  have e1 := nI_toInt (show r < 2147483648 by omega)
  have e2 := nI_toInt (show k < 2147483648 by omega)
  rw [hx, x_of (by omega) (by omega), ix_nI (by omega), ix_nI (by omega), mr (m := 113) (μ := μ) hr hk]
theorem y_has {d r : Nat} {μ : Mem} (hr : r < 8) : cl d 114 [vR 8 112, vI (nI r)] μ = some (some (vI (if vM 113 μ (10 + r) 6 = 1 then 1 else 0)), μ) := by
  have e1 := nI_toInt (show r < 2147483648 by omega)
  rw [x_has (by omega), ix_nI (by omega), show 112 + 8 * r = 106 + 8 * r + 6 by omega, mr (m := 113) (μ := μ) (k := 6) hr (by decide)]
theorem yi0 {d w : Nat} {μ : Mem} (hw : w < 4) : cl d 111 [vR 8 112, vI (nI w), vI 0] μ = some (some (vI (vM 113 μ (1 + w) 0)), μ) := y_its hw (by decide) rfl
theorem yl0 {d w : Nat} {v : Int32} {μ : Mem} (hw : w < 4) : cl d 112 [vR 8 112, vI (nI w), vI 0, vI v] μ = some (none, up μ 113 (10 + 24 * w + 0) v) := y_lays1 hw (by decide) rfl
theorem yo0 {d r : Nat} {μ : Mem} (hr : r < 8) : cl d 113 [vR 8 112, vI (nI r), vI 0] μ = some (some (vI (vM 113 μ (10 + r) 0)), μ) := y_of hr (by decide) rfl
theorem yi1 {d w : Nat} {μ : Mem} (hw : w < 4) : cl d 111 [vR 8 112, vI (nI w), vI 1] μ = some (some (vI (vM 113 μ (1 + w) 1)), μ) := y_its hw (by decide) rfl
theorem yl1 {d w : Nat} {v : Int32} {μ : Mem} (hw : w < 4) : cl d 112 [vR 8 112, vI (nI w), vI 1, vI v] μ = some (none, up μ 113 (10 + 24 * w + 1) v) := y_lays1 hw (by decide) rfl
theorem yo1 {d r : Nat} {μ : Mem} (hr : r < 8) : cl d 113 [vR 8 112, vI (nI r), vI 1] μ = some (some (vI (vM 113 μ (10 + r) 1)), μ) := y_of hr (by decide) rfl
theorem yi2 {d w : Nat} {μ : Mem} (hw : w < 4) : cl d 111 [vR 8 112, vI (nI w), vI 2] μ = some (some (vI (vM 113 μ (1 + w) 2)), μ) := y_its hw (by decide) rfl
theorem yl2 {d w : Nat} {v : Int32} {μ : Mem} (hw : w < 4) : cl d 112 [vR 8 112, vI (nI w), vI 2, vI v] μ = some (none, up μ 113 (10 + 24 * w + 2) v) := y_lays1 hw (by decide) rfl
theorem yo2 {d r : Nat} {μ : Mem} (hr : r < 8) : cl d 113 [vR 8 112, vI (nI r), vI 2] μ = some (some (vI (vM 113 μ (10 + r) 2)), μ) := y_of hr (by decide) rfl
theorem yi3 {d w : Nat} {μ : Mem} (hw : w < 4) : cl d 111 [vR 8 112, vI (nI w), vI 3] μ = some (some (vI (vM 113 μ (1 + w) 3)), μ) := y_its hw (by decide) rfl
theorem yl3 {d w : Nat} {v : Int32} {μ : Mem} (hw : w < 4) : cl d 112 [vR 8 112, vI (nI w), vI 3, vI v] μ = some (none, up μ 113 (10 + 24 * w + 3) v) := y_lays1 hw (by decide) rfl
theorem yo3 {d r : Nat} {μ : Mem} (hr : r < 8) : cl d 113 [vR 8 112, vI (nI r), vI 3] μ = some (some (vI (vM 113 μ (10 + r) 3)), μ) := y_of hr (by decide) rfl
theorem yi4 {d w : Nat} {μ : Mem} (hw : w < 4) : cl d 111 [vR 8 112, vI (nI w), vI 4] μ = some (some (vI (vM 113 μ (1 + w) 4)), μ) := y_its hw (by decide) rfl
theorem yl4 {d w : Nat} {v : Int32} {μ : Mem} (hw : w < 4) : cl d 112 [vR 8 112, vI (nI w), vI 4, vI v] μ = some (none, up μ 113 (10 + 24 * w + 4) v) := y_lays1 hw (by decide) rfl
theorem yo4 {d r : Nat} {μ : Mem} (hr : r < 8) : cl d 113 [vR 8 112, vI (nI r), vI 4] μ = some (some (vI (vM 113 μ (10 + r) 4)), μ) := y_of hr (by decide) rfl
theorem yi5 {d w : Nat} {μ : Mem} (hw : w < 4) : cl d 111 [vR 8 112, vI (nI w), vI 5] μ = some (some (vI (vM 113 μ (1 + w) 5)), μ) := y_its hw (by decide) rfl
theorem yl5 {d w : Nat} {v : Int32} {μ : Mem} (hw : w < 4) : cl d 112 [vR 8 112, vI (nI w), vI 5, vI v] μ = some (none, up μ 113 (10 + 24 * w + 5) v) := y_lays1 hw (by decide) rfl
theorem yo5 {d r : Nat} {μ : Mem} (hr : r < 8) : cl d 113 [vR 8 112, vI (nI r), vI 5] μ = some (some (vI (vM 113 μ (10 + r) 5)), μ) := y_of hr (by decide) rfl
theorem yi6 {d w : Nat} {μ : Mem} (hw : w < 4) : cl d 111 [vR 8 112, vI (nI w), vI 6] μ = some (some (vI (vM 113 μ (1 + w) 6)), μ) := y_its hw (by decide) rfl
theorem yl6 {d w : Nat} {v : Int32} {μ : Mem} (hw : w < 4) : cl d 112 [vR 8 112, vI (nI w), vI 6, vI v] μ = some (none, up μ 113 (10 + 24 * w + 6) v) := y_lays1 hw (by decide) rfl
theorem yo6 {d r : Nat} {μ : Mem} (hr : r < 8) : cl d 113 [vR 8 112, vI (nI r), vI 6] μ = some (some (vI (vM 113 μ (10 + r) 6)), μ) := y_of hr (by decide) rfl
theorem yi7 {d w : Nat} {μ : Mem} (hw : w < 4) : cl d 111 [vR 8 112, vI (nI w), vI 7] μ = some (some (vI (vM 113 μ (1 + w) 7)), μ) := y_its hw (by decide) rfl
theorem yl7 {d w : Nat} {v : Int32} {μ : Mem} (hw : w < 4) : cl d 112 [vR 8 112, vI (nI w), vI 7, vI v] μ = some (none, up μ 113 (10 + 24 * w + 7) v) := y_lays1 hw (by decide) rfl
theorem yo7 {d r : Nat} {μ : Mem} (hr : r < 8) : cl d 113 [vR 8 112, vI (nI r), vI 7] μ = some (some (vI (vM 113 μ (10 + r) 7)), μ) := y_of hr (by decide) rfl
def txM (μ : Mem) : TX := fun u a1 a2 a3 a4 => if (μ 113 (170 + 125 * u)).toInt ≤ 0 then none else some (evP a1 a2 a3 a4 (codeM (μ 113) u) (μ 113 (170 + 125 * u)).toNatClampNeg)
def LWM (μ : Mem) : Prop := ∀ u, u < 2 → (μ 113 (170 + 125 * u)).toInt ≤ 60 ∧ (0 < (μ 113 (170 + 125 * u)).toInt → TVM (μ 113) u (μ 113 (170 + 125 * u)).toNatClampNeg ∧ 1 ≤ (runP 0 0 0 0 (codeM (μ 113) u) (μ 113 (170 + 125 * u)).toNatClampNeg).length)
def AgN (μ μ' : Mem) : Prop := ∀ o, o ≠ 118 → o ≠ 119 → μ' o = μ o
theorem AgN.rf {μ : Mem} : AgN μ μ := fun _ _ _ => rfl
/-- what a minute of the model may touch -/
def FrM (μ μ' : Mem) : Prop := (∀ o, o ≠ 113 → o ≠ 118 → o ≠ 119 → μ' o = μ o) ∧ ∀ k, 170 ≤ k → μ' 113 k = μ 113 k
theorem FrM.rf {μ : Mem} : FrM μ μ := ⟨fun _ _ _ _ => rfl, fun _ _ => rfl⟩
theorem FrM.tr {μ μ' μ2 : Mem} (h : FrM μ μ') (h2 : FrM μ' μ2) : FrM μ μ2 := ⟨fun o h3 h4 h5 => (h2.1 o h3 h4 h5).trans (h.1 o h3 h4 h5), fun k hk => (h2.2 k hk).trans (h.2 k hk)⟩
theorem FrM.up {K : Nat} {v : Int32} {μ μ' : Mem} (h : FrM μ μ') (hK : K < 170) : FrM μ (up μ' 113 K v) := ⟨fun o h3 h4 h5 => (up_ne h3).trans (h.1 o h3 h4 h5), fun k hk => (up_j (by omega)).trans (h.2 k hk)⟩
theorem AgN.fr {μ μ' : Mem} (h : AgN μ μ') : FrM μ μ' := ⟨fun o _ h4 h5 => h o h4 h5, fun _ _ => by rw [h 113 (by decide) (by decide)]⟩
theorem FrM.code {μ μ' : Mem} (h : FrM μ μ') (u : Nat) : codeM (μ' 113) u = codeM (μ 113) u := by
  funext k
  unfold codeM
  rw [h.2 _ (by omega), h.2 _ (by omega)]
theorem FrM.tx {μ μ' : Mem} (h : FrM μ μ') : txM μ' = txM μ := by
  funext u a1 a2 a3 a4
  unfold txM
  rw [h.2 _ (by omega), h.code]
theorem FrM.lw {μ μ' : Mem} (h : FrM μ μ') (hL : LWM μ) : LWM μ' := fun u hu => by
  unfold TVM
  rw [h.2 _ (by omega), h.code]
  refine ⟨(hL u hu).1, fun q => ⟨fun k hk => ?_, ((hL u hu).2 q).2⟩⟩
  rw [h.2 _ (by omega), h.2 _ (by omega)]
  exact ((hL u hu).2 q).1 k hk
