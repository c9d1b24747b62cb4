/-! THE LEAST FIXED POINT: what a method answers, as an equation. -/
theorem exL_mono {cal cal' : Bool → Nat → List AV → Mem → Rs} {jmp jmp' : Nat → LV → List AV → Mem → Rs} (hc : ∀ b m as μ r, cal b m as μ = some r → cal' b m as μ = some r) (hj : ∀ t lv st μ r, jmp t lv st μ = some r → jmp' t lv st μ = some r) : ∀ (is : List AI) (lv : LV) (st : List AV) (μ : Mem) (r : Option AV × Mem), exL cal jmp is lv st μ = some r → exL cal' jmp' is lv st μ = some r := by
  have hinv : ∀ d st μ q, inv cal d st μ = some q → inv cal' d st μ = some q := by
    intro d st μ q h
    unfold inv at h ⊢
    split at h
    · split at h
      · rename_i h1
        rw [Option.bind_eq_some_iff] at h
        obtain ⟨a, ha, hq⟩ := h
        rw [if_pos h1, hc _ _ _ _ _ ha]
        exact hq
      · exact absurd h (by simp)
    · exact h
    · exact absurd h (by simp)
  have hJ : ∀ d lv st μ r, jmpD jmp d lv st μ = some r → jmpD jmp' d lv st μ = some r := by
    intro d lv st μ r h
    unfold jmpD at h ⊢
    split at h
    · exact hj _ _ _ _ _ h
    · exact absurd h (by simp)
  have h1 : ∀ c d lv st μ r, if1 jmp c d lv st μ = some r → if1 jmp' c d lv st μ = some r := by
    intro c d lv st μ r h
    unfold if1 at h ⊢
    split at h
    · by_cases hp : cmpB c ‹Int32› 0 = true
      · rw [if_pos hp] at h ⊢; exact hj _ _ _ _ _ h
      · rw [if_neg hp] at h ⊢; exact hj _ _ _ _ _ h
    · exact absurd h (by simp)
  have h2 : ∀ c d lv st μ r, if2 jmp c d lv st μ = some r → if2 jmp' c d lv st μ = some r := by
    intro c d lv st μ r h
    unfold if2 at h ⊢
    split at h
    · rename_i t f b a r'
      by_cases hp : cmpB c a b = true
      · rw [if_pos hp] at h ⊢; exact hj _ _ _ _ _ h
      · rw [if_neg hp] at h ⊢; exact hj _ _ _ _ _ h
    · exact absurd h (by simp)
  have h3 : ∀ (sw : List (Int32 × Nat)) lv st μ a e r, swJ jmp lv st μ a e sw = some r → swJ jmp' lv st μ a e sw = some r := by
    intro sw
    induction sw with
    | nil => intro lv st μ a e r h; exact hj _ _ _ _ _ h
    | cons p l ih =>
      intro lv st μ a e r h
      obtain ⟨k, t⟩ := p
      unfold swJ at h ⊢
      by_cases hp : a = k
      · rw [if_pos hp] at h ⊢; exact hj _ _ _ _ _ h
      · rw [if_neg hp] at h ⊢; exact ih _ _ _ _ _ _ h
  have h4 : ∀ d sw lv st μ r, sw1 jmp d sw lv st μ = some r → sw1 jmp' d sw lv st μ = some r := by
    intro d sw lv st μ r h
    unfold sw1 at h ⊢
    split at h
    · exact h3 _ _ _ _ _ _ _ h
    · exact absurd h (by simp)
  intro is
  induction is with
  | nil => intro lv st μ r h; exact absurd h (by simp [exL])
  | cons a is ih =>
    obtain ⟨i, x, y, d, sw⟩ := a
    intro lv st μ r h
    unfold exL at h ⊢
    split at h
    · exact hJ _ _ _ _ _ h
    · exact hJ _ _ _ _ _ h
    · exact h1 _ _ _ _ _ _ h
    · exact h2 _ _ _ _ _ _ h
    · exact h4 _ _ _ _ _ _ h
    · exact h4 _ _ _ _ _ _ h
    · exact h
    · exact h
    · exact h
    · exact h
    · rw [Option.bind_eq_some_iff] at h
      obtain ⟨q, hq, h⟩ := h
      rw [hinv _ _ _ _ hq]
      exact ih _ _ _ _ h
    · rw [Option.bind_eq_some_iff] at h
      obtain ⟨q, hq, h⟩ := h
      rw [hinv _ _ _ _ hq]
      exact ih _ _ _ _ h
    · rw [Option.bind_eq_some_iff] at h
      obtain ⟨q, hq, h⟩ := h
      rw [hq]
      exact ih _ _ _ _ h
theorem exL_lim {cal : Nat → Bool → Nat → List AV → Mem → Rs} {jmp : Nat → Nat → LV → List AV → Mem → Rs} {calW : Bool → Nat → List AV → Mem → Rs} {jmpW : Nat → LV → List AV → Mem → Rs} (hcm : ∀ n b m as μ r, cal n b m as μ = some r → cal (n + 1) b m as μ = some r) (hjm : ∀ n t lv st μ r, jmp n t lv st μ = some r → jmp (n + 1) t lv st μ = some r)
    (hc : ∀ b m as μ r, calW b m as μ = some r → ∃ n, cal n b m as μ = some r) (hj : ∀ t lv st μ r, jmpW t lv st μ = some r → ∃ n, jmp n t lv st μ = some r) : ∀ (is : List AI) (lv : LV) (st : List AV) (μ : Mem) (r : Option AV × Mem), exL calW jmpW is lv st μ = some r → ∃ n, exL (cal n) (jmp n) is lv st μ = some r := by
  have hcm' : ∀ k n b m as μ r, cal n b m as μ = some r → cal (n + k) b m as μ = some r := by
    intro k
    induction k with
    | zero => intro n b m as μ r h; exact h
    | succ k ih => intro n b m as μ r h; exact hcm _ _ _ _ _ _ (ih _ _ _ _ _ _ h)
  have hjm' : ∀ k n t lv st μ r, jmp n t lv st μ = some r → jmp (n + k) t lv st μ = some r := by
    intro k
    induction k with
    | zero => intro n b m as μ r h; exact h
    | succ k ih => intro n t lv st μ r h; exact hjm _ _ _ _ _ _ (ih _ _ _ _ _ _ h)
  have hinv : ∀ d st μ q, inv calW d st μ = some q → ∃ n, ∀ k, inv (cal (n + k)) d st μ = some q := by
    intro d st μ q h
    unfold inv at h
    split at h
    · split at h
      · rename_i h1
        rw [Option.bind_eq_some_iff] at h
        obtain ⟨a, ha, hq⟩ := h
        obtain ⟨n, hn⟩ := hc _ _ _ _ _ ha
        refine ⟨n, fun k => ?_⟩
        unfold inv
        dsimp only
        rw [if_pos h1, hcm' k _ _ _ _ _ _ hn]
        exact hq
      · exact absurd h (by simp)
    · exact ⟨0, fun k => h⟩
    · exact absurd h (by simp)
  have h3 : ∀ (sw : List (Int32 × Nat)) lv st μ a e r, swJ jmpW lv st μ a e sw = some r → ∃ n, swJ (jmp n) lv st μ a e sw = some r := by
    intro sw
    induction sw with
    | nil => intro lv st μ a e r h; exact hj _ _ _ _ _ h
    | cons p l ih =>
      intro lv st μ a e r h
      obtain ⟨k, t⟩ := p
      unfold swJ at h ⊢
      by_cases hp : a = k
      · simp only [if_pos hp] at h ⊢; exact hj _ _ _ _ _ h
      · simp only [if_neg hp] at h ⊢; exact ih _ _ _ _ _ _ h
  intro is
  induction is with
  | nil => intro lv st μ r h; exact absurd h (by simp [exL])
  | cons a is ih =>
    obtain ⟨i, x, y, d, sw⟩ := a
    intro lv st μ r h
    have hI : ∀ q, inv calW d st μ = some q → exL calW jmpW is lv q.1 q.2 = some r → ∃ n, (inv (cal n) d st μ).bind (fun q => exL (cal n) (jmp n) is lv q.1 q.2) = some r := by
      intro q h1 h2
      obtain ⟨n, hn⟩ := hinv _ _ _ _ h1
      obtain ⟨k, hk⟩ := ih _ _ _ _ h2
      refine ⟨n + k, ?_⟩
      rw [hn k, Option.bind_some, Nat.add_comm]
      exact exL_mono (hcm' n k) (hjm' n k) _ _ _ _ _ hk
    unfold exL at h ⊢
    split at h
    · unfold jmpD at h ⊢
      split at h
      · exact hj _ _ _ _ _ h
      · exact absurd h (by simp)
    · unfold jmpD at h ⊢
      split at h
      · exact hj _ _ _ _ _ h
      · exact absurd h (by simp)
    · unfold if1 at h ⊢
      split at h
      · by_cases hp : cmpB ‹ClassFile.Cond› ‹Int32› 0 = true
        · simp only [if_pos hp] at h ⊢; exact hj _ _ _ _ _ h
        · simp only [if_neg hp] at h ⊢; exact hj _ _ _ _ _ h
      · exact absurd h (by simp)
    · unfold if2 at h ⊢
      split at h
      · rename_i t f b a r'
        by_cases hp : cmpB ‹ClassFile.Cond› a b = true
        · simp only [if_pos hp] at h ⊢; exact hj _ _ _ _ _ h
        · simp only [if_neg hp] at h ⊢; exact hj _ _ _ _ _ h
      · exact absurd h (by simp)
    · unfold sw1 at h ⊢
      split at h
      · exact h3 _ _ _ _ _ _ _ h
      · exact absurd h (by simp)
    · unfold sw1 at h ⊢
      split at h
      · exact h3 _ _ _ _ _ _ _ h
      · exact absurd h (by simp)
    · exact ⟨0, h⟩
    · exact ⟨0, h⟩
    · exact ⟨0, h⟩
    · exact ⟨0, h⟩
    · rw [Option.bind_eq_some_iff] at h
      obtain ⟨q, hq, h⟩ := h
      exact hI q hq h
    · rw [Option.bind_eq_some_iff] at h
      obtain ⟨q, hq, h⟩ := h
      exact hI q hq h
    · rw [Option.bind_eq_some_iff] at h
      obtain ⟨q, hq, h⟩ := h
      obtain ⟨n, hn⟩ := ih _ _ _ _ h
      refine ⟨n, ?_⟩
      rw [hq]
      exact hn
/-- a run by fuel: n block steps and calls; d levels of recursion -/
def rn : Nat → Nat → Nat → Nat → LV → List AV → Mem → Rs
  | 0, _, _, _, _, _, _ => none
  | n + 1, d, m, b, lv, st, μ => exL (fun rc m' as μ' => if rc = true then (if d = 0 then none else if slA as ≤ mxL m' then rn n (d - 1) m' 0 (entL (mxL m') as) [] μ' else none) else if slA as ≤ mxL m' then rn n d m' 0 (entL (mxL m') as) [] μ' else none) (fun b' lv' st' μ' => rn n d m b' lv' st' μ') (blk m b) lv st μ
def rnc (n d m : Nat) (as : List AV) (μ : Mem) : Rs := if slA as ≤ mxL m then rn n d m 0 (entL (mxL m) as) [] μ else none
theorem rn_s (n d m b : Nat) (lv : LV) (st : List AV) (μ : Mem) : rn (n + 1) d m b lv st μ = exL (fun rc m' as μ' => if rc = true then (if d = 0 then none else rnc n (d - 1) m' as μ') else rnc n d m' as μ') (fun b' lv' st' μ' => rn n d m b' lv' st' μ') (blk m b) lv st μ := rfl
theorem rnc_mono {n d m : Nat} {as : List AV} {μ : Mem} {r : Option AV × Mem} (hh : ∀ d m b lv st μ r, rn n d m b lv st μ = some r → rn (n + 1) d m b lv st μ = some r) (h : rnc n d m as μ = some r) : rnc (n + 1) d m as μ = some r := by
  unfold rnc at h ⊢
  by_cases hs : slA as ≤ mxL m
  · rw [if_pos hs] at h ⊢; exact hh _ _ _ _ _ _ _ h
  · rw [if_neg hs] at h; exact absurd h (by simp)
theorem rn_mono : ∀ n d m b lv st μ r, rn n d m b lv st μ = some r → rn (n + 1) d m b lv st μ = some r := by
  intro n
  induction n with
  | zero => intro d m b lv st μ r h; exact absurd h (by simp [rn])
  | succ n ih =>
    intro d m b lv st μ r h
    rw [rn_s] at h ⊢
    refine exL_mono (fun rc m' as μ' r' h' => ?_) (fun b' lv' st' μ' r' h' => ih _ _ _ _ _ _ _ h') _ _ _ _ _ h
    by_cases hr : rc = true
    · rw [if_pos hr] at h' ⊢
      by_cases hd : d = 0
      · rw [if_pos hd] at h'; exact absurd h' (by simp)
      · rw [if_neg hd] at h' ⊢
        exact rnc_mono ih h'
    · rw [if_neg hr] at h' ⊢
      exact rnc_mono ih h'
theorem rn_le {n k : Nat} {d m b lv st μ r} (h : rn n d m b lv st μ = some r) : rn (n + k) d m b lv st μ = some r := by
  induction k with
  | zero => exact h
  | succ k ih => exact rn_mono _ _ _ _ _ _ _ _ ih
theorem rn_fun {n k : Nat} {d m b lv st μ r r'} (h : rn n d m b lv st μ = some r) (h' : rn k d m b lv st μ = some r') : r = r' := by
  have h1 := rn_le (k := k) h
  have h2 := rn_le (k := n) h'
  rw [Nat.add_comm] at h2
  exact Option.some.inj (h1.symm.trans h2)
noncomputable def res (d m b : Nat) (lv : LV) (st : List AV) (μ : Mem) : Rs := @dite Rs (∃ r, ∃ n, rn n d m b lv st μ = some r) (Classical.propDecidable _) (fun h => some (Classical.choose h)) (fun _ => none)
theorem res_iff {d m b lv st μ r} : res d m b lv st μ = some r ↔ ∃ n, rn n d m b lv st μ = some r := by
  unfold res
  constructor
  · intro h
    by_cases hx : ∃ r, ∃ n, rn n d m b lv st μ = some r
    · rw [dif_pos hx] at h
      obtain ⟨n, hn⟩ := Classical.choose_spec hx
      rw [Option.some.inj h] at hn
      exact ⟨n, hn⟩
    · rw [dif_neg hx] at h
      exact absurd h (by simp)
  · rintro ⟨n, hn⟩
    have hx : ∃ r, ∃ n, rn n d m b lv st μ = some r := ⟨r, n, hn⟩
    rw [dif_pos hx]
    obtain ⟨k, hk⟩ := Classical.choose_spec hx
    rw [rn_fun hk hn]
/-- a call of method m -/
noncomputable def cl (d m : Nat) (as : List AV) (μ : Mem) : Rs := if slA as ≤ mxL m then res d m 0 (entL (mxL m) as) [] μ else none
noncomputable def ca (d : Nat) : Bool → Nat → List AV → Mem → Rs := fun rc m as μ => if rc = true then (if d = 0 then none else cl (d - 1) m as μ) else cl d m as μ
theorem cl_iff {d m as μ r} : cl d m as μ = some r ↔ ∃ n, rnc n d m as μ = some r := by
  unfold cl rnc
  by_cases hs : slA as ≤ mxL m
  · simp only [if_pos hs]; exact res_iff
  · simp only [if_neg hs]
    exact ⟨fun h => absurd h (by simp), fun ⟨_, h⟩ => absurd h (by simp)⟩
theorem res_eq (d m b : Nat) (lv : LV) (st : List AV) (μ : Mem) : res d m b lv st μ = exL (ca d) (res d m) (blk m b) lv st μ := by
  have key : ∀ r, res d m b lv st μ = some r ↔ exL (ca d) (res d m) (blk m b) lv st μ = some r := by
    intro r
    rw [res_iff]
    constructor
    · rintro ⟨n, hn⟩
      cases n with
      | zero => exact absurd hn (by simp [rn])
      | succ n =>
        rw [rn_s] at hn
        refine exL_mono (fun rc m' as μ' r' h' => ?_) (fun b' lv' st' μ' r' h' => res_iff.mpr ⟨n, h'⟩) _ _ _ _ _ hn
        unfold ca
        by_cases hr : rc = true
        · rw [if_pos hr] at h' ⊢
          by_cases hd : d = 0
          · rw [if_pos hd] at h'; exact absurd h' (by simp)
          · rw [if_neg hd] at h' ⊢
            exact cl_iff.mpr ⟨n, h'⟩
        · rw [if_neg hr] at h' ⊢
          exact cl_iff.mpr ⟨n, h'⟩
    · intro h
      obtain ⟨n, hn⟩ := exL_lim (cal := fun n rc m' as μ' => if rc = true then (if d = 0 then none else rnc n (d - 1) m' as μ') else rnc n d m' as μ') (jmp := fun n b' lv' st' μ' => rn n d m b' lv' st' μ')
        (fun n rc m' as μ' r' h' => by
          by_cases hr : rc = true
          · simp only [if_pos hr] at h' ⊢
            by_cases hd : d = 0
            · rw [if_pos hd] at h'; exact absurd h' (by simp)
            · rw [if_neg hd] at h' ⊢
              exact rnc_mono (rn_mono n) h'
          · simp only [if_neg hr] at h' ⊢
            exact rnc_mono (rn_mono n) h')
        (fun n t lv st μ r' h' => rn_mono _ _ _ _ _ _ _ _ h')
        (fun rc m' as μ' r' h' => by
          unfold ca at h'
          by_cases hr : rc = true
          · simp only [if_pos hr] at h' ⊢
            by_cases hd : d = 0
            · rw [if_pos hd] at h'; exact absurd h' (by simp)
            · rw [if_neg hd] at h'
              obtain ⟨n, hn⟩ := cl_iff.mp h'
              exact ⟨n, by rw [if_neg hd]; exact hn⟩
          · simp only [if_neg hr] at h' ⊢
            exact cl_iff.mp h')
        (fun t lv st μ r' h' => res_iff.mp h') _ _ _ _ _ h
      exact ⟨n + 1, by rw [rn_s]; exact hn⟩
  cases h1 : res d m b lv st μ with
  | some r => exact ((key r).mp h1).symm
  | none =>
    cases h2 : exL (ca d) (res d m) (blk m b) lv st μ with
    | none => rfl
    | some r => rw [(key r).mpr h2] at h1; exact absurd h1 (by simp)
