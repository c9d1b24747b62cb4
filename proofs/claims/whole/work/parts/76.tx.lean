/-! TEXTS READ: signs that wait, against the descent; what both do to lists. -/
def lvl (s : Int32) : Nat := if s = 124 then 1 else if s = 38 then 2 else if s = 60 then 3 else if s = 61 then 3 else if s = 62 then 3 else if s = 43 then 4 else if s = 45 then 4 else if s = 42 then 5 else if s = 47 then 5 else if s = 37 then 5 else if s = 33 then 6 else 0
def topl : List Int32 → Nat
  | [] => 0
  | s :: _ => lvl s
def opn : List Int32 → Nat
  | [] => 0
  | s :: p => if s = 33 ∨ s = 40 then opn p + 1 else opn p
def clo (l : Nat) : List Int32 → List Int32 → List Int32 × List Int32
  | [], c => ([], c)
  | s :: p, c => if l ≤ lvl s then clo l p ((10000 + s) :: c) else (s :: p, c)
def mks : List Int32 → List Int32 → List Int32
  | [], c => c
  | s :: q, c => mks q ((10000 + s) :: c)
theorem clo_app {l : Nat} {p : List Int32} (hp : topl p < l) : ∀ (q c : List Int32), (∀ s, s ∈ q → l ≤ lvl s) → clo l (q ++ p) c = (p, mks q c) := by
  intro q
  induction q with
  | nil =>
    intro c _
    cases p with
    | nil => rfl
    | cons s p => exact if_neg (by have : lvl s < l := hp; omega)
  | cons s q ih =>
    intro c h
    have e : clo l (s :: (q ++ p)) c = clo l (q ++ p) ((10000 + s) :: c) := if_pos (h s List.mem_cons_self)
    rw [List.cons_append, e, ih _ (fun x hx => h x (List.mem_cons_of_mem _ hx))]
    rfl
theorem mks_app {b : Int32} : ∀ (q c : List Int32), mks (q ++ [b]) c = (10000 + b) :: mks q c := by
  intro q
  induction q with
  | nil => exact fun _ => rfl
  | cons s q ih => exact fun c => ih _
abbrev St : Type := List Int32 × List Int32 × Nat × Bool
def nix (u : Nat) (b : Int32) : Int32 := if u = 0 then ixD b else ixH b
def tak (u : Nat) (b : Int32) (s : St) : Option St :=
  if 48 ≤ b.toInt ∧ b.toInt ≤ 57 then
    (if s.2.2.2 = true then some ((b - 48) :: s.1, s.2.1, 1, false)
    else if s.2.2.1 = 0 ∨ s.2.2.1 = 4 then none
    else match s.1 with
      | [] => none
      | x :: c => some ((x * 10 + (b - 48)) :: c, s.2.1, s.2.2.1 + 1, false))
  else if s.2.2.2 = true then
    (if b = 33 ∨ b = 40 then (if opn s.2.1 = 5 then none else some (s.1, b :: s.2.1, 0, true))
    else if (nix u b).toInt < 0 then none else some ((20000 + nix u b) :: s.1, s.2.1, 0, false))
  else if b = 41 then
    (match (clo 1 s.2.1 s.1).1 with
      | [] => none
      | _ :: p => some ((clo 1 s.2.1 s.1).2, p, 0, false))
  else if lvl b = 0 ∨ lvl b = 6 then none
  else if lvl b = 3 ∧ topl (clo (if lvl b = 3 then 4 else lvl b) s.2.1 s.1).1 = 3 then none
  else some ((clo (if lvl b = 3 then 4 else lvl b) s.2.1 s.1).2, b :: (clo (if lvl b = 3 then 4 else lvl b) s.2.1 s.1).1, 0, true)
def rnT (u : Nat) (t : Nat → Int32) : Nat → Nat → St → Option St
  | 0, _, s => some s
  | n + 1, i, s => (tak u (t i) s).bind fun s' => rnT u t n (i + 1) s'
theorem rnT_add {u : Nat} {t : Nat → Int32} {m : Nat} : ∀ n i s, rnT u t (n + m) i s = (rnT u t n i s).bind fun s' => rnT u t m (i + n) s' := by
  intro n
  induction n with
  | zero => intro i s; rw [Nat.zero_add]; rfl
  | succ n ih =>
    intro i s
    rw [show n + 1 + m = (n + m) + 1 by omega]
    show (tak u (t i) s).bind (fun s' => rnT u t (n + m) (i + 1) s') = ((tak u (t i) s).bind fun s' => rnT u t n (i + 1) s').bind fun s' => rnT u t m (i + (n + 1)) s'
    rw [Option.bind_assoc]
    congr 1
    funext s'
    rw [ih, show i + 1 + n = i + (n + 1) by omega]
theorem rnT_1 {u : Nat} {t : Nat → Int32} {i : Nat} {s s' : St} (h : tak u (t i) s = some s') : rnT u t 1 i s = some s' := by
  show (tak u (t i) s).bind (fun s' => some s') = _
  rw [h]
  rfl
/-- the steps of the model as marks -/
def mkL (u : Nat) : List (Int32 × Int32) → List Int32
  | [] => []
  | p :: r => mkM u p.1 p.2 :: mkL u r
def dpE : List (Int32 × Int32) → Nat
  | [] => 0
  | p :: r => if p.1 = 2 then dpE r else if p.1 = 3 then dpE r - 1 else dpE r + 1
def okE (u : Nat) : List (Int32 × Int32) → Prop
  | [] => True
  | p :: r => okE u r ∧ ((p.1 = 0 ∧ 0 ≤ p.2.toInt ∧ p.2.toInt ≤ 9999) ∨ (p.1 = 1 ∧ okN u p.2) ∨ (p.1 = 2 ∧ 1 ≤ dpE r) ∨ (p.1 = 3 ∧ okG p.2 ∧ 2 ≤ dpE r))
/-- nothing goes on at b, but for signs below level k -/
def stk (k : Nat) (b : Int32) (p1 c1 : List Int32) (g1 : Nat) : Prop := (48 ≤ b.toInt ∧ b.toInt ≤ 57 → g1 = 0 ∨ g1 = 4) ∧ (k ≤ lvl b → lvl b = 6 ∨ (lvl b = 3 ∧ topl (clo 4 p1 c1).1 = 3))
def OKP (u : Nat) (t : Nat → Int32) (L l k i : Nat) (c p : List Int32) (E' : List (Int32 × Int32)) (j : Nat) : Prop :=
  ∃ n c1 q g1, j = i + n ∧ j ≤ L ∧ rnT u t n i (c, p, 0, true) = some (c1, q ++ p, g1, false) ∧ (∀ s, s ∈ q → l ≤ lvl s) ∧ mkL u E' = mks q c1 ∧ (j < L → stk k (t j) (q ++ p) c1 g1)
def FLP (u : Nat) (t : Nat → Int32) (L i : Nat) (c p : List Int32) (j : Nat) : Prop :=
  ∃ n s1, j = i + n ∧ j ≤ L ∧ rnT u t n i (c, p, 0, true) = some s1 ∧ (j < L → tak u (t j) s1 = none) ∧ (j = L → s1.2.2.2 = true ∨ (clo 1 s1.2.1 s1.1).1 ≠ [])
theorem lvl_no {b : Int32} (h : 1 ≤ lvl b ∧ lvl b ≤ 5) : ¬ (48 ≤ b.toInt ∧ b.toInt ≤ 57) ∧ ¬ b = 41 ∧ ¬ b = 33 ∧ ¬ b = 40 := by
  unfold lvl at h
  have hh : b = 124 ∨ b = 38 ∨ b = 60 ∨ b = 61 ∨ b = 62 ∨ b = 43 ∨ b = 45 ∨ b = 42 ∨ b = 47 ∨ b = 37 := by
    by_cases h1 : b = 124
    · exact Or.inl h1
    · by_cases h2 : b = 38
      · simp [h2]
      · by_cases h3 : b = 60
        · simp [h3]
        · by_cases h4 : b = 61
          · simp [h4]
          · by_cases h5 : b = 62
            · simp [h5]
            · by_cases h6 : b = 43
              · simp [h6]
              · by_cases h7 : b = 45
                · simp [h7]
                · by_cases h8 : b = 42
                  · simp [h8]
                  · by_cases h9 : b = 47
                    · simp [h9]
                    · by_cases h10 : b = 37
                      · simp [h10]
                      · rw [if_neg h1, if_neg h2, if_neg h3, if_neg h4, if_neg h5, if_neg h6, if_neg h7, if_neg h8, if_neg h9, if_neg h10] at h
                        split at h <;> omega
  rcases hh with rfl | rfl | rfl | rfl | rfl | rfl | rfl | rfl | rfl | rfl <;> decide
theorem opn_b {b : Int32} {p : List Int32} (h : 1 ≤ lvl b ∧ lvl b ≤ 5) : opn (b :: p) = opn p := by
  obtain ⟨-, -, h1, h2⟩ := lvl_no h
  exact if_neg (fun z => z.elim h1 h2)
/-- a sign is taken -/
theorem tak_sign {u : Nat} {b : Int32} {c1 q p : List Int32} {g1 l l0 : Nat} (hb : lvl b = l) (hl : 1 ≤ l ∧ l ≤ 5) (h0 : l0 = if l = 3 then 4 else l) (hq : ∀ s, s ∈ q → l0 ≤ lvl s) (hp : topl p < l) : tak u b (c1, q ++ p, g1, false) = some (mks q c1, b :: p, 0, true) := by
  obtain ⟨n1, n2, n3, n4⟩ := lvl_no (b := b) (by omega)
  have hp0 : topl p < l0 := by rw [h0]; split <;> omega
  have hc := clo_app (l := l0) hp0 q c1 hq
  unfold tak
  rw [if_neg n1, if_neg (by simp), if_neg n2, if_neg (by omega)]
  simp only [hb, ← h0]
  rw [hc]
  dsimp only
  rw [if_neg (by omega)]
theorem step_ok {u : Nat} {t : Nat → Int32} {L l l0 k0 i j j2 : Nat} {c p : List Int32} {E1 E2 : List (Int32 × Int32)} (hl : 1 ≤ l ∧ l ≤ 5) (h0 : l0 = if l = 3 then 4 else l) (h1 : OKP u t L l0 k0 i c p E1 j) (hj : j < L) (hb : lvl (t j) = l) (hp : topl p < l) (h2 : OKP u t L (l + 1) (l + 1) (j + 1) (mkL u E1) (t j :: p) E2 j2) : OKP u t L l (if l = 3 then 3 else l + 1) i c p ((3, t j) :: E2) j2 := by
  obtain ⟨n, c1, q, g1, e1, e2, e3, e4, e5, e6⟩ := h1
  obtain ⟨n2, c2, q2, g2, f1, f2, f3, f4, f5, f6⟩ := h2
  have tk := tak_sign (u := u) (c1 := c1) (g1 := g1) hb hl h0 e4 hp
  rw [← e5] at tk
  have hq2 : q2 ++ t j :: p = (q2 ++ [t j]) ++ p := by rw [List.append_assoc]; rfl
  refine ⟨n + (1 + n2), c2, q2 ++ [t j], g2, by omega, f2, ?_, fun s hs => ?_, ?_, fun hj2 => ?_⟩
  · rw [rnT_add, e3]
    show rnT u t (1 + n2) (i + n) (c1, q ++ p, g1, false) = _
    rw [rnT_add, ← e1, rnT_1 tk]
    show rnT u t n2 (j + 1) (mkL u E1, t j :: p, 0, true) = _
    rw [f3, hq2]
  · rcases List.mem_append.mp hs with q | q
    · have := f4 s q
      omega
    · rw [List.mem_singleton.mp q]
      omega
  · rw [mks_app, ← f5]
    show mkM u 3 (t j) :: mkL u E2 = _
    unfold mkM
    rw [if_neg (by decide), if_neg (by decide), if_neg (by decide)]
  · have s := f6 hj2
    rw [hq2] at s
    refine ⟨s.1, fun hk => ?_⟩
    by_cases l3 : l = 3
    · rw [if_pos l3] at hk
      by_cases h3 : lvl (t j2) = 3
      · refine Or.inr ⟨h3, ?_⟩
        have hc := clo_app (l := 4) (p := t j :: p) (by show lvl (t j) < 4; omega) q2 c2 (fun s hs => by have := f4 s hs; omega)
        rw [← hq2, hc]
        show lvl (t j) = 3
        omega
      · exact (s.2 (by omega)).elim Or.inl (fun z => absurd z.1 h3)
    · rw [if_neg l3] at hk
      exact s.2 hk
theorem step_fl {u : Nat} {t : Nat → Int32} {L l l0 k0 i j j2 : Nat} {c p : List Int32} {E1 : List (Int32 × Int32)} (hl : 1 ≤ l ∧ l ≤ 5) (h0 : l0 = if l = 3 then 4 else l) (h1 : OKP u t L l0 k0 i c p E1 j) (hb : lvl (t j) = l) (hp : topl p < l) (h2 : FLP u t L (j + 1) (mkL u E1) (t j :: p) j2) : FLP u t L i c p j2 := by
  obtain ⟨n, c1, q, g1, e1, e2, e3, e4, e5, e6⟩ := h1
  obtain ⟨n2, s2, f1, f2, f3, f4, f5⟩ := h2
  have tk := tak_sign (u := u) (c1 := c1) (g1 := g1) hb hl h0 e4 hp
  rw [← e5] at tk
  refine ⟨n + (1 + n2), s2, by omega, f2, ?_, f4, f5⟩
  rw [rnT_add, e3]
  show rnT u t (1 + n2) (i + n) (c1, q ++ p, g1, false) = _
  rw [rnT_add, ← e1, rnT_1 tk]
  exact f3
/-- a level out of the one below it, where its signs are not next -/
theorem up_lv {u : Nat} {t : Nat → Int32} {L l l' k k' i j : Nat} {c p : List Int32} {E1 : List (Int32 × Int32)} (h : OKP u t L l k i c p E1 j) (hl : l' ≤ l) (hk : j < L → k' ≤ lvl (t j) → k ≤ lvl (t j)) : OKP u t L l' k' i c p E1 j := by
  obtain ⟨n, c1, q, g1, e1, e2, e3, e4, e5, e6⟩ := h
  exact ⟨n, c1, q, g1, e1, e2, e3, fun s hs => Nat.le_trans hl (e4 s hs), e5, fun hj => ⟨(e6 hj).1, fun z => (e6 hj).2 (hk hj z)⟩⟩
/-- where all is stuck the byte is refused -/
theorem stk_no {u : Nat} {b : Int32} {p1 c1 : List Int32} {g1 : Nat} (h : stk 1 b p1 c1 g1) (h41 : ¬ b = 41 ∨ (clo 1 p1 c1).1 = []) : tak u b (c1, p1, g1, false) = none := by
  unfold tak
  by_cases hd : 48 ≤ b.toInt ∧ b.toInt ≤ 57
  · rw [if_pos hd, if_neg (by simp), if_pos (h.1 hd)]
  · rw [if_neg hd, if_neg (by simp)]
    by_cases hb : b = 41
    · rw [if_pos hb]
      have := h41.resolve_left (fun z => z hb)
      simp only [this]
    · rw [if_neg hb]
      by_cases h06 : lvl b = 0 ∨ lvl b = 6
      · rw [if_pos h06]
      · rw [if_neg h06]
        rcases h.2 (by omega) with q | q
        · exact absurd (Or.inr q) h06
        · have h4 : (if lvl b = 3 then 4 else lvl b) = 4 := if_pos q.1
          rw [if_pos]
          rw [h4]
          exact q
