/-! WHAT A TABLE MUST SAY of a block for it to be the code. -/
def tgt (pcs : List Nat) (pc : Nat) (off : Int) (t : Nat) : Bool := (pc : Int) + off == ((pcs.getD t 0 : Nat) : Int)
def swT (pcs : List Nat) (pc : Nat) : Int → List Int → List (Int32 × Nat) → Bool
  | _, [], [] => true
  | lo, off :: os, (k, t) :: r => k.toInt == lo && (tgt pcs pc off t && swT pcs pc (lo + 1) os r)
  | _, _, _ => false
def swL (pcs : List Nat) (pc : Nat) : List (Int × Int) → List (Int32 × Nat) → Bool
  | [], [] => true
  | (a, off) :: os, (k, t) :: r => k.toInt == a && (tgt pcs pc off t && swL pcs pc os r)
  | _, _ => false
def okCall (ci mm k : Nat) (st : Bool) (d : List Nat) : Bool := match d with
  | [z, m', n, rc] => CLb ci k m' && (decide (m' < 196) && (isS m' == st && ((if st = true then z == 0 && n == na m' else z == cix m' + 1 && n == na m' + 1) && ((rc == 1 || (rc == 0 && decide (rkm m' < rkm mm)))))))
  | [_, b] => BLb ci k b && (if st = true then (b == 1 || (b == 2 || (b == 3 || (b == 4 || b == 5)))) else b == 7)
  | _ => false
def okC (ci mm nL : Nat) (pcs : List Nat) (pc len : Nat) (i : Instr) (x : Int32) (y : Int64) (d : List Nat) (sw : List (Int32 × Nat)) : Bool := match i with
  | .goto off => (match d with
    | [t] => tgt pcs pc off t
    | _ => false) && len == 3
  | .ifCond _ off => (match d with
    | [t, f] => tgt pcs pc off t && tgt pcs pc 3 f
    | _ => false) && len == 3
  | .if_icmp _ off => (match d with
    | [t, f] => tgt pcs pc off t && tgt pcs pc 3 f
    | _ => false) && len == 3
  | .tableswitch df lo hi offs => (match d with
    | [e] => tgt pcs pc df e
    | _ => false) && (lo + (offs.toList.length : Int) == hi + 1 && swT pcs pc lo offs.toList sw)
  | .lookupswitch df ps => (match d with
    | [e] => tgt pcs pc df e
    | _ => false) && ((ps.toList.zip (ps.toList.drop 1)).all (fun (a, next) => a.1 < next.1) && swL pcs pc ps.toList sw)
  | .ireturn => (match d with
    | [] => decide (rt mm = some .int)
    | [_] => decide (rt mm = some .boolean)
    | _ => false) && len == 1
  | .lreturn => decide (rt mm = some .long) && len == 1
  | .areturn => (match rt mm with
    | some (.object _) => true
    | _ => false) && len == 1
  | .return_ => decide (rt mm = none) && len == 1
  | .invokevirtual k => okCall ci mm k false d && len == 3
  | .invokestatic k => okCall ci mm k true d && len == 3
  | _ => okI ci nL len i x y d
def chkL (ci mm nL : Nat) (bytes : ByteArray) (pcs : List Nat) : Nat → List AI → Bool
  | _, [] => true
  | pc, (i, x, y, d, sw) :: is => match i with
    | .nop => (match d with
      | [t] => tgt pcs pc 0 t
      | _ => false)
    | i => match decode bytes pc with
      | .ok (i', len) => decide (i' = i) && (okC ci mm nL pcs pc len i x y d sw && chkL ci mm nL bytes pcs (pc + len) is)
      | .error _ => false
def chkM (m : Nat) (bytes : ByteArray) : Bool := (List.range (pcs m).length).all fun b => chkL (cix m) m (mxL m) bytes (pcs m) (pcb m b) (blk m b)
theorem swT_ok {pcs : List Nat} {pc : Nat} {jmp : Nat → LV → List AV → Mem → Rs} {lv : LV} {st : List AV} {μ : Mem} {a : Int32} {e : Nat} {r : Option AV × Mem} : ∀ (sw : List (Int32 × Nat)) (lo : Int) (os : List Int), swT pcs pc lo os sw = true → swJ jmp lv st μ a e sw = some r → (∃ (i t : Nat) (off : Int), os[i]? = some off ∧ a.toInt = lo + i ∧ tgt pcs pc off t = true ∧ jmp t lv st μ = some r) ∨ ((a.toInt < lo ∨ lo + os.length ≤ a.toInt) ∧ jmp e lv st μ = some r) := by
  intro sw
  induction sw with
  | nil =>
    intro lo os h hj
    cases os with
    | nil => exact Or.inr ⟨by simp; omega, hj⟩
    | cons o os => exact absurd h (by simp [swT])
  | cons p sw ih =>
    intro lo os h hj
    obtain ⟨k, t⟩ := p
    cases os with
    | nil => exact absurd h (by simp [swT])
    | cons o os =>
      simp only [swT, Bool.and_eq_true, beq_iff_eq] at h
      obtain ⟨h1, h2, h3⟩ := h
      unfold swJ at hj
      by_cases hk : a = k
      · rw [if_pos hk] at hj
        exact Or.inl ⟨0, t, o, rfl, by rw [hk, h1]; simp, h2, hj⟩
      · rw [if_neg hk] at hj
        rcases ih (lo + 1) os h3 hj with ⟨i, t', off, g1, g2, g3, g4⟩ | ⟨g1, g2⟩
        · exact Or.inl ⟨i + 1, t', off, by simpa using g1, by rw [g2]; push_cast; omega, g3, g4⟩
        · refine Or.inr ⟨?_, g2⟩
          have hne : a.toInt ≠ lo := fun q => hk (Int32.toInt_inj.mp (by rw [q, h1]))
          rcases g1 with g1 | g1
          · exact Or.inl (by omega)
          · exact Or.inr (by rw [List.length_cons]; push_cast; omega)
theorem swL_ok {pcs : List Nat} {pc : Nat} {df : Int} {jmp : Nat → LV → List AV → Mem → Rs} {lv : LV} {st : List AV} {μ : Mem} {a : Int32} {e : Nat} {r : Option AV × Mem} (he : tgt pcs pc df e = true) : ∀ (sw : List (Int32 × Nat)) (ps : List (Int × Int)), swL pcs pc ps sw = true → swJ jmp lv st μ a e sw = some r → ∃ (t : Nat), tgt pcs pc (Op.lookupswitch.offset ps df a.toInt) t = true ∧ jmp t lv st μ = some r := by
  intro sw
  induction sw with
  | nil =>
    intro ps h hj
    cases ps with
    | nil => exact ⟨e, he, hj⟩
    | cons o os => exact absurd h (by simp [swL])
  | cons p sw ih =>
    intro ps h hj
    obtain ⟨k, t⟩ := p
    cases ps with
    | nil => exact absurd h (by simp [swL])
    | cons o os =>
      obtain ⟨a0, off⟩ := o
      simp only [swL, Bool.and_eq_true, beq_iff_eq] at h
      obtain ⟨h1, h2, h3⟩ := h
      unfold swJ at hj
      by_cases hk : a = k
      · rw [if_pos hk] at hj
        refine ⟨t, ?_, hj⟩
        rw [hk, h1]
        simpa [Op.lookupswitch.offset] using h2
      · rw [if_neg hk] at hj
        obtain ⟨t', g1, g2⟩ := ih os h3 hj
        exact ⟨t', by rw [lv_osw hk h1]; exact g1, g2⟩
theorem tgt_eq {pcs : List Nat} {pc : Nat} {off : Int} {t : Nat} (h : tgt pcs pc off t = true) : (pc : Int) + off = ((pcs.getD t 0 : Nat) : Int) := by
  unfold tgt at h
  rwa [beq_iff_eq] at h
