/-! EACH STRAIGHT INSTRUCTION of the abstract machine is one of the machine. -/
/-- from here the machine comes to Q, whatever the heap, if it holds the world -/
def GO (p : Program) (l : Launch) (e : Env) (R : Room) (s : State) (m : MethodId) (args : Array Value) (below : List Frame) (meth : Method) (c : Code) (cells slots : Nat) (Q : State → Prop) (nL : Nat) (dC : Nat → ClassId) (dI : Nat → Nat → Nat) (dA : Nat → ClassId) (ad : Nat → Nat) (L : Nat) (fz : Mem) (A : Nat → Prop) (pc : Nat) (lv : LV) (st : List AV) (μ : Mem) : Prop :=
  ∀ (H : Heap) (locs : List Loc) (ls : Array Slot), WD dC dI dA ad L fz A μ s H → va_S A s.heap H locs → lvOk ad L ls nL lv → (∀ v ∈ st, vOk L v) → W p l e R s m args below meth c H locs cells slots Q (F0 m pc ls (st.map (cv ad)))
def CX (p : Program) (R : Room) (s : State) (m : MethodId) (args : Array Value) (c : Code) (cells slots nL : Nat) (ad : Nat → Nat) (A : Nat → Prop) (cc : ByteArray) (ci : Nat) : Prop :=
  (p.tables.exec = Jvm.exec ∧ c.code = cc ∧ c.maxLocals = nL ∧ s.vm.findClass (cn ci) = some m.cls ∧ ∀ w ∈ lw_tb, w.before args s = true) ∧ (1 ≤ R.frames ∧ 60 ≤ R.locals ∧ cells ≤ R.cells ∧ slots ≤ R.slots) ∧ (EO ad ∧ (∀ o, o < 127 → A (ad o)) ∧ (∀ q, Fr ad q → A q) ∧ VR ad s)
def GSb (ci k o : Nat) : Bool := GSl.any (fun q => q.1 == ci && (q.2.1 == k && q.2.2.1 == o))
theorem GS_get {ci k o : Nat} (h : GSb ci k o = true) : ∃ n, ((o = 200 ∧ n = "KIND_ABOVE") ∨ (o = 201 ∧ n = "BODIES")) ∧ (Cond.fieldLink (cn ci) k "TakenUp" n "[I" ∈ lw_tbl ∨ Cond.fieldLinkNest (cn ci) k "TakenUp" n "[I" "TakenUp" ∈ lw_tbl) := by
  obtain ⟨q, hq, h1⟩ := List.any_eq_true.mp h
  simp only [Bool.and_eq_true, beq_iff_eq] at h1
  obtain ⟨e1, e2, e3⟩ := h1
  have h2 := List.all_eq_true.mp GS_all q hq
  simp only [Bool.and_eq_true, decide_eq_true_eq] at h2
  obtain ⟨h2, h3⟩ := h2
  have h2 := List.mem_of_getElem? h2
  unfold GSc at h2
  rw [e1, e2, e3] at h2
  rw [e3] at h3
  rcases h3 with h3 | h3
  · subst h3
    refine ⟨"KIND_ABOVE", Or.inl ⟨rfl, rfl⟩, ?_⟩
    by_cases hn : q.2.2.2.2 = 1
    · rw [if_pos hn] at h2; exact Or.inr h2
    · rw [if_neg hn] at h2; exact Or.inl h2
  · subst h3
    refine ⟨"BODIES", Or.inr ⟨rfl, rfl⟩, ?_⟩
    by_cases hn : q.2.2.2.2 = 1
    · rw [if_pos hn] at h2; exact Or.inr h2
    · rw [if_neg hn] at h2; exact Or.inl h2
def okI (ci nL len : Nat) (i : Instr) (x : Int32) (y : Int64) (d : List Nat) : Bool := match i with
  | .iload_n k => d == [k.val] && len == 1
  | .iload k => d == [k] && len == 2
  | .lload_n k => d == [k.val] && len == 1
  | .lload k => d == [k] && len == 2
  | .aload_n k => d == [k.val] && len == 1
  | .aload k => d == [k] && len == 2
  | .istore_n k => d == [k.val] && (len == 1 && decide (k.val < nL))
  | .istore k => d == [k] && (len == 2 && decide (k < nL))
  | .lstore_n k => d == [k.val] && (len == 1 && decide (k.val + 1 < nL))
  | .lstore k => d == [k] && (len == 2 && decide (k + 1 < nL))
  | .astore_n k => d == [k.val] && (len == 1 && decide (k.val < nL))
  | .astore k => d == [k] && (len == 2 && decide (k < nL))
  | .iinc k n => d == [k] && (Int32.ofInt n == x && (len == 3 && decide (k < nL)))
  | .iconst n => Int32.ofInt n == x && len == 1
  | .bipush n => (Int8.ofInt n).toInt32 == x && len == 2
  | .sipush n => (Int16.ofInt n).toInt32 == x && len == 3
  | .ldc k => (match d with
    | [] => CSb ci k x
    | [k2, o] => ci == 7 && ((k == 152 && (k2 == 14 && o == 203)) || (k == 154 && (k2 == 15 && o == 204)))
    | _ => false) && len == 2
  | .ldc_w k => CSb ci k x && len == 3
  | .lconst f => Int64.ofNat f.val == y && len == 1
  | .ldc2_w k => CWb ci k y && len == 3
  | .getfield k => (match d with
    | [kk, j] => FLb ci k kk j && (decide (kk < 9) && (fl kk)[j]? == some none)
    | [kk, j, k2, dl] => FLb ci k kk j && (decide (kk < 9) && (fl kk)[j]? == some (some (k2, dl)))
    | _ => false) && len == 3
  | .putfield k => (match d with
    | [kk, j] => FLb ci k kk j && (decide (kk < 9) && ((fl kk)[j]? == some none && ((TT kk j).2.2.2 == false && decide (tyT kk j = .int))))
    | [kk, j, _] => FLb ci k kk j && (decide (kk < 9) && ((fl kk)[j]? == some none && ((TT kk j).2.2.2 == false && decide (tyT kk j = .boolean))))
    | _ => false) && len == 3
  | .getstatic k => (match d with
    | [k2, o] => GSb ci k o && ((o == 200 && k2 == 1007) || (o == 201 && k2 == 1028))
    | _ => false) && len == 3
  | _ => len == 1
section OP
variable {p : Program} {l : Launch} {e : Env} {R : Room} {s : State} {m : MethodId} {args : Array Value} {below : List Frame} {meth : Method} {c : Code} {cells slots : Nat} {Q : State → Prop} {nL : Nat} {dC : Nat → ClassId} {dI : Nat → Nat → Nat} {dA : Nat → ClassId} {ad : Nat → Nat} {L : Nat} {fz : Mem} {A : Nat → Prop}
theorem mem_c {v : AV} {st : List AV} {L : Nat} (hv : vOk L v) (h : ∀ w ∈ st, vOk L w) : ∀ w ∈ v :: st, vOk L w := fun w hw => (List.mem_cons.mp hw).elim (fun q => by rw [q]; exact hv) (fun q => h w q)
theorem tl_c {v : AV} {st : List AV} {L : Nat} (h : ∀ w ∈ v :: st, vOk L w) : ∀ w ∈ st, vOk L w := fun w hw => h w (List.mem_cons_of_mem _ hw)
theorem hd_c {v : AV} {st : List AV} {L : Nat} (h : ∀ w ∈ v :: st, vOk L w) : vOk L v := h v List.mem_cons_self
theorem okO {k o : Nat} (h : vOk L (Sum.inr (Sum.inr (k, o)))) (hk : k < 1000) (h14 : k ≠ 14) (h15 : k ≠ 15) (h50 : k ≠ 50) : o < 127 ∧ kd o = k := by
  have h : kdL L o = k := h
  unfold kdL at h
  have hd : kd o = k := by
    split at h
    · omega
    · split at h
      · omega
      · split at h
        · omega
        · split at h
          · omega
          · split at h
            · omega
            · exact h
  exact ⟨kd_lt (by rw [hd]; exact h50), hd⟩
theorem okL {o : Nat} (h : o < 127) : kdL L o = kd o := by
  unfold kdL
  rw [if_neg (by omega), if_neg (by omega), if_neg (by omega), if_neg (by omega), if_neg (by omega)]

theorem g_iload_n {cc : ByteArray} {ci pc len : Nat} {x : Int32} {y : Int64} {d : List Nat} {lv : LV} {st : List AV} {μ : Mem} {q : LV × List AV × Mem} {k : Fin 4} (hC : CX p R s m args c cells slots nL ad A cc ci) (hd : decode cc pc = .ok (.iload_n k, len)) (hI : okI ci nL len (.iload_n k) x y d = true) (h : op1 (.iload_n k) x y d lv st μ = some q) (kk : GO p l e R s m args below meth c cells slots Q nL dC dI dA ad L fz A (pc + len) q.1 q.2.1 q.2.2) : GO p l e R s m args below meth c cells slots Q nL dC dI dA ad L fz A pc lv st μ := by
  obtain ⟨⟨hx, hb, hml, hown, hts⟩, ⟨hR1, hR2, hR3, hR4⟩, hE, hA, hA2, hV⟩ := id hC
  simp only [okI, Bool.and_eq_true, beq_iff_eq] at hI
  obtain ⟨rfl, rfl⟩ := hI
  replace h : ldI [k.val] lv st μ = some q := h
  unfold ldI at h
  dsimp only at h
  rcases hv : lv[k.val]? with _ | _ | v
  · rw [hv] at h; cases h
  · rw [hv] at h; cases h
  · rw [hv] at h
    rcases v with v | v | v
    · cases h
      intro H locs ls hW hS hl hst
      exact lv_iload_n hx hb hd rfl (hl.at hv) (kk H locs ls hW hS hl (mem_c (trivial) hst))
    · cases h
    · cases h
theorem g_iload {cc : ByteArray} {ci pc len : Nat} {x : Int32} {y : Int64} {d : List Nat} {lv : LV} {st : List AV} {μ : Mem} {q : LV × List AV × Mem} {k : Nat} (hC : CX p R s m args c cells slots nL ad A cc ci) (hd : decode cc pc = .ok (.iload k, len)) (hI : okI ci nL len (.iload k) x y d = true) (h : op1 (.iload k) x y d lv st μ = some q) (kk : GO p l e R s m args below meth c cells slots Q nL dC dI dA ad L fz A (pc + len) q.1 q.2.1 q.2.2) : GO p l e R s m args below meth c cells slots Q nL dC dI dA ad L fz A pc lv st μ := by
  obtain ⟨⟨hx, hb, hml, hown, hts⟩, ⟨hR1, hR2, hR3, hR4⟩, hE, hA, hA2, hV⟩ := id hC
  simp only [okI, Bool.and_eq_true, beq_iff_eq] at hI
  obtain ⟨rfl, rfl⟩ := hI
  replace h : ldI [k] lv st μ = some q := h
  unfold ldI at h
  dsimp only at h
  rcases hv : lv[k]? with _ | _ | v
  · rw [hv] at h; cases h
  · rw [hv] at h; cases h
  · rw [hv] at h
    rcases v with v | v | v
    · cases h
      intro H locs ls hW hS hl hst
      exact lv_iload hx hb hd (hl.at hv) (kk H locs ls hW hS hl (mem_c (trivial) hst))
    · cases h
    · cases h
theorem g_lload_n {cc : ByteArray} {ci pc len : Nat} {x : Int32} {y : Int64} {d : List Nat} {lv : LV} {st : List AV} {μ : Mem} {q : LV × List AV × Mem} {k : Fin 4} (hC : CX p R s m args c cells slots nL ad A cc ci) (hd : decode cc pc = .ok (.lload_n k, len)) (hI : okI ci nL len (.lload_n k) x y d = true) (h : op1 (.lload_n k) x y d lv st μ = some q) (kk : GO p l e R s m args below meth c cells slots Q nL dC dI dA ad L fz A (pc + len) q.1 q.2.1 q.2.2) : GO p l e R s m args below meth c cells slots Q nL dC dI dA ad L fz A pc lv st μ := by
  obtain ⟨⟨hx, hb, hml, hown, hts⟩, ⟨hR1, hR2, hR3, hR4⟩, hE, hA, hA2, hV⟩ := id hC
  simp only [okI, Bool.and_eq_true, beq_iff_eq] at hI
  obtain ⟨rfl, rfl⟩ := hI
  replace h : ldL [k.val] lv st μ = some q := h
  unfold ldL at h
  dsimp only at h
  rcases hv : lv[k.val]? with _ | _ | v
  · rw [hv] at h; cases h
  · rw [hv] at h; cases h
  · rw [hv] at h
    rcases v with v | v | v
    · cases h
    · cases h
      intro H locs ls hW hS hl hst
      exact lv_lload_n hx hb hd rfl (hl.at hv) (kk H locs ls hW hS hl (mem_c (trivial) hst))
    · cases h
theorem g_lload {cc : ByteArray} {ci pc len : Nat} {x : Int32} {y : Int64} {d : List Nat} {lv : LV} {st : List AV} {μ : Mem} {q : LV × List AV × Mem} {k : Nat} (hC : CX p R s m args c cells slots nL ad A cc ci) (hd : decode cc pc = .ok (.lload k, len)) (hI : okI ci nL len (.lload k) x y d = true) (h : op1 (.lload k) x y d lv st μ = some q) (kk : GO p l e R s m args below meth c cells slots Q nL dC dI dA ad L fz A (pc + len) q.1 q.2.1 q.2.2) : GO p l e R s m args below meth c cells slots Q nL dC dI dA ad L fz A pc lv st μ := by
  obtain ⟨⟨hx, hb, hml, hown, hts⟩, ⟨hR1, hR2, hR3, hR4⟩, hE, hA, hA2, hV⟩ := id hC
  simp only [okI, Bool.and_eq_true, beq_iff_eq] at hI
  obtain ⟨rfl, rfl⟩ := hI
  replace h : ldL [k] lv st μ = some q := h
  unfold ldL at h
  dsimp only at h
  rcases hv : lv[k]? with _ | _ | v
  · rw [hv] at h; cases h
  · rw [hv] at h; cases h
  · rw [hv] at h
    rcases v with v | v | v
    · cases h
    · cases h
      intro H locs ls hW hS hl hst
      exact lv_lload hx hb hd (hl.at hv) (kk H locs ls hW hS hl (mem_c (trivial) hst))
    · cases h
theorem g_aload_n {cc : ByteArray} {ci pc len : Nat} {x : Int32} {y : Int64} {d : List Nat} {lv : LV} {st : List AV} {μ : Mem} {q : LV × List AV × Mem} {k : Fin 4} (hC : CX p R s m args c cells slots nL ad A cc ci) (hd : decode cc pc = .ok (.aload_n k, len)) (hI : okI ci nL len (.aload_n k) x y d = true) (h : op1 (.aload_n k) x y d lv st μ = some q) (kk : GO p l e R s m args below meth c cells slots Q nL dC dI dA ad L fz A (pc + len) q.1 q.2.1 q.2.2) : GO p l e R s m args below meth c cells slots Q nL dC dI dA ad L fz A pc lv st μ := by
  obtain ⟨⟨hx, hb, hml, hown, hts⟩, ⟨hR1, hR2, hR3, hR4⟩, hE, hA, hA2, hV⟩ := id hC
  simp only [okI, Bool.and_eq_true, beq_iff_eq] at hI
  obtain ⟨rfl, rfl⟩ := hI
  replace h : ldA [k.val] lv st μ = some q := h
  unfold ldA at h
  dsimp only at h
  rcases hv : lv[k.val]? with _ | _ | v
  · rw [hv] at h; cases h
  · rw [hv] at h; cases h
  · rw [hv] at h
    rcases v with v | v | v
    · cases h
    · cases h
    · cases h
      intro H locs ls hW hS hl hst
      exact lv_aload_n hx hb hd rfl (hl.at hv) (kk H locs ls hW hS hl (mem_c (hl.2 _ _ hv) hst))
theorem g_aload {cc : ByteArray} {ci pc len : Nat} {x : Int32} {y : Int64} {d : List Nat} {lv : LV} {st : List AV} {μ : Mem} {q : LV × List AV × Mem} {k : Nat} (hC : CX p R s m args c cells slots nL ad A cc ci) (hd : decode cc pc = .ok (.aload k, len)) (hI : okI ci nL len (.aload k) x y d = true) (h : op1 (.aload k) x y d lv st μ = some q) (kk : GO p l e R s m args below meth c cells slots Q nL dC dI dA ad L fz A (pc + len) q.1 q.2.1 q.2.2) : GO p l e R s m args below meth c cells slots Q nL dC dI dA ad L fz A pc lv st μ := by
  obtain ⟨⟨hx, hb, hml, hown, hts⟩, ⟨hR1, hR2, hR3, hR4⟩, hE, hA, hA2, hV⟩ := id hC
  simp only [okI, Bool.and_eq_true, beq_iff_eq] at hI
  obtain ⟨rfl, rfl⟩ := hI
  replace h : ldA [k] lv st μ = some q := h
  unfold ldA at h
  dsimp only at h
  rcases hv : lv[k]? with _ | _ | v
  · rw [hv] at h; cases h
  · rw [hv] at h; cases h
  · rw [hv] at h
    rcases v with v | v | v
    · cases h
    · cases h
    · cases h
      intro H locs ls hW hS hl hst
      exact lv_aload hx hb hd (hl.at hv) (kk H locs ls hW hS hl (mem_c (hl.2 _ _ hv) hst))
theorem g_istore_n {cc : ByteArray} {ci pc len : Nat} {x : Int32} {y : Int64} {d : List Nat} {lv : LV} {st : List AV} {μ : Mem} {q : LV × List AV × Mem} {k : Fin 4} (hC : CX p R s m args c cells slots nL ad A cc ci) (hd : decode cc pc = .ok (.istore_n k, len)) (hI : okI ci nL len (.istore_n k) x y d = true) (h : op1 (.istore_n k) x y d lv st μ = some q) (kk : GO p l e R s m args below meth c cells slots Q nL dC dI dA ad L fz A (pc + len) q.1 q.2.1 q.2.2) : GO p l e R s m args below meth c cells slots Q nL dC dI dA ad L fz A pc lv st μ := by
  obtain ⟨⟨hx, hb, hml, hown, hts⟩, ⟨hR1, hR2, hR3, hR4⟩, hE, hA, hA2, hV⟩ := id hC
  simp only [okI, Bool.and_eq_true, beq_iff_eq, decide_eq_true_eq] at hI
  obtain ⟨rfl, rfl, hlt⟩ := hI
  replace h : stI [k.val] lv st μ = some q := h
  unfold stI at h
  rcases st with _ | ⟨v, r⟩
  · cases h
  · rcases v with v | v | v
    · cases h
      intro H locs ls hW hS hl hst
      exact lv_istore_n hx hb hd rfl hl.1 hlt rfl (fun ls1 h1 => kk H locs ls1 hW hS (hl.st1 (hd_c hst) rfl h1) (tl_c hst))
    · cases h
    · cases h
theorem g_istore {cc : ByteArray} {ci pc len : Nat} {x : Int32} {y : Int64} {d : List Nat} {lv : LV} {st : List AV} {μ : Mem} {q : LV × List AV × Mem} {k : Nat} (hC : CX p R s m args c cells slots nL ad A cc ci) (hd : decode cc pc = .ok (.istore k, len)) (hI : okI ci nL len (.istore k) x y d = true) (h : op1 (.istore k) x y d lv st μ = some q) (kk : GO p l e R s m args below meth c cells slots Q nL dC dI dA ad L fz A (pc + len) q.1 q.2.1 q.2.2) : GO p l e R s m args below meth c cells slots Q nL dC dI dA ad L fz A pc lv st μ := by
  obtain ⟨⟨hx, hb, hml, hown, hts⟩, ⟨hR1, hR2, hR3, hR4⟩, hE, hA, hA2, hV⟩ := id hC
  simp only [okI, Bool.and_eq_true, beq_iff_eq, decide_eq_true_eq] at hI
  obtain ⟨rfl, rfl, hlt⟩ := hI
  replace h : stI [k] lv st μ = some q := h
  unfold stI at h
  rcases st with _ | ⟨v, r⟩
  · cases h
  · rcases v with v | v | v
    · cases h
      intro H locs ls hW hS hl hst
      exact lv_istore hx hb hd hl.1 hlt rfl (fun ls1 h1 => kk H locs ls1 hW hS (hl.st1 (hd_c hst) rfl h1) (tl_c hst))
    · cases h
    · cases h
theorem g_lstore_n {cc : ByteArray} {ci pc len : Nat} {x : Int32} {y : Int64} {d : List Nat} {lv : LV} {st : List AV} {μ : Mem} {q : LV × List AV × Mem} {k : Fin 4} (hC : CX p R s m args c cells slots nL ad A cc ci) (hd : decode cc pc = .ok (.lstore_n k, len)) (hI : okI ci nL len (.lstore_n k) x y d = true) (h : op1 (.lstore_n k) x y d lv st μ = some q) (kk : GO p l e R s m args below meth c cells slots Q nL dC dI dA ad L fz A (pc + len) q.1 q.2.1 q.2.2) : GO p l e R s m args below meth c cells slots Q nL dC dI dA ad L fz A pc lv st μ := by
  obtain ⟨⟨hx, hb, hml, hown, hts⟩, ⟨hR1, hR2, hR3, hR4⟩, hE, hA, hA2, hV⟩ := id hC
  simp only [okI, Bool.and_eq_true, beq_iff_eq, decide_eq_true_eq] at hI
  obtain ⟨rfl, rfl, hlt⟩ := hI
  replace h : stL [k.val] lv st μ = some q := h
  unfold stL at h
  rcases st with _ | ⟨v, r⟩
  · cases h
  · rcases v with v | v | v
    · cases h
    · cases h
      intro H locs ls hW hS hl hst
      exact lv_lstore_n hx hb hd rfl hl.1 hlt rfl (fun ls1 h1 => kk H locs ls1 hW hS (hl.st2 (hd_c hst) rfl h1) (tl_c hst))
    · cases h
theorem g_lstore {cc : ByteArray} {ci pc len : Nat} {x : Int32} {y : Int64} {d : List Nat} {lv : LV} {st : List AV} {μ : Mem} {q : LV × List AV × Mem} {k : Nat} (hC : CX p R s m args c cells slots nL ad A cc ci) (hd : decode cc pc = .ok (.lstore k, len)) (hI : okI ci nL len (.lstore k) x y d = true) (h : op1 (.lstore k) x y d lv st μ = some q) (kk : GO p l e R s m args below meth c cells slots Q nL dC dI dA ad L fz A (pc + len) q.1 q.2.1 q.2.2) : GO p l e R s m args below meth c cells slots Q nL dC dI dA ad L fz A pc lv st μ := by
  obtain ⟨⟨hx, hb, hml, hown, hts⟩, ⟨hR1, hR2, hR3, hR4⟩, hE, hA, hA2, hV⟩ := id hC
  simp only [okI, Bool.and_eq_true, beq_iff_eq, decide_eq_true_eq] at hI
  obtain ⟨rfl, rfl, hlt⟩ := hI
  replace h : stL [k] lv st μ = some q := h
  unfold stL at h
  rcases st with _ | ⟨v, r⟩
  · cases h
  · rcases v with v | v | v
    · cases h
    · cases h
      intro H locs ls hW hS hl hst
      exact lv_lstore hx hb hd hl.1 hlt rfl (fun ls1 h1 => kk H locs ls1 hW hS (hl.st2 (hd_c hst) rfl h1) (tl_c hst))
    · cases h
theorem g_astore_n {cc : ByteArray} {ci pc len : Nat} {x : Int32} {y : Int64} {d : List Nat} {lv : LV} {st : List AV} {μ : Mem} {q : LV × List AV × Mem} {k : Fin 4} (hC : CX p R s m args c cells slots nL ad A cc ci) (hd : decode cc pc = .ok (.astore_n k, len)) (hI : okI ci nL len (.astore_n k) x y d = true) (h : op1 (.astore_n k) x y d lv st μ = some q) (kk : GO p l e R s m args below meth c cells slots Q nL dC dI dA ad L fz A (pc + len) q.1 q.2.1 q.2.2) : GO p l e R s m args below meth c cells slots Q nL dC dI dA ad L fz A pc lv st μ := by
  obtain ⟨⟨hx, hb, hml, hown, hts⟩, ⟨hR1, hR2, hR3, hR4⟩, hE, hA, hA2, hV⟩ := id hC
  simp only [okI, Bool.and_eq_true, beq_iff_eq, decide_eq_true_eq] at hI
  obtain ⟨rfl, rfl, hlt⟩ := hI
  replace h : stA [k.val] lv st μ = some q := h
  unfold stA at h
  rcases st with _ | ⟨v, r⟩
  · cases h
  · rcases v with v | v | v
    · cases h
    · cases h
    · cases h
      intro H locs ls hW hS hl hst
      exact lv_astore_n hx hb hd rfl hl.1 hlt rfl (fun ls1 h1 => kk H locs ls1 hW hS (hl.st1 (hd_c hst) rfl h1) (tl_c hst))
theorem g_astore {cc : ByteArray} {ci pc len : Nat} {x : Int32} {y : Int64} {d : List Nat} {lv : LV} {st : List AV} {μ : Mem} {q : LV × List AV × Mem} {k : Nat} (hC : CX p R s m args c cells slots nL ad A cc ci) (hd : decode cc pc = .ok (.astore k, len)) (hI : okI ci nL len (.astore k) x y d = true) (h : op1 (.astore k) x y d lv st μ = some q) (kk : GO p l e R s m args below meth c cells slots Q nL dC dI dA ad L fz A (pc + len) q.1 q.2.1 q.2.2) : GO p l e R s m args below meth c cells slots Q nL dC dI dA ad L fz A pc lv st μ := by
  obtain ⟨⟨hx, hb, hml, hown, hts⟩, ⟨hR1, hR2, hR3, hR4⟩, hE, hA, hA2, hV⟩ := id hC
  simp only [okI, Bool.and_eq_true, beq_iff_eq, decide_eq_true_eq] at hI
  obtain ⟨rfl, rfl, hlt⟩ := hI
  replace h : stA [k] lv st μ = some q := h
  unfold stA at h
  rcases st with _ | ⟨v, r⟩
  · cases h
  · rcases v with v | v | v
    · cases h
    · cases h
    · cases h
      intro H locs ls hW hS hl hst
      exact lv_astore hx hb hd hl.1 hlt rfl (fun ls1 h1 => kk H locs ls1 hW hS (hl.st1 (hd_c hst) rfl h1) (tl_c hst))
theorem g_iinc {cc : ByteArray} {ci pc len : Nat} {x : Int32} {y : Int64} {d : List Nat} {lv : LV} {st : List AV} {μ : Mem} {q : LV × List AV × Mem} {k : Nat} {n : Int} (hC : CX p R s m args c cells slots nL ad A cc ci) (hd : decode cc pc = .ok (.iinc k n, len)) (hI : okI ci nL len (.iinc k n) x y d = true) (h : op1 (.iinc k n) x y d lv st μ = some q) (kk : GO p l e R s m args below meth c cells slots Q nL dC dI dA ad L fz A (pc + len) q.1 q.2.1 q.2.2) : GO p l e R s m args below meth c cells slots Q nL dC dI dA ad L fz A pc lv st μ := by
  obtain ⟨⟨hx, hb, hml, hown, hts⟩, ⟨hR1, hR2, hR3, hR4⟩, hE, hA, hA2, hV⟩ := id hC
  simp only [okI, Bool.and_eq_true, beq_iff_eq, decide_eq_true_eq] at hI
  obtain ⟨rfl, rfl, rfl, hlt⟩ := hI
  replace h : opInc (Int32.ofInt n) [k] lv st μ = some q := h
  unfold opInc at h
  dsimp only at h
  rcases hv : lv[k]? with _ | _ | v
  · rw [hv] at h; cases h
  · rw [hv] at h; cases h
  · rw [hv] at h
    rcases v with v | v | v
    · cases h
      intro H locs ls hW hS hl hst
      obtain ⟨i, hi⟩ := List.getElem?_of_mem ((mem_cvL (ad := ad) (q := (k, .int v))).mpr ⟨_, hv, rfl⟩)
      exact lv_iinc (v := v + Int32.ofInt n) hx hb hd hl.1 hi rfl hlt rfl (fun ls1 h1 => kk H locs ls1 hW hS (lvOk.st1 (v := vI (v + Int32.ofInt n)) hl trivial rfl h1) hst)
    · cases h
    · cases h
theorem g_iconst {cc : ByteArray} {ci pc len : Nat} {x : Int32} {y : Int64} {d : List Nat} {lv : LV} {st : List AV} {μ : Mem} {q : LV × List AV × Mem} {n : Int} (hC : CX p R s m args c cells slots nL ad A cc ci) (hd : decode cc pc = .ok (.iconst n, len)) (hI : okI ci nL len (.iconst n) x y d = true) (h : op1 (.iconst n) x y d lv st μ = some q) (kk : GO p l e R s m args below meth c cells slots Q nL dC dI dA ad L fz A (pc + len) q.1 q.2.1 q.2.2) : GO p l e R s m args below meth c cells slots Q nL dC dI dA ad L fz A pc lv st μ := by
  obtain ⟨⟨hx, hb, hml, hown, hts⟩, ⟨hR1, hR2, hR3, hR4⟩, hE, hA, hA2, hV⟩ := id hC
  simp only [okI, Bool.and_eq_true, beq_iff_eq] at hI
  obtain ⟨hv, rfl⟩ := hI
  cases h
  intro H locs ls hW hS hl hst
  exact lv_iconst hx hb hd hv (kk H locs ls hW hS hl (mem_c trivial hst))
theorem g_bipush {cc : ByteArray} {ci pc len : Nat} {x : Int32} {y : Int64} {d : List Nat} {lv : LV} {st : List AV} {μ : Mem} {q : LV × List AV × Mem} {n : Int} (hC : CX p R s m args c cells slots nL ad A cc ci) (hd : decode cc pc = .ok (.bipush n, len)) (hI : okI ci nL len (.bipush n) x y d = true) (h : op1 (.bipush n) x y d lv st μ = some q) (kk : GO p l e R s m args below meth c cells slots Q nL dC dI dA ad L fz A (pc + len) q.1 q.2.1 q.2.2) : GO p l e R s m args below meth c cells slots Q nL dC dI dA ad L fz A pc lv st μ := by
  obtain ⟨⟨hx, hb, hml, hown, hts⟩, ⟨hR1, hR2, hR3, hR4⟩, hE, hA, hA2, hV⟩ := id hC
  simp only [okI, Bool.and_eq_true, beq_iff_eq] at hI
  obtain ⟨hv, rfl⟩ := hI
  cases h
  intro H locs ls hW hS hl hst
  exact lv_bipush hx hb hd hv (kk H locs ls hW hS hl (mem_c trivial hst))
theorem g_sipush {cc : ByteArray} {ci pc len : Nat} {x : Int32} {y : Int64} {d : List Nat} {lv : LV} {st : List AV} {μ : Mem} {q : LV × List AV × Mem} {n : Int} (hC : CX p R s m args c cells slots nL ad A cc ci) (hd : decode cc pc = .ok (.sipush n, len)) (hI : okI ci nL len (.sipush n) x y d = true) (h : op1 (.sipush n) x y d lv st μ = some q) (kk : GO p l e R s m args below meth c cells slots Q nL dC dI dA ad L fz A (pc + len) q.1 q.2.1 q.2.2) : GO p l e R s m args below meth c cells slots Q nL dC dI dA ad L fz A pc lv st μ := by
  obtain ⟨⟨hx, hb, hml, hown, hts⟩, ⟨hR1, hR2, hR3, hR4⟩, hE, hA, hA2, hV⟩ := id hC
  simp only [okI, Bool.and_eq_true, beq_iff_eq] at hI
  obtain ⟨hv, rfl⟩ := hI
  cases h
  intro H locs ls hW hS hl hst
  exact lv_sipush hx hb hd hv (kk H locs ls hW hS hl (mem_c trivial hst))
theorem g_lconst {cc : ByteArray} {ci pc len : Nat} {x : Int32} {y : Int64} {d : List Nat} {lv : LV} {st : List AV} {μ : Mem} {q : LV × List AV × Mem} {n : Fin 2} (hC : CX p R s m args c cells slots nL ad A cc ci) (hd : decode cc pc = .ok (.lconst n, len)) (hI : okI ci nL len (.lconst n) x y d = true) (h : op1 (.lconst n) x y d lv st μ = some q) (kk : GO p l e R s m args below meth c cells slots Q nL dC dI dA ad L fz A (pc + len) q.1 q.2.1 q.2.2) : GO p l e R s m args below meth c cells slots Q nL dC dI dA ad L fz A pc lv st μ := by
  obtain ⟨⟨hx, hb, hml, hown, hts⟩, ⟨hR1, hR2, hR3, hR4⟩, hE, hA, hA2, hV⟩ := id hC
  simp only [okI, Bool.and_eq_true, beq_iff_eq] at hI
  obtain ⟨hv, rfl⟩ := hI
  cases h
  intro H locs ls hW hS hl hst
  exact lv_lconst hx hb hd hv (kk H locs ls hW hS hl (mem_c trivial hst))
theorem g_ldc_w {cc : ByteArray} {ci pc len : Nat} {x : Int32} {y : Int64} {d : List Nat} {lv : LV} {st : List AV} {μ : Mem} {q : LV × List AV × Mem} {n : Nat} (hC : CX p R s m args c cells slots nL ad A cc ci) (hd : decode cc pc = .ok (.ldc_w n, len)) (hI : okI ci nL len (.ldc_w n) x y d = true) (h : op1 (.ldc_w n) x y d lv st μ = some q) (kk : GO p l e R s m args below meth c cells slots Q nL dC dI dA ad L fz A (pc + len) q.1 q.2.1 q.2.2) : GO p l e R s m args below meth c cells slots Q nL dC dI dA ad L fz A pc lv st μ := by
  obtain ⟨⟨hx, hb, hml, hown, hts⟩, ⟨hR1, hR2, hR3, hR4⟩, hE, hA, hA2, hV⟩ := id hC
  simp only [okI, Bool.and_eq_true, beq_iff_eq] at hI
  obtain ⟨hv, rfl⟩ := hI
  cases h
  intro H locs ls hW hS hl hst
  exact lv_ldcw hx hb hown (hts _ (in_tb (CS_get hv) g_con)) hd (kk H locs ls hW hS hl (mem_c trivial hst))
theorem g_ldc2_w {cc : ByteArray} {ci pc len : Nat} {x : Int32} {y : Int64} {d : List Nat} {lv : LV} {st : List AV} {μ : Mem} {q : LV × List AV × Mem} {n : Nat} (hC : CX p R s m args c cells slots nL ad A cc ci) (hd : decode cc pc = .ok (.ldc2_w n, len)) (hI : okI ci nL len (.ldc2_w n) x y d = true) (h : op1 (.ldc2_w n) x y d lv st μ = some q) (kk : GO p l e R s m args below meth c cells slots Q nL dC dI dA ad L fz A (pc + len) q.1 q.2.1 q.2.2) : GO p l e R s m args below meth c cells slots Q nL dC dI dA ad L fz A pc lv st μ := by
  obtain ⟨⟨hx, hb, hml, hown, hts⟩, ⟨hR1, hR2, hR3, hR4⟩, hE, hA, hA2, hV⟩ := id hC
  simp only [okI, Bool.and_eq_true, beq_iff_eq] at hI
  obtain ⟨hv, rfl⟩ := hI
  cases h
  intro H locs ls hW hS hl hst
  exact lv_ldc2 hx hb hown (hts _ (in_tb (CW_get hv) g_conL)) hd (kk H locs ls hW hS hl (mem_c trivial hst))
theorem g_ldc {cc : ByteArray} {ci pc len : Nat} {x : Int32} {y : Int64} {d : List Nat} {lv : LV} {st : List AV} {μ : Mem} {q : LV × List AV × Mem} {n : Nat} (hC : CX p R s m args c cells slots nL ad A cc ci) (hd : decode cc pc = .ok (.ldc n, len)) (hI : okI ci nL len (.ldc n) x y d = true) (h : op1 (.ldc n) x y d lv st μ = some q) (kk : GO p l e R s m args below meth c cells slots Q nL dC dI dA ad L fz A (pc + len) q.1 q.2.1 q.2.2) : GO p l e R s m args below meth c cells slots Q nL dC dI dA ad L fz A pc lv st μ := by
  obtain ⟨⟨hx, hb, hml, hown, hts⟩, ⟨hR1, hR2, hR3, hR4⟩, hE, hA, hA2, hV⟩ := id hC
  simp only [okI, Bool.and_eq_true, beq_iff_eq] at hI
  obtain ⟨hv, rfl⟩ := hI
  rcases d with _ | ⟨k2, _ | ⟨o, _ | ⟨z, d⟩⟩⟩
  · cases h
    intro H locs ls hW hS hl hst
    exact lv_ldc hx hb hown (hts _ (in_tb (CS_get hv) g_con)) hd (kk H locs ls hW hS hl (mem_c trivial hst))
  · cases h
  · cases h
    simp only [Bool.and_eq_true, Bool.or_eq_true, beq_iff_eq] at hv
    obtain ⟨rfl, hv⟩ := hv
    rcases hv with ⟨rfl, rfl, rfl⟩ | ⟨rfl, rfl, rfl⟩
    · intro H locs ls hW hS hl hst
      exact va_ldcS hx hb hown hV.1 hd (kk H locs ls hW hS hl (mem_c (show kdL L 203 = 14 from rfl) hst))
    · intro H locs ls hW hS hl hst
      exact va_ldcS hx hb hown hV.2 hd (kk H locs ls hW hS hl (mem_c (show kdL L 204 = 15 from rfl) hst))
  · cases h
theorem g_iadd {cc : ByteArray} {ci pc len : Nat} {x : Int32} {y : Int64} {d : List Nat} {lv : LV} {st : List AV} {μ : Mem} {q : LV × List AV × Mem}  (hC : CX p R s m args c cells slots nL ad A cc ci) (hd : decode cc pc = .ok (.iadd, len)) (hI : okI ci nL len (.iadd) x y d = true) (h : op1 (.iadd) x y d lv st μ = some q) (kk : GO p l e R s m args below meth c cells slots Q nL dC dI dA ad L fz A (pc + len) q.1 q.2.1 q.2.2) : GO p l e R s m args below meth c cells slots Q nL dC dI dA ad L fz A pc lv st μ := by
  obtain ⟨⟨hx, hb, hml, hown, hts⟩, ⟨hR1, hR2, hR3, hR4⟩, hE, hA, hA2, hV⟩ := id hC
  have hI : (len == 1) = true := hI
  rw [beq_iff_eq] at hI
  subst hI
  replace h : bi2 _ lv st μ = some q := h
  unfold bi2 at h
  rcases st with _ | ⟨v, _ | ⟨w, r⟩⟩
  · cases h
  · rcases v with v | v | v <;> cases h
  · rcases v with v | v | v
    · rcases w with w | w | w
      · cases h
        intro H locs ls hW hS hl hst
        exact lv_iadd hx hb hd (kk H locs ls hW hS hl (mem_c trivial (tl_c (tl_c hst))))
      · cases h
      · cases h
    · cases h
    · cases h
theorem g_isub {cc : ByteArray} {ci pc len : Nat} {x : Int32} {y : Int64} {d : List Nat} {lv : LV} {st : List AV} {μ : Mem} {q : LV × List AV × Mem}  (hC : CX p R s m args c cells slots nL ad A cc ci) (hd : decode cc pc = .ok (.isub, len)) (hI : okI ci nL len (.isub) x y d = true) (h : op1 (.isub) x y d lv st μ = some q) (kk : GO p l e R s m args below meth c cells slots Q nL dC dI dA ad L fz A (pc + len) q.1 q.2.1 q.2.2) : GO p l e R s m args below meth c cells slots Q nL dC dI dA ad L fz A pc lv st μ := by
  obtain ⟨⟨hx, hb, hml, hown, hts⟩, ⟨hR1, hR2, hR3, hR4⟩, hE, hA, hA2, hV⟩ := id hC
  have hI : (len == 1) = true := hI
  rw [beq_iff_eq] at hI
  subst hI
  replace h : bi2 _ lv st μ = some q := h
  unfold bi2 at h
  rcases st with _ | ⟨v, _ | ⟨w, r⟩⟩
  · cases h
  · rcases v with v | v | v <;> cases h
  · rcases v with v | v | v
    · rcases w with w | w | w
      · cases h
        intro H locs ls hW hS hl hst
        exact lv_isub hx hb hd (kk H locs ls hW hS hl (mem_c trivial (tl_c (tl_c hst))))
      · cases h
      · cases h
    · cases h
    · cases h
theorem g_imul {cc : ByteArray} {ci pc len : Nat} {x : Int32} {y : Int64} {d : List Nat} {lv : LV} {st : List AV} {μ : Mem} {q : LV × List AV × Mem}  (hC : CX p R s m args c cells slots nL ad A cc ci) (hd : decode cc pc = .ok (.imul, len)) (hI : okI ci nL len (.imul) x y d = true) (h : op1 (.imul) x y d lv st μ = some q) (kk : GO p l e R s m args below meth c cells slots Q nL dC dI dA ad L fz A (pc + len) q.1 q.2.1 q.2.2) : GO p l e R s m args below meth c cells slots Q nL dC dI dA ad L fz A pc lv st μ := by
  obtain ⟨⟨hx, hb, hml, hown, hts⟩, ⟨hR1, hR2, hR3, hR4⟩, hE, hA, hA2, hV⟩ := id hC
  have hI : (len == 1) = true := hI
  rw [beq_iff_eq] at hI
  subst hI
  replace h : bi2 _ lv st μ = some q := h
  unfold bi2 at h
  rcases st with _ | ⟨v, _ | ⟨w, r⟩⟩
  · cases h
  · rcases v with v | v | v <;> cases h
  · rcases v with v | v | v
    · rcases w with w | w | w
      · cases h
        intro H locs ls hW hS hl hst
        exact lv_imul hx hb hd (kk H locs ls hW hS hl (mem_c trivial (tl_c (tl_c hst))))
      · cases h
      · cases h
    · cases h
    · cases h
theorem g_iand {cc : ByteArray} {ci pc len : Nat} {x : Int32} {y : Int64} {d : List Nat} {lv : LV} {st : List AV} {μ : Mem} {q : LV × List AV × Mem}  (hC : CX p R s m args c cells slots nL ad A cc ci) (hd : decode cc pc = .ok (.iand, len)) (hI : okI ci nL len (.iand) x y d = true) (h : op1 (.iand) x y d lv st μ = some q) (kk : GO p l e R s m args below meth c cells slots Q nL dC dI dA ad L fz A (pc + len) q.1 q.2.1 q.2.2) : GO p l e R s m args below meth c cells slots Q nL dC dI dA ad L fz A pc lv st μ := by
  obtain ⟨⟨hx, hb, hml, hown, hts⟩, ⟨hR1, hR2, hR3, hR4⟩, hE, hA, hA2, hV⟩ := id hC
  have hI : (len == 1) = true := hI
  rw [beq_iff_eq] at hI
  subst hI
  replace h : bi2 _ lv st μ = some q := h
  unfold bi2 at h
  rcases st with _ | ⟨v, _ | ⟨w, r⟩⟩
  · cases h
  · rcases v with v | v | v <;> cases h
  · rcases v with v | v | v
    · rcases w with w | w | w
      · cases h
        intro H locs ls hW hS hl hst
        exact lv_iand hx hb hd (kk H locs ls hW hS hl (mem_c trivial (tl_c (tl_c hst))))
      · cases h
      · cases h
    · cases h
    · cases h
theorem g_ixor {cc : ByteArray} {ci pc len : Nat} {x : Int32} {y : Int64} {d : List Nat} {lv : LV} {st : List AV} {μ : Mem} {q : LV × List AV × Mem}  (hC : CX p R s m args c cells slots nL ad A cc ci) (hd : decode cc pc = .ok (.ixor, len)) (hI : okI ci nL len (.ixor) x y d = true) (h : op1 (.ixor) x y d lv st μ = some q) (kk : GO p l e R s m args below meth c cells slots Q nL dC dI dA ad L fz A (pc + len) q.1 q.2.1 q.2.2) : GO p l e R s m args below meth c cells slots Q nL dC dI dA ad L fz A pc lv st μ := by
  obtain ⟨⟨hx, hb, hml, hown, hts⟩, ⟨hR1, hR2, hR3, hR4⟩, hE, hA, hA2, hV⟩ := id hC
  have hI : (len == 1) = true := hI
  rw [beq_iff_eq] at hI
  subst hI
  replace h : bi2 _ lv st μ = some q := h
  unfold bi2 at h
  rcases st with _ | ⟨v, _ | ⟨w, r⟩⟩
  · cases h
  · rcases v with v | v | v <;> cases h
  · rcases v with v | v | v
    · rcases w with w | w | w
      · cases h
        intro H locs ls hW hS hl hst
        exact lv_ixor hx hb hd (kk H locs ls hW hS hl (mem_c trivial (tl_c (tl_c hst))))
      · cases h
      · cases h
    · cases h
    · cases h
theorem g_ishl {cc : ByteArray} {ci pc len : Nat} {x : Int32} {y : Int64} {d : List Nat} {lv : LV} {st : List AV} {μ : Mem} {q : LV × List AV × Mem}  (hC : CX p R s m args c cells slots nL ad A cc ci) (hd : decode cc pc = .ok (.ishl, len)) (hI : okI ci nL len (.ishl) x y d = true) (h : op1 (.ishl) x y d lv st μ = some q) (kk : GO p l e R s m args below meth c cells slots Q nL dC dI dA ad L fz A (pc + len) q.1 q.2.1 q.2.2) : GO p l e R s m args below meth c cells slots Q nL dC dI dA ad L fz A pc lv st μ := by
  obtain ⟨⟨hx, hb, hml, hown, hts⟩, ⟨hR1, hR2, hR3, hR4⟩, hE, hA, hA2, hV⟩ := id hC
  have hI : (len == 1) = true := hI
  rw [beq_iff_eq] at hI
  subst hI
  replace h : bi2 _ lv st μ = some q := h
  unfold bi2 at h
  rcases st with _ | ⟨v, _ | ⟨w, r⟩⟩
  · cases h
  · rcases v with v | v | v <;> cases h
  · rcases v with v | v | v
    · rcases w with w | w | w
      · cases h
        intro H locs ls hW hS hl hst
        exact lv_ishl hx hb hd (kk H locs ls hW hS hl (mem_c trivial (tl_c (tl_c hst))))
      · cases h
      · cases h
    · cases h
    · cases h
theorem g_ishr {cc : ByteArray} {ci pc len : Nat} {x : Int32} {y : Int64} {d : List Nat} {lv : LV} {st : List AV} {μ : Mem} {q : LV × List AV × Mem}  (hC : CX p R s m args c cells slots nL ad A cc ci) (hd : decode cc pc = .ok (.ishr, len)) (hI : okI ci nL len (.ishr) x y d = true) (h : op1 (.ishr) x y d lv st μ = some q) (kk : GO p l e R s m args below meth c cells slots Q nL dC dI dA ad L fz A (pc + len) q.1 q.2.1 q.2.2) : GO p l e R s m args below meth c cells slots Q nL dC dI dA ad L fz A pc lv st μ := by
  obtain ⟨⟨hx, hb, hml, hown, hts⟩, ⟨hR1, hR2, hR3, hR4⟩, hE, hA, hA2, hV⟩ := id hC
  have hI : (len == 1) = true := hI
  rw [beq_iff_eq] at hI
  subst hI
  replace h : bi2 _ lv st μ = some q := h
  unfold bi2 at h
  rcases st with _ | ⟨v, _ | ⟨w, r⟩⟩
  · cases h
  · rcases v with v | v | v <;> cases h
  · rcases v with v | v | v
    · rcases w with w | w | w
      · cases h
        intro H locs ls hW hS hl hst
        exact lv_ishr hx hb hd (kk H locs ls hW hS hl (mem_c trivial (tl_c (tl_c hst))))
      · cases h
      · cases h
    · cases h
    · cases h
theorem g_iushr {cc : ByteArray} {ci pc len : Nat} {x : Int32} {y : Int64} {d : List Nat} {lv : LV} {st : List AV} {μ : Mem} {q : LV × List AV × Mem}  (hC : CX p R s m args c cells slots nL ad A cc ci) (hd : decode cc pc = .ok (.iushr, len)) (hI : okI ci nL len (.iushr) x y d = true) (h : op1 (.iushr) x y d lv st μ = some q) (kk : GO p l e R s m args below meth c cells slots Q nL dC dI dA ad L fz A (pc + len) q.1 q.2.1 q.2.2) : GO p l e R s m args below meth c cells slots Q nL dC dI dA ad L fz A pc lv st μ := by
  obtain ⟨⟨hx, hb, hml, hown, hts⟩, ⟨hR1, hR2, hR3, hR4⟩, hE, hA, hA2, hV⟩ := id hC
  have hI : (len == 1) = true := hI
  rw [beq_iff_eq] at hI
  subst hI
  replace h : bi2 _ lv st μ = some q := h
  unfold bi2 at h
  rcases st with _ | ⟨v, _ | ⟨w, r⟩⟩
  · cases h
  · rcases v with v | v | v <;> cases h
  · rcases v with v | v | v
    · rcases w with w | w | w
      · cases h
        intro H locs ls hW hS hl hst
        exact lv_iushr hx hb hd rfl (kk H locs ls hW hS hl (mem_c trivial (tl_c (tl_c hst))))
      · cases h
      · cases h
    · cases h
    · cases h
theorem g_idiv {cc : ByteArray} {ci pc len : Nat} {x : Int32} {y : Int64} {d : List Nat} {lv : LV} {st : List AV} {μ : Mem} {q : LV × List AV × Mem}  (hC : CX p R s m args c cells slots nL ad A cc ci) (hd : decode cc pc = .ok (.idiv, len)) (hI : okI ci nL len (.idiv) x y d = true) (h : op1 (.idiv) x y d lv st μ = some q) (kk : GO p l e R s m args below meth c cells slots Q nL dC dI dA ad L fz A (pc + len) q.1 q.2.1 q.2.2) : GO p l e R s m args below meth c cells slots Q nL dC dI dA ad L fz A pc lv st μ := by
  obtain ⟨⟨hx, hb, hml, hown, hts⟩, ⟨hR1, hR2, hR3, hR4⟩, hE, hA, hA2, hV⟩ := id hC
  have hI : (len == 1) = true := hI
  rw [beq_iff_eq] at hI
  subst hI
  replace h : bi2z _ lv st μ = some q := h
  unfold bi2z at h
  rcases st with _ | ⟨v, _ | ⟨w, r⟩⟩
  · cases h
  · rcases v with v | v | v <;> cases h
  · rcases v with v | v | v
    · rcases w with w | w | w
      · dsimp only at h
        by_cases hz : v = 0
        · rw [if_pos hz] at h; cases h
        · rw [if_neg hz] at h
          cases h
          intro H locs ls hW hS hl hst
          exact lv_idiv hx hb hd hz (kk H locs ls hW hS hl (mem_c trivial (tl_c (tl_c hst))))
      · cases h
      · cases h
    · cases h
    · cases h
theorem g_irem {cc : ByteArray} {ci pc len : Nat} {x : Int32} {y : Int64} {d : List Nat} {lv : LV} {st : List AV} {μ : Mem} {q : LV × List AV × Mem}  (hC : CX p R s m args c cells slots nL ad A cc ci) (hd : decode cc pc = .ok (.irem, len)) (hI : okI ci nL len (.irem) x y d = true) (h : op1 (.irem) x y d lv st μ = some q) (kk : GO p l e R s m args below meth c cells slots Q nL dC dI dA ad L fz A (pc + len) q.1 q.2.1 q.2.2) : GO p l e R s m args below meth c cells slots Q nL dC dI dA ad L fz A pc lv st μ := by
  obtain ⟨⟨hx, hb, hml, hown, hts⟩, ⟨hR1, hR2, hR3, hR4⟩, hE, hA, hA2, hV⟩ := id hC
  have hI : (len == 1) = true := hI
  rw [beq_iff_eq] at hI
  subst hI
  replace h : bi2z _ lv st μ = some q := h
  unfold bi2z at h
  rcases st with _ | ⟨v, _ | ⟨w, r⟩⟩
  · cases h
  · rcases v with v | v | v <;> cases h
  · rcases v with v | v | v
    · rcases w with w | w | w
      · dsimp only at h
        by_cases hz : v = 0
        · rw [if_pos hz] at h; cases h
        · rw [if_neg hz] at h
          cases h
          intro H locs ls hW hS hl hst
          exact lv_irem hx hb hd hz (kk H locs ls hW hS hl (mem_c trivial (tl_c (tl_c hst))))
      · cases h
      · cases h
    · cases h
    · cases h
theorem g_ladd {cc : ByteArray} {ci pc len : Nat} {x : Int32} {y : Int64} {d : List Nat} {lv : LV} {st : List AV} {μ : Mem} {q : LV × List AV × Mem}  (hC : CX p R s m args c cells slots nL ad A cc ci) (hd : decode cc pc = .ok (.ladd, len)) (hI : okI ci nL len (.ladd) x y d = true) (h : op1 (.ladd) x y d lv st μ = some q) (kk : GO p l e R s m args below meth c cells slots Q nL dC dI dA ad L fz A (pc + len) q.1 q.2.1 q.2.2) : GO p l e R s m args below meth c cells slots Q nL dC dI dA ad L fz A pc lv st μ := by
  obtain ⟨⟨hx, hb, hml, hown, hts⟩, ⟨hR1, hR2, hR3, hR4⟩, hE, hA, hA2, hV⟩ := id hC
  have hI : (len == 1) = true := hI
  rw [beq_iff_eq] at hI
  subst hI
  replace h : bl2 _ lv st μ = some q := h
  unfold bl2 at h
  rcases st with _ | ⟨v, _ | ⟨w, r⟩⟩
  · cases h
  · rcases v with v | v | v <;> cases h
  · rcases v with v | v | v
    · cases h
    · rcases w with w | w | w
      · cases h
      · cases h
        intro H locs ls hW hS hl hst
        exact lv_ladd hx hb hd (kk H locs ls hW hS hl (mem_c trivial (tl_c (tl_c hst))))
      · cases h
    · cases h
theorem g_lsub {cc : ByteArray} {ci pc len : Nat} {x : Int32} {y : Int64} {d : List Nat} {lv : LV} {st : List AV} {μ : Mem} {q : LV × List AV × Mem}  (hC : CX p R s m args c cells slots nL ad A cc ci) (hd : decode cc pc = .ok (.lsub, len)) (hI : okI ci nL len (.lsub) x y d = true) (h : op1 (.lsub) x y d lv st μ = some q) (kk : GO p l e R s m args below meth c cells slots Q nL dC dI dA ad L fz A (pc + len) q.1 q.2.1 q.2.2) : GO p l e R s m args below meth c cells slots Q nL dC dI dA ad L fz A pc lv st μ := by
  obtain ⟨⟨hx, hb, hml, hown, hts⟩, ⟨hR1, hR2, hR3, hR4⟩, hE, hA, hA2, hV⟩ := id hC
  have hI : (len == 1) = true := hI
  rw [beq_iff_eq] at hI
  subst hI
  replace h : bl2 _ lv st μ = some q := h
  unfold bl2 at h
  rcases st with _ | ⟨v, _ | ⟨w, r⟩⟩
  · cases h
  · rcases v with v | v | v <;> cases h
  · rcases v with v | v | v
    · cases h
    · rcases w with w | w | w
      · cases h
      · cases h
        intro H locs ls hW hS hl hst
        exact lv_lsub hx hb hd (kk H locs ls hW hS hl (mem_c trivial (tl_c (tl_c hst))))
      · cases h
    · cases h
theorem g_lmul {cc : ByteArray} {ci pc len : Nat} {x : Int32} {y : Int64} {d : List Nat} {lv : LV} {st : List AV} {μ : Mem} {q : LV × List AV × Mem}  (hC : CX p R s m args c cells slots nL ad A cc ci) (hd : decode cc pc = .ok (.lmul, len)) (hI : okI ci nL len (.lmul) x y d = true) (h : op1 (.lmul) x y d lv st μ = some q) (kk : GO p l e R s m args below meth c cells slots Q nL dC dI dA ad L fz A (pc + len) q.1 q.2.1 q.2.2) : GO p l e R s m args below meth c cells slots Q nL dC dI dA ad L fz A pc lv st μ := by
  obtain ⟨⟨hx, hb, hml, hown, hts⟩, ⟨hR1, hR2, hR3, hR4⟩, hE, hA, hA2, hV⟩ := id hC
  have hI : (len == 1) = true := hI
  rw [beq_iff_eq] at hI
  subst hI
  replace h : bl2 _ lv st μ = some q := h
  unfold bl2 at h
  rcases st with _ | ⟨v, _ | ⟨w, r⟩⟩
  · cases h
  · rcases v with v | v | v <;> cases h
  · rcases v with v | v | v
    · cases h
    · rcases w with w | w | w
      · cases h
      · cases h
        intro H locs ls hW hS hl hst
        exact lv_lmul hx hb hd (kk H locs ls hW hS hl (mem_c trivial (tl_c (tl_c hst))))
      · cases h
    · cases h
theorem g_land {cc : ByteArray} {ci pc len : Nat} {x : Int32} {y : Int64} {d : List Nat} {lv : LV} {st : List AV} {μ : Mem} {q : LV × List AV × Mem}  (hC : CX p R s m args c cells slots nL ad A cc ci) (hd : decode cc pc = .ok (.land, len)) (hI : okI ci nL len (.land) x y d = true) (h : op1 (.land) x y d lv st μ = some q) (kk : GO p l e R s m args below meth c cells slots Q nL dC dI dA ad L fz A (pc + len) q.1 q.2.1 q.2.2) : GO p l e R s m args below meth c cells slots Q nL dC dI dA ad L fz A pc lv st μ := by
  obtain ⟨⟨hx, hb, hml, hown, hts⟩, ⟨hR1, hR2, hR3, hR4⟩, hE, hA, hA2, hV⟩ := id hC
  have hI : (len == 1) = true := hI
  rw [beq_iff_eq] at hI
  subst hI
  replace h : bl2 _ lv st μ = some q := h
  unfold bl2 at h
  rcases st with _ | ⟨v, _ | ⟨w, r⟩⟩
  · cases h
  · rcases v with v | v | v <;> cases h
  · rcases v with v | v | v
    · cases h
    · rcases w with w | w | w
      · cases h
      · cases h
        intro H locs ls hW hS hl hst
        exact lv_land hx hb hd (kk H locs ls hW hS hl (mem_c trivial (tl_c (tl_c hst))))
      · cases h
    · cases h
theorem g_lor {cc : ByteArray} {ci pc len : Nat} {x : Int32} {y : Int64} {d : List Nat} {lv : LV} {st : List AV} {μ : Mem} {q : LV × List AV × Mem}  (hC : CX p R s m args c cells slots nL ad A cc ci) (hd : decode cc pc = .ok (.lor, len)) (hI : okI ci nL len (.lor) x y d = true) (h : op1 (.lor) x y d lv st μ = some q) (kk : GO p l e R s m args below meth c cells slots Q nL dC dI dA ad L fz A (pc + len) q.1 q.2.1 q.2.2) : GO p l e R s m args below meth c cells slots Q nL dC dI dA ad L fz A pc lv st μ := by
  obtain ⟨⟨hx, hb, hml, hown, hts⟩, ⟨hR1, hR2, hR3, hR4⟩, hE, hA, hA2, hV⟩ := id hC
  have hI : (len == 1) = true := hI
  rw [beq_iff_eq] at hI
  subst hI
  replace h : bl2 _ lv st μ = some q := h
  unfold bl2 at h
  rcases st with _ | ⟨v, _ | ⟨w, r⟩⟩
  · cases h
  · rcases v with v | v | v <;> cases h
  · rcases v with v | v | v
    · cases h
    · rcases w with w | w | w
      · cases h
      · cases h
        intro H locs ls hW hS hl hst
        exact lv_lor hx hb hd (kk H locs ls hW hS hl (mem_c trivial (tl_c (tl_c hst))))
      · cases h
    · cases h
theorem g_ldiv {cc : ByteArray} {ci pc len : Nat} {x : Int32} {y : Int64} {d : List Nat} {lv : LV} {st : List AV} {μ : Mem} {q : LV × List AV × Mem}  (hC : CX p R s m args c cells slots nL ad A cc ci) (hd : decode cc pc = .ok (.ldiv, len)) (hI : okI ci nL len (.ldiv) x y d = true) (h : op1 (.ldiv) x y d lv st μ = some q) (kk : GO p l e R s m args below meth c cells slots Q nL dC dI dA ad L fz A (pc + len) q.1 q.2.1 q.2.2) : GO p l e R s m args below meth c cells slots Q nL dC dI dA ad L fz A pc lv st μ := by
  obtain ⟨⟨hx, hb, hml, hown, hts⟩, ⟨hR1, hR2, hR3, hR4⟩, hE, hA, hA2, hV⟩ := id hC
  have hI : (len == 1) = true := hI
  rw [beq_iff_eq] at hI
  subst hI
  replace h : bl2z _ lv st μ = some q := h
  unfold bl2z at h
  rcases st with _ | ⟨v, _ | ⟨w, r⟩⟩
  · cases h
  · rcases v with v | v | v <;> cases h
  · rcases v with v | v | v
    · cases h
    · rcases w with w | w | w
      · cases h
      · dsimp only at h
        by_cases hz : v = 0
        · rw [if_pos hz] at h; cases h
        · rw [if_neg hz] at h
          cases h
          intro H locs ls hW hS hl hst
          exact lv_ldiv hx hb hd hz (kk H locs ls hW hS hl (mem_c trivial (tl_c (tl_c hst))))
      · cases h
    · cases h
theorem g_lrem {cc : ByteArray} {ci pc len : Nat} {x : Int32} {y : Int64} {d : List Nat} {lv : LV} {st : List AV} {μ : Mem} {q : LV × List AV × Mem}  (hC : CX p R s m args c cells slots nL ad A cc ci) (hd : decode cc pc = .ok (.lrem, len)) (hI : okI ci nL len (.lrem) x y d = true) (h : op1 (.lrem) x y d lv st μ = some q) (kk : GO p l e R s m args below meth c cells slots Q nL dC dI dA ad L fz A (pc + len) q.1 q.2.1 q.2.2) : GO p l e R s m args below meth c cells slots Q nL dC dI dA ad L fz A pc lv st μ := by
  obtain ⟨⟨hx, hb, hml, hown, hts⟩, ⟨hR1, hR2, hR3, hR4⟩, hE, hA, hA2, hV⟩ := id hC
  have hI : (len == 1) = true := hI
  rw [beq_iff_eq] at hI
  subst hI
  replace h : bl2z _ lv st μ = some q := h
  unfold bl2z at h
  rcases st with _ | ⟨v, _ | ⟨w, r⟩⟩
  · cases h
  · rcases v with v | v | v <;> cases h
  · rcases v with v | v | v
    · cases h
    · rcases w with w | w | w
      · cases h
      · dsimp only at h
        by_cases hz : v = 0
        · rw [if_pos hz] at h; cases h
        · rw [if_neg hz] at h
          cases h
          intro H locs ls hW hS hl hst
          exact lv_lrem hx hb hd hz (kk H locs ls hW hS hl (mem_c trivial (tl_c (tl_c hst))))
      · cases h
    · cases h
theorem g_lshl {cc : ByteArray} {ci pc len : Nat} {x : Int32} {y : Int64} {d : List Nat} {lv : LV} {st : List AV} {μ : Mem} {q : LV × List AV × Mem}  (hC : CX p R s m args c cells slots nL ad A cc ci) (hd : decode cc pc = .ok (.lshl, len)) (hI : okI ci nL len (.lshl) x y d = true) (h : op1 (.lshl) x y d lv st μ = some q) (kk : GO p l e R s m args below meth c cells slots Q nL dC dI dA ad L fz A (pc + len) q.1 q.2.1 q.2.2) : GO p l e R s m args below meth c cells slots Q nL dC dI dA ad L fz A pc lv st μ := by
  obtain ⟨⟨hx, hb, hml, hown, hts⟩, ⟨hR1, hR2, hR3, hR4⟩, hE, hA, hA2, hV⟩ := id hC
  have hI : (len == 1) = true := hI
  rw [beq_iff_eq] at hI
  subst hI
  replace h : bls _ lv st μ = some q := h
  unfold bls at h
  rcases st with _ | ⟨v, _ | ⟨w, r⟩⟩
  · cases h
  · rcases v with v | v | v <;> cases h
  · rcases v with v | v | v
    · rcases w with w | w | w
      · cases h
      · cases h
        intro H locs ls hW hS hl hst
        exact lv_lshl hx hb hd rfl (kk H locs ls hW hS hl (mem_c trivial (tl_c (tl_c hst))))
      · cases h
    · cases h
    · cases h
theorem g_lshr {cc : ByteArray} {ci pc len : Nat} {x : Int32} {y : Int64} {d : List Nat} {lv : LV} {st : List AV} {μ : Mem} {q : LV × List AV × Mem}  (hC : CX p R s m args c cells slots nL ad A cc ci) (hd : decode cc pc = .ok (.lshr, len)) (hI : okI ci nL len (.lshr) x y d = true) (h : op1 (.lshr) x y d lv st μ = some q) (kk : GO p l e R s m args below meth c cells slots Q nL dC dI dA ad L fz A (pc + len) q.1 q.2.1 q.2.2) : GO p l e R s m args below meth c cells slots Q nL dC dI dA ad L fz A pc lv st μ := by
  obtain ⟨⟨hx, hb, hml, hown, hts⟩, ⟨hR1, hR2, hR3, hR4⟩, hE, hA, hA2, hV⟩ := id hC
  have hI : (len == 1) = true := hI
  rw [beq_iff_eq] at hI
  subst hI
  replace h : bls _ lv st μ = some q := h
  unfold bls at h
  rcases st with _ | ⟨v, _ | ⟨w, r⟩⟩
  · cases h
  · rcases v with v | v | v <;> cases h
  · rcases v with v | v | v
    · rcases w with w | w | w
      · cases h
      · cases h
        intro H locs ls hW hS hl hst
        exact lv_lshr hx hb hd rfl (kk H locs ls hW hS hl (mem_c trivial (tl_c (tl_c hst))))
      · cases h
    · cases h
    · cases h
theorem g_lushr {cc : ByteArray} {ci pc len : Nat} {x : Int32} {y : Int64} {d : List Nat} {lv : LV} {st : List AV} {μ : Mem} {q : LV × List AV × Mem}  (hC : CX p R s m args c cells slots nL ad A cc ci) (hd : decode cc pc = .ok (.lushr, len)) (hI : okI ci nL len (.lushr) x y d = true) (h : op1 (.lushr) x y d lv st μ = some q) (kk : GO p l e R s m args below meth c cells slots Q nL dC dI dA ad L fz A (pc + len) q.1 q.2.1 q.2.2) : GO p l e R s m args below meth c cells slots Q nL dC dI dA ad L fz A pc lv st μ := by
  obtain ⟨⟨hx, hb, hml, hown, hts⟩, ⟨hR1, hR2, hR3, hR4⟩, hE, hA, hA2, hV⟩ := id hC
  have hI : (len == 1) = true := hI
  rw [beq_iff_eq] at hI
  subst hI
  replace h : bls _ lv st μ = some q := h
  unfold bls at h
  rcases st with _ | ⟨v, _ | ⟨w, r⟩⟩
  · cases h
  · rcases v with v | v | v <;> cases h
  · rcases v with v | v | v
    · rcases w with w | w | w
      · cases h
      · cases h
        intro H locs ls hW hS hl hst
        exact lv_lushr hx hb hd rfl (kk H locs ls hW hS hl (mem_c trivial (tl_c (tl_c hst))))
      · cases h
    · cases h
    · cases h
theorem g_ineg {cc : ByteArray} {ci pc len : Nat} {x : Int32} {y : Int64} {d : List Nat} {lv : LV} {st : List AV} {μ : Mem} {q : LV × List AV × Mem}  (hC : CX p R s m args c cells slots nL ad A cc ci) (hd : decode cc pc = .ok (.ineg, len)) (hI : okI ci nL len (.ineg) x y d = true) (h : op1 (.ineg) x y d lv st μ = some q) (kk : GO p l e R s m args below meth c cells slots Q nL dC dI dA ad L fz A (pc + len) q.1 q.2.1 q.2.2) : GO p l e R s m args below meth c cells slots Q nL dC dI dA ad L fz A pc lv st μ := by
  obtain ⟨⟨hx, hb, hml, hown, hts⟩, ⟨hR1, hR2, hR3, hR4⟩, hE, hA, hA2, hV⟩ := id hC
  have hI : (len == 1) = true := hI
  rw [beq_iff_eq] at hI
  subst hI
  replace h : bi1 _ lv st μ = some q := h
  unfold bi1 at h
  rcases st with _ | ⟨v, r⟩
  · cases h
  · rcases v with v | v | v
    · cases h
      intro H locs ls hW hS hl hst
      exact lv_ineg hx hb hd (kk H locs ls hW hS hl (mem_c trivial (tl_c hst)))
    · cases h
    · cases h
theorem g_i2b {cc : ByteArray} {ci pc len : Nat} {x : Int32} {y : Int64} {d : List Nat} {lv : LV} {st : List AV} {μ : Mem} {q : LV × List AV × Mem}  (hC : CX p R s m args c cells slots nL ad A cc ci) (hd : decode cc pc = .ok (.i2b, len)) (hI : okI ci nL len (.i2b) x y d = true) (h : op1 (.i2b) x y d lv st μ = some q) (kk : GO p l e R s m args below meth c cells slots Q nL dC dI dA ad L fz A (pc + len) q.1 q.2.1 q.2.2) : GO p l e R s m args below meth c cells slots Q nL dC dI dA ad L fz A pc lv st μ := by
  obtain ⟨⟨hx, hb, hml, hown, hts⟩, ⟨hR1, hR2, hR3, hR4⟩, hE, hA, hA2, hV⟩ := id hC
  have hI : (len == 1) = true := hI
  rw [beq_iff_eq] at hI
  subst hI
  replace h : bi1 _ lv st μ = some q := h
  unfold bi1 at h
  rcases st with _ | ⟨v, r⟩
  · cases h
  · rcases v with v | v | v
    · cases h
      intro H locs ls hW hS hl hst
      exact lv_i2b hx hb hd rfl (kk H locs ls hW hS hl (mem_c trivial (tl_c hst)))
    · cases h
    · cases h
theorem g_i2s {cc : ByteArray} {ci pc len : Nat} {x : Int32} {y : Int64} {d : List Nat} {lv : LV} {st : List AV} {μ : Mem} {q : LV × List AV × Mem}  (hC : CX p R s m args c cells slots nL ad A cc ci) (hd : decode cc pc = .ok (.i2s, len)) (hI : okI ci nL len (.i2s) x y d = true) (h : op1 (.i2s) x y d lv st μ = some q) (kk : GO p l e R s m args below meth c cells slots Q nL dC dI dA ad L fz A (pc + len) q.1 q.2.1 q.2.2) : GO p l e R s m args below meth c cells slots Q nL dC dI dA ad L fz A pc lv st μ := by
  obtain ⟨⟨hx, hb, hml, hown, hts⟩, ⟨hR1, hR2, hR3, hR4⟩, hE, hA, hA2, hV⟩ := id hC
  have hI : (len == 1) = true := hI
  rw [beq_iff_eq] at hI
  subst hI
  replace h : bi1 _ lv st μ = some q := h
  unfold bi1 at h
  rcases st with _ | ⟨v, r⟩
  · cases h
  · rcases v with v | v | v
    · cases h
      intro H locs ls hW hS hl hst
      exact lv_i2s hx hb hd rfl (kk H locs ls hW hS hl (mem_c trivial (tl_c hst)))
    · cases h
    · cases h
theorem g_i2c {cc : ByteArray} {ci pc len : Nat} {x : Int32} {y : Int64} {d : List Nat} {lv : LV} {st : List AV} {μ : Mem} {q : LV × List AV × Mem}  (hC : CX p R s m args c cells slots nL ad A cc ci) (hd : decode cc pc = .ok (.i2c, len)) (hI : okI ci nL len (.i2c) x y d = true) (h : op1 (.i2c) x y d lv st μ = some q) (kk : GO p l e R s m args below meth c cells slots Q nL dC dI dA ad L fz A (pc + len) q.1 q.2.1 q.2.2) : GO p l e R s m args below meth c cells slots Q nL dC dI dA ad L fz A pc lv st μ := by
  obtain ⟨⟨hx, hb, hml, hown, hts⟩, ⟨hR1, hR2, hR3, hR4⟩, hE, hA, hA2, hV⟩ := id hC
  have hI : (len == 1) = true := hI
  rw [beq_iff_eq] at hI
  subst hI
  replace h : bi1 _ lv st μ = some q := h
  unfold bi1 at h
  rcases st with _ | ⟨v, r⟩
  · cases h
  · rcases v with v | v | v
    · cases h
      intro H locs ls hW hS hl hst
      exact lv_i2c hx hb hd rfl (kk H locs ls hW hS hl (mem_c trivial (tl_c hst)))
    · cases h
    · cases h
theorem g_lneg {cc : ByteArray} {ci pc len : Nat} {x : Int32} {y : Int64} {d : List Nat} {lv : LV} {st : List AV} {μ : Mem} {q : LV × List AV × Mem}  (hC : CX p R s m args c cells slots nL ad A cc ci) (hd : decode cc pc = .ok (.lneg, len)) (hI : okI ci nL len (.lneg) x y d = true) (h : op1 (.lneg) x y d lv st μ = some q) (kk : GO p l e R s m args below meth c cells slots Q nL dC dI dA ad L fz A (pc + len) q.1 q.2.1 q.2.2) : GO p l e R s m args below meth c cells slots Q nL dC dI dA ad L fz A pc lv st μ := by
  obtain ⟨⟨hx, hb, hml, hown, hts⟩, ⟨hR1, hR2, hR3, hR4⟩, hE, hA, hA2, hV⟩ := id hC
  have hI : (len == 1) = true := hI
  rw [beq_iff_eq] at hI
  subst hI
  replace h : bl1 _ lv st μ = some q := h
  unfold bl1 at h
  rcases st with _ | ⟨v, r⟩
  · cases h
  · rcases v with v | v | v
    · cases h
    · cases h
      intro H locs ls hW hS hl hst
      exact lv_lneg hx hb hd (kk H locs ls hW hS hl (mem_c trivial (tl_c hst)))
    · cases h
theorem g_i2l {cc : ByteArray} {ci pc len : Nat} {x : Int32} {y : Int64} {d : List Nat} {lv : LV} {st : List AV} {μ : Mem} {q : LV × List AV × Mem}  (hC : CX p R s m args c cells slots nL ad A cc ci) (hd : decode cc pc = .ok (.i2l, len)) (hI : okI ci nL len (.i2l) x y d = true) (h : op1 (.i2l) x y d lv st μ = some q) (kk : GO p l e R s m args below meth c cells slots Q nL dC dI dA ad L fz A (pc + len) q.1 q.2.1 q.2.2) : GO p l e R s m args below meth c cells slots Q nL dC dI dA ad L fz A pc lv st μ := by
  obtain ⟨⟨hx, hb, hml, hown, hts⟩, ⟨hR1, hR2, hR3, hR4⟩, hE, hA, hA2, hV⟩ := id hC
  have hI : (len == 1) = true := hI
  rw [beq_iff_eq] at hI
  subst hI
  unfold op1 at h
  rcases st with _ | ⟨v, r⟩
  · cases h
  · rcases v with v | v | v
    · cases h
      intro H locs ls hW hS hl hst
      exact lv_i2l hx hb hd rfl (kk H locs ls hW hS hl (mem_c trivial (tl_c hst)))
    · cases h
    · cases h
theorem g_l2i {cc : ByteArray} {ci pc len : Nat} {x : Int32} {y : Int64} {d : List Nat} {lv : LV} {st : List AV} {μ : Mem} {q : LV × List AV × Mem}  (hC : CX p R s m args c cells slots nL ad A cc ci) (hd : decode cc pc = .ok (.l2i, len)) (hI : okI ci nL len (.l2i) x y d = true) (h : op1 (.l2i) x y d lv st μ = some q) (kk : GO p l e R s m args below meth c cells slots Q nL dC dI dA ad L fz A (pc + len) q.1 q.2.1 q.2.2) : GO p l e R s m args below meth c cells slots Q nL dC dI dA ad L fz A pc lv st μ := by
  obtain ⟨⟨hx, hb, hml, hown, hts⟩, ⟨hR1, hR2, hR3, hR4⟩, hE, hA, hA2, hV⟩ := id hC
  have hI : (len == 1) = true := hI
  rw [beq_iff_eq] at hI
  subst hI
  unfold op1 at h
  rcases st with _ | ⟨v, r⟩
  · cases h
  · rcases v with v | v | v
    · cases h
    · cases h
      intro H locs ls hW hS hl hst
      exact lv_l2i hx hb hd rfl (kk H locs ls hW hS hl (mem_c trivial (tl_c hst)))
    · cases h
theorem g_lcmp {cc : ByteArray} {ci pc len : Nat} {x : Int32} {y : Int64} {d : List Nat} {lv : LV} {st : List AV} {μ : Mem} {q : LV × List AV × Mem}  (hC : CX p R s m args c cells slots nL ad A cc ci) (hd : decode cc pc = .ok (.lcmp, len)) (hI : okI ci nL len (.lcmp) x y d = true) (h : op1 (.lcmp) x y d lv st μ = some q) (kk : GO p l e R s m args below meth c cells slots Q nL dC dI dA ad L fz A (pc + len) q.1 q.2.1 q.2.2) : GO p l e R s m args below meth c cells slots Q nL dC dI dA ad L fz A pc lv st μ := by
  obtain ⟨⟨hx, hb, hml, hown, hts⟩, ⟨hR1, hR2, hR3, hR4⟩, hE, hA, hA2, hV⟩ := id hC
  have hI : (len == 1) = true := hI
  rw [beq_iff_eq] at hI
  subst hI
  unfold op1 at h
  rcases st with _ | ⟨v, _ | ⟨w, r⟩⟩
  · cases h
  · rcases v with v | v | v <;> cases h
  · rcases v with v | v | v
    · cases h
    · rcases w with w | w | w
      · cases h
      · cases h
        intro H locs ls hW hS hl hst
        exact W.lcmp hx hb hd (kk H locs ls hW hS hl (mem_c trivial (tl_c (tl_c hst))))
      · cases h
    · cases h
theorem g_dup {cc : ByteArray} {ci pc len : Nat} {x : Int32} {y : Int64} {d : List Nat} {lv : LV} {st : List AV} {μ : Mem} {q : LV × List AV × Mem}  (hC : CX p R s m args c cells slots nL ad A cc ci) (hd : decode cc pc = .ok (.dup, len)) (hI : okI ci nL len (.dup) x y d = true) (h : op1 (.dup) x y d lv st μ = some q) (kk : GO p l e R s m args below meth c cells slots Q nL dC dI dA ad L fz A (pc + len) q.1 q.2.1 q.2.2) : GO p l e R s m args below meth c cells slots Q nL dC dI dA ad L fz A pc lv st μ := by
  obtain ⟨⟨hx, hb, hml, hown, hts⟩, ⟨hR1, hR2, hR3, hR4⟩, hE, hA, hA2, hV⟩ := id hC
  have hI : (len == 1) = true := hI
  rw [beq_iff_eq] at hI
  subst hI
  unfold op1 at h
  rcases st with _ | ⟨v, r⟩
  · cases h
  · rcases v with v | v | v
    · cases h
      intro H locs ls hW hS hl hst
      exact lv_dup hx hb hd rfl (kk H locs ls hW hS hl (mem_c trivial hst))
    · cases h
    · cases h
      intro H locs ls hW hS hl hst
      exact lv_dup hx hb hd rfl (kk H locs ls hW hS hl (mem_c (hd_c hst) hst))
theorem g_dup2 {cc : ByteArray} {ci pc len : Nat} {x : Int32} {y : Int64} {d : List Nat} {lv : LV} {st : List AV} {μ : Mem} {q : LV × List AV × Mem}  (hC : CX p R s m args c cells slots nL ad A cc ci) (hd : decode cc pc = .ok (.dup2, len)) (hI : okI ci nL len (.dup2) x y d = true) (h : op1 (.dup2) x y d lv st μ = some q) (kk : GO p l e R s m args below meth c cells slots Q nL dC dI dA ad L fz A (pc + len) q.1 q.2.1 q.2.2) : GO p l e R s m args below meth c cells slots Q nL dC dI dA ad L fz A pc lv st μ := by
  obtain ⟨⟨hx, hb, hml, hown, hts⟩, ⟨hR1, hR2, hR3, hR4⟩, hE, hA, hA2, hV⟩ := id hC
  have hI : (len == 1) = true := hI
  rw [beq_iff_eq] at hI
  subst hI
  unfold op1 at h
  rcases st with _ | ⟨v, _ | ⟨w, r⟩⟩
  · cases h
  · rcases v with v | v | v <;> cases h
  · rcases v with v | v | v
    · rcases w with w | w | w
      · cases h
      · cases h
      · cases h
        intro H locs ls hW hS hl hst
        exact lv_dup2_11 hx hb hd rfl rfl (kk H locs ls hW hS hl (mem_c trivial (mem_c (hd_c (tl_c hst)) hst)))
    · cases h
    · cases h
theorem g_getfield {cc : ByteArray} {ci pc len : Nat} {x : Int32} {y : Int64} {d : List Nat} {lv : LV} {st : List AV} {μ : Mem} {q : LV × List AV × Mem} {n : Nat} (hC : CX p R s m args c cells slots nL ad A cc ci) (hd : decode cc pc = .ok (.getfield n, len)) (hI : okI ci nL len (.getfield n) x y d = true) (h : op1 (.getfield n) x y d lv st μ = some q) (kk : GO p l e R s m args below meth c cells slots Q nL dC dI dA ad L fz A (pc + len) q.1 q.2.1 q.2.2) : GO p l e R s m args below meth c cells slots Q nL dC dI dA ad L fz A pc lv st μ := by
  obtain ⟨⟨hx, hb, hml, hown, hts⟩, ⟨hR1, hR2, hR3, hR4⟩, hE, hA, hA2, hV⟩ := id hC
  simp only [okI, Bool.and_eq_true, beq_iff_eq] at hI
  obtain ⟨hv, rfl⟩ := hI
  replace h : opGet d lv st μ = some q := h
  rcases d with _ | ⟨kk0, _ | ⟨j, _ | ⟨k2, _ | ⟨dl, _ | ⟨z, d⟩⟩⟩⟩⟩
  · cases h
  · cases h
  · rcases st with _ | ⟨v, r⟩
    · cases h
    · rcases v with v | v | ⟨k0, ob⟩
      · cases h
      · cases h
      · unfold opGet at h
        dsimp only at h
        by_cases hk : k0 = kk0
        · rw [if_pos hk] at h
          subst hk
          cases h
          simp only [Bool.and_eq_true, decide_eq_true_eq, beq_iff_eq] at hv
          obtain ⟨hF, hk9, hf⟩ := hv
          intro H locs ls hW hS hl hst
          obtain ⟨ho, hko⟩ := okO (hd_c hst) (by omega) (by omega) (by omega) (by omega)
          have hj : j < nF k0 := by rw [← fl_len k0 hk9]; exact (List.getElem?_eq_some_iff.mp hf).1
          have he : (wsA dA ad μ)[ob]? = some (ad ob, .inr (k0, fv ad μ k0 ob)) := by rw [wsA_at ho, hko]; unfold ent; rw [if_pos hk9]
          have kk' := kk H locs ls hW hS hl (mem_c trivial (tl_c hst))
          rcases FL_get hF with hL | hL
          · exact va_get hx hb hts (fun w hw => in_tb (cl_in k0 hk9 w hw) (g_lay hw)) hown hW.1 hW.2.1 ob he (cl_at k0 hk9) j hj (hts _ (in_tb hL g_fl)) (fun _ h9 => h9) (fv_i hf) hd kk'
          · exact va_getN hx hb hts (fun w hw => in_tb (cl_in k0 hk9 w hw) (g_lay hw)) hown hW.1 hW.2.1 ob he (cl_at k0 hk9) j hj (hts _ (in_tb hL rfl)) (fun _ h9 => h9) (fv_i hf) hd kk'
        · rw [if_neg hk] at h; cases h
  · rcases st with _ | ⟨v, r⟩
    · cases h
    · rcases v with v | v | v <;> cases h
  · rcases st with _ | ⟨v, r⟩
    · cases h
    · rcases v with v | v | ⟨k0, ob⟩
      · cases h
      · cases h
      · unfold opGet at h
        dsimp only at h
        by_cases hk : k0 = kk0
        · rw [if_pos hk] at h
          subst hk
          cases h
          simp only [Bool.and_eq_true, decide_eq_true_eq, beq_iff_eq] at hv
          obtain ⟨hF, hk9, hf⟩ := hv
          intro H locs ls hW hS hl hst
          obtain ⟨ho, hko⟩ := okO (hd_c hst) (by omega) (by omega) (by omega) (by omega)
          have hj : j < nF k0 := by rw [← fl_len k0 hk9]; exact (List.getElem?_eq_some_iff.mp hf).1
          have he : (wsA dA ad μ)[ob]? = some (ad ob, .inr (k0, fv ad μ k0 ob)) := by rw [wsA_at ho, hko]; unfold ent; rw [if_pos hk9]
          have hnew := kd_fl ob ho (by rw [hko]; exact hk9) j (by rw [hko]; exact (List.getElem?_eq_some_iff.mp hf).1) (k2, dl) (by rw [hko]; exact hf)
          have kk' := kk H locs ls hW hS hl (mem_c (show vOk L (vR k2 (ob + dl)) from (okL hnew.2).trans hnew.1) (tl_c hst))
          rcases FL_get hF with hL | hL
          · exact va_get hx hb hts (fun w hw => in_tb (cl_in k0 hk9 w hw) (g_lay hw)) hown hW.1 hW.2.1 ob he (cl_at k0 hk9) j hj (hts _ (in_tb hL g_fl)) (fun _ h9 => h9) (fv_r hf) hd kk'
          · exact va_getN hx hb hts (fun w hw => in_tb (cl_in k0 hk9 w hw) (g_lay hw)) hown hW.1 hW.2.1 ob he (cl_at k0 hk9) j hj (hts _ (in_tb hL rfl)) (fun _ h9 => h9) (fv_r hf) hd kk'
        · rw [if_neg hk] at h; cases h
  · rcases st with _ | ⟨v, r⟩
    · cases h
    · rcases v with v | v | v <;> cases h
theorem g_put1 {cc : ByteArray} {ci pc n : Nat} {lv : LV} {r : List AV} {μ : Mem} {k0 ob j : Nat} {v : Int32} {ty : FieldType} (hC : CX p R s m args c cells slots nL ad A cc ci) (hd : decode cc pc = .ok (.putfield n, 3)) (hF : FLb ci n k0 j = true) (hk9 : k0 < 9) (hf : (fl k0)[j]? = some none) (hfin : (TT k0 j).2.2.2 = false) (hty : tyT k0 j = ty) (hn : narrow ty (.int v) = .int v) (hfit : fits ty (.int v) = true) (kk : GO p l e R s m args below meth c cells slots Q nL dC dI dA ad L fz A (pc + 3) lv r (up μ ob j v)) : GO p l e R s m args below meth c cells slots Q nL dC dI dA ad L fz A pc lv (Sum.inl v :: Sum.inr (Sum.inr (k0, ob)) :: r) μ := by
  obtain ⟨⟨hx, hb, hml, hown, hts⟩, ⟨hR1, hR2, hR3, hR4⟩, hE, hA, hA2, hV⟩ := id hC
  intro H locs ls hW hS hl hst
  obtain ⟨ho, hko⟩ := okO (hd_c (tl_c hst)) (by omega) (by omega) (by omega) (by omega)
  have hj : j < nF k0 := by rw [← fl_len k0 hk9]; exact (List.getElem?_eq_some_iff.mp hf).1
  have he : (wsA dA ad μ)[ob]? = some (ad ob, .inr (k0, fv ad μ k0 ob)) := by rw [wsA_at ho, hko]; unfold ent; rw [if_pos hk9]
  have hset : (wsA dA ad μ).set ob (ad ob, .inr (k0, (fv ad μ k0 ob).set j (.int v))) = wsA dA ad (up μ ob j v) := by
    refine wsA_set ho (fun a ha => up_ne ha) ?_
    rw [hko]; unfold ent; rw [if_pos hk9, fv_up hf]
  have hDs := wsA_D (μ := μ) (dA := dA) hE hA
  have hSH : va_S A H H locs := ⟨Nat.le_refl _, fun _ _ _ => rfl, hS.2.2⟩
  have fin : ∀ (H1 : Heap) (locs1 : List Loc), va_P (dC, dI) vwCl ((wsA dA ad μ).set ob (ad ob, .inr (k0, (fv ad μ k0 ob).set j (.int v)))) H1 → va_S A H H1 locs1 → W p l e R s m args below meth c H1 locs1 cells slots Q (F0 m (pc + 3) ls (r.map (cv ad))) := by
    intro H1 locs1 hP1 hS1
    rw [hset] at hP1
    refine kk H1 locs1 ls (hW.put hP1 (fun a ha => ?_) (fun a h1 h2 => hS1.2.1 a h1 h2)) ⟨Nat.le_trans hS.1 hS1.1, fun a h1 h2 => (hS1.2.1 a (Nat.lt_of_lt_of_le h1 hS.1) h2).trans (hS.2.1 a h1 h2), hS1.2.2⟩ hl (tl_c (tl_c hst))
    rw [up_ne (by omega)]
    exact hW.2.2.1 a ha
  rcases FL_get hF with hL | hL
  · exact va_put hx hb hts (fun w hw => in_tb (cl_in k0 hk9 w hw) (g_lay hw)) (tyT k0) (cl_ty k0 hk9) (cl_nm k0 hk9) hown hW.1 hW.2.1 hDs hSH ob he (cl_at k0 hk9) j hj (hts _ (in_tb hL g_fl)) (fun _ h9 => h9) hfin ((cl_ty k0 hk9 j hj).trans (congrArg some hty)) hn hfit (by rw [fv_len]; exact (List.getElem?_eq_some_iff.mp hf).1) hd (fun H1 locs1 hP1 _ hS1 => fin H1 locs1 hP1 hS1)
  · exact va_putN hx hb hts (fun w hw => in_tb (cl_in k0 hk9 w hw) (g_lay hw)) (tyT k0) (cl_ty k0 hk9) (cl_nm k0 hk9) hown hW.1 hW.2.1 hDs hSH ob he (cl_at k0 hk9) j hj (hts _ (in_tb hL rfl)) (fun _ h9 => h9) hfin ((cl_ty k0 hk9 j hj).trans (congrArg some hty)) hn hfit (by rw [fv_len]; exact (List.getElem?_eq_some_iff.mp hf).1) hd (fun H1 locs1 hP1 _ hS1 => fin H1 locs1 hP1 hS1)
theorem g_putfield {cc : ByteArray} {ci pc len : Nat} {x : Int32} {y : Int64} {d : List Nat} {lv : LV} {st : List AV} {μ : Mem} {q : LV × List AV × Mem} {n : Nat} (hC : CX p R s m args c cells slots nL ad A cc ci) (hd : decode cc pc = .ok (.putfield n, len)) (hI : okI ci nL len (.putfield n) x y d = true) (h : op1 (.putfield n) x y d lv st μ = some q) (kk : GO p l e R s m args below meth c cells slots Q nL dC dI dA ad L fz A (pc + len) q.1 q.2.1 q.2.2) : GO p l e R s m args below meth c cells slots Q nL dC dI dA ad L fz A pc lv st μ := by
  obtain ⟨⟨hx, hb, hml, hown, hts⟩, ⟨hR1, hR2, hR3, hR4⟩, hE, hA, hA2, hV⟩ := id hC
  simp only [okI, Bool.and_eq_true, beq_iff_eq] at hI
  obtain ⟨hv, rfl⟩ := hI
  replace h : opPut d lv st μ = some q := h
  rcases d with _ | ⟨kk0, _ | ⟨j, _ | ⟨k2, _ | ⟨dl, d⟩⟩⟩⟩
  · cases h
  · cases h
  · rcases st with _ | ⟨v, _ | ⟨w, r⟩⟩
    · cases h
    · rcases v with v | v | v <;> cases h
    · rcases v with v | v | v
      · rcases w with w | w | ⟨k0, ob⟩
        · cases h
        · cases h
        · unfold opPut at h
          dsimp only at h
          by_cases hk : k0 = kk0
          · rw [if_pos hk] at h
            subst hk
            cases h
            simp only [Bool.and_eq_true, decide_eq_true_eq, beq_iff_eq] at hv
            obtain ⟨hF, hk9, hf, hfin, hty⟩ := hv
            exact g_put1 hC hd hF hk9 hf hfin hty rfl rfl kk
          · rw [if_neg hk] at h; cases h
      · cases h
      · cases h
  · rcases st with _ | ⟨v, _ | ⟨w, r⟩⟩
    · cases h
    · rcases v with v | v | v <;> cases h
    · rcases v with v | v | v
      · rcases w with w | w | ⟨k0, ob⟩
        · cases h
        · cases h
        · unfold opPut at h
          dsimp only at h
          by_cases hk : k0 = kk0 ∧ (v = 0 ∨ v = 1)
          · rw [if_pos hk] at h
            obtain ⟨hk, hz⟩ := hk
            subst hk
            cases h
            simp only [Bool.and_eq_true, decide_eq_true_eq, beq_iff_eq] at hv
            obtain ⟨hF, hk9, hf, hfin, hty⟩ := hv
            exact g_put1 hC hd hF hk9 hf hfin hty (by rcases hz with rfl | rfl <;> rfl) (by rcases hz with rfl | rfl <;> rfl) kk
          · rw [if_neg hk] at h; cases h
      · cases h
      · cases h
  · rcases st with _ | ⟨v, _ | ⟨w, r⟩⟩
    · cases h
    · rcases v with v | v | v <;> cases h
    · rcases v with v | v | v
      · rcases w with w | w | w <;> cases h
      · cases h
      · cases h
theorem g_getstatic {cc : ByteArray} {ci pc len : Nat} {x : Int32} {y : Int64} {d : List Nat} {lv : LV} {st : List AV} {μ : Mem} {q : LV × List AV × Mem} {n : Nat} (hC : CX p R s m args c cells slots nL ad A cc ci) (hd : decode cc pc = .ok (.getstatic n, len)) (hI : okI ci nL len (.getstatic n) x y d = true) (h : op1 (.getstatic n) x y d lv st μ = some q) (kk : GO p l e R s m args below meth c cells slots Q nL dC dI dA ad L fz A (pc + len) q.1 q.2.1 q.2.2) : GO p l e R s m args below meth c cells slots Q nL dC dI dA ad L fz A pc lv st μ := by
  obtain ⟨⟨hx, hb, hml, hown, hts⟩, ⟨hR1, hR2, hR3, hR4⟩, hE, hA, hA2, hV⟩ := id hC
  simp only [okI, Bool.and_eq_true, beq_iff_eq] at hI
  obtain ⟨hv, rfl⟩ := hI
  unfold op1 at h
  rcases d with _ | ⟨k2, _ | ⟨o, _ | ⟨z, d⟩⟩⟩
  · cases h
  · cases h
  · cases h
    simp only [Bool.and_eq_true, Bool.or_eq_true, beq_iff_eq] at hv
    obtain ⟨hG, hv⟩ := hv
    intro H locs ls hW hS hl hst
    obtain ⟨nm, h1, h2⟩ := GS_get hG
    have hZ : va_Z "TakenUp" nm "[I" (.ref (ad o)) A s H ∧ vOk L (vR k2 o) := by
      rcases h1 with ⟨rfl, rfl⟩ | ⟨rfl, rfl⟩
      · rcases hv with ⟨_, rfl⟩ | ⟨e, _⟩
        · exact ⟨hW.2.2.2.2.1.1, rfl⟩
        · exact absurd e (by decide)
      · rcases hv with ⟨e, _⟩ | ⟨_, rfl⟩
        · exact absurd e (by decide)
        · exact ⟨hW.2.2.2.2.1.2.1, rfl⟩
    have kk' := kk H locs ls hW hS hl (mem_c hZ.2 hst)
    obtain ⟨cf, kf, fi, f, a, cell, z1, z2, z3, z4, z5, z6, z7, z8⟩ := hZ.1
    rcases h2 with h2 | h2
    · exact W.gets hx hb hown (hts _ (in_tb h2 g_fl)) z1 z2 z3 z4 z5 (fun e => by rw [e] at z6; cases z6) z7 rfl hd kk'
    · exact va_WgetsN hx hb hown (hts _ (in_tb h2 rfl)) z1 z2 z3 z4 z5 (fun e => by rw [e] at z6; cases z6) z7 rfl hd kk'
  · cases h
theorem arr_kd {k o : Nat} {L : Nat} (h : vOk L (Sum.inr (Sum.inr (k, o)))) (hk : 100 ≤ k ∧ k < 1000) (dA : Nat → ClassId) (ad : Nat → Nat) (μ : Mem) : o < 127 ∧ kd o = k ∧ (wsA dA ad μ)[o]? = some (ad o, .inl (dA 0, k - 100, .inl (μ o))) := by
  obtain ⟨ho, hko⟩ := okO h hk.2 (by omega) (by omega) (by omega)
  refine ⟨ho, hko, ?_⟩
  rw [wsA_at ho, hko]
  unfold ent
  rw [if_neg (by omega), show elm k = none from by unfold elm; rw [if_neg (by omega), if_neg (by omega), if_neg (by omega), if_neg (by omega)]]
theorem vp_of {i : Int32} {n : Nat} (h : 0 ≤ i.toInt ∧ i.toInt < (n : Int)) : vp_in i n := vp_in_iff.mpr h
/-- the rows that nobody writes -/
theorem ro_kd {k o L : Nat} (h : vOk L (Sum.inr (Sum.inr (k, o)))) (hk : 1000 ≤ k) : (o = 200 ∧ k = 1007) ∨ (o = 201 ∧ k = 1028) ∨ (o = 202 ∧ k = 1000 + L) := by
  have h : kdL L o = k := h
  unfold kdL at h
  split at h
  · exact Or.inl ⟨‹_›, h.symm⟩
  · split at h
    · exact Or.inr (Or.inl ⟨‹_›, h.symm⟩)
    · split at h
      · exact Or.inr (Or.inr ⟨‹_›, h.symm⟩)
      · split at h
        · omega
        · split at h
          · omega
          · have : kd o ≤ 604 := by
              rcases Nat.lt_or_ge o 127 with q | q
              · exact of_decide_eq_true (List.all_eq_true.mp (show (List.range 127).all (fun o => decide (kd o ≤ 604)) = true by decide +kernel) o (List.mem_range.mpr q))
              · have : kd o = 50 := by
                  by_cases h50 : kd o = 50
                  · exact h50
                  · exact absurd (kd_lt h50) (by omega)
                omega
            omega
theorem ro_X {k o L : Nat} {ad : Nat → Nat} {fz : Mem} {A : Nat → Prop} {U : State} {H : Heap} (h : vOk L (Sum.inr (Sum.inr (k, o)))) (hk : 1000 ≤ k) (hS : WS ad L fz A U H) : va_T .int (ad o) (k - 1000) (fun j => .int (fz o j)) A U H ∧ 127 ≤ o := by
  obtain ⟨⟨a1, a2, a3⟩, -⟩ := hS
  rcases ro_kd h hk with ⟨rfl, rfl⟩ | ⟨rfl, rfl⟩ | ⟨rfl, rfl⟩
  · exact ⟨a1, by decide⟩
  · exact ⟨a2, by decide⟩
  · rw [Nat.add_sub_cancel_left]
    exact ⟨a3, by decide⟩
theorem g_iaload {cc : ByteArray} {ci pc len : Nat} {x : Int32} {y : Int64} {d : List Nat} {lv : LV} {st : List AV} {μ : Mem} {q : LV × List AV × Mem}  (hC : CX p R s m args c cells slots nL ad A cc ci) (hd : decode cc pc = .ok (.iaload, len)) (hI : okI ci nL len (.iaload) x y d = true) (h : op1 (.iaload) x y d lv st μ = some q) (kk : GO p l e R s m args below meth c cells slots Q nL dC dI dA ad L fz A (pc + len) q.1 q.2.1 q.2.2) : GO p l e R s m args below meth c cells slots Q nL dC dI dA ad L fz A pc lv st μ := by
  obtain ⟨⟨hx, hb, hml, hown, hts⟩, ⟨hR1, hR2, hR3, hR4⟩, hE, hA, hA2, hV⟩ := id hC
  have hI : (len == 1) = true := hI
  rw [beq_iff_eq] at hI
  subst hI
  replace h : opLd lv st μ = some q := h
  unfold opLd at h
  rcases st with _ | ⟨v, _ | ⟨w, r⟩⟩
  · cases h
  · rcases v with v | v | v <;> cases h
  · rcases v with v | v | v
    · rcases w with w | w | ⟨k, ob⟩
      · cases h
      · cases h
      · dsimp only at h
        by_cases h1 : (100 ≤ k ∧ k < 1000) ∧ (0 ≤ v.toInt ∧ v.toInt < ((k - 100 : Nat) : Int))
        · rw [if_pos h1] at h
          cases h
          intro H locs ls hW hS hl hst
          obtain ⟨ho, hko, he⟩ := arr_kd (hd_c (tl_c hst)) h1.1 dA ad μ
          exact va_iald hx hb hW.1 hW.2.1 ob 0 he rfl (vp_of h1.2) hd (kk H locs ls hW hS hl (mem_c trivial (tl_c (tl_c hst))))
        · rw [if_neg h1] at h
          by_cases h2 : 1000 ≤ k ∧ (0 ≤ v.toInt ∧ v.toInt < ((k - 1000 : Nat) : Int))
          · rw [if_pos h2] at h
            cases h
            intro H locs ls hW hS hl hst
            obtain ⟨⟨scr, x1, x2, x3, x4, x45, x5, -⟩, ho⟩ := ro_X (hd_c (tl_c hst)) h2.1 hW.2.2.2
            have hlt : ix v < k - 1000 := by
              have := h2.2.2
              have h0 := h2.2.1
              show v.toInt.toNat < k - 1000
              omega
            have kk' := kk H locs ls hW hS hl (mem_c trivial (tl_c (tl_c hst)))
            refine W.iald (v := .int (μ ob (ix v))) hx hb x1 x2 x3 (fun z => (vp_of h2.2) (z.imp id (fun y => Nat.le_trans x4 y))) ?_ rfl rfl hd kk'
            rw [hW.2.2.1 ob ho]
            exact x5 _ hlt
          · rw [if_neg h2] at h; cases h
    · cases h
    · cases h
theorem g_iastore {cc : ByteArray} {ci pc len : Nat} {x : Int32} {y : Int64} {d : List Nat} {lv : LV} {st : List AV} {μ : Mem} {q : LV × List AV × Mem}  (hC : CX p R s m args c cells slots nL ad A cc ci) (hd : decode cc pc = .ok (.iastore, len)) (hI : okI ci nL len (.iastore) x y d = true) (h : op1 (.iastore) x y d lv st μ = some q) (kk : GO p l e R s m args below meth c cells slots Q nL dC dI dA ad L fz A (pc + len) q.1 q.2.1 q.2.2) : GO p l e R s m args below meth c cells slots Q nL dC dI dA ad L fz A pc lv st μ := by
  obtain ⟨⟨hx, hb, hml, hown, hts⟩, ⟨hR1, hR2, hR3, hR4⟩, hE, hA, hA2, hV⟩ := id hC
  have hI : (len == 1) = true := hI
  rw [beq_iff_eq] at hI
  subst hI
  replace h : opSt lv st μ = some q := h
  unfold opSt at h
  rcases st with _ | ⟨v, _ | ⟨w, _ | ⟨z, r⟩⟩⟩
  · cases h
  · rcases v with v | v | v <;> cases h
  · rcases v with v | v | v
    · rcases w with w | w | w <;> cases h
    · cases h
    · cases h
  · rcases v with v | v | v
    · rcases w with w | w | w
      · rcases z with z | z | ⟨k, ob⟩
        · cases h
        · cases h
        · dsimp only at h
          by_cases h1 : (100 ≤ k ∧ k < 1000) ∧ (0 ≤ w.toInt ∧ w.toInt < ((k - 100 : Nat) : Int))
          · rw [if_pos h1] at h
            cases h
            intro H locs ls hW hS hl hst
            obtain ⟨ho, hko, he⟩ := arr_kd (hd_c (tl_c (tl_c hst))) h1.1 dA ad μ
            have hset : (wsA dA ad μ).set ob (ad ob, .inl (dA 0, k - 100, .inl (upd (μ ob) w.toNatClampNeg v))) = wsA dA ad (up μ ob (ix w) v) := by
              refine wsA_set ho (fun a ha => up_ne ha) ?_
              rw [hko]; unfold ent
              rw [if_neg (by omega), show elm k = none from by unfold elm; rw [if_neg (by omega), if_neg (by omega), if_neg (by omega), if_neg (by omega)]]
              dsimp only
              rw [up_at]
            refine va_iast hx hb hW.1 hW.2.1 (wsA_D hE hA) (⟨Nat.le_refl _, fun _ _ _ => rfl, hS.2.2⟩ : va_S A H H locs) ob 0 he rfl (vp_of h1.2) hd (fun H1 locs1 hP1 _ hS1 => ?_)
            rw [hset] at hP1
            refine kk H1 locs1 ls (hW.put hP1 (fun a ha => ?_) (fun a h1 h2 => hS1.2.1 a h1 h2)) ⟨Nat.le_trans hS.1 hS1.1, fun a h1 h2 => (hS1.2.1 a (Nat.lt_of_lt_of_le h1 hS.1) h2).trans (hS.2.1 a h1 h2), hS1.2.2⟩ hl (tl_c (tl_c (tl_c hst)))
            show up μ ob (ix w) v a = fz a
            rw [up_ne (by omega)]
            exact hW.2.2.1 a ha
          · rw [if_neg h1] at h; cases h
      · cases h
      · cases h
    · cases h
    · cases h
theorem g_aaload {cc : ByteArray} {ci pc len : Nat} {x : Int32} {y : Int64} {d : List Nat} {lv : LV} {st : List AV} {μ : Mem} {q : LV × List AV × Mem}  (hC : CX p R s m args c cells slots nL ad A cc ci) (hd : decode cc pc = .ok (.aaload, len)) (hI : okI ci nL len (.aaload) x y d = true) (h : op1 (.aaload) x y d lv st μ = some q) (kk : GO p l e R s m args below meth c cells slots Q nL dC dI dA ad L fz A (pc + len) q.1 q.2.1 q.2.2) : GO p l e R s m args below meth c cells slots Q nL dC dI dA ad L fz A pc lv st μ := by
  obtain ⟨⟨hx, hb, hml, hown, hts⟩, ⟨hR1, hR2, hR3, hR4⟩, hE, hA, hA2, hV⟩ := id hC
  have hI : (len == 1) = true := hI
  rw [beq_iff_eq] at hI
  subst hI
  replace h : opAld lv st μ = some q := h
  unfold opAld at h
  rcases st with _ | ⟨v, _ | ⟨w, r⟩⟩
  · cases h
  · rcases v with v | v | v <;> cases h
  · rcases v with v | v | v
    · rcases w with w | w | ⟨k, ob⟩
      · cases h
      · cases h
      · dsimp only at h
        rcases hE2 : elm k with _ | ⟨n, k2, dl, st0⟩
        · rw [hE2] at h; cases h
        · rw [hE2] at h
          dsimp only at h
          by_cases h1 : 0 ≤ v.toInt ∧ v.toInt < (n : Int)
          · rw [if_pos h1] at h
            cases h
            intro H locs ls hW hS hl hst
            have hk4 : k = 10 ∨ k = 11 ∨ k = 12 ∨ k = 13 := by
              unfold elm at hE2
              by_cases a1 : k = 10
              · exact Or.inl a1
              · by_cases a2 : k = 11
                · exact Or.inr (Or.inl a2)
                · by_cases a3 : k = 12
                  · exact Or.inr (Or.inr (Or.inl a3))
                  · by_cases a4 : k = 13
                    · exact Or.inr (Or.inr (Or.inr a4))
                    · rw [if_neg a1, if_neg a2, if_neg a3, if_neg a4] at hE2; cases hE2
            obtain ⟨ho, hko⟩ := okO (hd_c (tl_c hst)) (by omega) (by omega) (by omega) (by omega)
            have hlt : ix v < n := by
              show v.toInt.toNat < n
              omega
            have hnew := kd_el ob ho n k2 dl st0 (by rw [hko]; exact hE2) (ix v) hlt
            have he : (wsA dA ad μ)[ob]? = some (ad ob, .inl (dA (k - 9), n, .inr (.inr (.inr (.inr (fun i => some (ad (ob + dl + st0 * i)))))))) := by
              rw [wsA_at ho, hko]; unfold ent; rw [if_neg (by omega), hE2]
            have kk' := kk H locs ls hW hS hl (mem_c (show vOk L (vR k2 (ob + dl + st0 * ix v)) from (okL hnew.2).trans hnew.1) (tl_c (tl_c hst)))
            rcases hk4 with rfl | rfl | rfl | rfl
            · exact va_aldq hx hb hW.1 hW.2.1 ob 1 he rfl (vp_of h1) hd kk'
            · exact va_aldq hx hb hW.1 hW.2.1 ob 2 he rfl (vp_of h1) hd kk'
            · exact va_aldq hx hb hW.1 hW.2.1 ob 3 he rfl (vp_of h1) hd kk'
            · exact va_aldq hx hb hW.1 hW.2.1 ob 4 he rfl (vp_of h1) hd kk'
          · rw [if_neg h1] at h; cases h
    · cases h
    · cases h
theorem g_arraylength {cc : ByteArray} {ci pc len : Nat} {x : Int32} {y : Int64} {d : List Nat} {lv : LV} {st : List AV} {μ : Mem} {q : LV × List AV × Mem}  (hC : CX p R s m args c cells slots nL ad A cc ci) (hd : decode cc pc = .ok (.arraylength, len)) (hI : okI ci nL len (.arraylength) x y d = true) (h : op1 (.arraylength) x y d lv st μ = some q) (kk : GO p l e R s m args below meth c cells slots Q nL dC dI dA ad L fz A (pc + len) q.1 q.2.1 q.2.2) : GO p l e R s m args below meth c cells slots Q nL dC dI dA ad L fz A pc lv st μ := by
  obtain ⟨⟨hx, hb, hml, hown, hts⟩, ⟨hR1, hR2, hR3, hR4⟩, hE, hA, hA2, hV⟩ := id hC
  have hI : (len == 1) = true := hI
  rw [beq_iff_eq] at hI
  subst hI
  replace h : opLen lv st μ = some q := h
  unfold opLen at h
  rcases st with _ | ⟨w, r⟩
  · cases h
  · rcases w with w | w | ⟨k, ob⟩
    · cases h
    · cases h
    · dsimp only at h
      rcases hE2 : elm k with _ | ⟨n, k2, dl, st0⟩
      · rw [hE2] at h
        dsimp only at h
        by_cases h1 : 100 ≤ k ∧ k < 1000
        · rw [if_pos h1] at h
          cases h
          intro H locs ls hW hS hl hst
          obtain ⟨ho, hko, he⟩ := arr_kd (hd_c hst) h1 dA ad μ
          exact va_alen hx hb hW.1 hW.2.1 ob 0 he rfl rfl hd (kk H locs ls hW hS hl (mem_c trivial (tl_c hst)))
        · rw [if_neg h1] at h
          by_cases h2 : 1000 ≤ k
          · rw [if_pos h2] at h
            cases h
            intro H locs ls hW hS hl hst
            obtain ⟨⟨scr, x1, x2, x3, x4, x45, x5, -⟩, ho⟩ := ro_X (hd_c hst) h2 hW.2.2.2
            exact W.alen (n := nI (k - 1000)) hx hb x1 x2 x45 rfl rfl hd (kk H locs ls hW hS hl (mem_c trivial (tl_c hst)))
          · rw [if_neg h2] at h; cases h
      · rw [hE2] at h
        cases h
        intro H locs ls hW hS hl hst
        have hk4 : k = 10 ∨ k = 11 ∨ k = 12 ∨ k = 13 := by
          unfold elm at hE2
          by_cases a1 : k = 10
          · exact Or.inl a1
          · by_cases a2 : k = 11
            · exact Or.inr (Or.inl a2)
            · by_cases a3 : k = 12
              · exact Or.inr (Or.inr (Or.inl a3))
              · by_cases a4 : k = 13
                · exact Or.inr (Or.inr (Or.inr a4))
                · rw [if_neg a1, if_neg a2, if_neg a3, if_neg a4] at hE2; cases hE2
        obtain ⟨ho, hko⟩ := okO (hd_c hst) (by omega) (by omega) (by omega) (by omega)
        have he : (wsA dA ad μ)[ob]? = some (ad ob, .inl (dA (k - 9), n, .inr (.inr (.inr (.inr (fun i => some (ad (ob + dl + st0 * i)))))))) := by
          rw [wsA_at ho, hko]; unfold ent; rw [if_neg (by omega), hE2]
        have kk' := kk H locs ls hW hS hl (mem_c trivial (tl_c hst))
        rcases hk4 with rfl | rfl | rfl | rfl
        · exact va_alen hx hb hW.1 hW.2.1 ob 1 he rfl rfl hd kk'
        · exact va_alen hx hb hW.1 hW.2.1 ob 2 he rfl rfl hd kk'
        · exact va_alen hx hb hW.1 hW.2.1 ob 3 he rfl rfl hd kk'
        · exact va_alen hx hb hW.1 hW.2.1 ob 4 he rfl rfl hd kk'
theorem op1_ok {cc : ByteArray} {ci pc len : Nat} {i : Instr} {x : Int32} {y : Int64} {d : List Nat} {lv : LV} {st : List AV} {μ : Mem} {q : LV × List AV × Mem} (hC : CX p R s m args c cells slots nL ad A cc ci) (hd : decode cc pc = .ok (i, len)) (hI : okI ci nL len i x y d = true) (h : op1 i x y d lv st μ = some q) (kk : GO p l e R s m args below meth c cells slots Q nL dC dI dA ad L fz A (pc + len) q.1 q.2.1 q.2.2) : GO p l e R s m args below meth c cells slots Q nL dC dI dA ad L fz A pc lv st μ := by
  cases i
  case iload_n => exact g_iload_n hC hd hI h kk
  case iload => exact g_iload hC hd hI h kk
  case lload_n => exact g_lload_n hC hd hI h kk
  case lload => exact g_lload hC hd hI h kk
  case aload_n => exact g_aload_n hC hd hI h kk
  case aload => exact g_aload hC hd hI h kk
  case istore_n => exact g_istore_n hC hd hI h kk
  case istore => exact g_istore hC hd hI h kk
  case lstore_n => exact g_lstore_n hC hd hI h kk
  case lstore => exact g_lstore hC hd hI h kk
  case astore_n => exact g_astore_n hC hd hI h kk
  case astore => exact g_astore hC hd hI h kk
  case iinc => exact g_iinc hC hd hI h kk
  case iconst => exact g_iconst hC hd hI h kk
  case bipush => exact g_bipush hC hd hI h kk
  case sipush => exact g_sipush hC hd hI h kk
  case ldc => exact g_ldc hC hd hI h kk
  case ldc_w => exact g_ldc_w hC hd hI h kk
  case lconst => exact g_lconst hC hd hI h kk
  case ldc2_w => exact g_ldc2_w hC hd hI h kk
  case iadd => exact g_iadd hC hd hI h kk
  case isub => exact g_isub hC hd hI h kk
  case imul => exact g_imul hC hd hI h kk
  case iand => exact g_iand hC hd hI h kk
  case ixor => exact g_ixor hC hd hI h kk
  case ishl => exact g_ishl hC hd hI h kk
  case ishr => exact g_ishr hC hd hI h kk
  case iushr => exact g_iushr hC hd hI h kk
  case idiv => exact g_idiv hC hd hI h kk
  case irem => exact g_irem hC hd hI h kk
  case ineg => exact g_ineg hC hd hI h kk
  case i2b => exact g_i2b hC hd hI h kk
  case i2s => exact g_i2s hC hd hI h kk
  case i2c => exact g_i2c hC hd hI h kk
  case ladd => exact g_ladd hC hd hI h kk
  case lsub => exact g_lsub hC hd hI h kk
  case lmul => exact g_lmul hC hd hI h kk
  case land => exact g_land hC hd hI h kk
  case lor => exact g_lor hC hd hI h kk
  case ldiv => exact g_ldiv hC hd hI h kk
  case lrem => exact g_lrem hC hd hI h kk
  case lneg => exact g_lneg hC hd hI h kk
  case lshl => exact g_lshl hC hd hI h kk
  case lshr => exact g_lshr hC hd hI h kk
  case lushr => exact g_lushr hC hd hI h kk
  case i2l => exact g_i2l hC hd hI h kk
  case l2i => exact g_l2i hC hd hI h kk
  case lcmp => exact g_lcmp hC hd hI h kk
  case dup => exact g_dup hC hd hI h kk
  case dup2 => exact g_dup2 hC hd hI h kk
  case getfield => exact g_getfield hC hd hI h kk
  case putfield => exact g_putfield hC hd hI h kk
  case getstatic => exact g_getstatic hC hd hI h kk
  case iaload => exact g_iaload hC hd hI h kk
  case iastore => exact g_iastore hC hd hI h kk
  case aaload => exact g_aaload hC hd hI h kk
  case arraylength => exact g_arraylength hC hd hI h kk
  all_goals exact absurd h (by simp [op1])
end OP
