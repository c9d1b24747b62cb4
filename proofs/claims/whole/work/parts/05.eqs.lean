/-! one equation an instruction -/
theorem e_iload_n {c : Bool → Nat → List AV → Mem → Rs} {j : Nat → LV → List AV → Mem → Rs} {x : Int32} {y : Int64} {sw : List (Int32 × Nat)} {is : List AI} {lv : LV} {r : List AV} {μ : Mem} {n : Fin 4} {k : Nat} : exL c j ((.iload_n n, x, y, [k], sw) :: is) lv r μ = (match lv[k]? with | some (some (Sum.inl v)) => exL c j is lv (vI v :: r) μ | _ => none) := by
  show (ldI [k] lv r μ).bind _ = _
  unfold ldI
  dsimp only
  rcases lv[k]? with _ | _ | v | v | v <;> rfl
theorem e_iload {c : Bool → Nat → List AV → Mem → Rs} {j : Nat → LV → List AV → Mem → Rs} {x : Int32} {y : Int64} {sw : List (Int32 × Nat)} {is : List AI} {lv : LV} {r : List AV} {μ : Mem} {n : Nat} {k : Nat} : exL c j ((.iload n, x, y, [k], sw) :: is) lv r μ = (match lv[k]? with | some (some (Sum.inl v)) => exL c j is lv (vI v :: r) μ | _ => none) := by
  show (ldI [k] lv r μ).bind _ = _
  unfold ldI
  dsimp only
  rcases lv[k]? with _ | _ | v | v | v <;> rfl
theorem e_lload_n {c : Bool → Nat → List AV → Mem → Rs} {j : Nat → LV → List AV → Mem → Rs} {x : Int32} {y : Int64} {sw : List (Int32 × Nat)} {is : List AI} {lv : LV} {r : List AV} {μ : Mem} {n : Fin 4} {k : Nat} : exL c j ((.lload_n n, x, y, [k], sw) :: is) lv r μ = (match lv[k]? with | some (some (Sum.inr (Sum.inl v))) => exL c j is lv (vL v :: r) μ | _ => none) := by
  show (ldL [k] lv r μ).bind _ = _
  unfold ldL
  dsimp only
  rcases lv[k]? with _ | _ | v | v | v <;> rfl
theorem e_lload {c : Bool → Nat → List AV → Mem → Rs} {j : Nat → LV → List AV → Mem → Rs} {x : Int32} {y : Int64} {sw : List (Int32 × Nat)} {is : List AI} {lv : LV} {r : List AV} {μ : Mem} {n : Nat} {k : Nat} : exL c j ((.lload n, x, y, [k], sw) :: is) lv r μ = (match lv[k]? with | some (some (Sum.inr (Sum.inl v))) => exL c j is lv (vL v :: r) μ | _ => none) := by
  show (ldL [k] lv r μ).bind _ = _
  unfold ldL
  dsimp only
  rcases lv[k]? with _ | _ | v | v | v <;> rfl
theorem e_aload_n {c : Bool → Nat → List AV → Mem → Rs} {j : Nat → LV → List AV → Mem → Rs} {x : Int32} {y : Int64} {sw : List (Int32 × Nat)} {is : List AI} {lv : LV} {r : List AV} {μ : Mem} {n : Fin 4} {k : Nat} : exL c j ((.aload_n n, x, y, [k], sw) :: is) lv r μ = (match lv[k]? with | some (some (Sum.inr (Sum.inr v))) => exL c j is lv (Sum.inr (Sum.inr v) :: r) μ | _ => none) := by
  show (ldA [k] lv r μ).bind _ = _
  unfold ldA
  dsimp only
  rcases lv[k]? with _ | _ | v | v | v <;> rfl
theorem e_aload {c : Bool → Nat → List AV → Mem → Rs} {j : Nat → LV → List AV → Mem → Rs} {x : Int32} {y : Int64} {sw : List (Int32 × Nat)} {is : List AI} {lv : LV} {r : List AV} {μ : Mem} {n : Nat} {k : Nat} : exL c j ((.aload n, x, y, [k], sw) :: is) lv r μ = (match lv[k]? with | some (some (Sum.inr (Sum.inr v))) => exL c j is lv (Sum.inr (Sum.inr v) :: r) μ | _ => none) := by
  show (ldA [k] lv r μ).bind _ = _
  unfold ldA
  dsimp only
  rcases lv[k]? with _ | _ | v | v | v <;> rfl
theorem e_istore_n {c : Bool → Nat → List AV → Mem → Rs} {j : Nat → LV → List AV → Mem → Rs} {x : Int32} {y : Int64} {sw : List (Int32 × Nat)} {is : List AI} {lv : LV} {r : List AV} {μ : Mem} {n : Fin 4} {k : Nat} {v : Int32} : exL c j ((.istore_n n, x, y, [k], sw) :: is) lv (Sum.inl v :: r) μ = exL c j is ((clr lv k).set k (some (vI v))) r μ := rfl
theorem e_istore {c : Bool → Nat → List AV → Mem → Rs} {j : Nat → LV → List AV → Mem → Rs} {x : Int32} {y : Int64} {sw : List (Int32 × Nat)} {is : List AI} {lv : LV} {r : List AV} {μ : Mem} {n : Nat} {k : Nat} {v : Int32} : exL c j ((.istore n, x, y, [k], sw) :: is) lv (Sum.inl v :: r) μ = exL c j is ((clr lv k).set k (some (vI v))) r μ := rfl
theorem e_astore_n {c : Bool → Nat → List AV → Mem → Rs} {j : Nat → LV → List AV → Mem → Rs} {x : Int32} {y : Int64} {sw : List (Int32 × Nat)} {is : List AI} {lv : LV} {r : List AV} {μ : Mem} {n : Fin 4} {k : Nat} {v : Nat × Nat} : exL c j ((.astore_n n, x, y, [k], sw) :: is) lv (Sum.inr (Sum.inr v) :: r) μ = exL c j is ((clr lv k).set k (some (Sum.inr (Sum.inr v)))) r μ := rfl
theorem e_astore {c : Bool → Nat → List AV → Mem → Rs} {j : Nat → LV → List AV → Mem → Rs} {x : Int32} {y : Int64} {sw : List (Int32 × Nat)} {is : List AI} {lv : LV} {r : List AV} {μ : Mem} {n : Nat} {k : Nat} {v : Nat × Nat} : exL c j ((.astore n, x, y, [k], sw) :: is) lv (Sum.inr (Sum.inr v) :: r) μ = exL c j is ((clr lv k).set k (some (Sum.inr (Sum.inr v)))) r μ := rfl
theorem e_lstore_n {c : Bool → Nat → List AV → Mem → Rs} {j : Nat → LV → List AV → Mem → Rs} {x : Int32} {y : Int64} {sw : List (Int32 × Nat)} {is : List AI} {lv : LV} {r : List AV} {μ : Mem} {n : Fin 4} {k : Nat} {v : Int64} : exL c j ((.lstore_n n, x, y, [k], sw) :: is) lv (Sum.inr (Sum.inl v) :: r) μ = exL c j is (((clr lv k).set k (some (vL v))).set (k + 1) none) r μ := rfl
theorem e_lstore {c : Bool → Nat → List AV → Mem → Rs} {j : Nat → LV → List AV → Mem → Rs} {x : Int32} {y : Int64} {sw : List (Int32 × Nat)} {is : List AI} {lv : LV} {r : List AV} {μ : Mem} {n : Nat} {k : Nat} {v : Int64} : exL c j ((.lstore n, x, y, [k], sw) :: is) lv (Sum.inr (Sum.inl v) :: r) μ = exL c j is (((clr lv k).set k (some (vL v))).set (k + 1) none) r μ := rfl
theorem e_iinc {c : Bool → Nat → List AV → Mem → Rs} {j : Nat → LV → List AV → Mem → Rs} {x : Int32} {y : Int64} {sw : List (Int32 × Nat)} {is : List AI} {lv : LV} {r : List AV} {μ : Mem} {n : Nat} {z : Int} {k : Nat} : exL c j ((.iinc n z, x, y, [k], sw) :: is) lv r μ = (match lv[k]? with | some (some (Sum.inl v)) => exL c j is ((clr lv k).set k (some (vI (v + x)))) r μ | _ => none) := by
  show (opInc x [k] lv r μ).bind _ = _
  unfold opInc
  dsimp only
  rcases lv[k]? with _ | _ | v | v | v <;> rfl
theorem e_iconst {c : Bool → Nat → List AV → Mem → Rs} {j : Nat → LV → List AV → Mem → Rs} {x : Int32} {y : Int64} {d : List Nat} {sw : List (Int32 × Nat)} {is : List AI} {lv : LV} {r : List AV} {μ : Mem} {n : Int} : exL c j ((.iconst n, x, y, d, sw) :: is) lv r μ = exL c j is lv (vI x :: r) μ := rfl
theorem e_bipush {c : Bool → Nat → List AV → Mem → Rs} {j : Nat → LV → List AV → Mem → Rs} {x : Int32} {y : Int64} {d : List Nat} {sw : List (Int32 × Nat)} {is : List AI} {lv : LV} {r : List AV} {μ : Mem} {n : Int} : exL c j ((.bipush n, x, y, d, sw) :: is) lv r μ = exL c j is lv (vI x :: r) μ := rfl
theorem e_sipush {c : Bool → Nat → List AV → Mem → Rs} {j : Nat → LV → List AV → Mem → Rs} {x : Int32} {y : Int64} {d : List Nat} {sw : List (Int32 × Nat)} {is : List AI} {lv : LV} {r : List AV} {μ : Mem} {n : Int} : exL c j ((.sipush n, x, y, d, sw) :: is) lv r μ = exL c j is lv (vI x :: r) μ := rfl
theorem e_ldc_w {c : Bool → Nat → List AV → Mem → Rs} {j : Nat → LV → List AV → Mem → Rs} {x : Int32} {y : Int64} {d : List Nat} {sw : List (Int32 × Nat)} {is : List AI} {lv : LV} {r : List AV} {μ : Mem} {n : Nat} : exL c j ((.ldc_w n, x, y, d, sw) :: is) lv r μ = exL c j is lv (vI x :: r) μ := rfl
theorem e_ldc {c : Bool → Nat → List AV → Mem → Rs} {j : Nat → LV → List AV → Mem → Rs} {x : Int32} {y : Int64} {sw : List (Int32 × Nat)} {is : List AI} {lv : LV} {r : List AV} {μ : Mem} {n : Nat} : exL c j ((.ldc n, x, y, [], sw) :: is) lv r μ = exL c j is lv (vI x :: r) μ := rfl
theorem e_ldcS {c : Bool → Nat → List AV → Mem → Rs} {j : Nat → LV → List AV → Mem → Rs} {x : Int32} {y : Int64} {sw : List (Int32 × Nat)} {is : List AI} {lv : LV} {r : List AV} {μ : Mem} {n k o : Nat} : exL c j ((.ldc n, x, y, [k, o], sw) :: is) lv r μ = exL c j is lv (vR k o :: r) μ := rfl
theorem e_lconst {c : Bool → Nat → List AV → Mem → Rs} {j : Nat → LV → List AV → Mem → Rs} {x : Int32} {y : Int64} {d : List Nat} {sw : List (Int32 × Nat)} {is : List AI} {lv : LV} {r : List AV} {μ : Mem} {n : Fin 2} : exL c j ((.lconst n, x, y, d, sw) :: is) lv r μ = exL c j is lv (vL y :: r) μ := rfl
theorem e_ldc2_w {c : Bool → Nat → List AV → Mem → Rs} {j : Nat → LV → List AV → Mem → Rs} {x : Int32} {y : Int64} {d : List Nat} {sw : List (Int32 × Nat)} {is : List AI} {lv : LV} {r : List AV} {μ : Mem} {n : Nat} : exL c j ((.ldc2_w n, x, y, d, sw) :: is) lv r μ = exL c j is lv (vL y :: r) μ := rfl
theorem e_iadd {c : Bool → Nat → List AV → Mem → Rs} {j : Nat → LV → List AV → Mem → Rs} {x : Int32} {y : Int64} {d : List Nat} {sw : List (Int32 × Nat)} {is : List AI} {lv : LV} {r : List AV} {μ : Mem} {a b : Int32} : exL c j ((.iadd, x, y, d, sw) :: is) lv (Sum.inl b :: Sum.inl a :: r) μ = exL c j is lv (vI (a + b) :: r) μ := rfl
theorem e_isub {c : Bool → Nat → List AV → Mem → Rs} {j : Nat → LV → List AV → Mem → Rs} {x : Int32} {y : Int64} {d : List Nat} {sw : List (Int32 × Nat)} {is : List AI} {lv : LV} {r : List AV} {μ : Mem} {a b : Int32} : exL c j ((.isub, x, y, d, sw) :: is) lv (Sum.inl b :: Sum.inl a :: r) μ = exL c j is lv (vI (a - b) :: r) μ := rfl
theorem e_imul {c : Bool → Nat → List AV → Mem → Rs} {j : Nat → LV → List AV → Mem → Rs} {x : Int32} {y : Int64} {d : List Nat} {sw : List (Int32 × Nat)} {is : List AI} {lv : LV} {r : List AV} {μ : Mem} {a b : Int32} : exL c j ((.imul, x, y, d, sw) :: is) lv (Sum.inl b :: Sum.inl a :: r) μ = exL c j is lv (vI (a * b) :: r) μ := rfl
theorem e_iand {c : Bool → Nat → List AV → Mem → Rs} {j : Nat → LV → List AV → Mem → Rs} {x : Int32} {y : Int64} {d : List Nat} {sw : List (Int32 × Nat)} {is : List AI} {lv : LV} {r : List AV} {μ : Mem} {a b : Int32} : exL c j ((.iand, x, y, d, sw) :: is) lv (Sum.inl b :: Sum.inl a :: r) μ = exL c j is lv (vI (a &&& b) :: r) μ := rfl
theorem e_ixor {c : Bool → Nat → List AV → Mem → Rs} {j : Nat → LV → List AV → Mem → Rs} {x : Int32} {y : Int64} {d : List Nat} {sw : List (Int32 × Nat)} {is : List AI} {lv : LV} {r : List AV} {μ : Mem} {a b : Int32} : exL c j ((.ixor, x, y, d, sw) :: is) lv (Sum.inl b :: Sum.inl a :: r) μ = exL c j is lv (vI (a ^^^ b) :: r) μ := rfl
theorem e_ishl {c : Bool → Nat → List AV → Mem → Rs} {j : Nat → LV → List AV → Mem → Rs} {x : Int32} {y : Int64} {d : List Nat} {sw : List (Int32 × Nat)} {is : List AI} {lv : LV} {r : List AV} {μ : Mem} {a b : Int32} : exL c j ((.ishl, x, y, d, sw) :: is) lv (Sum.inl b :: Sum.inl a :: r) μ = exL c j is lv (vI (a <<< (b &&& 31)) :: r) μ := rfl
theorem e_ishr {c : Bool → Nat → List AV → Mem → Rs} {j : Nat → LV → List AV → Mem → Rs} {x : Int32} {y : Int64} {d : List Nat} {sw : List (Int32 × Nat)} {is : List AI} {lv : LV} {r : List AV} {μ : Mem} {a b : Int32} : exL c j ((.ishr, x, y, d, sw) :: is) lv (Sum.inl b :: Sum.inl a :: r) μ = exL c j is lv (vI (a >>> (b &&& 31)) :: r) μ := rfl
theorem e_iushr {c : Bool → Nat → List AV → Mem → Rs} {j : Nat → LV → List AV → Mem → Rs} {x : Int32} {y : Int64} {d : List Nat} {sw : List (Int32 × Nat)} {is : List AI} {lv : LV} {r : List AV} {μ : Mem} {a b : Int32} : exL c j ((.iushr, x, y, d, sw) :: is) lv (Sum.inl b :: Sum.inl a :: r) μ = exL c j is lv (vI ((a.toUInt32 >>> (b.toUInt32 &&& Int32.toUInt32 31)).toInt32) :: r) μ := rfl
theorem e_idiv {c : Bool → Nat → List AV → Mem → Rs} {j : Nat → LV → List AV → Mem → Rs} {x : Int32} {y : Int64} {d : List Nat} {sw : List (Int32 × Nat)} {is : List AI} {lv : LV} {r : List AV} {μ : Mem} {a b : Int32} : exL c j ((.idiv, x, y, d, sw) :: is) lv (Sum.inl b :: Sum.inl a :: r) μ = (if b = 0 then none else exL c j is lv (vI (a / b) :: r) μ) := by
  show (if b = 0 then none else some _ : Option (LV × List AV × Mem)).bind _ = _
  by_cases h : b = 0
  · rw [if_pos h, if_pos h]; rfl
  · rw [if_neg h, if_neg h]; rfl
theorem e_irem {c : Bool → Nat → List AV → Mem → Rs} {j : Nat → LV → List AV → Mem → Rs} {x : Int32} {y : Int64} {d : List Nat} {sw : List (Int32 × Nat)} {is : List AI} {lv : LV} {r : List AV} {μ : Mem} {a b : Int32} : exL c j ((.irem, x, y, d, sw) :: is) lv (Sum.inl b :: Sum.inl a :: r) μ = (if b = 0 then none else exL c j is lv (vI (a - a / b * b) :: r) μ) := by
  show (if b = 0 then none else some _ : Option (LV × List AV × Mem)).bind _ = _
  by_cases h : b = 0
  · rw [if_pos h, if_pos h]; rfl
  · rw [if_neg h, if_neg h]; rfl
theorem e_ineg {c : Bool → Nat → List AV → Mem → Rs} {j : Nat → LV → List AV → Mem → Rs} {x : Int32} {y : Int64} {d : List Nat} {sw : List (Int32 × Nat)} {is : List AI} {lv : LV} {r : List AV} {μ : Mem} {a : Int32} : exL c j ((.ineg, x, y, d, sw) :: is) lv (Sum.inl a :: r) μ = exL c j is lv (vI (-a) :: r) μ := rfl
theorem e_i2b {c : Bool → Nat → List AV → Mem → Rs} {j : Nat → LV → List AV → Mem → Rs} {x : Int32} {y : Int64} {d : List Nat} {sw : List (Int32 × Nat)} {is : List AI} {lv : LV} {r : List AV} {μ : Mem} {a : Int32} : exL c j ((.i2b, x, y, d, sw) :: is) lv (Sum.inl a :: r) μ = exL c j is lv (vI (a.toInt8.toInt32) :: r) μ := rfl
theorem e_i2s {c : Bool → Nat → List AV → Mem → Rs} {j : Nat → LV → List AV → Mem → Rs} {x : Int32} {y : Int64} {d : List Nat} {sw : List (Int32 × Nat)} {is : List AI} {lv : LV} {r : List AV} {μ : Mem} {a : Int32} : exL c j ((.i2s, x, y, d, sw) :: is) lv (Sum.inl a :: r) μ = exL c j is lv (vI (a.toInt16.toInt32) :: r) μ := rfl
theorem e_i2c {c : Bool → Nat → List AV → Mem → Rs} {j : Nat → LV → List AV → Mem → Rs} {x : Int32} {y : Int64} {d : List Nat} {sw : List (Int32 × Nat)} {is : List AI} {lv : LV} {r : List AV} {μ : Mem} {a : Int32} : exL c j ((.i2c, x, y, d, sw) :: is) lv (Sum.inl a :: r) μ = exL c j is lv (vI ((a.toUInt32 % 65536).toInt32) :: r) μ := rfl
theorem e_ladd {c : Bool → Nat → List AV → Mem → Rs} {j : Nat → LV → List AV → Mem → Rs} {x : Int32} {y : Int64} {d : List Nat} {sw : List (Int32 × Nat)} {is : List AI} {lv : LV} {r : List AV} {μ : Mem} {a b : Int64} : exL c j ((.ladd, x, y, d, sw) :: is) lv (Sum.inr (Sum.inl b) :: Sum.inr (Sum.inl a) :: r) μ = exL c j is lv (vL (a + b) :: r) μ := rfl
theorem e_lsub {c : Bool → Nat → List AV → Mem → Rs} {j : Nat → LV → List AV → Mem → Rs} {x : Int32} {y : Int64} {d : List Nat} {sw : List (Int32 × Nat)} {is : List AI} {lv : LV} {r : List AV} {μ : Mem} {a b : Int64} : exL c j ((.lsub, x, y, d, sw) :: is) lv (Sum.inr (Sum.inl b) :: Sum.inr (Sum.inl a) :: r) μ = exL c j is lv (vL (a - b) :: r) μ := rfl
theorem e_lmul {c : Bool → Nat → List AV → Mem → Rs} {j : Nat → LV → List AV → Mem → Rs} {x : Int32} {y : Int64} {d : List Nat} {sw : List (Int32 × Nat)} {is : List AI} {lv : LV} {r : List AV} {μ : Mem} {a b : Int64} : exL c j ((.lmul, x, y, d, sw) :: is) lv (Sum.inr (Sum.inl b) :: Sum.inr (Sum.inl a) :: r) μ = exL c j is lv (vL (a * b) :: r) μ := rfl
theorem e_land {c : Bool → Nat → List AV → Mem → Rs} {j : Nat → LV → List AV → Mem → Rs} {x : Int32} {y : Int64} {d : List Nat} {sw : List (Int32 × Nat)} {is : List AI} {lv : LV} {r : List AV} {μ : Mem} {a b : Int64} : exL c j ((.land, x, y, d, sw) :: is) lv (Sum.inr (Sum.inl b) :: Sum.inr (Sum.inl a) :: r) μ = exL c j is lv (vL (a &&& b) :: r) μ := rfl
theorem e_lor {c : Bool → Nat → List AV → Mem → Rs} {j : Nat → LV → List AV → Mem → Rs} {x : Int32} {y : Int64} {d : List Nat} {sw : List (Int32 × Nat)} {is : List AI} {lv : LV} {r : List AV} {μ : Mem} {a b : Int64} : exL c j ((.lor, x, y, d, sw) :: is) lv (Sum.inr (Sum.inl b) :: Sum.inr (Sum.inl a) :: r) μ = exL c j is lv (vL (a ||| b) :: r) μ := rfl
theorem e_ldiv {c : Bool → Nat → List AV → Mem → Rs} {j : Nat → LV → List AV → Mem → Rs} {x : Int32} {y : Int64} {d : List Nat} {sw : List (Int32 × Nat)} {is : List AI} {lv : LV} {r : List AV} {μ : Mem} {a b : Int64} : exL c j ((.ldiv, x, y, d, sw) :: is) lv (Sum.inr (Sum.inl b) :: Sum.inr (Sum.inl a) :: r) μ = (if b = 0 then none else exL c j is lv (vL (a / b) :: r) μ) := by
  show (if b = 0 then none else some _ : Option (LV × List AV × Mem)).bind _ = _
  by_cases h : b = 0
  · rw [if_pos h, if_pos h]; rfl
  · rw [if_neg h, if_neg h]; rfl
theorem e_lrem {c : Bool → Nat → List AV → Mem → Rs} {j : Nat → LV → List AV → Mem → Rs} {x : Int32} {y : Int64} {d : List Nat} {sw : List (Int32 × Nat)} {is : List AI} {lv : LV} {r : List AV} {μ : Mem} {a b : Int64} : exL c j ((.lrem, x, y, d, sw) :: is) lv (Sum.inr (Sum.inl b) :: Sum.inr (Sum.inl a) :: r) μ = (if b = 0 then none else exL c j is lv (vL (a - a / b * b) :: r) μ) := by
  show (if b = 0 then none else some _ : Option (LV × List AV × Mem)).bind _ = _
  by_cases h : b = 0
  · rw [if_pos h, if_pos h]; rfl
  · rw [if_neg h, if_neg h]; rfl
theorem e_lneg {c : Bool → Nat → List AV → Mem → Rs} {j : Nat → LV → List AV → Mem → Rs} {x : Int32} {y : Int64} {d : List Nat} {sw : List (Int32 × Nat)} {is : List AI} {lv : LV} {r : List AV} {μ : Mem} {a : Int64} : exL c j ((.lneg, x, y, d, sw) :: is) lv (Sum.inr (Sum.inl a) :: r) μ = exL c j is lv (vL (-a) :: r) μ := rfl
theorem e_lshl {c : Bool → Nat → List AV → Mem → Rs} {j : Nat → LV → List AV → Mem → Rs} {x : Int32} {y : Int64} {d : List Nat} {sw : List (Int32 × Nat)} {is : List AI} {lv : LV} {r : List AV} {μ : Mem} {a : Int64} {b : Int32} : exL c j ((.lshl, x, y, d, sw) :: is) lv (Sum.inl b :: Sum.inr (Sum.inl a) :: r) μ = exL c j is lv (vL (a <<< (b.toInt64 &&& 63)) :: r) μ := rfl
theorem e_lshr {c : Bool → Nat → List AV → Mem → Rs} {j : Nat → LV → List AV → Mem → Rs} {x : Int32} {y : Int64} {d : List Nat} {sw : List (Int32 × Nat)} {is : List AI} {lv : LV} {r : List AV} {μ : Mem} {a : Int64} {b : Int32} : exL c j ((.lshr, x, y, d, sw) :: is) lv (Sum.inl b :: Sum.inr (Sum.inl a) :: r) μ = exL c j is lv (vL (a >>> (b.toInt64 &&& 63)) :: r) μ := rfl
theorem e_lushr {c : Bool → Nat → List AV → Mem → Rs} {j : Nat → LV → List AV → Mem → Rs} {x : Int32} {y : Int64} {d : List Nat} {sw : List (Int32 × Nat)} {is : List AI} {lv : LV} {r : List AV} {μ : Mem} {a : Int64} {b : Int32} : exL c j ((.lushr, x, y, d, sw) :: is) lv (Sum.inl b :: Sum.inr (Sum.inl a) :: r) μ = exL c j is lv (vL ((a.toUInt64 >>> (b.toInt64.toUInt64 &&& Int64.toUInt64 63)).toInt64) :: r) μ := rfl
theorem e_i2l {c : Bool → Nat → List AV → Mem → Rs} {j : Nat → LV → List AV → Mem → Rs} {x : Int32} {y : Int64} {d : List Nat} {sw : List (Int32 × Nat)} {is : List AI} {lv : LV} {r : List AV} {μ : Mem} {a : Int32} : exL c j ((.i2l, x, y, d, sw) :: is) lv (Sum.inl a :: r) μ = exL c j is lv (vL a.toInt64 :: r) μ := rfl
theorem e_l2i {c : Bool → Nat → List AV → Mem → Rs} {j : Nat → LV → List AV → Mem → Rs} {x : Int32} {y : Int64} {d : List Nat} {sw : List (Int32 × Nat)} {is : List AI} {lv : LV} {r : List AV} {μ : Mem} {a : Int64} : exL c j ((.l2i, x, y, d, sw) :: is) lv (Sum.inr (Sum.inl a) :: r) μ = exL c j is lv (vI a.toInt32 :: r) μ := rfl
theorem e_lcmp {c : Bool → Nat → List AV → Mem → Rs} {j : Nat → LV → List AV → Mem → Rs} {x : Int32} {y : Int64} {d : List Nat} {sw : List (Int32 × Nat)} {is : List AI} {lv : LV} {r : List AV} {μ : Mem} {a b : Int64} : exL c j ((.lcmp, x, y, d, sw) :: is) lv (Sum.inr (Sum.inl b) :: Sum.inr (Sum.inl a) :: r) μ = exL c j is lv (vI (lg_cmp a b) :: r) μ := rfl
theorem e_dupI {c : Bool → Nat → List AV → Mem → Rs} {j : Nat → LV → List AV → Mem → Rs} {x : Int32} {y : Int64} {d : List Nat} {sw : List (Int32 × Nat)} {is : List AI} {lv : LV} {r : List AV} {μ : Mem} {a : Int32} : exL c j ((.dup, x, y, d, sw) :: is) lv (Sum.inl a :: r) μ = exL c j is lv (vI a :: vI a :: r) μ := rfl
theorem e_dupA {c : Bool → Nat → List AV → Mem → Rs} {j : Nat → LV → List AV → Mem → Rs} {x : Int32} {y : Int64} {d : List Nat} {sw : List (Int32 × Nat)} {is : List AI} {lv : LV} {r : List AV} {μ : Mem} {a : Nat × Nat} : exL c j ((.dup, x, y, d, sw) :: is) lv (Sum.inr (Sum.inr a) :: r) μ = exL c j is lv (Sum.inr (Sum.inr a) :: Sum.inr (Sum.inr a) :: r) μ := rfl
theorem e_dup2 {c : Bool → Nat → List AV → Mem → Rs} {j : Nat → LV → List AV → Mem → Rs} {x : Int32} {y : Int64} {d : List Nat} {sw : List (Int32 × Nat)} {is : List AI} {lv : LV} {r : List AV} {μ : Mem} {a : Int32} {b : Nat × Nat} : exL c j ((.dup2, x, y, d, sw) :: is) lv (Sum.inl a :: Sum.inr (Sum.inr b) :: r) μ = exL c j is lv (vI a :: Sum.inr (Sum.inr b) :: vI a :: Sum.inr (Sum.inr b) :: r) μ := rfl
theorem e_getI {c : Bool → Nat → List AV → Mem → Rs} {j : Nat → LV → List AV → Mem → Rs} {x : Int32} {y : Int64} {sw : List (Int32 × Nat)} {is : List AI} {lv : LV} {r : List AV} {μ : Mem} {n k f o : Nat} : exL c j ((.getfield n, x, y, [k, f], sw) :: is) lv (Sum.inr (Sum.inr (k, o)) :: r) μ = exL c j is lv (vI (μ o f) :: r) μ := by
  show (if k = k then some _ else none : Option (LV × List AV × Mem)).bind _ = _
  rw [if_pos rfl]; rfl
theorem e_getA {c : Bool → Nat → List AV → Mem → Rs} {j : Nat → LV → List AV → Mem → Rs} {x : Int32} {y : Int64} {sw : List (Int32 × Nat)} {is : List AI} {lv : LV} {r : List AV} {μ : Mem} {n k f o k2 dl : Nat} : exL c j ((.getfield n, x, y, [k, f, k2, dl], sw) :: is) lv (Sum.inr (Sum.inr (k, o)) :: r) μ = exL c j is lv (vR k2 (o + dl) :: r) μ := by
  show (if k = k then some _ else none : Option (LV × List AV × Mem)).bind _ = _
  rw [if_pos rfl]; rfl
theorem e_putI {c : Bool → Nat → List AV → Mem → Rs} {j : Nat → LV → List AV → Mem → Rs} {x : Int32} {y : Int64} {sw : List (Int32 × Nat)} {is : List AI} {lv : LV} {r : List AV} {μ : Mem} {n k f o : Nat} {v : Int32} : exL c j ((.putfield n, x, y, [k, f], sw) :: is) lv (Sum.inl v :: Sum.inr (Sum.inr (k, o)) :: r) μ = exL c j is lv r (up μ o f v) := by
  show (if k = k then some _ else none : Option (LV × List AV × Mem)).bind _ = _
  rw [if_pos rfl]; rfl
theorem e_putZ {c : Bool → Nat → List AV → Mem → Rs} {j : Nat → LV → List AV → Mem → Rs} {x : Int32} {y : Int64} {sw : List (Int32 × Nat)} {is : List AI} {lv : LV} {r : List AV} {μ : Mem} {n k f o z : Nat} {v : Int32} : exL c j ((.putfield n, x, y, [k, f, z], sw) :: is) lv (Sum.inl v :: Sum.inr (Sum.inr (k, o)) :: r) μ = (if v = 0 ∨ v = 1 then exL c j is lv r (up μ o f v) else none) := by
  show (if k = k ∧ (v = 0 ∨ v = 1) then some _ else none : Option (LV × List AV × Mem)).bind _ = _
  by_cases h : v = 0 ∨ v = 1
  · rw [if_pos h, if_pos ⟨rfl, h⟩]; rfl
  · rw [if_neg h, if_neg (fun q => h q.2)]; rfl
theorem e_getstatic {c : Bool → Nat → List AV → Mem → Rs} {j : Nat → LV → List AV → Mem → Rs} {x : Int32} {y : Int64} {sw : List (Int32 × Nat)} {is : List AI} {lv : LV} {r : List AV} {μ : Mem} {n k o : Nat} : exL c j ((.getstatic n, x, y, [k, o], sw) :: is) lv r μ = exL c j is lv (vR k o :: r) μ := rfl
def aLen (k : Nat) : Nat := if k < 1000 then k - 100 else k - 1000
theorem e_iaload {c : Bool → Nat → List AV → Mem → Rs} {j : Nat → LV → List AV → Mem → Rs} {x : Int32} {y : Int64} {d : List Nat} {sw : List (Int32 × Nat)} {is : List AI} {lv : LV} {r : List AV} {μ : Mem} {i : Int32} {k o : Nat} (hk : 100 ≤ k) : exL c j ((.iaload, x, y, d, sw) :: is) lv (Sum.inl i :: Sum.inr (Sum.inr (k, o)) :: r) μ = (if 0 ≤ i.toInt ∧ i.toInt < (aLen k : Int) then exL c j is lv (vI (μ o (ix i)) :: r) μ else none) := by
  show (opLd lv (Sum.inl i :: Sum.inr (Sum.inr (k, o)) :: r) μ).bind _ = _
  unfold opLd aLen
  dsimp only
  by_cases h : k < 1000
  · rw [if_pos h]
    by_cases h2 : 0 ≤ i.toInt ∧ i.toInt < ((k - 100 : Nat) : Int)
    · rw [if_pos ⟨⟨hk, h⟩, h2⟩, if_pos h2]; rfl
    · rw [if_neg (fun q => h2 q.2), if_neg (fun q => absurd q.1 (by omega)), if_neg h2]; rfl
  · rw [if_neg h, if_neg (fun q => h q.1.2)]
    by_cases h2 : 0 ≤ i.toInt ∧ i.toInt < ((k - 1000 : Nat) : Int)
    · rw [if_pos ⟨by omega, h2⟩, if_pos h2]; rfl
    · rw [if_neg (fun q => h2 q.2), if_neg h2]; rfl
theorem e_iastore {c : Bool → Nat → List AV → Mem → Rs} {j : Nat → LV → List AV → Mem → Rs} {x : Int32} {y : Int64} {d : List Nat} {sw : List (Int32 × Nat)} {is : List AI} {lv : LV} {r : List AV} {μ : Mem} {i v : Int32} {k o : Nat} (hk : 100 ≤ k ∧ k < 1000) : exL c j ((.iastore, x, y, d, sw) :: is) lv (Sum.inl v :: Sum.inl i :: Sum.inr (Sum.inr (k, o)) :: r) μ = (if 0 ≤ i.toInt ∧ i.toInt < (aLen k : Int) then exL c j is lv r (up μ o (ix i) v) else none) := by
  show (opSt lv (Sum.inl v :: Sum.inl i :: Sum.inr (Sum.inr (k, o)) :: r) μ).bind _ = _
  unfold opSt aLen
  dsimp only
  rw [if_pos hk.2]
  by_cases h2 : 0 ≤ i.toInt ∧ i.toInt < ((k - 100 : Nat) : Int)
  · rw [if_pos ⟨hk, h2⟩, if_pos h2]; rfl
  · rw [if_neg (fun q => h2 q.2), if_neg h2]; rfl
theorem e_aaload10 {c : Bool → Nat → List AV → Mem → Rs} {j : Nat → LV → List AV → Mem → Rs} {x : Int32} {y : Int64} {d : List Nat} {sw : List (Int32 × Nat)} {is : List AI} {lv : LV} {r : List AV} {μ : Mem} {i : Int32} {o : Nat} : exL c j ((.aaload, x, y, d, sw) :: is) lv (Sum.inl i :: Sum.inr (Sum.inr (10, o)) :: r) μ = (if 0 ≤ i.toInt ∧ i.toInt < (2 : Int) then exL c j is lv (vR 0 (o + 23 + 3 * ix i) :: r) μ else none) := by
  show (if 0 ≤ i.toInt ∧ i.toInt < ((2 : Nat) : Int) then some _ else none : Option (LV × List AV × Mem)).bind _ = _
  rw [show ((2 : Nat) : Int) = 2 from rfl]
  by_cases h : 0 ≤ i.toInt ∧ i.toInt < (2 : Int)
  · rw [if_pos h, if_pos h]; rfl
  · rw [if_neg h, if_neg h]; rfl
theorem e_alen10 {c : Bool → Nat → List AV → Mem → Rs} {j : Nat → LV → List AV → Mem → Rs} {x : Int32} {y : Int64} {d : List Nat} {sw : List (Int32 × Nat)} {is : List AI} {lv : LV} {r : List AV} {μ : Mem} {o : Nat} : exL c j ((.arraylength, x, y, d, sw) :: is) lv (Sum.inr (Sum.inr (10, o)) :: r) μ = exL c j is lv (vI 2 :: r) μ := rfl
theorem e_aaload11 {c : Bool → Nat → List AV → Mem → Rs} {j : Nat → LV → List AV → Mem → Rs} {x : Int32} {y : Int64} {d : List Nat} {sw : List (Int32 × Nat)} {is : List AI} {lv : LV} {r : List AV} {μ : Mem} {i : Int32} {o : Nat} : exL c j ((.aaload, x, y, d, sw) :: is) lv (Sum.inl i :: Sum.inr (Sum.inr (11, o)) :: r) μ = (if 0 ≤ i.toInt ∧ i.toInt < (8 : Int) then exL c j is lv (vR 2 (o + 16 + 1 * ix i) :: r) μ else none) := by
  show (if 0 ≤ i.toInt ∧ i.toInt < ((8 : Nat) : Int) then some _ else none : Option (LV × List AV × Mem)).bind _ = _
  rw [show ((8 : Nat) : Int) = 8 from rfl]
  by_cases h : 0 ≤ i.toInt ∧ i.toInt < (8 : Int)
  · rw [if_pos h, if_pos h]; rfl
  · rw [if_neg h, if_neg h]; rfl
theorem e_alen11 {c : Bool → Nat → List AV → Mem → Rs} {j : Nat → LV → List AV → Mem → Rs} {x : Int32} {y : Int64} {d : List Nat} {sw : List (Int32 × Nat)} {is : List AI} {lv : LV} {r : List AV} {μ : Mem} {o : Nat} : exL c j ((.arraylength, x, y, d, sw) :: is) lv (Sum.inr (Sum.inr (11, o)) :: r) μ = exL c j is lv (vI 8 :: r) μ := rfl
theorem e_aaload12 {c : Bool → Nat → List AV → Mem → Rs} {j : Nat → LV → List AV → Mem → Rs} {x : Int32} {y : Int64} {d : List Nat} {sw : List (Int32 × Nat)} {is : List AI} {lv : LV} {r : List AV} {μ : Mem} {i : Int32} {o : Nat} : exL c j ((.aaload, x, y, d, sw) :: is) lv (Sum.inl i :: Sum.inr (Sum.inr (12, o)) :: r) μ = (if 0 ≤ i.toInt ∧ i.toInt < (4 : Int) then exL c j is lv (vR 3 (o + 2 + 2 * ix i) :: r) μ else none) := by
  show (if 0 ≤ i.toInt ∧ i.toInt < ((4 : Nat) : Int) then some _ else none : Option (LV × List AV × Mem)).bind _ = _
  rw [show ((4 : Nat) : Int) = 4 from rfl]
  by_cases h : 0 ≤ i.toInt ∧ i.toInt < (4 : Int)
  · rw [if_pos h, if_pos h]; rfl
  · rw [if_neg h, if_neg h]; rfl
theorem e_alen12 {c : Bool → Nat → List AV → Mem → Rs} {j : Nat → LV → List AV → Mem → Rs} {x : Int32} {y : Int64} {d : List Nat} {sw : List (Int32 × Nat)} {is : List AI} {lv : LV} {r : List AV} {μ : Mem} {o : Nat} : exL c j ((.arraylength, x, y, d, sw) :: is) lv (Sum.inr (Sum.inr (12, o)) :: r) μ = exL c j is lv (vI 4 :: r) μ := rfl
theorem e_aaload13 {c : Bool → Nat → List AV → Mem → Rs} {j : Nat → LV → List AV → Mem → Rs} {x : Int32} {y : Int64} {d : List Nat} {sw : List (Int32 × Nat)} {is : List AI} {lv : LV} {r : List AV} {μ : Mem} {i : Int32} {o : Nat} : exL c j ((.aaload, x, y, d, sw) :: is) lv (Sum.inl i :: Sum.inr (Sum.inr (13, o)) :: r) μ = (if 0 ≤ i.toInt ∧ i.toInt < (4 : Int) then exL c j is lv (vR 5 (o + 5 + 3 * ix i) :: r) μ else none) := by
  show (if 0 ≤ i.toInt ∧ i.toInt < ((4 : Nat) : Int) then some _ else none : Option (LV × List AV × Mem)).bind _ = _
  rw [show ((4 : Nat) : Int) = 4 from rfl]
  by_cases h : 0 ≤ i.toInt ∧ i.toInt < (4 : Int)
  · rw [if_pos h, if_pos h]; rfl
  · rw [if_neg h, if_neg h]; rfl
theorem e_alen13 {c : Bool → Nat → List AV → Mem → Rs} {j : Nat → LV → List AV → Mem → Rs} {x : Int32} {y : Int64} {d : List Nat} {sw : List (Int32 × Nat)} {is : List AI} {lv : LV} {r : List AV} {μ : Mem} {o : Nat} : exL c j ((.arraylength, x, y, d, sw) :: is) lv (Sum.inr (Sum.inr (13, o)) :: r) μ = exL c j is lv (vI 4 :: r) μ := rfl
theorem e_alen {c : Bool → Nat → List AV → Mem → Rs} {j : Nat → LV → List AV → Mem → Rs} {x : Int32} {y : Int64} {d : List Nat} {sw : List (Int32 × Nat)} {is : List AI} {lv : LV} {r : List AV} {μ : Mem} {k o : Nat} (hk : 100 ≤ k) : exL c j ((.arraylength, x, y, d, sw) :: is) lv (Sum.inr (Sum.inr (k, o)) :: r) μ = exL c j is lv (vI (nI (aLen k)) :: r) μ := by
  show (opLen lv (Sum.inr (Sum.inr (k, o)) :: r) μ).bind _ = _
  have e : elm k = none := by unfold elm; rw [if_neg (by omega), if_neg (by omega), if_neg (by omega), if_neg (by omega)]
  unfold opLen aLen
  dsimp only
  rw [e]
  dsimp only
  by_cases h : k < 1000
  · rw [if_pos h, if_pos ⟨hk, h⟩]; rfl
  · rw [if_neg h, if_neg (fun q => h q.2), if_pos (by omega)]; rfl
theorem e_invokevirtual {c : Bool → Nat → List AV → Mem → Rs} {j : Nat → LV → List AV → Mem → Rs} {x : Int32} {y : Int64} {sw : List (Int32 × Nat)} {is : List AI} {lv : LV} {r : List AV} {μ : Mem} {n z m k rc : Nat} : exL c j ((.invokevirtual n, x, y, [z, m, k, rc], sw) :: is) lv r μ = (if okS k r = true ∧ rcv z (tkA k r []) = true then (match c (rc == 1) m (tkA k r []) μ with | some (v, μ') => exL c j is lv (pushR v (drA k r)) μ' | none => none) else none) := by
  show (inv c [z, m, k, rc] r μ).bind _ = _
  unfold inv
  dsimp only
  by_cases h : okS k r = true ∧ rcv z (tkA k r []) = true
  · rw [if_pos h, if_pos h]
    cases c (rc == 1) m (tkA k r []) μ <;> rfl
  · rw [if_neg h, if_neg h]; rfl
theorem e_invokevirtualB {c : Bool → Nat → List AV → Mem → Rs} {j : Nat → LV → List AV → Mem → Rs} {x : Int32} {y : Int64} {sw : List (Int32 × Nat)} {is : List AI} {lv : LV} {r : List AV} {μ : Mem} {n z b : Nat} : exL c j ((.invokevirtual n, x, y, [z, b], sw) :: is) lv r μ = (if catOK 10 r = true then (match bui b r μ with | some (r', μ') => exL c j is lv r' μ' | none => none) else none) := by
  show (if catOK 10 r = true then bui b r μ else none : Option (List AV × Mem)).bind _ = _
  by_cases h : catOK 10 r = true
  · rw [if_pos h, if_pos h]
    cases bui b r μ <;> rfl
  · rw [if_neg h, if_neg h]; rfl
theorem e_invokestatic {c : Bool → Nat → List AV → Mem → Rs} {j : Nat → LV → List AV → Mem → Rs} {x : Int32} {y : Int64} {sw : List (Int32 × Nat)} {is : List AI} {lv : LV} {r : List AV} {μ : Mem} {n z m k rc : Nat} : exL c j ((.invokestatic n, x, y, [z, m, k, rc], sw) :: is) lv r μ = (if okS k r = true ∧ rcv z (tkA k r []) = true then (match c (rc == 1) m (tkA k r []) μ with | some (v, μ') => exL c j is lv (pushR v (drA k r)) μ' | none => none) else none) := by
  show (inv c [z, m, k, rc] r μ).bind _ = _
  unfold inv
  dsimp only
  by_cases h : okS k r = true ∧ rcv z (tkA k r []) = true
  · rw [if_pos h, if_pos h]
    cases c (rc == 1) m (tkA k r []) μ <;> rfl
  · rw [if_neg h, if_neg h]; rfl
theorem e_invokestaticB {c : Bool → Nat → List AV → Mem → Rs} {j : Nat → LV → List AV → Mem → Rs} {x : Int32} {y : Int64} {sw : List (Int32 × Nat)} {is : List AI} {lv : LV} {r : List AV} {μ : Mem} {n z b : Nat} : exL c j ((.invokestatic n, x, y, [z, b], sw) :: is) lv r μ = (if catOK 10 r = true then (match bui b r μ with | some (r', μ') => exL c j is lv r' μ' | none => none) else none) := by
  show (if catOK 10 r = true then bui b r μ else none : Option (List AV × Mem)).bind _ = _
  by_cases h : catOK 10 r = true
  · rw [if_pos h, if_pos h]
    cases bui b r μ <;> rfl
  · rw [if_neg h, if_neg h]; rfl
theorem ct_0 {n : Nat} : catOK n [] = true := by cases n <;> rfl
theorem ct_i {n : Nat} {v : Int32} {r : List AV} : catOK (n + 1) (Sum.inl v :: r) = catOK n r := rfl
theorem ct_a {n : Nat} {v : Nat × Nat} {r : List AV} : catOK (n + 1) (Sum.inr (Sum.inr v) :: r) = catOK n r := rfl
theorem ct_l {n : Nat} {v : Int64} {r : List AV} : catOK (n + 2) (Sum.inr (Sum.inl v) :: r) = catOK n r := rfl
theorem os_0 {st : List AV} : okS 0 st = catOK 8 st := by cases st <;> rfl
theorem os_s {n : Nat} {v : AV} {r : List AV} : okS (n + 1) (v :: r) = okS n r := rfl
theorem rc_0 {r : List AV} : rcv 0 r = true := by cases r <;> rfl
theorem rc_s {z k o : Nat} {r : List AV} : rcv (z + 1) (Sum.inr (Sum.inr (k, o)) :: r) = (k == z) := rfl
theorem sl_0 : slA [] = 0 := rfl
theorem sl_i {v : Int32} {r : List AV} : slA (Sum.inl v :: r) = slA r + 1 := rfl
theorem sl_a {v : Nat × Nat} {r : List AV} : slA (Sum.inr (Sum.inr v) :: r) = slA r + 1 := rfl
theorem sl_l {v : Int64} {r : List AV} : slA (Sum.inr (Sum.inl v) :: r) = slA r + 2 := rfl
theorem b_max {x y : Int32} {r : List AV} {μ : Mem} : bui 1 (Sum.inl y :: Sum.inl x :: r) μ = some (vI (if x < y then y else x) :: r, μ) := rfl
theorem b_min {x y : Int32} {r : List AV} {μ : Mem} : bui 2 (Sum.inl y :: Sum.inl x :: r) μ = some (vI (if y < x then y else x) :: r, μ) := rfl
theorem b_minL {x y : Int64} {r : List AV} {μ : Mem} : bui 3 (Sum.inr (Sum.inl y) :: Sum.inr (Sum.inl x) :: r) μ = some (vL (if y < x then y else x) :: r, μ) := rfl
theorem b_absL {x : Int64} {r : List AV} {μ : Mem} : bui 4 (Sum.inr (Sum.inl x) :: r) μ = some (vL (if 0 < x then x else -x) :: r, μ) := rfl
theorem b_ixD {c : Int32} {o : Nat} {r : List AV} {μ : Mem} : bui 7 (Sum.inl c :: Sum.inr (Sum.inr (14, o)) :: r) μ = some (vI (ixD c) :: r, μ) := rfl
theorem b_ixH {c : Int32} {o : Nat} {r : List AV} {μ : Mem} : bui 7 (Sum.inl c :: Sum.inr (Sum.inr (15, o)) :: r) μ = some (vI (ixH c) :: r, μ) := rfl
theorem b_copy {n dp sp : Int32} {k1 k2 o1 o2 : Nat} {r : List AV} {μ : Mem} (h1 : 100 ≤ k1 ∧ k1 < 1000) (h2 : 100 ≤ k2 ∧ k2 < 1000) : bui 5 (Sum.inl n :: Sum.inl dp :: Sum.inr (Sum.inr (k2, o2)) :: Sum.inl sp :: Sum.inr (Sum.inr (k1, o1)) :: r) μ = if (0 ≤ sp.toInt ∧ 0 ≤ dp.toInt ∧ 0 ≤ n.toInt) ∧ (sp.toInt + n.toInt ≤ (aLen k1 : Int) ∧ dp.toInt + n.toInt ≤ (aLen k2 : Int)) then some (r, cpy μ o1 (ix sp) o2 (ix dp) (ix n)) else none := by
  show (if ((100 ≤ k1 ∧ k1 < 1000) ∧ (100 ≤ k2 ∧ k2 < 1000)) ∧ (0 ≤ sp.toInt ∧ 0 ≤ dp.toInt ∧ 0 ≤ n.toInt) ∧ (sp.toInt + n.toInt ≤ ((k1 - 100 : Nat) : Int) ∧ dp.toInt + n.toInt ≤ ((k2 - 100 : Nat) : Int)) then some (r, cpy μ o1 (ix sp) o2 (ix dp) (ix n)) else none) = _
  have e1 : aLen k1 = k1 - 100 := if_pos h1.2
  have e2 : aLen k2 = k2 - 100 := if_pos h2.2
  rw [e1, e2]
  by_cases h : (0 ≤ sp.toInt ∧ 0 ≤ dp.toInt ∧ 0 ≤ n.toInt) ∧ (sp.toInt + n.toInt ≤ ((k1 - 100 : Nat) : Int) ∧ dp.toInt + n.toInt ≤ ((k2 - 100 : Nat) : Int))
  · rw [if_pos h, if_pos ⟨⟨h1, h2⟩, h⟩]
  · rw [if_neg h, if_neg (fun q => h q.2)]
theorem tk_0 {st acc : List AV} : tkA 0 st acc = acc := by cases st <;> rfl
theorem tk_s {n : Nat} {v : AV} {r acc : List AV} : tkA (n + 1) (v :: r) acc = tkA n r (v :: acc) := rfl
theorem dr_0 {st : List AV} : drA 0 st = st := by cases st <;> rfl
theorem dr_s {n : Nat} {v : AV} {r : List AV} : drA (n + 1) (v :: r) = drA n r := rfl
theorem pu_s {v : AV} {st : List AV} : pushR (some v) st = v :: st := rfl
theorem pu_n {st : List AV} : pushR none st = st := rfl
theorem ca_0 {d m : Nat} {as : List AV} {μ : Mem} : ca d (0 == 1) m as μ = cl d m as μ := rfl
theorem ca_f {d m : Nat} {as : List AV} {μ : Mem} : ca d false m as μ = cl d m as μ := rfl
theorem ca_t {d m : Nat} {as : List AV} {μ : Mem} : ca (d + 1) true m as μ = cl d m as μ := rfl
theorem z_ite {c : Prop} [Decidable c] : ((if c then (1 : Int32) else 0) = 0) = ¬ c := by by_cases h : c <;> simp [h]
theorem z_iten {c : Prop} [Decidable c] : ((if c then (0 : Int32) else 1) = 0) = c := by by_cases h : c <;> simp [h]
theorem z_ite1 {c : Prop} [Decidable c] : ((if c then (1 : Int32) else 0) = 1) = c := by by_cases h : c <;> simp [h]
theorem ca_1 {d m : Nat} {as : List AV} {μ : Mem} : ca (d + 1) (1 == 1) m as μ = cl d m as μ := rfl
theorem len_s {v : AV} {r : List AV} : (v :: r).length = r.length + 1 := rfl
theorem clr_0 {lv : LV} : clr lv 0 = lv := rfl
theorem clr_s {lv : LV} {k : Nat} : clr lv (k + 1) = (match lv[k]? with | some (some (Sum.inr (Sum.inl _))) => lv.set k none | _ => lv) := rfl
theorem e_nop {c : Bool → Nat → List AV → Mem → Rs} {j : Nat → LV → List AV → Mem → Rs} {x : Int32} {y : Int64} {sw : List (Int32 × Nat)} {is : List AI} {lv : LV} {r : List AV} {μ : Mem} {t : Nat} : exL c j ((.nop, x, y, [t], sw) :: is) lv r μ = j t lv r μ := rfl
theorem e_goto {c : Bool → Nat → List AV → Mem → Rs} {j : Nat → LV → List AV → Mem → Rs} {x : Int32} {y : Int64} {sw : List (Int32 × Nat)} {is : List AI} {lv : LV} {r : List AV} {μ : Mem} {n : Int} {t : Nat} : exL c j ((.goto n, x, y, [t], sw) :: is) lv r μ = j t lv r μ := rfl
theorem e_if_eq {c : Bool → Nat → List AV → Mem → Rs} {j : Nat → LV → List AV → Mem → Rs} {x : Int32} {y : Int64} {sw : List (Int32 × Nat)} {is : List AI} {lv : LV} {r : List AV} {μ : Mem} {n : Int} {t f : Nat} {a : Int32} : exL c j ((.ifCond .eq n, x, y, [t, f], sw) :: is) lv (Sum.inl a :: r) μ = (if a = 0 then j t lv r μ else j f lv r μ) := by
  show (if cmpB .eq a 0 = true then j t lv r μ else j f lv r μ) = _
  by_cases h : a = 0
  · rw [if_pos h, if_pos (show cmpB .eq a 0 = true from decide_eq_true h)]
  · rw [if_neg h, if_neg (show ¬ cmpB .eq a 0 = true from fun q => h (of_decide_eq_true q))]
theorem e_if_ne {c : Bool → Nat → List AV → Mem → Rs} {j : Nat → LV → List AV → Mem → Rs} {x : Int32} {y : Int64} {sw : List (Int32 × Nat)} {is : List AI} {lv : LV} {r : List AV} {μ : Mem} {n : Int} {t f : Nat} {a : Int32} : exL c j ((.ifCond .ne n, x, y, [t, f], sw) :: is) lv (Sum.inl a :: r) μ = (if a = 0 then j f lv r μ else j t lv r μ) := by
  show (if cmpB .ne a 0 = true then j t lv r μ else j f lv r μ) = _
  by_cases h : a = 0
  · rw [if_pos h, if_neg (show ¬ cmpB .ne a 0 = true from fun q => (of_decide_eq_true q : ¬ _) h)]
  · rw [if_neg h, if_pos (show cmpB .ne a 0 = true from decide_eq_true h)]
theorem e_if_lt {c : Bool → Nat → List AV → Mem → Rs} {j : Nat → LV → List AV → Mem → Rs} {x : Int32} {y : Int64} {sw : List (Int32 × Nat)} {is : List AI} {lv : LV} {r : List AV} {μ : Mem} {n : Int} {t f : Nat} {a : Int32} : exL c j ((.ifCond .lt n, x, y, [t, f], sw) :: is) lv (Sum.inl a :: r) μ = (if a < 0 then j t lv r μ else j f lv r μ) := by
  show (if cmpB .lt a 0 = true then j t lv r μ else j f lv r μ) = _
  by_cases h : a < 0
  · rw [if_pos h, if_pos (show cmpB .lt a 0 = true from decide_eq_true h)]
  · rw [if_neg h, if_neg (show ¬ cmpB .lt a 0 = true from fun q => h (of_decide_eq_true q))]
theorem e_if_ge {c : Bool → Nat → List AV → Mem → Rs} {j : Nat → LV → List AV → Mem → Rs} {x : Int32} {y : Int64} {sw : List (Int32 × Nat)} {is : List AI} {lv : LV} {r : List AV} {μ : Mem} {n : Int} {t f : Nat} {a : Int32} : exL c j ((.ifCond .ge n, x, y, [t, f], sw) :: is) lv (Sum.inl a :: r) μ = (if a < 0 then j f lv r μ else j t lv r μ) := by
  show (if cmpB .ge a 0 = true then j t lv r μ else j f lv r μ) = _
  by_cases h : a < 0
  · rw [if_pos h, if_neg (show ¬ cmpB .ge a 0 = true from fun q => absurd h (Int32.not_lt.mpr (of_decide_eq_true q)))]
  · rw [if_neg h, if_pos (show cmpB .ge a 0 = true from decide_eq_true (Int32.not_lt.mp h))]
theorem e_if_gt {c : Bool → Nat → List AV → Mem → Rs} {j : Nat → LV → List AV → Mem → Rs} {x : Int32} {y : Int64} {sw : List (Int32 × Nat)} {is : List AI} {lv : LV} {r : List AV} {μ : Mem} {n : Int} {t f : Nat} {a : Int32} : exL c j ((.ifCond .gt n, x, y, [t, f], sw) :: is) lv (Sum.inl a :: r) μ = (if 0 < a then j t lv r μ else j f lv r μ) := by
  show (if cmpB .gt a 0 = true then j t lv r μ else j f lv r μ) = _
  by_cases h : 0 < a
  · rw [if_pos h, if_pos (show cmpB .gt a 0 = true from decide_eq_true h)]
  · rw [if_neg h, if_neg (show ¬ cmpB .gt a 0 = true from fun q => h (of_decide_eq_true q))]
theorem e_if_le {c : Bool → Nat → List AV → Mem → Rs} {j : Nat → LV → List AV → Mem → Rs} {x : Int32} {y : Int64} {sw : List (Int32 × Nat)} {is : List AI} {lv : LV} {r : List AV} {μ : Mem} {n : Int} {t f : Nat} {a : Int32} : exL c j ((.ifCond .le n, x, y, [t, f], sw) :: is) lv (Sum.inl a :: r) μ = (if 0 < a then j f lv r μ else j t lv r μ) := by
  show (if cmpB .le a 0 = true then j t lv r μ else j f lv r μ) = _
  by_cases h : 0 < a
  · rw [if_pos h, if_neg (show ¬ cmpB .le a 0 = true from fun q => absurd h (Int32.not_lt.mpr (of_decide_eq_true q)))]
  · rw [if_neg h, if_pos (show cmpB .le a 0 = true from decide_eq_true (Int32.not_lt.mp h))]
theorem e_ic_eq {c : Bool → Nat → List AV → Mem → Rs} {j : Nat → LV → List AV → Mem → Rs} {x : Int32} {y : Int64} {sw : List (Int32 × Nat)} {is : List AI} {lv : LV} {r : List AV} {μ : Mem} {n : Int} {t f : Nat} {a b : Int32} : exL c j ((.if_icmp .eq n, x, y, [t, f], sw) :: is) lv (Sum.inl b :: Sum.inl a :: r) μ = (if a = b then j t lv r μ else j f lv r μ) := by
  show (if cmpB .eq a b = true then j t lv r μ else j f lv r μ) = _
  by_cases h : a = b
  · rw [if_pos h, if_pos (show cmpB .eq a b = true from decide_eq_true h)]
  · rw [if_neg h, if_neg (show ¬ cmpB .eq a b = true from fun q => h (of_decide_eq_true q))]
theorem e_ic_ne {c : Bool → Nat → List AV → Mem → Rs} {j : Nat → LV → List AV → Mem → Rs} {x : Int32} {y : Int64} {sw : List (Int32 × Nat)} {is : List AI} {lv : LV} {r : List AV} {μ : Mem} {n : Int} {t f : Nat} {a b : Int32} : exL c j ((.if_icmp .ne n, x, y, [t, f], sw) :: is) lv (Sum.inl b :: Sum.inl a :: r) μ = (if a = b then j f lv r μ else j t lv r μ) := by
  show (if cmpB .ne a b = true then j t lv r μ else j f lv r μ) = _
  by_cases h : a = b
  · rw [if_pos h, if_neg (show ¬ cmpB .ne a b = true from fun q => (of_decide_eq_true q : ¬ _) h)]
  · rw [if_neg h, if_pos (show cmpB .ne a b = true from decide_eq_true h)]
theorem e_ic_lt {c : Bool → Nat → List AV → Mem → Rs} {j : Nat → LV → List AV → Mem → Rs} {x : Int32} {y : Int64} {sw : List (Int32 × Nat)} {is : List AI} {lv : LV} {r : List AV} {μ : Mem} {n : Int} {t f : Nat} {a b : Int32} : exL c j ((.if_icmp .lt n, x, y, [t, f], sw) :: is) lv (Sum.inl b :: Sum.inl a :: r) μ = (if a < b then j t lv r μ else j f lv r μ) := by
  show (if cmpB .lt a b = true then j t lv r μ else j f lv r μ) = _
  by_cases h : a < b
  · rw [if_pos h, if_pos (show cmpB .lt a b = true from decide_eq_true h)]
  · rw [if_neg h, if_neg (show ¬ cmpB .lt a b = true from fun q => h (of_decide_eq_true q))]
theorem e_ic_ge {c : Bool → Nat → List AV → Mem → Rs} {j : Nat → LV → List AV → Mem → Rs} {x : Int32} {y : Int64} {sw : List (Int32 × Nat)} {is : List AI} {lv : LV} {r : List AV} {μ : Mem} {n : Int} {t f : Nat} {a b : Int32} : exL c j ((.if_icmp .ge n, x, y, [t, f], sw) :: is) lv (Sum.inl b :: Sum.inl a :: r) μ = (if a < b then j f lv r μ else j t lv r μ) := by
  show (if cmpB .ge a b = true then j t lv r μ else j f lv r μ) = _
  by_cases h : a < b
  · rw [if_pos h, if_neg (show ¬ cmpB .ge a b = true from fun q => absurd h (Int32.not_lt.mpr (of_decide_eq_true q)))]
  · rw [if_neg h, if_pos (show cmpB .ge a b = true from decide_eq_true (Int32.not_lt.mp h))]
theorem e_ic_gt {c : Bool → Nat → List AV → Mem → Rs} {j : Nat → LV → List AV → Mem → Rs} {x : Int32} {y : Int64} {sw : List (Int32 × Nat)} {is : List AI} {lv : LV} {r : List AV} {μ : Mem} {n : Int} {t f : Nat} {a b : Int32} : exL c j ((.if_icmp .gt n, x, y, [t, f], sw) :: is) lv (Sum.inl b :: Sum.inl a :: r) μ = (if b < a then j t lv r μ else j f lv r μ) := by
  show (if cmpB .gt a b = true then j t lv r μ else j f lv r μ) = _
  by_cases h : b < a
  · rw [if_pos h, if_pos (show cmpB .gt a b = true from decide_eq_true h)]
  · rw [if_neg h, if_neg (show ¬ cmpB .gt a b = true from fun q => h (of_decide_eq_true q))]
theorem e_ic_le {c : Bool → Nat → List AV → Mem → Rs} {j : Nat → LV → List AV → Mem → Rs} {x : Int32} {y : Int64} {sw : List (Int32 × Nat)} {is : List AI} {lv : LV} {r : List AV} {μ : Mem} {n : Int} {t f : Nat} {a b : Int32} : exL c j ((.if_icmp .le n, x, y, [t, f], sw) :: is) lv (Sum.inl b :: Sum.inl a :: r) μ = (if b < a then j f lv r μ else j t lv r μ) := by
  show (if cmpB .le a b = true then j t lv r μ else j f lv r μ) = _
  by_cases h : b < a
  · rw [if_pos h, if_neg (show ¬ cmpB .le a b = true from fun q => absurd h (Int32.not_lt.mpr (of_decide_eq_true q)))]
  · rw [if_neg h, if_pos (show cmpB .le a b = true from decide_eq_true (Int32.not_lt.mp h))]
theorem e_tsw {c : Bool → Nat → List AV → Mem → Rs} {j : Nat → LV → List AV → Mem → Rs} {x : Int32} {y : Int64} {sw : List (Int32 × Nat)} {is : List AI} {lv : LV} {r : List AV} {μ : Mem} {n1 n2 n3 : Int} {n4 : Array Int} {e : Nat} {a : Int32} : exL c j ((.tableswitch n1 n2 n3 n4, x, y, [e], sw) :: is) lv (Sum.inl a :: r) μ = swJ j lv r μ a e sw := rfl
theorem e_lsw {c : Bool → Nat → List AV → Mem → Rs} {j : Nat → LV → List AV → Mem → Rs} {x : Int32} {y : Int64} {sw : List (Int32 × Nat)} {is : List AI} {lv : LV} {r : List AV} {μ : Mem} {n1 : Int} {n4 : Array (Int × Int)} {e : Nat} {a : Int32} : exL c j ((.lookupswitch n1 n4, x, y, [e], sw) :: is) lv (Sum.inl a :: r) μ = swJ j lv r μ a e sw := rfl
theorem sw_0 {j : Nat → LV → List AV → Mem → Rs} {lv : LV} {st : List AV} {μ : Mem} {a : Int32} {e : Nat} : swJ j lv st μ a e [] = j e lv st μ := rfl
theorem sw_s {j : Nat → LV → List AV → Mem → Rs} {lv : LV} {st : List AV} {μ : Mem} {a k : Int32} {e t : Nat} {l : List (Int32 × Nat)} : swJ j lv st μ a e ((k, t) :: l) = if a = k then j t lv st μ else swJ j lv st μ a e l := rfl
theorem e_iret {c : Bool → Nat → List AV → Mem → Rs} {j : Nat → LV → List AV → Mem → Rs} {x : Int32} {y : Int64} {sw : List (Int32 × Nat)} {is : List AI} {lv : LV} {μ : Mem} {v : Int32} : exL c j ((.ireturn, x, y, [], sw) :: is) lv [Sum.inl v] μ = some (some (vI v), μ) := rfl
theorem e_zret {c : Bool → Nat → List AV → Mem → Rs} {j : Nat → LV → List AV → Mem → Rs} {x : Int32} {y : Int64} {sw : List (Int32 × Nat)} {is : List AI} {lv : LV} {μ : Mem} {v : Int32} {z : Nat} : exL c j ((.ireturn, x, y, [z], sw) :: is) lv [Sum.inl v] μ = (if v = 0 ∨ v = 1 then some (some (vI v), μ) else none) := rfl
theorem e_lret {c : Bool → Nat → List AV → Mem → Rs} {j : Nat → LV → List AV → Mem → Rs} {x : Int32} {y : Int64} {d : List Nat} {sw : List (Int32 × Nat)} {is : List AI} {lv : LV} {μ : Mem} {v : Int64} : exL c j ((.lreturn, x, y, d, sw) :: is) lv [Sum.inr (Sum.inl v)] μ = some (some (vL v), μ) := rfl
theorem e_aret {c : Bool → Nat → List AV → Mem → Rs} {j : Nat → LV → List AV → Mem → Rs} {x : Int32} {y : Int64} {d : List Nat} {sw : List (Int32 × Nat)} {is : List AI} {lv : LV} {μ : Mem} {v : Nat × Nat} : exL c j ((.areturn, x, y, d, sw) :: is) lv [Sum.inr (Sum.inr v)] μ = some (some (Sum.inr (Sum.inr v)), μ) := rfl
theorem e_ret {c : Bool → Nat → List AV → Mem → Rs} {j : Nat → LV → List AV → Mem → Rs} {x : Int32} {y : Int64} {d : List Nat} {sw : List (Int32 × Nat)} {is : List AI} {lv : LV} {μ : Mem}  : exL c j ((.return_, x, y, d, sw) :: is) lv [] μ = some (none, μ) := rfl
theorem en_0 {as : List AV} : entL 0 as = [] := by cases as <;> rfl
theorem en_n {n : Nat} : entL (n + 1) [] = none :: entL n [] := rfl
theorem en_i {n : Nat} {v : Int32} {as : List AV} : entL (n + 1) (Sum.inl v :: as) = some (vI v) :: entL n as := rfl
theorem en_a {n : Nat} {v : Nat × Nat} {as : List AV} : entL (n + 1) (Sum.inr (Sum.inr v) :: as) = some (Sum.inr (Sum.inr v)) :: entL n as := rfl
theorem en_l {n : Nat} {v : Int64} {as : List AV} : entL (n + 2) (Sum.inr (Sum.inl v) :: as) = some (vL v) :: none :: entL n as := rfl
