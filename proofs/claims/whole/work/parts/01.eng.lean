/-! THE ABSTRACT MACHINE. Values are ints, longs, and references (kind, number); memory: what int stands at place j of object o. -/
abbrev AV : Type := Int32 ⊕ (Int64 ⊕ (Nat × Nat))
abbrev LV : Type := List (Option AV)
abbrev Mem : Type := Nat → Nat → Int32
abbrev AI : Type := Instr × Int32 × Int64 × List Nat × List (Int32 × Nat)
abbrev Rs : Type := Option (Option AV × Mem)
abbrev vI (x : Int32) : AV := Sum.inl x
abbrev vL (x : Int64) : AV := Sum.inr (Sum.inl x)
abbrev vR (k o : Nat) : AV := Sum.inr (Sum.inr (k, o))
def up (μ : Mem) (o j : Nat) (v : Int32) : Mem := fun a b => if a = o ∧ b = j then v else μ a b
def cpy (μ : Mem) (o1 sp o2 dp n : Nat) : Mem := fun a b => if a = o2 ∧ (dp ≤ b ∧ b < dp + n) then μ o1 (sp + (b - dp)) else μ a b
abbrev ix (i : Int32) : Nat := i.toNatClampNeg
/-- the elements of a row of references: how many, their kind, where they stand -/
def elm (k : Nat) : Option (Nat × Nat × Nat × Nat) := if k = 10 then some (2, 0, 23, 3) else if k = 11 then some (8, 2, 16, 1) else if k = 12 then some (4, 3, 2, 2) else if k = 13 then some (4, 5, 5, 3) else none
def ixD (c : Int32) : Int32 := if c = 100 then 0 else if c = 116 then 1 else if c = 110 then 2 else if c = 109 then 3 else -1
def ixH (c : Int32) : Int32 := if c = 100 then 0 else if c = 104 then 1 else if c = 108 then 2 else -1
def ldI (d : List Nat) (lv : LV) (st : List AV) (μ : Mem) : Option (LV × List AV × Mem) := match d with
  | [k] => match lv[k]? with
    | some (some (Sum.inl v)) => some (lv, vI v :: st, μ)
    | _ => none
  | _ => none
def ldL (d : List Nat) (lv : LV) (st : List AV) (μ : Mem) : Option (LV × List AV × Mem) := match d with
  | [k] => match lv[k]? with
    | some (some (Sum.inr (Sum.inl v))) => some (lv, vL v :: st, μ)
    | _ => none
  | _ => none
def ldA (d : List Nat) (lv : LV) (st : List AV) (μ : Mem) : Option (LV × List AV × Mem) := match d with
  | [k] => match lv[k]? with
    | some (some (Sum.inr (Sum.inr v))) => some (lv, vR v.1 v.2 :: st, μ)
    | _ => none
  | _ => none
/-- a store at k: a long that reaches into k is gone -/
def clr (lv : LV) (k : Nat) : LV := match k with
  | 0 => lv
  | k + 1 => match lv[k]? with
    | some (some (Sum.inr (Sum.inl _))) => lv.set k none
    | _ => lv
def stI (d : List Nat) (lv : LV) (st : List AV) (μ : Mem) : Option (LV × List AV × Mem) := match d, st with
  | [k], Sum.inl v :: r => some ((clr lv k).set k (some (vI v)), r, μ)
  | _, _ => none
def stA (d : List Nat) (lv : LV) (st : List AV) (μ : Mem) : Option (LV × List AV × Mem) := match d, st with
  | [k], Sum.inr (Sum.inr v) :: r => some ((clr lv k).set k (some (vR v.1 v.2)), r, μ)
  | _, _ => none
def stL (d : List Nat) (lv : LV) (st : List AV) (μ : Mem) : Option (LV × List AV × Mem) := match d, st with
  | [k], Sum.inr (Sum.inl v) :: r => some (((clr lv k).set k (some (vL v))).set (k + 1) none, r, μ)
  | _, _ => none
def bi1 (f : Int32 → Int32) (lv : LV) (st : List AV) (μ : Mem) : Option (LV × List AV × Mem) := match st with
  | Sum.inl x :: r => some (lv, vI (f x) :: r, μ)
  | _ => none
def bi2 (f : Int32 → Int32 → Int32) (lv : LV) (st : List AV) (μ : Mem) : Option (LV × List AV × Mem) := match st with
  | Sum.inl y :: Sum.inl x :: r => some (lv, vI (f x y) :: r, μ)
  | _ => none
def bi2z (f : Int32 → Int32 → Int32) (lv : LV) (st : List AV) (μ : Mem) : Option (LV × List AV × Mem) := match st with
  | Sum.inl y :: Sum.inl x :: r => if y = 0 then none else some (lv, vI (f x y) :: r, μ)
  | _ => none
def bl1 (f : Int64 → Int64) (lv : LV) (st : List AV) (μ : Mem) : Option (LV × List AV × Mem) := match st with
  | Sum.inr (Sum.inl x) :: r => some (lv, vL (f x) :: r, μ)
  | _ => none
def bl2 (f : Int64 → Int64 → Int64) (lv : LV) (st : List AV) (μ : Mem) : Option (LV × List AV × Mem) := match st with
  | Sum.inr (Sum.inl y) :: Sum.inr (Sum.inl x) :: r => some (lv, vL (f x y) :: r, μ)
  | _ => none
def bl2z (f : Int64 → Int64 → Int64) (lv : LV) (st : List AV) (μ : Mem) : Option (LV × List AV × Mem) := match st with
  | Sum.inr (Sum.inl y) :: Sum.inr (Sum.inl x) :: r => if y = 0 then none else some (lv, vL (f x y) :: r, μ)
  | _ => none
def bls (f : Int64 → Int32 → Int64) (lv : LV) (st : List AV) (μ : Mem) : Option (LV × List AV × Mem) := match st with
  | Sum.inl y :: Sum.inr (Sum.inl x) :: r => some (lv, vL (f x y) :: r, μ)
  | _ => none
def opInc (x : Int32) (d : List Nat) (lv : LV) (st : List AV) (μ : Mem) : Option (LV × List AV × Mem) := match d with
  | [k] => match lv[k]? with
    | some (some (Sum.inl v)) => some ((clr lv k).set k (some (vI (v + x))), st, μ)
    | _ => none
  | _ => none
def opGet (d : List Nat) (lv : LV) (st : List AV) (μ : Mem) : Option (LV × List AV × Mem) := match d, st with
  | [k, j], Sum.inr (Sum.inr (k0, o)) :: r => if k0 = k then some (lv, vI (μ o j) :: r, μ) else none
  | [k, _, k2, dl], Sum.inr (Sum.inr (k0, o)) :: r => if k0 = k then some (lv, vR k2 (o + dl) :: r, μ) else none
  | _, _ => none
def opPut (d : List Nat) (lv : LV) (st : List AV) (μ : Mem) : Option (LV × List AV × Mem) := match d, st with
  | [k, j], Sum.inl v :: Sum.inr (Sum.inr (k0, o)) :: r => if k0 = k then some (lv, r, up μ o j v) else none
  | [k, j, _], Sum.inl v :: Sum.inr (Sum.inr (k0, o)) :: r => if k0 = k ∧ (v = 0 ∨ v = 1) then some (lv, r, up μ o j v) else none
  | _, _ => none
def opLd (lv : LV) (st : List AV) (μ : Mem) : Option (LV × List AV × Mem) := match st with
  | Sum.inl i :: Sum.inr (Sum.inr (k, o)) :: r => if (100 ≤ k ∧ k < 1000) ∧ (0 ≤ i.toInt ∧ i.toInt < ((k - 100 : Nat) : Int)) then some (lv, vI (μ o (ix i)) :: r, μ) else if 1000 ≤ k ∧ (0 ≤ i.toInt ∧ i.toInt < ((k - 1000 : Nat) : Int)) then some (lv, vI (μ o (ix i)) :: r, μ) else none
  | _ => none
def opSt (lv : LV) (st : List AV) (μ : Mem) : Option (LV × List AV × Mem) := match st with
  | Sum.inl v :: Sum.inl i :: Sum.inr (Sum.inr (k, o)) :: r => if (100 ≤ k ∧ k < 1000) ∧ (0 ≤ i.toInt ∧ i.toInt < ((k - 100 : Nat) : Int)) then some (lv, r, up μ o (ix i) v) else none
  | _ => none
def opAld (lv : LV) (st : List AV) (μ : Mem) : Option (LV × List AV × Mem) := match st with
  | Sum.inl i :: Sum.inr (Sum.inr (k, o)) :: r => match elm k with
    | some (n, k2, dl, s) => if 0 ≤ i.toInt ∧ i.toInt < (n : Int) then some (lv, vR k2 (o + dl + s * ix i) :: r, μ) else none
    | none => none
  | _ => none
def opLen (lv : LV) (st : List AV) (μ : Mem) : Option (LV × List AV × Mem) := match st with
  | Sum.inr (Sum.inr (k, _)) :: r => match elm k with
    | some (n, _) => some (lv, vI (nI n) :: r, μ)
    | none => if 100 ≤ k ∧ k < 1000 then some (lv, vI (nI (k - 100)) :: r, μ) else if 1000 ≤ k then some (lv, vI (nI (k - 1000)) :: r, μ) else none
  | _ => none
def op1 (i : Instr) (x : Int32) (y : Int64) (d : List Nat) (lv : LV) (st : List AV) (μ : Mem) : Option (LV × List AV × Mem) := match i with
  | .iload_n _ => ldI d lv st μ
  | .iload _ => ldI d lv st μ
  | .lload_n _ => ldL d lv st μ
  | .lload _ => ldL d lv st μ
  | .aload_n _ => ldA d lv st μ
  | .aload _ => ldA d lv st μ
  | .istore_n _ => stI d lv st μ
  | .istore _ => stI d lv st μ
  | .lstore_n _ => stL d lv st μ
  | .lstore _ => stL d lv st μ
  | .astore_n _ => stA d lv st μ
  | .astore _ => stA d lv st μ
  | .iinc _ _ => opInc x d lv st μ
  | .iconst _ => some (lv, vI x :: st, μ)
  | .bipush _ => some (lv, vI x :: st, μ)
  | .sipush _ => some (lv, vI x :: st, μ)
  | .ldc _ => match d with
    | [] => some (lv, vI x :: st, μ)
    | [k, o] => some (lv, vR k o :: st, μ)
    | _ => none
  | .ldc_w _ => some (lv, vI x :: st, μ)
  | .lconst _ => some (lv, vL y :: st, μ)
  | .ldc2_w _ => some (lv, vL y :: st, μ)
  | .iadd => bi2 (fun a b => a + b) lv st μ
  | .isub => bi2 (fun a b => a - b) lv st μ
  | .imul => bi2 (fun a b => a * b) lv st μ
  | .iand => bi2 (fun a b => a &&& b) lv st μ
  | .ixor => bi2 (fun a b => a ^^^ b) lv st μ
  | .ishl => bi2 (fun a b => a <<< (b &&& 31)) lv st μ
  | .ishr => bi2 (fun a b => a >>> (b &&& 31)) lv st μ
  | .iushr => bi2 (fun a b => (a.toUInt32 >>> (b.toUInt32 &&& Int32.toUInt32 31)).toInt32) lv st μ
  | .idiv => bi2z (fun a b => a / b) lv st μ
  | .irem => bi2z (fun a b => a - a / b * b) lv st μ
  | .ineg => bi1 (fun a => -a) lv st μ
  | .i2b => bi1 (fun a => a.toInt8.toInt32) lv st μ
  | .i2s => bi1 (fun a => a.toInt16.toInt32) lv st μ
  | .i2c => bi1 (fun a => (a.toUInt32 % 65536).toInt32) lv st μ
  | .ladd => bl2 (fun a b => a + b) lv st μ
  | .lsub => bl2 (fun a b => a - b) lv st μ
  | .lmul => bl2 (fun a b => a * b) lv st μ
  | .land => bl2 (fun a b => a &&& b) lv st μ
  | .lor => bl2 (fun a b => a ||| b) lv st μ
  | .ldiv => bl2z (fun a b => a / b) lv st μ
  | .lrem => bl2z (fun a b => a - a / b * b) lv st μ
  | .lneg => bl1 (fun a => -a) lv st μ
  | .lshl => bls (fun a b => a <<< (b.toInt64 &&& 63)) lv st μ
  | .lshr => bls (fun a b => a >>> (b.toInt64 &&& 63)) lv st μ
  | .lushr => bls (fun a b => (a.toUInt64 >>> (b.toInt64.toUInt64 &&& Int64.toUInt64 63)).toInt64) lv st μ
  | .i2l => match st with
    | Sum.inl a :: r => some (lv, vL a.toInt64 :: r, μ)
    | _ => none
  | .l2i => match st with
    | Sum.inr (Sum.inl a) :: r => some (lv, vI a.toInt32 :: r, μ)
    | _ => none
  | .lcmp => match st with
    | Sum.inr (Sum.inl b) :: Sum.inr (Sum.inl a) :: r => some (lv, vI (lg_cmp a b) :: r, μ)
    | _ => none
  | .dup => match st with
    | Sum.inl a :: r => some (lv, vI a :: vI a :: r, μ)
    | Sum.inr (Sum.inr a) :: r => some (lv, vR a.1 a.2 :: vR a.1 a.2 :: r, μ)
    | _ => none
  | .dup2 => match st with
    | Sum.inl a :: Sum.inr (Sum.inr b) :: r => some (lv, vI a :: vR b.1 b.2 :: vI a :: vR b.1 b.2 :: r, μ)
    | _ => none
  | .getfield _ => opGet d lv st μ
  | .putfield _ => opPut d lv st μ
  | .getstatic _ => match d with
    | [k, o] => some (lv, vR k o :: st, μ)
    | _ => none
  | .iaload => opLd lv st μ
  | .iastore => opSt lv st μ
  | .aaload => opAld lv st μ
  | .arraylength => opLen lv st μ
  | _ => none
def bui (b : Nat) (st : List AV) (μ : Mem) : Option (List AV × Mem) :=
  if b = 1 then (match st with
    | Sum.inl y :: Sum.inl x :: r => some (vI (if x < y then y else x) :: r, μ)
    | _ => none)
  else if b = 2 then (match st with
    | Sum.inl y :: Sum.inl x :: r => some (vI (if y < x then y else x) :: r, μ)
    | _ => none)
  else if b = 3 then (match st with
    | Sum.inr (Sum.inl y) :: Sum.inr (Sum.inl x) :: r => some (vL (if y < x then y else x) :: r, μ)
    | _ => none)
  else if b = 4 then (match st with
    | Sum.inr (Sum.inl x) :: r => some (vL (if 0 < x then x else -x) :: r, μ)
    | _ => none)
  else if b = 5 then (match st with
    | Sum.inl n :: Sum.inl dp :: Sum.inr (Sum.inr (k2, o2)) :: Sum.inl sp :: Sum.inr (Sum.inr (k1, o1)) :: r => if ((100 ≤ k1 ∧ k1 < 1000) ∧ (100 ≤ k2 ∧ k2 < 1000)) ∧ (0 ≤ sp.toInt ∧ 0 ≤ dp.toInt ∧ 0 ≤ n.toInt) ∧ (sp.toInt + n.toInt ≤ ((k1 - 100 : Nat) : Int) ∧ dp.toInt + n.toInt ≤ ((k2 - 100 : Nat) : Int)) then some (r, cpy μ o1 (ix sp) o2 (ix dp) (ix n)) else none
    | _ => none)
  else if b = 7 then (match st with
    | Sum.inl c :: Sum.inr (Sum.inr (k, _)) :: r => if k = 14 then some (vI (ixD c) :: r, μ) else if k = 15 then some (vI (ixH c) :: r, μ) else none
    | _ => none)
  else none
def tkA : Nat → List AV → List AV → List AV
  | 0, _, acc => acc
  | n + 1, v :: r, acc => tkA n r (v :: acc)
  | _ + 1, [], acc => acc
def drA : Nat → List AV → List AV
  | 0, st => st
  | n + 1, _ :: r => drA n r
  | _ + 1, [] => []
def pushR (v : Option AV) (st : List AV) : List AV := match v with
  | some a => a :: st
  | none => st
/-- at most n words -/
def catOK : Nat → List AV → Bool
  | _, [] => true
  | 0, _ :: _ => false
  | n + 1, Sum.inl _ :: r => catOK n r
  | n + 1, Sum.inr (Sum.inr _) :: r => catOK n r
  | 1, Sum.inr (Sum.inl _) :: _ => false
  | n + 2, Sum.inr (Sum.inl _) :: r => catOK n r
/-- n values stand there, and below them few words -/
def okS : Nat → List AV → Bool
  | 0, st => catOK 8 st
  | n + 1, _ :: r => okS n r
  | _ + 1, [] => false
/-- the receiver's kind -/
def rcv : Nat → List AV → Bool
  | 0, _ => true
  | z + 1, Sum.inr (Sum.inr (k, _)) :: _ => k == z
  | _ + 1, _ => false
def slA : List AV → Nat
  | [] => 0
  | Sum.inl _ :: r => slA r + 1
  | Sum.inr (Sum.inr _) :: r => slA r + 1
  | Sum.inr (Sum.inl _) :: r => slA r + 2
def inv (cal : Bool → Nat → List AV → Mem → Rs) (d : List Nat) (st : List AV) (μ : Mem) : Option (List AV × Mem) := match d with
  | [z, m, n, rc] => if okS n st = true ∧ rcv z (tkA n st []) = true then (cal (rc == 1) m (tkA n st []) μ).bind fun q => some (pushR q.1 (drA n st), q.2) else none
  | [_, b] => if catOK 10 st = true then bui b st μ else none
  | _ => none
def jmpD (jmp : Nat → LV → List AV → Mem → Rs) (d : List Nat) (lv : LV) (st : List AV) (μ : Mem) : Rs := match d with
  | [t] => jmp t lv st μ
  | _ => none
def cmpB (c : ClassFile.Cond) (a b : Int32) : Bool := match c with
  | .eq => decide (a = b)
  | .ne => decide (¬ a = b)
  | .lt => decide (a < b)
  | .ge => decide (b ≤ a)
  | .gt => decide (b < a)
  | .le => decide (a ≤ b)
def if1 (jmp : Nat → LV → List AV → Mem → Rs) (c : ClassFile.Cond) (d : List Nat) (lv : LV) (st : List AV) (μ : Mem) : Rs := match d, st with
  | [t, f], Sum.inl a :: r => if cmpB c a 0 = true then jmp t lv r μ else jmp f lv r μ
  | _, _ => none
def if2 (jmp : Nat → LV → List AV → Mem → Rs) (c : ClassFile.Cond) (d : List Nat) (lv : LV) (st : List AV) (μ : Mem) : Rs := match d, st with
  | [t, f], Sum.inl b :: Sum.inl a :: r => if cmpB c a b = true then jmp t lv r μ else jmp f lv r μ
  | _, _ => none
def swJ (jmp : Nat → LV → List AV → Mem → Rs) (lv : LV) (st : List AV) (μ : Mem) (a : Int32) (e : Nat) : List (Int32 × Nat) → Rs
  | [] => jmp e lv st μ
  | (k, t) :: r => if a = k then jmp t lv st μ else swJ jmp lv st μ a e r
def sw1 (jmp : Nat → LV → List AV → Mem → Rs) (d : List Nat) (sw : List (Int32 × Nat)) (lv : LV) (st : List AV) (μ : Mem) : Rs := match d, st with
  | [e], Sum.inl a :: r => swJ jmp lv r μ a e sw
  | _, _ => none
def retI (d : List Nat) (st : List AV) (μ : Mem) : Rs := match d, st with
  | [], [Sum.inl v] => some (some (vI v), μ)
  | [_], [Sum.inl v] => if v = 0 ∨ v = 1 then some (some (vI v), μ) else none
  | _, _ => none
def retL (st : List AV) (μ : Mem) : Rs := match st with
  | [Sum.inr (Sum.inl v)] => some (some (vL v), μ)
  | _ => none
def retA (st : List AV) (μ : Mem) : Rs := match st with
  | [Sum.inr (Sum.inr v)] => some (some (vR v.1 v.2), μ)
  | _ => none
def retV (st : List AV) (μ : Mem) : Rs := match st with
  | [] => some (none, μ)
  | _ => none
def exL (cal : Bool → Nat → List AV → Mem → Rs) (jmp : Nat → LV → List AV → Mem → Rs) : List AI → LV → List AV → Mem → Rs
  | [], _, _, _ => none
  | (i, x, y, d, sw) :: is, lv, st, μ => match i with
    | .nop => jmpD jmp d lv st μ
    | .goto _ => jmpD jmp d lv st μ
    | .ifCond c _ => if1 jmp c d lv st μ
    | .if_icmp c _ => if2 jmp c d lv st μ
    | .tableswitch _ _ _ _ => sw1 jmp d sw lv st μ
    | .lookupswitch _ _ => sw1 jmp d sw lv st μ
    | .ireturn => retI d st μ
    | .lreturn => retL st μ
    | .areturn => retA st μ
    | .return_ => retV st μ
    | .invokevirtual _ => (inv cal d st μ).bind fun q => exL cal jmp is lv q.1 q.2
    | .invokestatic _ => (inv cal d st μ).bind fun q => exL cal jmp is lv q.1 q.2
    | _ => (op1 i x y d lv st μ).bind fun q => exL cal jmp is q.1 q.2.1 q.2.2
/-- the locals at the start -/
def entL : Nat → List AV → LV
  | 0, _ => []
  | n + 1, [] => none :: entL n []
  | n + 1, Sum.inl v :: as => some (vI v) :: entL n as
  | n + 1, Sum.inr (Sum.inr v) :: as => some (vR v.1 v.2) :: entL n as
  | 1, Sum.inr (Sum.inl v) :: _ => [some (vL v)]
  | n + 2, Sum.inr (Sum.inl v) :: as => some (vL v) :: none :: entL n as
