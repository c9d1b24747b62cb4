/-! THE MINUTE, as a function of a view: place 0: 0 workers, 1 breaks, 2 minute, 3 from, 4 to, 5 waited, 6 taped, 7 waits, 8 z; 1 + w: a worker: 0 depth, 1 steps, 2 at, 3 done, 4 away, 5 note, 6 lost, 7 ends, 8 + 2i long, 9 + 2i hard; 10 + r: a break: 0 kind, 1 m, 2 of, 3 due, 4 takes, 5 tenths, 6 came, 7 put off; 20 the tape, 21 what waits. -/
abbrev TX : Type := Nat → Int32 → Int32 → Int32 → Int32 → Option Int32
def keepsP (tx : TX) (V : Mem) (w r : Nat) : Int32 :=
  heldP (if V (10 + r) 0 = 1 then V (1 + w) 0 / 2 - V (10 + r) 1
    else if V (10 + r) 0 = 2 then V (1 + w) 0 * 3 / 4
    else if V (10 + r) 0 = 3 then (if V (1 + w) 5 = 1 then V (1 + w) 0 / 2 + V (10 + r) 1 else 0)
    else if V (10 + r) 0 = 4 then (if 0 < (V (1 + w) 3).toInt then (V (1 + w) 0 / 2 - V (10 + r) 1) / 2 else V (1 + w) 0 / 2 - V (10 + r) 1)
    else if V (10 + r) 0 = 5 then (if V (1 + w) 3 = 0 then V (1 + w) 0 else V (1 + w) 0 * 3 / 4)
    else if V (10 + r) 0 = 6 then (tx 0 (V (1 + w) 0) (V (10 + r) 4) (V (1 + w) 5) (V (10 + r) 1)).getD (V (1 + w) 0 - V (10 + r) 4)
    else V (1 + w) 0 / 2) 0 (V (1 + w) 0)
def goesP (tx : TX) (V : Mem) (w : Nat) : Int32 :=
  heldP ((tx 1 (V (1 + w) 0) (V (1 + w) (9 + 2 * (V (1 + w) 2).toNatClampNeg)) (V (1 + w) (8 + 2 * (V (1 + w) 2).toNatClampNeg)) 0).getD (V (1 + w) 0 / (V (1 + w) (9 + 2 * (V (1 + w) 2).toNatClampNeg) + 1) + 2)) 0 99
def mn (h x : Int32) : Int32 := if x.toInt < h.toInt then x else h
def leaveP (V : Mem) (w : Nat) (x m : Int32) : Mem := up (up (up V (1 + w) 6 (mn 99999 (V (1 + w) 6 + V (1 + w) 0 - x))) (1 + w) 0 x) (1 + w) 4 m
def comeP (g : Int32 → Int32) (tx : TX) (V : Mem) (r : Nat) : Mem :=
  let V2 := up (up V (10 + r) 6 1) 0 5 (g (V 0 5 + V 0 2 - V (10 + r) 3))
  let w := (V (10 + r) 2).toNatClampNeg
  if V (1 + w) 4 = 0 then leaveP V2 w (keepsP tx V w r) (V (10 + r) 4) else up V2 (1 + w) 4 (mn 999 (V (1 + w) 4 + V (10 + r) 4))
def restP (g : Int32 → Int32) (tx : TX) (only : Int32) (V : Mem) (r : Nat) : Mem :=
  if V (10 + r) 6 = 0 ∧ (only = -1 ∨ V (10 + r) 2 = only) ∧ (V (10 + r) 7).toInt ≤ (V 0 2).toInt then
    (if (V (10 + r) 0 = 1 ∨ V (10 + r) 0 = 4) ∧ (V 0 3).toInt ≤ (V 0 2).toInt ∧ (V 0 2).toInt < (V 0 4).toInt then up V (10 + r) 7 (V 0 4) else comeP g tx V r)
  else V
def wkP (V : Mem) (w : Nat) (g : Int32) (m : Int32) : Mem :=
  let dn := V (1 + w) 3 + g
  let V2 := up (up V (1 + w) 3 dn) (1 + w) 0 (mn 99 (V (1 + w) 0 + 1))
  if dn.toInt < (V (1 + w) (8 + 2 * (V (1 + w) 2).toNatClampNeg) * 10).toInt then V2 else
    let V3 := up (up V2 (1 + w) 2 (V (1 + w) 2 + 1)) (1 + w) 3 0
    if V (1 + w) 2 + 1 = V (1 + w) 1 then up V3 (1 + w) 7 m else V3
def workP (tx : TX) (V : Mem) (w : Nat) : Mem :=
  if V (1 + w) 4 = 0 then (if V (1 + w) 2 = V (1 + w) 1 then V else wkP V w (goesP tx V w) (V 0 2))
  else up V (1 + w) 4 (V (1 + w) 4 - 1)
def wrkP (tx : TX) (only : Int32) (V : Mem) (w : Nat) : Mem := if only = -1 ∨ only = nI w then workP tx V w else V
def itN {α : Type} (f : α → Nat → α) : Nat → α → α
  | 0, V => V
  | n + 1, V => f (itN f n V) n
def restsP (g : Int32 → Int32) (tx : TX) (only : Int32) (V : Mem) : Mem := itN (restP g tx only) (V 0 1).toNatClampNeg V
def worksP (tx : TX) (only : Int32) (V : Mem) : Mem := itN (wrkP tx only) (V 0 0).toNatClampNeg V
def minP (g : Int32 → Int32) (tx : TX) (only : Int32) (V : Mem) : Mem :=
  let V2 := worksP tx only (restsP g tx only V)
  up V2 0 2 (V2 0 2 + 1)
/-- what a view must be for a minute to be worked out -/
def WFw (V : Mem) (w : Nat) : Prop :=
  (0 ≤ (V (1 + w) 0).toInt ∧ (V (1 + w) 0).toInt ≤ 99) ∧ (0 ≤ (V (1 + w) 1).toInt ∧ (V (1 + w) 1).toInt ≤ 8) ∧ (0 ≤ (V (1 + w) 2).toInt ∧ (V (1 + w) 2).toInt ≤ (V (1 + w) 1).toInt) ∧ (0 ≤ (V (1 + w) 3).toInt ∧ (V (1 + w) 3).toInt ≤ 699) ∧ (0 ≤ (V (1 + w) 4).toInt ∧ (V (1 + w) 4).toInt ≤ 999) ∧ (0 ≤ (V (1 + w) 5).toInt ∧ (V (1 + w) 5).toInt ≤ 1) ∧ (0 ≤ (V (1 + w) 6).toInt ∧ (V (1 + w) 6).toInt ≤ 99999) ∧ (-1 ≤ (V (1 + w) 7).toInt ∧ (V (1 + w) 7).toInt ≤ 20000) ∧
  ∀ (i : Nat), i < 8 → (i : Int) < (V (1 + w) 1).toInt → (1 ≤ (V (1 + w) (8 + 2 * i)).toInt ∧ (V (1 + w) (8 + 2 * i)).toInt ≤ 60) ∧ (0 ≤ (V (1 + w) (9 + 2 * i)).toInt ∧ (V (1 + w) (9 + 2 * i)).toInt ≤ 9)
def WFr (V : Mem) (r : Nat) : Prop :=
  (0 ≤ (V (10 + r) 0).toInt ∧ (V (10 + r) 0).toInt ≤ 6) ∧ (0 ≤ (V (10 + r) 1).toInt ∧ (V (10 + r) 1).toInt ≤ 9) ∧ (0 ≤ (V (10 + r) 2).toInt ∧ (V (10 + r) 2).toInt < (V 0 0).toInt) ∧ (0 ≤ (V (10 + r) 3).toInt ∧ (V (10 + r) 3).toInt ≤ 20000) ∧ (1 ≤ (V (10 + r) 4).toInt ∧ (V (10 + r) 4).toInt ≤ 60) ∧ (0 ≤ (V (10 + r) 5).toInt ∧ (V (10 + r) 5).toInt ≤ 10) ∧ (V (10 + r) 6 = 0 ∨ V (10 + r) 6 = 1) ∧ (0 ≤ (V (10 + r) 7).toInt ∧ (V (10 + r) 7).toInt ≤ 20000)
def WF (V : Mem) : Prop :=
  (0 ≤ (V 0 0).toInt ∧ (V 0 0).toInt ≤ 4) ∧ (0 ≤ (V 0 1).toInt ∧ (V 0 1).toInt ≤ 8) ∧ (0 ≤ (V 0 2).toInt ∧ (V 0 2).toInt ≤ 15000) ∧ (0 ≤ (V 0 3).toInt ∧ (V 0 3).toInt ≤ 999) ∧ (0 ≤ (V 0 4).toInt ∧ (V 0 4).toInt ≤ 999) ∧ (-200000 ≤ (V 0 5).toInt ∧ (V 0 5).toInt ≤ 99999) ∧
  (∀ (w : Nat), w < 4 → (w : Int) < (V 0 0).toInt → WFw V w) ∧ ∀ (r : Nat), r < 8 → (r : Int) < (V 0 1).toInt → WFr V r
