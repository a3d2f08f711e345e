/-! WHAT A TEXT SAYS: the parser over the words tk, tv, ts. -/
abbrev SUM : Type := Int32 × Int32 × Int32
/-- a statement: kind, block, target, operands, its SUM's number, the blocks that it names (or -1), where they stand -/
abbrev REC : Type := Nat × Nat × Int32 × Int32 × Int32 × Int32 × Int32 × Int32 × Nat × Nat
def rK (r : REC) : Nat := r.1
def rB (r : REC) : Nat := r.2.1
def rT (r : REC) : Int32 := r.2.2.1
def rO0 (r : REC) : Int32 := r.2.2.2.1
def rO1 (r : REC) : Int32 := r.2.2.2.2.1
def rS (r : REC) : Int32 := r.2.2.2.2.2.1
def rW0 (r : REC) : Int32 := r.2.2.2.2.2.2.1
def rW1 (r : REC) : Int32 := r.2.2.2.2.2.2.2.1
def rP0 (r : REC) : Nat := r.2.2.2.2.2.2.2.2.1
def rP1 (r : REC) : Nat := r.2.2.2.2.2.2.2.2.2
abbrev PR (α : Type) : Type := Except (Nat × Nat) α
def er (T : Nat → Nat) (L k w : Nat) : Nat × Nat := (if tk T L k = 1 then 1 else w, ts T L k)
def pSg (T : Nat → Nat) (L c k : Nat) : PR Nat := if tk T L k = 7 ∧ tv T L k = c then .ok (k + 1) else .error (er T L k 2)
def pOp (T : Nat → Nat) (L k : Nat) : PR (Int32 × Nat × Bool) :=
  if tk T L k = 7 ∧ tv T L k = 45 then (if tk T L (k + 1) = 6 then .ok (-(nI (tv T L (k + 1))), k + 2, false) else .error (er T L (k + 1) 2))
  else if tk T L k = 6 then .ok (nI (tv T L k), k + 1, false) else if tk T L k = 3 then .ok (nI (1000000000 + tv T L k), k + 1, decide (16 ≤ tv T L k)) else .error (er T L k 2)
def pWy (T : Nat → Nat) (L k : Nat) : PR Nat := if tk T L k = 5 then .ok (k + 1) else .error (er T L k 2)
/-- a value: operands, SUM, the next word, whether a t stands in it -/
def pVl (T : Nat → Nat) (L k : Nat) : PR (Int32 × Int32 × Option SUM × Nat × Bool) :=
  if tk T L k = 4 then (pSg T L 91 (k + 1)).bind fun k1 => (pOp T L k1).bind fun q => (pSg T L 93 q.2.1).bind fun k2 => .ok (nI 0, q.1, some (nI 114, nI (tv T L k), q.1), k2, q.2.2)
  else (pOp T L k).bind fun q => if tk T L q.2.1 = 7 ∧ isOpB (tv T L q.2.1) = true then (pOp T L (q.2.1 + 1)).bind fun q2 => .ok (q.1, q2.1, some (nI (tv T L q.2.1), q.1, q2.1), q2.2.1, q.2.2 || q2.2.2) else .ok (q.1, nI 0, none, q.2.1, q.2.2)
/-- the kind that begins at word k (a NAME: 1); none: nothing can -/
def pKd (T : Nat → Nat) (L k : Nat) : Option Nat := if tk T L k = 3 then some 1 else if tk T L k = 4 then some 2 else if tk T L k = 8 then some (tv T L k) else none
/-- a statement or end: kind, target, operands, SUM, the words of the blocks that it names (0: none) -/
abbrev ST0 : Type := Nat × Int32 × Int32 × Int32 × Option SUM × Nat × Nat
def pSt (T : Nat → Nat) (L kd k : Nat) : PR (ST0 × Nat × Bool) :=
  if kd = 1 then (pSg T L 61 (k + 1)).bind fun k1 => (pVl T L k1).bind fun v => .ok (((if v.2.2.1.isSome then 0 else 1), nI (tv T L k), v.1, v.2.1, v.2.2.1, 0, 0), v.2.2.2.1, decide (16 ≤ tv T L k) || v.2.2.2.2)
  else if kd = 2 then (pSg T L 91 (k + 1)).bind fun k1 => (pOp T L k1).bind fun q => (pSg T L 93 q.2.1).bind fun k2 => (pSg T L 61 k2).bind fun k3 => (pOp T L k3).bind fun q2 => .ok ((2, nI (tv T L k), q.1, q2.1, none, 0, 0), q2.2.1, q.2.2 || q2.2.2)
  else if kd = 3 then (pOp T L (k + 1)).bind fun q => .ok ((3, -1, q.1, nI 0, none, 0, 0), q.2.1, q.2.2)
  else if kd = 4 then (pWy T L (k + 1)).bind fun k1 => .ok ((4, -1, nI 0, nI 0, none, k + 1, 0), k1, false)
  else if kd = 5 then (pOp T L (k + 1)).bind fun q => (pSg T L 60 q.2.1).bind fun k1 => (pOp T L k1).bind fun q2 => (pWy T L q2.2.1).bind fun k2 => (pWy T L k2).bind fun k3 => .ok ((5, -1, q.1, q2.1, none, q2.2.1, k2), k3, q.2.2 || q2.2.2)
  else .ok ((6, -1, nI 0, nI 0, none, 0, 0), k + 1, false)
/-- a SUM's number, the SUMS behind it, whether they were too many -/
def nSum (ss : List SUM) (x : SUM) : Int32 × List SUM × Bool := match ss.findIdx? (fun y => y == x) with
  | some e => (nI e, ss, false)
  | none => if ss.length < 32 then (nI ss.length, ss ++ [x], false) else (-1, ss, true)
/-- statements, SUMS, too many, a t, where each block begins, where its head stands -/
abbrev PS : Type := List REC × List SUM × Bool × Bool × List Nat × List Nat
def psS (q : PS) : List REC := q.1
def psM (q : PS) : List SUM := q.2.1
def psX (q : PS) : Bool := q.2.2.1
def psT (q : PS) : Bool := q.2.2.2.1
def psF (q : PS) : List Nat := q.2.2.2.2.1
def psH (q : PS) : List Nat := q.2.2.2.2.2
def wyV (T : Nat → Nat) (L k : Nat) : Int32 := if k = 0 then -1 else nI (tv T L k)
/-- one statement more -/
def psAdd (T : Nat → Nat) (L : Nat) (q : PS) (b : Nat) (s : ST0) (t : Bool) : PS :=
  match s.2.2.2.2.1 with
  | none => (psS q ++ [(s.1, b, s.2.1, s.2.2.1, s.2.2.2.1, -1, wyV T L s.2.2.2.2.2.1, wyV T L s.2.2.2.2.2.2, ts T L s.2.2.2.2.2.1, ts T L s.2.2.2.2.2.2)], psM q, psX q, psT q || t, psF q, psH q)
  | some x => (psS q ++ [(s.1, b, s.2.1, s.2.2.1, s.2.2.2.1, (nSum (psM q) x).1, wyV T L s.2.2.2.2.2.1, wyV T L s.2.2.2.2.2.2, ts T L s.2.2.2.2.2.1, ts T L s.2.2.2.2.2.2)], (nSum (psM q) x).2.1, psX q || (nSum (psM q) x).2.2, psT q || t, psF q, psH q)
/-- statements up to an end's ; -/
def pSts (T : Nat → Nat) (L b : Nat) : Nat → Nat → PS → PR (Nat × PS)
  | 0, k, _ => .error (er T L k 3)
  | f + 1, k, q => match pKd T L k with
    | none => .error (er T L k 2)
    | some kd => if 160 ≤ (psS q).length then .error (er T L k 3) else
      (pSt T L kd k).bind fun s => (pSg T L 59 s.2.1).bind fun k2 => if 4 ≤ kd then .ok (k2, psAdd T L q b s.1 s.2.2) else pSts T L b f k2 (psAdd T L q b s.1 s.2.2)
/-- block b, whose head is word k -/
def pBk (T : Nat → Nat) (L b k : Nat) (q : PS) : PR (Nat × PS) :=
  if tk T L k = 5 ∧ tv T L k = b then (pSg T L 58 (k + 1)).bind fun k1 => pSts T L b 161 k1 (psS q, psM q, psX q, psT q, psF q ++ [(psS q).length], psH q ++ [ts T L k])
  else .error (er T L k 2)
/-- blocks from b on, f of them may come -/
def pBks (T : Nat → Nat) (L : Nat) : Nat → Nat → Nat → PS → PR PS
  | 0, _, k, q => if tk T L k = 0 then .ok q else .error (er T L k 3)
  | f + 1, b, k, q => if b ≠ 0 ∧ tk T L k = 0 then .ok q else (pBk T L b k q).bind fun r => pBks T L f (b + 1) r.1 r.2
def ps0 : PS := ([], [], false, false, [], [])
/-- the words of a text as statements, or the first FAULT of the words -/
def pAll (T : Nat → Nat) (L : Nat) : PR PS := pBks T L 40 0 0 ps0
