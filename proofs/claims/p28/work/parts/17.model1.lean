/-! ===== pure words of the class (out of the proof of whole, by wip/p28/gen/prune.py) ===== -/
theorem xDone {X : Nat × (Nat → Int32)} {cl : XC} {hd : Nat → Nat → Option (Option (Nat × Nat))} {rt : Nat} {stops : List (Nat × List Nat)} {tbl : List XE} {n pc : Nat} {lv : XL} {σ : XH} {b : Nat} {r : XR × XH} (h : xExec X cl hd rt stops tbl 1000 (xPc tbl pc) lv [] σ b = some (.inl r)) : xIter X cl hd rt stops tbl (n + 1) (pc, lv, σ, b) = some r := by
  unfold xIter
  dsimp only
  rw [h]
theorem xNext {X : Nat × (Nat → Int32)} {cl : XC} {hd : Nat → Nat → Option (Option (Nat × Nat))} {rt : Nat} {stops : List (Nat × List Nat)} {tbl : List XE} {n pc : Nat} {lv : XL} {σ : XH} {b : Nat} {s : Nat × XL × XH × Nat} (h : xExec X cl hd rt stops tbl 1000 (xPc tbl pc) lv [] σ b = some (.inr s)) : xIter X cl hd rt stops tbl (n + 1) (pc, lv, σ, b) = xIter X cl hd rt stops tbl n s := by
  rw [xIter]
  dsimp only
  rw [h]
/-- a pair's state: the ten numbers ahead, the two valves' sixteen each, the ledger's sixty -/
abbrev TS : Type := (Nat → Int32) × (Nat → Int32) × (Nat → Int32) × (Nat → Int32)
def trF (n : Nat) (f : Nat → Int32) : Nat → Int32 := fun i => if i < n then f i else 0
abbrev updF (f : Nat → Int32) (i : Nat) (x : Int32) : Nat → Int32 := fun k => if k = i then x else f k
/-- the valve v of a pair -/
def vT (t : TS) : Nat → (Nat → Int32)
  | 0 => t.2.1
  | _ => t.2.2.1
def flI (a b : Int32) : Int32 := if a - a / b * b < 0 then a / b - 1 else a / b
def inI (v l m : Int32) : Int32 := if v < l then l else if m < v then m else v
def abI (a : Int32) : Int32 := if a < 0 then -a else a
def wearV (V : Nat → Int32) : Int32 := V 11 / 100 + 3 * V 12
def thrV (V : Nat → Int32) (w : Int32) : Int32 := if V 10 = 1 ∧ w = V 9 then 0 else V 1 + wearV V / 50 + (if V 9 = -w then V 2 else 0)
def wayI (off : Int32) : Int32 := if off < 0 then -1 else 1
def moveV (V : Nat → Int32) (d : Int32) : Int32 := if abI (d - V 8) = 0 ∨ abI (d - V 8) ≤ thrV V (wayI (d - V 8)) then 0 else wayI (d - V 8) * (if abI (d - V 8) < V 0 then abI (d - V 8) else V 0)
def openV (V : Nat → Int32) (p : Int32) : Int32 := if V 4 = 0 then p else if V 4 = 1 then p * p / 1000 else 1000 - (1000 - p) * (1000 - p) / 1000
def thruV (V : Nat → Int32) (p : Int32) : Int32 := V 3 * openV V p / 1000
def flowV (V : Nat → Int32) : Int32 := if 0 < V 8 then thruV V (V 8) else if wearV V / 20 < V 3 then wearV V / 20 else V 3
def demV (V : Nat → Int32) (u : Int32) : Int32 := if V 7 = 1 then 1000 - inI (flI (1000 * (u - V 5)) (V 6 - V 5)) 0 1000 else inI (flI (1000 * (u - V 5)) (V 6 - V 5)) 0 1000
def idV (V : Nat → Int32) (u : Int32) : Int32 := if 0 < demV V u then thruV V (demV V u) else 0
def bothT (t : TS) : Int32 := flowV t.2.1 + flowV t.2.2.1
def idealT (t : TS) (u : Int32) : Int32 := 0 + idV t.2.1 u + idV t.2.2.1 u
