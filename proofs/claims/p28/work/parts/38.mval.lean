/-! ===== pure words of the class (out of the proof of whole, by wip/p28/gen/prune.py) ===== -/
/-- sums over a ledger's rows; first places; counts -/
def sumL (L : Nat → Int32) (v : Int32) (w : Nat) : Nat → Int32
  | 0 => 0
  | k + 1 => sumL L v w k + (if L (5 * k) = v then L (5 * k + w) else 0)
def ledT (t : TS) (e w : Nat) : Int32 := if e < entN t then t.2.2.2 (5 * e + w) else -1000000
theorem oN_in {w l m : Nat} (h1 : l ≤ w) (h2 : w ≤ m) (hm : m < 2 ^ 31) : oN l ≤ oN w ∧ oN w ≤ oN m := ⟨(oN_le (by omega) (by omega)).mpr h1, (oN_le (by omega) hm).mpr h2⟩
