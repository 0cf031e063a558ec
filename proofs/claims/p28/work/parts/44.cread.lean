/-! ===== pure words of the class (out of the proof of whole, by wip/p28/gen/prune.py) ===== -/
def many : Nat → Nat
  | 0 => 3 | 1 => 3 | 2 => 3 | 3 => 1 | 4 => 1 | 5 => 0 | 6 => 1 | _ => 1
