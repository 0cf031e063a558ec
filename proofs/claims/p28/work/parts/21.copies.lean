/-! ===== pure words of the class (out of the proof of whole, by wip/p28/gen/prune.py) ===== -/
/-- k numbers of the row b, from ob on, into the row a, from oa on -/
def cpS (σ : XH) (a oa b ob k : Nat) : XH := (fun c j i => if c = 9 ∧ j = a ∧ oa ≤ i ∧ i < oa + k then σ.1 9 b (ob + (i - oa)) else σ.1 c j i, σ.2)
