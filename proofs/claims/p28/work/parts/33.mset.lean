/-! ===== pure words of the class (out of the proof of whole, by wip/p28/gen/prune.py) ===== -/
def gR (a b : Int32) : Prop := 0 ≤ a ∧ a < b ∧ b ≤ 1000
def rngV (V : Nat → Int32) (a b f : Int32) : Nat → Int32 := updF (updF (updF V 5 a) 6 b) 7 (if f = 0 then 0 else 1)
/-- the values of settings -/
def gS (w x : Int32) : Prop := (w = 0 ∧ 1 ≤ x ∧ x ≤ 1000) ∨ ((w = 1 ∨ w = 2) ∧ 0 ≤ x ∧ x ≤ 300) ∨ (w = 3 ∧ 0 ≤ x ∧ x ≤ 1000) ∨ (w = 4 ∧ 0 ≤ x ∧ x ≤ 2)
def gC4 (w x : Int32) : Prop := (w = 0 ∧ 0 ≤ x ∧ x ≤ 1) ∨ (w = 1 ∧ -10000 ≤ x ∧ x ≤ 10000) ∨ (w = 2 ∧ 0 ≤ x ∧ x ≤ 2000) ∨ (w = 3 ∧ 1 ≤ x ∧ x ≤ 1000)
theorem i01 {c : Prop} [Decidable c] : (if c then (1 : Int32) else 0) = 0 ∨ (if c then (1 : Int32) else 0) = 1 := by
  split
  · exact Or.inr rfl
  · exact Or.inl rfl
def srvV (V : Nat → Int32) : Nat → Int32 := updF (updF (updF V 11 0) 12 0) 15 (V 15 + 1)
def stmV (V : Nat → Int32) (p : Int32) : Nat → Int32 := updF (updF (updF V 8 p) 9 0) 10 0
