/-! ===== the numbers of a command ===== -/
theorem pOK_cg0 {t : TS} {g g' : Nat → Int32} (h0 : g 0 = g' 0) (h1 : g 1 = g' 1) (h2 : g 2 = g' 2) : (pOK t 0 g ↔ pOK t 0 g') ∧ exT t 0 g = exT t 0 g' := by
  constructor
  · show ((0 ≤ g 0 ∧ g 0 ≤ 1) ∧ gR (g 1) (g 2)) ↔ ((0 ≤ g' 0 ∧ g' 0 ≤ 1) ∧ gR (g' 1) (g' 2))
    rw [h0, h1, h2]
  · show setV t (g 0).toNatClampNeg (rngV (vT t (g 0).toNatClampNeg) (g 1) (g 2) 0) = setV t (g' 0).toNatClampNeg (rngV (vT t (g' 0).toNatClampNeg) (g' 1) (g' 2) 0)
    rw [h0, h1, h2]
theorem pOK_cg1 {t : TS} {g g' : Nat → Int32} (h0 : g 0 = g' 0) (h1 : g 1 = g' 1) (h2 : g 2 = g' 2) : (pOK t 1 g ↔ pOK t 1 g') ∧ exT t 1 g = exT t 1 g' := by
  constructor
  · show ((0 ≤ g 0 ∧ g 0 ≤ 1) ∧ gR (g 1) (g 2)) ↔ ((0 ≤ g' 0 ∧ g' 0 ≤ 1) ∧ gR (g' 1) (g' 2))
    rw [h0, h1, h2]
  · show setV t (g 0).toNatClampNeg (rngV (vT t (g 0).toNatClampNeg) (g 1) (g 2) 1) = setV t (g' 0).toNatClampNeg (rngV (vT t (g' 0).toNatClampNeg) (g' 1) (g' 2) 1)
    rw [h0, h1, h2]
theorem pOK_cg2 {t : TS} {g g' : Nat → Int32} (h0 : g 0 = g' 0) (h1 : g 1 = g' 1) (h2 : g 2 = g' 2) : (pOK t 2 g ↔ pOK t 2 g') ∧ exT t 2 g = exT t 2 g' := by
  constructor
  · show ((0 ≤ g 0 ∧ g 0 ≤ 1) ∧ gS (g 1) (g 2)) ↔ ((0 ≤ g' 0 ∧ g' 0 ≤ 1) ∧ gS (g' 1) (g' 2))
    rw [h0, h1, h2]
  · show setV t (g 0).toNatClampNeg (updF (vT t (g 0).toNatClampNeg) (g 1).toNatClampNeg (g 2)) = setV t (g' 0).toNatClampNeg (updF (vT t (g' 0).toNatClampNeg) (g' 1).toNatClampNeg (g' 2))
    rw [h0, h1, h2]
theorem pOK_cg3 {t : TS} {g g' : Nat → Int32} (h0 : g 0 = g' 0) : (pOK t 3 g ↔ pOK t 3 g') ∧ exT t 3 g = exT t 3 g' := by
  constructor
  · show (0 ≤ g 0 ∧ g 0 ≤ 1000) ↔ (0 ≤ g' 0 ∧ g' 0 ≤ 1000)
    rw [h0]
  · show (updF t.1 0 (g 0), t.2) = (updF t.1 0 (g' 0), t.2)
    rw [h0]
theorem pOK_cg4 {t : TS} {g g' : Nat → Int32} (h0 : g 0 = g' 0) : (pOK t 4 g ↔ pOK t 4 g') ∧ exT t 4 g = exT t 4 g' := by
  constructor
  · show (gC4 2 (g 0)) ↔ (gC4 2 (g' 0))
    rw [h0]
  · show (updF (updF t.1 3 (g 0)) 1 1, t.2) = (updF (updF t.1 3 (g' 0)) 1 1, t.2)
    rw [h0]
theorem pOK_cg5 {t : TS} {g g' : Nat → Int32} : (pOK t 5 g ↔ pOK t 5 g') ∧ exT t 5 g = exT t 5 g' := by
  have e : ∀ u : Nat → Int32, exT t 5 u = (updF t.1 1 0, t.2) := fun _ => rfl
  rw [e, e]
  exact ⟨⟨fun _ => trivial, fun _ => trivial⟩, rfl⟩
theorem pOK_cg6 {t : TS} {g g' : Nat → Int32} (h0 : g 0 = g' 0) : (pOK t 6 g ↔ pOK t 6 g') ∧ exT t 6 g = exT t 6 g' := by
  constructor
  · show (0 ≤ g 0 ∧ g 0 ≤ 1) ↔ (0 ≤ g' 0 ∧ g' 0 ≤ 1)
    rw [h0]
  · show setV t (g 0).toNatClampNeg (srvV (vT t (g 0).toNatClampNeg)) = setV t (g' 0).toNatClampNeg (srvV (vT t (g' 0).toNatClampNeg))
    rw [h0]
theorem pOK_cg7 {t : TS} {g g' : Nat → Int32} (h0 : g 0 = g' 0) : (pOK t 7 g ↔ pOK t 7 g') ∧ exT t 7 g = exT t 7 g' := by
  constructor
  · show ((1 ≤ g 0 ∧ g 0 ≤ 500) ∧ t.1 5 + g 0 ≤ 200000) ↔ ((1 ≤ g' 0 ∧ g' 0 ≤ 500) ∧ t.1 5 + g' 0 ≤ 200000)
    rw [h0]
  · show itT t (g 0).toNatClampNeg = itT t (g' 0).toNatClampNeg
    rw [h0]
theorem pOK_cg {t : TS} {g g' : Nat → Int32} : ∀ k, k < 8 → (∀ i, i < many k → g i = g' i) → (pOK t k g ↔ pOK t k g') ∧ exT t k g = exT t k g'
  | 0, _, h => pOK_cg0 (h 0 (by decide)) (h 1 (by decide)) (h 2 (by decide))
  | 1, _, h => pOK_cg1 (h 0 (by decide)) (h 1 (by decide)) (h 2 (by decide))
  | 2, _, h => pOK_cg2 (h 0 (by decide)) (h 1 (by decide)) (h 2 (by decide))
  | 3, _, h => pOK_cg3 (h 0 (by decide))
  | 4, _, h => pOK_cg4 (h 0 (by decide))
  | 5, _, h => pOK_cg5
  | 6, _, h => pOK_cg6 (h 0 (by decide))
  | 7, _, h => pOK_cg7 (h 0 (by decide))
  | n + 8, q, _ => absurd q (by omega)
