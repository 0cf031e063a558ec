/-! ===== the law's small methods (written by wip/p28/gen/pl1.py) ===== -/
set_option maxRecDepth 100000 in
set_option maxHeartbeats 1000000 in
theorem eL_down (X : Nat × (Nat → Int32)) (σ : XH) (a b : Int32) (hb : 0 < b) : fL_down X [xI a, xI b] σ = some (.inl (some (xI (flI a b))), σ) := by
  refine wF_eq ?_
  rw [uL_down]
  refine wI_s (N := 99999) ?_
  have hb0 : ¬ b = 0 := fun e => absurd hb (by rw [e]; decide)
  refine And.intro hb0 ?_
  refine And.intro (fun h => ?_) (fun h => ?_)
  · show (_ : XR × XH) = _
    unfold flI
    rw [if_neg ((dn_iff hb).mp h)]
  · show (_ : XR × XH) = _
    unfold flI
    rw [if_pos (Classical.not_not.mp fun q => h ((dn_iff hb).mpr q))]
    rfl
set_option maxRecDepth 100000 in
set_option maxHeartbeats 1000000 in
theorem eL_near (X : Nat × (Nat → Int32)) (σ : XH) (v l m : Int32) (h : l ≤ m) : fL_near X [xI v, xI l, xI m] σ = some (.inl (some (xI (inI v l m))), σ) := by
  refine wF_eq ?_
  rw [uL_near]
  refine wI_s (N := 99999) ?_
  have e1 : v ≤ l → l < m → l = inI v l m := fun a b => by unfold inI; grind
  have e2 : v ≤ l → ¬ l < m → m = inI v l m := fun a b => by unfold inI; grind
  have e3 : ¬ v ≤ l → v < m → v = inI v l m := fun a b => by unfold inI; grind
  have e4 : ¬ v ≤ l → ¬ v < m → m = inI v l m := fun a b => by unfold inI; grind
  refine And.intro (fun h1 => ?_) (fun h1 => ?_)
  · refine And.intro (fun h2 => ?_) (fun h2 => ?_)
    · exact congrArg (fun z => (Sum.inl (some (xI z)), σ)) (e2 h1 (Int32.not_lt.mpr h2))
    · exact congrArg (fun z => (Sum.inl (some (xI z)), σ)) (e1 h1 (Int32.not_le.mp h2))
  · refine And.intro (fun h2 => ?_) (fun h2 => ?_)
    · exact congrArg (fun z => (Sum.inl (some (xI z)), σ)) (e4 h1 (Int32.not_lt.mpr h2))
    · exact congrArg (fun z => (Sum.inl (some (xI z)), σ)) (e3 h1 (Int32.not_le.mp h2))
set_option maxRecDepth 100000 in
set_option maxHeartbeats 1000000 in
theorem eL_wear_0 (X : Nat × (Nat → Int32)) (σ : XH) : fL_wear X [xR 9 3, xI (oN 0)] σ = some (.inl (some (xI (wearV (vT (lTS σ) 0)))), σ) := by
  refine wF_eq ?_
  rw [uL_wear]
  refine wI_s (N := 99999) ?_
  refine And.intro (bE (by decide)) ?_
  refine And.intro (by decide) ?_
  refine And.intro (bE (by decide)) ?_
  rfl
set_option maxRecDepth 100000 in
set_option maxHeartbeats 1000000 in
theorem eL_hurdle_0 (X : Nat × (Nat → Int32)) (σ : XH) (w : Int32) (hw : w = 1 ∨ w = -1) (h9 : (vT (lTS σ) 0) 9 = -1 ∨ (vT (lTS σ) 0) 9 = 0 ∨ (vT (lTS σ) 0) 9 = 1) : fL_hurdle X [xR 9 3, xI (oN 0), xI w] σ = some (.inl (some (xI (thrV (vT (lTS σ) 0) w))), σ) := by
  have hx : ((vT (lTS σ) 0) 9 = -w) ↔ w * (vT (lTS σ) 0) 9 < 0 := by
    rcases hw with rfl | rfl <;> rcases h9 with h | h | h <;> rw [h] <;> decide
  have a1 : 0 ≤ w * (vT (lTS σ) 0) 9 → thrV (vT (lTS σ) 0) w = if (vT (lTS σ) 0) 10 = 1 ∧ w = (vT (lTS σ) 0) 9 then 0 else (vT (lTS σ) 0) 1 + wearV (vT (lTS σ) 0) / 50 + 0 := fun h => by
    unfold thrV
    rw [if_neg (fun q => absurd (hx.mp q) (Int32.not_lt.mpr h))]
  have a2 : ¬ 0 ≤ w * (vT (lTS σ) 0) 9 → thrV (vT (lTS σ) 0) w = if (vT (lTS σ) 0) 10 = 1 ∧ w = (vT (lTS σ) 0) 9 then 0 else (vT (lTS σ) 0) 1 + wearV (vT (lTS σ) 0) / 50 + (vT (lTS σ) 0) 2 := fun h => by
    unfold thrV
    rw [if_pos (hx.mpr (Int32.not_le.mp h))]
  refine wF_eq ?_
  rw [uL_hurdle]
  refine wI_s (N := 99999) ?_
  refine And.intro (bE (by decide)) ?_
  refine And.intro (bE (by decide)) ?_
  refine wF_of (eL_wear_0 X σ) ?_
  refine And.intro (by decide) ?_
  refine And.intro (fun h1 => ?_) (fun h1 => ?_)
  · have h1 : 0 ≤ w * (vT (lTS σ) 0) 9 := h1
    rw [a1 h1]
    refine And.intro (bE (by decide)) ?_
    refine And.intro (fun h2 => ?_) (fun h2 => ?_)
    · have h2 : (vT (lTS σ) 0) 10 = 1 := h2
      refine And.intro (fun h3 => ?_) (fun h3 => ?_)
      · have h3 : (vT (lTS σ) 0) 9 = w := h3
        rw [if_pos ⟨h2, h3.symm⟩]
        rfl
      · have h3 : ¬ (vT (lTS σ) 0) 9 = w := h3
        rw [if_neg (fun q => h3 q.2.symm)]
        rfl
    · have h2 : ¬ (vT (lTS σ) 0) 10 = 1 := h2
      rw [if_neg (fun q => h2 q.1)]
      rfl
  · have h1 : ¬ 0 ≤ w * (vT (lTS σ) 0) 9 := h1
    rw [a2 h1]
    refine And.intro (bE (by decide)) ?_
    refine And.intro (bE (by decide)) ?_
    refine And.intro (fun h2 => ?_) (fun h2 => ?_)
    · have h2 : (vT (lTS σ) 0) 10 = 1 := h2
      refine And.intro (fun h3 => ?_) (fun h3 => ?_)
      · have h3 : (vT (lTS σ) 0) 9 = w := h3
        rw [if_pos ⟨h2, h3.symm⟩]
        rfl
      · have h3 : ¬ (vT (lTS σ) 0) 9 = w := h3
        rw [if_neg (fun q => h3 q.2.symm)]
        rfl
    · have h2 : ¬ (vT (lTS σ) 0) 10 = 1 := h2
      rw [if_neg (fun q => h2 q.1)]
      rfl
set_option maxRecDepth 100000 in
set_option maxHeartbeats 1000000 in
theorem eL_demand_0 (X : Nat × (Nat → Int32)) (σ : XH) (u : Int32) (h : okV (vT (lTS σ) 0)) : fL_demand X [xR 9 3, xI (oN 0), xI u] σ = some (.inl (some (xI (demV (vT (lTS σ) 0) u))), σ) := by
  obtain ⟨-, -, ⟨h5, h56, h6⟩, h7, -⟩ := h
  have hb : 0 < (vT (lTS σ) 0) 6 - (vT (lTS σ) 0) 5 := by grind
  refine wF_eq ?_
  rw [uL_demand]
  refine wI_s (N := 99999) ?_
  refine And.intro (bE (by decide)) ?_
  refine And.intro (bE (by decide)) ?_
  refine wF_of (eL_down X σ (1000 * (u - (vT (lTS σ) 0) 5)) ((vT (lTS σ) 0) 6 - (vT (lTS σ) 0) 5) hb) ?_
  refine wF_of (eL_near X σ _ 0 1000 (by decide)) ?_
  refine And.intro (bE (by decide)) ?_
  refine And.intro (fun h1 => ?_) (fun h1 => ?_)
  · have h1 : (vT (lTS σ) 0) 7 = 0 := h1
    have e : ¬ (vT (lTS σ) 0) 7 = 1 := fun q => absurd (h1.symm.trans q) (by decide)
    unfold demV
    rw [if_neg e]
    rfl
  · have h1 : ¬ (vT (lTS σ) 0) 7 = 0 := h1
    have e : (vT (lTS σ) 0) 7 = 1 := h7.resolve_left h1
    unfold demV
    rw [if_pos e]
    rfl
set_option maxRecDepth 100000 in
set_option maxHeartbeats 1000000 in
theorem eL_open_0 (X : Nat × (Nat → Int32)) (σ : XH) (p : Int32) (h : 0 ≤ (vT (lTS σ) 0) 4 ∧ (vT (lTS σ) 0) 4 ≤ 2) : fL_open X [xR 9 3, xI (oN 0), xI p] σ = some (.inl (some (xI (thruV (vT (lTS σ) 0) p))), σ) := by
  have h4 : (vT (lTS σ) 0) 4 = 0 ∨ (vT (lTS σ) 0) 4 = 1 ∨ (vT (lTS σ) 0) 4 = 2 := by grind
  refine wF_eq ?_
  rw [uL_open]
  refine wI_s (N := 99999) ?_
  refine And.intro (bE (by decide)) ?_
  refine And.intro (fun h1 => ?_) (fun h1 => ?_)
  · have h1 : (vT (lTS σ) 0) 4 = 1 := h1
    refine And.intro (by decide) ?_
    refine And.intro (bE (by decide)) ?_
    refine And.intro (by decide) ?_
    unfold thruV openV
    rw [if_neg (fun q => absurd (h1.symm.trans q) (by decide)), if_pos h1]
    rfl
  · have h1 : ¬ (vT (lTS σ) 0) 4 = 1 := h1
    refine And.intro (fun h2 => ?_) (fun h2 => ?_)
    · have h2 : (vT (lTS σ) 0) 4 = 2 := h2
      refine And.intro (by decide) ?_
      refine And.intro (bE (by decide)) ?_
      refine And.intro (by decide) ?_
      unfold thruV openV
      rw [if_neg (fun q => absurd (h2.symm.trans q) (by decide)), if_neg h1]
      rfl
    · have h2 : ¬ (vT (lTS σ) 0) 4 = 2 := h2
      have h0 : (vT (lTS σ) 0) 4 = 0 := h4.resolve_right (fun q => q.elim h1 h2)
      refine And.intro (bE (by decide)) ?_
      refine And.intro (by decide) ?_
      unfold thruV openV
      rw [if_pos h0]
      rfl
set_option maxRecDepth 100000 in
set_option maxHeartbeats 1000000 in
theorem eL_flow_0 (X : Nat × (Nat → Int32)) (σ : XH) (h : 0 ≤ (vT (lTS σ) 0) 4 ∧ (vT (lTS σ) 0) 4 ≤ 2) : fL_flow X [xR 9 3, xI (oN 0)] σ = some (.inl (some (xI (flowV (vT (lTS σ) 0)))), σ) := by
  refine wF_eq ?_
  rw [uL_flow]
  refine wI_s (N := 99999) ?_
  refine And.intro (bE (by decide)) ?_
  refine wF_of (eL_wear_0 X σ) ?_
  refine And.intro (by decide) ?_
  refine And.intro (fun h1 => ?_) (fun h1 => ?_)
  · have h1 : (vT (lTS σ) 0) 8 ≤ 0 := h1
    unfold flowV
    rw [if_neg (Int32.not_lt.mpr h1)]
    refine And.intro (bE (by decide)) ?_
    refine And.intro (fun h2 => ?_) (fun h2 => ?_)
    · have h2 : wearV (vT (lTS σ) 0) / 20 ≤ (vT (lTS σ) 0) 3 := h2
      by_cases h3 : wearV (vT (lTS σ) 0) / 20 < (vT (lTS σ) 0) 3
      · rw [if_pos h3]
        rfl
      · rw [if_neg h3]
        have e : wearV (vT (lTS σ) 0) / 20 = (vT (lTS σ) 0) 3 := Int32.le_antisymm h2 (Int32.not_lt.mp h3)
        rw [← e]
        rfl
    · have h2 : ¬ wearV (vT (lTS σ) 0) / 20 ≤ (vT (lTS σ) 0) 3 := h2
      refine And.intro (bE (by decide)) ?_
      rw [if_neg (fun q => h2 (Int32.le_of_lt q))]
      rfl
  · have h1 : ¬ (vT (lTS σ) 0) 8 ≤ 0 := h1
    unfold flowV
    rw [if_pos (Int32.not_le.mp h1)]
    refine wF_of (eL_open_0 X σ ((vT (lTS σ) 0) 8) h) ?_
    rfl
set_option maxRecDepth 100000 in
set_option maxHeartbeats 1000000 in
theorem eL_wear_1 (X : Nat × (Nat → Int32)) (σ : XH) : fL_wear X [xR 9 3, xI (oN 1)] σ = some (.inl (some (xI (wearV (vT (lTS σ) 1)))), σ) := by
  refine wF_eq ?_
  rw [uL_wear]
  refine wI_s (N := 99999) ?_
  refine And.intro (bE (by decide)) ?_
  refine And.intro (by decide) ?_
  refine And.intro (bE (by decide)) ?_
  rfl
set_option maxRecDepth 100000 in
set_option maxHeartbeats 1000000 in
theorem eL_hurdle_1 (X : Nat × (Nat → Int32)) (σ : XH) (w : Int32) (hw : w = 1 ∨ w = -1) (h9 : (vT (lTS σ) 1) 9 = -1 ∨ (vT (lTS σ) 1) 9 = 0 ∨ (vT (lTS σ) 1) 9 = 1) : fL_hurdle X [xR 9 3, xI (oN 1), xI w] σ = some (.inl (some (xI (thrV (vT (lTS σ) 1) w))), σ) := by
  have hx : ((vT (lTS σ) 1) 9 = -w) ↔ w * (vT (lTS σ) 1) 9 < 0 := by
    rcases hw with rfl | rfl <;> rcases h9 with h | h | h <;> rw [h] <;> decide
  have a1 : 0 ≤ w * (vT (lTS σ) 1) 9 → thrV (vT (lTS σ) 1) w = if (vT (lTS σ) 1) 10 = 1 ∧ w = (vT (lTS σ) 1) 9 then 0 else (vT (lTS σ) 1) 1 + wearV (vT (lTS σ) 1) / 50 + 0 := fun h => by
    unfold thrV
    rw [if_neg (fun q => absurd (hx.mp q) (Int32.not_lt.mpr h))]
  have a2 : ¬ 0 ≤ w * (vT (lTS σ) 1) 9 → thrV (vT (lTS σ) 1) w = if (vT (lTS σ) 1) 10 = 1 ∧ w = (vT (lTS σ) 1) 9 then 0 else (vT (lTS σ) 1) 1 + wearV (vT (lTS σ) 1) / 50 + (vT (lTS σ) 1) 2 := fun h => by
    unfold thrV
    rw [if_pos (hx.mpr (Int32.not_le.mp h))]
  refine wF_eq ?_
  rw [uL_hurdle]
  refine wI_s (N := 99999) ?_
  refine And.intro (bE (by decide)) ?_
  refine And.intro (bE (by decide)) ?_
  refine wF_of (eL_wear_1 X σ) ?_
  refine And.intro (by decide) ?_
  refine And.intro (fun h1 => ?_) (fun h1 => ?_)
  · have h1 : 0 ≤ w * (vT (lTS σ) 1) 9 := h1
    rw [a1 h1]
    refine And.intro (bE (by decide)) ?_
    refine And.intro (fun h2 => ?_) (fun h2 => ?_)
    · have h2 : (vT (lTS σ) 1) 10 = 1 := h2
      refine And.intro (fun h3 => ?_) (fun h3 => ?_)
      · have h3 : (vT (lTS σ) 1) 9 = w := h3
        rw [if_pos ⟨h2, h3.symm⟩]
        rfl
      · have h3 : ¬ (vT (lTS σ) 1) 9 = w := h3
        rw [if_neg (fun q => h3 q.2.symm)]
        rfl
    · have h2 : ¬ (vT (lTS σ) 1) 10 = 1 := h2
      rw [if_neg (fun q => h2 q.1)]
      rfl
  · have h1 : ¬ 0 ≤ w * (vT (lTS σ) 1) 9 := h1
    rw [a2 h1]
    refine And.intro (bE (by decide)) ?_
    refine And.intro (bE (by decide)) ?_
    refine And.intro (fun h2 => ?_) (fun h2 => ?_)
    · have h2 : (vT (lTS σ) 1) 10 = 1 := h2
      refine And.intro (fun h3 => ?_) (fun h3 => ?_)
      · have h3 : (vT (lTS σ) 1) 9 = w := h3
        rw [if_pos ⟨h2, h3.symm⟩]
        rfl
      · have h3 : ¬ (vT (lTS σ) 1) 9 = w := h3
        rw [if_neg (fun q => h3 q.2.symm)]
        rfl
    · have h2 : ¬ (vT (lTS σ) 1) 10 = 1 := h2
      rw [if_neg (fun q => h2 q.1)]
      rfl
set_option maxRecDepth 100000 in
set_option maxHeartbeats 1000000 in
theorem eL_demand_1 (X : Nat × (Nat → Int32)) (σ : XH) (u : Int32) (h : okV (vT (lTS σ) 1)) : fL_demand X [xR 9 3, xI (oN 1), xI u] σ = some (.inl (some (xI (demV (vT (lTS σ) 1) u))), σ) := by
  obtain ⟨-, -, ⟨h5, h56, h6⟩, h7, -⟩ := h
  have hb : 0 < (vT (lTS σ) 1) 6 - (vT (lTS σ) 1) 5 := by grind
  refine wF_eq ?_
  rw [uL_demand]
  refine wI_s (N := 99999) ?_
  refine And.intro (bE (by decide)) ?_
  refine And.intro (bE (by decide)) ?_
  refine wF_of (eL_down X σ (1000 * (u - (vT (lTS σ) 1) 5)) ((vT (lTS σ) 1) 6 - (vT (lTS σ) 1) 5) hb) ?_
  refine wF_of (eL_near X σ _ 0 1000 (by decide)) ?_
  refine And.intro (bE (by decide)) ?_
  refine And.intro (fun h1 => ?_) (fun h1 => ?_)
  · have h1 : (vT (lTS σ) 1) 7 = 0 := h1
    have e : ¬ (vT (lTS σ) 1) 7 = 1 := fun q => absurd (h1.symm.trans q) (by decide)
    unfold demV
    rw [if_neg e]
    rfl
  · have h1 : ¬ (vT (lTS σ) 1) 7 = 0 := h1
    have e : (vT (lTS σ) 1) 7 = 1 := h7.resolve_left h1
    unfold demV
    rw [if_pos e]
    rfl
set_option maxRecDepth 100000 in
set_option maxHeartbeats 1000000 in
theorem eL_open_1 (X : Nat × (Nat → Int32)) (σ : XH) (p : Int32) (h : 0 ≤ (vT (lTS σ) 1) 4 ∧ (vT (lTS σ) 1) 4 ≤ 2) : fL_open X [xR 9 3, xI (oN 1), xI p] σ = some (.inl (some (xI (thruV (vT (lTS σ) 1) p))), σ) := by
  have h4 : (vT (lTS σ) 1) 4 = 0 ∨ (vT (lTS σ) 1) 4 = 1 ∨ (vT (lTS σ) 1) 4 = 2 := by grind
  refine wF_eq ?_
  rw [uL_open]
  refine wI_s (N := 99999) ?_
  refine And.intro (bE (by decide)) ?_
  refine And.intro (fun h1 => ?_) (fun h1 => ?_)
  · have h1 : (vT (lTS σ) 1) 4 = 1 := h1
    refine And.intro (by decide) ?_
    refine And.intro (bE (by decide)) ?_
    refine And.intro (by decide) ?_
    unfold thruV openV
    rw [if_neg (fun q => absurd (h1.symm.trans q) (by decide)), if_pos h1]
    rfl
  · have h1 : ¬ (vT (lTS σ) 1) 4 = 1 := h1
    refine And.intro (fun h2 => ?_) (fun h2 => ?_)
    · have h2 : (vT (lTS σ) 1) 4 = 2 := h2
      refine And.intro (by decide) ?_
      refine And.intro (bE (by decide)) ?_
      refine And.intro (by decide) ?_
      unfold thruV openV
      rw [if_neg (fun q => absurd (h2.symm.trans q) (by decide)), if_neg h1]
      rfl
    · have h2 : ¬ (vT (lTS σ) 1) 4 = 2 := h2
      have h0 : (vT (lTS σ) 1) 4 = 0 := h4.resolve_right (fun q => q.elim h1 h2)
      refine And.intro (bE (by decide)) ?_
      refine And.intro (by decide) ?_
      unfold thruV openV
      rw [if_pos h0]
      rfl
set_option maxRecDepth 100000 in
set_option maxHeartbeats 1000000 in
theorem eL_flow_1 (X : Nat × (Nat → Int32)) (σ : XH) (h : 0 ≤ (vT (lTS σ) 1) 4 ∧ (vT (lTS σ) 1) 4 ≤ 2) : fL_flow X [xR 9 3, xI (oN 1)] σ = some (.inl (some (xI (flowV (vT (lTS σ) 1)))), σ) := by
  refine wF_eq ?_
  rw [uL_flow]
  refine wI_s (N := 99999) ?_
  refine And.intro (bE (by decide)) ?_
  refine wF_of (eL_wear_1 X σ) ?_
  refine And.intro (by decide) ?_
  refine And.intro (fun h1 => ?_) (fun h1 => ?_)
  · have h1 : (vT (lTS σ) 1) 8 ≤ 0 := h1
    unfold flowV
    rw [if_neg (Int32.not_lt.mpr h1)]
    refine And.intro (bE (by decide)) ?_
    refine And.intro (fun h2 => ?_) (fun h2 => ?_)
    · have h2 : wearV (vT (lTS σ) 1) / 20 ≤ (vT (lTS σ) 1) 3 := h2
      by_cases h3 : wearV (vT (lTS σ) 1) / 20 < (vT (lTS σ) 1) 3
      · rw [if_pos h3]
        rfl
      · rw [if_neg h3]
        have e : wearV (vT (lTS σ) 1) / 20 = (vT (lTS σ) 1) 3 := Int32.le_antisymm h2 (Int32.not_lt.mp h3)
        rw [← e]
        rfl
    · have h2 : ¬ wearV (vT (lTS σ) 1) / 20 ≤ (vT (lTS σ) 1) 3 := h2
      refine And.intro (bE (by decide)) ?_
      rw [if_neg (fun q => h2 (Int32.le_of_lt q))]
      rfl
  · have h1 : ¬ (vT (lTS σ) 1) 8 ≤ 0 := h1
    unfold flowV
    rw [if_pos (Int32.not_le.mp h1)]
    refine wF_of (eL_open_1 X σ ((vT (lTS σ) 1) 8) h) ?_
    rfl
