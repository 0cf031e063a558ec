/-! ===== the law's step, ideal flow, and draws (written by wip/p28/gen/pl2.py) ===== -/
set_option maxRecDepth 100000 in
set_option maxHeartbeats 1000000 in
theorem eL_step_0 (X : Nat × (Nat → Int32)) (σ : XH) (u T : Int32) (h : okU T (vT (lTS σ) 0)) (hT : tOK T) : fL_step X [xR 9 3, xI (oN 0), xI u] σ = some (.inl (some (xI (moveV (vT (lTS σ) 0) (demV (vT (lTS σ) 0) u)))), σ) := by
  have h0 := h.1.1
  have h8 := h.1.2.2.2.2.1
  obtain ⟨m1, m2, m3⟩ := stp_eq h0 h8 (dem_rng h.1 u) rfl rfl (thr_nn h hT 1) (thr_nn h hT (-1))
  refine wF_eq ?_
  rw [uL_step]
  refine wI_s (N := 99999) ?_
  refine wF_of (eL_demand_0 X σ u h.1) ?_
  refine And.intro (bE (by decide)) ?_
  refine And.intro (bE (by decide)) ?_
  refine wF_of (eL_hurdle_0 X σ 1 (Or.inl rfl) h.2.1) ?_
  refine And.intro (fun h1 => ?_) (fun h1 => ?_)
  · have h1 : demV (vT (lTS σ) 0) u - (vT (lTS σ) 0) 8 ≤ thrV (vT (lTS σ) 0) 1 := h1
    have h1 := Int32.not_lt.mpr h1
    refine And.intro (fun h2 => ?_) (fun h2 => ?_)
    · have h2 : 0 ≤ demV (vT (lTS σ) 0) u - (vT (lTS σ) 0) 8 := h2
      rw [m3 h1 (fun q => absurd q.1 (Int32.not_lt.mpr h2))]
      rfl
    · have h2 : ¬ 0 ≤ demV (vT (lTS σ) 0) u - (vT (lTS σ) 0) 8 := h2
      refine wF_of (eL_hurdle_0 X σ (-1) (Or.inr rfl) h.2.1) ?_
      refine And.intro (fun h3 => ?_) (fun h3 => ?_)
      · have h3 : -(demV (vT (lTS σ) 0) u - (vT (lTS σ) 0) 8) ≤ thrV (vT (lTS σ) 0) (-1) := h3
        rw [m3 h1 (fun q => absurd q.2 (Int32.not_lt.mpr h3))]
        rfl
      · have h3 : ¬ -(demV (vT (lTS σ) 0) u - (vT (lTS σ) 0) 8) ≤ thrV (vT (lTS σ) 0) (-1) := h3
        rw [m2 h1 ⟨Int32.not_le.mp h2, Int32.not_le.mp h3⟩]
        refine And.intro (fun h4 => ?_) (fun h4 => ?_)
        · have h4 : -((vT (lTS σ) 0) 0) ≤ demV (vT (lTS σ) 0) u - (vT (lTS σ) 0) 8 := h4
          rw [if_neg (Int32.not_lt.mpr h4)]
          rfl
        · have h4 : ¬ -((vT (lTS σ) 0) 0) ≤ demV (vT (lTS σ) 0) u - (vT (lTS σ) 0) 8 := h4
          rw [if_pos (Int32.not_le.mp h4)]
          rfl
  · have h1 : ¬ demV (vT (lTS σ) 0) u - (vT (lTS σ) 0) 8 ≤ thrV (vT (lTS σ) 0) 1 := h1
    rw [m1 (Int32.not_le.mp h1)]
    refine And.intro (fun h2 => ?_) (fun h2 => ?_)
    · have h2 : demV (vT (lTS σ) 0) u - (vT (lTS σ) 0) 8 ≤ (vT (lTS σ) 0) 0 := h2
      rw [if_neg (Int32.not_lt.mpr h2)]
      rfl
    · have h2 : ¬ demV (vT (lTS σ) 0) u - (vT (lTS σ) 0) 8 ≤ (vT (lTS σ) 0) 0 := h2
      rw [if_pos (Int32.not_le.mp h2)]
      rfl
set_option maxRecDepth 100000 in
set_option maxHeartbeats 1000000 in
theorem eL_step_1 (X : Nat × (Nat → Int32)) (σ : XH) (u T : Int32) (h : okU T (vT (lTS σ) 1)) (hT : tOK T) : fL_step X [xR 9 3, xI (oN 1), xI u] σ = some (.inl (some (xI (moveV (vT (lTS σ) 1) (demV (vT (lTS σ) 1) u)))), σ) := by
  have h0 := h.1.1
  have h8 := h.1.2.2.2.2.1
  obtain ⟨m1, m2, m3⟩ := stp_eq h0 h8 (dem_rng h.1 u) rfl rfl (thr_nn h hT 1) (thr_nn h hT (-1))
  refine wF_eq ?_
  rw [uL_step]
  refine wI_s (N := 99999) ?_
  refine wF_of (eL_demand_1 X σ u h.1) ?_
  refine And.intro (bE (by decide)) ?_
  refine And.intro (bE (by decide)) ?_
  refine wF_of (eL_hurdle_1 X σ 1 (Or.inl rfl) h.2.1) ?_
  refine And.intro (fun h1 => ?_) (fun h1 => ?_)
  · have h1 : demV (vT (lTS σ) 1) u - (vT (lTS σ) 1) 8 ≤ thrV (vT (lTS σ) 1) 1 := h1
    have h1 := Int32.not_lt.mpr h1
    refine And.intro (fun h2 => ?_) (fun h2 => ?_)
    · have h2 : 0 ≤ demV (vT (lTS σ) 1) u - (vT (lTS σ) 1) 8 := h2
      rw [m3 h1 (fun q => absurd q.1 (Int32.not_lt.mpr h2))]
      rfl
    · have h2 : ¬ 0 ≤ demV (vT (lTS σ) 1) u - (vT (lTS σ) 1) 8 := h2
      refine wF_of (eL_hurdle_1 X σ (-1) (Or.inr rfl) h.2.1) ?_
      refine And.intro (fun h3 => ?_) (fun h3 => ?_)
      · have h3 : -(demV (vT (lTS σ) 1) u - (vT (lTS σ) 1) 8) ≤ thrV (vT (lTS σ) 1) (-1) := h3
        rw [m3 h1 (fun q => absurd q.2 (Int32.not_lt.mpr h3))]
        rfl
      · have h3 : ¬ -(demV (vT (lTS σ) 1) u - (vT (lTS σ) 1) 8) ≤ thrV (vT (lTS σ) 1) (-1) := h3
        rw [m2 h1 ⟨Int32.not_le.mp h2, Int32.not_le.mp h3⟩]
        refine And.intro (fun h4 => ?_) (fun h4 => ?_)
        · have h4 : -((vT (lTS σ) 1) 0) ≤ demV (vT (lTS σ) 1) u - (vT (lTS σ) 1) 8 := h4
          rw [if_neg (Int32.not_lt.mpr h4)]
          rfl
        · have h4 : ¬ -((vT (lTS σ) 1) 0) ≤ demV (vT (lTS σ) 1) u - (vT (lTS σ) 1) 8 := h4
          rw [if_pos (Int32.not_le.mp h4)]
          rfl
  · have h1 : ¬ demV (vT (lTS σ) 1) u - (vT (lTS σ) 1) 8 ≤ thrV (vT (lTS σ) 1) 1 := h1
    rw [m1 (Int32.not_le.mp h1)]
    refine And.intro (fun h2 => ?_) (fun h2 => ?_)
    · have h2 : demV (vT (lTS σ) 1) u - (vT (lTS σ) 1) 8 ≤ (vT (lTS σ) 1) 0 := h2
      rw [if_neg (Int32.not_lt.mpr h2)]
      rfl
    · have h2 : ¬ demV (vT (lTS σ) 1) u - (vT (lTS σ) 1) 8 ≤ (vT (lTS σ) 1) 0 := h2
      rw [if_pos (Int32.not_le.mp h2)]
      rfl
set_option maxRecDepth 100000 in
set_option maxHeartbeats 1000000 in
theorem eL_ideal (X : Nat × (Nat → Int32)) (σ : XH) (u : Int32) (h0 : okV (vT (lTS σ) 0)) (h1 : okV (vT (lTS σ) 1)) : fL_ideal X [xR 9 3, xI u] σ = some (.inl (some (xI (idealT (lTS σ) u))), σ) := by
  have c0 := h0.2.1
  have c1 := h1.2.1
  have e0 : ∀ x y : Int32, x = idV (vT (lTS σ) 0) u → y = idV (vT (lTS σ) 1) u → x + y = idealT (lTS σ) u := fun x y p q => by
    unfold idealT
    rw [p, q]
    show idV (vT (lTS σ) 0) u + idV (vT (lTS σ) 1) u = 0 + idV (vT (lTS σ) 0) u + idV (vT (lTS σ) 1) u
    grind
  refine wF_eq ?_
  rw [uL_ideal]
  refine wI_s (N := 99999) ?_
  refine wF_of (eL_demand_0 X σ u h0) ?_
  refine wF_of (eL_demand_1 X σ u h1) ?_
  refine And.intro (fun a => ?_) (fun a => ?_)
  · have a : demV (vT (lTS σ) 0) u ≤ 0 := a
    have ea : (0 : Int32) = idV (vT (lTS σ) 0) u := by
      unfold idV
      rw [if_neg (Int32.not_lt.mpr a)]
    refine And.intro (fun b => ?_) (fun b => ?_)
    · have b : demV (vT (lTS σ) 1) u ≤ 0 := b
      have eb : (0 : Int32) = idV (vT (lTS σ) 1) u := by
        unfold idV
        rw [if_neg (Int32.not_lt.mpr b)]
      exact congrArg (fun z => (Sum.inl (some (xI z)), σ)) (e0 _ _ ea eb)
    · have b : ¬ demV (vT (lTS σ) 1) u ≤ 0 := b
      have eb : thruV (vT (lTS σ) 1) (demV (vT (lTS σ) 1) u) = idV (vT (lTS σ) 1) u := by
        unfold idV
        rw [if_pos (Int32.not_le.mp b)]
      refine wF_of (eL_open_1 X σ (demV (vT (lTS σ) 1) u) c1) ?_
      exact congrArg (fun z => (Sum.inl (some (xI z)), σ)) (e0 _ _ ea eb)
  · have a : ¬ demV (vT (lTS σ) 0) u ≤ 0 := a
    have ea : thruV (vT (lTS σ) 0) (demV (vT (lTS σ) 0) u) = idV (vT (lTS σ) 0) u := by
      unfold idV
      rw [if_pos (Int32.not_le.mp a)]
    refine wF_of (eL_open_0 X σ (demV (vT (lTS σ) 0) u) c0) ?_
    refine And.intro (fun b => ?_) (fun b => ?_)
    · have b : demV (vT (lTS σ) 1) u ≤ 0 := b
      have eb : (0 : Int32) = idV (vT (lTS σ) 1) u := by
        unfold idV
        rw [if_neg (Int32.not_lt.mpr b)]
      exact congrArg (fun z => (Sum.inl (some (xI z)), σ)) (e0 _ _ ea eb)
    · have b : ¬ demV (vT (lTS σ) 1) u ≤ 0 := b
      have eb : thruV (vT (lTS σ) 1) (demV (vT (lTS σ) 1) u) = idV (vT (lTS σ) 1) u := by
        unfold idV
        rw [if_pos (Int32.not_le.mp b)]
      refine wF_of (eL_open_1 X σ (demV (vT (lTS σ) 1) u) c1) ?_
      exact congrArg (fun z => (Sum.inl (some (xI z)), σ)) (e0 _ _ ea eb)
set_option maxRecDepth 100000 in
set_option maxHeartbeats 1000000 in
theorem eL_low (X : Nat × (Nat → Int32)) (σ : XH) (v n : Int32) (h : n ≠ 0) : fL_low X [xI v, xI n] σ = some (.inl (some (xI (lowI v n))), σ) := by
  refine wF_eq ?_
  rw [uL_low]
  refine wI_s (N := 99999) ?_
  refine And.intro h ?_
  rfl
set_option maxRecDepth 100000 in
set_option maxHeartbeats 1000000 in
theorem eL_cell (X : Nat × (Nat → Int32)) (σ : XH) (k : Nat) (hk : k < 1000) (hX : X.1 ≤ 260) : ∃ x, fL_cell X [xR 15 0, xI (oN k)] σ = some (.inl (some (xI (x))), σ) := by
  by_cases h : k < X.1
  · refine ⟨X.2 k, ?_⟩
    refine wF_eq ?_
    rw [uL_cell]
    refine wI_s (N := 99999) ?_
    refine And.intro (fun q => ?_) (fun q => ?_)
    · have q : oN X.1 ≤ oN k := q
      rw [oN_le (by omega) (by omega)] at q
      omega
    · refine And.intro ⟨oN_nn (by omega), by rw [oN_nat (by omega)]; exact h⟩ ?_
      show (Sum.inl (some (xI (X.2 (oN k).toNatClampNeg))), σ) = _
      rw [oN_nat (by omega)]
  · refine ⟨40503 * (oN k + 3), ?_⟩
    refine wF_eq ?_
    rw [uL_cell]
    refine wI_s (N := 99999) ?_
    refine And.intro (fun q => ?_) (fun q => ?_)
    · rfl
    · refine absurd ?_ q
      show oN X.1 ≤ oN k
      rw [oN_le (by omega) (by omega)]
      omega
