/-! ===== the reference's copies (written by wip/whole/gen/pure5.py) ===== -/
/-- k numbers of the row b, from ob on, into the row a, from oa on -/
def cpS (σ : XH) (a oa b ob k : Nat) : XH := (fun c j i => if c = 9 ∧ j = a ∧ oa ≤ i ∧ i < oa + k then σ.1 9 b (ob + (i - oa)) else σ.1 c j i, σ.2)
theorem cpS_0 (σ : XH) (a oa b ob : Nat) : cpS σ a oa b ob 0 = σ := by
  unfold cpS
  refine Prod.ext (funext fun c => funext fun j => funext fun i => ?_) rfl
  dsimp only
  rw [if_neg (by omega)]
theorem cpS_s (σ : XH) (a oa b ob k : Nat) : xuI (cpS σ a oa b ob k) 9 a (oa + k) (σ.1 9 b (ob + k)) = cpS σ a oa b ob (k + 1) := by
  unfold cpS xuI
  refine Prod.ext (funext fun c => funext fun j => funext fun i => ?_) rfl
  dsimp only
  grind
set_option maxRecDepth 100000 in
set_option maxHeartbeats 4000000 in
theorem lX8_hold_1 (X : Nat × (Nat → Int32)) (σ : XH) (k : Nat) (hk : k < 102) : xExec X (xEnv (nX8_hold X)) (fun _ _ => some none) 4 [(2, [0, 1])] tX8_hold 1000 (xPc tX8_hold 2) [(0, xR 7 0), (1, xI (oN k))] [] (cpS σ 4 0 2 0 k) 0 = some (.inr (2, [(0, xR 7 0), (1, xI (oN (k + 1)))], cpS σ 4 0 2 0 (k + 1), 0)) := by
  have q1 : ¬ (102 : Int32) ≤ oN k := fun h => by
    have := (oN_le (a := 102) (by decide) (by omega)).mp h
    omega
  have q2 : (oN k).toNatClampNeg = k := oN_nat (by omega)
  have q4 : (0 : Int32) ≤ oN k := oN_nn (by omega)
  have q8 : (cpS σ 4 0 2 0 k).1 9 2 k = σ.1 9 2 k := by
    unfold cpS
    dsimp only
    rw [if_neg (by omega)]
  have q9 := cpS_s σ 4 0 2 0 k
  simp only [Nat.zero_add] at q9
  rw [← q9]
  simp [↓pX8_hold_0, ↓pX8_hold_1, ↓pX8_hold_2, ↓pX8_hold_3, ↓pX8_hold_5, ↓pX8_hold_8, ↓pX8_hold_9, ↓pX8_hold_12, ↓pX8_hold_13, ↓pX8_hold_14, ↓pX8_hold_17, ↓pX8_hold_18, ↓pX8_hold_19, ↓pX8_hold_20, ↓pX8_hold_23, ↓pX8_hold_26, ↓xkI, ↓xkL, ↓xkA, ↓xsI, ↓xsL, ↓xsA, ↓xbI, ↓xbD, ↓xbL, ↓xc1, ↓xc2, ↓xgF, ↓xpF, ↓xgA, ↓xpA, ↓xgLA, ↓xpLA, ↓xgRA, ↓xgLen, xBnd, ↓xGoTo, ↓xRet, ↓xRetL, ↓xRetA, ↓xRetV, ↓xNew, ↓xlg, ↓xl1, ↓xl2, xk1, xk2, ↓xcat, ↓xws, ↓xStopAt, ↓xStopOut, ↓xpick, ↓xfg, ↓xfk, ↓xrho, ↓xlen, ↓xSw, ↓List.filter, q1, q2, q4, q8, hk, oN_1]
set_option maxRecDepth 100000 in
set_option maxHeartbeats 4000000 in
theorem lX8_hold_2 (X : Nat × (Nat → Int32)) (σ : XH) : xExec X (xEnv (nX8_hold X)) (fun _ _ => some none) 4 [(2, [0, 1])] tX8_hold 1000 (xPc tX8_hold 2) [(0, xR 7 0), (1, xI (oN 102))] [] σ 0 = some (.inl (.inl none, σ)) := by
  have q1 : (102 : Int32) ≤ oN 102 := by decide
  simp [↓pX8_hold_0, ↓pX8_hold_1, ↓pX8_hold_2, ↓pX8_hold_3, ↓pX8_hold_5, ↓pX8_hold_8, ↓pX8_hold_9, ↓pX8_hold_12, ↓pX8_hold_13, ↓pX8_hold_14, ↓pX8_hold_17, ↓pX8_hold_18, ↓pX8_hold_19, ↓pX8_hold_20, ↓pX8_hold_23, ↓pX8_hold_26, ↓xkI, ↓xkL, ↓xkA, ↓xsI, ↓xsL, ↓xsA, ↓xbI, ↓xbD, ↓xbL, ↓xc1, ↓xc2, ↓xgF, ↓xpF, ↓xgA, ↓xpA, ↓xgLA, ↓xpLA, ↓xgRA, ↓xgLen, xBnd, ↓xGoTo, ↓xRet, ↓xRetL, ↓xRetA, ↓xRetV, ↓xNew, ↓xlg, ↓xl1, ↓xl2, xk1, xk2, ↓xcat, ↓xws, ↓xStopAt, ↓xStopOut, ↓xpick, ↓xfg, ↓xfk, ↓xrho, ↓xlen, ↓xSw, ↓List.filter, q1]
set_option maxRecDepth 100000 in
set_option maxHeartbeats 4000000 in
theorem lX8_hold_3 (X : Nat × (Nat → Int32)) (σ : XH) : ∀ (m k N : Nat), k + m = 102 → xIter X (xEnv (nX8_hold X)) (fun _ _ => some none) 4 [(2, [0, 1])] tX8_hold (N + 1 + m) (2, [(0, xR 7 0), (1, xI (oN k))], cpS σ 4 0 2 0 k, 0) = some (.inl none, cpS σ 4 0 2 0 102) := by
  intro m
  induction m with
  | zero =>
    intro k N h
    have h2 : k = 102 := by omega
    subst h2
    exact xDone (n := N) (lX8_hold_2 X _)
  | succ m ih =>
    intro k N h
    exact (xNext (n := N + 1 + m) (lX8_hold_1 X σ k (by omega))).trans (ih (k + 1) N (by omega))
set_option maxRecDepth 100000 in
set_option maxHeartbeats 4000000 in
theorem lX8_hold_0 (X : Nat × (Nat → Int32)) (σ : XH) : xExec X (xEnv (nX8_hold X)) (fun _ _ => some none) 4 [(2, [0, 1])] tX8_hold 1000 (xPc tX8_hold 0) [(0, xR 7 0)] [] σ 0 = some (.inr (2, [(0, xR 7 0), (1, xI (oN 0))], σ, 0)) := by
  simp [↓pX8_hold_0, ↓pX8_hold_1, ↓pX8_hold_2, ↓pX8_hold_3, ↓pX8_hold_5, ↓pX8_hold_8, ↓pX8_hold_9, ↓pX8_hold_12, ↓pX8_hold_13, ↓pX8_hold_14, ↓pX8_hold_17, ↓pX8_hold_18, ↓pX8_hold_19, ↓pX8_hold_20, ↓pX8_hold_23, ↓pX8_hold_26, ↓xkI, ↓xkL, ↓xkA, ↓xsI, ↓xsL, ↓xsA, ↓xbI, ↓xbD, ↓xbL, ↓xc1, ↓xc2, ↓xgF, ↓xpF, ↓xgA, ↓xpA, ↓xgLA, ↓xpLA, ↓xgRA, ↓xgLen, xBnd, ↓xGoTo, ↓xRet, ↓xRetL, ↓xRetA, ↓xRetV, ↓xNew, ↓xlg, ↓xl1, ↓xl2, xk1, xk2, ↓xcat, ↓xws, ↓xStopAt, ↓xStopOut, ↓xpick, ↓xfg, ↓xfk, ↓xrho, ↓xlen, ↓xSw, ↓List.filter]
  rfl
set_option maxRecDepth 100000 in
set_option maxHeartbeats 4000000 in
theorem eX8_hold (X : Nat × (Nat → Int32)) (σ : XH) : fX8_hold X [xR 7 0] σ = some (.inl none, cpS σ 4 0 2 0 102) := by
  have h := lX8_hold_3 X σ 102 0 99896 (by omega)
  rw [cpS_0] at h
  exact (uX8_hold _ _ _).trans ((xNext (n := 99999) (lX8_hold_0 X σ)).trans h)
set_option maxRecDepth 100000 in
set_option maxHeartbeats 4000000 in
theorem lX8_restore_1 (X : Nat × (Nat → Int32)) (σ : XH) (k : Nat) (hk : k < 102) : xExec X (xEnv (nX8_restore X)) (fun _ _ => some none) 4 [(2, [0, 1])] tX8_restore 1000 (xPc tX8_restore 2) [(0, xR 7 0), (1, xI (oN k))] [] (cpS σ 2 0 4 0 k) 0 = some (.inr (2, [(0, xR 7 0), (1, xI (oN (k + 1)))], cpS σ 2 0 4 0 (k + 1), 0)) := by
  have q1 : ¬ (102 : Int32) ≤ oN k := fun h => by
    have := (oN_le (a := 102) (by decide) (by omega)).mp h
    omega
  have q2 : (oN k).toNatClampNeg = k := oN_nat (by omega)
  have q4 : (0 : Int32) ≤ oN k := oN_nn (by omega)
  have q8 : (cpS σ 2 0 4 0 k).1 9 4 k = σ.1 9 4 k := by
    unfold cpS
    dsimp only
    rw [if_neg (by omega)]
  have q9 := cpS_s σ 2 0 4 0 k
  simp only [Nat.zero_add] at q9
  rw [← q9]
  simp [↓pX8_restore_0, ↓pX8_restore_1, ↓pX8_restore_2, ↓pX8_restore_3, ↓pX8_restore_5, ↓pX8_restore_8, ↓pX8_restore_9, ↓pX8_restore_12, ↓pX8_restore_13, ↓pX8_restore_14, ↓pX8_restore_17, ↓pX8_restore_18, ↓pX8_restore_19, ↓pX8_restore_20, ↓pX8_restore_23, ↓pX8_restore_26, ↓xkI, ↓xkL, ↓xkA, ↓xsI, ↓xsL, ↓xsA, ↓xbI, ↓xbD, ↓xbL, ↓xc1, ↓xc2, ↓xgF, ↓xpF, ↓xgA, ↓xpA, ↓xgLA, ↓xpLA, ↓xgRA, ↓xgLen, xBnd, ↓xGoTo, ↓xRet, ↓xRetL, ↓xRetA, ↓xRetV, ↓xNew, ↓xlg, ↓xl1, ↓xl2, xk1, xk2, ↓xcat, ↓xws, ↓xStopAt, ↓xStopOut, ↓xpick, ↓xfg, ↓xfk, ↓xrho, ↓xlen, ↓xSw, ↓List.filter, q1, q2, q4, q8, hk, oN_1]
set_option maxRecDepth 100000 in
set_option maxHeartbeats 4000000 in
theorem lX8_restore_2 (X : Nat × (Nat → Int32)) (σ : XH) : xExec X (xEnv (nX8_restore X)) (fun _ _ => some none) 4 [(2, [0, 1])] tX8_restore 1000 (xPc tX8_restore 2) [(0, xR 7 0), (1, xI (oN 102))] [] σ 0 = some (.inl (.inl none, σ)) := by
  have q1 : (102 : Int32) ≤ oN 102 := by decide
  simp [↓pX8_restore_0, ↓pX8_restore_1, ↓pX8_restore_2, ↓pX8_restore_3, ↓pX8_restore_5, ↓pX8_restore_8, ↓pX8_restore_9, ↓pX8_restore_12, ↓pX8_restore_13, ↓pX8_restore_14, ↓pX8_restore_17, ↓pX8_restore_18, ↓pX8_restore_19, ↓pX8_restore_20, ↓pX8_restore_23, ↓pX8_restore_26, ↓xkI, ↓xkL, ↓xkA, ↓xsI, ↓xsL, ↓xsA, ↓xbI, ↓xbD, ↓xbL, ↓xc1, ↓xc2, ↓xgF, ↓xpF, ↓xgA, ↓xpA, ↓xgLA, ↓xpLA, ↓xgRA, ↓xgLen, xBnd, ↓xGoTo, ↓xRet, ↓xRetL, ↓xRetA, ↓xRetV, ↓xNew, ↓xlg, ↓xl1, ↓xl2, xk1, xk2, ↓xcat, ↓xws, ↓xStopAt, ↓xStopOut, ↓xpick, ↓xfg, ↓xfk, ↓xrho, ↓xlen, ↓xSw, ↓List.filter, q1]
set_option maxRecDepth 100000 in
set_option maxHeartbeats 4000000 in
theorem lX8_restore_3 (X : Nat × (Nat → Int32)) (σ : XH) : ∀ (m k N : Nat), k + m = 102 → xIter X (xEnv (nX8_restore X)) (fun _ _ => some none) 4 [(2, [0, 1])] tX8_restore (N + 1 + m) (2, [(0, xR 7 0), (1, xI (oN k))], cpS σ 2 0 4 0 k, 0) = some (.inl none, cpS σ 2 0 4 0 102) := by
  intro m
  induction m with
  | zero =>
    intro k N h
    have h2 : k = 102 := by omega
    subst h2
    exact xDone (n := N) (lX8_restore_2 X _)
  | succ m ih =>
    intro k N h
    exact (xNext (n := N + 1 + m) (lX8_restore_1 X σ k (by omega))).trans (ih (k + 1) N (by omega))
set_option maxRecDepth 100000 in
set_option maxHeartbeats 4000000 in
theorem lX8_restore_0 (X : Nat × (Nat → Int32)) (σ : XH) : xExec X (xEnv (nX8_restore X)) (fun _ _ => some none) 4 [(2, [0, 1])] tX8_restore 1000 (xPc tX8_restore 0) [(0, xR 7 0)] [] σ 0 = some (.inr (2, [(0, xR 7 0), (1, xI (oN 0))], σ, 0)) := by
  simp [↓pX8_restore_0, ↓pX8_restore_1, ↓pX8_restore_2, ↓pX8_restore_3, ↓pX8_restore_5, ↓pX8_restore_8, ↓pX8_restore_9, ↓pX8_restore_12, ↓pX8_restore_13, ↓pX8_restore_14, ↓pX8_restore_17, ↓pX8_restore_18, ↓pX8_restore_19, ↓pX8_restore_20, ↓pX8_restore_23, ↓pX8_restore_26, ↓xkI, ↓xkL, ↓xkA, ↓xsI, ↓xsL, ↓xsA, ↓xbI, ↓xbD, ↓xbL, ↓xc1, ↓xc2, ↓xgF, ↓xpF, ↓xgA, ↓xpA, ↓xgLA, ↓xpLA, ↓xgRA, ↓xgLen, xBnd, ↓xGoTo, ↓xRet, ↓xRetL, ↓xRetA, ↓xRetV, ↓xNew, ↓xlg, ↓xl1, ↓xl2, xk1, xk2, ↓xcat, ↓xws, ↓xStopAt, ↓xStopOut, ↓xpick, ↓xfg, ↓xfk, ↓xrho, ↓xlen, ↓xSw, ↓List.filter]
  rfl
set_option maxRecDepth 100000 in
set_option maxHeartbeats 4000000 in
theorem eX8_restore (X : Nat × (Nat → Int32)) (σ : XH) : fX8_restore X [xR 7 0] σ = some (.inl none, cpS σ 2 0 4 0 102) := by
  have h := lX8_restore_3 X σ 102 0 99896 (by omega)
  rw [cpS_0] at h
  exact (uX8_restore _ _ _).trans ((xNext (n := 99999) (lX8_restore_0 X σ)).trans h)
set_option maxRecDepth 100000 in
set_option maxHeartbeats 4000000 in
theorem eX8_tells (X : Nat × (Nat → Int32)) (σ : XH) (v : Int32) : fX8_tells X [xR 7 0, xI v] σ = some (.inl (some (.inl v)), xuI σ 7 0 6 0) := by
  rw [uX8_tells]
  refine xDone ?_
  simp [↓pX8_tells_0, ↓pX8_tells_1, ↓pX8_tells_2, ↓pX8_tells_5, ↓pX8_tells_6, ↓xkI, ↓xkL, ↓xkA, ↓xsI, ↓xsL, ↓xsA, ↓xbI, ↓xbD, ↓xbL, ↓xc1, ↓xc2, ↓xgF, ↓xpF, ↓xgA, ↓xpA, ↓xgLA, ↓xpLA, ↓xgRA, ↓xgLen, xBnd, ↓xGoTo, ↓xRet, ↓xRetL, ↓xRetA, ↓xRetV, ↓xNew, ↓xlg, ↓xl1, ↓xl2, xk1, xk2, ↓xcat, ↓xws, ↓xStopAt, ↓xStopOut, ↓xpick, ↓xfg, ↓xfk, ↓xrho, ↓xlen, ↓xSw, ↓List.filter]
set_option maxRecDepth 100000 in
set_option maxHeartbeats 4000000 in
theorem eX8_fails (X : Nat × (Nat → Int32)) (σ : XH) (v : Int32) : fX8_fails X [xR 7 0, xI v] σ = some (.inl (some (.inl 0)), xuI σ 7 0 6 v) := by
  rw [uX8_fails]
  refine xDone ?_
  simp [↓pX8_fails_0, ↓pX8_fails_1, ↓pX8_fails_2, ↓pX8_fails_5, ↓pX8_fails_6, ↓xkI, ↓xkL, ↓xkA, ↓xsI, ↓xsL, ↓xsA, ↓xbI, ↓xbD, ↓xbL, ↓xc1, ↓xc2, ↓xgF, ↓xpF, ↓xgA, ↓xpA, ↓xgLA, ↓xpLA, ↓xgRA, ↓xgLen, xBnd, ↓xGoTo, ↓xRet, ↓xRetL, ↓xRetA, ↓xRetV, ↓xNew, ↓xlg, ↓xl1, ↓xl2, xk1, xk2, ↓xcat, ↓xws, ↓xStopAt, ↓xStopOut, ↓xpick, ↓xfg, ↓xfk, ↓xrho, ↓xlen, ↓xSw, ↓List.filter]
set_option maxRecDepth 100000 in
set_option maxHeartbeats 4000000 in
theorem eX8_thrown (X : Nat × (Nat → Int32)) (σ : XH) : fX8_thrown X [xR 7 0] σ = some (.inl (some (.inl (σ.1 7 0 6))), σ) := by
  rw [uX8_thrown]
  refine xDone ?_
  simp [↓pX8_thrown_0, ↓pX8_thrown_1, ↓pX8_thrown_4, ↓xkI, ↓xkL, ↓xkA, ↓xsI, ↓xsL, ↓xsA, ↓xbI, ↓xbD, ↓xbL, ↓xc1, ↓xc2, ↓xgF, ↓xpF, ↓xgA, ↓xpA, ↓xgLA, ↓xpLA, ↓xgRA, ↓xgLen, xBnd, ↓xGoTo, ↓xRet, ↓xRetL, ↓xRetA, ↓xRetV, ↓xNew, ↓xlg, ↓xl1, ↓xl2, xk1, xk2, ↓xcat, ↓xws, ↓xStopAt, ↓xStopOut, ↓xpick, ↓xfg, ↓xfk, ↓xrho, ↓xlen, ↓xSw, ↓List.filter]
set_option maxRecDepth 100000 in
set_option maxHeartbeats 4000000 in
theorem eX8_exchanges (X : Nat × (Nat → Int32)) (σ : XH) (p x : Int32) (h : 0 ≤ p ∧ p.toNatClampNeg < 102) : fX8_exchanges X [xR 7 0, xI p, xI x] σ = some (.inl (some (.inl 0)), xuI (xuI σ 7 0 9 (σ.1 9 2 p.toNatClampNeg)) 9 2 p.toNatClampNeg x) := by
  rw [uX8_exchanges]
  refine xDone ?_
  simp [↓pX8_exchanges_0, ↓pX8_exchanges_1, ↓pX8_exchanges_2, ↓pX8_exchanges_5, ↓pX8_exchanges_6, ↓pX8_exchanges_7, ↓pX8_exchanges_10, ↓pX8_exchanges_11, ↓pX8_exchanges_14, ↓pX8_exchanges_15, ↓pX8_exchanges_16, ↓pX8_exchanges_17, ↓pX8_exchanges_18, ↓xkI, ↓xkL, ↓xkA, ↓xsI, ↓xsL, ↓xsA, ↓xbI, ↓xbD, ↓xbL, ↓xc1, ↓xc2, ↓xgF, ↓xpF, ↓xgA, ↓xpA, ↓xgLA, ↓xpLA, ↓xgRA, ↓xgLen, xBnd, ↓xGoTo, ↓xRet, ↓xRetL, ↓xRetA, ↓xRetV, ↓xNew, ↓xlg, ↓xl1, ↓xl2, xk1, xk2, ↓xcat, ↓xws, ↓xStopAt, ↓xStopOut, ↓xpick, ↓xfg, ↓xfk, ↓xrho, ↓xlen, ↓xSw, ↓List.filter, h]
