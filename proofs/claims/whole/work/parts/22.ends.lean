/-! ===== the reference's ends (written by wip/whole/gen/pure6.py) ===== -/
/-- the first k numbers of the past, each from 102 places behind -/
def shP (σ : XH) (k : Nat) : XH := (fun c j i => if c = 9 ∧ j = 3 ∧ i < k then σ.1 9 3 (i + 102) else σ.1 c j i, σ.2)
theorem shP_0 (σ : XH) : shP σ 0 = σ := by
  unfold shP
  refine Prod.ext (funext fun c => funext fun j => funext fun i => ?_) rfl
  dsimp only
  rw [if_neg (by omega)]
theorem shP_s (σ : XH) (k : Nat) : xuI (shP σ k) 9 3 k (σ.1 9 3 (k + 102)) = shP σ (k + 1) := by
  unfold shP xuI
  refine Prod.ext (funext fun c => funext fun j => funext fun i => ?_) rfl
  dsimp only
  grind
set_option maxRecDepth 100000 in
set_option maxHeartbeats 4000000 in
theorem lX8_ends_b1 (X : Nat × (Nat → Int32)) (σ : XH) (v : Int32) (o k : Nat) (hk : k < 102) (ho : o ≤ 306) (hp : 102 * σ.1 7 0 3 = oN o) : xExec X (xEnv (nX8_ends X)) (fun _ _ => some none) 0 [(10, [0, 1, 2]), (50, [0, 1, 2])] tX8_ends 1000 (xPc tX8_ends 50) [(0, xR 7 0), (1, xI v), (2, xI (oN k))] [] (cpS σ 3 o 4 0 k) 0 = some (.inr (50, [(0, xR 7 0), (1, xI v), (2, xI (oN (k + 1)))], cpS σ 3 o 4 0 (k + 1), 0)) := by
  have q1 : ¬ (102 : Int32) ≤ oN k := fun h => by
    have := (oN_le (a := 102) (by decide) (by omega)).mp h
    omega
  have q2 : (oN k).toNatClampNeg = k := oN_nat (by omega)
  have q4 : (0 : Int32) ≤ oN k := oN_nn (by omega)
  have q5 : (oN (o + k)).toNatClampNeg = o + k := oN_nat (by omega)
  have q6 : (0 : Int32) ≤ oN (o + k) := oN_nn (by omega)
  have q7 : (cpS σ 3 o 4 0 k).1 7 0 3 = σ.1 7 0 3 := by
    unfold cpS
    dsimp only
    rw [if_neg (by omega)]
  have q8 : (cpS σ 3 o 4 0 k).1 9 4 k = σ.1 9 4 k := by
    unfold cpS
    dsimp only
    rw [if_neg (by omega)]
  have q10 : o + k < 408 := by omega
  have q9 := cpS_s σ 3 o 4 0 k
  simp only [Nat.zero_add] at q9
  rw [← q9]
  simp [↓pX8_ends_0, ↓pX8_ends_1, ↓pX8_ends_4, ↓pX8_ends_5, ↓pX8_ends_8, ↓pX8_ends_9, ↓pX8_ends_10, ↓pX8_ends_11, ↓pX8_ends_14, ↓pX8_ends_17, ↓pX8_ends_18, ↓pX8_ends_21, ↓pX8_ends_22, ↓pX8_ends_23, ↓pX8_ends_26, ↓pX8_ends_27, ↓pX8_ends_29, ↓pX8_ends_30, ↓pX8_ends_31, ↓pX8_ends_32, ↓pX8_ends_35, ↓pX8_ends_38, ↓pX8_ends_39, ↓pX8_ends_40, ↓pX8_ends_43, ↓pX8_ends_44, ↓pX8_ends_45, ↓pX8_ends_48, ↓pX8_ends_49, ↓pX8_ends_50, ↓pX8_ends_51, ↓pX8_ends_53, ↓pX8_ends_56, ↓pX8_ends_57, ↓pX8_ends_60, ↓pX8_ends_62, ↓pX8_ends_63, ↓pX8_ends_66, ↓pX8_ends_67, ↓pX8_ends_68, ↓pX8_ends_69, ↓pX8_ends_70, ↓pX8_ends_73, ↓pX8_ends_74, ↓pX8_ends_75, ↓pX8_ends_76, ↓pX8_ends_79, ↓pX8_ends_82, ↓pX8_ends_83, ↓pX8_ends_84, ↓pX8_ends_87, ↓pX8_ends_88, ↓pX8_ends_89, ↓pX8_ends_92, ↓pX8_ends_93, ↓pX8_ends_94, ↓pX8_ends_97, ↓xkI, ↓xkL, ↓xkA, ↓xsI, ↓xsL, ↓xsA, ↓xbI, ↓xbD, ↓xbL, ↓xc1, ↓xc2, ↓xgF, ↓xpF, ↓xgA, ↓xpA, ↓xgLA, ↓xpLA, ↓xgRA, ↓xgLen, xBnd, ↓xGoTo, ↓xRet, ↓xRetL, ↓xRetA, ↓xRetV, ↓xNew, ↓xlg, ↓xl1, ↓xl2, xk1, xk2, ↓xcat, ↓xws, ↓xStopAt, ↓xStopOut, ↓xpick, ↓xfg, ↓xfk, ↓xrho, ↓xlen, ↓xSw, ↓List.filter, q1, q2, q4, q5, q6, q7, q8, q10, hk, hp, oN_add, oN_1]
set_option maxRecDepth 100000 in
set_option maxHeartbeats 4000000 in
theorem lX8_ends_a1 (X : Nat × (Nat → Int32)) (σ : XH) (v : Int32) (k : Nat) (hk : k < 306) : xExec X (xEnv (nX8_ends X)) (fun _ _ => some none) 0 [(10, [0, 1, 2]), (50, [0, 1, 2])] tX8_ends 1000 (xPc tX8_ends 10) [(0, xR 7 0), (1, xI v), (2, xI (oN k))] [] (shP σ k) 0 = some (.inr (10, [(0, xR 7 0), (1, xI v), (2, xI (oN (k + 1)))], shP σ (k + 1), 0)) := by
  have q1 : ¬ (306 : Int32) ≤ oN k := fun h => by
    have := (oN_le (a := 306) (by decide) (by omega)).mp h
    omega
  have q2 : (oN k).toNatClampNeg = k := oN_nat (by omega)
  have q4 : (0 : Int32) ≤ oN k := oN_nn (by omega)
  have q0 : oN k + 102 = oN (k + 102) := (oN_add k 102)
  have q5 : (oN (k + 102)).toNatClampNeg = k + 102 := oN_nat (by omega)
  have q6 : (0 : Int32) ≤ oN (k + 102) := oN_nn (by omega)
  have q8 : (shP σ k).1 9 3 (k + 102) = σ.1 9 3 (k + 102) := by
    unfold shP
    dsimp only
    rw [if_neg (by omega)]
  have q10 : k + 102 < 408 := by omega
  have q11 : k < 408 := by omega
  rw [← shP_s]
  simp [↓pX8_ends_0, ↓pX8_ends_1, ↓pX8_ends_4, ↓pX8_ends_5, ↓pX8_ends_8, ↓pX8_ends_9, ↓pX8_ends_10, ↓pX8_ends_11, ↓pX8_ends_14, ↓pX8_ends_17, ↓pX8_ends_18, ↓pX8_ends_21, ↓pX8_ends_22, ↓pX8_ends_23, ↓pX8_ends_26, ↓pX8_ends_27, ↓pX8_ends_29, ↓pX8_ends_30, ↓pX8_ends_31, ↓pX8_ends_32, ↓pX8_ends_35, ↓pX8_ends_38, ↓pX8_ends_39, ↓pX8_ends_40, ↓pX8_ends_43, ↓pX8_ends_44, ↓pX8_ends_45, ↓pX8_ends_48, ↓pX8_ends_49, ↓pX8_ends_50, ↓pX8_ends_51, ↓pX8_ends_53, ↓pX8_ends_56, ↓pX8_ends_57, ↓pX8_ends_60, ↓pX8_ends_62, ↓pX8_ends_63, ↓pX8_ends_66, ↓pX8_ends_67, ↓pX8_ends_68, ↓pX8_ends_69, ↓pX8_ends_70, ↓pX8_ends_73, ↓pX8_ends_74, ↓pX8_ends_75, ↓pX8_ends_76, ↓pX8_ends_79, ↓pX8_ends_82, ↓pX8_ends_83, ↓pX8_ends_84, ↓pX8_ends_87, ↓pX8_ends_88, ↓pX8_ends_89, ↓pX8_ends_92, ↓pX8_ends_93, ↓pX8_ends_94, ↓pX8_ends_97, ↓xkI, ↓xkL, ↓xkA, ↓xsI, ↓xsL, ↓xsA, ↓xbI, ↓xbD, ↓xbL, ↓xc1, ↓xc2, ↓xgF, ↓xpF, ↓xgA, ↓xpA, ↓xgLA, ↓xpLA, ↓xgRA, ↓xgLen, xBnd, ↓xGoTo, ↓xRet, ↓xRetL, ↓xRetA, ↓xRetV, ↓xNew, ↓xlg, ↓xl1, ↓xl2, xk1, xk2, ↓xcat, ↓xws, ↓xStopAt, ↓xStopOut, ↓xpick, ↓xfg, ↓xfk, ↓xrho, ↓xlen, ↓xSw, ↓List.filter, q0, q1, q2, q4, q5, q6, q8, q10, q11, hk, oN_1]
set_option maxRecDepth 100000 in
set_option maxHeartbeats 4000000 in
theorem lX8_ends_b2 (X : Nat × (Nat → Int32)) (σ : XH) (v : Int32) (m : Nat) (hm : m ≤ 3) (hp : σ.1 7 0 3 = oN m) : xExec X (xEnv (nX8_ends X)) (fun _ _ => some none) 0 [(10, [0, 1, 2]), (50, [0, 1, 2])] tX8_ends 1000 (xPc tX8_ends 50) [(0, xR 7 0), (1, xI v), (2, xI (oN 102))] [] σ 0 = some (.inl (.inl (some (.inl v)), xuI (xuI σ 7 0 3 (oN (m + 1))) 7 0 6 0)) := by
  have q1 : (102 : Int32) ≤ oN 102 := by decide
  simp [↓pX8_ends_0, ↓pX8_ends_1, ↓pX8_ends_4, ↓pX8_ends_5, ↓pX8_ends_8, ↓pX8_ends_9, ↓pX8_ends_10, ↓pX8_ends_11, ↓pX8_ends_14, ↓pX8_ends_17, ↓pX8_ends_18, ↓pX8_ends_21, ↓pX8_ends_22, ↓pX8_ends_23, ↓pX8_ends_26, ↓pX8_ends_27, ↓pX8_ends_29, ↓pX8_ends_30, ↓pX8_ends_31, ↓pX8_ends_32, ↓pX8_ends_35, ↓pX8_ends_38, ↓pX8_ends_39, ↓pX8_ends_40, ↓pX8_ends_43, ↓pX8_ends_44, ↓pX8_ends_45, ↓pX8_ends_48, ↓pX8_ends_49, ↓pX8_ends_50, ↓pX8_ends_51, ↓pX8_ends_53, ↓pX8_ends_56, ↓pX8_ends_57, ↓pX8_ends_60, ↓pX8_ends_62, ↓pX8_ends_63, ↓pX8_ends_66, ↓pX8_ends_67, ↓pX8_ends_68, ↓pX8_ends_69, ↓pX8_ends_70, ↓pX8_ends_73, ↓pX8_ends_74, ↓pX8_ends_75, ↓pX8_ends_76, ↓pX8_ends_79, ↓pX8_ends_82, ↓pX8_ends_83, ↓pX8_ends_84, ↓pX8_ends_87, ↓pX8_ends_88, ↓pX8_ends_89, ↓pX8_ends_92, ↓pX8_ends_93, ↓pX8_ends_94, ↓pX8_ends_97, ↓xkI, ↓xkL, ↓xkA, ↓xsI, ↓xsL, ↓xsA, ↓xbI, ↓xbD, ↓xbL, ↓xc1, ↓xc2, ↓xgF, ↓xpF, ↓xgA, ↓xpA, ↓xgLA, ↓xpLA, ↓xgRA, ↓xgLen, xBnd, ↓xGoTo, ↓xRet, ↓xRetL, ↓xRetA, ↓xRetV, ↓xNew, ↓xlg, ↓xl1, ↓xl2, xk1, xk2, ↓xcat, ↓xws, ↓xStopAt, ↓xStopOut, ↓xpick, ↓xfg, ↓xfk, ↓xrho, ↓xlen, ↓xSw, ↓List.filter, q1, hp, oN_1, eX8_tells]
set_option maxRecDepth 100000 in
set_option maxHeartbeats 4000000 in
theorem lX8_ends_a2 (X : Nat × (Nat → Int32)) (σ : XH) (v : Int32) (h : σ.1 7 0 3 = 4) : xExec X (xEnv (nX8_ends X)) (fun _ _ => some none) 0 [(10, [0, 1, 2]), (50, [0, 1, 2])] tX8_ends 1000 (xPc tX8_ends 10) [(0, xR 7 0), (1, xI v), (2, xI (oN 306))] [] σ 0 = some (.inr (50, [(0, xR 7 0), (1, xI v), (2, xI (oN 0))], xuI σ 7 0 3 3, 0)) := by
  have q1 : (306 : Int32) ≤ oN 306 := by decide
  simp [↓pX8_ends_0, ↓pX8_ends_1, ↓pX8_ends_4, ↓pX8_ends_5, ↓pX8_ends_8, ↓pX8_ends_9, ↓pX8_ends_10, ↓pX8_ends_11, ↓pX8_ends_14, ↓pX8_ends_17, ↓pX8_ends_18, ↓pX8_ends_21, ↓pX8_ends_22, ↓pX8_ends_23, ↓pX8_ends_26, ↓pX8_ends_27, ↓pX8_ends_29, ↓pX8_ends_30, ↓pX8_ends_31, ↓pX8_ends_32, ↓pX8_ends_35, ↓pX8_ends_38, ↓pX8_ends_39, ↓pX8_ends_40, ↓pX8_ends_43, ↓pX8_ends_44, ↓pX8_ends_45, ↓pX8_ends_48, ↓pX8_ends_49, ↓pX8_ends_50, ↓pX8_ends_51, ↓pX8_ends_53, ↓pX8_ends_56, ↓pX8_ends_57, ↓pX8_ends_60, ↓pX8_ends_62, ↓pX8_ends_63, ↓pX8_ends_66, ↓pX8_ends_67, ↓pX8_ends_68, ↓pX8_ends_69, ↓pX8_ends_70, ↓pX8_ends_73, ↓pX8_ends_74, ↓pX8_ends_75, ↓pX8_ends_76, ↓pX8_ends_79, ↓pX8_ends_82, ↓pX8_ends_83, ↓pX8_ends_84, ↓pX8_ends_87, ↓pX8_ends_88, ↓pX8_ends_89, ↓pX8_ends_92, ↓pX8_ends_93, ↓pX8_ends_94, ↓pX8_ends_97, ↓xkI, ↓xkL, ↓xkA, ↓xsI, ↓xsL, ↓xsA, ↓xbI, ↓xbD, ↓xbL, ↓xc1, ↓xc2, ↓xgF, ↓xpF, ↓xgA, ↓xpA, ↓xgLA, ↓xpLA, ↓xgRA, ↓xgLen, xBnd, ↓xGoTo, ↓xRet, ↓xRetL, ↓xRetA, ↓xRetV, ↓xNew, ↓xlg, ↓xl1, ↓xl2, xk1, xk2, ↓xcat, ↓xws, ↓xStopAt, ↓xStopOut, ↓xpick, ↓xfg, ↓xfk, ↓xrho, ↓xlen, ↓xSw, ↓List.filter, q1, h]
  rfl
set_option maxRecDepth 100000 in
set_option maxHeartbeats 4000000 in
theorem lX8_ends_b3 (X : Nat × (Nat → Int32)) (σ : XH) (v : Int32) (o : Nat) (ho : o ≤ 306) (hp : 102 * σ.1 7 0 3 = oN o) : ∀ (m k N : Nat), k + m = 102 → xIter X (xEnv (nX8_ends X)) (fun _ _ => some none) 0 [(10, [0, 1, 2]), (50, [0, 1, 2])] tX8_ends (N + 1 + m) (50, [(0, xR 7 0), (1, xI v), (2, xI (oN k))], cpS σ 3 o 4 0 k, 0) = xIter X (xEnv (nX8_ends X)) (fun _ _ => some none) 0 [(10, [0, 1, 2]), (50, [0, 1, 2])] tX8_ends (N + 1) (50, [(0, xR 7 0), (1, xI v), (2, xI (oN 102))], cpS σ 3 o 4 0 102, 0) := by
  intro m
  induction m with
  | zero =>
    intro k N h
    have h2 : k = 102 := by omega
    subst h2
    rfl
  | succ m ih =>
    intro k N h
    exact (xNext (n := N + 1 + m) (lX8_ends_b1 X σ v o k (by omega) ho hp)).trans (ih (k + 1) N (by omega))
set_option maxRecDepth 100000 in
set_option maxHeartbeats 4000000 in
theorem lX8_ends_a3 (X : Nat × (Nat → Int32)) (σ : XH) (v : Int32) : ∀ (m k N : Nat), k + m = 306 → xIter X (xEnv (nX8_ends X)) (fun _ _ => some none) 0 [(10, [0, 1, 2]), (50, [0, 1, 2])] tX8_ends (N + 1 + m) (10, [(0, xR 7 0), (1, xI v), (2, xI (oN k))], shP σ k, 0) = xIter X (xEnv (nX8_ends X)) (fun _ _ => some none) 0 [(10, [0, 1, 2]), (50, [0, 1, 2])] tX8_ends (N + 1) (10, [(0, xR 7 0), (1, xI v), (2, xI (oN 306))], shP σ 306, 0) := by
  intro m
  induction m with
  | zero =>
    intro k N h
    have h2 : k = 306 := by omega
    subst h2
    rfl
  | succ m ih =>
    intro k N h
    exact (xNext (n := N + 1 + m) (lX8_ends_a1 X σ v k (by omega))).trans (ih (k + 1) N (by omega))
set_option maxRecDepth 100000 in
set_option maxHeartbeats 4000000 in
theorem lX8_ends_0 (X : Nat × (Nat → Int32)) (σ : XH) (v : Int32) (h : σ.1 7 0 3 = 4) : xExec X (xEnv (nX8_ends X)) (fun _ _ => some none) 0 [(10, [0, 1, 2]), (50, [0, 1, 2])] tX8_ends 1000 (xPc tX8_ends 0) [(0, xR 7 0), (1, xI v)] [] σ 0 = some (.inr (10, [(0, xR 7 0), (1, xI v), (2, xI (oN 0))], σ, 0)) := by
  simp [↓pX8_ends_0, ↓pX8_ends_1, ↓pX8_ends_4, ↓pX8_ends_5, ↓pX8_ends_8, ↓pX8_ends_9, ↓pX8_ends_10, ↓pX8_ends_11, ↓pX8_ends_14, ↓pX8_ends_17, ↓pX8_ends_18, ↓pX8_ends_21, ↓pX8_ends_22, ↓pX8_ends_23, ↓pX8_ends_26, ↓pX8_ends_27, ↓pX8_ends_29, ↓pX8_ends_30, ↓pX8_ends_31, ↓pX8_ends_32, ↓pX8_ends_35, ↓pX8_ends_38, ↓pX8_ends_39, ↓pX8_ends_40, ↓pX8_ends_43, ↓pX8_ends_44, ↓pX8_ends_45, ↓pX8_ends_48, ↓pX8_ends_49, ↓pX8_ends_50, ↓pX8_ends_51, ↓pX8_ends_53, ↓pX8_ends_56, ↓pX8_ends_57, ↓pX8_ends_60, ↓pX8_ends_62, ↓pX8_ends_63, ↓pX8_ends_66, ↓pX8_ends_67, ↓pX8_ends_68, ↓pX8_ends_69, ↓pX8_ends_70, ↓pX8_ends_73, ↓pX8_ends_74, ↓pX8_ends_75, ↓pX8_ends_76, ↓pX8_ends_79, ↓pX8_ends_82, ↓pX8_ends_83, ↓pX8_ends_84, ↓pX8_ends_87, ↓pX8_ends_88, ↓pX8_ends_89, ↓pX8_ends_92, ↓pX8_ends_93, ↓pX8_ends_94, ↓pX8_ends_97, ↓xkI, ↓xkL, ↓xkA, ↓xsI, ↓xsL, ↓xsA, ↓xbI, ↓xbD, ↓xbL, ↓xc1, ↓xc2, ↓xgF, ↓xpF, ↓xgA, ↓xpA, ↓xgLA, ↓xpLA, ↓xgRA, ↓xgLen, xBnd, ↓xGoTo, ↓xRet, ↓xRetL, ↓xRetA, ↓xRetV, ↓xNew, ↓xlg, ↓xl1, ↓xl2, xk1, xk2, ↓xcat, ↓xws, ↓xStopAt, ↓xStopOut, ↓xpick, ↓xfg, ↓xfk, ↓xrho, ↓xlen, ↓xSw, ↓List.filter, h]
  rfl
set_option maxRecDepth 100000 in
set_option maxHeartbeats 4000000 in
theorem lX8_ends_0n (X : Nat × (Nat → Int32)) (σ : XH) (v : Int32) (h : σ.1 7 0 3 ≠ 4) : xExec X (xEnv (nX8_ends X)) (fun _ _ => some none) 0 [(10, [0, 1, 2]), (50, [0, 1, 2])] tX8_ends 1000 (xPc tX8_ends 0) [(0, xR 7 0), (1, xI v)] [] σ 0 = some (.inr (50, [(0, xR 7 0), (1, xI v), (2, xI (oN 0))], σ, 0)) := by
  simp [↓pX8_ends_0, ↓pX8_ends_1, ↓pX8_ends_4, ↓pX8_ends_5, ↓pX8_ends_8, ↓pX8_ends_9, ↓pX8_ends_10, ↓pX8_ends_11, ↓pX8_ends_14, ↓pX8_ends_17, ↓pX8_ends_18, ↓pX8_ends_21, ↓pX8_ends_22, ↓pX8_ends_23, ↓pX8_ends_26, ↓pX8_ends_27, ↓pX8_ends_29, ↓pX8_ends_30, ↓pX8_ends_31, ↓pX8_ends_32, ↓pX8_ends_35, ↓pX8_ends_38, ↓pX8_ends_39, ↓pX8_ends_40, ↓pX8_ends_43, ↓pX8_ends_44, ↓pX8_ends_45, ↓pX8_ends_48, ↓pX8_ends_49, ↓pX8_ends_50, ↓pX8_ends_51, ↓pX8_ends_53, ↓pX8_ends_56, ↓pX8_ends_57, ↓pX8_ends_60, ↓pX8_ends_62, ↓pX8_ends_63, ↓pX8_ends_66, ↓pX8_ends_67, ↓pX8_ends_68, ↓pX8_ends_69, ↓pX8_ends_70, ↓pX8_ends_73, ↓pX8_ends_74, ↓pX8_ends_75, ↓pX8_ends_76, ↓pX8_ends_79, ↓pX8_ends_82, ↓pX8_ends_83, ↓pX8_ends_84, ↓pX8_ends_87, ↓pX8_ends_88, ↓pX8_ends_89, ↓pX8_ends_92, ↓pX8_ends_93, ↓pX8_ends_94, ↓pX8_ends_97, ↓xkI, ↓xkL, ↓xkA, ↓xsI, ↓xsL, ↓xsA, ↓xbI, ↓xbD, ↓xbL, ↓xc1, ↓xc2, ↓xgF, ↓xpF, ↓xgA, ↓xpA, ↓xgLA, ↓xpLA, ↓xgRA, ↓xgLen, xBnd, ↓xGoTo, ↓xRet, ↓xRetL, ↓xRetA, ↓xRetV, ↓xNew, ↓xlg, ↓xl1, ↓xl2, xk1, xk2, ↓xcat, ↓xws, ↓xStopAt, ↓xStopOut, ↓xpick, ↓xfg, ↓xfk, ↓xrho, ↓xlen, ↓xSw, ↓List.filter, h]
  rfl
set_option maxRecDepth 100000 in
set_option maxHeartbeats 4000000 in
theorem lX8_ends_b (X : Nat × (Nat → Int32)) (σ : XH) (v : Int32) (m N : Nat) (hm : m ≤ 3) (hp : σ.1 7 0 3 = oN m) : xIter X (xEnv (nX8_ends X)) (fun _ _ => some none) 0 [(10, [0, 1, 2]), (50, [0, 1, 2])] tX8_ends (N + 1 + 102) (50, [(0, xR 7 0), (1, xI v), (2, xI (oN 0))], σ, 0) = some (.inl (some (.inl v)), xuI (xuI (cpS σ 3 (102 * m) 4 0 102) 7 0 3 (oN (m + 1))) 7 0 6 0) := by
  have h1 : (102 : Int32) * σ.1 7 0 3 = oN (102 * m) := by
    rw [hp]
    have h2 : m = 0 ∨ m = 1 ∨ m = 2 ∨ m = 3 := by omega
    rcases h2 with h2 | h2 | h2 | h2 <;> subst h2 <;> decide
  have h3 := lX8_ends_b3 X σ v (102 * m) (by omega) h1 102 0 N rfl
  rw [cpS_0] at h3
  have h4 : (cpS σ 3 (102 * m) 4 0 102).1 7 0 3 = oN m := by
    unfold cpS
    dsimp only
    rw [if_neg (by omega)]
    exact hp
  exact h3.trans (xDone (n := N) (lX8_ends_b2 X _ v m hm h4))
set_option maxRecDepth 100000 in
set_option maxHeartbeats 4000000 in
theorem eX8_ends_n (X : Nat × (Nat → Int32)) (σ : XH) (v : Int32) (m : Nat) (hm : m ≤ 3) (hp : σ.1 7 0 3 = oN m) : fX8_ends X [xR 7 0, xI v] σ = some (.inl (some (.inl v)), xuI (xuI (cpS σ 3 (102 * m) 4 0 102) 7 0 3 (oN (m + 1))) 7 0 6 0) := by
  have h0 : σ.1 7 0 3 ≠ 4 := by
    rw [hp]
    have h2 : m = 0 ∨ m = 1 ∨ m = 2 ∨ m = 3 := by omega
    rcases h2 with h2 | h2 | h2 | h2 <;> subst h2 <;> decide
  exact (uX8_ends _ _ _ _).trans ((xNext (n := 99999) (lX8_ends_0n X σ v h0)).trans (lX8_ends_b X σ v m 99896 hm hp))
set_option maxRecDepth 100000 in
set_option maxHeartbeats 4000000 in
theorem eX8_ends_4 (X : Nat × (Nat → Int32)) (σ : XH) (v : Int32) (h : σ.1 7 0 3 = 4) : fX8_ends X [xR 7 0, xI v] σ = some (.inl (some (.inl v)), xuI (xuI (cpS (xuI (shP σ 306) 7 0 3 3) 3 306 4 0 102) 7 0 3 4) 7 0 6 0) := by
  have h3 := lX8_ends_a3 X σ v 306 0 99692 rfl
  rw [shP_0] at h3
  have h4 : (shP σ 306).1 7 0 3 = 4 := by
    unfold shP
    dsimp only
    rw [if_neg (by omega)]
    exact h
  exact (uX8_ends _ _ _ _).trans ((xNext (n := 99999) (lX8_ends_0 X σ v h)).trans (h3.trans ((xNext (n := 99692) (lX8_ends_a2 X _ v h4)).trans (lX8_ends_b X _ v 3 99589 (by omega) rfl))))
set_option maxRecDepth 100000 in
set_option maxHeartbeats 4000000 in
theorem lX8_undo_1 (X : Nat × (Nat → Int32)) (σ : XH) (o k : Nat) (hk : k < 102) (ho : o ≤ 306) (hp : 102 * σ.1 7 0 3 = oN o) : xExec X (xEnv (nX8_undo X)) (fun _ _ => some none) 0 [(25, [0, 1])] tX8_undo 1000 (xPc tX8_undo 25) [(0, xR 7 0), (1, xI (oN k))] [] (cpS σ 2 0 3 o k) 0 = some (.inr (25, [(0, xR 7 0), (1, xI (oN (k + 1)))], cpS σ 2 0 3 o (k + 1), 0)) := by
  have q1 : ¬ (102 : Int32) ≤ oN k := fun h => by
    have := (oN_le (a := 102) (by decide) (by omega)).mp h
    omega
  have q2 : (oN k).toNatClampNeg = k := oN_nat (by omega)
  have q4 : (0 : Int32) ≤ oN k := oN_nn (by omega)
  have q5 : (oN (o + k)).toNatClampNeg = o + k := oN_nat (by omega)
  have q6 : (0 : Int32) ≤ oN (o + k) := oN_nn (by omega)
  have q7 : (cpS σ 2 0 3 o k).1 7 0 3 = σ.1 7 0 3 := by
    unfold cpS
    dsimp only
    rw [if_neg (by omega)]
  have q8 : (cpS σ 2 0 3 o k).1 9 3 (o + k) = σ.1 9 3 (o + k) := by
    unfold cpS
    dsimp only
    rw [if_neg (by omega)]
  have q10 : o + k < 408 := by omega
  have q9 := cpS_s σ 2 0 3 o k
  simp only [Nat.zero_add] at q9
  rw [← q9]
  simp [↓pX8_undo_0, ↓pX8_undo_1, ↓pX8_undo_4, ↓pX8_undo_7, ↓pX8_undo_8, ↓pX8_undo_9, ↓pX8_undo_12, ↓pX8_undo_13, ↓pX8_undo_14, ↓pX8_undo_15, ↓pX8_undo_18, ↓pX8_undo_19, ↓pX8_undo_20, ↓pX8_undo_23, ↓pX8_undo_24, ↓pX8_undo_25, ↓pX8_undo_26, ↓pX8_undo_28, ↓pX8_undo_31, ↓pX8_undo_32, ↓pX8_undo_35, ↓pX8_undo_36, ↓pX8_undo_37, ↓pX8_undo_40, ↓pX8_undo_42, ↓pX8_undo_43, ↓pX8_undo_46, ↓pX8_undo_47, ↓pX8_undo_48, ↓pX8_undo_49, ↓pX8_undo_50, ↓pX8_undo_51, ↓pX8_undo_54, ↓pX8_undo_57, ↓pX8_undo_58, ↓pX8_undo_59, ↓pX8_undo_62, ↓pX8_undo_65, ↓xkI, ↓xkL, ↓xkA, ↓xsI, ↓xsL, ↓xsA, ↓xbI, ↓xbD, ↓xbL, ↓xc1, ↓xc2, ↓xgF, ↓xpF, ↓xgA, ↓xpA, ↓xgLA, ↓xpLA, ↓xgRA, ↓xgLen, xBnd, ↓xGoTo, ↓xRet, ↓xRetL, ↓xRetA, ↓xRetV, ↓xNew, ↓xlg, ↓xl1, ↓xl2, xk1, xk2, ↓xcat, ↓xws, ↓xStopAt, ↓xStopOut, ↓xpick, ↓xfg, ↓xfk, ↓xrho, ↓xlen, ↓xSw, ↓List.filter, q1, q2, q4, q5, q6, q7, q8, q10, hk, hp, oN_add, oN_1]
set_option maxRecDepth 100000 in
set_option maxHeartbeats 4000000 in
theorem lX8_undo_2 (X : Nat × (Nat → Int32)) (σ : XH) : xExec X (xEnv (nX8_undo X)) (fun _ _ => some none) 0 [(25, [0, 1])] tX8_undo 1000 (xPc tX8_undo 25) [(0, xR 7 0), (1, xI (oN 102))] [] σ 0 = some (.inl (.inl (some (.inl (σ.1 7 0 3))), xuI σ 7 0 6 0)) := by
  have q1 : (102 : Int32) ≤ oN 102 := by decide
  simp [↓pX8_undo_0, ↓pX8_undo_1, ↓pX8_undo_4, ↓pX8_undo_7, ↓pX8_undo_8, ↓pX8_undo_9, ↓pX8_undo_12, ↓pX8_undo_13, ↓pX8_undo_14, ↓pX8_undo_15, ↓pX8_undo_18, ↓pX8_undo_19, ↓pX8_undo_20, ↓pX8_undo_23, ↓pX8_undo_24, ↓pX8_undo_25, ↓pX8_undo_26, ↓pX8_undo_28, ↓pX8_undo_31, ↓pX8_undo_32, ↓pX8_undo_35, ↓pX8_undo_36, ↓pX8_undo_37, ↓pX8_undo_40, ↓pX8_undo_42, ↓pX8_undo_43, ↓pX8_undo_46, ↓pX8_undo_47, ↓pX8_undo_48, ↓pX8_undo_49, ↓pX8_undo_50, ↓pX8_undo_51, ↓pX8_undo_54, ↓pX8_undo_57, ↓pX8_undo_58, ↓pX8_undo_59, ↓pX8_undo_62, ↓pX8_undo_65, ↓xkI, ↓xkL, ↓xkA, ↓xsI, ↓xsL, ↓xsA, ↓xbI, ↓xbD, ↓xbL, ↓xc1, ↓xc2, ↓xgF, ↓xpF, ↓xgA, ↓xpA, ↓xgLA, ↓xpLA, ↓xgRA, ↓xgLen, xBnd, ↓xGoTo, ↓xRet, ↓xRetL, ↓xRetA, ↓xRetV, ↓xNew, ↓xlg, ↓xl1, ↓xl2, xk1, xk2, ↓xcat, ↓xws, ↓xStopAt, ↓xStopOut, ↓xpick, ↓xfg, ↓xfk, ↓xrho, ↓xlen, ↓xSw, ↓List.filter, q1, eX8_tells]
set_option maxRecDepth 100000 in
set_option maxHeartbeats 4000000 in
theorem lX8_undo_0 (X : Nat × (Nat → Int32)) (σ : XH) (m : Nat) (hm : m ≤ 3) (h : σ.1 7 0 3 = oN (m + 1)) : xExec X (xEnv (nX8_undo X)) (fun _ _ => some none) 0 [(25, [0, 1])] tX8_undo 1000 (xPc tX8_undo 0) [(0, xR 7 0)] [] σ 0 = some (.inr (25, [(0, xR 7 0), (1, xI (oN 0))], xuI σ 7 0 3 (oN m), 0)) := by
  have h1 : oN (m + 1) ≠ 0 ∧ oN (m + 1) - 1 = oN m := by
    have h2 : m = 0 ∨ m = 1 ∨ m = 2 ∨ m = 3 := by omega
    rcases h2 with h2 | h2 | h2 | h2 <;> subst h2 <;> decide
  obtain ⟨h1, h2⟩ := h1
  simp [↓pX8_undo_0, ↓pX8_undo_1, ↓pX8_undo_4, ↓pX8_undo_7, ↓pX8_undo_8, ↓pX8_undo_9, ↓pX8_undo_12, ↓pX8_undo_13, ↓pX8_undo_14, ↓pX8_undo_15, ↓pX8_undo_18, ↓pX8_undo_19, ↓pX8_undo_20, ↓pX8_undo_23, ↓pX8_undo_24, ↓pX8_undo_25, ↓pX8_undo_26, ↓pX8_undo_28, ↓pX8_undo_31, ↓pX8_undo_32, ↓pX8_undo_35, ↓pX8_undo_36, ↓pX8_undo_37, ↓pX8_undo_40, ↓pX8_undo_42, ↓pX8_undo_43, ↓pX8_undo_46, ↓pX8_undo_47, ↓pX8_undo_48, ↓pX8_undo_49, ↓pX8_undo_50, ↓pX8_undo_51, ↓pX8_undo_54, ↓pX8_undo_57, ↓pX8_undo_58, ↓pX8_undo_59, ↓pX8_undo_62, ↓pX8_undo_65, ↓xkI, ↓xkL, ↓xkA, ↓xsI, ↓xsL, ↓xsA, ↓xbI, ↓xbD, ↓xbL, ↓xc1, ↓xc2, ↓xgF, ↓xpF, ↓xgA, ↓xpA, ↓xgLA, ↓xpLA, ↓xgRA, ↓xgLen, xBnd, ↓xGoTo, ↓xRet, ↓xRetL, ↓xRetA, ↓xRetV, ↓xNew, ↓xlg, ↓xl1, ↓xl2, xk1, xk2, ↓xcat, ↓xws, ↓xStopAt, ↓xStopOut, ↓xpick, ↓xfg, ↓xfk, ↓xrho, ↓xlen, ↓xSw, ↓List.filter, h, h1, h2]
  rfl
set_option maxRecDepth 100000 in
set_option maxHeartbeats 4000000 in
theorem eX8_undo_0 (X : Nat × (Nat → Int32)) (σ : XH) (h : σ.1 7 0 3 = 0) : fX8_undo X [xR 7 0] σ = some (.inl (some (.inl 0)), xuI σ 7 0 6 1) := by
  rw [uX8_undo]
  refine xDone ?_
  simp [↓pX8_undo_0, ↓pX8_undo_1, ↓pX8_undo_4, ↓pX8_undo_7, ↓pX8_undo_8, ↓pX8_undo_9, ↓pX8_undo_12, ↓pX8_undo_13, ↓pX8_undo_14, ↓pX8_undo_15, ↓pX8_undo_18, ↓pX8_undo_19, ↓pX8_undo_20, ↓pX8_undo_23, ↓pX8_undo_24, ↓pX8_undo_25, ↓pX8_undo_26, ↓pX8_undo_28, ↓pX8_undo_31, ↓pX8_undo_32, ↓pX8_undo_35, ↓pX8_undo_36, ↓pX8_undo_37, ↓pX8_undo_40, ↓pX8_undo_42, ↓pX8_undo_43, ↓pX8_undo_46, ↓pX8_undo_47, ↓pX8_undo_48, ↓pX8_undo_49, ↓pX8_undo_50, ↓pX8_undo_51, ↓pX8_undo_54, ↓pX8_undo_57, ↓pX8_undo_58, ↓pX8_undo_59, ↓pX8_undo_62, ↓pX8_undo_65, ↓xkI, ↓xkL, ↓xkA, ↓xsI, ↓xsL, ↓xsA, ↓xbI, ↓xbD, ↓xbL, ↓xc1, ↓xc2, ↓xgF, ↓xpF, ↓xgA, ↓xpA, ↓xgLA, ↓xpLA, ↓xgRA, ↓xgLen, xBnd, ↓xGoTo, ↓xRet, ↓xRetL, ↓xRetA, ↓xRetV, ↓xNew, ↓xlg, ↓xl1, ↓xl2, xk1, xk2, ↓xcat, ↓xws, ↓xStopAt, ↓xStopOut, ↓xpick, ↓xfg, ↓xfk, ↓xrho, ↓xlen, ↓xSw, ↓List.filter, h, eX8_fails]
set_option maxRecDepth 100000 in
set_option maxHeartbeats 4000000 in
theorem lX8_undo_3 (X : Nat × (Nat → Int32)) (σ : XH) (o : Nat) (ho : o ≤ 306) (hp : 102 * σ.1 7 0 3 = oN o) : ∀ (m k N : Nat), k + m = 102 → xIter X (xEnv (nX8_undo X)) (fun _ _ => some none) 0 [(25, [0, 1])] tX8_undo (N + 1 + m) (25, [(0, xR 7 0), (1, xI (oN k))], cpS σ 2 0 3 o k, 0) = some (.inl (some (.inl (σ.1 7 0 3))), xuI (cpS σ 2 0 3 o 102) 7 0 6 0) := by
  intro m
  induction m with
  | zero =>
    intro k N h
    have h2 : k = 102 := by omega
    subst h2
    have q7 : (cpS σ 2 0 3 o 102).1 7 0 3 = σ.1 7 0 3 := by
      unfold cpS
      dsimp only
      rw [if_neg (by omega)]
    rw [← q7]
    exact xDone (n := N) (lX8_undo_2 X _)
  | succ m ih =>
    intro k N h
    exact (xNext (n := N + 1 + m) (lX8_undo_1 X σ o k (by omega) ho hp)).trans (ih (k + 1) N (by omega))
set_option maxRecDepth 100000 in
set_option maxHeartbeats 4000000 in
theorem eX8_undo_s (X : Nat × (Nat → Int32)) (σ : XH) (m : Nat) (hm : m ≤ 3) (h : σ.1 7 0 3 = oN (m + 1)) : fX8_undo X [xR 7 0] σ = some (.inl (some (.inl (oN m))), xuI (cpS (xuI σ 7 0 3 (oN m)) 2 0 3 (102 * m) 102) 7 0 6 0) := by
  have h1 : (102 : Int32) * (xuI σ 7 0 3 (oN m)).1 7 0 3 = oN (102 * m) := by
    show (102 : Int32) * oN m = oN (102 * m)
    have h2 : m = 0 ∨ m = 1 ∨ m = 2 ∨ m = 3 := by omega
    rcases h2 with h2 | h2 | h2 | h2 <;> subst h2 <;> decide
  have h3 := lX8_undo_3 X (xuI σ 7 0 3 (oN m)) (102 * m) (by omega) h1 102 0 99896 rfl
  rw [cpS_0] at h3
  exact (uX8_undo _ _ _).trans ((xNext (n := 99999) (lX8_undo_0 X σ m hm h)).trans h3)
set_option maxRecDepth 100000 in
set_option maxHeartbeats 4000000 in
theorem eX8_done_f (X : Nat × (Nat → Int32)) (σ : XH) (v : Int32) (h : ¬ v ≤ 0) : fX8_done X [xR 7 0, xI v] σ = some (.inl (some (.inl 0)), xuI σ 7 0 6 v) := by
  rw [uX8_done]
  refine xDone ?_
  simp [↓pX8_done_0, ↓pX8_done_1, ↓pX8_done_4, ↓pX8_done_5, ↓pX8_done_6, ↓pX8_done_9, ↓pX8_done_12, ↓pX8_done_13, ↓pX8_done_14, ↓pX8_done_17, ↓pX8_done_20, ↓xkI, ↓xkL, ↓xkA, ↓xsI, ↓xsL, ↓xsA, ↓xbI, ↓xbD, ↓xbL, ↓xc1, ↓xc2, ↓xgF, ↓xpF, ↓xgA, ↓xpA, ↓xgLA, ↓xpLA, ↓xgRA, ↓xgLen, xBnd, ↓xGoTo, ↓xRet, ↓xRetL, ↓xRetA, ↓xRetV, ↓xNew, ↓xlg, ↓xl1, ↓xl2, xk1, xk2, ↓xcat, ↓xws, ↓xStopAt, ↓xStopOut, ↓xpick, ↓xfg, ↓xfk, ↓xrho, ↓xlen, ↓xSw, ↓List.filter, h, eX8_fails]
set_option maxRecDepth 100000 in
set_option maxHeartbeats 4000000 in
theorem eX8_done_n (X : Nat × (Nat → Int32)) (σ : XH) (v : Int32) (h : v ≤ 0) (m : Nat) (hm : m ≤ 3) (hp : σ.1 7 0 3 = oN m) : fX8_done X [xR 7 0, xI v] σ = fX8_ends X [xR 7 0, xI (σ.1 7 0 9)] σ := by
  have hq := eX8_ends_n X σ (σ.1 7 0 9) m hm hp
  rw [hq, uX8_done]
  refine xDone ?_
  simp [↓pX8_done_0, ↓pX8_done_1, ↓pX8_done_4, ↓pX8_done_5, ↓pX8_done_6, ↓pX8_done_9, ↓pX8_done_12, ↓pX8_done_13, ↓pX8_done_14, ↓pX8_done_17, ↓pX8_done_20, ↓xkI, ↓xkL, ↓xkA, ↓xsI, ↓xsL, ↓xsA, ↓xbI, ↓xbD, ↓xbL, ↓xc1, ↓xc2, ↓xgF, ↓xpF, ↓xgA, ↓xpA, ↓xgLA, ↓xpLA, ↓xgRA, ↓xgLen, xBnd, ↓xGoTo, ↓xRet, ↓xRetL, ↓xRetA, ↓xRetV, ↓xNew, ↓xlg, ↓xl1, ↓xl2, xk1, xk2, ↓xcat, ↓xws, ↓xStopAt, ↓xStopOut, ↓xpick, ↓xfg, ↓xfk, ↓xrho, ↓xlen, ↓xSw, ↓List.filter, h, hq]
set_option maxRecDepth 100000 in
set_option maxHeartbeats 4000000 in
theorem eX8_done_4 (X : Nat × (Nat → Int32)) (σ : XH) (v : Int32) (h : v ≤ 0) (hp : σ.1 7 0 3 = 4) : fX8_done X [xR 7 0, xI v] σ = fX8_ends X [xR 7 0, xI (σ.1 7 0 9)] σ := by
  have hq := eX8_ends_4 X σ (σ.1 7 0 9) hp
  rw [hq, uX8_done]
  refine xDone ?_
  simp [↓pX8_done_0, ↓pX8_done_1, ↓pX8_done_4, ↓pX8_done_5, ↓pX8_done_6, ↓pX8_done_9, ↓pX8_done_12, ↓pX8_done_13, ↓pX8_done_14, ↓pX8_done_17, ↓pX8_done_20, ↓xkI, ↓xkL, ↓xkA, ↓xsI, ↓xsL, ↓xsA, ↓xbI, ↓xbD, ↓xbL, ↓xc1, ↓xc2, ↓xgF, ↓xpF, ↓xgA, ↓xpA, ↓xgLA, ↓xpLA, ↓xgRA, ↓xgLen, xBnd, ↓xGoTo, ↓xRet, ↓xRetL, ↓xRetA, ↓xRetV, ↓xNew, ↓xlg, ↓xl1, ↓xl2, xk1, xk2, ↓xcat, ↓xws, ↓xStopAt, ↓xStopOut, ↓xpick, ↓xfg, ↓xfk, ↓xrho, ↓xlen, ↓xSw, ↓List.filter, h, hq]
set_option maxRecDepth 100000 in
set_option maxHeartbeats 4000000 in
theorem eX8_doneAlone_f (X : Nat × (Nat → Int32)) (σ : XH) (v : Int32) (h : ¬ v ≤ 0) : fX8_doneAlone X [xR 7 0, xI v] σ = some (.inl (some (.inl 0)), xuI σ 7 0 6 (v - 1)) := by
  rw [uX8_doneAlone]
  refine xDone ?_
  simp [↓pX8_doneAlone_0, ↓pX8_doneAlone_1, ↓pX8_doneAlone_4, ↓pX8_doneAlone_5, ↓pX8_doneAlone_6, ↓pX8_doneAlone_7, ↓pX8_doneAlone_8, ↓pX8_doneAlone_11, ↓pX8_doneAlone_14, ↓pX8_doneAlone_15, ↓pX8_doneAlone_16, ↓pX8_doneAlone_19, ↓pX8_doneAlone_22, ↓xkI, ↓xkL, ↓xkA, ↓xsI, ↓xsL, ↓xsA, ↓xbI, ↓xbD, ↓xbL, ↓xc1, ↓xc2, ↓xgF, ↓xpF, ↓xgA, ↓xpA, ↓xgLA, ↓xpLA, ↓xgRA, ↓xgLen, xBnd, ↓xGoTo, ↓xRet, ↓xRetL, ↓xRetA, ↓xRetV, ↓xNew, ↓xlg, ↓xl1, ↓xl2, xk1, xk2, ↓xcat, ↓xws, ↓xStopAt, ↓xStopOut, ↓xpick, ↓xfg, ↓xfk, ↓xrho, ↓xlen, ↓xSw, ↓List.filter, h, eX8_fails]
set_option maxRecDepth 100000 in
set_option maxHeartbeats 4000000 in
theorem eX8_doneAlone_n (X : Nat × (Nat → Int32)) (σ : XH) (v : Int32) (h : v ≤ 0) (m : Nat) (hm : m ≤ 3) (hp : σ.1 7 0 3 = oN m) : fX8_doneAlone X [xR 7 0, xI v] σ = fX8_ends X [xR 7 0, xI (σ.1 7 0 9)] σ := by
  have hq := eX8_ends_n X σ (σ.1 7 0 9) m hm hp
  rw [hq, uX8_doneAlone]
  refine xDone ?_
  simp [↓pX8_doneAlone_0, ↓pX8_doneAlone_1, ↓pX8_doneAlone_4, ↓pX8_doneAlone_5, ↓pX8_doneAlone_6, ↓pX8_doneAlone_7, ↓pX8_doneAlone_8, ↓pX8_doneAlone_11, ↓pX8_doneAlone_14, ↓pX8_doneAlone_15, ↓pX8_doneAlone_16, ↓pX8_doneAlone_19, ↓pX8_doneAlone_22, ↓xkI, ↓xkL, ↓xkA, ↓xsI, ↓xsL, ↓xsA, ↓xbI, ↓xbD, ↓xbL, ↓xc1, ↓xc2, ↓xgF, ↓xpF, ↓xgA, ↓xpA, ↓xgLA, ↓xpLA, ↓xgRA, ↓xgLen, xBnd, ↓xGoTo, ↓xRet, ↓xRetL, ↓xRetA, ↓xRetV, ↓xNew, ↓xlg, ↓xl1, ↓xl2, xk1, xk2, ↓xcat, ↓xws, ↓xStopAt, ↓xStopOut, ↓xpick, ↓xfg, ↓xfk, ↓xrho, ↓xlen, ↓xSw, ↓List.filter, h, hq]
set_option maxRecDepth 100000 in
set_option maxHeartbeats 4000000 in
theorem eX8_doneAlone_4 (X : Nat × (Nat → Int32)) (σ : XH) (v : Int32) (h : v ≤ 0) (hp : σ.1 7 0 3 = 4) : fX8_doneAlone X [xR 7 0, xI v] σ = fX8_ends X [xR 7 0, xI (σ.1 7 0 9)] σ := by
  have hq := eX8_ends_4 X σ (σ.1 7 0 9) hp
  rw [hq, uX8_doneAlone]
  refine xDone ?_
  simp [↓pX8_doneAlone_0, ↓pX8_doneAlone_1, ↓pX8_doneAlone_4, ↓pX8_doneAlone_5, ↓pX8_doneAlone_6, ↓pX8_doneAlone_7, ↓pX8_doneAlone_8, ↓pX8_doneAlone_11, ↓pX8_doneAlone_14, ↓pX8_doneAlone_15, ↓pX8_doneAlone_16, ↓pX8_doneAlone_19, ↓pX8_doneAlone_22, ↓xkI, ↓xkL, ↓xkA, ↓xsI, ↓xsL, ↓xsA, ↓xbI, ↓xbD, ↓xbL, ↓xc1, ↓xc2, ↓xgF, ↓xpF, ↓xgA, ↓xpA, ↓xgLA, ↓xpLA, ↓xgRA, ↓xgLen, xBnd, ↓xGoTo, ↓xRet, ↓xRetL, ↓xRetA, ↓xRetV, ↓xNew, ↓xlg, ↓xl1, ↓xl2, xk1, xk2, ↓xcat, ↓xws, ↓xStopAt, ↓xStopOut, ↓xpick, ↓xfg, ↓xfk, ↓xrho, ↓xlen, ↓xSw, ↓List.filter, h, hq]
