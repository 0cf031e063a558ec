/-! ===== pure words of the class (out of the proof of whole, by wip/p28/gen/prune.py) ===== -/
/-- the class's place of a valve's number -/
def pmV : Nat → Nat
  | 0 => 3 | 1 => 4 | 2 => 5 | 3 => 6 | 4 => 7 | 5 => 0 | 6 => 1 | 7 => 2
  | w => w
def vC (σ : XH) (k : Nat) : Nat → Int32 := trF 16 (fun w => σ.1 4 k (pmV w))
def gC (σ : XH) (j : Nat) : Nat → Int32
  | 9 => σ.1 0 j 1
  | i => σ.1 3 j (i + 3)
/-- the class's state: the pair j -/
def cTS (σ : XH) (j : Nat) : TS := (trF 10 (gC σ j), vC σ (2 * j), vC σ (2 * j + 1), trF 60 (fun i => σ.1 8 j i))
def okV (V : Nat → Int32) : Prop := (1 ≤ V 0 ∧ V 0 ≤ 1000) ∧ (0 ≤ V 4 ∧ V 4 ≤ 2) ∧ (0 ≤ V 5 ∧ V 5 < V 6 ∧ V 6 ≤ 1000) ∧ (V 7 = 0 ∨ V 7 = 1) ∧ (0 ≤ V 8 ∧ V 8 ≤ 1000) ∧ (V 10 = 0 ∨ V 10 = 1)
set_option maxRecDepth 100000 in
set_option maxHeartbeats 4000000 in
theorem eJ9_min (X : Nat × (Nat → Int32)) (σ : XH) (a b : Int32) : fJ9_min_7cf53 X [xI a, xI b] σ = some (.inl (some (.inl (if b < a then b else a))), σ) := by
  rw [uJ9_min_7cf53]
  refine xDone ?_
  simp [↓pJ9_min_7cf53_0, ↓pJ9_min_7cf53_1, ↓pJ9_min_7cf53_2, ↓pJ9_min_7cf53_5, ↓pJ9_min_7cf53_6, ↓pJ9_min_7cf53_9, ↓pJ9_min_7cf53_10, ↓xkI, ↓xkL, ↓xkA, ↓xsI, ↓xsL, ↓xsA, ↓xbI, ↓xbD, ↓xbL, ↓xc1, ↓xc2, ↓xgF, ↓xpF, ↓xgA, ↓xpA, ↓xgRA, ↓xgLen, xBnd, ↓xGoTo, ↓xRet, ↓xRetL, ↓xRetA, ↓xRetV, ↓xNew, ↓xlg, ↓xl1, ↓xl2, xk1, xk2, ↓xcat, ↓xws, ↓xStopAt, ↓xStopOut, ↓xpick, ↓xfg, ↓xfk, ↓xrho, ↓xlen, ↓xSw, ↓List.filter]
  all_goals (first | grind | (repeat' split <;> (first | rfl | simp_all; done | grind)))
set_option maxRecDepth 100000 in
set_option maxHeartbeats 4000000 in
theorem eJ9_max (X : Nat × (Nat → Int32)) (σ : XH) (a b : Int32) : fJ9_max_7cf53 X [xI a, xI b] σ = some (.inl (some (.inl (if a < b then b else a))), σ) := by
  rw [uJ9_max_7cf53]
  refine xDone ?_
  simp [↓pJ9_max_7cf53_0, ↓pJ9_max_7cf53_1, ↓pJ9_max_7cf53_2, ↓pJ9_max_7cf53_5, ↓pJ9_max_7cf53_6, ↓pJ9_max_7cf53_9, ↓pJ9_max_7cf53_10, ↓xkI, ↓xkL, ↓xkA, ↓xsI, ↓xsL, ↓xsA, ↓xbI, ↓xbD, ↓xbL, ↓xc1, ↓xc2, ↓xgF, ↓xpF, ↓xgA, ↓xpA, ↓xgRA, ↓xgLen, xBnd, ↓xGoTo, ↓xRet, ↓xRetL, ↓xRetA, ↓xRetV, ↓xNew, ↓xlg, ↓xl1, ↓xl2, xk1, xk2, ↓xcat, ↓xws, ↓xStopAt, ↓xStopOut, ↓xpick, ↓xfg, ↓xfk, ↓xrho, ↓xlen, ↓xSw, ↓List.filter]
  all_goals (first | grind | (repeat' split <;> (first | rfl | simp_all; done | grind)))
set_option maxRecDepth 100000 in
set_option maxHeartbeats 4000000 in
theorem eJ9_abs (X : Nat × (Nat → Int32)) (σ : XH) (a : Int32) : fJ9_abs_0f7a4 X [xI a] σ = some (.inl (some (.inl (abI a))), σ) := by
  rw [uJ9_abs_0f7a4]
  refine xDone ?_
  simp [↓pJ9_abs_0f7a4_0, ↓pJ9_abs_0f7a4_1, ↓pJ9_abs_0f7a4_4, ↓pJ9_abs_0f7a4_5, ↓pJ9_abs_0f7a4_6, ↓pJ9_abs_0f7a4_9, ↓pJ9_abs_0f7a4_10, ↓xkI, ↓xkL, ↓xkA, ↓xsI, ↓xsL, ↓xsA, ↓xbI, ↓xbD, ↓xbL, ↓xc1, ↓xc2, ↓xgF, ↓xpF, ↓xgA, ↓xpA, ↓xgRA, ↓xgLen, xBnd, ↓xGoTo, ↓xRet, ↓xRetL, ↓xRetA, ↓xRetV, ↓xNew, ↓xlg, ↓xl1, ↓xl2, xk1, xk2, ↓xcat, ↓xws, ↓xStopAt, ↓xStopOut, ↓xpick, ↓xfg, ↓xfk, ↓xrho, ↓xlen, ↓xSw, ↓List.filter, abI]
  all_goals (first | grind | (repeat' split <;> (first | rfl | simp_all; done | grind)))
set_option maxRecDepth 100000 in
set_option maxHeartbeats 4000000 in
theorem eJ9_floorDiv (X : Nat × (Nat → Int32)) (σ : XH) (a b : Int32) (h : b ≠ 0) : fJ9_floorDiv_7cf53 X [xI a, xI b] σ = some (.inl (some (.inl (if (a ^^^ b) < 0 then (if a / b * b = a then a / b else a / b - 1) else a / b))), σ) := by
  rw [uJ9_floorDiv_7cf53]
  refine xDone ?_
  simp [↓pJ9_floorDiv_7cf53_0, ↓pJ9_floorDiv_7cf53_1, ↓pJ9_floorDiv_7cf53_2, ↓pJ9_floorDiv_7cf53_3, ↓pJ9_floorDiv_7cf53_4, ↓pJ9_floorDiv_7cf53_5, ↓pJ9_floorDiv_7cf53_6, ↓pJ9_floorDiv_7cf53_7, ↓pJ9_floorDiv_7cf53_10, ↓pJ9_floorDiv_7cf53_11, ↓pJ9_floorDiv_7cf53_12, ↓pJ9_floorDiv_7cf53_13, ↓pJ9_floorDiv_7cf53_14, ↓pJ9_floorDiv_7cf53_17, ↓pJ9_floorDiv_7cf53_18, ↓pJ9_floorDiv_7cf53_19, ↓pJ9_floorDiv_7cf53_20, ↓pJ9_floorDiv_7cf53_21, ↓pJ9_floorDiv_7cf53_22, ↓xkI, ↓xkL, ↓xkA, ↓xsI, ↓xsL, ↓xsA, ↓xbI, ↓xbD, ↓xbL, ↓xc1, ↓xc2, ↓xgF, ↓xpF, ↓xgA, ↓xpA, ↓xgRA, ↓xgLen, xBnd, ↓xGoTo, ↓xRet, ↓xRetL, ↓xRetA, ↓xRetV, ↓xNew, ↓xlg, ↓xl1, ↓xl2, xk1, xk2, ↓xcat, ↓xws, ↓xStopAt, ↓xStopOut, ↓xpick, ↓xfg, ↓xfk, ↓xrho, ↓xlen, ↓xSw, ↓List.filter, h]
  all_goals (first | grind | (repeat' split <;> (first | rfl | simp_all; done | grind)))
set_option maxRecDepth 100000 in
set_option maxHeartbeats 4000000 in
theorem eJ9_floorMod (X : Nat × (Nat → Int32)) (σ : XH) (a b : Int32) (h : b ≠ 0) : fJ9_floorMod_7cf53 X [xI a, xI b] σ = some (.inl (some (.inl (if (a ^^^ b) < 0 then (if a - a / b * b = 0 then a - a / b * b else a - a / b * b + b) else a - a / b * b))), σ) := by
  rw [uJ9_floorMod_7cf53]
  refine xDone ?_
  simp [↓pJ9_floorMod_7cf53_0, ↓pJ9_floorMod_7cf53_1, ↓pJ9_floorMod_7cf53_2, ↓pJ9_floorMod_7cf53_3, ↓pJ9_floorMod_7cf53_4, ↓pJ9_floorMod_7cf53_5, ↓pJ9_floorMod_7cf53_6, ↓pJ9_floorMod_7cf53_7, ↓pJ9_floorMod_7cf53_10, ↓pJ9_floorMod_7cf53_11, ↓pJ9_floorMod_7cf53_14, ↓pJ9_floorMod_7cf53_15, ↓pJ9_floorMod_7cf53_16, ↓pJ9_floorMod_7cf53_17, ↓pJ9_floorMod_7cf53_18, ↓pJ9_floorMod_7cf53_19, ↓xkI, ↓xkL, ↓xkA, ↓xsI, ↓xsL, ↓xsA, ↓xbI, ↓xbD, ↓xbL, ↓xc1, ↓xc2, ↓xgF, ↓xpF, ↓xgA, ↓xpA, ↓xgRA, ↓xgLen, xBnd, ↓xGoTo, ↓xRet, ↓xRetL, ↓xRetA, ↓xRetV, ↓xNew, ↓xlg, ↓xl1, ↓xl2, xk1, xk2, ↓xcat, ↓xws, ↓xStopAt, ↓xStopOut, ↓xpick, ↓xfg, ↓xfk, ↓xrho, ↓xlen, ↓xSw, ↓List.filter, h]
  all_goals (first | grind | (repeat' split <;> (first | rfl | simp_all; done | grind)))
theorem vC_0 (σ : XH) (k : Nat) : vC σ k 0 = σ.1 4 k 3 := rfl
theorem vC_1 (σ : XH) (k : Nat) : vC σ k 1 = σ.1 4 k 4 := rfl
theorem vC_2 (σ : XH) (k : Nat) : vC σ k 2 = σ.1 4 k 5 := rfl
theorem vC_3 (σ : XH) (k : Nat) : vC σ k 3 = σ.1 4 k 6 := rfl
theorem vC_4 (σ : XH) (k : Nat) : vC σ k 4 = σ.1 4 k 7 := rfl
theorem vC_5 (σ : XH) (k : Nat) : vC σ k 5 = σ.1 4 k 0 := rfl
theorem vC_6 (σ : XH) (k : Nat) : vC σ k 6 = σ.1 4 k 1 := rfl
theorem vC_7 (σ : XH) (k : Nat) : vC σ k 7 = σ.1 4 k 2 := rfl
theorem vC_8 (σ : XH) (k : Nat) : vC σ k 8 = σ.1 4 k 8 := rfl
theorem vC_9 (σ : XH) (k : Nat) : vC σ k 9 = σ.1 4 k 9 := rfl
theorem vC_10 (σ : XH) (k : Nat) : vC σ k 10 = σ.1 4 k 10 := rfl
theorem vC_11 (σ : XH) (k : Nat) : vC σ k 11 = σ.1 4 k 11 := rfl
theorem vC_12 (σ : XH) (k : Nat) : vC σ k 12 = σ.1 4 k 12 := rfl
theorem vC_13 (σ : XH) (k : Nat) : vC σ k 13 = σ.1 4 k 13 := rfl
theorem vC_14 (σ : XH) (k : Nat) : vC σ k 14 = σ.1 4 k 14 := rfl
theorem vC_15 (σ : XH) (k : Nat) : vC σ k 15 = σ.1 4 k 15 := rfl
set_option maxRecDepth 100000 in
set_option maxHeartbeats 4000000 in
theorem eX5_wear (X : Nat × (Nat → Int32)) (σ : XH) (k : Nat) : fX5_wear X [xR 4 k] σ = some (.inl (some (.inl (wearV (vC σ k)))), σ) := by
  rw [uX5_wear]
  refine xDone ?_
  simp [↓pX5_wear_0, ↓pX5_wear_1, ↓pX5_wear_4, ↓pX5_wear_6, ↓pX5_wear_7, ↓pX5_wear_8, ↓pX5_wear_9, ↓pX5_wear_12, ↓pX5_wear_13, ↓pX5_wear_14, ↓xkI, ↓xkL, ↓xkA, ↓xsI, ↓xsL, ↓xsA, ↓xbI, ↓xbD, ↓xbL, ↓xc1, ↓xc2, ↓xgF, ↓xpF, ↓xgA, ↓xpA, ↓xgRA, ↓xgLen, xBnd, ↓xGoTo, ↓xRet, ↓xRetL, ↓xRetA, ↓xRetV, ↓xNew, ↓xlg, ↓xl1, ↓xl2, xk1, xk2, ↓xcat, ↓xws, ↓xStopAt, ↓xStopOut, ↓xpick, ↓xfg, ↓xfk, ↓xrho, ↓xlen, ↓xSw, ↓List.filter, wearV, vC_0, vC_1, vC_2, vC_3, vC_4, vC_5, vC_6, vC_7, vC_8, vC_9, vC_10, vC_11, vC_12, vC_13, vC_14, vC_15]
set_option maxRecDepth 100000 in
set_option maxHeartbeats 4000000 in
theorem eX5_threshold (X : Nat × (Nat → Int32)) (σ : XH) (k : Nat) (w : Int32) (h : vC σ k 10 = 0 ∨ vC σ k 10 = 1) : fX5_threshold X [xR 4 k, xI w] σ = some (.inl (some (.inl (thrV (vC σ k) w))), σ) := by
  rw [uX5_threshold]
  refine xDone ?_
  simp only [vC_0, vC_1, vC_2, vC_3, vC_4, vC_5, vC_6, vC_7, vC_8, vC_9, vC_10, vC_11, vC_12, vC_13, vC_14, vC_15] at h
  simp [↓pX5_threshold_0, ↓pX5_threshold_1, ↓pX5_threshold_4, ↓pX5_threshold_7, ↓pX5_threshold_8, ↓pX5_threshold_11, ↓pX5_threshold_12, ↓pX5_threshold_15, ↓pX5_threshold_16, ↓pX5_threshold_17, ↓pX5_threshold_18, ↓pX5_threshold_21, ↓pX5_threshold_22, ↓pX5_threshold_25, ↓pX5_threshold_27, ↓pX5_threshold_28, ↓pX5_threshold_29, ↓pX5_threshold_30, ↓pX5_threshold_31, ↓pX5_threshold_34, ↓pX5_threshold_35, ↓pX5_threshold_36, ↓pX5_threshold_39, ↓pX5_threshold_40, ↓pX5_threshold_41, ↓pX5_threshold_44, ↓pX5_threshold_45, ↓pX5_threshold_48, ↓pX5_threshold_49, ↓xkI, ↓xkL, ↓xkA, ↓xsI, ↓xsL, ↓xsA, ↓xbI, ↓xbD, ↓xbL, ↓xc1, ↓xc2, ↓xgF, ↓xpF, ↓xgA, ↓xpA, ↓xgRA, ↓xgLen, xBnd, ↓xGoTo, ↓xRet, ↓xRetL, ↓xRetA, ↓xRetV, ↓xNew, ↓xlg, ↓xl1, ↓xl2, xk1, xk2, ↓xcat, ↓xws, ↓xStopAt, ↓xStopOut, ↓xpick, ↓xfg, ↓xfk, ↓xrho, ↓xlen, ↓xSw, ↓List.filter, eX5_wear, thrV, vC_0, vC_1, vC_2, vC_3, vC_4, vC_5, vC_6, vC_7, vC_8, vC_9, vC_10, vC_11, vC_12, vC_13, vC_14, vC_15]
  rcases h with h | h <;> simp [h] <;> (first | grind | (repeat' split <;> (first | rfl | simp_all; done | grind)))
set_option maxRecDepth 100000 in
set_option maxHeartbeats 4000000 in
theorem eX5_through (X : Nat × (Nat → Int32)) (σ : XH) (k : Nat) (p : Int32) (h : 0 ≤ vC σ k 4 ∧ vC σ k 4 ≤ 2) : fX5_through X [xR 4 k, xI p] σ = some (.inl (some (.inl (thruV (vC σ k) p))), σ) := by
  rw [uX5_through]
  refine xDone ?_
  simp only [vC_0, vC_1, vC_2, vC_3, vC_4, vC_5, vC_6, vC_7, vC_8, vC_9, vC_10, vC_11, vC_12, vC_13, vC_14, vC_15] at h
  simp [↓pX5_through_0, ↓pX5_through_1, ↓pX5_through_2, ↓pX5_through_3, ↓pX5_through_6, ↓pX5_through_7, ↓pX5_through_10, ↓pX5_through_11, ↓pX5_through_12, ↓pX5_through_13, ↓pX5_through_16, ↓pX5_through_17, ↓pX5_through_18, ↓pX5_through_21, ↓pX5_through_22, ↓pX5_through_25, ↓pX5_through_26, ↓pX5_through_29, ↓pX5_through_32, ↓pX5_through_35, ↓pX5_through_36, ↓pX5_through_37, ↓pX5_through_40, ↓pX5_through_41, ↓pX5_through_42, ↓pX5_through_43, ↓pX5_through_46, ↓pX5_through_47, ↓pX5_through_48, ↓pX5_through_49, ↓pX5_through_50, ↓pX5_through_53, ↓pX5_through_54, ↓pX5_through_55, ↓pX5_through_58, ↓pX5_through_59, ↓xkI, ↓xkL, ↓xkA, ↓xsI, ↓xsL, ↓xsA, ↓xbI, ↓xbD, ↓xbL, ↓xc1, ↓xc2, ↓xgF, ↓xpF, ↓xgA, ↓xpA, ↓xgRA, ↓xgLen, xBnd, ↓xGoTo, ↓xRet, ↓xRetL, ↓xRetA, ↓xRetV, ↓xNew, ↓xlg, ↓xl1, ↓xl2, xk1, xk2, ↓xcat, ↓xws, ↓xStopAt, ↓xStopOut, ↓xpick, ↓xfg, ↓xfk, ↓xrho, ↓xlen, ↓xSw, ↓List.filter, thruV, openV, vC_0, vC_1, vC_2, vC_3, vC_4, vC_5, vC_6, vC_7, vC_8, vC_9, vC_10, vC_11, vC_12, vC_13, vC_14, vC_15]
  all_goals (first | grind | (repeat' split <;> (first | rfl | simp_all; done | grind)))
set_option maxRecDepth 100000 in
set_option maxHeartbeats 4000000 in
theorem eX5_flow (X : Nat × (Nat → Int32)) (σ : XH) (k : Nat) (h : 0 ≤ vC σ k 4 ∧ vC σ k 4 ≤ 2) : fX5_flow X [xR 4 k] σ = some (.inl (some (.inl (flowV (vC σ k)))), σ) := by
  have hthr := fun p => eX5_through X σ k p h
  rw [uX5_flow]
  refine xDone ?_
  simp [↓pX5_flow_0, ↓pX5_flow_1, ↓pX5_flow_4, ↓pX5_flow_7, ↓pX5_flow_8, ↓pX5_flow_9, ↓pX5_flow_12, ↓pX5_flow_15, ↓pX5_flow_18, ↓pX5_flow_19, ↓pX5_flow_22, ↓pX5_flow_23, ↓pX5_flow_26, ↓pX5_flow_28, ↓pX5_flow_29, ↓pX5_flow_32, ↓xkI, ↓xkL, ↓xkA, ↓xsI, ↓xsL, ↓xsA, ↓xbI, ↓xbD, ↓xbL, ↓xc1, ↓xc2, ↓xgF, ↓xpF, ↓xgA, ↓xpA, ↓xgRA, ↓xgLen, xBnd, ↓xGoTo, ↓xRet, ↓xRetL, ↓xRetA, ↓xRetV, ↓xNew, ↓xlg, ↓xl1, ↓xl2, xk1, xk2, ↓xcat, ↓xws, ↓xStopAt, ↓xStopOut, ↓xpick, ↓xfg, ↓xfk, ↓xrho, ↓xlen, ↓xSw, ↓List.filter, hthr, eX5_wear, eJ9_min, flowV, vC_0, vC_1, vC_2, vC_3, vC_4, vC_5, vC_6, vC_7, vC_8, vC_9, vC_10, vC_11, vC_12, vC_13, vC_14, vC_15]
  all_goals (first | grind | (repeat' split <;> (first | rfl | simp_all; done | grind)))
set_option maxRecDepth 100000 in
set_option maxHeartbeats 4000000 in
theorem eX5_moveTowards (X : Nat × (Nat → Int32)) (σ : XH) (k : Nat) (d : Int32) (h : okV (vC σ k)) (hd : 0 ≤ d ∧ d ≤ 1000) : fX5_moveTowards X [xR 4 k, xI d] σ = some (.inl (some (.inl (moveV (vC σ k) d))), σ) := by
  have hthr := fun w => eX5_threshold X σ k w h.2.2.2.2.2
  obtain ⟨-, -, -, -, h8, -⟩ := h
  rw [uX5_moveTowards]
  refine xDone ?_
  simp only [vC_8] at h8
  simp [↓pX5_moveTowards_0, ↓pX5_moveTowards_1, ↓pX5_moveTowards_2, ↓pX5_moveTowards_5, ↓pX5_moveTowards_8, ↓pX5_moveTowards_9, ↓pX5_moveTowards_12, ↓pX5_moveTowards_13, ↓pX5_moveTowards_14, ↓pX5_moveTowards_15, ↓pX5_moveTowards_16, ↓pX5_moveTowards_19, ↓pX5_moveTowards_20, ↓pX5_moveTowards_23, ↓pX5_moveTowards_24, ↓pX5_moveTowards_25, ↓pX5_moveTowards_28, ↓pX5_moveTowards_29, ↓pX5_moveTowards_30, ↓pX5_moveTowards_31, ↓pX5_moveTowards_34, ↓pX5_moveTowards_37, ↓pX5_moveTowards_38, ↓pX5_moveTowards_39, ↓pX5_moveTowards_40, ↓pX5_moveTowards_41, ↓pX5_moveTowards_42, ↓pX5_moveTowards_45, ↓pX5_moveTowards_48, ↓pX5_moveTowards_49, ↓xkI, ↓xkL, ↓xkA, ↓xsI, ↓xsL, ↓xsA, ↓xbI, ↓xbD, ↓xbL, ↓xc1, ↓xc2, ↓xgF, ↓xpF, ↓xgA, ↓xpA, ↓xgRA, ↓xgLen, xBnd, ↓xGoTo, ↓xRet, ↓xRetL, ↓xRetA, ↓xRetV, ↓xNew, ↓xlg, ↓xl1, ↓xl2, xk1, xk2, ↓xcat, ↓xws, ↓xStopAt, ↓xStopOut, ↓xpick, ↓xfg, ↓xfk, ↓xrho, ↓xlen, ↓xSw, ↓List.filter, hthr, eJ9_abs, eJ9_min, moveV, wayI, vC_0, vC_1, vC_2, vC_3, vC_4, vC_5, vC_6, vC_7, vC_8, vC_9, vC_10, vC_11, vC_12, vC_13, vC_14, vC_15]
  unfold abI
  all_goals (first | grind | (repeat' split <;> (first | rfl | simp_all; done | grind)))
/-- Int32's division, in the numbers -/
theorem tdiv_nn {n d : Int32} (hn : 0 ≤ n) (hd : 0 < d) : (n / d).toInt = n.toInt / d.toInt := by
  have h0 : (0 : Int32).toInt = 0 := rfl
  have h1 := Int32.le_iff_toInt_le.mp hn
  have h2 := Int32.lt_iff_toInt_lt.mp hd
  rw [h0] at h1 h2
  rw [Int32.toInt_div_of_ne_right _ _ (fun h => by rw [h] at h2; exact absurd h2 (by decide))]
  exact Int.tdiv_eq_ediv_of_nonneg h1
theorem tdiv_np {n d : Int32} (hn : n ≤ 0) (hd : 0 < d) (hlo : -1000000 ≤ n) : n / d ≤ 0 ∧ -1000000 ≤ n / d := by
  have h0 : (0 : Int32).toInt = 0 := rfl
  have hm : (-1000000 : Int32).toInt = -1000000 := rfl
  have h1 := Int32.le_iff_toInt_le.mp hn
  have h2 := Int32.lt_iff_toInt_lt.mp hd
  have h3 := Int32.le_iff_toInt_le.mp hlo
  rw [h0] at h1 h2
  rw [hm] at h3
  have hq : (n / d).toInt = n.toInt.tdiv d.toInt := Int32.toInt_div_of_ne_right _ _ (fun h => by rw [h] at h2; exact absurd h2 (by decide))
  have hk : n.toInt.tdiv d.toInt = -((-n.toInt) / d.toInt) := by
    rw [← Int.tdiv_eq_ediv_of_nonneg (by omega : 0 ≤ -n.toInt), Int.neg_tdiv, Int.neg_neg]
  have h4 : 0 ≤ (-n.toInt) / d.toInt := Int.ediv_nonneg (by omega) (by omega)
  have h5 : (-n.toInt) / d.toInt ≤ -n.toInt := Int.ediv_le_self _ (by omega)
  rw [Int32.le_iff_toInt_le, Int32.le_iff_toInt_le, hq, hk, h0, hm]
  omega
theorem tdiv_bd {n d : Int32} (hn : 0 ≤ n) (hd : 0 < d) : 0 ≤ n / d ∧ n / d ≤ n ∧ 0 ≤ n - n / d * d := by
  have h0 : (0 : Int32).toInt = 0 := rfl
  have h1 := Int32.le_iff_toInt_le.mp hn
  have h2 := Int32.lt_iff_toInt_lt.mp hd
  rw [h0] at h1 h2
  have hq := tdiv_nn hn hd
  have h4 : 0 ≤ n.toInt / d.toInt := Int.ediv_nonneg (by omega) (by omega)
  have h5 : n.toInt / d.toInt ≤ n.toInt := Int.ediv_le_self _ (by omega)
  have h6 : n.toInt / d.toInt * d.toInt ≤ n.toInt := Int.ediv_mul_le _ (by omega)
  have h7 : 0 ≤ n.toInt / d.toInt * d.toInt := Int.mul_nonneg h4 (by omega)
  have h8 := Int32.toInt_lt n
  have hm : (n / d * d).toInt = n.toInt / d.toInt * d.toInt := by
    rw [Int32.toInt_mul, hq]
    exact Int.bmod_eq_of_le (by omega) (by omega)
  refine ⟨?_, ?_, ?_⟩
  · rw [Int32.le_iff_toInt_le, hq, h0]; exact h4
  · rw [Int32.le_iff_toInt_le, hq]; exact h5
  · have hs : (n - n / d * d).toInt = n.toInt - n.toInt / d.toInt * d.toInt := by
      rw [Int32.toInt_sub, hm]
      exact Int.bmod_eq_of_le (by omega) (by omega)
    rw [Int32.le_iff_toInt_le, hs, h0]
    omega
theorem dem_eq {a b u : Int32} (ha : 0 ≤ a) (hab : a < b) (hb : b ≤ 1000) (hu0 : 0 ≤ u) (hu1 : u ≤ 1000) : inI (flI (1000 * (u - a)) (b - a)) 0 1000 = if b ≤ u then 1000 else if a < u then 1000 * (u - a) / (b - a) else 0 := by
  have hd : 0 < b - a := by grind
  rcases Int32.le_or_lt a u with h | h
  · have hn : 0 ≤ 1000 * (u - a) := by grind
    obtain ⟨g1, g2, g3⟩ := tdiv_bd hn hd
    have hf : flI (1000 * (u - a)) (b - a) = 1000 * (u - a) / (b - a) := by
      unfold flI
      rw [if_neg (Int32.not_lt.mpr g3)]
    rw [hf]
    have hq := tdiv_nn hn hd
    have e0 : (0 : Int32).toInt = 0 := rfl
    have e1 : (1000 : Int32).toInt = 1000 := rfl
    have i1 := Int32.le_iff_toInt_le.mp ha
    have i2 := Int32.lt_iff_toInt_lt.mp hab
    have i3 := Int32.le_iff_toInt_le.mp hb
    have i4 := Int32.le_iff_toInt_le.mp hu1
    have i5 := Int32.le_iff_toInt_le.mp h
    rw [e0] at i1
    rw [e1] at i3 i4
    have s1 : (u - a).toInt = u.toInt - a.toInt := by
      rw [Int32.toInt_sub]
      exact Int.bmod_eq_of_le (by omega) (by omega)
    have s2 : (b - a).toInt = b.toInt - a.toInt := by
      rw [Int32.toInt_sub]
      exact Int.bmod_eq_of_le (by omega) (by omega)
    have s3 : (1000 * (u - a)).toInt = 1000 * (u.toInt - a.toInt) := by
      rw [Int32.toInt_mul, s1, e1]
      exact Int.bmod_eq_of_le (by omega) (by omega)
    rw [s3, s2] at hq
    unfold inI
    rw [if_neg (Int32.not_lt.mpr g1)]
    by_cases hbu : b ≤ u
    · rw [if_pos hbu]
      have i6 := Int32.le_iff_toInt_le.mp hbu
      have hge : 1000 ≤ (1000 * (u.toInt - a.toInt)) / (b.toInt - a.toInt) := by
        rw [Int.le_ediv_iff_mul_le (by omega)]
        omega
      by_cases h9 : 1000 < 1000 * (u - a) / (b - a)
      · rw [if_pos h9]
      · rw [if_neg h9]
        have h10 := Int32.le_iff_toInt_le.mp (Int32.not_lt.mp h9)
        rw [hq, e1] at h10
        exact Int32.toInt_inj.mp (by rw [hq, e1]; omega)
    · rw [if_neg hbu]
      have i6 := Int32.lt_iff_toInt_lt.mp (Int32.not_le.mp hbu)
      have hle : (1000 * (u.toInt - a.toInt)) / (b.toInt - a.toInt) ≤ 1000 := by
        have := Int.ediv_le_ediv (c := b.toInt - a.toInt) (by omega) (show 1000 * (u.toInt - a.toInt) ≤ 1000 * (b.toInt - a.toInt) by omega)
        rw [Int.mul_ediv_cancel _ (by omega)] at this
        exact this
      rw [if_neg (fun h9 => by
        have h10 := Int32.lt_iff_toInt_lt.mp h9
        rw [hq, e1] at h10
        omega)]
      by_cases hau : a < u
      · rw [if_pos hau]
      · rw [if_neg hau]
        have : u = a := by grind
        subst this
        have e9 : (1000 : Int32) * (u - u) = 0 := by grind
        rw [e9]
        exact Int32.zero_div
  · have hn : 1000 * (u - a) ≤ 0 := by grind
    have hlo : -1000000 ≤ 1000 * (u - a) := by grind
    obtain ⟨g1, g2⟩ := tdiv_np hn hd hlo
    have h9 : flI (1000 * (u - a)) (b - a) ≤ 0 := by
      unfold flI
      split <;> grind
    unfold inI
    grind
set_option maxRecDepth 100000 in
set_option maxHeartbeats 4000000 in
theorem eX5_demandFor (X : Nat × (Nat → Int32)) (σ : XH) (k : Nat) (u : Int32) (h : okV (vC σ k)) (hu : 0 ≤ u ∧ u ≤ 1000) : fX5_demandFor X [xR 4 k, xI u] σ = some (.inl (some (.inl (demV (vC σ k) u))), σ) := by
  obtain ⟨-, -, ⟨h5, h56, h6⟩, h7, -⟩ := h
  have hd := dem_eq h5 h56 h6 hu.1 hu.2
  rw [uX5_demandFor]
  refine xDone ?_
  unfold demV
  rw [hd]
  simp only [vC_5, vC_6, vC_7] at h5 h56 h6 h7
  simp [↓pX5_demandFor_0, ↓pX5_demandFor_1, ↓pX5_demandFor_4, ↓pX5_demandFor_5, ↓pX5_demandFor_8, ↓pX5_demandFor_9, ↓pX5_demandFor_10, ↓pX5_demandFor_11, ↓pX5_demandFor_12, ↓pX5_demandFor_13, ↓pX5_demandFor_14, ↓pX5_demandFor_17, ↓pX5_demandFor_20, ↓pX5_demandFor_23, ↓pX5_demandFor_24, ↓pX5_demandFor_27, ↓pX5_demandFor_28, ↓pX5_demandFor_29, ↓pX5_demandFor_32, ↓pX5_demandFor_35, ↓pX5_demandFor_36, ↓pX5_demandFor_39, ↓pX5_demandFor_42, ↓pX5_demandFor_43, ↓pX5_demandFor_44, ↓pX5_demandFor_47, ↓pX5_demandFor_48, ↓pX5_demandFor_49, ↓pX5_demandFor_50, ↓pX5_demandFor_51, ↓pX5_demandFor_52, ↓pX5_demandFor_53, ↓pX5_demandFor_56, ↓pX5_demandFor_59, ↓pX5_demandFor_62, ↓pX5_demandFor_63, ↓pX5_demandFor_64, ↓pX5_demandFor_67, ↓pX5_demandFor_68, ↓xkI, ↓xkL, ↓xkA, ↓xsI, ↓xsL, ↓xsA, ↓xbI, ↓xbD, ↓xbL, ↓xc1, ↓xc2, ↓xgF, ↓xpF, ↓xgA, ↓xpA, ↓xgRA, ↓xgLen, xBnd, ↓xGoTo, ↓xRet, ↓xRetL, ↓xRetA, ↓xRetV, ↓xNew, ↓xlg, ↓xl1, ↓xl2, xk1, xk2, ↓xcat, ↓xws, ↓xStopAt, ↓xStopOut, ↓xpick, ↓xfg, ↓xfk, ↓xrho, ↓xlen, ↓xSw, ↓List.filter, vC_0, vC_1, vC_2, vC_3, vC_4, vC_5, vC_6, vC_7, vC_8, vC_9, vC_10, vC_11, vC_12, vC_13, vC_14, vC_15]
  rcases h7 with h7 | h7 <;> simp [h7] <;> (first | grind | (repeat' split <;> (first | rfl | simp_all; done | grind)))
theorem thru0 (V : Nat → Int32) : thruV V 0 = 0 := by
  have h : openV V 0 = 0 := by
    unfold openV
    split
    · rfl
    · split <;> decide
  unfold thruV
  rw [h]
  have h2 : V 3 * 0 = 0 := by grind
  rw [h2]
  decide
theorem dem_rng {V : Nat → Int32} (h : okV V) (u : Int32) : 0 ≤ demV V u ∧ demV V u ≤ 1000 := by
  unfold demV inI
  grind
theorem idV_eq {V : Nat → Int32} (h : okV V) (u : Int32) : thruV V (demV V u) = idV V u := by
  unfold idV
  split
  · rfl
  · have h2 := (dem_rng h u).1
    have h3 : demV V u = 0 := by grind
    rw [h3, thru0]
set_option maxRecDepth 100000 in
set_option maxHeartbeats 4000000 in
theorem eX5_idealFor (X : Nat × (Nat → Int32)) (σ : XH) (k : Nat) (u : Int32) (h : okV (vC σ k)) (hu : 0 ≤ u ∧ u ≤ 1000) : fX5_idealFor X [xR 4 k, xI u] σ = some (.inl (some (.inl (idV (vC σ k) u))), σ) := by
  have hd := eX5_demandFor X σ k u h hu
  have ht := fun p => eX5_through X σ k p h.2.1
  rw [uX5_idealFor, ← idV_eq h]
  refine xDone ?_
  simp [↓pX5_idealFor_0, ↓pX5_idealFor_1, ↓pX5_idealFor_2, ↓pX5_idealFor_3, ↓pX5_idealFor_6, ↓pX5_idealFor_9, ↓xkI, ↓xkL, ↓xkA, ↓xsI, ↓xsL, ↓xsA, ↓xbI, ↓xbD, ↓xbL, ↓xc1, ↓xc2, ↓xgF, ↓xpF, ↓xgA, ↓xpA, ↓xgRA, ↓xgLen, xBnd, ↓xGoTo, ↓xRet, ↓xRetL, ↓xRetA, ↓xRetV, ↓xNew, ↓xlg, ↓xl1, ↓xl2, xk1, xk2, ↓xcat, ↓xws, ↓xStopAt, ↓xStopOut, ↓xpick, ↓xfg, ↓xfk, ↓xrho, ↓xlen, ↓xSw, ↓List.filter, hd, ht]

