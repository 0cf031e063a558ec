/-! ===== pure words: what the methods compute (written by wip/whole/gen/pure1.py) ===== -/
theorem xDone {X : Nat × (Nat → Int32)} {cl : XC} {hd : Nat → Nat → Option (Option (Nat × Nat))} {rt : Nat} {stops : List (Nat × List Nat)} {tbl : List XE} {n pc : Nat} {lv : XL} {σ : XH} {b : Nat} {r : XR × XH} (h : xExec X cl hd rt stops tbl 1000 (xPc tbl pc) lv [] σ b = some (.inl r)) : xIter X cl hd rt stops tbl (n + 1) (pc, lv, σ, b) = some r := by
  unfold xIter
  dsimp only
  rw [h]
theorem xNext {X : Nat × (Nat → Int32)} {cl : XC} {hd : Nat → Nat → Option (Option (Nat × Nat))} {rt : Nat} {stops : List (Nat × List Nat)} {tbl : List XE} {n pc : Nat} {lv : XL} {σ : XH} {b : Nat} {s : Nat × XL × XH × Nat} (h : xExec X cl hd rt stops tbl 1000 (xPc tbl pc) lv [] σ b = some (.inr s)) : xIter X cl hd rt stops tbl (n + 1) (pc, lv, σ, b) = xIter X cl hd rt stops tbl n s := by
  rw [xIter]
  dsimp only
  rw [h]
/-- a pair's state: the ten numbers ahead, the two valves' sixteen each, the ledger's sixty -/
abbrev TS : Type := (Nat → Int32) × (Nat → Int32) × (Nat → Int32) × (Nat → Int32)
def trF (n : Nat) (f : Nat → Int32) : Nat → Int32 := fun i => if i < n then f i else 0
/-- a row of numbers, read from a place on -/
def aTS (f : Nat → Int32) (o : Nat) : TS := (trF 10 (fun i => f (o + i)), trF 16 (fun i => f (o + (10 + i))), trF 16 (fun i => f (o + (26 + i))), trF 60 (fun i => f (o + (42 + i))))
/-- the reference's state -/
abbrev mTS (σ : XH) : TS := aTS (fun i => σ.1 9 2 i) 0
abbrev updF (f : Nat → Int32) (i : Nat) (x : Int32) : Nat → Int32 := fun k => if k = i then x else f k
/-- the valve v of a pair -/
def vT (t : TS) : Nat → (Nat → Int32)
  | 0 => t.2.1
  | _ => t.2.2.1
def flI (a b : Int32) : Int32 := if a - a / b * b < 0 then a / b - 1 else a / b
def inI (v l m : Int32) : Int32 := if v < l then l else if m < v then m else v
def abI (a : Int32) : Int32 := if a < 0 then -a else a
def wearV (V : Nat → Int32) : Int32 := V 11 / 100 + 3 * V 12
def thrV (V : Nat → Int32) (w : Int32) : Int32 := if V 10 = 1 ∧ w = V 9 then 0 else V 1 + wearV V / 50 + (if V 9 = -w then V 2 else 0)
def wayI (off : Int32) : Int32 := if off < 0 then -1 else 1
def moveV (V : Nat → Int32) (d : Int32) : Int32 := if abI (d - V 8) = 0 ∨ abI (d - V 8) ≤ thrV V (wayI (d - V 8)) then 0 else wayI (d - V 8) * (if abI (d - V 8) < V 0 then abI (d - V 8) else V 0)
def openV (V : Nat → Int32) (p : Int32) : Int32 := if V 4 = 0 then p else if V 4 = 1 then p * p / 1000 else 1000 - (1000 - p) * (1000 - p) / 1000
def thruV (V : Nat → Int32) (p : Int32) : Int32 := V 3 * openV V p / 1000
def flowV (V : Nat → Int32) : Int32 := if 0 < V 8 then thruV V (V 8) else if wearV V / 20 < V 3 then wearV V / 20 else V 3
def demV (V : Nat → Int32) (u : Int32) : Int32 := if V 7 = 1 then 1000 - inI (flI (1000 * (u - V 5)) (V 6 - V 5)) 0 1000 else inI (flI (1000 * (u - V 5)) (V 6 - V 5)) 0 1000
def idV (V : Nat → Int32) (u : Int32) : Int32 := if 0 < demV V u then thruV V (demV V u) else 0
def bothT (t : TS) : Int32 := flowV t.2.1 + flowV t.2.2.1
def idealT (t : TS) (u : Int32) : Int32 := 0 + idV t.2.1 u + idV t.2.2.1 u
/-- the ranges of the two valves aren't empty -/
def okD (t : TS) : Prop := t.2.1 6 - t.2.1 5 ≠ 0 ∧ t.2.2.1 6 - t.2.2.1 5 ≠ 0
set_option maxRecDepth 100000 in
set_option maxHeartbeats 4000000 in
theorem eX8_of (X : Nat × (Nat → Int32)) (σ : XH) (v w : Int32) (h : 0 ≤ 10 + 16 * v + w ∧ (10 + 16 * v + w).toNatClampNeg < 102) : fX8_of X [xR 7 0, xI v, xI w] σ = some (.inl (some (.inl (σ.1 9 2 (10 + 16 * v + w).toNatClampNeg))), σ) := by
  rw [uX8_of]
  refine xDone ?_
  simp [↓pX8_of_0, ↓pX8_of_1, ↓pX8_of_4, ↓pX8_of_6, ↓pX8_of_8, ↓pX8_of_9, ↓pX8_of_10, ↓pX8_of_11, ↓pX8_of_12, ↓pX8_of_13, ↓pX8_of_14, ↓xkI, ↓xkL, ↓xkA, ↓xsI, ↓xsL, ↓xsA, ↓xbI, ↓xbD, ↓xbL, ↓xc1, ↓xc2, ↓xgF, ↓xpF, ↓xgA, ↓xpA, ↓xgLA, ↓xpLA, ↓xgRA, ↓xgLen, xBnd, ↓xGoTo, ↓xRet, ↓xRetL, ↓xRetA, ↓xRetV, ↓xNew, ↓xlg, ↓xl1, ↓xl2, xk1, xk2, ↓xcat, ↓xws, ↓xStopAt, ↓xStopOut, ↓xpick, ↓xfg, ↓xfk, ↓xrho, ↓xlen, ↓xSw, ↓List.filter, h]
set_option maxRecDepth 100000 in
set_option maxHeartbeats 4000000 in
theorem eX8_floor (X : Nat × (Nat → Int32)) (σ : XH) (a b : Int32) (h : b ≠ 0) : fX8_floor X [xI a, xI b] σ = some (.inl (some (.inl (flI a b))), σ) := by
  rw [uX8_floor]
  refine xDone ?_
  simp [↓pX8_floor_0, ↓pX8_floor_1, ↓pX8_floor_2, ↓pX8_floor_3, ↓pX8_floor_4, ↓pX8_floor_5, ↓pX8_floor_6, ↓pX8_floor_7, ↓pX8_floor_10, ↓pX8_floor_11, ↓pX8_floor_12, ↓pX8_floor_13, ↓pX8_floor_16, ↓pX8_floor_17, ↓xkI, ↓xkL, ↓xkA, ↓xsI, ↓xsL, ↓xsA, ↓xbI, ↓xbD, ↓xbL, ↓xc1, ↓xc2, ↓xgF, ↓xpF, ↓xgA, ↓xpA, ↓xgLA, ↓xpLA, ↓xgRA, ↓xgLen, xBnd, ↓xGoTo, ↓xRet, ↓xRetL, ↓xRetA, ↓xRetV, ↓xNew, ↓xlg, ↓xl1, ↓xl2, xk1, xk2, ↓xcat, ↓xws, ↓xStopAt, ↓xStopOut, ↓xpick, ↓xfg, ↓xfk, ↓xrho, ↓xlen, ↓xSw, ↓List.filter, h, flI]
  all_goals (first | grind | (repeat' split <;> (first | rfl | simp_all; done | grind)))
set_option maxRecDepth 100000 in
set_option maxHeartbeats 4000000 in
theorem eX8_into (X : Nat × (Nat → Int32)) (σ : XH) (v l m : Int32) : fX8_into X [xI v, xI l, xI m] σ = some (.inl (some (.inl (inI v l m))), σ) := by
  rw [uX8_into]
  refine xDone ?_
  simp [↓pX8_into_0, ↓pX8_into_1, ↓pX8_into_2, ↓pX8_into_5, ↓pX8_into_6, ↓pX8_into_9, ↓pX8_into_10, ↓pX8_into_11, ↓pX8_into_14, ↓pX8_into_15, ↓pX8_into_18, ↓pX8_into_19, ↓xkI, ↓xkL, ↓xkA, ↓xsI, ↓xsL, ↓xsA, ↓xbI, ↓xbD, ↓xbL, ↓xc1, ↓xc2, ↓xgF, ↓xpF, ↓xgA, ↓xpA, ↓xgLA, ↓xpLA, ↓xgRA, ↓xgLen, xBnd, ↓xGoTo, ↓xRet, ↓xRetL, ↓xRetA, ↓xRetV, ↓xNew, ↓xlg, ↓xl1, ↓xl2, xk1, xk2, ↓xcat, ↓xws, ↓xStopAt, ↓xStopOut, ↓xpick, ↓xfg, ↓xfk, ↓xrho, ↓xlen, ↓xSw, ↓List.filter, inI]
  all_goals (first | grind | (repeat' split <;> (first | rfl | simp_all; done | grind)))
set_option maxRecDepth 100000 in
set_option maxHeartbeats 4000000 in
theorem eX8_in (X : Nat × (Nat → Int32)) (σ : XH) (v l m : Int32) : fX8_in X [xI v, xI l, xI m] σ = some (.inl (some (.inl (if l ≤ v ∧ v ≤ m then 1 else 0))), σ) := by
  rw [uX8_in]
  refine xDone ?_
  simp [↓pX8_in_0, ↓pX8_in_1, ↓pX8_in_2, ↓pX8_in_5, ↓pX8_in_6, ↓pX8_in_7, ↓pX8_in_10, ↓pX8_in_11, ↓pX8_in_14, ↓pX8_in_15, ↓xkI, ↓xkL, ↓xkA, ↓xsI, ↓xsL, ↓xsA, ↓xbI, ↓xbD, ↓xbL, ↓xc1, ↓xc2, ↓xgF, ↓xpF, ↓xgA, ↓xpA, ↓xgLA, ↓xpLA, ↓xgRA, ↓xgLen, xBnd, ↓xGoTo, ↓xRet, ↓xRetL, ↓xRetA, ↓xRetV, ↓xNew, ↓xlg, ↓xl1, ↓xl2, xk1, xk2, ↓xcat, ↓xws, ↓xStopAt, ↓xStopOut, ↓xpick, ↓xfg, ↓xfk, ↓xrho, ↓xlen, ↓xSw, ↓List.filter]
  all_goals (first | grind | (repeat' split <;> (first | rfl | simp_all; done | grind)))
set_option maxRecDepth 100000 in
set_option maxHeartbeats 4000000 in
theorem eX8_isValve (X : Nat × (Nat → Int32)) (σ : XH) (v : Int32) : fX8_isValve X [xI v] σ = some (.inl (some (.inl (if 0 ≤ v ∧ v ≤ 1 then 1 else 0))), σ) := by
  rw [uX8_isValve]
  refine xDone ?_
  by_cases h : (0 : Int32) ≤ v ∧ v ≤ 1 <;> simp [↓pX8_isValve_0, ↓pX8_isValve_1, ↓pX8_isValve_2, ↓pX8_isValve_3, ↓pX8_isValve_6, ↓xkI, ↓xkL, ↓xkA, ↓xsI, ↓xsL, ↓xsA, ↓xbI, ↓xbD, ↓xbL, ↓xc1, ↓xc2, ↓xgF, ↓xpF, ↓xgA, ↓xpA, ↓xgLA, ↓xpLA, ↓xgRA, ↓xgLen, xBnd, ↓xGoTo, ↓xRet, ↓xRetL, ↓xRetA, ↓xRetV, ↓xNew, ↓xlg, ↓xl1, ↓xl2, xk1, xk2, ↓xcat, ↓xws, ↓xStopAt, ↓xStopOut, ↓xpick, ↓xfg, ↓xfk, ↓xrho, ↓xlen, ↓xSw, ↓List.filter, eX8_in, h]
set_option maxRecDepth 100000 in
set_option maxHeartbeats 4000000 in
theorem eX8_wear_0 (X : Nat × (Nat → Int32)) (σ : XH) : fX8_wear X [xR 7 0, xI 0] σ = some (.inl (some (.inl (wearV (vT (mTS σ) 0)))), σ) := by
  rw [uX8_wear]
  refine xDone ?_
  simp [↓pX8_wear_0, ↓pX8_wear_1, ↓pX8_wear_2, ↓pX8_wear_4, ↓pX8_wear_7, ↓pX8_wear_9, ↓pX8_wear_10, ↓pX8_wear_11, ↓pX8_wear_12, ↓pX8_wear_13, ↓pX8_wear_15, ↓pX8_wear_18, ↓pX8_wear_19, ↓pX8_wear_20, ↓xkI, ↓xkL, ↓xkA, ↓xsI, ↓xsL, ↓xsA, ↓xbI, ↓xbD, ↓xbL, ↓xc1, ↓xc2, ↓xgF, ↓xpF, ↓xgA, ↓xpA, ↓xgLA, ↓xpLA, ↓xgRA, ↓xgLen, xBnd, ↓xGoTo, ↓xRet, ↓xRetL, ↓xRetA, ↓xRetV, ↓xNew, ↓xlg, ↓xl1, ↓xl2, xk1, xk2, ↓xcat, ↓xws, ↓xStopAt, ↓xStopOut, ↓xpick, ↓xfg, ↓xfk, ↓xrho, ↓xlen, ↓xSw, ↓List.filter, eX8_of, wearV, vT, mTS, aTS, trF]
set_option maxRecDepth 100000 in
set_option maxHeartbeats 4000000 in
theorem eX8_threshold_0 (X : Nat × (Nat → Int32)) (σ : XH) (w : Int32) : fX8_threshold X [xR 7 0, xI 0, xI w] σ = some (.inl (some (.inl (thrV (vT (mTS σ) 0) w))), σ) := by
  rw [uX8_threshold]
  refine xDone ?_
  simp [↓pX8_threshold_0, ↓pX8_threshold_1, ↓pX8_threshold_2, ↓pX8_threshold_4, ↓pX8_threshold_7, ↓pX8_threshold_8, ↓pX8_threshold_9, ↓pX8_threshold_10, ↓pX8_threshold_12, ↓pX8_threshold_15, ↓pX8_threshold_16, ↓pX8_threshold_19, ↓pX8_threshold_20, ↓pX8_threshold_21, ↓pX8_threshold_24, ↓pX8_threshold_25, ↓pX8_threshold_26, ↓pX8_threshold_27, ↓pX8_threshold_28, ↓pX8_threshold_29, ↓pX8_threshold_32, ↓pX8_threshold_33, ↓pX8_threshold_34, ↓pX8_threshold_37, ↓pX8_threshold_39, ↓pX8_threshold_40, ↓pX8_threshold_41, ↓pX8_threshold_42, ↓pX8_threshold_43, ↓pX8_threshold_44, ↓pX8_threshold_47, ↓pX8_threshold_48, ↓pX8_threshold_49, ↓pX8_threshold_50, ↓pX8_threshold_53, ↓pX8_threshold_56, ↓pX8_threshold_57, ↓pX8_threshold_58, ↓xkI, ↓xkL, ↓xkA, ↓xsI, ↓xsL, ↓xsA, ↓xbI, ↓xbD, ↓xbL, ↓xc1, ↓xc2, ↓xgF, ↓xpF, ↓xgA, ↓xpA, ↓xgLA, ↓xpLA, ↓xgRA, ↓xgLen, xBnd, ↓xGoTo, ↓xRet, ↓xRetL, ↓xRetA, ↓xRetV, ↓xNew, ↓xlg, ↓xl1, ↓xl2, xk1, xk2, ↓xcat, ↓xws, ↓xStopAt, ↓xStopOut, ↓xpick, ↓xfg, ↓xfk, ↓xrho, ↓xlen, ↓xSw, ↓List.filter, eX8_of, eX8_wear_0, thrV, vT, mTS, aTS, trF]
  all_goals (first | grind | (repeat' split <;> (first | rfl | simp_all; done | grind)))
set_option maxRecDepth 100000 in
set_option maxHeartbeats 4000000 in
theorem eX8_move_0 (X : Nat × (Nat → Int32)) (σ : XH) (d : Int32) : fX8_move X [xR 7 0, xI 0, xI d] σ = some (.inl (some (.inl (moveV (vT (mTS σ) 0) d))), σ) := by
  rw [uX8_move]
  refine xDone ?_
  simp [↓pX8_move_0, ↓pX8_move_1, ↓pX8_move_2, ↓pX8_move_3, ↓pX8_move_5, ↓pX8_move_8, ↓pX8_move_9, ↓pX8_move_10, ↓pX8_move_11, ↓pX8_move_14, ↓pX8_move_15, ↓pX8_move_16, ↓pX8_move_19, ↓pX8_move_20, ↓pX8_move_22, ↓pX8_move_23, ↓pX8_move_26, ↓pX8_move_27, ↓pX8_move_30, ↓pX8_move_31, ↓pX8_move_33, ↓pX8_move_35, ↓pX8_move_38, ↓pX8_move_40, ↓pX8_move_41, ↓pX8_move_42, ↓pX8_move_44, ↓pX8_move_47, ↓pX8_move_50, ↓pX8_move_51, ↓pX8_move_52, ↓pX8_move_54, ↓pX8_move_56, ↓pX8_move_57, ↓pX8_move_58, ↓pX8_move_59, ↓pX8_move_62, ↓pX8_move_65, ↓pX8_move_67, ↓pX8_move_70, ↓pX8_move_71, ↓pX8_move_72, ↓pX8_move_73, ↓pX8_move_76, ↓pX8_move_77, ↓xkI, ↓xkL, ↓xkA, ↓xsI, ↓xsL, ↓xsA, ↓xbI, ↓xbD, ↓xbL, ↓xc1, ↓xc2, ↓xgF, ↓xpF, ↓xgA, ↓xpA, ↓xgLA, ↓xpLA, ↓xgRA, ↓xgLen, xBnd, ↓xGoTo, ↓xRet, ↓xRetL, ↓xRetA, ↓xRetV, ↓xNew, ↓xlg, ↓xl1, ↓xl2, xk1, xk2, ↓xcat, ↓xws, ↓xStopAt, ↓xStopOut, ↓xpick, ↓xfg, ↓xfk, ↓xrho, ↓xlen, ↓xSw, ↓List.filter, eX8_of, eX8_threshold_0, moveV, abI, wayI, vT, mTS, aTS, trF]
  all_goals (first | grind | (repeat' split <;> (first | rfl | simp_all; done | grind)))
set_option maxRecDepth 100000 in
set_option maxHeartbeats 4000000 in
theorem eX8_through_0 (X : Nat × (Nat → Int32)) (σ : XH) (p : Int32) : fX8_through X [xR 7 0, xI 0, xI p] σ = some (.inl (some (.inl (thruV (vT (mTS σ) 0) p))), σ) := by
  rw [uX8_through]
  refine xDone ?_
  simp [↓pX8_through_0, ↓pX8_through_1, ↓pX8_through_2, ↓pX8_through_3, ↓pX8_through_6, ↓pX8_through_7, ↓pX8_through_10, ↓pX8_through_11, ↓pX8_through_12, ↓pX8_through_14, ↓pX8_through_15, ↓pX8_through_18, ↓pX8_through_19, ↓pX8_through_22, ↓pX8_through_23, ↓pX8_through_24, ↓pX8_through_27, ↓pX8_through_28, ↓pX8_through_29, ↓pX8_through_30, ↓pX8_through_33, ↓pX8_through_34, ↓pX8_through_37, ↓pX8_through_40, ↓pX8_through_42, ↓pX8_through_44, ↓pX8_through_45, ↓pX8_through_48, ↓pX8_through_49, ↓pX8_through_50, ↓pX8_through_52, ↓pX8_through_53, ↓pX8_through_54, ↓pX8_through_55, ↓pX8_through_58, ↓pX8_through_60, ↓pX8_through_61, ↓pX8_through_64, ↓pX8_through_65, ↓xkI, ↓xkL, ↓xkA, ↓xsI, ↓xsL, ↓xsA, ↓xbI, ↓xbD, ↓xbL, ↓xc1, ↓xc2, ↓xgF, ↓xpF, ↓xgA, ↓xpA, ↓xgLA, ↓xpLA, ↓xgRA, ↓xgLen, xBnd, ↓xGoTo, ↓xRet, ↓xRetL, ↓xRetA, ↓xRetV, ↓xNew, ↓xlg, ↓xl1, ↓xl2, xk1, xk2, ↓xcat, ↓xws, ↓xStopAt, ↓xStopOut, ↓xpick, ↓xfg, ↓xfk, ↓xrho, ↓xlen, ↓xSw, ↓List.filter, eX8_of, thruV, openV, vT, mTS, aTS, trF]
  all_goals (first | grind | (repeat' split <;> (first | rfl | simp_all; done | grind)))
set_option maxRecDepth 100000 in
set_option maxHeartbeats 4000000 in
theorem eX8_flow_0 (X : Nat × (Nat → Int32)) (σ : XH) : fX8_flow X [xR 7 0, xI 0] σ = some (.inl (some (.inl (flowV (vT (mTS σ) 0)))), σ) := by
  rw [uX8_flow]
  refine xDone ?_
  simp [↓pX8_flow_0, ↓pX8_flow_1, ↓pX8_flow_2, ↓pX8_flow_4, ↓pX8_flow_7, ↓pX8_flow_10, ↓pX8_flow_11, ↓pX8_flow_12, ↓pX8_flow_13, ↓pX8_flow_14, ↓pX8_flow_16, ↓pX8_flow_19, ↓pX8_flow_22, ↓pX8_flow_23, ↓pX8_flow_24, ↓pX8_flow_25, ↓pX8_flow_28, ↓pX8_flow_30, ↓pX8_flow_31, ↓pX8_flow_32, ↓pX8_flow_33, ↓pX8_flow_34, ↓pX8_flow_35, ↓pX8_flow_36, ↓pX8_flow_39, ↓pX8_flow_42, ↓pX8_flow_43, ↓pX8_flow_46, ↓pX8_flow_47, ↓pX8_flow_48, ↓pX8_flow_49, ↓pX8_flow_52, ↓xkI, ↓xkL, ↓xkA, ↓xsI, ↓xsL, ↓xsA, ↓xbI, ↓xbD, ↓xbL, ↓xc1, ↓xc2, ↓xgF, ↓xpF, ↓xgA, ↓xpA, ↓xgLA, ↓xpLA, ↓xgRA, ↓xgLen, xBnd, ↓xGoTo, ↓xRet, ↓xRetL, ↓xRetA, ↓xRetV, ↓xNew, ↓xlg, ↓xl1, ↓xl2, xk1, xk2, ↓xcat, ↓xws, ↓xStopAt, ↓xStopOut, ↓xpick, ↓xfg, ↓xfk, ↓xrho, ↓xlen, ↓xSw, ↓List.filter, eX8_of, eX8_through_0, eX8_wear_0, flowV, vT, mTS, aTS, trF]
  all_goals (first | grind | (repeat' split <;> (first | rfl | simp_all; done | grind)))
set_option maxRecDepth 100000 in
set_option maxHeartbeats 4000000 in
theorem eX8_demand_0 (X : Nat × (Nat → Int32)) (σ : XH) (u : Int32) (h : (vT (mTS σ) 0) 6 - (vT (mTS σ) 0) 5 ≠ 0) : fX8_demand X [xR 7 0, xI 0, xI u] σ = some (.inl (some (.inl (demV (vT (mTS σ) 0) u))), σ) := by
  rw [uX8_demand]
  refine xDone ?_
  simp [vT, mTS, aTS, trF] at h
  simp [↓pX8_demand_0, ↓pX8_demand_1, ↓pX8_demand_2, ↓pX8_demand_3, ↓pX8_demand_6, ↓pX8_demand_7, ↓pX8_demand_10, ↓pX8_demand_11, ↓pX8_demand_12, ↓pX8_demand_13, ↓pX8_demand_14, ↓pX8_demand_15, ↓pX8_demand_16, ↓pX8_demand_18, ↓pX8_demand_21, ↓pX8_demand_22, ↓pX8_demand_23, ↓pX8_demand_26, ↓pX8_demand_27, ↓pX8_demand_30, ↓pX8_demand_33, ↓pX8_demand_35, ↓pX8_demand_36, ↓pX8_demand_37, ↓pX8_demand_39, ↓pX8_demand_42, ↓pX8_demand_43, ↓pX8_demand_46, ↓pX8_demand_49, ↓pX8_demand_51, ↓pX8_demand_52, ↓pX8_demand_55, ↓pX8_demand_57, ↓xkI, ↓xkL, ↓xkA, ↓xsI, ↓xsL, ↓xsA, ↓xbI, ↓xbD, ↓xbL, ↓xc1, ↓xc2, ↓xgF, ↓xpF, ↓xgA, ↓xpA, ↓xgLA, ↓xpLA, ↓xgRA, ↓xgLen, xBnd, ↓xGoTo, ↓xRet, ↓xRetL, ↓xRetA, ↓xRetV, ↓xNew, ↓xlg, ↓xl1, ↓xl2, xk1, xk2, ↓xcat, ↓xws, ↓xStopAt, ↓xStopOut, ↓xpick, ↓xfg, ↓xfk, ↓xrho, ↓xlen, ↓xSw, ↓List.filter, eX8_of, eX8_floor, eX8_into, h, demV, vT, mTS, aTS, trF]
  all_goals (first | grind | (repeat' split <;> (first | rfl | simp_all; done | grind)))
set_option maxRecDepth 100000 in
set_option maxHeartbeats 4000000 in
theorem eX8_wear_1 (X : Nat × (Nat → Int32)) (σ : XH) : fX8_wear X [xR 7 0, xI 1] σ = some (.inl (some (.inl (wearV (vT (mTS σ) 1)))), σ) := by
  rw [uX8_wear]
  refine xDone ?_
  simp [↓pX8_wear_0, ↓pX8_wear_1, ↓pX8_wear_2, ↓pX8_wear_4, ↓pX8_wear_7, ↓pX8_wear_9, ↓pX8_wear_10, ↓pX8_wear_11, ↓pX8_wear_12, ↓pX8_wear_13, ↓pX8_wear_15, ↓pX8_wear_18, ↓pX8_wear_19, ↓pX8_wear_20, ↓xkI, ↓xkL, ↓xkA, ↓xsI, ↓xsL, ↓xsA, ↓xbI, ↓xbD, ↓xbL, ↓xc1, ↓xc2, ↓xgF, ↓xpF, ↓xgA, ↓xpA, ↓xgLA, ↓xpLA, ↓xgRA, ↓xgLen, xBnd, ↓xGoTo, ↓xRet, ↓xRetL, ↓xRetA, ↓xRetV, ↓xNew, ↓xlg, ↓xl1, ↓xl2, xk1, xk2, ↓xcat, ↓xws, ↓xStopAt, ↓xStopOut, ↓xpick, ↓xfg, ↓xfk, ↓xrho, ↓xlen, ↓xSw, ↓List.filter, eX8_of, wearV, vT, mTS, aTS, trF]
set_option maxRecDepth 100000 in
set_option maxHeartbeats 4000000 in
theorem eX8_threshold_1 (X : Nat × (Nat → Int32)) (σ : XH) (w : Int32) : fX8_threshold X [xR 7 0, xI 1, xI w] σ = some (.inl (some (.inl (thrV (vT (mTS σ) 1) w))), σ) := by
  rw [uX8_threshold]
  refine xDone ?_
  simp [↓pX8_threshold_0, ↓pX8_threshold_1, ↓pX8_threshold_2, ↓pX8_threshold_4, ↓pX8_threshold_7, ↓pX8_threshold_8, ↓pX8_threshold_9, ↓pX8_threshold_10, ↓pX8_threshold_12, ↓pX8_threshold_15, ↓pX8_threshold_16, ↓pX8_threshold_19, ↓pX8_threshold_20, ↓pX8_threshold_21, ↓pX8_threshold_24, ↓pX8_threshold_25, ↓pX8_threshold_26, ↓pX8_threshold_27, ↓pX8_threshold_28, ↓pX8_threshold_29, ↓pX8_threshold_32, ↓pX8_threshold_33, ↓pX8_threshold_34, ↓pX8_threshold_37, ↓pX8_threshold_39, ↓pX8_threshold_40, ↓pX8_threshold_41, ↓pX8_threshold_42, ↓pX8_threshold_43, ↓pX8_threshold_44, ↓pX8_threshold_47, ↓pX8_threshold_48, ↓pX8_threshold_49, ↓pX8_threshold_50, ↓pX8_threshold_53, ↓pX8_threshold_56, ↓pX8_threshold_57, ↓pX8_threshold_58, ↓xkI, ↓xkL, ↓xkA, ↓xsI, ↓xsL, ↓xsA, ↓xbI, ↓xbD, ↓xbL, ↓xc1, ↓xc2, ↓xgF, ↓xpF, ↓xgA, ↓xpA, ↓xgLA, ↓xpLA, ↓xgRA, ↓xgLen, xBnd, ↓xGoTo, ↓xRet, ↓xRetL, ↓xRetA, ↓xRetV, ↓xNew, ↓xlg, ↓xl1, ↓xl2, xk1, xk2, ↓xcat, ↓xws, ↓xStopAt, ↓xStopOut, ↓xpick, ↓xfg, ↓xfk, ↓xrho, ↓xlen, ↓xSw, ↓List.filter, eX8_of, eX8_wear_1, thrV, vT, mTS, aTS, trF]
  all_goals (first | grind | (repeat' split <;> (first | rfl | simp_all; done | grind)))
set_option maxRecDepth 100000 in
set_option maxHeartbeats 4000000 in
theorem eX8_move_1 (X : Nat × (Nat → Int32)) (σ : XH) (d : Int32) : fX8_move X [xR 7 0, xI 1, xI d] σ = some (.inl (some (.inl (moveV (vT (mTS σ) 1) d))), σ) := by
  rw [uX8_move]
  refine xDone ?_
  simp [↓pX8_move_0, ↓pX8_move_1, ↓pX8_move_2, ↓pX8_move_3, ↓pX8_move_5, ↓pX8_move_8, ↓pX8_move_9, ↓pX8_move_10, ↓pX8_move_11, ↓pX8_move_14, ↓pX8_move_15, ↓pX8_move_16, ↓pX8_move_19, ↓pX8_move_20, ↓pX8_move_22, ↓pX8_move_23, ↓pX8_move_26, ↓pX8_move_27, ↓pX8_move_30, ↓pX8_move_31, ↓pX8_move_33, ↓pX8_move_35, ↓pX8_move_38, ↓pX8_move_40, ↓pX8_move_41, ↓pX8_move_42, ↓pX8_move_44, ↓pX8_move_47, ↓pX8_move_50, ↓pX8_move_51, ↓pX8_move_52, ↓pX8_move_54, ↓pX8_move_56, ↓pX8_move_57, ↓pX8_move_58, ↓pX8_move_59, ↓pX8_move_62, ↓pX8_move_65, ↓pX8_move_67, ↓pX8_move_70, ↓pX8_move_71, ↓pX8_move_72, ↓pX8_move_73, ↓pX8_move_76, ↓pX8_move_77, ↓xkI, ↓xkL, ↓xkA, ↓xsI, ↓xsL, ↓xsA, ↓xbI, ↓xbD, ↓xbL, ↓xc1, ↓xc2, ↓xgF, ↓xpF, ↓xgA, ↓xpA, ↓xgLA, ↓xpLA, ↓xgRA, ↓xgLen, xBnd, ↓xGoTo, ↓xRet, ↓xRetL, ↓xRetA, ↓xRetV, ↓xNew, ↓xlg, ↓xl1, ↓xl2, xk1, xk2, ↓xcat, ↓xws, ↓xStopAt, ↓xStopOut, ↓xpick, ↓xfg, ↓xfk, ↓xrho, ↓xlen, ↓xSw, ↓List.filter, eX8_of, eX8_threshold_1, moveV, abI, wayI, vT, mTS, aTS, trF]
  all_goals (first | grind | (repeat' split <;> (first | rfl | simp_all; done | grind)))
set_option maxRecDepth 100000 in
set_option maxHeartbeats 4000000 in
theorem eX8_through_1 (X : Nat × (Nat → Int32)) (σ : XH) (p : Int32) : fX8_through X [xR 7 0, xI 1, xI p] σ = some (.inl (some (.inl (thruV (vT (mTS σ) 1) p))), σ) := by
  rw [uX8_through]
  refine xDone ?_
  simp [↓pX8_through_0, ↓pX8_through_1, ↓pX8_through_2, ↓pX8_through_3, ↓pX8_through_6, ↓pX8_through_7, ↓pX8_through_10, ↓pX8_through_11, ↓pX8_through_12, ↓pX8_through_14, ↓pX8_through_15, ↓pX8_through_18, ↓pX8_through_19, ↓pX8_through_22, ↓pX8_through_23, ↓pX8_through_24, ↓pX8_through_27, ↓pX8_through_28, ↓pX8_through_29, ↓pX8_through_30, ↓pX8_through_33, ↓pX8_through_34, ↓pX8_through_37, ↓pX8_through_40, ↓pX8_through_42, ↓pX8_through_44, ↓pX8_through_45, ↓pX8_through_48, ↓pX8_through_49, ↓pX8_through_50, ↓pX8_through_52, ↓pX8_through_53, ↓pX8_through_54, ↓pX8_through_55, ↓pX8_through_58, ↓pX8_through_60, ↓pX8_through_61, ↓pX8_through_64, ↓pX8_through_65, ↓xkI, ↓xkL, ↓xkA, ↓xsI, ↓xsL, ↓xsA, ↓xbI, ↓xbD, ↓xbL, ↓xc1, ↓xc2, ↓xgF, ↓xpF, ↓xgA, ↓xpA, ↓xgLA, ↓xpLA, ↓xgRA, ↓xgLen, xBnd, ↓xGoTo, ↓xRet, ↓xRetL, ↓xRetA, ↓xRetV, ↓xNew, ↓xlg, ↓xl1, ↓xl2, xk1, xk2, ↓xcat, ↓xws, ↓xStopAt, ↓xStopOut, ↓xpick, ↓xfg, ↓xfk, ↓xrho, ↓xlen, ↓xSw, ↓List.filter, eX8_of, thruV, openV, vT, mTS, aTS, trF]
  all_goals (first | grind | (repeat' split <;> (first | rfl | simp_all; done | grind)))
set_option maxRecDepth 100000 in
set_option maxHeartbeats 4000000 in
theorem eX8_flow_1 (X : Nat × (Nat → Int32)) (σ : XH) : fX8_flow X [xR 7 0, xI 1] σ = some (.inl (some (.inl (flowV (vT (mTS σ) 1)))), σ) := by
  rw [uX8_flow]
  refine xDone ?_
  simp [↓pX8_flow_0, ↓pX8_flow_1, ↓pX8_flow_2, ↓pX8_flow_4, ↓pX8_flow_7, ↓pX8_flow_10, ↓pX8_flow_11, ↓pX8_flow_12, ↓pX8_flow_13, ↓pX8_flow_14, ↓pX8_flow_16, ↓pX8_flow_19, ↓pX8_flow_22, ↓pX8_flow_23, ↓pX8_flow_24, ↓pX8_flow_25, ↓pX8_flow_28, ↓pX8_flow_30, ↓pX8_flow_31, ↓pX8_flow_32, ↓pX8_flow_33, ↓pX8_flow_34, ↓pX8_flow_35, ↓pX8_flow_36, ↓pX8_flow_39, ↓pX8_flow_42, ↓pX8_flow_43, ↓pX8_flow_46, ↓pX8_flow_47, ↓pX8_flow_48, ↓pX8_flow_49, ↓pX8_flow_52, ↓xkI, ↓xkL, ↓xkA, ↓xsI, ↓xsL, ↓xsA, ↓xbI, ↓xbD, ↓xbL, ↓xc1, ↓xc2, ↓xgF, ↓xpF, ↓xgA, ↓xpA, ↓xgLA, ↓xpLA, ↓xgRA, ↓xgLen, xBnd, ↓xGoTo, ↓xRet, ↓xRetL, ↓xRetA, ↓xRetV, ↓xNew, ↓xlg, ↓xl1, ↓xl2, xk1, xk2, ↓xcat, ↓xws, ↓xStopAt, ↓xStopOut, ↓xpick, ↓xfg, ↓xfk, ↓xrho, ↓xlen, ↓xSw, ↓List.filter, eX8_of, eX8_through_1, eX8_wear_1, flowV, vT, mTS, aTS, trF]
  all_goals (first | grind | (repeat' split <;> (first | rfl | simp_all; done | grind)))
set_option maxRecDepth 100000 in
set_option maxHeartbeats 4000000 in
theorem eX8_demand_1 (X : Nat × (Nat → Int32)) (σ : XH) (u : Int32) (h : (vT (mTS σ) 1) 6 - (vT (mTS σ) 1) 5 ≠ 0) : fX8_demand X [xR 7 0, xI 1, xI u] σ = some (.inl (some (.inl (demV (vT (mTS σ) 1) u))), σ) := by
  rw [uX8_demand]
  refine xDone ?_
  simp [vT, mTS, aTS, trF] at h
  simp [↓pX8_demand_0, ↓pX8_demand_1, ↓pX8_demand_2, ↓pX8_demand_3, ↓pX8_demand_6, ↓pX8_demand_7, ↓pX8_demand_10, ↓pX8_demand_11, ↓pX8_demand_12, ↓pX8_demand_13, ↓pX8_demand_14, ↓pX8_demand_15, ↓pX8_demand_16, ↓pX8_demand_18, ↓pX8_demand_21, ↓pX8_demand_22, ↓pX8_demand_23, ↓pX8_demand_26, ↓pX8_demand_27, ↓pX8_demand_30, ↓pX8_demand_33, ↓pX8_demand_35, ↓pX8_demand_36, ↓pX8_demand_37, ↓pX8_demand_39, ↓pX8_demand_42, ↓pX8_demand_43, ↓pX8_demand_46, ↓pX8_demand_49, ↓pX8_demand_51, ↓pX8_demand_52, ↓pX8_demand_55, ↓pX8_demand_57, ↓xkI, ↓xkL, ↓xkA, ↓xsI, ↓xsL, ↓xsA, ↓xbI, ↓xbD, ↓xbL, ↓xc1, ↓xc2, ↓xgF, ↓xpF, ↓xgA, ↓xpA, ↓xgLA, ↓xpLA, ↓xgRA, ↓xgLen, xBnd, ↓xGoTo, ↓xRet, ↓xRetL, ↓xRetA, ↓xRetV, ↓xNew, ↓xlg, ↓xl1, ↓xl2, xk1, xk2, ↓xcat, ↓xws, ↓xStopAt, ↓xStopOut, ↓xpick, ↓xfg, ↓xfk, ↓xrho, ↓xlen, ↓xSw, ↓List.filter, eX8_of, eX8_floor, eX8_into, h, demV, vT, mTS, aTS, trF]
  all_goals (first | grind | (repeat' split <;> (first | rfl | simp_all; done | grind)))
set_option maxRecDepth 100000 in
set_option maxHeartbeats 4000000 in
theorem eX8_both (X : Nat × (Nat → Int32)) (σ : XH) : fX8_both X [xR 7 0] σ = some (.inl (some (.inl (bothT (mTS σ)))), σ) := by
  rw [uX8_both]
  refine xDone ?_
  simp [↓pX8_both_0, ↓pX8_both_1, ↓pX8_both_2, ↓pX8_both_5, ↓pX8_both_6, ↓pX8_both_7, ↓pX8_both_10, ↓pX8_both_11, ↓xkI, ↓xkL, ↓xkA, ↓xsI, ↓xsL, ↓xsA, ↓xbI, ↓xbD, ↓xbL, ↓xc1, ↓xc2, ↓xgF, ↓xpF, ↓xgA, ↓xpA, ↓xgLA, ↓xpLA, ↓xgRA, ↓xgLen, xBnd, ↓xGoTo, ↓xRet, ↓xRetL, ↓xRetA, ↓xRetV, ↓xNew, ↓xlg, ↓xl1, ↓xl2, xk1, xk2, ↓xcat, ↓xws, ↓xStopAt, ↓xStopOut, ↓xpick, ↓xfg, ↓xfk, ↓xrho, ↓xlen, ↓xSw, ↓List.filter, eX8_flow_0, eX8_flow_1, bothT, vT]
set_option maxRecDepth 100000 in
set_option maxHeartbeats 4000000 in
theorem eX8_ideal (X : Nat × (Nat → Int32)) (σ : XH) (u : Int32) (h : okD (mTS σ)) : fX8_ideal X [xR 7 0, xI u] σ = some (.inl (some (.inl (idealT (mTS σ) u))), σ) := by
  obtain ⟨h0, h1⟩ := h
  have d0 := eX8_demand_0 X σ u h0
  have d1 := eX8_demand_1 X σ u h1
  have g0 : (vT (mTS σ) 0) = (mTS σ).2.1 := rfl
  have g1 : (vT (mTS σ) 1) = (mTS σ).2.2.1 := rfl
  rw [uX8_ideal]
  refine (xNext (s := (4, [(0, xR 7 0), (1, xI u), (2, xI 0), (3, xI 0)], σ, 0)) (by simp [↓pX8_ideal_0, ↓pX8_ideal_1, ↓pX8_ideal_2, ↓pX8_ideal_3, ↓pX8_ideal_4, ↓pX8_ideal_5, ↓pX8_ideal_6, ↓pX8_ideal_9, ↓pX8_ideal_10, ↓pX8_ideal_11, ↓pX8_ideal_12, ↓pX8_ideal_15, ↓pX8_ideal_17, ↓pX8_ideal_18, ↓pX8_ideal_20, ↓pX8_ideal_23, ↓pX8_ideal_24, ↓pX8_ideal_25, ↓pX8_ideal_27, ↓pX8_ideal_30, ↓pX8_ideal_33, ↓pX8_ideal_34, ↓pX8_ideal_35, ↓pX8_ideal_36, ↓pX8_ideal_39, ↓pX8_ideal_42, ↓pX8_ideal_43, ↓xkI, ↓xkL, ↓xkA, ↓xsI, ↓xsL, ↓xsA, ↓xbI, ↓xbD, ↓xbL, ↓xc1, ↓xc2, ↓xgF, ↓xpF, ↓xgA, ↓xpA, ↓xgLA, ↓xpLA, ↓xgRA, ↓xgLen, xBnd, ↓xGoTo, ↓xRet, ↓xRetL, ↓xRetA, ↓xRetV, ↓xNew, ↓xlg, ↓xl1, ↓xl2, xk1, xk2, ↓xcat, ↓xws, ↓xStopAt, ↓xStopOut, ↓xpick, ↓xfg, ↓xfk, ↓xrho, ↓xlen, ↓xSw, ↓List.filter])).trans ?_
  refine (xNext (s := (4, [(0, xR 7 0), (1, xI u), (2, xI (0 + idV (mTS σ).2.1 u)), (3, xI 1)], σ, 0)) (by
    simp [↓pX8_ideal_0, ↓pX8_ideal_1, ↓pX8_ideal_2, ↓pX8_ideal_3, ↓pX8_ideal_4, ↓pX8_ideal_5, ↓pX8_ideal_6, ↓pX8_ideal_9, ↓pX8_ideal_10, ↓pX8_ideal_11, ↓pX8_ideal_12, ↓pX8_ideal_15, ↓pX8_ideal_17, ↓pX8_ideal_18, ↓pX8_ideal_20, ↓pX8_ideal_23, ↓pX8_ideal_24, ↓pX8_ideal_25, ↓pX8_ideal_27, ↓pX8_ideal_30, ↓pX8_ideal_33, ↓pX8_ideal_34, ↓pX8_ideal_35, ↓pX8_ideal_36, ↓pX8_ideal_39, ↓pX8_ideal_42, ↓pX8_ideal_43, ↓xkI, ↓xkL, ↓xkA, ↓xsI, ↓xsL, ↓xsA, ↓xbI, ↓xbD, ↓xbL, ↓xc1, ↓xc2, ↓xgF, ↓xpF, ↓xgA, ↓xpA, ↓xgLA, ↓xpLA, ↓xgRA, ↓xgLen, xBnd, ↓xGoTo, ↓xRet, ↓xRetL, ↓xRetA, ↓xRetV, ↓xNew, ↓xlg, ↓xl1, ↓xl2, xk1, xk2, ↓xcat, ↓xws, ↓xStopAt, ↓xStopOut, ↓xpick, ↓xfg, ↓xfk, ↓xrho, ↓xlen, ↓xSw, ↓List.filter, d0, eX8_through_0, g0, idV]
    all_goals (first | grind | (repeat' split <;> (first | rfl | simp_all; done | grind))))).trans ?_
  refine (xNext (s := (4, [(0, xR 7 0), (1, xI u), (2, xI (0 + idV (mTS σ).2.1 u + idV (mTS σ).2.2.1 u)), (3, xI 2)], σ, 0)) (by
    simp [↓pX8_ideal_0, ↓pX8_ideal_1, ↓pX8_ideal_2, ↓pX8_ideal_3, ↓pX8_ideal_4, ↓pX8_ideal_5, ↓pX8_ideal_6, ↓pX8_ideal_9, ↓pX8_ideal_10, ↓pX8_ideal_11, ↓pX8_ideal_12, ↓pX8_ideal_15, ↓pX8_ideal_17, ↓pX8_ideal_18, ↓pX8_ideal_20, ↓pX8_ideal_23, ↓pX8_ideal_24, ↓pX8_ideal_25, ↓pX8_ideal_27, ↓pX8_ideal_30, ↓pX8_ideal_33, ↓pX8_ideal_34, ↓pX8_ideal_35, ↓pX8_ideal_36, ↓pX8_ideal_39, ↓pX8_ideal_42, ↓pX8_ideal_43, ↓xkI, ↓xkL, ↓xkA, ↓xsI, ↓xsL, ↓xsA, ↓xbI, ↓xbD, ↓xbL, ↓xc1, ↓xc2, ↓xgF, ↓xpF, ↓xgA, ↓xpA, ↓xgLA, ↓xpLA, ↓xgRA, ↓xgLen, xBnd, ↓xGoTo, ↓xRet, ↓xRetL, ↓xRetA, ↓xRetV, ↓xNew, ↓xlg, ↓xl1, ↓xl2, xk1, xk2, ↓xcat, ↓xws, ↓xStopAt, ↓xStopOut, ↓xpick, ↓xfg, ↓xfk, ↓xrho, ↓xlen, ↓xSw, ↓List.filter, d1, eX8_through_1, g1, idV]
    all_goals (first | grind | (repeat' split <;> (first | rfl | simp_all; done | grind))))).trans ?_
  refine xDone ?_
  simp [↓pX8_ideal_0, ↓pX8_ideal_1, ↓pX8_ideal_2, ↓pX8_ideal_3, ↓pX8_ideal_4, ↓pX8_ideal_5, ↓pX8_ideal_6, ↓pX8_ideal_9, ↓pX8_ideal_10, ↓pX8_ideal_11, ↓pX8_ideal_12, ↓pX8_ideal_15, ↓pX8_ideal_17, ↓pX8_ideal_18, ↓pX8_ideal_20, ↓pX8_ideal_23, ↓pX8_ideal_24, ↓pX8_ideal_25, ↓pX8_ideal_27, ↓pX8_ideal_30, ↓pX8_ideal_33, ↓pX8_ideal_34, ↓pX8_ideal_35, ↓pX8_ideal_36, ↓pX8_ideal_39, ↓pX8_ideal_42, ↓pX8_ideal_43, ↓xkI, ↓xkL, ↓xkA, ↓xsI, ↓xsL, ↓xsA, ↓xbI, ↓xbD, ↓xbL, ↓xc1, ↓xc2, ↓xgF, ↓xpF, ↓xgA, ↓xpA, ↓xgLA, ↓xpLA, ↓xgRA, ↓xgLen, xBnd, ↓xGoTo, ↓xRet, ↓xRetL, ↓xRetA, ↓xRetV, ↓xNew, ↓xlg, ↓xl1, ↓xl2, xk1, xk2, ↓xcat, ↓xws, ↓xStopAt, ↓xStopOut, ↓xpick, ↓xfg, ↓xfk, ↓xrho, ↓xlen, ↓xSw, ↓List.filter, idealT]
