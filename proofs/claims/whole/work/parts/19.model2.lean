/-! ===== the reference's changing methods (written by wip/whole/gen/pure3.py) ===== -/
/-- what isn't in P stays -/
def xFr (P : Nat → Nat → Prop) (σ σ' : XH) : Prop := (∀ c j i, ¬ P c j → σ'.1 c j i = σ.1 c j i) ∧ σ'.2 = σ.2
theorem xFr.rf {P : Nat → Nat → Prop} {σ : XH} : xFr P σ σ := ⟨fun _ _ _ _ => rfl, rfl⟩
theorem xFr.tr {P : Nat → Nat → Prop} {a b c : XH} (h1 : xFr P a b) (h2 : xFr P b c) : xFr P a c := ⟨fun x y z h => (h2.1 x y z h).trans (h1.1 x y z h), h2.2.trans h1.2⟩
theorem xFr.mono {P Q : Nat → Nat → Prop} {a b : XH} (h : xFr P a b) (hPQ : ∀ c j, P c j → Q c j) : xFr Q a b := ⟨fun x y z hq => h.1 x y z (fun p => hq (hPQ _ _ p)), h.2⟩
theorem xFr.u {P : Nat → Nat → Prop} {σ : XH} {c j k : Nat} {x : Int32} (h : P c j) : xFr P σ (xuI σ c j k x) := by
  refine ⟨fun c' j' i hn => ?_, rfl⟩
  unfold xuI
  dsimp only
  split
  · split
    · split
      · rename_i h1 h2 h3
        rw [h2, h3] at hn
        exact absurd h hn
      · rfl
    · rfl
  · rfl
theorem xu_eq {σ : XH} {c j k i : Nat} {x : Int32} : (xuI σ c j k x).1 c j i = if i = k then x else σ.1 c j i := by
  unfold xuI
  simp
theorem xu_ne {σ : XH} {c j k c' j' i : Nat} {x : Int32} (h : ¬ (c' = c ∧ j' = j)) : (xuI σ c j k x).1 c' j' i = σ.1 c' j' i := by
  unfold xuI
  grind
theorem aTS_cg {f f' : Nat → Int32} {o o' : Nat} (h : ∀ i, i < 102 → f (o + i) = f' (o' + i)) : aTS f o = aTS f' o' := by
  unfold aTS
  refine Prod.ext (funext fun i => ?_) (Prod.ext (funext fun i => ?_) (Prod.ext (funext fun i => ?_) (funext fun i => ?_)))
  all_goals
    dsimp only
    unfold trF
    split
    · exact h _ (by omega)
    · rfl
theorem mTS_ne {σ : XH} {c j k : Nat} {x : Int32} (h : ¬ (9 = c ∧ 2 = j)) : mTS (xuI σ c j k x) = mTS σ := aTS_cg fun i _ => xu_ne h
theorem mTS_fr {P : Nat → Nat → Prop} {σ σ' : XH} (h : xFr P σ σ') (hn : ¬ P 9 2) : mTS σ' = mTS σ := aTS_cg fun i _ => h.1 _ _ _ hn
theorem mTS_g {σ : XH} {k : Nat} {x : Int32} (h : k < 10) : mTS (xuI σ 9 2 k x) = (updF (mTS σ).1 k x, (mTS σ).2) := by
  refine Prod.ext (funext fun i => ?_) (Prod.ext (funext fun i => ?_) (Prod.ext (funext fun i => ?_) (funext fun i => ?_)))
  all_goals
    simp only [aTS, trF, xu_eq, updF]
    grind
theorem mTS_V0 {σ : XH} {k : Nat} {x : Int32} (h : k < 16) : mTS (xuI σ 9 2 (k + 10) x) = ((mTS σ).1, updF (mTS σ).2.1 k x, (mTS σ).2.2) := by
  refine Prod.ext (funext fun i => ?_) (Prod.ext (funext fun i => ?_) (Prod.ext (funext fun i => ?_) (funext fun i => ?_)))
  all_goals
    simp only [aTS, trF, xu_eq, updF]
    grind
theorem mTS_V1 {σ : XH} {k : Nat} {x : Int32} (h : k < 16) : mTS (xuI σ 9 2 (k + 26) x) = ((mTS σ).1, (mTS σ).2.1, updF (mTS σ).2.2.1 k x, (mTS σ).2.2.2) := by
  refine Prod.ext (funext fun i => ?_) (Prod.ext (funext fun i => ?_) (Prod.ext (funext fun i => ?_) (funext fun i => ?_)))
  all_goals
    simp only [aTS, trF, xu_eq, updF]
    grind
theorem mTS_L {σ : XH} {k : Nat} {x : Int32} (h : k < 60) : mTS (xuI σ 9 2 (k + 42) x) = ((mTS σ).1, (mTS σ).2.1, (mTS σ).2.2.1, updF (mTS σ).2.2.2 k x) := by
  refine Prod.ext (funext fun i => ?_) (Prod.ext (funext fun i => ?_) (Prod.ext (funext fun i => ?_) (funext fun i => ?_)))
  all_goals
    simp only [aTS, trF, xu_eq, updF]
    grind
def ctlI (t : TS) : Int32 := inI (t.1 0 + inI (flI (t.1 2 * (t.1 3 - bothT t)) 1000) (-(t.1 4)) (t.1 4)) 0 1000
/-- the valve's new numbers when its stem moves by b -/
def shiftV (V : Nat → Int32) (b : Int32) : Nat → Int32 := if b = 0 then updF V 10 0 else
  updF (updF (updF (updF (updF (updF (updF V 10 1) 8 (V 8 + b)) 9 (wayI b)) 11 (V 11 + abI b)) 13 (V 13 + abI b)) 12 (V 12 + (if V 9 = -(wayI b) then 1 else 0))) 14 (V 14 + (if V 9 = -(wayI b) then 1 else 0))
def turnV (V : Nat → Int32) (b : Int32) : Int32 := if b = 0 then 0 else if V 9 = -(wayI b) then 1 else 0
def setV (t : TS) (v : Nat) (V : Nat → Int32) : TS := match v with
  | 0 => (t.1, V, t.2.2)
  | _ => (t.1, t.2.1, V, t.2.2.2)
def PM (c j : Nat) : Prop := c = 9 ∧ (j = 2 ∨ j = 6 ∨ j = 7)
set_option maxRecDepth 100000 in
set_option maxHeartbeats 4000000 in
theorem eX8_controls (X : Nat × (Nat → Int32)) (σ : XH) : fX8_controls X [xR 7 0] σ = some (.inl none, xuI σ 9 2 0 (ctlI (mTS σ))) := by
  rw [uX8_controls]
  refine xDone ?_
  simp [xExec, xOp, xPc, xkI, xkL, xkA, xsI, xsL, xsA, xbI, xbD, xbL, xc1, xc2, xgF, xpF, xgA, xpA, xgLA, xpLA, xgRA, xgLen, xCall, xRet, xRetL, xRetA, xRetV, xNew, xlg, xl1, xl2, xk1, xk2, xcat, xws, xEnv, xStopAt, xStopOf, xStopOut, xpick, xfg, xfk, xrho, xlen, xSw, xf0, xf1, xf2, xf3, List.filter, tX8_controls, nX8_controls, eX8_both, eX8_floor, eX8_into, ctlI, mTS, aTS, trF]
set_option maxRecDepth 100000 in
set_option maxHeartbeats 4000000 in
theorem eX8_puts (X : Nat × (Nat → Int32)) (σ : XH) (v w x : Int32) (h : 0 ≤ 10 + 16 * v + w ∧ (10 + 16 * v + w).toNatClampNeg < 102) : fX8_puts X [xR 7 0, xI v, xI w, xI x] σ = some (.inl none, xuI σ 9 2 (10 + 16 * v + w).toNatClampNeg x) := by
  rw [uX8_puts]
  refine xDone ?_
  simp [xExec, xOp, xPc, xkI, xkL, xkA, xsI, xsL, xsA, xbI, xbD, xbL, xc1, xc2, xgF, xpF, xgA, xpA, xgLA, xpLA, xgRA, xgLen, xCall, xRet, xRetL, xRetA, xRetV, xNew, xlg, xl1, xl2, xk1, xk2, xcat, xws, xEnv, xStopAt, xStopOf, xStopOut, xpick, xfg, xfk, xrho, xlen, xSw, xf0, xf1, xf2, xf3, List.filter, tX8_puts, nX8_puts, h]
set_option maxRecDepth 100000 in
set_option maxHeartbeats 4000000 in
theorem eX8_movesRaw_0 (X : Nat × (Nat → Int32)) (σ : XH) (d b : Int32) (h1 : fX8_demand X [xR 7 0, xI 0, xI (σ.1 9 2 0)] σ = some (.inl (some (.inl d)), σ)) (h2 : fX8_move X [xR 7 0, xI 0, xI d] σ = some (.inl (some (.inl b)), σ)) : fX8_moves X [xR 7 0, xI 0] σ = some (.inl none, if b = 0 then xuI (xuI (xuI σ 9 6 0 0) 9 7 0 0) 9 2 20 0 else xuI (xuI (xuI (xuI (xuI (xuI (xuI (xuI (xuI σ 9 6 0 (abI b)) 9 7 0 (if σ.1 9 2 19 = -(wayI b) then 1 else 0)) 9 2 20 1) 9 2 18 (σ.1 9 2 18 + b)) 9 2 19 (wayI b)) 9 2 21 (σ.1 9 2 21 + abI b)) 9 2 23 (σ.1 9 2 23 + abI b)) 9 2 22 (σ.1 9 2 22 + (if σ.1 9 2 19 = -(wayI b) then 1 else 0))) 9 2 24 (σ.1 9 2 24 + (if σ.1 9 2 19 = -(wayI b) then 1 else 0))) := by
  rw [uX8_moves]
  refine xDone ?_
  by_cases h0 : b = 0
  · subst h0
    simp [xExec, xOp, xPc, xkI, xkL, xkA, xsI, xsL, xsA, xbI, xbD, xbL, xc1, xc2, xgF, xpF, xgA, xpA, xgLA, xpLA, xgRA, xgLen, xCall, xRet, xRetL, xRetA, xRetV, xNew, xlg, xl1, xl2, xk1, xk2, xcat, xws, xEnv, xStopAt, xStopOf, xStopOut, xpick, xfg, xfk, xrho, xlen, xSw, xf0, xf1, xf2, xf3, List.filter, tX8_moves, nX8_moves, h1, h2, eX8_of, eX8_puts, xu_eq, xu_ne]
  · by_cases hlt : b < 0
    · have hw : wayI b = -1 := by simp [wayI, hlt]
      have ha : abI b = -b := by simp [abI, hlt]
      by_cases ht : σ.1 9 2 19 = 1
      · simp [xExec, xOp, xPc, xkI, xkL, xkA, xsI, xsL, xsA, xbI, xbD, xbL, xc1, xc2, xgF, xpF, xgA, xpA, xgLA, xpLA, xgRA, xgLen, xCall, xRet, xRetL, xRetA, xRetV, xNew, xlg, xl1, xl2, xk1, xk2, xcat, xws, xEnv, xStopAt, xStopOf, xStopOut, xpick, xfg, xfk, xrho, xlen, xSw, xf0, xf1, xf2, xf3, List.filter, tX8_moves, nX8_moves, h0, h1, h2, hlt, hw, ha, ht, eX8_of, eX8_puts, xu_eq, xu_ne]
      · simp [xExec, xOp, xPc, xkI, xkL, xkA, xsI, xsL, xsA, xbI, xbD, xbL, xc1, xc2, xgF, xpF, xgA, xpA, xgLA, xpLA, xgRA, xgLen, xCall, xRet, xRetL, xRetA, xRetV, xNew, xlg, xl1, xl2, xk1, xk2, xcat, xws, xEnv, xStopAt, xStopOf, xStopOut, xpick, xfg, xfk, xrho, xlen, xSw, xf0, xf1, xf2, xf3, List.filter, tX8_moves, nX8_moves, h0, h1, h2, hlt, hw, ha, ht, eX8_of, eX8_puts, xu_eq, xu_ne]
    · have hw : wayI b = 1 := by simp [wayI, hlt]
      have ha : abI b = b := by simp [abI, hlt]
      have hlt2 : 0 ≤ b := Int32.not_lt.mp hlt
      by_cases ht : σ.1 9 2 19 = -1
      · simp [xExec, xOp, xPc, xkI, xkL, xkA, xsI, xsL, xsA, xbI, xbD, xbL, xc1, xc2, xgF, xpF, xgA, xpA, xgLA, xpLA, xgRA, xgLen, xCall, xRet, xRetL, xRetA, xRetV, xNew, xlg, xl1, xl2, xk1, xk2, xcat, xws, xEnv, xStopAt, xStopOf, xStopOut, xpick, xfg, xfk, xrho, xlen, xSw, xf0, xf1, xf2, xf3, List.filter, tX8_moves, nX8_moves, h0, h1, h2, hlt2, hw, ha, ht, eX8_of, eX8_puts, xu_eq, xu_ne]
      · simp [xExec, xOp, xPc, xkI, xkL, xkA, xsI, xsL, xsA, xbI, xbD, xbL, xc1, xc2, xgF, xpF, xgA, xpA, xgLA, xpLA, xgRA, xgLen, xCall, xRet, xRetL, xRetA, xRetV, xNew, xlg, xl1, xl2, xk1, xk2, xcat, xws, xEnv, xStopAt, xStopOf, xStopOut, xpick, xfg, xfk, xrho, xlen, xSw, xf0, xf1, xf2, xf3, List.filter, tX8_moves, nX8_moves, h0, h1, h2, hlt2, hw, ha, ht, eX8_of, eX8_puts, xu_eq, xu_ne]
set_option maxRecDepth 100000 in
set_option maxHeartbeats 4000000 in
theorem eX8_movesRaw_1 (X : Nat × (Nat → Int32)) (σ : XH) (d b : Int32) (h1 : fX8_demand X [xR 7 0, xI 1, xI (σ.1 9 2 0)] σ = some (.inl (some (.inl d)), σ)) (h2 : fX8_move X [xR 7 0, xI 1, xI d] σ = some (.inl (some (.inl b)), σ)) : fX8_moves X [xR 7 0, xI 1] σ = some (.inl none, if b = 0 then xuI (xuI (xuI σ 9 6 1 0) 9 7 1 0) 9 2 36 0 else xuI (xuI (xuI (xuI (xuI (xuI (xuI (xuI (xuI σ 9 6 1 (abI b)) 9 7 1 (if σ.1 9 2 35 = -(wayI b) then 1 else 0)) 9 2 36 1) 9 2 34 (σ.1 9 2 34 + b)) 9 2 35 (wayI b)) 9 2 37 (σ.1 9 2 37 + abI b)) 9 2 39 (σ.1 9 2 39 + abI b)) 9 2 38 (σ.1 9 2 38 + (if σ.1 9 2 35 = -(wayI b) then 1 else 0))) 9 2 40 (σ.1 9 2 40 + (if σ.1 9 2 35 = -(wayI b) then 1 else 0))) := by
  rw [uX8_moves]
  refine xDone ?_
  by_cases h0 : b = 0
  · subst h0
    simp [xExec, xOp, xPc, xkI, xkL, xkA, xsI, xsL, xsA, xbI, xbD, xbL, xc1, xc2, xgF, xpF, xgA, xpA, xgLA, xpLA, xgRA, xgLen, xCall, xRet, xRetL, xRetA, xRetV, xNew, xlg, xl1, xl2, xk1, xk2, xcat, xws, xEnv, xStopAt, xStopOf, xStopOut, xpick, xfg, xfk, xrho, xlen, xSw, xf0, xf1, xf2, xf3, List.filter, tX8_moves, nX8_moves, h1, h2, eX8_of, eX8_puts, xu_eq, xu_ne]
  · by_cases hlt : b < 0
    · have hw : wayI b = -1 := by simp [wayI, hlt]
      have ha : abI b = -b := by simp [abI, hlt]
      by_cases ht : σ.1 9 2 35 = 1
      · simp [xExec, xOp, xPc, xkI, xkL, xkA, xsI, xsL, xsA, xbI, xbD, xbL, xc1, xc2, xgF, xpF, xgA, xpA, xgLA, xpLA, xgRA, xgLen, xCall, xRet, xRetL, xRetA, xRetV, xNew, xlg, xl1, xl2, xk1, xk2, xcat, xws, xEnv, xStopAt, xStopOf, xStopOut, xpick, xfg, xfk, xrho, xlen, xSw, xf0, xf1, xf2, xf3, List.filter, tX8_moves, nX8_moves, h0, h1, h2, hlt, hw, ha, ht, eX8_of, eX8_puts, xu_eq, xu_ne]
      · simp [xExec, xOp, xPc, xkI, xkL, xkA, xsI, xsL, xsA, xbI, xbD, xbL, xc1, xc2, xgF, xpF, xgA, xpA, xgLA, xpLA, xgRA, xgLen, xCall, xRet, xRetL, xRetA, xRetV, xNew, xlg, xl1, xl2, xk1, xk2, xcat, xws, xEnv, xStopAt, xStopOf, xStopOut, xpick, xfg, xfk, xrho, xlen, xSw, xf0, xf1, xf2, xf3, List.filter, tX8_moves, nX8_moves, h0, h1, h2, hlt, hw, ha, ht, eX8_of, eX8_puts, xu_eq, xu_ne]
    · have hw : wayI b = 1 := by simp [wayI, hlt]
      have ha : abI b = b := by simp [abI, hlt]
      have hlt2 : 0 ≤ b := Int32.not_lt.mp hlt
      by_cases ht : σ.1 9 2 35 = -1
      · simp [xExec, xOp, xPc, xkI, xkL, xkA, xsI, xsL, xsA, xbI, xbD, xbL, xc1, xc2, xgF, xpF, xgA, xpA, xgLA, xpLA, xgRA, xgLen, xCall, xRet, xRetL, xRetA, xRetV, xNew, xlg, xl1, xl2, xk1, xk2, xcat, xws, xEnv, xStopAt, xStopOf, xStopOut, xpick, xfg, xfk, xrho, xlen, xSw, xf0, xf1, xf2, xf3, List.filter, tX8_moves, nX8_moves, h0, h1, h2, hlt2, hw, ha, ht, eX8_of, eX8_puts, xu_eq, xu_ne]
      · simp [xExec, xOp, xPc, xkI, xkL, xkA, xsI, xsL, xsA, xbI, xbD, xbL, xc1, xc2, xgF, xpF, xgA, xpA, xgLA, xpLA, xgRA, xgLen, xCall, xRet, xRetL, xRetA, xRetV, xNew, xlg, xl1, xl2, xk1, xk2, xcat, xws, xEnv, xStopAt, xStopOf, xStopOut, xpick, xfg, xfk, xrho, xlen, xSw, xf0, xf1, xf2, xf3, List.filter, tX8_moves, nX8_moves, h0, h1, h2, hlt2, hw, ha, ht, eX8_of, eX8_puts, xu_eq, xu_ne]
