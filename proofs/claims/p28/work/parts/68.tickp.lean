/-! ===== what a tick of the law computes: the controller, the moves (written by wip/p28/gen/tick2.py) ===== -/
def PL (c j : Nat) : Prop := c = 9 ∧ (j = 2 ∨ j = 3 ∨ j = 4 ∨ j = 5)
theorem lTS_ev {σ : XH} {v k : Nat} {x : Int32} (hv : v < 2) (h : k < 16) : lTS (xuI σ 9 3 (16 * v + k) x) = setV (lTS σ) v (updF (vT (lTS σ) v) k x) := by
  rcases (by omega : v = 0 ∨ v = 1) with rfl | rfl
  · rw [show 16 * 0 + k = k by omega]
    exact lTS_e0 h
  · exact lTS_e1 h
theorem eV_at {σ : XH} {v k : Nat} (hv : v < 2) (h : k < 16) : σ.1 9 3 (16 * v + k) = vT (lTS σ) v k := by
  rcases (by omega : v = 0 ∨ v = 1) with rfl | rfl
  · rw [show 16 * 0 + k = k by omega]
    show _ = trF 16 _ k
    unfold trF
    rw [if_pos h]
  · rw [show 16 * 1 + k = 16 + k by omega]
    show _ = trF 16 (fun i => σ.1 9 3 (16 + i)) k
    unfold trF
    rw [if_pos h]
theorem ctl_eq (t : TS) : inI (t.1 0 + inI (flI (t.1 2 * (t.1 3 - flowV t.2.1 - flowV t.2.2.1)) 1000) (-(t.1 4)) (t.1 4)) 0 1000 = ctlI t := by
  unfold ctlI bothT
  rw [show t.1 3 - flowV t.2.1 - flowV t.2.2.1 = t.1 3 - (flowV t.2.1 + flowV t.2.2.1) by grind]
theorem vT_set {t : TS} {v : Nat} {V : Nat → Int32} (hv : v < 2) : vT (setV t v V) v = V := by
  rcases (by omega : v = 0 ∨ v = 1) with rfl | rfl <;> rfl
theorem setV_set {t : TS} {v : Nat} {V W : Nat → Int32} (hv : v < 2) : setV (setV t v V) v W = setV t v W := by
  rcases (by omega : v = 0 ∨ v = 1) with rfl | rfl <;> rfl
theorem setV_id {t : TS} {v : Nat} (hv : v < 2) : setV t v (vT t v) = t := by
  rcases (by omega : v = 0 ∨ v = 1) with rfl | rfl <;> rfl
theorem eL_wear {X : Nat × (Nat → Int32)} {σ : XH} {v : Nat} (hv : v < 2) : fL_wear X [xR 9 3, xI (oN v)] σ = some (.inl (some (xI (wearV (vT (lTS σ) v)))), σ) := by
  rcases (by omega : v = 0 ∨ v = 1) with rfl | rfl
  · exact eL_wear_0 X σ
  · exact eL_wear_1 X σ
theorem eL_hurdle {X : Nat × (Nat → Int32)} {σ : XH} {v : Nat} (hv : v < 2) {w T : Int32} (hw : w = 1 ∨ w = -1) (h : okU T (vT (lTS σ) v)) : fL_hurdle X [xR 9 3, xI (oN v), xI w] σ = some (.inl (some (xI (thrV (vT (lTS σ) v) w))), σ) := by
  rcases (by omega : v = 0 ∨ v = 1) with rfl | rfl
  · exact eL_hurdle_0 X σ w hw h.2.1
  · exact eL_hurdle_1 X σ w hw h.2.1
theorem eL_demand {X : Nat × (Nat → Int32)} {σ : XH} {v : Nat} (hv : v < 2) {u T : Int32} (h : okU T (vT (lTS σ) v)) : fL_demand X [xR 9 3, xI (oN v), xI u] σ = some (.inl (some (xI (demV (vT (lTS σ) v) u))), σ) := by
  rcases (by omega : v = 0 ∨ v = 1) with rfl | rfl
  · exact eL_demand_0 X σ u h.1
  · exact eL_demand_1 X σ u h.1
theorem eL_flow {X : Nat × (Nat → Int32)} {σ : XH} {v : Nat} (hv : v < 2) {T : Int32} (h : okU T (vT (lTS σ) v)) : fL_flow X [xR 9 3, xI (oN v)] σ = some (.inl (some (xI (flowV (vT (lTS σ) v)))), σ) := by
  rcases (by omega : v = 0 ∨ v = 1) with rfl | rfl
  · exact eL_flow_0 X σ h.1.2.1
  · exact eL_flow_1 X σ h.1.2.1
theorem eL_step {X : Nat × (Nat → Int32)} {σ : XH} {v : Nat} (hv : v < 2) {u T : Int32} (h : okU T (vT (lTS σ) v)) (hT : tOK T) : fL_step X [xR 9 3, xI (oN v), xI u] σ = some (.inl (some (xI (moveV (vT (lTS σ) v) (demV (vT (lTS σ) v) u)))), σ) := by
  rcases (by omega : v = 0 ∨ v = 1) with rfl | rfl
  · exact eL_step_0 X σ u T h hT
  · exact eL_step_1 X σ u T h hT
set_option maxRecDepth 100000 in
set_option maxHeartbeats 600000 in
theorem sL_tick_0 (X : Nat × (Nat → Int32)) (σ : XH) (h : okW (lTS σ)) : wExec X (xEnv (nL_tick X)) (fun _ _ => some none) 1 [(58, [0, 1, 2])] tL_tick (fun out => ∃ σ1, out = .inr (58, kLv0, σ1, 1) ∧ lTS σ1 = ctlT (lTS σ) ∧ xFr PL σ σ1) 1000 (xPc tL_tick 0) kLv0 [] σ 1 := by
  obtain ⟨⟨-, -, -, -, h4, -⟩, -⟩ := h.1
  refine And.intro (bG (by decide)) ?_
  refine And.intro (fun h1 => ?_) (fun h1 => ?_)
  · have h1 : (lTS σ).1 1 = 1 := h1
    refine And.intro (bG (by decide)) ?_
    refine And.intro (bG (by decide)) ?_
    refine wF_of (eL_flow (X := X) (v := 0) (by decide) h.2.1) ?_
    refine wF_of (eL_flow (X := X) (v := 1) (by decide) h.2.2) ?_
    refine wF_of (eL_down X σ _ 1000 (by decide)) ?_
    refine And.intro (bG (by decide)) ?_
    refine And.intro (bG (by decide)) ?_
    refine wF_of (eL_near X σ _ (-((lTS σ).1 4)) ((lTS σ).1 4) (by grind)) ?_
    refine And.intro (bG (by decide)) ?_
    refine wF_of (eL_near X σ _ 0 1000 (by decide)) ?_
    refine And.intro (bG (by decide)) ?_
    refine ⟨_, rfl, ?_, xFr.u ⟨rfl, Or.inl rfl⟩⟩
    show lTS (xuI σ 9 2 0 (inI ((lTS σ).1 0 + inI (flI ((lTS σ).1 2 * ((lTS σ).1 3 - flowV (lTS σ).2.1 - flowV (lTS σ).2.2.1)) 1000) (-((lTS σ).1 4)) ((lTS σ).1 4)) 0 1000)) = _
    rw [ctl_eq, lTS_g (by decide)]
    unfold ctlT
    rw [if_pos h1]
  · have h1 : ¬ (lTS σ).1 1 = 1 := h1
    refine ⟨σ, rfl, ?_, xFr.rf⟩
    unfold ctlT
    rw [if_neg h1]
abbrev xTk (X : Nat × (Nat → Int32)) (Q : XO → Prop) (n pc : Nat) (lv : XL) (st : List XV) (σ : XH) : Prop := wExec X (xEnv (nL_tick X)) (fun _ _ => some none) 1 kStp tL_tick Q n (xPc tL_tick pc) lv st σ 0
abbrev kLv (v : Nat) (rest : XL) : XL := rest ++ [(0, xR 9 2), (1, xR 9 3), (2, xR 9 4), (3, xR 9 5), (4, xI (oN v))]
/-- a valve's numbers behind the stores of the move b, its way w, its reversals r -/
def mvV (V : Nat → Int32) (x w p r : Int32) : Nat → Int32 := updF (updF (updF (updF (updF (updF V 9 x) 10 (w * w)) 11 (V 11 + p)) 12 (V 12 + r)) 13 (V 13 + p)) 14 (V 14 + r)
set_option maxRecDepth 100000 in
set_option maxHeartbeats 600000 in
theorem sL_tick_178 (X : Nat × (Nat → Int32)) (Q : XO → Prop) (n v : Nat) (hv : v < 2) (x w b a i : Int32) (ha : a = oN (16 * v)) (hi : i = oN (16 * v + 9)) (σ : XH) (hf : xfl σ = 1)
    (hQ : ∀ σ', lTS σ' = setV (lTS σ) v (mvV (vT (lTS σ) v) x w (σ.1 9 5 v) (σ.1 9 5 (2 + v))) → σ'.1 9 5 = σ.1 9 5 → xFr PL σ σ' → Q (.inr (65, [(0, xR 9 2), (1, xR 9 3), (2, xR 9 4), (3, xR 9 5), (4, xI (oN (v + 1)))], σ', 0))) :
    xTk X Q (n + 80) 178 (kLv v [(7, xI w), (6, xI b), (5, xI a)]) [xI x, xI i, xR 9 3] σ := by
  subst ha
  subst hi
  have z : ∀ c, c < 16 → 0 ≤ oN (16 * v) + oN c ∧ (oN (16 * v) + oN c).toNatClampNeg < 32 := fun c hc => aix (m := 32) _ c rfl (by omega) (by decide)
  have z9 : 0 ≤ oN (16 * v + 9) ∧ (oN (16 * v + 9)).toNatClampNeg < 32 := ⟨oN_nn (by omega), by rw [oN_nat (by omega)]; omega⟩
  have zv : 0 ≤ oN v ∧ (oN v).toNatClampNeg < 4 := ⟨oN_nn (by omega), by rw [oN_nat (by omega)]; omega⟩
  have e2 : Int32.ofInt 2 + oN v = oN (2 + v) := oN_add 2 v
  have z2 : 0 ≤ Int32.ofInt 2 + oN v ∧ (Int32.ofInt 2 + oN v).toNatClampNeg < 4 := by
    rw [e2]
    exact ⟨oN_nn (by omega), by rw [oN_nat (by omega)]; omega⟩
  refine And.intro (bE z9) ?_
  refine And.intro (bE (z 10 (by decide))) ?_
  refine And.intro (bE (z 11 (by decide))) ?_
  refine And.intro (bW hf zv) ?_
  refine And.intro (bE (z 11 (by decide))) ?_
  refine And.intro (bE (z 12 (by decide))) ?_
  refine And.intro (bW hf z2) ?_
  refine And.intro (bE (z 12 (by decide))) ?_
  refine And.intro (bE (z 13 (by decide))) ?_
  refine And.intro (bW hf zv) ?_
  refine And.intro (bE (z 13 (by decide))) ?_
  refine And.intro (bE (z 14 (by decide))) ?_
  refine And.intro (bW hf z2) ?_
  refine And.intro (bE (z 14 (by decide))) ?_
  have y9 : (oN (16 * v + 9)).toNatClampNeg = 16 * v + 9 := oN_nat (by omega)
  have y10 : (oN (16 * v) + Int32.ofInt 10).toNatClampNeg = 16 * v + 10 := aixn _ 10 rfl (by omega)
  have y11 : (oN (16 * v) + Int32.ofInt 11).toNatClampNeg = 16 * v + 11 := aixn _ 11 rfl (by omega)
  have y12 : (oN (16 * v) + Int32.ofInt 12).toNatClampNeg = 16 * v + 12 := aixn _ 12 rfl (by omega)
  have y13 : (oN (16 * v) + Int32.ofInt 13).toNatClampNeg = 16 * v + 13 := aixn _ 13 rfl (by omega)
  have y14 : (oN (16 * v) + Int32.ofInt 14).toNatClampNeg = 16 * v + 14 := aixn _ 14 rfl (by omega)
  have yv : (oN v).toNatClampNeg = v := oN_nat (by omega)
  have y2 : (Int32.ofInt 2 + oN v).toNatClampNeg = 2 + v := by
    rw [e2]
    exact oN_nat (by omega)
  have r5 : ∀ (τ : XH) (k i : Nat) (x : Int32), (xuI τ 9 3 k x).1 9 5 i = τ.1 9 5 i := fun _ _ _ _ => xu_ne (by decide)
  have hQ2 : ∀ σ', lTS σ' = setV (lTS σ) v (mvV (vT (lTS σ) v) x w (σ.1 9 5 v) (σ.1 9 5 (2 + v))) → σ'.1 9 5 = σ.1 9 5 → xFr PL σ σ' → Q (.inr (65, [(0, xR 9 2), (1, xR 9 3), (2, xR 9 4), (3, xR 9 5), (4, xI (oN v + 1))], σ', 0)) := by
    rw [oN_1]
    exact hQ
  refine hQ2 _ ?_ ?_ ?_
  · rw [y9, y10, y11, y12, y13, y14, yv, y2]
    simp only [r5]
    have q : ∀ (τ : XH) (i k : Nat) (x : Int32), i ≠ k → (xuI τ 9 3 (16 * v + i) x).1 9 3 (16 * v + k) = τ.1 9 3 (16 * v + k) := fun τ i k x hik => by
      rw [xu_eq, if_neg (by omega)]
    rw [lTS_ev hv (by decide), lTS_ev hv (by decide), lTS_ev hv (by decide), lTS_ev hv (by decide), lTS_ev hv (by decide), lTS_ev hv (by decide)]
    simp only [vT_set hv, setV_set hv]
    rw [q _ 13 14 _ (by decide), q _ 12 14 _ (by decide), q _ 11 14 _ (by decide), q _ 10 14 _ (by decide), q _ 9 14 _ (by decide), q _ 12 13 _ (by decide), q _ 11 13 _ (by decide), q _ 10 13 _ (by decide), q _ 9 13 _ (by decide), q _ 11 12 _ (by decide), q _ 10 12 _ (by decide), q _ 9 12 _ (by decide), q _ 10 11 _ (by decide), q _ 9 11 _ (by decide)]
    rw [eV_at hv (by decide), eV_at hv (by decide), eV_at hv (by decide), eV_at hv (by decide)]
    rfl
  · funext i
    simp only [r5]
  · exact (((((xFr.u ⟨rfl, Or.inr (Or.inl rfl)⟩).tr (xFr.u ⟨rfl, Or.inr (Or.inl rfl)⟩)).tr (xFr.u ⟨rfl, Or.inr (Or.inl rfl)⟩)).tr (xFr.u ⟨rfl, Or.inr (Or.inl rfl)⟩)).tr (xFr.u ⟨rfl, Or.inr (Or.inl rfl)⟩)).tr (xFr.u ⟨rfl, Or.inr (Or.inl rfl)⟩)
