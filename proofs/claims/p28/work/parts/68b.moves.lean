/-! ===== the moves of a tick (written by wip/p28/gen/tick3.py) ===== -/
section WSTEP
variable {X : Nat × (Nat → Int32)} {cl : XC} {hd : Nat → Nat → Option (Option (Nat × Nat))} {rt : Nat} {stops : List (Nat × List Nat)} {tbl : List XE} {Q : XO → Prop} {n b : Nat} {lv : XL} {st : List XV} {σ : XH}
theorem wk_iconst {pc : Nat} {z : Int} (h : xPc tbl pc = (pc, .iconst z, 1, 0, 0, []) :: xPc tbl (pc + 1)) (hs : xStopAt stops (xPc tbl (pc + 1)) = none) (k : wExec X cl hd rt stops tbl Q n (xPc tbl (pc + 1)) lv (.inl (Int32.ofInt z) :: st) σ b) : wExec X cl hd rt stops tbl Q (n + 1) (xPc tbl pc) lv st σ b := by
  rw [h]
  show (match xStopAt stops (xPc tbl (pc + 1)) with | none => wExec X cl hd rt stops tbl Q n (xPc tbl (pc + 1)) lv (.inl (Int32.ofInt z) :: st) σ b | some q => wStopOut Q q lv (.inl (Int32.ofInt z) :: st) σ b)
  rw [hs]
  exact k
theorem wk_goto {pc t : Nat} {o : Int} {r : List XE} (h : xPc tbl pc = (pc, .goto o, 3, t, 0, []) :: r) (hs : xStopAt stops (xPc tbl t) = none) (k : wExec X cl hd rt stops tbl Q n (xPc tbl t) lv st σ b) : wExec X cl hd rt stops tbl Q (n + 1) (xPc tbl pc) lv st σ b := by
  rw [h]
  show (match xStopAt stops (xPc tbl t) with | none => wExec X cl hd rt stops tbl Q n (xPc tbl t) lv st σ b | some q => wStopOut Q q lv st σ b)
  rw [hs]
  exact k
end WSTEP
/-- a valve's numbers behind a move b, its way w, its reversals r -/
def mwV (V : Nat → Int32) (b w p r : Int32) : Nat → Int32 := mvV (updF V 8 (V 8 + b)) (if w = 0 then V 9 else w) w p r
set_option maxRecDepth 100000 in
set_option maxHeartbeats 600000 in
theorem sL_tick_142 (X : Nat × (Nat → Int32)) (Q : XO → Prop) (n v : Nat) (hv : v < 2) (w b a r i : Int32) (ha : a = oN (16 * v)) (hi : i = oN (2 + v)) (σ : XH) (hf : xfl σ = 1)
    (hQ : ∀ σ', lTS σ' = setV (lTS σ) v (mwV (vT (lTS σ) v) b w (σ.1 9 5 v) r) → σ'.1 9 5 = updF (σ.1 9 5) (2 + v) r → xFr PL σ σ' → Q (.inr (65, [(0, xR 9 2), (1, xR 9 3), (2, xR 9 4), (3, xR 9 5), (4, xI (oN (v + 1)))], σ', 0))) :
    xTk X Q (n + 110) 142 (kLv v [(7, xI w), (6, xI b), (5, xI a)]) [xI r, xI i, xR 9 5] σ := by
  subst ha
  subst hi
  have z : ∀ c, c < 16 → 0 ≤ oN (16 * v) + oN c ∧ (oN (16 * v) + oN c).toNatClampNeg < 32 := fun c hc => aix (m := 32) _ c rfl (by omega) (by decide)
  have z2 : 0 ≤ oN (2 + v) ∧ (oN (2 + v)).toNatClampNeg < 4 := ⟨oN_nn (by omega), by rw [oN_nat (by omega)]; omega⟩
  have y2 : (oN (2 + v)).toNatClampNeg = 2 + v := oN_nat (by omega)
  have y8 : (oN (16 * v) + Int32.ofInt 8).toNatClampNeg = 16 * v + 8 := aixn _ 8 rfl (by omega)
  have y9 : (oN (16 * v) + Int32.ofInt 9).toNatClampNeg = 16 * v + 9 := aixn _ 9 rfl (by omega)
  have hi9 : oN (16 * v) + Int32.ofInt 9 = oN (16 * v + 9) := oN_add (16 * v) 9
  refine And.intro (bW hf z2) ?_
  refine And.intro (bE (z 8 (by decide))) ?_
  refine And.intro (bE (z 8 (by decide))) ?_
  rw [y2, y8]
  generalize hτ : xuI (xuI σ 9 5 (2 + v) r) 9 3 (16 * v + 8) ((xuI σ 9 5 (2 + v) r).1 9 3 (16 * v + 8) + b) = τ
  have t1 : lTS τ = setV (lTS σ) v (updF (vT (lTS σ) v) 8 (vT (lTS σ) v 8 + b)) := by
    rw [← hτ, lTS_ev hv (by decide), lTS_ne (by omega), xu_ne (by decide), eV_at hv (by decide)]
  have t2 : τ.1 9 5 = updF (σ.1 9 5) (2 + v) r := by
    rw [← hτ]
    funext k
    rw [xu_ne (by decide), xu_eq]
  have t3 : xFr PL σ τ := by
    rw [← hτ]
    exact (xFr.u ⟨rfl, by decide⟩).tr (xFr.u ⟨rfl, by decide⟩)
  have t4 : xfl τ = 1 := by
    rw [← hτ]
    exact hf
  have e9 : τ.1 9 3 (16 * v + 9) = vT (lTS σ) v 9 := by
    rw [eV_at hv (by decide), t1, vT_set hv]
    rfl
  have hQ2 : ∀ x, x = (if w = 0 then vT (lTS σ) v 9 else w) → ∀ σ', lTS σ' = setV (lTS τ) v (mvV (vT (lTS τ) v) x w (τ.1 9 5 v) (τ.1 9 5 (2 + v))) → σ'.1 9 5 = τ.1 9 5 → xFr PL τ σ' → Q (.inr (65, [(0, xR 9 2), (1, xR 9 3), (2, xR 9 4), (3, xR 9 5), (4, xI (oN (v + 1)))], σ', 0)) := by
    rintro x rfl σ' h1 h2 h3
    refine hQ σ' ?_ (h2.trans t2) (t3.tr h3)
    rw [h1, t1, t2, vT_set hv, setV_set hv]
    have p1 : updF (σ.1 9 5) (2 + v) r v = σ.1 9 5 v := by
      unfold updF
      rw [if_neg (by omega)]
    have p2 : updF (σ.1 9 5) (2 + v) r (2 + v) = r := by
      unfold updF
      rw [if_pos rfl]
    rw [p1, p2]
    rfl
  refine And.intro (fun h => ?_) (fun h => ?_)
  · have h : w = 0 := h
    refine And.intro (bE (z 9 (by decide))) ?_
    rw [y9, e9]
    exact sL_tick_178 X Q _ v hv _ w b _ _ rfl hi9 τ t4 (hQ2 _ (by rw [if_pos h]))
  · have h : ¬ w = 0 := h
    exact sL_tick_178 X Q _ v hv _ w b _ _ rfl hi9 τ t4 (hQ2 _ (by rw [if_neg h]))
set_option maxRecDepth 100000 in
set_option maxHeartbeats 600000 in
theorem sL_tick_108 (X : Nat × (Nat → Int32)) (Q : XO → Prop) (n v : Nat) (hv : v < 2) (w b a : Int32) (ha : a = oN (16 * v)) (σ : XH) (hf : xfl σ = 1)
    (hQ : ∀ σ', lTS σ' = setV (lTS σ) v (mwV (vT (lTS σ) v) b w (b * w) (if w * vT (lTS σ) v 9 < 0 then 1 else 0)) → σ'.1 9 5 = updF (updF (σ.1 9 5) v (b * w)) (2 + v) (if w * vT (lTS σ) v 9 < 0 then 1 else 0) → xFr PL σ σ' → Q (.inr (65, [(0, xR 9 2), (1, xR 9 3), (2, xR 9 4), (3, xR 9 5), (4, xI (oN (v + 1)))], σ', 0))) :
    xTk X Q (n + 140) 108 (kLv v [(6, xI b), (5, xI a)]) [xI w] σ := by
  subst ha
  have zv : 0 ≤ oN v ∧ (oN v).toNatClampNeg < 4 := ⟨oN_nn (by omega), by rw [oN_nat (by omega)]; omega⟩
  have yv : (oN v).toNatClampNeg = v := oN_nat (by omega)
  have z9 : 0 ≤ oN (16 * v) + Int32.ofInt 9 ∧ (oN (16 * v) + Int32.ofInt 9).toNatClampNeg < 32 := aix (m := 32) _ 9 rfl (by omega) (by decide)
  have y9 : (oN (16 * v) + Int32.ofInt 9).toNatClampNeg = 16 * v + 9 := aixn _ 9 rfl (by omega)
  have hi2 : Int32.ofInt 2 + oN v = oN (2 + v) := oN_add 2 v
  refine And.intro (bW hf zv) ?_
  refine And.intro (bE z9) ?_
  rw [yv, y9]
  generalize hτ : xuI σ 9 5 v (b * w) = τ
  have t1 : lTS τ = lTS σ := by
    rw [← hτ, lTS_ne (by omega)]
  have t2 : τ.1 9 5 = updF (σ.1 9 5) v (b * w) := by
    rw [← hτ]
    funext k
    rw [xu_eq]
  have t3 : xFr PL σ τ := by
    rw [← hτ]
    exact xFr.u ⟨rfl, by decide⟩
  have t4 : xfl τ = 1 := by
    rw [← hτ]
    exact hf
  have e9 : τ.1 9 3 (16 * v + 9) = vT (lTS σ) v 9 := by
    rw [eV_at hv (by decide), t1]
  rw [e9]
  have hQ2 : ∀ r, r = (if w * vT (lTS σ) v 9 < 0 then (1 : Int32) else 0) → ∀ σ', lTS σ' = setV (lTS τ) v (mwV (vT (lTS τ) v) b w (τ.1 9 5 v) r) → σ'.1 9 5 = updF (τ.1 9 5) (2 + v) r → xFr PL τ σ' → Q (.inr (65, [(0, xR 9 2), (1, xR 9 3), (2, xR 9 4), (3, xR 9 5), (4, xI (oN (v + 1)))], σ', 0)) := by
    rintro r rfl σ' h1 h2 h3
    refine hQ σ' ?_ (by rw [h2, t2]) (t3.tr h3)
    rw [h1, t1, t2]
    have p1 : updF (σ.1 9 5) v (b * w) v = b * w := by
      unfold updF
      rw [if_pos rfl]
    rw [p1]
  refine And.intro (fun h => ?_) (fun h => ?_)
  · have h : 0 ≤ w * vT (lTS σ) v 9 := h
    refine wk_iconst (pc := 141) rfl rfl ?_
    exact sL_tick_142 X Q _ v hv w b _ _ _ rfl hi2 τ t4 (hQ2 _ (by rw [if_neg (Int32.not_lt.mpr h)]; rfl))
  · have h : ¬ 0 ≤ w * vT (lTS σ) v 9 := h
    refine wk_iconst (pc := 137) rfl rfl ?_
    refine wk_goto (pc := 138) (t := 142) rfl rfl ?_
    exact sL_tick_142 X Q _ v hv w b _ _ _ rfl hi2 τ t4 (hQ2 _ (by rw [if_pos (Int32.not_le.mp h)]; rfl))
/-- the sign of a move -/
def sgI (b : Int32) : Int32 := if 0 < b then 1 else if b < 0 then -1 else 0
theorem sg_ab {b : Int32} : b * sgI b = abI b := by
  unfold sgI abI
  split
  · rw [if_neg (by grind)]
    grind
  · split
    · grind
    · grind
theorem sg_turn {V : Nat → Int32} {b : Int32} (h9 : V 9 = -1 ∨ V 9 = 0 ∨ V 9 = 1) : (if sgI b * V 9 < 0 then (1 : Int32) else 0) = turnV V b := by
  unfold turnV wayI sgI
  by_cases h1 : 0 < b
  · rw [if_pos h1, if_neg (by grind : ¬ b = 0), if_neg (by grind : ¬ b < 0)]
    rcases h9 with h | h | h <;> rw [h] <;> decide
  · rw [if_neg h1]
    by_cases h2 : b < 0
    · rw [if_pos h2, if_neg (by grind : ¬ b = 0), if_pos h2]
      rcases h9 with h | h | h <;> rw [h] <;> decide
    · rw [if_neg h2, if_pos (by grind : b = 0)]
      rcases h9 with h | h | h <;> rw [h] <;> decide
theorem mw_eq {V : Nat → Int32} {b : Int32} (h9 : V 9 = -1 ∨ V 9 = 0 ∨ V 9 = 1) : mwV V b (sgI b) (abI b) (turnV V b) = shiftV V b := by
  unfold mwV mvV
  by_cases h0 : b = 0
  · subst h0
    have e1 : sgI 0 = 0 := by decide
    have e2 : abI 0 = 0 := by decide
    have e3 : turnV V 0 = 0 := by
      unfold turnV
      rw [if_pos rfl]
    unfold shiftV
    rw [e1, e2, e3, if_pos rfl, if_pos rfl]
    funext i
    unfold updF
    grind
  · have e1 : ¬ sgI b = 0 := by
      unfold sgI
      grind
    have e2 : sgI b = wayI b := by
      unfold sgI wayI
      grind
    have e3 : wayI b * wayI b = 1 := by
      unfold wayI
      split <;> decide
    rw [if_neg e1, e2, e3, ← shift_eq h0]
    funext i
    unfold updF
    grind
set_option maxRecDepth 100000 in
set_option maxHeartbeats 600000 in
theorem sL_tick_65 (X : Nat × (Nat → Int32)) (Q : XO → Prop) (v : Nat) (hv : v < 2) (σ : XH) (T : Int32) (hu : okU T (vT (lTS σ) v)) (hT : tOK T) (hf : xfl σ = 1)
    (hQ : ∀ σ', lTS σ' = setV (lTS σ) v (shiftV (vT (lTS σ) v) (byT (lTS σ) v)) → σ'.1 9 5 = updF (updF (σ.1 9 5) v (abI (byT (lTS σ) v))) (2 + v) (turnV (vT (lTS σ) v) (byT (lTS σ) v)) → xFr PL σ σ' → Q (.inr (65, [(0, xR 9 2), (1, xR 9 3), (2, xR 9 4), (3, xR 9 5), (4, xI (oN (v + 1)))], σ', 0))) :
    xTk X Q 1000 65 [(0, xR 9 2), (1, xR 9 3), (2, xR 9 4), (3, xR 9 5), (4, xI (oN v))] [] σ := by
  have h9 := hu.2.1
  have ha : Int32.ofInt 16 * oN v = oN (16 * v) := oN_mul 16 v
  refine And.intro (fun h => ?_) (fun _ => ?_)
  · have h : oN 2 ≤ oN v := h
    rw [oN_le (by decide) (by omega)] at h
    omega
  refine And.intro (bG (by decide)) ?_
  refine wF_of (eL_step (X := X) hv (u := (lTS σ).1 0) hu hT) ?_
  show xTk X Q _ 87 _ [xI (byT (lTS σ) v)] σ
  generalize byT (lTS σ) v = b at *
  have hQ2 : ∀ w, w = sgI b → ∀ σ', lTS σ' = setV (lTS σ) v (mwV (vT (lTS σ) v) b w (b * w) (if w * vT (lTS σ) v 9 < 0 then 1 else 0)) → σ'.1 9 5 = updF (updF (σ.1 9 5) v (b * w)) (2 + v) (if w * vT (lTS σ) v 9 < 0 then 1 else 0) → xFr PL σ σ' → Q (.inr (65, [(0, xR 9 2), (1, xR 9 3), (2, xR 9 4), (3, xR 9 5), (4, xI (oN (v + 1)))], σ', 0)) := by
    rintro w rfl σ' h1 h2 h3
    rw [sg_ab, sg_turn h9] at h2
    rw [sg_ab, sg_turn h9, mw_eq h9] at h1
    exact hQ σ' h1 h2 h3
  refine And.intro (fun h1 => ?_) (fun h1 => ?_)
  · have h1 : b ≤ 0 := h1
    refine And.intro (fun h2 => ?_) (fun h2 => ?_)
    · have h2 : 0 ≤ b := h2
      refine wk_iconst (pc := 107) rfl rfl ?_
      exact sL_tick_108 X Q _ v hv _ b _ ha σ hf (hQ2 _ (by unfold sgI; rw [if_neg (Int32.not_lt.mpr h1), if_neg (Int32.not_lt.mpr h2)]; rfl))
    · have h2 : ¬ 0 ≤ b := h2
      refine wk_iconst (pc := 103) rfl rfl ?_
      refine wk_goto (pc := 104) (t := 108) rfl rfl ?_
      exact sL_tick_108 X Q _ v hv _ b _ ha σ hf (hQ2 _ (by unfold sgI; rw [if_neg (Int32.not_lt.mpr h1), if_pos (Int32.not_le.mp h2)]; rfl))
  · have h1 : ¬ b ≤ 0 := h1
    refine wk_iconst (pc := 94) rfl rfl ?_
    refine wk_goto (pc := 95) (t := 108) rfl rfl ?_
    exact sL_tick_108 X Q _ v hv _ b _ ha σ hf (hQ2 _ (by unfold sgI; rw [if_pos (Int32.not_le.mp h1)]; rfl))
