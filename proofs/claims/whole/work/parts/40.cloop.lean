/-! ===== the class's values by loops, and as they are called ===== -/
theorem oN_m1 {e n : Nat} (he : e < 2 ^ 31) (hn : n ≤ 12) : oN e ≤ oN n - 1 ↔ e < n := by
  cases n with
  | zero =>
    have h1 : oN 0 - 1 = -1 := by decide
    rw [h1]
    have := oN_nn he
    constructor
    · intro h
      exact absurd (Int32.le_trans this h) (by decide)
    · intro h
      omega
  | succ n =>
    have h1 : oN (n + 1) - 1 = oN n := by
      rw [← oN_1]
      grind
    rw [h1, oN_le he (by omega)]
    omega
set_option maxRecDepth 100000 in
set_option maxHeartbeats 1000000 in
theorem eX1_cell_y (X : Nat × (Nat → Int32)) (σ : XH) (j e w n : Nat) (hn : n ≤ 12) (he : σ.1 0 j 1 = oN n) (hr : e < n) (hw : w ≤ 4) : fX1_cell X [xR 0 j, xI (oN e), xI (oN w)] σ = some (.inl (some (xI (bL σ j (5 * e + w)))), σ) := by
  have c1 := wn_y X σ (v := oN e) (l := 0) (m := oN n - 1) ⟨oN_nn (by omega), (oN_m1 (by omega) hn).mpr hr⟩
  rw [← he] at c1
  rw [uX1_cell]
  refine wF_eq (wI_s (N := 99999) ?_)
  refine wF_of c1 ?_
  refine And.intro (fun h => absurd h (by decide)) (fun _ => ?_)
  refine wF_of (wn_y X σ (oN_in (l := 0) (m := 4) (by omega) hw (by decide))) ?_
  refine And.intro (fun h => absurd h (by decide)) (fun _ => ?_)
  have e5 : oN e * Int32.ofInt 5 = oN (5 * e) := i5p
  have j2 : (oN e * Int32.ofInt 5 + oN w).toNatClampNeg = 5 * e + w := by
    rw [e5, oN_add, oN_nat (by omega)]
  have b2 : 0 ≤ oN e * Int32.ofInt 5 + oN w ∧ (oN e * Int32.ofInt 5 + oN w).toNatClampNeg < 60 := by
    rw [j2]
    exact ⟨by rw [e5, oN_add]; exact oN_nn (by omega), by omega⟩
  refine And.intro b2 ?_
  rw [← bL_at (by omega), ← j2]
  rfl
set_option maxRecDepth 100000 in
set_option maxHeartbeats 1000000 in
theorem eX1_cell_n (X : Nat × (Nat → Int32)) (σ : XH) (j e n : Nat) (w : Int32) (hn : n ≤ 12) (he : σ.1 0 j 1 = oN n) (h31 : e < 2 ^ 31) (hr : ¬ e < n) : fX1_cell X [xR 0 j, xI (oN e), xI w] σ = some (.inl (some (xI (-1000000))), σ) := by
  have c1 := wn_n X σ (v := oN e) (l := 0) (m := oN n - 1) (fun q => hr ((oN_m1 h31 hn).mp q.2))
  rw [← he] at c1
  rw [uX1_cell]
  refine wF_eq (wI_s (N := 99999) ?_)
  refine wF_of c1 ?_
  refine And.intro (fun _ => ?_) (fun h => absurd rfl h)
  rfl
abbrev xCs (X : Nat × (Nat → Int32)) (N pc : Nat) (lv : XL) (σ : XH) : Option (XR × XH) := xIter X (xEnv (nX1_sum X)) (fun _ _ => some none) 0 [(5, [0, 1, 2, 3, 4])] tX1_sum N (pc, lv, σ, 0)
set_option maxRecDepth 100000 in
set_option maxHeartbeats 1000000 in
theorem lX1_sum (X : Nat × (Nat → Int32)) (σ : XH) (j w n : Nat) (v : Int32) (hw : w ≤ 4) (hn : n ≤ 12) (he : σ.1 0 j 1 = oN n) : ∀ (m k N : Nat), k + m = n → wF (xCs X (N + m + 1) 5 [(0, xR 0 j), (1, xI v), (2, xI (oN w)), (3, xI (sumL (bL σ j) v w k)), (4, xI (oN k))] σ) (fun r => r = (.inl (some (xI (sumL (bL σ j) v w n))), σ)) := by
  intro m
  induction m with
  | zero =>
    intro k N hk
    have : k = n := by omega
    subst this
    refine wI_s (N := N + 0) ?_
    refine And.intro (fun _ => ?_) (fun h => absurd (by show σ.1 0 j 1 ≤ oN k; rw [he]; exact Int32.le_refl _) h)
    rfl
  | succ m ih =>
    intro k N hk
    have next : ∀ x, x = sumL (bL σ j) v w (k + 1) → wF (xCs X (N + (m + 1)) 5 [(0, xR 0 j), (1, xI v), (2, xI (oN w)), (3, xI x), (4, xI (oN k + 1))] σ) (fun r => r = (.inl (some (xI (sumL (bL σ j) v w n))), σ)) := by
      rintro x rfl
      rw [oN_1]
      exact ih (k + 1) N (by omega)
    refine wI_s (N := N + (m + 1)) ?_
    refine And.intro (fun q => ?_) (fun _ => ?_)
    · have q : σ.1 0 j 1 ≤ oN k := q
      rw [he, oN_le (by omega) (by omega)] at q
      omega
    refine wF_of (eX1_cell_y X σ j k 0 n hn he (by omega) (by omega)) ?_
    refine And.intro (fun c => ?_) (fun c => ?_)
    · have c : bL σ j (5 * k) = v := c
      refine wF_of (eX1_cell_y X σ j k w n hn he (by omega) hw) ?_
      refine next _ ?_
      show _ = sumL (bL σ j) v w k + _
      rw [if_pos c]
    · have c : ¬ bL σ j (5 * k) = v := c
      refine next _ ?_
      show _ = sumL (bL σ j) v w k + _
      rw [if_neg c]
      grind
set_option maxRecDepth 100000 in
set_option maxHeartbeats 1000000 in
theorem eX1_sum (X : Nat × (Nat → Int32)) (σ : XH) (j w n : Nat) (v : Int32) (hw : w ≤ 4) (hn : n ≤ 12) (he : σ.1 0 j 1 = oN n) : fX1_sum X [xR 0 j, xI v, xI (oN w)] σ = some (.inl (some (xI (sumL (bL σ j) v w n))), σ) := by
  have hl := lX1_sum X σ j w n v hw hn he n 0 (99998 - n) (by omega)
  rw [show 99998 - n + n + 1 = 99999 by omega] at hl
  rw [uX1_sum]
  refine wF_eq (wI_s (N := 99999) ?_)
  exact hl
theorem rows_n {σ : XH} {j : Nat} (h : okT (cTS σ j)) : σ.1 0 j 1 = oN (entN (cTS σ j)) := (okT_n h).1
abbrev xLs (X : Nat × (Nat → Int32)) (N pc : Nat) (lv : XL) (σ : XH) : Option (XR × XH) := xIter X (xEnv (nX4_leastSignal X)) (fun _ _ => some none) 0 [(2, [0, 1, 2])] tX4_leastSignal N (pc, lv, σ, 0)
abbrev xFf (X : Nat × (Nat → Int32)) (N pc : Nat) (lv : XL) (σ : XH) : Option (XR × XH) := xIter X (xEnv (nX4_findFall X)) (fun _ _ => some none) 0 [(8, [0, 1, 2])] tX4_findFall N (pc, lv, σ, 0)
abbrev xCf (X : Nat × (Nat → Int32)) (N pc : Nat) (lv : XL) (σ : XH) : Option (XR × XH) := xIter X (xEnv (nX4_countFlat X)) (fun _ _ => some none) 0 [(4, [0, 1, 2])] tX4_countFlat N (pc, lv, σ, 0)
set_option maxRecDepth 100000 in
set_option maxHeartbeats 1000000 in
theorem lX4_leastSignal (X : Nat × (Nat → Int32)) (σ : XH) (j : Nat) (f : Int32) (h : okT (cTS σ j)) : ∀ (m k N : Nat), k + m = 1001 → wF (xLs X (N + m + 1) 2 [(0, xR 3 j), (1, xI f), (2, xI (oN k))] σ) (fun r => r = (.inl (some (xI (fstN (sgP (cTS σ j) f) k m))), σ)) := by
  intro m
  induction m with
  | zero =>
    intro k N hk
    have : k = 1001 := by omega
    subst this
    refine wI_s (N := N + 0) ?_
    refine And.intro (fun _ => ?_) (fun h => absurd (by decide) h)
    rfl
  | succ m ih =>
    intro k N hk
    refine wI_s (N := N + (m + 1)) ?_
    refine And.intro (fun q => ?_) (fun _ => ?_)
    · have q : oN 1000 < oN k := q
      rw [oN_lt (by decide) (by omega)] at q
      omega
    refine wF_of (eX4_idealFor X σ j _ h.1 h.2.1 (oN_in (l := 0) (m := 1000) (by omega) (by omega) (by decide))) ?_
    refine And.intro (fun c => ?_) (fun c => ?_)
    · have c : idealT (cTS σ j) (oN k) < f := c
      unfold fstN
      rw [if_neg (by unfold sgP; rw [decide_eq_true_eq]; exact Int32.not_le.mpr c)]
      have := ih (k + 1) N (by omega)
      rw [← oN_1] at this
      exact this
    · have c : ¬ idealT (cTS σ j) (oN k) < f := c
      unfold fstN
      rw [if_pos (by unfold sgP; rw [decide_eq_true_eq]; exact Int32.not_lt.mp c)]
      rfl
set_option maxRecDepth 100000 in
set_option maxHeartbeats 1000000 in
theorem eX4_leastSignal (X : Nat × (Nat → Int32)) (σ : XH) (j : Nat) (f : Int32) (h : okT (cTS σ j)) : fX4_leastSignal X [xR 3 j, xI f] σ = some (.inl (some (xI (fstN (sgP (cTS σ j) f) 0 1001))), σ) := by
  have hl := lX4_leastSignal X σ j f h 1001 0 98997 rfl
  rw [uX4_leastSignal]
  refine wF_eq (wI_s (N := 99999) ?_)
  exact hl
set_option maxRecDepth 100000 in
set_option maxHeartbeats 1000000 in
theorem lX4_findFall (X : Nat × (Nat → Int32)) (σ : XH) (j : Nat) (h : okT (cTS σ j)) : ∀ (m k N : Nat), k + 1 + m = 1001 → wF (xFf X (N + m + 1) 8 [(0, xR 3 j), (1, xI (idealT (cTS σ j) (oN k))), (2, xI (oN (k + 1)))] σ) (fun r => r = (.inl (some (xI (fstN (flP (cTS σ j)) (k + 1) m))), σ)) := by
  intro m
  induction m with
  | zero =>
    intro k N hk
    have : k = 1000 := by omega
    subst this
    refine wI_s (N := N + 0) ?_
    refine And.intro (fun _ => ?_) (fun h => absurd (by decide) h)
    rfl
  | succ m ih =>
    intro k N hk
    refine wI_s (N := N + (m + 1)) ?_
    refine And.intro (fun q => ?_) (fun _ => ?_)
    · have q : oN 1000 < oN (k + 1) := q
      rw [oN_lt (by decide) (by omega)] at q
      omega
    refine wF_of (eX4_idealFor X σ j _ h.1 h.2.1 (oN_in (l := 0) (m := 1000) (by omega) (by omega) (by decide))) ?_
    refine And.intro (fun c => ?_) (fun c => ?_)
    · have c : idealT (cTS σ j) (oN k) ≤ idealT (cTS σ j) (oN (k + 1)) := c
      unfold fstN
      rw [if_neg (by unfold flP; rw [decide_eq_true_eq, Nat.add_sub_cancel]; exact Int32.not_lt.mpr c)]
      have := ih (k + 1) N (by omega)
      rw [← oN_1 (k := k + 1)] at this
      exact this
    · have c : ¬ idealT (cTS σ j) (oN k) ≤ idealT (cTS σ j) (oN (k + 1)) := c
      unfold fstN
      rw [if_pos (by unfold flP; rw [decide_eq_true_eq, Nat.add_sub_cancel]; exact Int32.not_le.mp c)]
      rfl
set_option maxRecDepth 100000 in
set_option maxHeartbeats 1000000 in
theorem eX4_findFall (X : Nat × (Nat → Int32)) (σ : XH) (j : Nat) (h : okT (cTS σ j)) : fX4_findFall X [xR 3 j] σ = some (.inl (some (xI (fstN (flP (cTS σ j)) 1 1000))), σ) := by
  have hl := lX4_findFall X σ j h 1000 0 98998 rfl
  rw [uX4_findFall]
  refine wF_eq (wI_s (N := 99999) ?_)
  refine wF_of (eX4_idealFor X σ j _ h.1 h.2.1 (by decide)) ?_
  exact hl
set_option maxRecDepth 100000 in
set_option maxHeartbeats 1000000 in
theorem lX4_countFlat (X : Nat × (Nat → Int32)) (σ : XH) (j : Nat) (h : okT (cTS σ j)) : ∀ (m k N : Nat), k + m = 1000 → wF (xCf X (N + m + 1) 4 [(0, xR 3 j), (1, xI (cntN (ftP (cTS σ j)) k)), (2, xI (oN (k + 1)))] σ) (fun r => r = (.inl (some (xI (cntN (ftP (cTS σ j)) 1000))), σ)) := by
  intro m
  induction m with
  | zero =>
    intro k N hk
    have : k = 1000 := by omega
    subst this
    refine wI_s (N := N + 0) ?_
    refine And.intro (fun _ => ?_) (fun h => absurd (by decide) h)
    rfl
  | succ m ih =>
    intro k N hk
    have next : ∀ x, x = cntN (ftP (cTS σ j)) (k + 1) → wF (xCf X (N + (m + 1)) 4 [(0, xR 3 j), (1, xI x), (2, xI (oN (k + 1) + 1))] σ) (fun r => r = (.inl (some (xI (cntN (ftP (cTS σ j)) 1000))), σ)) := by
      rintro x rfl
      rw [oN_1]
      exact ih (k + 1) N (by omega)
    have em : oN (k + 1) - 1 = oN k := by
      rw [← oN_1]
      grind
    have r1 : 0 ≤ oN (k + 1) ∧ oN (k + 1) ≤ 1000 := oN_in (l := 0) (m := 1000) (by omega) (by omega) (by decide)
    have r0 : 0 ≤ oN (k + 1) - 1 ∧ oN (k + 1) - 1 ≤ 1000 := by
      rw [em]
      exact oN_in (l := 0) (m := 1000) (by omega) (by omega) (by decide)
    refine wI_s (N := N + (m + 1)) ?_
    refine And.intro (fun q => ?_) (fun _ => ?_)
    · have q : oN 1000 < oN (k + 1) := q
      rw [oN_lt (by decide) (by omega)] at q
      omega
    refine wF_of (eX5_demandFor X σ (2 * j) _ h.1 r1) ?_
    refine wF_of (eX5_demandFor X σ (2 * j) _ h.1 r0) ?_
    refine And.intro (fun c => ?_) (fun c => ?_)
    · have c : demV (cTS σ j).2.1 (oN (k + 1)) = demV (cTS σ j).2.1 (oN (k + 1) - 1) := c
      refine wF_of (eX5_demandFor X σ (2 * j + 1) _ h.2.1 r1) ?_
      refine wF_of (eX5_demandFor X σ (2 * j + 1) _ h.2.1 r0) ?_
      refine And.intro (fun d => ?_) (fun d => ?_)
      · have d : demV (cTS σ j).2.2.1 (oN (k + 1)) = demV (cTS σ j).2.2.1 (oN (k + 1) - 1) := d
        refine next _ ?_
        rw [em] at c d
        show _ = cntN (ftP (cTS σ j)) k + _
        rw [if_pos (by unfold ftP; rw [decide_eq_true_eq, Nat.add_sub_cancel]; exact ⟨c, d⟩)]
        rfl
      · have d : ¬ demV (cTS σ j).2.2.1 (oN (k + 1)) = demV (cTS σ j).2.2.1 (oN (k + 1) - 1) := d
        refine next _ ?_
        rw [em] at d
        show _ = cntN (ftP (cTS σ j)) k + _
        rw [if_neg (by unfold ftP; rw [decide_eq_true_eq, Nat.add_sub_cancel]; exact fun q => d q.2)]
        grind
    · have c : ¬ demV (cTS σ j).2.1 (oN (k + 1)) = demV (cTS σ j).2.1 (oN (k + 1) - 1) := c
      refine next _ ?_
      rw [em] at c
      show _ = cntN (ftP (cTS σ j)) k + _
      rw [if_neg (by unfold ftP; rw [decide_eq_true_eq, Nat.add_sub_cancel]; exact fun q => c q.1)]
      grind
set_option maxRecDepth 100000 in
set_option maxHeartbeats 1000000 in
theorem eX4_countFlat (X : Nat × (Nat → Int32)) (σ : XH) (j : Nat) (h : okT (cTS σ j)) : fX4_countFlat X [xR 3 j] σ = some (.inl (some (xI (cntN (ftP (cTS σ j)) 1000))), σ) := by
  have hl := lX4_countFlat X σ j h 1000 0 98998 rfl
  rw [uX4_countFlat]
  refine wF_eq (wI_s (N := 99999) ?_)
  exact hl
theorem vC_ok {σ : XH} {v : Nat} (h : okT (cTS σ 0)) (hv : v < 2) : okV (vC σ (2 * 0 + v)) := by
  rw [vC_T hv]
  exact okT_v h hv
set_option maxRecDepth 100000 in
set_option maxHeartbeats 1000000 in
theorem wX7_valve (X : Nat × (Nat → Int32)) (σ : XH) (v w : Nat) (h : okT (cTS σ 0)) (hv : v < 2) (hw : w ≤ 20) : fX7_valve X [xR 6 0, xI (oN v), xI (oN w)] σ = some (.inl (some (xI (valT (vT (cTS σ 0) v) ((cTS σ 0).1 0) w))), σ) := by
  rw [uX7_valve]
  refine wF_eq (wI_s (N := 99999) ?_)
  refine wF_of (eX7_refV_y X σ (oN_01 hv)) ?_
  refine wF_of (wn_y X σ (oN_in (l := 0) (m := 20) (by omega) hw (by decide))) ?_
  refine wF_of (eX7_refuse_y X σ) ?_
  refine wF_of (eX4_at X σ 0 v hv) ?_
  refine wF_of (eX5_value X σ (2 * 0 + v) _ (vC_ok h hv) h.2.2.1 w hw) ?_
  rw [vC_T hv]
  rfl
set_option maxRecDepth 100000 in
set_option maxHeartbeats 1000000 in
theorem wX7_valve_v (X : Nat × (Nat → Int32)) (σ : XH) (v w : Int32) (hv : ¬ (0 ≤ v ∧ v ≤ 1)) : fX7_valve X [xR 6 0, xI v, xI w] σ = some (.inr 0, σ) := by
  rw [uX7_valve]
  refine wF_eq (wI_s (N := 99999) ?_)
  refine wF_of (eX7_refV_n X σ hv) ?_
  rfl
set_option maxRecDepth 100000 in
set_option maxHeartbeats 1000000 in
theorem wX7_valve_r (X : Nat × (Nat → Int32)) (σ : XH) (v : Nat) (w : Int32) (hv : v < 2) (hw : ¬ (0 ≤ w ∧ w ≤ 20)) : fX7_valve X [xR 6 0, xI (oN v), xI w] σ = some (.inr 1, σ) := by
  rw [uX7_valve]
  refine wF_eq (wI_s (N := 99999) ?_)
  refine wF_of (eX7_refV_y X σ (oN_01 hv)) ?_
  refine wF_of (wn_n X σ hw) ?_
  refine wF_of (eX7_refuse_n X σ) ?_
  rfl
set_option maxRecDepth 100000 in
set_option maxHeartbeats 1000000 in
theorem wX7_pair (X : Nat × (Nat → Int32)) (σ : XH) (w : Nat) (h : okT (cTS σ 0)) (hw : w ≤ 11) : fX7_pair X [xR 6 0, xI (oN w)] σ = some (.inl (some (xI (prT (cTS σ 0) w))), σ) := by
  rw [uX7_pair]
  refine wF_eq (wI_s (N := 99999) ?_)
  refine wF_of (wn_y X σ (oN_in (l := 0) (m := 11) (by omega) hw (by decide))) ?_
  refine wF_of (eX7_refuse_y X σ) ?_
  refine wF_of (eX4_value X σ 0 h w hw) ?_
  rfl
set_option maxRecDepth 100000 in
set_option maxHeartbeats 1000000 in
theorem wX7_pair_r (X : Nat × (Nat → Int32)) (σ : XH) (w : Int32) (hw : ¬ (0 ≤ w ∧ w ≤ 11)) : fX7_pair X [xR 6 0, xI w] σ = some (.inr 1, σ) := by
  rw [uX7_pair]
  refine wF_eq (wI_s (N := 99999) ?_)
  refine wF_of (wn_n X σ hw) ?_
  refine wF_of (eX7_refuse_n X σ) ?_
  rfl
set_option maxRecDepth 100000 in
set_option maxHeartbeats 1000000 in
theorem wX7_ledgerSum (X : Nat × (Nat → Int32)) (σ : XH) (v w : Nat) (h : okT (cTS σ 0)) (hv : v < 2) (hw : 2 ≤ w ∧ w ≤ 4) : fX7_ledgerSum X [xR 6 0, xI (oN v), xI (oN w)] σ = some (.inl (some (xI (sumL (cTS σ 0).2.2.2 (oN v) w (entN (cTS σ 0))))), σ) := by
  rw [uX7_ledgerSum]
  refine wF_eq (wI_s (N := 99999) ?_)
  refine wF_of (eX7_refV_y X σ (oN_01 hv)) ?_
  refine wF_of (wn_y X σ (oN_in (l := 2) (m := 4) hw.1 hw.2 (by decide))) ?_
  refine wF_of (eX7_refuse_y X σ) ?_
  refine wF_of (eX1_sum X σ 0 w (entN (cTS σ 0)) (oN v) hw.2 (okT_n h).2 (rows_n h)) ?_
  rfl
set_option maxRecDepth 100000 in
set_option maxHeartbeats 1000000 in
theorem wX7_ledgerSum_v (X : Nat × (Nat → Int32)) (σ : XH) (v w : Int32) (hv : ¬ (0 ≤ v ∧ v ≤ 1)) : fX7_ledgerSum X [xR 6 0, xI v, xI w] σ = some (.inr 0, σ) := by
  rw [uX7_ledgerSum]
  refine wF_eq (wI_s (N := 99999) ?_)
  refine wF_of (eX7_refV_n X σ hv) ?_
  rfl
set_option maxRecDepth 100000 in
set_option maxHeartbeats 1000000 in
theorem wX7_ledgerSum_r (X : Nat × (Nat → Int32)) (σ : XH) (v : Nat) (w : Int32) (hv : v < 2) (hw : ¬ (2 ≤ w ∧ w ≤ 4)) : fX7_ledgerSum X [xR 6 0, xI (oN v), xI w] σ = some (.inr 1, σ) := by
  rw [uX7_ledgerSum]
  refine wF_eq (wI_s (N := 99999) ?_)
  refine wF_of (eX7_refV_y X σ (oN_01 hv)) ?_
  refine wF_of (wn_n X σ hw) ?_
  refine wF_of (eX7_refuse_n X σ) ?_
  rfl
set_option maxRecDepth 100000 in
set_option maxHeartbeats 1000000 in
theorem wX7_idealFlow (X : Nat × (Nat → Int32)) (σ : XH) (u : Int32) (h : okT (cTS σ 0)) (hu : 0 ≤ u ∧ u ≤ 1000) : fX7_idealFlow X [xR 6 0, xI u] σ = some (.inl (some (xI (idealT (cTS σ 0) u))), σ) := by
  rw [uX7_idealFlow]
  refine wF_eq (wI_s (N := 99999) ?_)
  have c1 := eX7_isSignal X σ u
  rw [if_pos hu] at c1
  refine wF_of c1 ?_
  refine wF_of (eX7_refuse_y X σ) ?_
  refine wF_of (eX4_idealFor X σ 0 u h.1 h.2.1 hu) ?_
  rfl
set_option maxRecDepth 100000 in
set_option maxHeartbeats 1000000 in
theorem wX7_idealFlow_r (X : Nat × (Nat → Int32)) (σ : XH) (u : Int32) (hu : ¬ (0 ≤ u ∧ u ≤ 1000)) : fX7_idealFlow X [xR 6 0, xI u] σ = some (.inr 1, σ) := by
  rw [uX7_idealFlow]
  refine wF_eq (wI_s (N := 99999) ?_)
  have c1 := eX7_isSignal X σ u
  rw [if_neg hu] at c1
  refine wF_of c1 ?_
  refine wF_of (eX7_refuse_n X σ) ?_
  rfl
set_option maxRecDepth 100000 in
set_option maxHeartbeats 1000000 in
theorem wX7_signalFor (X : Nat × (Nat → Int32)) (σ : XH) (f : Int32) (h : okT (cTS σ 0)) (hf : 0 ≤ f ∧ f ≤ 2000) : fX7_signalFor X [xR 6 0, xI f] σ = some (.inl (some (xI (fstN (sgP (cTS σ 0) f) 0 1001))), σ) := by
  rw [uX7_signalFor]
  refine wF_eq (wI_s (N := 99999) ?_)
  refine wF_of (wn_y X σ hf) ?_
  refine wF_of (eX7_refuse_y X σ) ?_
  refine wF_of (eX4_leastSignal X σ 0 f h) ?_
  rfl
set_option maxRecDepth 100000 in
set_option maxHeartbeats 1000000 in
theorem wX7_signalFor_r (X : Nat × (Nat → Int32)) (σ : XH) (f : Int32) (hf : ¬ (0 ≤ f ∧ f ≤ 2000)) : fX7_signalFor X [xR 6 0, xI f] σ = some (.inr 1, σ) := by
  rw [uX7_signalFor]
  refine wF_eq (wI_s (N := 99999) ?_)
  refine wF_of (wn_n X σ hf) ?_
  refine wF_of (eX7_refuse_n X σ) ?_
  rfl
set_option maxRecDepth 100000 in
set_option maxHeartbeats 1000000 in
theorem wX7_flatSignals (X : Nat × (Nat → Int32)) (σ : XH)  (h : okT (cTS σ 0))  : fX7_flatSignals X [xR 6 0] σ = some (.inl (some (xI (cntN (ftP (cTS σ 0)) 1000))), σ) := by
  rw [uX7_flatSignals]
  refine wF_eq (wI_s (N := 99999) ?_)
  refine wF_of (eX4_countFlat X σ 0 h) ?_
  rfl
set_option maxRecDepth 100000 in
set_option maxHeartbeats 1000000 in
theorem wX7_firstFall (X : Nat × (Nat → Int32)) (σ : XH)  (h : okT (cTS σ 0))  : fX7_firstFall X [xR 6 0] σ = some (.inl (some (xI (fstN (flP (cTS σ 0)) 1 1000))), σ) := by
  rw [uX7_firstFall]
  refine wF_eq (wI_s (N := 99999) ?_)
  refine wF_of (eX4_findFall X σ 0 h) ?_
  rfl
set_option maxRecDepth 100000 in
set_option maxHeartbeats 1000000 in
theorem wX7_moveFor (X : Nat × (Nat → Int32)) (σ : XH) (v : Nat) (u : Int32) (h : okT (cTS σ 0)) (hv : v < 2) (hu : 0 ≤ u ∧ u ≤ 1000) : fX7_moveFor X [xR 6 0, xI (oN v), xI u] σ = some (.inl (some (xI (moveV (vT (cTS σ 0) v) (demV (vT (cTS σ 0) v) u)))), σ) := by
  rw [uX7_moveFor]
  refine wF_eq (wI_s (N := 99999) ?_)
  refine wF_of (eX7_refV_y X σ (oN_01 hv)) ?_
  have c1 := eX7_isSignal X σ u
  rw [if_pos hu] at c1
  refine wF_of c1 ?_
  refine wF_of (eX7_refuse_y X σ) ?_
  refine wF_of (eX4_at X σ 0 v hv) ?_
  refine wF_of (eX5_demandFor X σ (2 * 0 + v) u (vC_ok h hv) hu) ?_
  refine wF_of (eX5_moveTowards X σ (2 * 0 + v) _ (vC_ok h hv) (dem_rng (vC_ok h hv) u)) ?_
  rw [vC_T hv]
  rfl
set_option maxRecDepth 100000 in
set_option maxHeartbeats 1000000 in
theorem wX7_moveFor_v (X : Nat × (Nat → Int32)) (σ : XH) (v u : Int32) (hv : ¬ (0 ≤ v ∧ v ≤ 1)) : fX7_moveFor X [xR 6 0, xI v, xI u] σ = some (.inr 0, σ) := by
  rw [uX7_moveFor]
  refine wF_eq (wI_s (N := 99999) ?_)
  refine wF_of (eX7_refV_n X σ hv) ?_
  rfl
set_option maxRecDepth 100000 in
set_option maxHeartbeats 1000000 in
theorem wX7_moveFor_r (X : Nat × (Nat → Int32)) (σ : XH) (v : Nat) (u : Int32) (hv : v < 2) (hu : ¬ (0 ≤ u ∧ u ≤ 1000)) : fX7_moveFor X [xR 6 0, xI (oN v), xI u] σ = some (.inr 1, σ) := by
  rw [uX7_moveFor]
  refine wF_eq (wI_s (N := 99999) ?_)
  refine wF_of (eX7_refV_y X σ (oN_01 hv)) ?_
  have c1 := eX7_isSignal X σ u
  rw [if_neg hu] at c1
  refine wF_of c1 ?_
  refine wF_of (eX7_refuse_n X σ) ?_
  rfl
set_option maxRecDepth 100000 in
set_option maxHeartbeats 1000000 in
theorem wX7_ledger (X : Nat × (Nat → Int32)) (σ : XH) (e w : Nat) (h : okT (cTS σ 0)) (he : e < 2 ^ 31) (hw : w ≤ 4) : fX7_ledger X [xR 6 0, xI (oN e), xI (oN w)] σ = some (.inl (some (xI (ledT (cTS σ 0) e w))), σ) := by
  rw [uX7_ledger]
  refine wF_eq (wI_s (N := 99999) ?_)
  refine And.intro (fun q => absurd (oN_nn he) (Int32.not_le.mpr q)) (fun _ => ?_)
  refine wF_of (wn_y X σ (oN_in (l := 0) (m := 4) (by omega) hw (by decide))) ?_
  refine And.intro (fun h => absurd h (by decide)) (fun _ => ?_)
  refine wF_of (eX7_refuse_y X σ) ?_
  by_cases hr : e < entN (cTS σ 0)
  · refine wF_of (eX1_cell_y X σ 0 e w _ (okT_n h).2 (rows_n h) hr hw) ?_
    unfold ledT
    rw [if_pos hr]
    rfl
  · refine wF_of (eX1_cell_n X σ 0 e _ _ (okT_n h).2 (rows_n h) he hr) ?_
    unfold ledT
    rw [if_neg hr]
    rfl
set_option maxRecDepth 100000 in
set_option maxHeartbeats 1000000 in
theorem wX7_ledger_r (X : Nat × (Nat → Int32)) (σ : XH) (e w : Int32) (hw : ¬ (0 ≤ e ∧ 0 ≤ w ∧ w ≤ 4)) : fX7_ledger X [xR 6 0, xI e, xI w] σ = some (.inr 1, σ) := by
  rw [uX7_ledger]
  refine wF_eq (wI_s (N := 99999) ?_)
  refine And.intro (fun q => ?_) (fun q => ?_)
  · refine wF_of (eX7_refuse_n X σ) ?_
    rfl
  · have q : ¬ e < 0 := q
    refine wF_of (wn_n X σ (fun c => hw ⟨Int32.not_lt.mp q, c⟩)) ?_
    refine And.intro (fun _ => ?_) (fun h => absurd rfl h)
    refine wF_of (eX7_refuse_n X σ) ?_
    rfl
