/-! ===== pure words of the class (out of the proof of whole, by wip/p28/gen/prune.py) ===== -/
theorem oN_m1 {e n : Nat} (he : e < 2 ^ 31) (hn : n ≤ 12) : oN e ≤ oN n - 1 ↔ e < n := by
  cases n with
  | zero =>
    have h1 : oN 0 - 1 = -1 := by decide
    rw [h1]
    have := oN_nn he
    constructor
    · intro h
      exact absurd (Int32.le_trans this h) (by decide)
    · intro h
      omega
  | succ n =>
    have h1 : oN (n + 1) - 1 = oN n := by
      rw [← oN_1]
      grind
    rw [h1, oN_le he (by omega)]
    omega
set_option maxRecDepth 100000 in
set_option maxHeartbeats 1000000 in
theorem eX1_cell_y (X : Nat × (Nat → Int32)) (σ : XH) (j e w n : Nat) (hn : n ≤ 12) (he : σ.1 0 j 1 = oN n) (hr : e < n) (hw : w ≤ 4) : fX1_cell X [xR 0 j, xI (oN e), xI (oN w)] σ = some (.inl (some (xI (bL σ j (5 * e + w)))), σ) := by
  have c1 := wn_y X σ (v := oN e) (l := 0) (m := oN n - 1) ⟨oN_nn (by omega), (oN_m1 (by omega) hn).mpr hr⟩
  rw [← he] at c1
  rw [uX1_cell]
  refine wF_eq (wI_s (N := 99999) ?_)
  refine wF_of c1 ?_
  refine And.intro (fun h => absurd h (by decide)) (fun _ => ?_)
  refine wF_of (wn_y X σ (oN_in (l := 0) (m := 4) (by omega) hw (by decide))) ?_
  refine And.intro (fun h => absurd h (by decide)) (fun _ => ?_)
  have e5 : oN e * Int32.ofInt 5 = oN (5 * e) := i5p
  have j2 : (oN e * Int32.ofInt 5 + oN w).toNatClampNeg = 5 * e + w := by
    rw [e5, oN_add, oN_nat (by omega)]
  have b2 : 0 ≤ oN e * Int32.ofInt 5 + oN w ∧ (oN e * Int32.ofInt 5 + oN w).toNatClampNeg < 60 := by
    rw [j2]
    exact ⟨by rw [e5, oN_add]; exact oN_nn (by omega), by omega⟩
  refine And.intro b2 ?_
  rw [← bL_at (by omega), ← j2]
  rfl
set_option maxRecDepth 100000 in
set_option maxHeartbeats 1000000 in
theorem eX1_cell_n (X : Nat × (Nat → Int32)) (σ : XH) (j e n : Nat) (w : Int32) (hn : n ≤ 12) (he : σ.1 0 j 1 = oN n) (h31 : e < 2 ^ 31) (hr : ¬ e < n) : fX1_cell X [xR 0 j, xI (oN e), xI w] σ = some (.inl (some (xI (-1000000))), σ) := by
  have c1 := wn_n X σ (v := oN e) (l := 0) (m := oN n - 1) (fun q => hr ((oN_m1 h31 hn).mp q.2))
  rw [← he] at c1
  rw [uX1_cell]
  refine wF_eq (wI_s (N := 99999) ?_)
  refine wF_of c1 ?_
  refine And.intro (fun _ => ?_) (fun h => absurd rfl h)
  rfl
abbrev xCs (X : Nat × (Nat → Int32)) (N pc : Nat) (lv : XL) (σ : XH) : Option (XR × XH) := xIter X (xEnv (nX1_sum X)) (fun _ _ => some none) 0 [(5, [0, 1, 2, 3, 4])] tX1_sum N (pc, lv, σ, 0)
set_option maxRecDepth 100000 in
set_option maxHeartbeats 1000000 in
theorem lX1_sum (X : Nat × (Nat → Int32)) (σ : XH) (j w n : Nat) (v : Int32) (hw : w ≤ 4) (hn : n ≤ 12) (he : σ.1 0 j 1 = oN n) : ∀ (m k N : Nat), k + m = n → wF (xCs X (N + m + 1) 5 [(0, xR 0 j), (1, xI v), (2, xI (oN w)), (3, xI (sumL (bL σ j) v w k)), (4, xI (oN k))] σ) (fun r => r = (.inl (some (xI (sumL (bL σ j) v w n))), σ)) := by
  intro m
  induction m with
  | zero =>
    intro k N hk
    have : k = n := by omega
    subst this
    refine wI_s (N := N + 0) ?_
    refine And.intro (fun _ => ?_) (fun h => absurd (by show σ.1 0 j 1 ≤ oN k; rw [he]; exact Int32.le_refl _) h)
    rfl
  | succ m ih =>
    intro k N hk
    have next : ∀ x, x = sumL (bL σ j) v w (k + 1) → wF (xCs X (N + (m + 1)) 5 [(0, xR 0 j), (1, xI v), (2, xI (oN w)), (3, xI x), (4, xI (oN k + 1))] σ) (fun r => r = (.inl (some (xI (sumL (bL σ j) v w n))), σ)) := by
      rintro x rfl
      rw [oN_1]
      exact ih (k + 1) N (by omega)
    refine wI_s (N := N + (m + 1)) ?_
    refine And.intro (fun q => ?_) (fun _ => ?_)
    · have q : σ.1 0 j 1 ≤ oN k := q
      rw [he, oN_le (by omega) (by omega)] at q
      omega
    refine wF_of (eX1_cell_y X σ j k 0 n hn he (by omega) (by omega)) ?_
    refine And.intro (fun c => ?_) (fun c => ?_)
    · have c : bL σ j (5 * k) = v := c
      refine wF_of (eX1_cell_y X σ j k w n hn he (by omega) hw) ?_
      refine next _ ?_
      show _ = sumL (bL σ j) v w k + _
      rw [if_pos c]
    · have c : ¬ bL σ j (5 * k) = v := c
      refine next _ ?_
      show _ = sumL (bL σ j) v w k + _
      rw [if_neg c]
      grind
set_option maxRecDepth 100000 in
set_option maxHeartbeats 1000000 in
theorem eX1_sum (X : Nat × (Nat → Int32)) (σ : XH) (j w n : Nat) (v : Int32) (hw : w ≤ 4) (hn : n ≤ 12) (he : σ.1 0 j 1 = oN n) : fX1_sum X [xR 0 j, xI v, xI (oN w)] σ = some (.inl (some (xI (sumL (bL σ j) v w n))), σ) := by
  have hl := lX1_sum X σ j w n v hw hn he n 0 (99998 - n) (by omega)
  rw [show 99998 - n + n + 1 = 99999 by omega] at hl
  rw [uX1_sum]
  refine wF_eq (wI_s (N := 99999) ?_)
  exact hl
theorem rows_n {σ : XH} {j : Nat} (h : okT (cTS σ j)) : σ.1 0 j 1 = oN (entN (cTS σ j)) := (okT_n h).1
theorem vC_ok {σ : XH} {v : Nat} (h : okT (cTS σ 0)) (hv : v < 2) : okV (vC σ (2 * 0 + v)) := by
  rw [vC_T hv]
  exact okT_v h hv
set_option maxRecDepth 100000 in
set_option maxHeartbeats 1000000 in
theorem wX7_valve (X : Nat × (Nat → Int32)) (σ : XH) (v w : Nat) (h : okT (cTS σ 0)) (hv : v < 2) (hw : w ≤ 20) : fX7_valve X [xR 6 0, xI (oN v), xI (oN w)] σ = some (.inl (some (xI (valT (vT (cTS σ 0) v) ((cTS σ 0).1 0) w))), σ) := by
  rw [uX7_valve]
  refine wF_eq (wI_s (N := 99999) ?_)
  refine wF_of (eX7_refV_y X σ (oN_01 hv)) ?_
  refine wF_of (wn_y X σ (oN_in (l := 0) (m := 20) (by omega) hw (by decide))) ?_
  refine wF_of (eX7_refuse_y X σ) ?_
  refine wF_of (eX4_at X σ 0 v hv) ?_
  refine wF_of (eX5_value X σ (2 * 0 + v) _ (vC_ok h hv) h.2.2.1 w hw) ?_
  rw [vC_T hv]
  rfl
set_option maxRecDepth 100000 in
set_option maxHeartbeats 1000000 in
theorem wX7_valve_v (X : Nat × (Nat → Int32)) (σ : XH) (v w : Int32) (hv : ¬ (0 ≤ v ∧ v ≤ 1)) : fX7_valve X [xR 6 0, xI v, xI w] σ = some (.inr 0, σ) := by
  rw [uX7_valve]
  refine wF_eq (wI_s (N := 99999) ?_)
  refine wF_of (eX7_refV_n X σ hv) ?_
  rfl
set_option maxRecDepth 100000 in
set_option maxHeartbeats 1000000 in
theorem wX7_valve_r (X : Nat × (Nat → Int32)) (σ : XH) (v : Nat) (w : Int32) (hv : v < 2) (hw : ¬ (0 ≤ w ∧ w ≤ 20)) : fX7_valve X [xR 6 0, xI (oN v), xI w] σ = some (.inr 1, σ) := by
  rw [uX7_valve]
  refine wF_eq (wI_s (N := 99999) ?_)
  refine wF_of (eX7_refV_y X σ (oN_01 hv)) ?_
  refine wF_of (wn_n X σ hw) ?_
  refine wF_of (eX7_refuse_n X σ) ?_
  rfl
set_option maxRecDepth 100000 in
set_option maxHeartbeats 1000000 in
theorem wX7_pair (X : Nat × (Nat → Int32)) (σ : XH) (w : Nat) (h : okT (cTS σ 0)) (hw : w ≤ 11) : fX7_pair X [xR 6 0, xI (oN w)] σ = some (.inl (some (xI (prT (cTS σ 0) w))), σ) := by
  rw [uX7_pair]
  refine wF_eq (wI_s (N := 99999) ?_)
  refine wF_of (wn_y X σ (oN_in (l := 0) (m := 11) (by omega) hw (by decide))) ?_
  refine wF_of (eX7_refuse_y X σ) ?_
  refine wF_of (eX4_value X σ 0 h w hw) ?_
  rfl
set_option maxRecDepth 100000 in
set_option maxHeartbeats 1000000 in
theorem wX7_pair_r (X : Nat × (Nat → Int32)) (σ : XH) (w : Int32) (hw : ¬ (0 ≤ w ∧ w ≤ 11)) : fX7_pair X [xR 6 0, xI w] σ = some (.inr 1, σ) := by
  rw [uX7_pair]
  refine wF_eq (wI_s (N := 99999) ?_)
  refine wF_of (wn_n X σ hw) ?_
  refine wF_of (eX7_refuse_n X σ) ?_
  rfl
set_option maxRecDepth 100000 in
set_option maxHeartbeats 1000000 in
theorem wX7_ledgerSum (X : Nat × (Nat → Int32)) (σ : XH) (v w : Nat) (h : okT (cTS σ 0)) (hv : v < 2) (hw : 2 ≤ w ∧ w ≤ 4) : fX7_ledgerSum X [xR 6 0, xI (oN v), xI (oN w)] σ = some (.inl (some (xI (sumL (cTS σ 0).2.2.2 (oN v) w (entN (cTS σ 0))))), σ) := by
  rw [uX7_ledgerSum]
  refine wF_eq (wI_s (N := 99999) ?_)
  refine wF_of (eX7_refV_y X σ (oN_01 hv)) ?_
  refine wF_of (wn_y X σ (oN_in (l := 2) (m := 4) hw.1 hw.2 (by decide))) ?_
  refine wF_of (eX7_refuse_y X σ) ?_
  refine wF_of (eX1_sum X σ 0 w (entN (cTS σ 0)) (oN v) hw.2 (okT_n h).2 (rows_n h)) ?_
  rfl
set_option maxRecDepth 100000 in
set_option maxHeartbeats 1000000 in
theorem wX7_ledger (X : Nat × (Nat → Int32)) (σ : XH) (e w : Nat) (h : okT (cTS σ 0)) (he : e < 2 ^ 31) (hw : w ≤ 4) : fX7_ledger X [xR 6 0, xI (oN e), xI (oN w)] σ = some (.inl (some (xI (ledT (cTS σ 0) e w))), σ) := by
  rw [uX7_ledger]
  refine wF_eq (wI_s (N := 99999) ?_)
  refine And.intro (fun q => absurd (oN_nn he) (Int32.not_le.mpr q)) (fun _ => ?_)
  refine wF_of (wn_y X σ (oN_in (l := 0) (m := 4) (by omega) hw (by decide))) ?_
  refine And.intro (fun h => absurd h (by decide)) (fun _ => ?_)
  refine wF_of (eX7_refuse_y X σ) ?_
  by_cases hr : e < entN (cTS σ 0)
  · refine wF_of (eX1_cell_y X σ 0 e w _ (okT_n h).2 (rows_n h) hr hw) ?_
    unfold ledT
    rw [if_pos hr]
    rfl
  · refine wF_of (eX1_cell_n X σ 0 e _ _ (okT_n h).2 (rows_n h) he hr) ?_
    unfold ledT
    rw [if_neg hr]
    rfl
