/-! ===== the class's hash ===== -/
abbrev xDv (X : Nat × (Nat → Int32)) (N pc : Nat) (lv : XL) (σ : XH) : Option (XR × XH) := xIter X (xEnv (nX7_digestValve X)) (fun _ _ => some none) 2 [(6, [0, 3, 4, 6]), (52, [0, 3, 4, 6])] tX7_digestValve N (pc, lv, σ, 0)
abbrev xDc (X : Nat × (Nat → Int32)) (N pc : Nat) (lv : XL) (σ : XH) : Option (XR × XH) := xIter X (xEnv (nX7_digest X)) (fun _ _ => some none) 2 [(36, [0, 1, 3]), (66, [0, 1, 3]), (86, [0, 1, 3]), (103, [0, 1, 3, 4])] tX7_digest N (pc, lv, σ, 0)
set_option maxRecDepth 100000 in
set_option maxHeartbeats 1000000 in
theorem lX7_dv2 (X : Nat × (Nat → Int32)) (σ : XH) (h : okT (cTS σ 0)) (v : Nat) (hv : v < 2) (h0 : Int64) (N : Nat) : ∀ (m k : Nat), k + m = 3 → wF (xDv X (N + m + 1) 52 [(0, xR 6 0), (3, xI (oN v)), (4, xL (foldH (fun k => sumL (cTS σ 0).2.2.2 (oN v) (2 + k) (entN (cTS σ 0))) h0 k)), (6, xI (oN (2 + k)))] σ) (fun r => r = (.inl (some (xL (foldH (fun k => sumL (cTS σ 0).2.2.2 (oN v) (2 + k) (entN (cTS σ 0))) h0 3))), σ)) := by
  intro m
  induction m with
  | zero =>
    intro k hk
    have : k = 3 := by omega
    subst this
    refine wI_s (N := N + 0) ?_
    refine And.intro (fun _ => ?_) (fun h => absurd (by decide) h)
    rfl
  | succ m ih =>
    intro k hk
    refine wI_s (N := N + (m + 1)) ?_
    refine And.intro (fun z => ?_) (fun _ => ?_)
    · have z : oN 4 < oN (2 + k) := z
      rw [oN_lt (by decide) (by omega)] at z
      omega
    refine wF_of (eX1_sum X σ 0 (2 + k) (entN (cTS σ 0)) (oN v) (by omega) (okT_n h).2 (rows_n h)) ?_
    have := ih (k + 1) (by omega)
    rw [← Nat.add_assoc, ← oN_1] at this
    exact this
set_option maxRecDepth 100000 in
set_option maxHeartbeats 1000000 in
theorem lX7_dv1 (X : Nat × (Nat → Int32)) (σ : XH) (h : okT (cTS σ 0)) (v : Nat) (hv : v < 2) (h0 : Int64) (N : Nat) : ∀ (m k : Nat), k + m = 21 → wF (xDv X (N + 3 + 1 + m + 1) 6 [(0, xR 6 0), (3, xI (oN v)), (4, xL (foldH (valT (vT (cTS σ 0) v) ((cTS σ 0).1 0)) h0 k)), (6, xI (oN k))] σ) (fun r => r = (.inl (some (xL (digV (cTS σ 0) h0 v))), σ)) := by
  intro m
  induction m with
  | zero =>
    intro k hk
    have : k = 21 := by omega
    subst this
    refine wI_s (N := N + 3 + 1 + 0) ?_
    refine And.intro (fun _ => ?_) (fun h => absurd (by decide) h)
    exact lX7_dv2 X σ h v hv _ N 3 0 rfl
  | succ m ih =>
    intro k hk
    refine wI_s (N := N + 3 + 1 + (m + 1)) ?_
    refine And.intro (fun z => ?_) (fun _ => ?_)
    · have z : oN 21 ≤ oN k := z
      rw [oN_le (by decide) (by omega)] at z
      omega
    refine wF_of (eX4_at X σ 0 v hv) ?_
    have e1 := eX5_value X σ (2 * 0 + v) (σ.1 3 0 3) (vC_ok h hv) h.2.2.1 k (by omega)
    rw [vC_T hv] at e1
    refine wF_of e1 ?_
    have := ih (k + 1) (by omega)
    rw [← oN_1] at this
    exact this
set_option maxRecDepth 100000 in
set_option maxHeartbeats 1000000 in
theorem eX7_digestValve (X : Nat × (Nat → Int32)) (σ : XH) (h : okT (cTS σ 0)) (v : Nat) (hv : v < 2) (h0 : Int64) : fX7_digestValve X [xR 6 0, xL h0, xI (oN v)] σ = some (.inl (some (xL (digV (cTS σ 0) h0 v))), σ) := by
  rw [uX7_digestValve]
  refine wF_eq (wI_s (N := 99999) ?_)
  exact lX7_dv1 X σ h v hv h0 99973 21 0 rfl
set_option maxRecDepth 100000 in
set_option maxHeartbeats 1000000 in
theorem lX7_dg4 (X : Nat × (Nat → Int32)) (σ : XH) (h : okT (cTS σ 0)) (h0 : Int64) (e : Nat) (he : e < entN (cTS σ 0)) (R : XR × XH → Prop) (N : Nat) (cont : wF (xDc X N 86 [(0, xR 6 0), (1, xL (foldH (cTS σ 0).2.2.2 h0 (5 * (e + 1)))), (3, xI (oN e + 1))] σ) R) : ∀ (m k : Nat), k + m = 5 → wF (xDc X (N + m + 1) 103 [(0, xR 6 0), (1, xL (foldH (cTS σ 0).2.2.2 h0 (5 * e + k))), (3, xI (oN e)), (4, xI (oN k))] σ) R := by
  intro m
  induction m with
  | zero =>
    intro k hk
    have : k = 5 := by omega
    subst this
    refine wI_s (N := N + 0) ?_
    refine And.intro (fun _ => ?_) (fun h => absurd (by decide) h)
    exact cont
  | succ m ih =>
    intro k hk
    refine wI_s (N := N + (m + 1)) ?_
    refine And.intro (fun z => ?_) (fun _ => ?_)
    · have z : oN 4 < oN k := z
      rw [oN_lt (by decide) (by omega)] at z
      omega
    refine wF_of (eX1_cell_y X σ 0 e k (entN (cTS σ 0)) (okT_n h).2 (rows_n h) he (by omega)) ?_
    have := ih (k + 1) (by omega)
    rw [← oN_1, ← Nat.add_assoc] at this
    exact this
set_option maxRecDepth 100000 in
set_option maxHeartbeats 1000000 in
theorem lX7_dg3 (X : Nat × (Nat → Int32)) (σ : XH) (h : okT (cTS σ 0)) (h0 : Int64) (N : Nat) : ∀ (m e : Nat), e + m = entN (cTS σ 0) → wF (xDc X (N + 7 * m + 1) 86 [(0, xR 6 0), (1, xL (foldH (cTS σ 0).2.2.2 h0 (5 * e))), (3, xI (oN e))] σ) (fun r => r = (.inl (some (xL (mixH (mixH (foldH (cTS σ 0).2.2.2 h0 (5 * entN (cTS σ 0))) (cntN (ftP (cTS σ 0)) 1000)) (fstN (flP (cTS σ 0)) 1 1000)))), σ)) := by
  have hn := okT_n h
  have hr : σ.1 0 0 1 = oN (entN (cTS σ 0)) := rows_n h
  intro m
  induction m with
  | zero =>
    intro e hk
    have : e = entN (cTS σ 0) := by omega
    subst this
    refine wI_s (N := N + 7 * 0) ?_
    refine And.intro (fun _ => ?_) (fun z => absurd (by show σ.1 0 0 1 ≤ oN (entN (cTS σ 0)); rw [hr]; exact Int32.le_refl _) z)
    refine wF_of (eX4_countFlat X σ 0 h) ?_
    refine wF_of (eX4_findFall X σ 0 h) ?_
    rfl
  | succ m ih =>
    intro e hk
    refine wI_s (N := N + 7 * m + 1 + 5 + 1) ?_
    refine And.intro (fun z => ?_) (fun _ => ?_)
    · have z : σ.1 0 0 1 ≤ oN e := z
      rw [hr, oN_le (by omega) (by omega)] at z
      omega
    refine lX7_dg4 X σ h h0 e (by omega) _ (N + 7 * m + 1) ?_ 5 0 rfl
    have := ih (e + 1) (by omega)
    rw [← oN_1] at this
    exact this
set_option maxRecDepth 100000 in
set_option maxHeartbeats 1000000 in
theorem lX7_dg1 (X : Nat × (Nat → Int32)) (σ : XH) (h : okT (cTS σ 0)) (h0 : Int64) (R : XR × XH → Prop) (N : Nat) (cont : wF (xDc X N 66 [(0, xR 6 0), (1, xL (foldH (prT (cTS σ 0)) h0 12)), (3, xI (oN 0))] σ) R) : ∀ (m k : Nat), k + m = 12 → wF (xDc X (N + m + 1) 36 [(0, xR 6 0), (1, xL (foldH (prT (cTS σ 0)) h0 k)), (3, xI (oN k))] σ) R := by
  intro m
  induction m with
  | zero =>
    intro k hk
    have : k = 12 := by omega
    subst this
    refine wI_s (N := N + 0) ?_
    refine And.intro (fun _ => ?_) (fun h => absurd (by decide) h)
    exact cont
  | succ m ih =>
    intro k hk
    refine wI_s (N := N + (m + 1)) ?_
    refine And.intro (fun z => ?_) (fun _ => ?_)
    · have z : oN 12 ≤ oN k := z
      rw [oN_le (by decide) (by omega)] at z
      omega
    refine wF_of (eX4_value X σ 0 h k (by omega)) ?_
    have := ih (k + 1) (by omega)
    rw [← oN_1] at this
    exact this
set_option maxRecDepth 100000 in
set_option maxHeartbeats 1000000 in
theorem eX7_digest (X : Nat × (Nat → Int32)) (σ : XH) (h : okT (cTS σ 0)) : fX7_digest X [xR 6 0] σ = some (.inl (some (xL (digT (cTS σ 0) (σ.1 1 0 2) (σ.1 2 0 2)))), σ) := by
  have hn := okT_n h
  rw [uX7_digest]
  refine wF_eq (wI_s (N := 99999) ?_)
  refine lX7_dg1 X σ h (mixH (mixH 43183 (σ.1 1 0 2)) (σ.1 2 0 2)) _ 99986 ?_ 12 0 rfl
  refine wI_s (N := 99985) ?_
  refine And.intro (fun z => absurd z (by decide)) (fun _ => ?_)
  refine wF_of (eX7_digestValve X σ h 0 (by decide) _) ?_
  refine wI_s (N := 99984) ?_
  refine And.intro (fun z => absurd z (by decide)) (fun _ => ?_)
  refine wF_of (eX7_digestValve X σ h 1 (by decide) _) ?_
  refine wI_s (N := 99983) ?_
  refine And.intro (fun _ => ?_) (fun z => absurd (by decide) z)
  have := lX7_dg3 X σ h (digV (cTS σ 0) (digV (cTS σ 0) (foldH (prT (cTS σ 0)) (mixH (mixH 43183 (σ.1 1 0 2)) (σ.1 2 0 2)) 12) 0) 1) (99982 - 7 * entN (cTS σ 0)) (entN (cTS σ 0)) 0 (by omega)
  rw [show 99982 - 7 * entN (cTS σ 0) + 7 * entN (cTS σ 0) + 1 = 99983 by omega] at this
  exact this
