/-! ===== the reference's values ===== -/
theorem wX8_threshold (X : Nat × (Nat → Int32)) (σ : XH) {v : Nat} (w : Int32) (hv : v < 2) : fX8_threshold X [xR 7 0, xI (oN v), xI w] σ = some (.inl (some (xI (thrV (vT (mTS σ) v) w))), σ) := by
  have hv2 : v = 0 ∨ v = 1 := by omega
  rcases hv2 with rfl | rfl
  · exact eX8_threshold_0 X σ w
  · exact eX8_threshold_1 X σ w
theorem wX8_flow (X : Nat × (Nat → Int32)) (σ : XH) {v : Nat} (hv : v < 2) : fX8_flow X [xR 7 0, xI (oN v)] σ = some (.inl (some (xI (flowV (vT (mTS σ) v)))), σ) := by
  have hv2 : v = 0 ∨ v = 1 := by omega
  rcases hv2 with rfl | rfl
  · exact eX8_flow_0 X σ 
  · exact eX8_flow_1 X σ 
theorem wX8_move (X : Nat × (Nat → Int32)) (σ : XH) {v : Nat} (d : Int32) (hv : v < 2) : fX8_move X [xR 7 0, xI (oN v), xI d] σ = some (.inl (some (xI (moveV (vT (mTS σ) v) d))), σ) := by
  have hv2 : v = 0 ∨ v = 1 := by omega
  rcases hv2 with rfl | rfl
  · exact eX8_move_0 X σ d
  · exact eX8_move_1 X σ d
theorem wX8_demand (X : Nat × (Nat → Int32)) (σ : XH) {v : Nat} (u : Int32) (hv : v < 2) (h : vT (mTS σ) v 6 - vT (mTS σ) v 5 ≠ 0) : fX8_demand X [xR 7 0, xI (oN v), xI u] σ = some (.inl (some (xI (demV (vT (mTS σ) v) u))), σ) := by
  have hv2 : v = 0 ∨ v = 1 := by omega
  rcases hv2 with rfl | rfl
  · exact eX8_demand_0 X σ u h
  · exact eX8_demand_1 X σ u h
theorem okD_v {t : TS} (h : okT t) {v : Nat} (hv : v < 2) : vT t v 6 - vT t v 5 ≠ 0 := by
  have hv2 : v = 0 ∨ v = 1 := by omega
  rcases hv2 with rfl | rfl
  · exact (okT_D h).1
  · exact (okT_D h).2
set_option maxRecDepth 100000 in
set_option maxHeartbeats 1000000 in
theorem eX8_valveOf_0 (X : Nat × (Nat → Int32)) (σ : XH) {v : Nat} (hv : v < 2) : fX8_valveOf X [xR 7 0, xI (oN v), xI 0] σ = some (.inl (some (xI (valT (vT (mTS σ) v) ((mTS σ).1 0) 0))), σ) := by
  rw [uX8_valveOf]
  refine wF_eq (wI_s (N := 99999) ?_)
  refine And.intro (fun h => absurd h (by decide)) (fun _ => ?_)
  refine And.intro (fun h => absurd h (by decide)) (fun _ => ?_)
  refine And.intro (fun h => absurd h (by decide)) (fun _ => ?_)
  refine And.intro (fun h => absurd h (by decide)) (fun _ => ?_)
  refine And.intro (fun h => absurd h (by decide)) (fun _ => ?_)
  refine And.intro (fun h => absurd h (by decide)) (fun _ => ?_)
  refine And.intro (fun h => absurd h (by decide)) (fun _ => ?_)
  refine And.intro (fun h => absurd h (by decide)) (fun _ => ?_)
  refine And.intro (fun h => absurd h (by decide)) (fun _ => ?_)
  refine And.intro (fun h => absurd h (by decide)) (fun _ => ?_)
  refine And.intro (fun h => absurd h (by decide)) (fun _ => ?_)
  refine And.intro (fun h => absurd h (by decide)) (fun _ => ?_)
  refine And.intro (fun h => absurd h (by decide)) (fun _ => ?_)
  refine And.intro (fun h => absurd h (by decide)) (fun _ => ?_)
  refine wF_of (oX8 X σ (w := 0) hv (by decide)) ?_
  rfl
set_option maxRecDepth 100000 in
set_option maxHeartbeats 1000000 in
theorem eX8_valveOf_1 (X : Nat × (Nat → Int32)) (σ : XH) {v : Nat} (hv : v < 2) : fX8_valveOf X [xR 7 0, xI (oN v), xI 1] σ = some (.inl (some (xI (valT (vT (mTS σ) v) ((mTS σ).1 0) 1))), σ) := by
  rw [uX8_valveOf]
  refine wF_eq (wI_s (N := 99999) ?_)
  refine And.intro (fun h => absurd h (by decide)) (fun _ => ?_)
  refine And.intro (fun h => absurd h (by decide)) (fun _ => ?_)
  refine And.intro (fun h => absurd h (by decide)) (fun _ => ?_)
  refine And.intro (fun h => absurd h (by decide)) (fun _ => ?_)
  refine And.intro (fun h => absurd h (by decide)) (fun _ => ?_)
  refine And.intro (fun h => absurd h (by decide)) (fun _ => ?_)
  refine And.intro (fun h => absurd h (by decide)) (fun _ => ?_)
  refine And.intro (fun h => absurd h (by decide)) (fun _ => ?_)
  refine And.intro (fun h => absurd h (by decide)) (fun _ => ?_)
  refine And.intro (fun h => absurd h (by decide)) (fun _ => ?_)
  refine And.intro (fun h => absurd h (by decide)) (fun _ => ?_)
  refine And.intro (fun h => absurd h (by decide)) (fun _ => ?_)
  refine And.intro (fun h => absurd h (by decide)) (fun _ => ?_)
  refine And.intro (fun h => absurd h (by decide)) (fun _ => ?_)
  refine wF_of (oX8 X σ (w := 1) hv (by decide)) ?_
  rfl
set_option maxRecDepth 100000 in
set_option maxHeartbeats 1000000 in
theorem eX8_valveOf_2 (X : Nat × (Nat → Int32)) (σ : XH) {v : Nat} (hv : v < 2) : fX8_valveOf X [xR 7 0, xI (oN v), xI 2] σ = some (.inl (some (xI (valT (vT (mTS σ) v) ((mTS σ).1 0) 2))), σ) := by
  rw [uX8_valveOf]
  refine wF_eq (wI_s (N := 99999) ?_)
  refine And.intro (fun h => absurd h (by decide)) (fun _ => ?_)
  refine And.intro (fun h => absurd h (by decide)) (fun _ => ?_)
  refine And.intro (fun h => absurd h (by decide)) (fun _ => ?_)
  refine And.intro (fun h => absurd h (by decide)) (fun _ => ?_)
  refine And.intro (fun h => absurd h (by decide)) (fun _ => ?_)
  refine And.intro (fun h => absurd h (by decide)) (fun _ => ?_)
  refine And.intro (fun h => absurd h (by decide)) (fun _ => ?_)
  refine And.intro (fun h => absurd h (by decide)) (fun _ => ?_)
  refine And.intro (fun h => absurd h (by decide)) (fun _ => ?_)
  refine And.intro (fun h => absurd h (by decide)) (fun _ => ?_)
  refine And.intro (fun h => absurd h (by decide)) (fun _ => ?_)
  refine And.intro (fun h => absurd h (by decide)) (fun _ => ?_)
  refine And.intro (fun h => absurd h (by decide)) (fun _ => ?_)
  refine And.intro (fun h => absurd h (by decide)) (fun _ => ?_)
  refine wF_of (oX8 X σ (w := 2) hv (by decide)) ?_
  rfl
set_option maxRecDepth 100000 in
set_option maxHeartbeats 1000000 in
theorem eX8_valveOf_3 (X : Nat × (Nat → Int32)) (σ : XH) {v : Nat} (hv : v < 2) : fX8_valveOf X [xR 7 0, xI (oN v), xI 3] σ = some (.inl (some (xI (valT (vT (mTS σ) v) ((mTS σ).1 0) 3))), σ) := by
  rw [uX8_valveOf]
  refine wF_eq (wI_s (N := 99999) ?_)
  refine And.intro (fun h => absurd h (by decide)) (fun _ => ?_)
  refine And.intro (fun h => absurd h (by decide)) (fun _ => ?_)
  refine And.intro (fun h => absurd h (by decide)) (fun _ => ?_)
  refine And.intro (fun h => absurd h (by decide)) (fun _ => ?_)
  refine And.intro (fun h => absurd h (by decide)) (fun _ => ?_)
  refine And.intro (fun h => absurd h (by decide)) (fun _ => ?_)
  refine And.intro (fun h => absurd h (by decide)) (fun _ => ?_)
  refine And.intro (fun h => absurd h (by decide)) (fun _ => ?_)
  refine And.intro (fun h => absurd h (by decide)) (fun _ => ?_)
  refine And.intro (fun h => absurd h (by decide)) (fun _ => ?_)
  refine And.intro (fun h => absurd h (by decide)) (fun _ => ?_)
  refine And.intro (fun h => absurd h (by decide)) (fun _ => ?_)
  refine And.intro (fun h => absurd h (by decide)) (fun _ => ?_)
  refine And.intro (fun h => absurd h (by decide)) (fun _ => ?_)
  refine wF_of (oX8 X σ (w := 3) hv (by decide)) ?_
  rfl
set_option maxRecDepth 100000 in
set_option maxHeartbeats 1000000 in
theorem eX8_valveOf_4 (X : Nat × (Nat → Int32)) (σ : XH) {v : Nat} (hv : v < 2) : fX8_valveOf X [xR 7 0, xI (oN v), xI 4] σ = some (.inl (some (xI (valT (vT (mTS σ) v) ((mTS σ).1 0) 4))), σ) := by
  rw [uX8_valveOf]
  refine wF_eq (wI_s (N := 99999) ?_)
  refine And.intro (fun h => absurd h (by decide)) (fun _ => ?_)
  refine And.intro (fun h => absurd h (by decide)) (fun _ => ?_)
  refine And.intro (fun h => absurd h (by decide)) (fun _ => ?_)
  refine And.intro (fun h => absurd h (by decide)) (fun _ => ?_)
  refine And.intro (fun h => absurd h (by decide)) (fun _ => ?_)
  refine And.intro (fun h => absurd h (by decide)) (fun _ => ?_)
  refine And.intro (fun h => absurd h (by decide)) (fun _ => ?_)
  refine And.intro (fun h => absurd h (by decide)) (fun _ => ?_)
  refine And.intro (fun h => absurd h (by decide)) (fun _ => ?_)
  refine And.intro (fun h => absurd h (by decide)) (fun _ => ?_)
  refine And.intro (fun h => absurd h (by decide)) (fun _ => ?_)
  refine And.intro (fun h => absurd h (by decide)) (fun _ => ?_)
  refine And.intro (fun h => absurd h (by decide)) (fun _ => ?_)
  refine And.intro (fun h => absurd h (by decide)) (fun _ => ?_)
  refine wF_of (oX8 X σ (w := 4) hv (by decide)) ?_
  rfl
set_option maxRecDepth 100000 in
set_option maxHeartbeats 1000000 in
theorem eX8_valveOf_5 (X : Nat × (Nat → Int32)) (σ : XH) {v : Nat} (hv : v < 2) : fX8_valveOf X [xR 7 0, xI (oN v), xI 5] σ = some (.inl (some (xI (valT (vT (mTS σ) v) ((mTS σ).1 0) 5))), σ) := by
  rw [uX8_valveOf]
  refine wF_eq (wI_s (N := 99999) ?_)
  refine And.intro (fun h => absurd h (by decide)) (fun _ => ?_)
  refine And.intro (fun h => absurd h (by decide)) (fun _ => ?_)
  refine And.intro (fun h => absurd h (by decide)) (fun _ => ?_)
  refine And.intro (fun h => absurd h (by decide)) (fun _ => ?_)
  refine And.intro (fun h => absurd h (by decide)) (fun _ => ?_)
  refine And.intro (fun h => absurd h (by decide)) (fun _ => ?_)
  refine And.intro (fun h => absurd h (by decide)) (fun _ => ?_)
  refine And.intro (fun h => absurd h (by decide)) (fun _ => ?_)
  refine And.intro (fun h => absurd h (by decide)) (fun _ => ?_)
  refine And.intro (fun h => absurd h (by decide)) (fun _ => ?_)
  refine And.intro (fun h => absurd h (by decide)) (fun _ => ?_)
  refine And.intro (fun h => absurd h (by decide)) (fun _ => ?_)
  refine And.intro (fun h => absurd h (by decide)) (fun _ => ?_)
  refine And.intro (fun h => absurd h (by decide)) (fun _ => ?_)
  refine wF_of (oX8 X σ (w := 5) hv (by decide)) ?_
  rfl
set_option maxRecDepth 100000 in
set_option maxHeartbeats 1000000 in
theorem eX8_valveOf_6 (X : Nat × (Nat → Int32)) (σ : XH) {v : Nat} (hv : v < 2) : fX8_valveOf X [xR 7 0, xI (oN v), xI 6] σ = some (.inl (some (xI (valT (vT (mTS σ) v) ((mTS σ).1 0) 6))), σ) := by
  rw [uX8_valveOf]
  refine wF_eq (wI_s (N := 99999) ?_)
  refine And.intro (fun h => absurd h (by decide)) (fun _ => ?_)
  refine And.intro (fun h => absurd h (by decide)) (fun _ => ?_)
  refine And.intro (fun h => absurd h (by decide)) (fun _ => ?_)
  refine And.intro (fun h => absurd h (by decide)) (fun _ => ?_)
  refine And.intro (fun h => absurd h (by decide)) (fun _ => ?_)
  refine And.intro (fun h => absurd h (by decide)) (fun _ => ?_)
  refine And.intro (fun h => absurd h (by decide)) (fun _ => ?_)
  refine And.intro (fun h => absurd h (by decide)) (fun _ => ?_)
  refine And.intro (fun h => absurd h (by decide)) (fun _ => ?_)
  refine And.intro (fun h => absurd h (by decide)) (fun _ => ?_)
  refine And.intro (fun h => absurd h (by decide)) (fun _ => ?_)
  refine And.intro (fun h => absurd h (by decide)) (fun _ => ?_)
  refine And.intro (fun h => absurd h (by decide)) (fun _ => ?_)
  refine And.intro (fun h => absurd h (by decide)) (fun _ => ?_)
  refine wF_of (oX8 X σ (w := 6) hv (by decide)) ?_
  rfl
set_option maxRecDepth 100000 in
set_option maxHeartbeats 1000000 in
theorem eX8_valveOf_7 (X : Nat × (Nat → Int32)) (σ : XH) {v : Nat} (hv : v < 2) : fX8_valveOf X [xR 7 0, xI (oN v), xI 7] σ = some (.inl (some (xI (valT (vT (mTS σ) v) ((mTS σ).1 0) 7))), σ) := by
  rw [uX8_valveOf]
  refine wF_eq (wI_s (N := 99999) ?_)
  refine And.intro (fun h => absurd h (by decide)) (fun _ => ?_)
  refine And.intro (fun h => absurd h (by decide)) (fun _ => ?_)
  refine And.intro (fun h => absurd h (by decide)) (fun _ => ?_)
  refine And.intro (fun h => absurd h (by decide)) (fun _ => ?_)
  refine And.intro (fun h => absurd h (by decide)) (fun _ => ?_)
  refine And.intro (fun h => absurd h (by decide)) (fun _ => ?_)
  refine And.intro (fun h => absurd h (by decide)) (fun _ => ?_)
  refine And.intro (fun h => absurd h (by decide)) (fun _ => ?_)
  refine And.intro (fun h => absurd h (by decide)) (fun _ => ?_)
  refine And.intro (fun h => absurd h (by decide)) (fun _ => ?_)
  refine And.intro (fun h => absurd h (by decide)) (fun _ => ?_)
  refine And.intro (fun h => absurd h (by decide)) (fun _ => ?_)
  refine And.intro (fun h => absurd h (by decide)) (fun _ => ?_)
  refine And.intro (fun h => absurd h (by decide)) (fun _ => ?_)
  refine wF_of (oX8 X σ (w := 7) hv (by decide)) ?_
  rfl
set_option maxRecDepth 100000 in
set_option maxHeartbeats 1000000 in
theorem eX8_valveOf_8 (X : Nat × (Nat → Int32)) (σ : XH) {v : Nat} (hv : v < 2) (h : okT (mTS σ)) : fX8_valveOf X [xR 7 0, xI (oN v), xI 8] σ = some (.inl (some (xI (valT (vT (mTS σ) v) ((mTS σ).1 0) 8))), σ) := by
  rw [uX8_valveOf]
  refine wF_eq (wI_s (N := 99999) ?_)
  refine And.intro (fun _ => ?_) (fun h => absurd (by decide) h)
  refine And.intro (by decide) ?_
  refine wF_of (wX8_demand X σ _ hv (okD_v h hv)) ?_
  rfl
set_option maxRecDepth 100000 in
set_option maxHeartbeats 1000000 in
theorem eX8_valveOf_9 (X : Nat × (Nat → Int32)) (σ : XH) {v : Nat} (hv : v < 2) : fX8_valveOf X [xR 7 0, xI (oN v), xI 9] σ = some (.inl (some (xI (valT (vT (mTS σ) v) ((mTS σ).1 0) 9))), σ) := by
  rw [uX8_valveOf]
  refine wF_eq (wI_s (N := 99999) ?_)
  refine And.intro (fun h => absurd h (by decide)) (fun _ => ?_)
  refine And.intro (fun _ => ?_) (fun h => absurd (by decide) h)
  refine And.intro (fun _ => ?_) (fun h => absurd (by decide) h)
  refine wF_of (oX8 X σ (w := 8) hv (by decide)) ?_
  rfl
set_option maxRecDepth 100000 in
set_option maxHeartbeats 1000000 in
theorem eX8_valveOf_10 (X : Nat × (Nat → Int32)) (σ : XH) {v : Nat} (hv : v < 2) : fX8_valveOf X [xR 7 0, xI (oN v), xI 10] σ = some (.inl (some (xI (valT (vT (mTS σ) v) ((mTS σ).1 0) 10))), σ) := by
  rw [uX8_valveOf]
  refine wF_eq (wI_s (N := 99999) ?_)
  refine And.intro (fun h => absurd h (by decide)) (fun _ => ?_)
  refine And.intro (fun h => absurd h (by decide)) (fun _ => ?_)
  refine And.intro (fun _ => ?_) (fun h => absurd (by decide) h)
  refine And.intro (fun _ => ?_) (fun h => absurd (by decide) h)
  refine wF_of (oX8 X σ (w := 9) hv (by decide)) ?_
  rfl
set_option maxRecDepth 100000 in
set_option maxHeartbeats 1000000 in
theorem eX8_valveOf_11 (X : Nat × (Nat → Int32)) (σ : XH) {v : Nat} (hv : v < 2) : fX8_valveOf X [xR 7 0, xI (oN v), xI 11] σ = some (.inl (some (xI (valT (vT (mTS σ) v) ((mTS σ).1 0) 11))), σ) := by
  rw [uX8_valveOf]
  refine wF_eq (wI_s (N := 99999) ?_)
  refine And.intro (fun h => absurd h (by decide)) (fun _ => ?_)
  refine And.intro (fun h => absurd h (by decide)) (fun _ => ?_)
  refine And.intro (fun h => absurd h (by decide)) (fun _ => ?_)
  refine And.intro (fun _ => ?_) (fun h => absurd (by decide) h)
  refine And.intro (fun _ => ?_) (fun h => absurd (by decide) h)
  refine wF_of (oX8 X σ (w := 10) hv (by decide)) ?_
  rfl
set_option maxRecDepth 100000 in
set_option maxHeartbeats 1000000 in
theorem eX8_valveOf_12 (X : Nat × (Nat → Int32)) (σ : XH) {v : Nat} (hv : v < 2) : fX8_valveOf X [xR 7 0, xI (oN v), xI 12] σ = some (.inl (some (xI (valT (vT (mTS σ) v) ((mTS σ).1 0) 12))), σ) := by
  rw [uX8_valveOf]
  refine wF_eq (wI_s (N := 99999) ?_)
  refine And.intro (fun h => absurd h (by decide)) (fun _ => ?_)
  refine And.intro (fun h => absurd h (by decide)) (fun _ => ?_)
  refine And.intro (fun h => absurd h (by decide)) (fun _ => ?_)
  refine And.intro (fun h => absurd h (by decide)) (fun _ => ?_)
  refine And.intro (fun _ => ?_) (fun h => absurd (by decide) h)
  refine And.intro (fun _ => ?_) (fun h => absurd (by decide) h)
  refine wF_of (oX8 X σ (w := 11) hv (by decide)) ?_
  rfl
set_option maxRecDepth 100000 in
set_option maxHeartbeats 1000000 in
theorem eX8_valveOf_13 (X : Nat × (Nat → Int32)) (σ : XH) {v : Nat} (hv : v < 2) : fX8_valveOf X [xR 7 0, xI (oN v), xI 13] σ = some (.inl (some (xI (valT (vT (mTS σ) v) ((mTS σ).1 0) 13))), σ) := by
  rw [uX8_valveOf]
  refine wF_eq (wI_s (N := 99999) ?_)
  refine And.intro (fun h => absurd h (by decide)) (fun _ => ?_)
  refine And.intro (fun h => absurd h (by decide)) (fun _ => ?_)
  refine And.intro (fun h => absurd h (by decide)) (fun _ => ?_)
  refine And.intro (fun h => absurd h (by decide)) (fun _ => ?_)
  refine And.intro (fun h => absurd h (by decide)) (fun _ => ?_)
  refine And.intro (fun _ => ?_) (fun h => absurd (by decide) h)
  refine And.intro (fun _ => ?_) (fun h => absurd (by decide) h)
  refine wF_of (oX8 X σ (w := 12) hv (by decide)) ?_
  rfl
set_option maxRecDepth 100000 in
set_option maxHeartbeats 1000000 in
theorem eX8_valveOf_14 (X : Nat × (Nat → Int32)) (σ : XH) {v : Nat} (hv : v < 2) : fX8_valveOf X [xR 7 0, xI (oN v), xI 14] σ = some (.inl (some (xI (valT (vT (mTS σ) v) ((mTS σ).1 0) 14))), σ) := by
  rw [uX8_valveOf]
  refine wF_eq (wI_s (N := 99999) ?_)
  refine And.intro (fun h => absurd h (by decide)) (fun _ => ?_)
  refine And.intro (fun h => absurd h (by decide)) (fun _ => ?_)
  refine And.intro (fun h => absurd h (by decide)) (fun _ => ?_)
  refine And.intro (fun h => absurd h (by decide)) (fun _ => ?_)
  refine And.intro (fun h => absurd h (by decide)) (fun _ => ?_)
  refine And.intro (fun h => absurd h (by decide)) (fun _ => ?_)
  refine And.intro (fun _ => ?_) (fun h => absurd (by decide) h)
  refine And.intro (fun _ => ?_) (fun h => absurd (by decide) h)
  refine wF_of (oX8 X σ (w := 13) hv (by decide)) ?_
  rfl
set_option maxRecDepth 100000 in
set_option maxHeartbeats 1000000 in
theorem eX8_valveOf_15 (X : Nat × (Nat → Int32)) (σ : XH) {v : Nat} (hv : v < 2) : fX8_valveOf X [xR 7 0, xI (oN v), xI 15] σ = some (.inl (some (xI (valT (vT (mTS σ) v) ((mTS σ).1 0) 15))), σ) := by
  rw [uX8_valveOf]
  refine wF_eq (wI_s (N := 99999) ?_)
  refine And.intro (fun h => absurd h (by decide)) (fun _ => ?_)
  refine And.intro (fun h => absurd h (by decide)) (fun _ => ?_)
  refine And.intro (fun h => absurd h (by decide)) (fun _ => ?_)
  refine And.intro (fun h => absurd h (by decide)) (fun _ => ?_)
  refine And.intro (fun h => absurd h (by decide)) (fun _ => ?_)
  refine And.intro (fun h => absurd h (by decide)) (fun _ => ?_)
  refine And.intro (fun h => absurd h (by decide)) (fun _ => ?_)
  refine And.intro (fun _ => ?_) (fun h => absurd (by decide) h)
  refine And.intro (fun _ => ?_) (fun h => absurd (by decide) h)
  refine wF_of (oX8 X σ (w := 14) hv (by decide)) ?_
  rfl
set_option maxRecDepth 100000 in
set_option maxHeartbeats 1000000 in
theorem eX8_valveOf_16 (X : Nat × (Nat → Int32)) (σ : XH) {v : Nat} (hv : v < 2) : fX8_valveOf X [xR 7 0, xI (oN v), xI 16] σ = some (.inl (some (xI (valT (vT (mTS σ) v) ((mTS σ).1 0) 16))), σ) := by
  rw [uX8_valveOf]
  refine wF_eq (wI_s (N := 99999) ?_)
  refine And.intro (fun h => absurd h (by decide)) (fun _ => ?_)
  refine And.intro (fun h => absurd h (by decide)) (fun _ => ?_)
  refine And.intro (fun h => absurd h (by decide)) (fun _ => ?_)
  refine And.intro (fun h => absurd h (by decide)) (fun _ => ?_)
  refine And.intro (fun h => absurd h (by decide)) (fun _ => ?_)
  refine And.intro (fun h => absurd h (by decide)) (fun _ => ?_)
  refine And.intro (fun h => absurd h (by decide)) (fun _ => ?_)
  refine And.intro (fun h => absurd h (by decide)) (fun _ => ?_)
  refine And.intro (fun _ => ?_) (fun h => absurd (by decide) h)
  refine wF_of (wX8_wear X σ hv) ?_
  rfl
set_option maxRecDepth 100000 in
set_option maxHeartbeats 1000000 in
theorem eX8_valveOf_17 (X : Nat × (Nat → Int32)) (σ : XH) {v : Nat} (hv : v < 2) : fX8_valveOf X [xR 7 0, xI (oN v), xI 17] σ = some (.inl (some (xI (valT (vT (mTS σ) v) ((mTS σ).1 0) 17))), σ) := by
  rw [uX8_valveOf]
  refine wF_eq (wI_s (N := 99999) ?_)
  refine And.intro (fun h => absurd h (by decide)) (fun _ => ?_)
  refine And.intro (fun h => absurd h (by decide)) (fun _ => ?_)
  refine And.intro (fun h => absurd h (by decide)) (fun _ => ?_)
  refine And.intro (fun h => absurd h (by decide)) (fun _ => ?_)
  refine And.intro (fun h => absurd h (by decide)) (fun _ => ?_)
  refine And.intro (fun h => absurd h (by decide)) (fun _ => ?_)
  refine And.intro (fun h => absurd h (by decide)) (fun _ => ?_)
  refine And.intro (fun h => absurd h (by decide)) (fun _ => ?_)
  refine And.intro (fun h => absurd h (by decide)) (fun _ => ?_)
  refine And.intro (fun _ => ?_) (fun h => absurd (by decide) h)
  refine wF_of (wX8_threshold X σ _ hv) ?_
  rfl
set_option maxRecDepth 100000 in
set_option maxHeartbeats 1000000 in
theorem eX8_valveOf_18 (X : Nat × (Nat → Int32)) (σ : XH) {v : Nat} (hv : v < 2) : fX8_valveOf X [xR 7 0, xI (oN v), xI 18] σ = some (.inl (some (xI (valT (vT (mTS σ) v) ((mTS σ).1 0) 18))), σ) := by
  rw [uX8_valveOf]
  refine wF_eq (wI_s (N := 99999) ?_)
  refine And.intro (fun h => absurd h (by decide)) (fun _ => ?_)
  refine And.intro (fun h => absurd h (by decide)) (fun _ => ?_)
  refine And.intro (fun h => absurd h (by decide)) (fun _ => ?_)
  refine And.intro (fun h => absurd h (by decide)) (fun _ => ?_)
  refine And.intro (fun h => absurd h (by decide)) (fun _ => ?_)
  refine And.intro (fun h => absurd h (by decide)) (fun _ => ?_)
  refine And.intro (fun h => absurd h (by decide)) (fun _ => ?_)
  refine And.intro (fun h => absurd h (by decide)) (fun _ => ?_)
  refine And.intro (fun h => absurd h (by decide)) (fun _ => ?_)
  refine And.intro (fun h => absurd h (by decide)) (fun _ => ?_)
  refine And.intro (fun _ => ?_) (fun h => absurd (by decide) h)
  refine wF_of (wX8_threshold X σ _ hv) ?_
  rfl
set_option maxRecDepth 100000 in
set_option maxHeartbeats 1000000 in
theorem eX8_valveOf_19 (X : Nat × (Nat → Int32)) (σ : XH) {v : Nat} (hv : v < 2) : fX8_valveOf X [xR 7 0, xI (oN v), xI 19] σ = some (.inl (some (xI (valT (vT (mTS σ) v) ((mTS σ).1 0) 19))), σ) := by
  rw [uX8_valveOf]
  refine wF_eq (wI_s (N := 99999) ?_)
  refine And.intro (fun h => absurd h (by decide)) (fun _ => ?_)
  refine And.intro (fun h => absurd h (by decide)) (fun _ => ?_)
  refine And.intro (fun h => absurd h (by decide)) (fun _ => ?_)
  refine And.intro (fun h => absurd h (by decide)) (fun _ => ?_)
  refine And.intro (fun h => absurd h (by decide)) (fun _ => ?_)
  refine And.intro (fun h => absurd h (by decide)) (fun _ => ?_)
  refine And.intro (fun h => absurd h (by decide)) (fun _ => ?_)
  refine And.intro (fun h => absurd h (by decide)) (fun _ => ?_)
  refine And.intro (fun h => absurd h (by decide)) (fun _ => ?_)
  refine And.intro (fun h => absurd h (by decide)) (fun _ => ?_)
  refine And.intro (fun h => absurd h (by decide)) (fun _ => ?_)
  refine And.intro (fun _ => ?_) (fun h => absurd (by decide) h)
  refine wF_of (wX8_flow X σ hv) ?_
  rfl
set_option maxRecDepth 100000 in
set_option maxHeartbeats 1000000 in
theorem eX8_valveOf_20 (X : Nat × (Nat → Int32)) (σ : XH) {v : Nat} (hv : v < 2) : fX8_valveOf X [xR 7 0, xI (oN v), xI 20] σ = some (.inl (some (xI (valT (vT (mTS σ) v) ((mTS σ).1 0) 20))), σ) := by
  rw [uX8_valveOf]
  refine wF_eq (wI_s (N := 99999) ?_)
  refine And.intro (fun h => absurd h (by decide)) (fun _ => ?_)
  refine And.intro (fun h => absurd h (by decide)) (fun _ => ?_)
  refine And.intro (fun h => absurd h (by decide)) (fun _ => ?_)
  refine And.intro (fun h => absurd h (by decide)) (fun _ => ?_)
  refine And.intro (fun h => absurd h (by decide)) (fun _ => ?_)
  refine And.intro (fun h => absurd h (by decide)) (fun _ => ?_)
  refine And.intro (fun h => absurd h (by decide)) (fun _ => ?_)
  refine And.intro (fun h => absurd h (by decide)) (fun _ => ?_)
  refine And.intro (fun h => absurd h (by decide)) (fun _ => ?_)
  refine And.intro (fun h => absurd h (by decide)) (fun _ => ?_)
  refine And.intro (fun h => absurd h (by decide)) (fun _ => ?_)
  refine And.intro (fun h => absurd h (by decide)) (fun _ => ?_)
  refine And.intro (fun _ => ?_) (fun h => absurd (by decide) h)
  refine wF_of (oX8 X σ (w := 15) hv (by decide)) ?_
  rfl
theorem eX8_valveOf (X : Nat × (Nat → Int32)) (σ : XH) {v : Nat} (hv : v < 2) (h : okT (mTS σ)) : ∀ w, w ≤ 20 → fX8_valveOf X [xR 7 0, xI (oN v), xI (oN w)] σ = some (.inl (some (xI (valT (vT (mTS σ) v) ((mTS σ).1 0) w))), σ)
  | 0, _ => eX8_valveOf_0 X σ hv
  | 1, _ => eX8_valveOf_1 X σ hv
  | 2, _ => eX8_valveOf_2 X σ hv
  | 3, _ => eX8_valveOf_3 X σ hv
  | 4, _ => eX8_valveOf_4 X σ hv
  | 5, _ => eX8_valveOf_5 X σ hv
  | 6, _ => eX8_valveOf_6 X σ hv
  | 7, _ => eX8_valveOf_7 X σ hv
  | 8, _ => eX8_valveOf_8 X σ hv h
  | 9, _ => eX8_valveOf_9 X σ hv
  | 10, _ => eX8_valveOf_10 X σ hv
  | 11, _ => eX8_valveOf_11 X σ hv
  | 12, _ => eX8_valveOf_12 X σ hv
  | 13, _ => eX8_valveOf_13 X σ hv
  | 14, _ => eX8_valveOf_14 X σ hv
  | 15, _ => eX8_valveOf_15 X σ hv
  | 16, _ => eX8_valveOf_16 X σ hv
  | 17, _ => eX8_valveOf_17 X σ hv
  | 18, _ => eX8_valveOf_18 X σ hv
  | 19, _ => eX8_valveOf_19 X σ hv
  | 20, _ => eX8_valveOf_20 X σ hv
  | n + 21, q => absurd q (by omega)
set_option maxRecDepth 100000 in
set_option maxHeartbeats 1000000 in
theorem eX8_pairOf_0 (X : Nat × (Nat → Int32)) (σ : XH) : fX8_pairOf X [xR 7 0, xI 0] σ = some (.inl (some (xI (prT (mTS σ) 0))), σ) := by
  rw [uX8_pairOf]
  refine wF_eq (wI_s (N := 99999) ?_)
  refine And.intro (fun h => absurd h (by decide)) (fun _ => ?_)
  refine And.intro (fun h => absurd h (by decide)) (fun _ => ?_)
  refine And.intro (fun h => absurd h (by decide)) (fun _ => ?_)
  refine And.intro (by decide) ?_
  rfl
set_option maxRecDepth 100000 in
set_option maxHeartbeats 1000000 in
theorem eX8_pairOf_1 (X : Nat × (Nat → Int32)) (σ : XH) : fX8_pairOf X [xR 7 0, xI 1] σ = some (.inl (some (xI (prT (mTS σ) 1))), σ) := by
  rw [uX8_pairOf]
  refine wF_eq (wI_s (N := 99999) ?_)
  refine And.intro (fun h => absurd h (by decide)) (fun _ => ?_)
  refine And.intro (fun h => absurd h (by decide)) (fun _ => ?_)
  refine And.intro (fun h => absurd h (by decide)) (fun _ => ?_)
  refine And.intro (by decide) ?_
  rfl
set_option maxRecDepth 100000 in
set_option maxHeartbeats 1000000 in
theorem eX8_pairOf_2 (X : Nat × (Nat → Int32)) (σ : XH) : fX8_pairOf X [xR 7 0, xI 2] σ = some (.inl (some (xI (prT (mTS σ) 2))), σ) := by
  rw [uX8_pairOf]
  refine wF_eq (wI_s (N := 99999) ?_)
  refine And.intro (fun h => absurd h (by decide)) (fun _ => ?_)
  refine And.intro (fun h => absurd h (by decide)) (fun _ => ?_)
  refine And.intro (fun h => absurd h (by decide)) (fun _ => ?_)
  refine And.intro (by decide) ?_
  rfl
set_option maxRecDepth 100000 in
set_option maxHeartbeats 1000000 in
theorem eX8_pairOf_3 (X : Nat × (Nat → Int32)) (σ : XH) : fX8_pairOf X [xR 7 0, xI 3] σ = some (.inl (some (xI (prT (mTS σ) 3))), σ) := by
  rw [uX8_pairOf]
  refine wF_eq (wI_s (N := 99999) ?_)
  refine And.intro (fun h => absurd h (by decide)) (fun _ => ?_)
  refine And.intro (fun h => absurd h (by decide)) (fun _ => ?_)
  refine And.intro (fun h => absurd h (by decide)) (fun _ => ?_)
  refine And.intro (by decide) ?_
  rfl
set_option maxRecDepth 100000 in
set_option maxHeartbeats 1000000 in
theorem eX8_pairOf_4 (X : Nat × (Nat → Int32)) (σ : XH) : fX8_pairOf X [xR 7 0, xI 4] σ = some (.inl (some (xI (prT (mTS σ) 4))), σ) := by
  rw [uX8_pairOf]
  refine wF_eq (wI_s (N := 99999) ?_)
  refine And.intro (fun h => absurd h (by decide)) (fun _ => ?_)
  refine And.intro (fun h => absurd h (by decide)) (fun _ => ?_)
  refine And.intro (fun h => absurd h (by decide)) (fun _ => ?_)
  refine And.intro (by decide) ?_
  rfl
set_option maxRecDepth 100000 in
set_option maxHeartbeats 1000000 in
theorem eX8_pairOf_5 (X : Nat × (Nat → Int32)) (σ : XH) : fX8_pairOf X [xR 7 0, xI 5] σ = some (.inl (some (xI (prT (mTS σ) 5))), σ) := by
  rw [uX8_pairOf]
  refine wF_eq (wI_s (N := 99999) ?_)
  refine And.intro (fun h => absurd h (by decide)) (fun _ => ?_)
  refine And.intro (fun h => absurd h (by decide)) (fun _ => ?_)
  refine And.intro (fun h => absurd h (by decide)) (fun _ => ?_)
  refine And.intro (by decide) ?_
  rfl
set_option maxRecDepth 100000 in
set_option maxHeartbeats 1000000 in
theorem eX8_pairOf_6 (X : Nat × (Nat → Int32)) (σ : XH) : fX8_pairOf X [xR 7 0, xI 6] σ = some (.inl (some (xI (prT (mTS σ) 6))), σ) := by
  rw [uX8_pairOf]
  refine wF_eq (wI_s (N := 99999) ?_)
  refine And.intro (fun _ => ?_) (fun h => absurd (by decide) h)
  refine wF_of (eX8_both X σ) ?_
  rfl
set_option maxRecDepth 100000 in
set_option maxHeartbeats 1000000 in
theorem eX8_pairOf_7 (X : Nat × (Nat → Int32)) (σ : XH) (h : okT (mTS σ)) : fX8_pairOf X [xR 7 0, xI 7] σ = some (.inl (some (xI (prT (mTS σ) 7))), σ) := by
  rw [uX8_pairOf]
  refine wF_eq (wI_s (N := 99999) ?_)
  refine And.intro (fun h => absurd h (by decide)) (fun _ => ?_)
  refine And.intro (fun _ => ?_) (fun h => absurd (by decide) h)
  refine And.intro (by decide) ?_
  refine wF_of (eX8_ideal X σ _ (okT_D h)) ?_
  rfl
set_option maxRecDepth 100000 in
set_option maxHeartbeats 1000000 in
theorem eX8_pairOf_8 (X : Nat × (Nat → Int32)) (σ : XH) : fX8_pairOf X [xR 7 0, xI 8] σ = some (.inl (some (xI (prT (mTS σ) 8))), σ) := by
  rw [uX8_pairOf]
  refine wF_eq (wI_s (N := 99999) ?_)
  refine And.intro (fun h => absurd h (by decide)) (fun _ => ?_)
  refine And.intro (fun h => absurd h (by decide)) (fun _ => ?_)
  refine And.intro (fun _ => ?_) (fun h => absurd (by decide) h)
  refine And.intro (by decide) ?_
  rfl
set_option maxRecDepth 100000 in
set_option maxHeartbeats 1000000 in
theorem eX8_pairOf_9 (X : Nat × (Nat → Int32)) (σ : XH) : fX8_pairOf X [xR 7 0, xI 9] σ = some (.inl (some (xI (prT (mTS σ) 9))), σ) := by
  rw [uX8_pairOf]
  refine wF_eq (wI_s (N := 99999) ?_)
  refine And.intro (fun h => absurd h (by decide)) (fun _ => ?_)
  refine And.intro (fun h => absurd h (by decide)) (fun _ => ?_)
  refine And.intro (fun _ => ?_) (fun h => absurd (by decide) h)
  refine And.intro (by decide) ?_
  rfl
set_option maxRecDepth 100000 in
set_option maxHeartbeats 1000000 in
theorem eX8_pairOf_10 (X : Nat × (Nat → Int32)) (σ : XH) : fX8_pairOf X [xR 7 0, xI 10] σ = some (.inl (some (xI (prT (mTS σ) 10))), σ) := by
  rw [uX8_pairOf]
  refine wF_eq (wI_s (N := 99999) ?_)
  refine And.intro (fun h => absurd h (by decide)) (fun _ => ?_)
  refine And.intro (fun h => absurd h (by decide)) (fun _ => ?_)
  refine And.intro (fun _ => ?_) (fun h => absurd (by decide) h)
  refine And.intro (by decide) ?_
  rfl
set_option maxRecDepth 100000 in
set_option maxHeartbeats 1000000 in
theorem eX8_pairOf_11 (X : Nat × (Nat → Int32)) (σ : XH) : fX8_pairOf X [xR 7 0, xI 11] σ = some (.inl (some (xI (prT (mTS σ) 11))), σ) := by
  rw [uX8_pairOf]
  refine wF_eq (wI_s (N := 99999) ?_)
  refine And.intro (fun h => absurd h (by decide)) (fun _ => ?_)
  refine And.intro (fun h => absurd h (by decide)) (fun _ => ?_)
  refine And.intro (fun _ => ?_) (fun h => absurd (by decide) h)
  refine And.intro (by decide) ?_
  rfl
theorem eX8_pairOf (X : Nat × (Nat → Int32)) (σ : XH) (h : okT (mTS σ)) : ∀ w, w ≤ 11 → fX8_pairOf X [xR 7 0, xI (oN w)] σ = some (.inl (some (xI (prT (mTS σ) w))), σ)
  | 0, _ => eX8_pairOf_0 X σ
  | 1, _ => eX8_pairOf_1 X σ
  | 2, _ => eX8_pairOf_2 X σ
  | 3, _ => eX8_pairOf_3 X σ
  | 4, _ => eX8_pairOf_4 X σ
  | 5, _ => eX8_pairOf_5 X σ
  | 6, _ => eX8_pairOf_6 X σ
  | 7, _ => eX8_pairOf_7 X σ h
  | 8, _ => eX8_pairOf_8 X σ
  | 9, _ => eX8_pairOf_9 X σ
  | 10, _ => eX8_pairOf_10 X σ
  | 11, _ => eX8_pairOf_11 X σ
  | n + 12, q => absurd q (by omega)
/-- sums over a ledger's rows; first places; counts -/
def sumL (L : Nat → Int32) (v : Int32) (w : Nat) : Nat → Int32
  | 0 => 0
  | k + 1 => sumL L v w k + (if L (5 * k) = v then L (5 * k + w) else 0)
def fstN (P : Nat → Bool) : Nat → Nat → Int32
  | _, 0 => -1000000
  | k, m + 1 => if P k = true then oN k else fstN P (k + 1) m
def cntN (P : Nat → Bool) : Nat → Int32
  | 0 => 0
  | k + 1 => cntN P k + (if P (k + 1) = true then 1 else 0)
def sgP (t : TS) (f : Int32) (u : Nat) : Bool := decide (f ≤ idealT t (oN u))
def flP (t : TS) (u : Nat) : Bool := decide (idealT t (oN u) < idealT t (oN (u - 1)))
def ftP (t : TS) (u : Nat) : Bool := decide (demV t.2.1 (oN u) = demV t.2.1 (oN (u - 1)) ∧ demV t.2.2.1 (oN u) = demV t.2.2.1 (oN (u - 1)))
def ledT (t : TS) (e w : Nat) : Int32 := if e < entN t then t.2.2.2 (5 * e + w) else -1000000
theorem mTS_Lat {σ : XH} {i : Nat} (h : i < 60) : σ.1 9 2 (42 + i) = (mTS σ).2.2.2 i := by
  show _ = trF 60 (fun i => σ.1 9 2 (0 + (42 + i))) i
  unfold trF
  dsimp only
  rw [if_pos h, Nat.zero_add]
abbrev xSm (X : Nat × (Nat → Int32)) (N pc : Nat) (lv : XL) (σ : XH) : Option (XR × XH) := xIter X (xEnv (nX8_sumOf X)) (fun _ _ => some none) 0 [(5, [0, 1, 2, 3, 4])] tX8_sumOf N (pc, lv, σ, 0)
set_option maxRecDepth 100000 in
set_option maxHeartbeats 1000000 in
theorem lX8_sumOf (X : Nat × (Nat → Int32)) (σ : XH) (v : Int32) (w n : Nat) (hw : w < 5) (hn : n ≤ 12) (he : (mTS σ).1 9 = oN n) : ∀ (m k N : Nat), k + m = n → wF (xSm X (N + m + 1) 5 [(0, xR 7 0), (1, xI v), (2, xI (oN w)), (3, xI (sumL (mTS σ).2.2.2 v w k)), (4, xI (oN k))] σ) (fun r => r = (.inl (some (xI (sumL (mTS σ).2.2.2 v w n))), σ)) := by
  intro m
  induction m with
  | zero =>
    intro k N hk
    have : k = n := by omega
    subst this
    refine wI_s (N := N + 0) ?_
    refine And.intro (by decide) ?_
    refine And.intro (fun _ => ?_) (fun h => absurd (by show σ.1 9 2 9 ≤ oN k; rw [show σ.1 9 2 9 = oN k from he]; exact Int32.le_refl _) h)
    rfl
  | succ m ih =>
    intro k N hk
    have i1 : (42 : Int32) + 5 * oN k = oN (42 + 5 * k) := i5k
    have i2 : (42 : Int32) + 5 * oN k + oN w = oN (42 + (5 * k + w)) := by rw [i1, oN_add, Nat.add_assoc]
    have j1 : (Int32.ofInt 42 + Int32.ofInt 5 * oN k).toNatClampNeg = 42 + 5 * k := by
      show ((42 : Int32) + 5 * oN k).toNatClampNeg = _
      rw [i1, oN_nat (by omega)]
    have j2 : (Int32.ofInt 42 + Int32.ofInt 5 * oN k + oN w).toNatClampNeg = 42 + (5 * k + w) := by
      show ((42 : Int32) + 5 * oN k + oN w).toNatClampNeg = _
      rw [i2, oN_nat (by omega)]
    have b1 : 0 ≤ Int32.ofInt 42 + Int32.ofInt 5 * oN k ∧ (Int32.ofInt 42 + Int32.ofInt 5 * oN k).toNatClampNeg < 102 := by
      rw [j1]
      exact ⟨by show 0 ≤ (42 : Int32) + 5 * oN k; rw [i1]; exact oN_nn (by omega), by omega⟩
    have b2 : 0 ≤ Int32.ofInt 42 + Int32.ofInt 5 * oN k + oN w ∧ (Int32.ofInt 42 + Int32.ofInt 5 * oN k + oN w).toNatClampNeg < 102 := by
      rw [j2]
      exact ⟨by show 0 ≤ (42 : Int32) + 5 * oN k + oN w; rw [i2]; exact oN_nn (by omega), by omega⟩
    have next : ∀ x, x = sumL (mTS σ).2.2.2 v w (k + 1) → wF (xSm X (N + (m + 1)) 5 [(0, xR 7 0), (1, xI v), (2, xI (oN w)), (3, xI x), (4, xI (oN k + 1))] σ) (fun r => r = (.inl (some (xI (sumL (mTS σ).2.2.2 v w n))), σ)) := by
      rintro x rfl
      rw [oN_1]
      exact ih (k + 1) N (by omega)
    refine wI_s (N := N + (m + 1)) ?_
    refine And.intro (by decide) ?_
    refine And.intro (fun q => ?_) (fun _ => ?_)
    · have q : σ.1 9 2 9 ≤ oN k := q
      rw [show σ.1 9 2 9 = oN n from he, oN_le (by omega) (by omega)] at q
      omega
    refine And.intro b1 ?_
    refine And.intro (fun c => ?_) (fun c => ?_)
    · refine And.intro b2 ?_
      refine next _ ?_
      rw [j1, mTS_Lat (by omega)] at c
      rw [j2, mTS_Lat (by omega)]
      show _ = sumL (mTS σ).2.2.2 v w k + _
      rw [if_pos c]
    · refine next _ ?_
      rw [j1, mTS_Lat (by omega)] at c
      show _ = sumL (mTS σ).2.2.2 v w k + _
      rw [if_neg c]
      rfl
set_option maxRecDepth 100000 in
set_option maxHeartbeats 1000000 in
theorem eX8_sumOf (X : Nat × (Nat → Int32)) (σ : XH) (v : Int32) (w : Nat) (hw : w < 5) (h : okT (mTS σ)) : fX8_sumOf X [xR 7 0, xI v, xI (oN w)] σ = some (.inl (some (xI (sumL (mTS σ).2.2.2 v w (entN (mTS σ))))), σ) := by
  have hn := okT_n h
  have hl := lX8_sumOf X σ v w _ hw hn.2 hn.1 (entN (mTS σ)) 0 (99998 - entN (mTS σ)) (by omega)
  rw [show 99998 - entN (mTS σ) + entN (mTS σ) + 1 = 99999 by omega] at hl
  rw [uX8_sumOf]
  refine wF_eq (wI_s (N := 99999) ?_)
  exact hl
theorem oN_in {w l m : Nat} (h1 : l ≤ w) (h2 : w ≤ m) (hm : m < 2 ^ 31) : oN l ≤ oN w ∧ oN w ≤ oN m := ⟨(oN_le (by omega) (by omega)).mpr h1, (oN_le (by omega) hm).mpr h2⟩
set_option maxRecDepth 100000 in
set_option maxHeartbeats 1000000 in
theorem wX8_valve (X : Nat × (Nat → Int32)) (σ : XH) (v w : Nat) (h : okT (mTS σ)) (hv : v < 2) (hw : w ≤ 20) : wF (fX8_valve X [xR 7 0, xI (oN v), xI (oN w)] σ) (apiNo σ (valT (vT (mTS σ) v) ((mTS σ).1 0) w) 0) := by
  rw [uX8_valve]
  refine wI_s (N := 99999) ?_
  refine wF_of (vX8_y X σ hv) ?_
  refine And.intro (fun h => absurd h (by decide)) (fun _ => ?_)
  refine wF_of (iX8_y X σ (oN_in (l := 0) (m := 20) (by omega) hw (by decide))) ?_
  refine And.intro (fun h => absurd h (by decide)) (fun _ => ?_)
  refine wF_of (eX8_valveOf X σ hv h w hw) ?_
  refine wF_of (eX8_tells X _ _) ?_
  exact ⟨_, rfl, SK.u (by decide), mTS_u7, by rw [xu_eq, if_pos rfl], KM.u (by decide)⟩
set_option maxRecDepth 100000 in
set_option maxHeartbeats 1000000 in
theorem wX8_valve_v (X : Nat × (Nat → Int32)) (σ : XH) (v w : Int32) (hv : ¬ (0 ≤ v ∧ v ≤ 1)) : wF (fX8_valve X [xR 7 0, xI v, xI w] σ) (apiNo σ 0 1) := by
  rw [uX8_valve]
  refine wI_s (N := 99999) ?_
  refine wF_of (vX8_n X σ hv) ?_
  refine And.intro (fun _ => ?_) (fun h => absurd rfl h)
  refine wF_of (eX8_fails X _ _) ?_
  exact ⟨_, rfl, SK.u (by decide), mTS_u7, by rw [xu_eq, if_pos rfl]; rfl, KM.u (by decide)⟩
set_option maxRecDepth 100000 in
set_option maxHeartbeats 1000000 in
theorem wX8_valve_r (X : Nat × (Nat → Int32)) (σ : XH) (v : Nat) (w : Int32) (hv : v < 2) (hw : ¬ (0 ≤ w ∧ w ≤ 20)) : wF (fX8_valve X [xR 7 0, xI (oN v), xI w] σ) (apiNo σ 0 2) := by
  rw [uX8_valve]
  refine wI_s (N := 99999) ?_
  refine wF_of (vX8_y X σ hv) ?_
  refine And.intro (fun h => absurd h (by decide)) (fun _ => ?_)
  refine wF_of (iX8_n X σ hw) ?_
  refine And.intro (fun _ => ?_) (fun h => absurd rfl h)
  refine wF_of (eX8_fails X _ _) ?_
  exact ⟨_, rfl, SK.u (by decide), mTS_u7, by rw [xu_eq, if_pos rfl]; rfl, KM.u (by decide)⟩
set_option maxRecDepth 100000 in
set_option maxHeartbeats 1000000 in
theorem wX8_pair (X : Nat × (Nat → Int32)) (σ : XH) (w : Nat) (h : okT (mTS σ)) (hw : w ≤ 11) : wF (fX8_pair X [xR 7 0, xI (oN w)] σ) (apiNo σ (prT (mTS σ) w) 0) := by
  rw [uX8_pair]
  refine wI_s (N := 99999) ?_
  refine wF_of (iX8_y X σ (oN_in (l := 0) (m := 11) (by omega) hw (by decide))) ?_
  refine And.intro (fun h => absurd h (by decide)) (fun _ => ?_)
  refine wF_of (eX8_pairOf X σ h w hw) ?_
  refine wF_of (eX8_tells X _ _) ?_
  exact ⟨_, rfl, SK.u (by decide), mTS_u7, by rw [xu_eq, if_pos rfl], KM.u (by decide)⟩
set_option maxRecDepth 100000 in
set_option maxHeartbeats 1000000 in
theorem wX8_pair_r (X : Nat × (Nat → Int32)) (σ : XH) (w : Int32) (hw : ¬ (0 ≤ w ∧ w ≤ 11)) : wF (fX8_pair X [xR 7 0, xI w] σ) (apiNo σ 0 1) := by
  rw [uX8_pair]
  refine wI_s (N := 99999) ?_
  refine wF_of (iX8_n X σ hw) ?_
  refine And.intro (fun _ => ?_) (fun h => absurd rfl h)
  refine wF_of (eX8_fails X _ _) ?_
  exact ⟨_, rfl, SK.u (by decide), mTS_u7, by rw [xu_eq, if_pos rfl]; rfl, KM.u (by decide)⟩
set_option maxRecDepth 100000 in
set_option maxHeartbeats 1000000 in
theorem wX8_ledgerSum (X : Nat × (Nat → Int32)) (σ : XH) (v w : Nat) (h : okT (mTS σ)) (hv : v < 2) (hw : 2 ≤ w ∧ w ≤ 4) : wF (fX8_ledgerSum X [xR 7 0, xI (oN v), xI (oN w)] σ) (apiNo σ (sumL (mTS σ).2.2.2 (oN v) w (entN (mTS σ))) 0) := by
  rw [uX8_ledgerSum]
  refine wI_s (N := 99999) ?_
  refine wF_of (vX8_y X σ hv) ?_
  refine And.intro (fun h => absurd h (by decide)) (fun _ => ?_)
  refine wF_of (iX8_y X σ (oN_in (l := 2) (m := 4) hw.1 hw.2 (by decide))) ?_
  refine And.intro (fun h => absurd h (by decide)) (fun _ => ?_)
  refine wF_of (eX8_sumOf X σ (oN v) w (by omega) h) ?_
  refine wF_of (eX8_tells X _ _) ?_
  exact ⟨_, rfl, SK.u (by decide), mTS_u7, by rw [xu_eq, if_pos rfl], KM.u (by decide)⟩
set_option maxRecDepth 100000 in
set_option maxHeartbeats 1000000 in
theorem wX8_ledgerSum_v (X : Nat × (Nat → Int32)) (σ : XH) (v w : Int32) (hv : ¬ (0 ≤ v ∧ v ≤ 1)) : wF (fX8_ledgerSum X [xR 7 0, xI v, xI w] σ) (apiNo σ 0 1) := by
  rw [uX8_ledgerSum]
  refine wI_s (N := 99999) ?_
  refine wF_of (vX8_n X σ hv) ?_
  refine And.intro (fun _ => ?_) (fun h => absurd rfl h)
  refine wF_of (eX8_fails X _ _) ?_
  exact ⟨_, rfl, SK.u (by decide), mTS_u7, by rw [xu_eq, if_pos rfl]; rfl, KM.u (by decide)⟩
set_option maxRecDepth 100000 in
set_option maxHeartbeats 1000000 in
theorem wX8_ledgerSum_r (X : Nat × (Nat → Int32)) (σ : XH) (v : Nat) (w : Int32) (hv : v < 2) (hw : ¬ (2 ≤ w ∧ w ≤ 4)) : wF (fX8_ledgerSum X [xR 7 0, xI (oN v), xI w] σ) (apiNo σ 0 2) := by
  rw [uX8_ledgerSum]
  refine wI_s (N := 99999) ?_
  refine wF_of (vX8_y X σ hv) ?_
  refine And.intro (fun h => absurd h (by decide)) (fun _ => ?_)
  refine wF_of (iX8_n X σ hw) ?_
  refine And.intro (fun _ => ?_) (fun h => absurd rfl h)
  refine wF_of (eX8_fails X _ _) ?_
  exact ⟨_, rfl, SK.u (by decide), mTS_u7, by rw [xu_eq, if_pos rfl]; rfl, KM.u (by decide)⟩
set_option maxRecDepth 100000 in
set_option maxHeartbeats 1000000 in
theorem wX8_idealFlow (X : Nat × (Nat → Int32)) (σ : XH) (u : Int32) (h : okT (mTS σ)) (hu : 0 ≤ u ∧ u ≤ 1000) : wF (fX8_idealFlow X [xR 7 0, xI u] σ) (apiNo σ (idealT (mTS σ) u) 0) := by
  rw [uX8_idealFlow]
  refine wI_s (N := 99999) ?_
  refine wF_of (iX8_y X σ hu) ?_
  refine And.intro (fun h => absurd h (by decide)) (fun _ => ?_)
  refine wF_of (eX8_ideal X σ u (okT_D h)) ?_
  refine wF_of (eX8_tells X _ _) ?_
  exact ⟨_, rfl, SK.u (by decide), mTS_u7, by rw [xu_eq, if_pos rfl], KM.u (by decide)⟩
set_option maxRecDepth 100000 in
set_option maxHeartbeats 1000000 in
theorem wX8_idealFlow_r (X : Nat × (Nat → Int32)) (σ : XH) (u : Int32) (hu : ¬ (0 ≤ u ∧ u ≤ 1000)) : wF (fX8_idealFlow X [xR 7 0, xI u] σ) (apiNo σ 0 1) := by
  rw [uX8_idealFlow]
  refine wI_s (N := 99999) ?_
  refine wF_of (iX8_n X σ hu) ?_
  refine And.intro (fun _ => ?_) (fun h => absurd rfl h)
  refine wF_of (eX8_fails X _ _) ?_
  exact ⟨_, rfl, SK.u (by decide), mTS_u7, by rw [xu_eq, if_pos rfl]; rfl, KM.u (by decide)⟩
set_option maxRecDepth 100000 in
set_option maxHeartbeats 1000000 in
theorem wX8_moveFor (X : Nat × (Nat → Int32)) (σ : XH) (v : Nat) (u : Int32) (h : okT (mTS σ)) (hv : v < 2) (hu : 0 ≤ u ∧ u ≤ 1000) : wF (fX8_moveFor X [xR 7 0, xI (oN v), xI u] σ) (apiNo σ (moveV (vT (mTS σ) v) (demV (vT (mTS σ) v) u)) 0) := by
  rw [uX8_moveFor]
  refine wI_s (N := 99999) ?_
  refine wF_of (vX8_y X σ hv) ?_
  refine And.intro (fun h => absurd h (by decide)) (fun _ => ?_)
  refine wF_of (iX8_y X σ hu) ?_
  refine And.intro (fun h => absurd h (by decide)) (fun _ => ?_)
  refine wF_of (wX8_demand X σ u hv (okD_v h hv)) ?_
  refine wF_of (wX8_move X σ _ hv) ?_
  refine wF_of (eX8_tells X _ _) ?_
  exact ⟨_, rfl, SK.u (by decide), mTS_u7, by rw [xu_eq, if_pos rfl], KM.u (by decide)⟩
set_option maxRecDepth 100000 in
set_option maxHeartbeats 1000000 in
theorem wX8_moveFor_v (X : Nat × (Nat → Int32)) (σ : XH) (v u : Int32) (hv : ¬ (0 ≤ v ∧ v ≤ 1)) : wF (fX8_moveFor X [xR 7 0, xI v, xI u] σ) (apiNo σ 0 1) := by
  rw [uX8_moveFor]
  refine wI_s (N := 99999) ?_
  refine wF_of (vX8_n X σ hv) ?_
  refine And.intro (fun _ => ?_) (fun h => absurd rfl h)
  refine wF_of (eX8_fails X _ _) ?_
  exact ⟨_, rfl, SK.u (by decide), mTS_u7, by rw [xu_eq, if_pos rfl]; rfl, KM.u (by decide)⟩
set_option maxRecDepth 100000 in
set_option maxHeartbeats 1000000 in
theorem wX8_moveFor_r (X : Nat × (Nat → Int32)) (σ : XH) (v : Nat) (u : Int32) (hv : v < 2) (hu : ¬ (0 ≤ u ∧ u ≤ 1000)) : wF (fX8_moveFor X [xR 7 0, xI (oN v), xI u] σ) (apiNo σ 0 2) := by
  rw [uX8_moveFor]
  refine wI_s (N := 99999) ?_
  refine wF_of (vX8_y X σ hv) ?_
  refine And.intro (fun h => absurd h (by decide)) (fun _ => ?_)
  refine wF_of (iX8_n X σ hu) ?_
  refine And.intro (fun _ => ?_) (fun h => absurd rfl h)
  refine wF_of (eX8_fails X _ _) ?_
  exact ⟨_, rfl, SK.u (by decide), mTS_u7, by rw [xu_eq, if_pos rfl]; rfl, KM.u (by decide)⟩
