/-! ===== a step of both, for each call ===== -/
theorem ex_v {x : Int32} (h : 0 ≤ x ∧ x ≤ 1) : ∃ v, v < 2 ∧ x = oN v := ⟨_, (v01 h).2, (v01 h).1⟩
theorem ex_w {x l : Int32} {m : Nat} (hm : m < 2 ^ 31) (h : 0 ≤ x ∧ x ≤ oN m) : ∃ w, w ≤ m ∧ x = oN w := by
  obtain ⟨e1, e2⟩ := oN_of h.1
  have h2 := h.2
  rw [e1] at h2
  exact ⟨_, (oN_le e2 hm).mp h2, e1⟩
theorem ex_n {x : Int32} (h : 1 ≤ x ∧ x ≤ 500) : ∃ n, 1 ≤ n ∧ n ≤ 500 ∧ x = oN n := ⟨_, (t500 h).2.1, (t500 h).2.2, (t500 h).1⟩
theorem ex_24 {x : Int32} (h : 2 ≤ x ∧ x ≤ 4) : ∃ w, (2 ≤ w ∧ w ≤ 4) ∧ x = oN w := by
  obtain ⟨e1, e2⟩ := oN_of (Int32.le_trans (by decide) h.1)
  have h2 := h.2
  have h1 := h.1
  rw [e1] at h2 h1
  exact ⟨_, ⟨(oN_le (a := 2) (by decide) e2).mp h1, (oN_le (b := 4) e2 (by decide)).mp h2⟩, e1⟩
theorem ex_s {w x : Int32} (h : gS w x) : ∃ i, i < 5 ∧ w = oN i := ⟨_, (gS_w h).2, (gS_w h).1⟩
theorem ex_c {w x : Int32} (h : gC4 w x) : ∃ i, i < 4 ∧ w = oN i := ⟨_, (gC_w h).2, (gC_w h).1⟩
set_option maxRecDepth 100000 in
set_option maxHeartbeats 1000000 in
theorem st_setRange (X : Nat × (Nat → Int32)) (σ : XH) (p0 p1 p2 p3 : Int32) (hf : p3 = 0 ∨ p3 = 1) (hJ : J σ) : stpR (fL_setRange X [xR 6 0, xI p0, xI p1, xI p2, xI p3, xR 10 0] σ) (fun τ => fX8_setRange X [xR 7 0, xI p0, xI p1, xI p2, xI p3] τ) := by
  have hw := wL_setRange X σ p0 p1 p2 p3
  by_cases c : 0 ≤ p0 ∧ p0 ≤ 1
  · obtain ⟨v, hv, rfl⟩ := ex_v c
    by_cases g : gR p1 p2
    · obtain ⟨S, m, b, n, h1, h2, h3, h4, h5, h6, h7⟩ := hJ
      have hc := wX7_setRange X σ v p1 p2 p3 S m (by rw [h1]; exact h2.1) h3 hv g hf
      rw [h1] at hc
      exact stp_set (t := setV (mTS σ) v (rngV (vT (mTS σ) v) p1 p2 p3)) h1 h2 h4 h5 h6 h7 hw.1 hc (fun τ e hS => by
        have := wX8_setRange X τ v p1 p2 p3 S m hS hv g
        rw [e] at this
        exact this) (okJ_V h2 hv (fun z => okV_rng z g))
    · exact stp_no hJ (by decide) (hw.2.2 (wX7_setRange_r X σ v p1 p2 p3 hv g)) (wX8_setRange_r X σ v p1 p2 p3 hv g)
  · exact stp_no hJ (by decide) (hw.2.1 (wX7_setRange_v X σ p0 p1 p2 p3 c)) (wX8_setRange_v X σ p0 p1 p2 p3 c)
set_option maxRecDepth 100000 in
set_option maxHeartbeats 1000000 in
theorem st_setValve (X : Nat × (Nat → Int32)) (σ : XH) (p0 p1 p2 : Int32) (hJ : J σ) : stpR (fL_setValve X [xR 6 0, xI p0, xI p1, xI p2, xR 10 0] σ) (fun τ => fX8_setValve X [xR 7 0, xI p0, xI p1, xI p2] τ) := by
  have hw := wL_setValve X σ p0 p1 p2
  by_cases c : 0 ≤ p0 ∧ p0 ≤ 1
  · obtain ⟨v, hv, rfl⟩ := ex_v c
    by_cases g : gS p1 p2
    · obtain ⟨w, hw5, rfl⟩ := ex_s g
      obtain ⟨S, m, b, n, h1, h2, h3, h4, h5, h6, h7⟩ := hJ
      have hc := wX7_setValve X σ v w p2 S m (by rw [h1]; exact h2.1) h3 hv hw5 g
      rw [h1] at hc
      exact stp_set (t := setV (mTS σ) v (updF (vT (mTS σ) v) w p2)) h1 h2 h4 h5 h6 h7 hw.1 hc (fun τ e hS => by
        have := wX8_setValve X τ v w p2 S m hS hv hw5 g
        rw [e] at this
        exact this) (okJ_V h2 hv (fun z => okV_sets z w hw5 g))
    · exact stp_no hJ (by decide) (hw.2.2 (wX7_setValve_r X σ v p1 p2 hv g)) (wX8_setValve_r X σ v p1 p2 hv g)
  · exact stp_no hJ (by decide) (hw.2.1 (wX7_setValve_v X σ p0 p1 p2 c)) (wX8_setValve_v X σ p0 p1 p2 c)
set_option maxRecDepth 100000 in
set_option maxHeartbeats 1000000 in
theorem st_setSignal (X : Nat × (Nat → Int32)) (σ : XH) (p0 : Int32) (hJ : J σ) : stpR (fL_setSignal X [xR 6 0, xI p0, xR 10 0] σ) (fun τ => fX8_setSignal X [xR 7 0, xI p0] τ) := by
  have hw := wL_setSignal X σ p0
  by_cases c : 0 ≤ p0 ∧ p0 ≤ 1000
  · obtain ⟨S, m, b, n, h1, h2, h3, h4, h5, h6, h7⟩ := hJ
    have hc := wX7_setSignal X σ p0 S m (by rw [h1]; exact h2.1) h3 c
    rw [h1] at hc
    exact stp_set (t := (updF (mTS σ).1 0 p0, (mTS σ).2)) h1 h2 h4 h5 h6 h7 hw.1 hc (fun τ e hS => by
      have := wX8_setSignal X τ p0 S m hS c
      rw [e] at this
      exact this) (okJ_sig h2 c)
  · exact stp_no hJ (by decide) (hw.2 (wX7_setSignal_r X σ p0 c)) (wX8_setSignal_r X σ p0 c)
set_option maxRecDepth 100000 in
set_option maxHeartbeats 1000000 in
theorem st_tune (X : Nat × (Nat → Int32)) (σ : XH) (p0 p1 : Int32) (hJ : J σ) : stpR (fL_tune X [xR 6 0, xI p0, xI p1, xR 10 0] σ) (fun τ => fX8_tune X [xR 7 0, xI p0, xI p1] τ) := by
  have hw := wL_tune X σ p0 p1
  by_cases c : gC4 p0 p1
  · obtain ⟨w, hw4, rfl⟩ := ex_c c
    obtain ⟨S, m, b, n, h1, h2, h3, h4, h5, h6, h7⟩ := hJ
    have hc := wX7_tune X σ w p1 S m (by rw [h1]; exact h2.1) h3 hw4 c
    rw [h1] at hc
    exact stp_set (t := (updF (mTS σ).1 (1 + w) p1, (mTS σ).2)) h1 h2 h4 h5 h6 h7 hw.1 hc (fun τ e hS => by
      have := wX8_tune X τ w p1 S m hS hw4 c
      rw [e] at this
      exact this) (okJ_tun h2 w hw4 c)
  · exact stp_no hJ (by decide) (hw.2 (wX7_tune_r X σ p0 p1 c)) (wX8_tune_r X σ p0 p1 c)
set_option maxRecDepth 100000 in
set_option maxHeartbeats 1000000 in
theorem st_service (X : Nat × (Nat → Int32)) (σ : XH) (p0 : Int32) (hJ : J σ) : stpR (fL_service X [xR 6 0, xI p0, xR 10 0] σ) (fun τ => fX8_service X [xR 7 0, xI p0] τ) := by
  have hw := wL_service X σ p0
  by_cases c : 0 ≤ p0 ∧ p0 ≤ 1
  · obtain ⟨v, hv, rfl⟩ := ex_v c
    obtain ⟨S, m, b, n, h1, h2, h3, h4, h5, h6, h7⟩ := hJ
    have hc := wX7_service X σ v S m (by rw [h1]; exact h2.1) h3 hv
    rw [h1] at hc
    exact stp_set (t := setV (mTS σ) v (srvV (vT (mTS σ) v))) h1 h2 h4 h5 h6 h7 hw.1 hc (fun τ e hS => by
      have := wX8_service X τ v S m hS hv
      rw [e] at this
      exact this) (okJ_V h2 hv (fun z => okV_srv z))
  · exact stp_no hJ (by decide) (hw.2 (wX7_service_v X σ p0 c)) (wX8_service_v X σ p0 c)
set_option maxRecDepth 100000 in
set_option maxHeartbeats 1000000 in
theorem st_putStem (X : Nat × (Nat → Int32)) (σ : XH) (p0 p1 : Int32) (hJ : J σ) : stpR (fL_putStem X [xR 6 0, xI p0, xI p1, xR 10 0] σ) (fun τ => fX8_putStem X [xR 7 0, xI p0, xI p1] τ) := by
  have hw := wL_putStem X σ p0 p1
  by_cases c : 0 ≤ p0 ∧ p0 ≤ 1
  · obtain ⟨v, hv, rfl⟩ := ex_v c
    by_cases g : 0 ≤ p1 ∧ p1 ≤ 1000
    · obtain ⟨S, m, b, n, h1, h2, h3, h4, h5, h6, h7⟩ := hJ
      have hc := wX7_putStem X σ v p1 S m (by rw [h1]; exact h2.1) h3 hv g
      rw [h1] at hc
      exact stp_set (t := setV (mTS σ) v (stmV (vT (mTS σ) v) p1)) h1 h2 h4 h5 h6 h7 hw.1 hc (fun τ e hS => by
        have := wX8_putStem X τ v p1 S m hS hv g
        rw [e] at this
        exact this) (okJ_V h2 hv (fun z => okV_stm z g))
    · exact stp_no hJ (by decide) (hw.2.2 (wX7_putStem_r X σ v p1 hv g)) (wX8_putStem_r X σ v p1 hv g)
  · exact stp_no hJ (by decide) (hw.2.1 (wX7_putStem_v X σ p0 p1 c)) (wX8_putStem_v X σ p0 p1 c)
set_option maxRecDepth 100000 in
set_option maxHeartbeats 1000000 in
theorem st_run (X : Nat × (Nat → Int32)) (σ : XH) (p0 : Int32) (hJ : J σ) : stpR (fL_run X [xR 6 0, xI p0, xR 10 0] σ) (fun τ => fX8_run X [xR 7 0, xI p0] τ) := by
  have hw := wL_run X σ p0
  have h1' := hJ
  obtain ⟨S', m', b', n', h1', -⟩ := h1'
  by_cases c : 1 ≤ p0 ∧ p0 ≤ 500
  · by_cases g : (mTS σ).1 5 + p0 ≤ 200000
    · obtain ⟨k, hk1, hk5, rfl⟩ := ex_n c
      obtain ⟨S, m, b, n, h1, h2, h3, h4, h5, h6, h7⟩ := hJ
      have hc := wX7_run X σ k S m (by rw [h1]; exact h2.1) h3 hk1 hk5 (by rw [h1]; exact g)
      rw [h1] at hc
      exact stp_set (t := itT (mTS σ) k) h1 h2 h4 h5 h6 h7 hw.1 hc (fun τ e hS => by
        have := wX8_run X τ k S m hS hk1 hk5 (by rw [e]; exact h2.1) (by rw [e]; exact g)
        rw [e] at this
        exact this) (okJ_it h2 hk5 g)
    · exact stp_no hJ (by decide) (hw.2.2 (wX7_run_t X σ p0 c (by rw [h1']; exact g))) (wX8_run_t X σ p0 c g)
  · exact stp_no hJ (by decide) (hw.2.1 (wX7_run_r X σ p0 c)) (wX8_run_r X σ p0 c)
set_option maxRecDepth 100000 in
set_option maxHeartbeats 1000000 in
theorem st_valve (X : Nat × (Nat → Int32)) (σ : XH) (p0 p1 : Int32) (hJ : J σ) : stpR (fL_valve X [xR 6 0, xI p0, xI p1, xR 10 0] σ) (fun τ => fX8_valve X [xR 7 0, xI p0, xI p1] τ) := by
  have hw := wL_valve X σ p0 p1
  by_cases c : 0 ≤ p0 ∧ p0 ≤ 1
  · obtain ⟨v, hv, rfl⟩ := ex_v c
    by_cases g : 0 ≤ p1 ∧ p1 ≤ 20
    · obtain ⟨w, hw2, rfl⟩ := ex_w (l := 0) (m := 20) (by decide) g
      obtain ⟨S, m, b, n, h1, h2, h3, h4, h5, h6, h7⟩ := id hJ
      have hc := cNo_of (wX7_valve X σ v w (by rw [h1]; exact h2.1) hv hw2)
      rw [h1] at hc
      exact stp_val (a := valT (vT (mTS σ) v) ((mTS σ).1 0) w) hJ hw.1 hc (fun τ e => by
        have := wX8_valve X τ v w (by rw [e]; exact h2.1) hv hw2
        rw [e] at this
        exact this)
    · exact stp_no hJ (by decide) (hw.2.2 (wX7_valve_r X σ v p1 hv g)) (wX8_valve_r X σ v p1 hv g)
  · exact stp_no hJ (by decide) (hw.2.1 (wX7_valve_v X σ p0 p1 c)) (wX8_valve_v X σ p0 p1 c)
set_option maxRecDepth 100000 in
set_option maxHeartbeats 1000000 in
theorem st_ledgerSum (X : Nat × (Nat → Int32)) (σ : XH) (p0 p1 : Int32) (hJ : J σ) : stpR (fL_ledgerSum X [xR 6 0, xI p0, xI p1, xR 10 0] σ) (fun τ => fX8_ledgerSum X [xR 7 0, xI p0, xI p1] τ) := by
  have hw := wL_ledgerSum X σ p0 p1
  by_cases c : 0 ≤ p0 ∧ p0 ≤ 1
  · obtain ⟨v, hv, rfl⟩ := ex_v c
    by_cases g : 2 ≤ p1 ∧ p1 ≤ 4
    · obtain ⟨w, hw2, rfl⟩ := ex_24 g
      obtain ⟨S, m, b, n, h1, h2, h3, h4, h5, h6, h7⟩ := id hJ
      have hc := cNo_of (wX7_ledgerSum X σ v w (by rw [h1]; exact h2.1) hv hw2)
      rw [h1] at hc
      exact stp_val (a := sumL (mTS σ).2.2.2 (oN v) w (entN (mTS σ))) hJ hw.1 hc (fun τ e => by
        have := wX8_ledgerSum X τ v w (by rw [e]; exact h2.1) hv hw2
        rw [e] at this
        exact this)
    · exact stp_no hJ (by decide) (hw.2.2 (wX7_ledgerSum_r X σ v p1 hv g)) (wX8_ledgerSum_r X σ v p1 hv g)
  · exact stp_no hJ (by decide) (hw.2.1 (wX7_ledgerSum_v X σ p0 p1 c)) (wX8_ledgerSum_v X σ p0 p1 c)
set_option maxRecDepth 100000 in
set_option maxHeartbeats 1000000 in
theorem st_moveFor (X : Nat × (Nat → Int32)) (σ : XH) (p0 p1 : Int32) (hJ : J σ) : stpR (fL_moveFor X [xR 6 0, xI p0, xI p1, xR 10 0] σ) (fun τ => fX8_moveFor X [xR 7 0, xI p0, xI p1] τ) := by
  have hw := wL_moveFor X σ p0 p1
  by_cases c : 0 ≤ p0 ∧ p0 ≤ 1
  · obtain ⟨v, hv, rfl⟩ := ex_v c
    by_cases g : 0 ≤ p1 ∧ p1 ≤ 1000
    · skip
      obtain ⟨S, m, b, n, h1, h2, h3, h4, h5, h6, h7⟩ := id hJ
      have hc := cNo_of (wX7_moveFor X σ v p1 (by rw [h1]; exact h2.1) hv g)
      rw [h1] at hc
      exact stp_val (a := moveV (vT (mTS σ) v) (demV (vT (mTS σ) v) p1)) hJ hw.1 hc (fun τ e => by
        have := wX8_moveFor X τ v p1 (by rw [e]; exact h2.1) hv g
        rw [e] at this
        exact this)
    · exact stp_no hJ (by decide) (hw.2.2 (wX7_moveFor_r X σ v p1 hv g)) (wX8_moveFor_r X σ v p1 hv g)
  · exact stp_no hJ (by decide) (hw.2.1 (wX7_moveFor_v X σ p0 p1 c)) (wX8_moveFor_v X σ p0 p1 c)
set_option maxRecDepth 100000 in
set_option maxHeartbeats 1000000 in
theorem st_pair (X : Nat × (Nat → Int32)) (σ : XH) (p0 : Int32) (hJ : J σ) : stpR (fL_pair X [xR 6 0, xI p0, xR 10 0] σ) (fun τ => fX8_pair X [xR 7 0, xI p0] τ) := by
  have hw := wL_pair X σ p0
  by_cases c : 0 ≤ p0 ∧ p0 ≤ 11
  · obtain ⟨w, hw2, rfl⟩ := ex_w (l := 0) (m := 11) (by decide) c
    obtain ⟨S, m, b, n, h1, h2, h3, h4, h5, h6, h7⟩ := id hJ
    have hc := cNo_of (wX7_pair X σ w (by rw [h1]; exact h2.1) hw2)
    rw [h1] at hc
    exact stp_val (a := prT (mTS σ) w) hJ hw.1 hc (fun τ e => by
      have := wX8_pair X τ w (by rw [e]; exact h2.1) hw2
      rw [e] at this
      exact this)
  · exact stp_no hJ (by decide) (hw.2 (wX7_pair_r X σ p0 c)) (wX8_pair_r X σ p0 c)
set_option maxRecDepth 100000 in
set_option maxHeartbeats 1000000 in
theorem st_idealFlow (X : Nat × (Nat → Int32)) (σ : XH) (p0 : Int32) (hJ : J σ) : stpR (fL_idealFlow X [xR 6 0, xI p0, xR 10 0] σ) (fun τ => fX8_idealFlow X [xR 7 0, xI p0] τ) := by
  have hw := wL_idealFlow X σ p0
  by_cases c : 0 ≤ p0 ∧ p0 ≤ 1000
  · skip
    obtain ⟨S, m, b, n, h1, h2, h3, h4, h5, h6, h7⟩ := id hJ
    have hc := cNo_of (wX7_idealFlow X σ p0 (by rw [h1]; exact h2.1) c)
    rw [h1] at hc
    exact stp_val (a := idealT (mTS σ) p0) hJ hw.1 hc (fun τ e => by
      have := wX8_idealFlow X τ p0 (by rw [e]; exact h2.1) c
      rw [e] at this
      exact this)
  · exact stp_no hJ (by decide) (hw.2 (wX7_idealFlow_r X σ p0 c)) (wX8_idealFlow_r X σ p0 c)
set_option maxRecDepth 100000 in
set_option maxHeartbeats 1000000 in
theorem st_signalFor (X : Nat × (Nat → Int32)) (σ : XH) (p0 : Int32) (hJ : J σ) : stpR (fL_signalFor X [xR 6 0, xI p0, xR 10 0] σ) (fun τ => fX8_signalFor X [xR 7 0, xI p0] τ) := by
  have hw := wL_signalFor X σ p0
  by_cases c : 0 ≤ p0 ∧ p0 ≤ 2000
  · skip
    obtain ⟨S, m, b, n, h1, h2, h3, h4, h5, h6, h7⟩ := id hJ
    have hc := cNo_of (wX7_signalFor X σ p0 (by rw [h1]; exact h2.1) c)
    rw [h1] at hc
    exact stp_val (a := fstN (sgP (mTS σ) p0) 0 1001) hJ hw.1 hc (fun τ e => by
      have := wX8_signalFor X τ p0 (by rw [e]; exact h2.1) c
      rw [e] at this
      exact this)
  · exact stp_no hJ (by decide) (hw.2 (wX7_signalFor_r X σ p0 c)) (wX8_signalFor_r X σ p0 c)
set_option maxRecDepth 100000 in
set_option maxHeartbeats 1000000 in
theorem st_restAfter (X : Nat × (Nat → Int32)) (σ : XH) (p0 : Int32) (hJ : J σ) : stpR (fL_restAfter X [xR 6 0, xI p0, xR 10 0] σ) (fun τ => fX8_restAfter X [xR 7 0, xI p0] τ) := by
  have hw := wL_restAfter X σ p0
  by_cases c : 1 ≤ p0 ∧ p0 ≤ 500
  · obtain ⟨k, hk1, hk5, rfl⟩ := ex_n c
    obtain ⟨S, m, b, n, h1, h2, h3, h4, h5, h6, h7⟩ := id hJ
    have hc := wX7_restAfter X σ k hk1 hk5 (by rw [h1]; exact h2.1)
    rw [h1] at hc
    exact stp_val (a := fstN (rsP (mTS σ)) 1 k) hJ hw.1 hc (fun τ e => by
      have := wX8_restAfter X τ k hk1 hk5 (by rw [e]; exact h2.1)
      rw [e] at this
      exact this)
  · exact stp_no hJ (by decide) (hw.2 (wX7_restAfter_r X σ p0 c)) (wX8_restAfter_r X σ p0 c)
set_option maxRecDepth 100000 in
set_option maxHeartbeats 1000000 in
theorem st_missedWithin (X : Nat × (Nat → Int32)) (σ : XH) (p0 : Int32) (hJ : J σ) : stpR (fL_missedWithin X [xR 6 0, xI p0, xR 10 0] σ) (fun τ => fX8_missedWithin X [xR 7 0, xI p0] τ) := by
  have hw := wL_missedWithin X σ p0
  by_cases c : 1 ≤ p0 ∧ p0 ≤ 500
  · obtain ⟨k, hk1, hk5, rfl⟩ := ex_n c
    obtain ⟨S, m, b, n, h1, h2, h3, h4, h5, h6, h7⟩ := id hJ
    have hc := wX7_missedWithin X σ k hk1 hk5 (by rw [h1]; exact h2.1)
    rw [h1] at hc
    exact stp_val (a := msT (mTS σ) k) hJ hw.1 hc (fun τ e => by
      have := wX8_missedWithin X τ k hk1 hk5 (by rw [e]; exact h2.1)
      rw [e] at this
      exact this)
  · exact stp_no hJ (by decide) (hw.2 (wX7_missedWithin_r X σ p0 c)) (wX8_missedWithin_r X σ p0 c)
set_option maxRecDepth 100000 in
set_option maxHeartbeats 1000000 in
theorem st_ledger (X : Nat × (Nat → Int32)) (σ : XH) (p0 p1 : Int32) (hJ : J σ) : stpR (fL_ledger X [xR 6 0, xI p0, xI p1, xR 10 0] σ) (fun τ => fX8_ledger X [xR 7 0, xI p0, xI p1] τ) := by
  have hw := wL_ledger X σ p0 p1
  by_cases c : 0 ≤ p0 ∧ 0 ≤ p1 ∧ p1 ≤ 4
  · obtain ⟨e0, e1⟩ := oN_of c.1
    obtain ⟨w, hw2, rfl⟩ := ex_w (l := 0) (m := 4) (by decide) c.2
    generalize p0.toNatClampNeg = q at e0 e1
    subst e0
    obtain ⟨S, m, b, n, h1, h2, h3, h4, h5, h6, h7⟩ := id hJ
    have hc := cNo_of (wX7_ledger X σ q w (by rw [h1]; exact h2.1) e1 hw2)
    rw [h1] at hc
    exact stp_val (a := ledT (mTS σ) q w) hJ hw.1 hc (fun τ e => by
      have := wX8_ledger X τ q w (by rw [e]; exact h2.1) e1 hw2
      rw [e] at this
      exact this)
  · exact stp_no hJ (by decide) (hw.2 (wX7_ledger_r X σ p0 p1 c)) (wX8_ledger_r X σ p0 p1 c)
set_option maxRecDepth 100000 in
set_option maxHeartbeats 1000000 in
theorem st_wornAfter (X : Nat × (Nat → Int32)) (σ : XH) (p0 p1 p2 : Int32) (hJ : J σ) : stpR (fL_wornAfter X [xR 6 0, xI p0, xI p1, xI p2, xR 10 0] σ) (fun τ => fX8_wornAfter X [xR 7 0, xI p0, xI p1, xI p2] τ) := by
  have hw := wL_wornAfter X σ p0 p1 p2
  by_cases c : 0 ≤ p0 ∧ p0 ≤ 1
  · obtain ⟨v, hv, rfl⟩ := ex_v c
    by_cases g : (0 ≤ p1 ∧ p1 ≤ 100000) ∧ 0 ≤ p2 ∧ p2 ≤ 500
    · obtain ⟨k, hk, rfl⟩ := ex_w (l := 0) (m := 500) (by decide) g.2
      obtain ⟨S, m, b, n, h1, h2, h3, h4, h5, h6, h7⟩ := id hJ
      have hc := wX7_wornAfter X σ v k p1 hv g.1 hk (by rw [h1]; exact h2.1)
      rw [h1] at hc
      exact stp_val (a := fstN (wnP (mTS σ) v p1) 0 (k + 1)) hJ hw.1 hc (fun τ e => by
        have := wX8_wornAfter X τ v k p1 hv g.1 hk (by rw [e]; exact h2.1)
        rw [e] at this
        exact this)
    · exact stp_no hJ (by decide) (hw.2.2 (wX7_wornAfter_r X σ v p1 p2 hv g)) (wX8_wornAfter_r X σ v p1 p2 hv g)
  · exact stp_no hJ (by decide) (hw.2.1 (wX7_wornAfter_v X σ p0 p1 p2 c)) (wX8_wornAfter_v X σ p0 p1 p2 c)
