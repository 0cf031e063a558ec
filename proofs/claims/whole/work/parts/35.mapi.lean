/-! ===== the reference's settings, as they are called ===== -/
def apiOK (σ : XH) (S : Nat → TS) (m : Nat) (a : Int32) (t : TS) (r : XR × XH) : Prop := ∃ σ', r = (.inl (some (xI a)), σ') ∧ MSt σ' (pushS S (mTS σ)) (min (m + 1) 4) ∧ mTS σ' = t ∧ σ'.1 7 0 6 = 0 ∧ KM σ σ'
/-- a call of the reference that changes nothing but what it says of exceptions -/
def apiNo (σ : XH) (a code : Int32) (r : XR × XH) : Prop := ∃ σ', r = (.inl (some (xI a)), σ') ∧ SK σ σ' ∧ mTS σ' = mTS σ ∧ σ'.1 7 0 6 = code ∧ KM σ σ'
abbrev hS (σ : XH) : XH := cpS σ 4 0 2 0 102
theorem hS_a {σ : XH} : aS (hS σ) = mTS σ := aTS_cg fun i hi => by
  unfold hS cpS
  dsimp only
  rw [if_pos (by omega), show 0 + (0 + i - 0) = 0 + i by omega]
theorem hS_t {σ : XH} : mTS (hS σ) = mTS σ := mTS_cp (by decide)
theorem hS_K {σ : XH} : KM σ (hS σ) := KM.cp (by decide) (by decide)
theorem hS_S {σ : XH} : SK σ (hS σ) := SK.cp (by decide)
theorem api_ok (X : Nat × (Nat → Int32)) {σ σ1 : XH} {a : Int32} {t : TS} {S : Nat → TS} {m : Nat} (h1 : σ1.1 7 0 9 = a) (h2 : mTS σ1 = t) (h3 : NF (hS σ) σ1) (hm : MSt σ S m) : wF (fX8_done X [xR 7 0, xI 0] σ1) (apiOK σ S m a t) := by
  refine wF_mono (wX8_done X σ1 0 S m (by decide) (h3.2.1.st (hS_S.st hm))) ?_
  rintro r ⟨σ', rfl, a1, a2, a3, a4⟩
  rw [h3.2.2, hS_a] at a1
  exact ⟨σ', by rw [h1], a1, a2.trans h2, a3, (hS_K.tr h3.1).tr a4⟩
theorem api_okA (X : Nat × (Nat → Int32)) {σ σ1 : XH} {a : Int32} {t : TS} {S : Nat → TS} {m : Nat} (h1 : σ1.1 7 0 9 = a) (h2 : mTS σ1 = t) (h3 : NF (hS σ) σ1) (hm : MSt σ S m) : wF (fX8_doneAlone X [xR 7 0, xI 0] σ1) (apiOK σ S m a t) := by
  refine wF_mono (wX8_doneAlone X σ1 0 S m (by decide) (h3.2.1.st (hS_S.st hm))) ?_
  rintro r ⟨σ', rfl, a1, a2, a3, a4⟩
  rw [h3.2.2, hS_a] at a1
  exact ⟨σ', by rw [h1], a1, a2.trans h2, a3, (hS_K.tr h3.1).tr a4⟩
theorem api_no (X : Nat × (Nat → Int32)) {σ : XH} {c : Int32} (hc : ¬ c ≤ 0) : wF (fX8_done X [xR 7 0, xI c] (hS σ)) (apiNo σ 0 c) :=
  wF_of (eX8_done_f X _ c hc) ⟨_, rfl, hS_S.tr (SK.u (by decide)), mTS_u7.trans hS_t, by rw [xu_eq, if_pos rfl], hS_K.tr (KM.u (by decide))⟩
theorem api_noA (X : Nat × (Nat → Int32)) {σ : XH} {c : Int32} (hc : ¬ c ≤ 0) : wF (fX8_doneAlone X [xR 7 0, xI c] (hS σ)) (apiNo σ 0 (c - 1)) :=
  wF_of (eX8_doneAlone_f X _ c hc) ⟨_, rfl, hS_S.tr (SK.u (by decide)), mTS_u7.trans hS_t, by rw [xu_eq, if_pos rfl], hS_K.tr (KM.u (by decide))⟩
set_option maxRecDepth 100000 in
set_option maxHeartbeats 1000000 in
theorem wX8_setRange (X : Nat × (Nat → Int32)) (σ : XH) (v : Nat) (a b f : Int32) (S : Nat → TS) (m : Nat) (hm : MSt σ S m) (hv : v < 2) (hg : gR a b) : wF (fX8_setRange X [xR 7 0, xI (oN v), xI a, xI b, xI f] σ) (apiOK σ S m (10000 * vT (mTS σ) v 5 + vT (mTS σ) v 6) (setV (mTS σ) v (rngV (vT (mTS σ) v) a b f))) := by
  have h0 := wX8_ranges X (hS σ) v a b f hv hg
  simp only [hS_t] at h0
  obtain ⟨r, h1, σ1, rfl, h2, h3, h4⟩ := h0
  rw [uX8_setRange]
  refine wI_s (N := 99999) ?_
  refine wF_of (eX8_hold X σ) ?_
  refine wF_of h1 ?_
  refine wF_mono (api_ok X h2 h3 h4 hm) ?_
  rintro r ⟨σ', rfl, h5⟩
  exact ⟨σ', rfl, h5⟩
set_option maxRecDepth 100000 in
set_option maxHeartbeats 1000000 in
theorem wX8_setRange_v (X : Nat × (Nat → Int32)) (σ : XH) (v a b f : Int32) (hv : ¬ (0 ≤ v ∧ v ≤ 1)) : wF (fX8_setRange X [xR 7 0, xI v, xI a, xI b, xI f] σ) (apiNo σ 0 (1)) := by
  rw [uX8_setRange]
  refine wI_s (N := 99999) ?_
  refine wF_of (eX8_hold X σ) ?_
  refine wF_of (wX8_ranges_v X (hS σ) v a b f hv) ?_
  refine wF_mono (api_no X (σ := σ) (c := 1) (by decide)) ?_
  rintro r ⟨σ', rfl, h5⟩
  exact ⟨σ', rfl, h5⟩
set_option maxRecDepth 100000 in
set_option maxHeartbeats 1000000 in
theorem wX8_setRange_r (X : Nat × (Nat → Int32)) (σ : XH) (v : Nat) (a b f : Int32) (hv : v < 2) (hg : ¬ gR a b) : wF (fX8_setRange X [xR 7 0, xI (oN v), xI a, xI b, xI f] σ) (apiNo σ 0 (2)) := by
  rw [uX8_setRange]
  refine wI_s (N := 99999) ?_
  refine wF_of (eX8_hold X σ) ?_
  refine wF_of (wX8_ranges_r X (hS σ) v a b f hv hg) ?_
  refine wF_mono (api_no X (σ := σ) (c := 2) (by decide)) ?_
  rintro r ⟨σ', rfl, h5⟩
  exact ⟨σ', rfl, h5⟩
set_option maxRecDepth 100000 in
set_option maxHeartbeats 1000000 in
theorem wX8_setValve (X : Nat × (Nat → Int32)) (σ : XH) (v w : Nat) (x : Int32) (S : Nat → TS) (m : Nat) (hm : MSt σ S m) (hv : v < 2) (hw : w < 5) (hg : gS (oN w) x) : wF (fX8_setValve X [xR 7 0, xI (oN v), xI (oN w), xI x] σ) (apiOK σ S m (vT (mTS σ) v w) (setV (mTS σ) v (updF (vT (mTS σ) v) w x))) := by
  have h0 := wX8_sets X (hS σ) v w x hv hw hg
  simp only [hS_t] at h0
  obtain ⟨r, h1, σ1, rfl, h2, h3, h4⟩ := h0
  rw [uX8_setValve]
  refine wI_s (N := 99999) ?_
  refine wF_of (eX8_hold X σ) ?_
  refine wF_of h1 ?_
  refine wF_mono (api_ok X h2 h3 h4 hm) ?_
  rintro r ⟨σ', rfl, h5⟩
  exact ⟨σ', rfl, h5⟩
set_option maxRecDepth 100000 in
set_option maxHeartbeats 1000000 in
theorem wX8_setValve_v (X : Nat × (Nat → Int32)) (σ : XH) (v w x : Int32) (hv : ¬ (0 ≤ v ∧ v ≤ 1)) : wF (fX8_setValve X [xR 7 0, xI v, xI w, xI x] σ) (apiNo σ 0 (1)) := by
  rw [uX8_setValve]
  refine wI_s (N := 99999) ?_
  refine wF_of (eX8_hold X σ) ?_
  refine wF_of (wX8_sets_v X (hS σ) v w x hv) ?_
  refine wF_mono (api_no X (σ := σ) (c := 1) (by decide)) ?_
  rintro r ⟨σ', rfl, h5⟩
  exact ⟨σ', rfl, h5⟩
set_option maxRecDepth 100000 in
set_option maxHeartbeats 1000000 in
theorem wX8_setValve_r (X : Nat × (Nat → Int32)) (σ : XH) (v : Nat) (w x : Int32) (hv : v < 2) (hg : ¬ gS w x) : wF (fX8_setValve X [xR 7 0, xI (oN v), xI w, xI x] σ) (apiNo σ 0 (2)) := by
  rw [uX8_setValve]
  refine wI_s (N := 99999) ?_
  refine wF_of (eX8_hold X σ) ?_
  refine wF_of (wX8_sets_r X (hS σ) v w x hv hg) ?_
  refine wF_mono (api_no X (σ := σ) (c := 2) (by decide)) ?_
  rintro r ⟨σ', rfl, h5⟩
  exact ⟨σ', rfl, h5⟩
set_option maxRecDepth 100000 in
set_option maxHeartbeats 1000000 in
theorem wX8_setSignal (X : Nat × (Nat → Int32)) (σ : XH) (u : Int32) (S : Nat → TS) (m : Nat) (hm : MSt σ S m) (hu : 0 ≤ u ∧ u ≤ 1000) : wF (fX8_setSignal X [xR 7 0, xI u] σ) (apiOK σ S m ((mTS σ).1 0) ((updF (mTS σ).1 0 u, (mTS σ).2))) := by
  have h0 := wX8_signals X (hS σ) u hu
  simp only [hS_t] at h0
  obtain ⟨r, h1, σ1, rfl, h2, h3, h4⟩ := h0
  rw [uX8_setSignal]
  refine wI_s (N := 99999) ?_
  refine wF_of (eX8_hold X σ) ?_
  refine wF_of h1 ?_
  refine wF_mono (api_okA X h2 h3 h4 hm) ?_
  rintro r ⟨σ', rfl, h5⟩
  exact ⟨σ', rfl, h5⟩
set_option maxRecDepth 100000 in
set_option maxHeartbeats 1000000 in
theorem wX8_setSignal_r (X : Nat × (Nat → Int32)) (σ : XH) (u : Int32) (hu : ¬ (0 ≤ u ∧ u ≤ 1000)) : wF (fX8_setSignal X [xR 7 0, xI u] σ) (apiNo σ 0 (1)) := by
  rw [uX8_setSignal]
  refine wI_s (N := 99999) ?_
  refine wF_of (eX8_hold X σ) ?_
  refine wF_of (wX8_signals_r X (hS σ) u hu) ?_
  refine wF_mono (api_noA X (σ := σ) (c := 2) (by decide)) ?_
  rintro r ⟨σ', rfl, h5⟩
  exact ⟨σ', rfl, h5⟩
set_option maxRecDepth 100000 in
set_option maxHeartbeats 1000000 in
theorem wX8_tune (X : Nat × (Nat → Int32)) (σ : XH) (w : Nat) (x : Int32) (S : Nat → TS) (m : Nat) (hm : MSt σ S m) (hw : w < 4) (hg : gC4 (oN w) x) : wF (fX8_tune X [xR 7 0, xI (oN w), xI x] σ) (apiOK σ S m ((mTS σ).1 (1 + w)) ((updF (mTS σ).1 (1 + w) x, (mTS σ).2))) := by
  have h0 := wX8_tunes X (hS σ) w x hw hg
  simp only [hS_t] at h0
  obtain ⟨r, h1, σ1, rfl, h2, h3, h4⟩ := h0
  rw [uX8_tune]
  refine wI_s (N := 99999) ?_
  refine wF_of (eX8_hold X σ) ?_
  refine wF_of h1 ?_
  refine wF_mono (api_okA X h2 h3 h4 hm) ?_
  rintro r ⟨σ', rfl, h5⟩
  exact ⟨σ', rfl, h5⟩
set_option maxRecDepth 100000 in
set_option maxHeartbeats 1000000 in
theorem wX8_tune_r (X : Nat × (Nat → Int32)) (σ : XH) (w x : Int32) (hg : ¬ gC4 w x) : wF (fX8_tune X [xR 7 0, xI w, xI x] σ) (apiNo σ 0 (1)) := by
  rw [uX8_tune]
  refine wI_s (N := 99999) ?_
  refine wF_of (eX8_hold X σ) ?_
  refine wF_of (wX8_tunes_r X (hS σ) w x hg) ?_
  refine wF_mono (api_noA X (σ := σ) (c := 2) (by decide)) ?_
  rintro r ⟨σ', rfl, h5⟩
  exact ⟨σ', rfl, h5⟩
set_option maxRecDepth 100000 in
set_option maxHeartbeats 1000000 in
theorem wX8_service (X : Nat × (Nat → Int32)) (σ : XH) (v : Nat) (S : Nat → TS) (m : Nat) (hm : MSt σ S m) (hv : v < 2) : wF (fX8_service X [xR 7 0, xI (oN v)] σ) (apiOK σ S m (wearV (vT (mTS σ) v)) (setV (mTS σ) v (srvV (vT (mTS σ) v)))) := by
  have h0 := wX8_serves X (hS σ) v hv
  simp only [hS_t] at h0
  obtain ⟨r, h1, σ1, rfl, h2, h3, h4⟩ := h0
  rw [uX8_service]
  refine wI_s (N := 99999) ?_
  refine wF_of (eX8_hold X σ) ?_
  refine wF_of h1 ?_
  refine wF_mono (api_ok X h2 h3 h4 hm) ?_
  rintro r ⟨σ', rfl, h5⟩
  exact ⟨σ', rfl, h5⟩
set_option maxRecDepth 100000 in
set_option maxHeartbeats 1000000 in
theorem wX8_service_v (X : Nat × (Nat → Int32)) (σ : XH) (v : Int32) (hv : ¬ (0 ≤ v ∧ v ≤ 1)) : wF (fX8_service X [xR 7 0, xI v] σ) (apiNo σ 0 (1)) := by
  rw [uX8_service]
  refine wI_s (N := 99999) ?_
  refine wF_of (eX8_hold X σ) ?_
  refine wF_of (wX8_serves_v X (hS σ) v hv) ?_
  refine wF_mono (api_no X (σ := σ) (c := 1) (by decide)) ?_
  rintro r ⟨σ', rfl, h5⟩
  exact ⟨σ', rfl, h5⟩
set_option maxRecDepth 100000 in
set_option maxHeartbeats 1000000 in
theorem wX8_putStem (X : Nat × (Nat → Int32)) (σ : XH) (v : Nat) (p : Int32) (S : Nat → TS) (m : Nat) (hm : MSt σ S m) (hv : v < 2) (hp : 0 ≤ p ∧ p ≤ 1000) : wF (fX8_putStem X [xR 7 0, xI (oN v), xI p] σ) (apiOK σ S m (vT (mTS σ) v 8) (setV (mTS σ) v (stmV (vT (mTS σ) v) p))) := by
  have h0 := wX8_stems X (hS σ) v p hv hp
  simp only [hS_t] at h0
  obtain ⟨r, h1, σ1, rfl, h2, h3, h4⟩ := h0
  rw [uX8_putStem]
  refine wI_s (N := 99999) ?_
  refine wF_of (eX8_hold X σ) ?_
  refine wF_of h1 ?_
  refine wF_mono (api_ok X h2 h3 h4 hm) ?_
  rintro r ⟨σ', rfl, h5⟩
  exact ⟨σ', rfl, h5⟩
set_option maxRecDepth 100000 in
set_option maxHeartbeats 1000000 in
theorem wX8_putStem_v (X : Nat × (Nat → Int32)) (σ : XH) (v p : Int32) (hv : ¬ (0 ≤ v ∧ v ≤ 1)) : wF (fX8_putStem X [xR 7 0, xI v, xI p] σ) (apiNo σ 0 (1)) := by
  rw [uX8_putStem]
  refine wI_s (N := 99999) ?_
  refine wF_of (eX8_hold X σ) ?_
  refine wF_of (wX8_stems_v X (hS σ) v p hv) ?_
  refine wF_mono (api_no X (σ := σ) (c := 1) (by decide)) ?_
  rintro r ⟨σ', rfl, h5⟩
  exact ⟨σ', rfl, h5⟩
set_option maxRecDepth 100000 in
set_option maxHeartbeats 1000000 in
theorem wX8_putStem_r (X : Nat × (Nat → Int32)) (σ : XH) (v : Nat) (p : Int32) (hv : v < 2) (hp : ¬ (0 ≤ p ∧ p ≤ 1000)) : wF (fX8_putStem X [xR 7 0, xI (oN v), xI p] σ) (apiNo σ 0 (2)) := by
  rw [uX8_putStem]
  refine wI_s (N := 99999) ?_
  refine wF_of (eX8_hold X σ) ?_
  refine wF_of (wX8_stems_r X (hS σ) v p hv hp) ?_
  refine wF_mono (api_no X (σ := σ) (c := 2) (by decide)) ?_
  rintro r ⟨σ', rfl, h5⟩
  exact ⟨σ', rfl, h5⟩
set_option maxRecDepth 100000 in
set_option maxHeartbeats 1000000 in
theorem wX8_run (X : Nat × (Nat → Int32)) (σ : XH) (n : Nat) (S : Nat → TS) (m : Nat) (hm : MSt σ S m) (h1 : 1 ≤ n) (hn : n ≤ 500) (ho : okT (mTS σ)) (ht : (mTS σ).1 5 + oN n ≤ 200000) : wF (fX8_run X [xR 7 0, xI (oN n)] σ) (apiOK σ S m (cnT (mTS σ) n) (itT (mTS σ) n)) := by
  have h0 := wX8_runs X (hS σ) n h1 hn (by rw [hS_t]; exact ho) (by rw [hS_t]; exact ht)
  simp only [hS_t] at h0
  obtain ⟨r, h1, σ1, rfl, h2, h3, h4⟩ := h0
  rw [uX8_run]
  refine wI_s (N := 99999) ?_
  refine wF_of (eX8_hold X σ) ?_
  refine wF_of h1 ?_
  refine wF_mono (api_okA X h2 h3 h4 hm) ?_
  rintro r ⟨σ', rfl, h5⟩
  exact ⟨σ', rfl, h5⟩
set_option maxRecDepth 100000 in
set_option maxHeartbeats 1000000 in
theorem wX8_run_r (X : Nat × (Nat → Int32)) (σ : XH) (n : Int32) (hn : ¬ (1 ≤ n ∧ n ≤ 500)) : wF (fX8_run X [xR 7 0, xI n] σ) (apiNo σ 0 (1)) := by
  rw [uX8_run]
  refine wI_s (N := 99999) ?_
  refine wF_of (eX8_hold X σ) ?_
  refine wF_of (wX8_runs_r X (hS σ) n hn) ?_
  refine wF_mono (api_noA X (σ := σ) (c := 2) (by decide)) ?_
  rintro r ⟨σ', rfl, h5⟩
  exact ⟨σ', rfl, h5⟩
set_option maxRecDepth 100000 in
set_option maxHeartbeats 1000000 in
theorem wX8_run_t (X : Nat × (Nat → Int32)) (σ : XH) (n : Int32) (hn : 1 ≤ n ∧ n ≤ 500) (ht : ¬ (mTS σ).1 5 + n ≤ 200000) : wF (fX8_run X [xR 7 0, xI n] σ) (apiNo σ 0 (2)) := by
  rw [uX8_run]
  refine wI_s (N := 99999) ?_
  refine wF_of (eX8_hold X σ) ?_
  refine wF_of (wX8_runs_t X (hS σ) n hn (by rw [hS_t]; exact ht)) ?_
  refine wF_mono (api_noA X (σ := σ) (c := 3) (by decide)) ?_
  rintro r ⟨σ', rfl, h5⟩
  exact ⟨σ', rfl, h5⟩
