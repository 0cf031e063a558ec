/-! ===== the relation holds of the fresh world ===== -/
theorem trF_of {n : Nat} {f g : Nat → Int32} (h : ∀ i, i < n → f i = g i) : trF n f = trF n g := funext fun i => by
  unfold trF
  split
  · exact h i ‹_›
  · rfl
set_option maxRecDepth 100000 in
theorem yJ_1 : ∀ i, i < 10 → gC xH0 0 i = xH0.1 9 2 (0 + i) := by decide +kernel
set_option maxRecDepth 100000 in
theorem yJ_2 : ∀ i, i < 16 → xH0.1 4 0 (pmV i) = xH0.1 9 2 (0 + (10 + i)) ∧ xH0.1 4 1 (pmV i) = xH0.1 9 2 (0 + (26 + i)) := by decide +kernel
set_option maxRecDepth 100000 in
theorem yJ_3 : ∀ i, i < 60 → xH0.1 8 0 i = xH0.1 9 2 (0 + (42 + i)) := by decide +kernel
set_option maxRecDepth 100000 in
theorem yJ_V : (∀ v, v < 2 → (1 ≤ vT (mTS xH0) v 0 ∧ vT (mTS xH0) v 0 ≤ 1000) ∧ (0 ≤ vT (mTS xH0) v 4 ∧ vT (mTS xH0) v 4 ≤ 2) ∧ (0 ≤ vT (mTS xH0) v 5 ∧ vT (mTS xH0) v 5 < vT (mTS xH0) v 6 ∧ vT (mTS xH0) v 6 ≤ 1000) ∧ (vT (mTS xH0) v 7 = 0 ∨ vT (mTS xH0) v 7 = 1) ∧ (0 ≤ vT (mTS xH0) v 8 ∧ vT (mTS xH0) v 8 ≤ 1000) ∧ (vT (mTS xH0) v 10 = 0 ∨ vT (mTS xH0) v 10 = 1)) ∧ (0 ≤ (mTS xH0).1 0 ∧ (mTS xH0).1 0 ≤ 1000) ∧ ((mTS xH0).1 1 = 0 ∨ (mTS xH0).1 1 = 1) ∧ (1 ≤ (mTS xH0).1 4 ∧ (mTS xH0).1 4 ≤ 1000) ∧ (mTS xH0).1 9 = 0 ∧ (0 ≤ (mTS xH0).1 5 ∧ (mTS xH0).1 5 ≤ 200000) := by decide +kernel
theorem yJ : J xH0 := by
  obtain ⟨v1, v2, v3, v4, v5, v6⟩ := yJ_V
  have e : cTS xH0 0 = mTS xH0 := by
    refine Prod.ext (trF_of yJ_1) (Prod.ext (trF_of fun i hi => (yJ_2 i hi).1) (Prod.ext (trF_of fun i hi => (yJ_2 i hi).2) (trF_of yJ_3)))
  have hn : entN (mTS xH0) = 0 := by
    unfold entN
    rw [v5]
    rfl
  refine ⟨fun _ => mTS xH0, 0, fun _ => 0, 0, e, ⟨⟨v1 0 (by decide), v1 1 (by decide), v2, v3, v4, ⟨0, by omega, v5⟩, fun i k h1 h2 => ?_⟩, v6⟩, ⟨by omega, rfl, 0, by omega, rfl, fun i hi => absurd hi (by omega)⟩, ⟨by omega, rfl, fun i hi => absurd hi (by omega)⟩, fun i hi => absurd hi (by omega), ⟨rfl, by omega, fun i hi => absurd hi (by omega)⟩, ⟨rfl, by omega, fun i hi => absurd hi (by omega)⟩⟩
  rw [hn] at h2
  omega
/-- meanFlow leaves the relation -/
theorem yJ_u {σ : XH} (hJ : J σ) : J (xuI σ 7 0 6 0) := by
  obtain ⟨S, m, b, n, h1, h2, h3, h4, h5, h6, h7⟩ := hJ
  exact j_mk (fun c j i h => xu_ne (by omega)) h3 h1 h6 ((SK.u (by omega)).st h4) mTS_u7 ⟨(xu_i (by omega)).trans h7.1, h7.2.1, fun i hi => by rw [xu_ne (by omega)]; exact h7.2.2 i hi⟩ h2 h5
theorem yJ_t {σ : XH} (hJ : J σ) : σ.1 3 0 8 = σ.1 9 2 5 ∧ σ.1 3 0 9 = σ.1 9 2 6 ∧ 0 ≤ σ.1 9 2 5 := by
  obtain ⟨S, m, b, n, h1, h2, -⟩ := hJ
  have e5 : (cTS σ 0).1 5 = (mTS σ).1 5 := by rw [h1]
  have e6 : (cTS σ 0).1 6 = (mTS σ).1 6 := by rw [h1]
  exact ⟨e5, e6, h2.2.1⟩
