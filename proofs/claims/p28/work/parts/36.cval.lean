/-! ===== pure words of the class (out of the proof of whole, by wip/p28/gen/prune.py) ===== -/
set_option maxRecDepth 100000 in
set_option maxHeartbeats 1000000 in
theorem eX7_within (X : Nat × (Nat → Int32)) (σ : XH) (v l m : Int32) : fX7_within X [xI v, xI l, xI m] σ = some (.inl (some (xI (if l ≤ v ∧ v ≤ m then 1 else 0))), σ) := by
  rw [uX7_within]
  refine wF_eq (wI_s (N := 99999) ?_)
  refine And.intro (fun h => ?_) (fun h => ?_)
  · refine And.intro (Or.inl (by decide)) ?_
    rw [if_neg (fun q => Int32.not_le.mpr h q.1)]
    rfl
  · have h : ¬ v < l := h
    refine And.intro (fun h2 => ?_) (fun h2 => ?_)
    · refine And.intro (Or.inl (by decide)) ?_
      rw [if_neg (fun q => Int32.not_le.mpr h2 q.2)]
      rfl
    · have h2 : ¬ m < v := h2
      refine And.intro (Or.inr (by decide)) ?_
      rw [if_pos ⟨Int32.not_lt.mp h, Int32.not_lt.mp h2⟩]
      rfl
theorem wn_y (X : Nat × (Nat → Int32)) (σ : XH) {v l m : Int32} (h : l ≤ v ∧ v ≤ m) : fX7_within X [xI v, xI l, xI m] σ = some (.inl (some (xI 1)), σ) := by
  rw [eX7_within, if_pos h]
theorem wn_n (X : Nat × (Nat → Int32)) (σ : XH) {v l m : Int32} (h : ¬ (l ≤ v ∧ v ≤ m)) : fX7_within X [xI v, xI l, xI m] σ = some (.inl (some (xI 0)), σ) := by
  rw [eX7_within, if_neg h]
set_option maxRecDepth 100000 in
set_option maxHeartbeats 1000000 in
theorem eX7_isValve (X : Nat × (Nat → Int32)) (σ : XH) (v : Int32) : fX7_isValve X [xI v] σ = some (.inl (some (xI (if 0 ≤ v ∧ v ≤ 1 then 1 else 0))), σ) := by
  rw [uX7_isValve]
  refine wF_eq (wI_s (N := 99999) ?_)
  refine wF_of (eX7_within X σ _ _ _) ?_
  refine And.intro i01 ?_
  rfl
set_option maxRecDepth 100000 in
set_option maxHeartbeats 1000000 in
theorem eX7_isSignal (X : Nat × (Nat → Int32)) (σ : XH) (v : Int32) : fX7_isSignal X [xI v] σ = some (.inl (some (xI (if 0 ≤ v ∧ v ≤ 1000 then 1 else 0))), σ) := by
  rw [uX7_isSignal]
  refine wF_eq (wI_s (N := 99999) ?_)
  refine wF_of (eX7_within X σ _ _ _) ?_
  refine And.intro i01 ?_
  rfl
set_option maxRecDepth 100000 in
set_option maxHeartbeats 1000000 in
theorem eX7_isTicks (X : Nat × (Nat → Int32)) (σ : XH) (v : Int32) : fX7_isTicks X [xI v] σ = some (.inl (some (xI (if 1 ≤ v ∧ v ≤ 500 then 1 else 0))), σ) := by
  rw [uX7_isTicks]
  refine wF_eq (wI_s (N := 99999) ?_)
  refine wF_of (eX7_within X σ _ _ _) ?_
  refine And.intro i01 ?_
  rfl
set_option maxRecDepth 100000 in
set_option maxHeartbeats 1000000 in
theorem wX7_isRange (X : Nat × (Nat → Int32)) (σ : XH) (a b : Int32) : wF (fX7_isRange X [xI a, xI b] σ) (fun r => (gR a b → r = (.inl (some (xI 1)), σ)) ∧ (¬ gR a b → r = (.inl (some (xI 0)), σ))) := by
  rw [uX7_isRange]
  refine wI_s (N := 99999) ?_
  refine And.intro (fun h => ?_) (fun h => ?_)
  · refine And.intro (Or.inl (by decide)) ?_
    exact ⟨fun g => absurd g.1 (Int32.not_le.mpr h), fun _ => rfl⟩
  refine And.intro (fun h2 => ?_) (fun h2 => ?_)
  · refine And.intro (Or.inl (by decide)) ?_
    exact ⟨fun g => absurd g.2.1 (Int32.not_lt.mpr h2), fun _ => rfl⟩
  refine And.intro (fun h3 => ?_) (fun h3 => ?_)
  · refine And.intro (Or.inl (by decide)) ?_
    exact ⟨fun g => absurd g.2.2 (Int32.not_le.mpr h3), fun _ => rfl⟩
  · refine And.intro (Or.inr (by decide)) ?_
    exact ⟨fun _ => rfl, fun g => absurd ⟨Int32.not_lt.mp h, Int32.not_le.mp h2, Int32.not_lt.mp h3⟩ g⟩
set_option maxRecDepth 100000 in
set_option maxHeartbeats 1000000 in
theorem wX7_isTimeLeft (X : Nat × (Nat → Int32)) (σ : XH) (n : Int32) : wF (fX7_isTimeLeft X [xR 6 0, xI n] σ) (fun r => ((cTS σ 0).1 5 + n ≤ 200000 → r = (.inl (some (xI 1)), σ)) ∧ (¬ (cTS σ 0).1 5 + n ≤ 200000 → r = (.inl (some (xI 0)), σ))) := by
  rw [uX7_isTimeLeft]
  refine wI_s (N := 99999) ?_
  refine And.intro (fun h => ?_) (fun h => ?_)
  · refine And.intro (Or.inl (by decide)) ?_
    exact ⟨fun g => absurd g (Int32.not_le.mpr h), fun _ => rfl⟩
  · refine And.intro (Or.inr (by decide)) ?_
    exact ⟨fun _ => rfl, fun g => absurd (Int32.not_lt.mp h) g⟩
set_option maxRecDepth 100000 in
set_option maxHeartbeats 1000000 in
theorem wX7_isValveSetting (X : Nat × (Nat → Int32)) (σ : XH) (w x : Int32) : wF (fX7_isValveSetting X [xI w, xI x] σ) (fun r => (gS w x → r = (.inl (some (xI 1)), σ)) ∧ (¬ gS w x → r = (.inl (some (xI 0)), σ))) := by
  have fin : ∀ (c : Prop) [Decidable c], (gS w x ↔ c) → ∀ r, r = ((.inl (some (xI (if c then 1 else 0))), σ) : XR × XH) → (gS w x → r = (.inl (some (xI 1)), σ)) ∧ (¬ gS w x → r = (.inl (some (xI 0)), σ)) := by
    rintro c _ hc r rfl
    exact ⟨fun h => by rw [if_pos (hc.mp h)], fun h => by rw [if_neg (fun q => h (hc.mpr q))]⟩
  rw [uX7_isValveSetting]
  refine wI_s (N := 99999) ?_
  refine And.intro (fun h => ?_) (fun h0 => ?_)
  · refine wF_of (eX7_within X σ _ _ _) ?_
    refine And.intro i01 ?_
    subst h
    exact fin _ (by unfold gS; simp) _ rfl
  refine And.intro (fun h => ?_) (fun h1 => ?_)
  · refine wF_of (eX7_within X σ _ _ _) ?_
    refine And.intro i01 ?_
    subst h
    exact fin _ (by unfold gS; simp) _ rfl
  refine And.intro (fun h => ?_) (fun h2 => ?_)
  · refine wF_of (eX7_within X σ _ _ _) ?_
    refine And.intro i01 ?_
    subst h
    exact fin _ (by unfold gS; simp) _ rfl
  refine And.intro (fun h => ?_) (fun h3 => ?_)
  · refine wF_of (eX7_within X σ _ _ _) ?_
    refine And.intro i01 ?_
    subst h
    exact fin _ (by unfold gS; simp) _ rfl
  refine And.intro (fun h => ?_) (fun h4 => ?_)
  · refine wF_of (eX7_within X σ _ _ _) ?_
    refine And.intro i01 ?_
    subst h
    exact fin _ (by unfold gS; simp) _ rfl
  refine And.intro (Or.inl (by decide)) ?_
  exact fin False (by unfold gS; simp [h0, h1, h2, h3, h4]) _ rfl
set_option maxRecDepth 100000 in
set_option maxHeartbeats 1000000 in
theorem wX7_isControllerSetting (X : Nat × (Nat → Int32)) (σ : XH) (w x : Int32) : wF (fX7_isControllerSetting X [xI w, xI x] σ) (fun r => (gC4 w x → r = (.inl (some (xI 1)), σ)) ∧ (¬ gC4 w x → r = (.inl (some (xI 0)), σ))) := by
  have fin : ∀ (c : Prop) [Decidable c], (gC4 w x ↔ c) → ∀ r, r = ((.inl (some (xI (if c then 1 else 0))), σ) : XR × XH) → (gC4 w x → r = (.inl (some (xI 1)), σ)) ∧ (¬ gC4 w x → r = (.inl (some (xI 0)), σ)) := by
    rintro c _ hc r rfl
    exact ⟨fun h => by rw [if_pos (hc.mp h)], fun h => by rw [if_neg (fun q => h (hc.mpr q))]⟩
  rw [uX7_isControllerSetting]
  refine wI_s (N := 99999) ?_
  refine And.intro (fun h => ?_) (fun h0 => ?_)
  · refine wF_of (eX7_within X σ _ _ _) ?_
    refine And.intro i01 ?_
    subst h
    exact fin _ (by unfold gC4; simp) _ rfl
  refine And.intro (fun h => ?_) (fun h1 => ?_)
  · refine wF_of (eX7_within X σ _ _ _) ?_
    refine And.intro i01 ?_
    subst h
    exact fin _ (by unfold gC4; simp) _ rfl
  refine And.intro (fun h => ?_) (fun h2 => ?_)
  · refine wF_of (eX7_within X σ _ _ _) ?_
    refine And.intro i01 ?_
    subst h
    exact fin _ (by unfold gC4; simp) _ rfl
  refine And.intro (fun h => ?_) (fun h3 => ?_)
  · refine wF_of (eX7_within X σ _ _ _) ?_
    refine And.intro i01 ?_
    subst h
    exact fin _ (by unfold gC4; simp) _ rfl
  refine And.intro (Or.inl (by decide)) ?_
  exact fin False (by unfold gC4; simp [h0, h1, h2, h3]) _ rfl
set_option maxRecDepth 100000 in
set_option maxHeartbeats 1000000 in
theorem eX7_refuse_y (X : Nat × (Nat → Int32)) (σ : XH) : fX7_refuseUnless X [xI 1] σ = some (.inl none, σ) := by
  rw [uX7_refuseUnless]
  refine wF_eq (wI_s (N := 99999) ?_)
  refine And.intro (fun h => absurd h (by decide)) (fun _ => ?_)
  rfl
set_option maxRecDepth 100000 in
set_option maxHeartbeats 1000000 in
theorem eX7_refuse_n (X : Nat × (Nat → Int32)) (σ : XH) : fX7_refuseUnless X [xI 0] σ = some (.inr 1, σ) := by
  rw [uX7_refuseUnless]
  refine wF_eq (wI_s (N := 99999) ?_)
  refine And.intro (fun _ => ?_) (fun h => absurd rfl h)
  rfl
set_option maxRecDepth 100000 in
set_option maxHeartbeats 1000000 in
theorem eX7_refV_y (X : Nat × (Nat → Int32)) (σ : XH) {v : Int32} (hv : 0 ≤ v ∧ v ≤ 1) : fX7_refuseUnlessValve X [xI v] σ = some (.inl none, σ) := by
  have h := eX7_isValve X σ v
  rw [if_pos hv] at h
  rw [uX7_refuseUnlessValve]
  refine wF_eq (wI_s (N := 99999) ?_)
  refine wF_of h ?_
  refine And.intro (fun h => absurd h (by decide)) (fun _ => ?_)
  rfl
set_option maxRecDepth 100000 in
set_option maxHeartbeats 1000000 in
theorem eX7_refV_n (X : Nat × (Nat → Int32)) (σ : XH) {v : Int32} (hv : ¬ (0 ≤ v ∧ v ≤ 1)) : fX7_refuseUnlessValve X [xI v] σ = some (.inr 0, σ) := by
  have h := eX7_isValve X σ v
  rw [if_neg hv] at h
  rw [uX7_refuseUnlessValve]
  refine wF_eq (wI_s (N := 99999) ?_)
  refine wF_of h ?_
  refine And.intro (fun _ => ?_) (fun h => absurd rfl h)
  rfl
/-- a valve's values, and the pair's, as they are asked for -/
def valT (V : Nat → Int32) (u : Int32) (w : Nat) : Int32 := match w with
  | 8 => demV V u
  | 16 => wearV V
  | 17 => thrV V 1
  | 18 => thrV V (-1)
  | 19 => flowV V
  | 20 => V 15
  | w => if w < 8 then V w else V (w - 1)
def prT (t : TS) (w : Nat) : Int32 := match w with
  | 6 => bothT t
  | 7 => idealT t (t.1 0)
  | w => if w < 6 then t.1 w else t.1 (w - 2)
set_option maxRecDepth 100000 in
set_option maxHeartbeats 1000000 in
theorem eX5_value_0 (X : Nat × (Nat → Int32)) (σ : XH) (k : Nat) (u : Int32) : fX5_value X [xR 4 k, xI 0, xI u] σ = some (.inl (some (xI (valT (vC σ k) u 0))), σ) := by
  rw [uX5_value]
  refine wF_eq (wI_s (N := 99999) ?_)
  refine And.intro (fun _ => ?_) (fun h => absurd rfl h)
  rfl
set_option maxRecDepth 100000 in
set_option maxHeartbeats 1000000 in
theorem eX5_value_1 (X : Nat × (Nat → Int32)) (σ : XH) (k : Nat) (u : Int32) : fX5_value X [xR 4 k, xI 1, xI u] σ = some (.inl (some (xI (valT (vC σ k) u 1))), σ) := by
  rw [uX5_value]
  refine wF_eq (wI_s (N := 99999) ?_)
  refine And.intro (fun h => absurd h (by decide)) (fun _ => ?_)
  refine And.intro (fun _ => ?_) (fun h => absurd rfl h)
  rfl
set_option maxRecDepth 100000 in
set_option maxHeartbeats 1000000 in
theorem eX5_value_2 (X : Nat × (Nat → Int32)) (σ : XH) (k : Nat) (u : Int32) : fX5_value X [xR 4 k, xI 2, xI u] σ = some (.inl (some (xI (valT (vC σ k) u 2))), σ) := by
  rw [uX5_value]
  refine wF_eq (wI_s (N := 99999) ?_)
  refine And.intro (fun h => absurd h (by decide)) (fun _ => ?_)
  refine And.intro (fun h => absurd h (by decide)) (fun _ => ?_)
  refine And.intro (fun _ => ?_) (fun h => absurd rfl h)
  rfl
set_option maxRecDepth 100000 in
set_option maxHeartbeats 1000000 in
theorem eX5_value_3 (X : Nat × (Nat → Int32)) (σ : XH) (k : Nat) (u : Int32) : fX5_value X [xR 4 k, xI 3, xI u] σ = some (.inl (some (xI (valT (vC σ k) u 3))), σ) := by
  rw [uX5_value]
  refine wF_eq (wI_s (N := 99999) ?_)
  refine And.intro (fun h => absurd h (by decide)) (fun _ => ?_)
  refine And.intro (fun h => absurd h (by decide)) (fun _ => ?_)
  refine And.intro (fun h => absurd h (by decide)) (fun _ => ?_)
  refine And.intro (fun _ => ?_) (fun h => absurd rfl h)
  rfl
set_option maxRecDepth 100000 in
set_option maxHeartbeats 1000000 in
theorem eX5_value_4 (X : Nat × (Nat → Int32)) (σ : XH) (k : Nat) (u : Int32) : fX5_value X [xR 4 k, xI 4, xI u] σ = some (.inl (some (xI (valT (vC σ k) u 4))), σ) := by
  rw [uX5_value]
  refine wF_eq (wI_s (N := 99999) ?_)
  refine And.intro (fun h => absurd h (by decide)) (fun _ => ?_)
  refine And.intro (fun h => absurd h (by decide)) (fun _ => ?_)
  refine And.intro (fun h => absurd h (by decide)) (fun _ => ?_)
  refine And.intro (fun h => absurd h (by decide)) (fun _ => ?_)
  refine And.intro (fun _ => ?_) (fun h => absurd rfl h)
  rfl
set_option maxRecDepth 100000 in
set_option maxHeartbeats 1000000 in
theorem eX5_value_5 (X : Nat × (Nat → Int32)) (σ : XH) (k : Nat) (u : Int32) : fX5_value X [xR 4 k, xI 5, xI u] σ = some (.inl (some (xI (valT (vC σ k) u 5))), σ) := by
  rw [uX5_value]
  refine wF_eq (wI_s (N := 99999) ?_)
  refine And.intro (fun h => absurd h (by decide)) (fun _ => ?_)
  refine And.intro (fun h => absurd h (by decide)) (fun _ => ?_)
  refine And.intro (fun h => absurd h (by decide)) (fun _ => ?_)
  refine And.intro (fun h => absurd h (by decide)) (fun _ => ?_)
  refine And.intro (fun h => absurd h (by decide)) (fun _ => ?_)
  refine And.intro (fun _ => ?_) (fun h => absurd rfl h)
  rfl
set_option maxRecDepth 100000 in
set_option maxHeartbeats 1000000 in
theorem eX5_value_6 (X : Nat × (Nat → Int32)) (σ : XH) (k : Nat) (u : Int32) : fX5_value X [xR 4 k, xI 6, xI u] σ = some (.inl (some (xI (valT (vC σ k) u 6))), σ) := by
  rw [uX5_value]
  refine wF_eq (wI_s (N := 99999) ?_)
  refine And.intro (fun h => absurd h (by decide)) (fun _ => ?_)
  refine And.intro (fun h => absurd h (by decide)) (fun _ => ?_)
  refine And.intro (fun h => absurd h (by decide)) (fun _ => ?_)
  refine And.intro (fun h => absurd h (by decide)) (fun _ => ?_)
  refine And.intro (fun h => absurd h (by decide)) (fun _ => ?_)
  refine And.intro (fun h => absurd h (by decide)) (fun _ => ?_)
  refine And.intro (fun _ => ?_) (fun h => absurd rfl h)
  rfl
set_option maxRecDepth 100000 in
set_option maxHeartbeats 1000000 in
theorem eX5_value_7 (X : Nat × (Nat → Int32)) (σ : XH) (k : Nat) (u : Int32) (h : vC σ k 7 = 0 ∨ vC σ k 7 = 1) : fX5_value X [xR 4 k, xI 7, xI u] σ = some (.inl (some (xI (valT (vC σ k) u 7))), σ) := by
  rw [uX5_value]
  refine wF_eq (wI_s (N := 99999) ?_)
  refine And.intro (fun h => absurd h (by decide)) (fun _ => ?_)
  refine And.intro (fun h => absurd h (by decide)) (fun _ => ?_)
  refine And.intro (fun h => absurd h (by decide)) (fun _ => ?_)
  refine And.intro (fun h => absurd h (by decide)) (fun _ => ?_)
  refine And.intro (fun h => absurd h (by decide)) (fun _ => ?_)
  refine And.intro (fun h => absurd h (by decide)) (fun _ => ?_)
  refine And.intro (fun h => absurd h (by decide)) (fun _ => ?_)
  refine And.intro (fun _ => ?_) (fun h => absurd rfl h)
  rcases h with h | h
  · refine And.intro (fun _ => ?_) (fun q => absurd h q)
    exact congrArg (fun x => ((.inl (some (xI x)), σ) : XR × XH)) h.symm
  · refine And.intro (fun q => absurd (h.symm.trans q) (by decide)) (fun _ => ?_)
    exact congrArg (fun x => ((.inl (some (xI x)), σ) : XR × XH)) h.symm
set_option maxRecDepth 100000 in
set_option maxHeartbeats 1000000 in
theorem eX5_value_8 (X : Nat × (Nat → Int32)) (σ : XH) (k : Nat) (u : Int32) (h : okV (vC σ k)) (hu : 0 ≤ u ∧ u ≤ 1000) : fX5_value X [xR 4 k, xI 8, xI u] σ = some (.inl (some (xI (valT (vC σ k) u 8))), σ) := by
  rw [uX5_value]
  refine wF_eq (wI_s (N := 99999) ?_)
  refine And.intro (fun h => absurd h (by decide)) (fun _ => ?_)
  refine And.intro (fun h => absurd h (by decide)) (fun _ => ?_)
  refine And.intro (fun h => absurd h (by decide)) (fun _ => ?_)
  refine And.intro (fun h => absurd h (by decide)) (fun _ => ?_)
  refine And.intro (fun h => absurd h (by decide)) (fun _ => ?_)
  refine And.intro (fun h => absurd h (by decide)) (fun _ => ?_)
  refine And.intro (fun h => absurd h (by decide)) (fun _ => ?_)
  refine And.intro (fun h => absurd h (by decide)) (fun _ => ?_)
  refine And.intro (fun _ => ?_) (fun h => absurd rfl h)
  refine wF_of (eX5_demandFor X σ k u h hu) ?_
  rfl
set_option maxRecDepth 100000 in
set_option maxHeartbeats 1000000 in
theorem eX5_value_9 (X : Nat × (Nat → Int32)) (σ : XH) (k : Nat) (u : Int32) : fX5_value X [xR 4 k, xI 9, xI u] σ = some (.inl (some (xI (valT (vC σ k) u 9))), σ) := by
  rw [uX5_value]
  refine wF_eq (wI_s (N := 99999) ?_)
  refine And.intro (fun h => absurd h (by decide)) (fun _ => ?_)
  refine And.intro (fun h => absurd h (by decide)) (fun _ => ?_)
  refine And.intro (fun h => absurd h (by decide)) (fun _ => ?_)
  refine And.intro (fun h => absurd h (by decide)) (fun _ => ?_)
  refine And.intro (fun h => absurd h (by decide)) (fun _ => ?_)
  refine And.intro (fun h => absurd h (by decide)) (fun _ => ?_)
  refine And.intro (fun h => absurd h (by decide)) (fun _ => ?_)
  refine And.intro (fun h => absurd h (by decide)) (fun _ => ?_)
  refine And.intro (fun h => absurd h (by decide)) (fun _ => ?_)
  refine And.intro (fun _ => ?_) (fun h => absurd rfl h)
  rfl
set_option maxRecDepth 100000 in
set_option maxHeartbeats 1000000 in
theorem eX5_value_10 (X : Nat × (Nat → Int32)) (σ : XH) (k : Nat) (u : Int32) : fX5_value X [xR 4 k, xI 10, xI u] σ = some (.inl (some (xI (valT (vC σ k) u 10))), σ) := by
  rw [uX5_value]
  refine wF_eq (wI_s (N := 99999) ?_)
  refine And.intro (fun h => absurd h (by decide)) (fun _ => ?_)
  refine And.intro (fun h => absurd h (by decide)) (fun _ => ?_)
  refine And.intro (fun h => absurd h (by decide)) (fun _ => ?_)
  refine And.intro (fun h => absurd h (by decide)) (fun _ => ?_)
  refine And.intro (fun h => absurd h (by decide)) (fun _ => ?_)
  refine And.intro (fun h => absurd h (by decide)) (fun _ => ?_)
  refine And.intro (fun h => absurd h (by decide)) (fun _ => ?_)
  refine And.intro (fun h => absurd h (by decide)) (fun _ => ?_)
  refine And.intro (fun h => absurd h (by decide)) (fun _ => ?_)
  refine And.intro (fun h => absurd h (by decide)) (fun _ => ?_)
  refine And.intro (fun _ => ?_) (fun h => absurd rfl h)
  rfl
set_option maxRecDepth 100000 in
set_option maxHeartbeats 1000000 in
theorem eX5_value_11 (X : Nat × (Nat → Int32)) (σ : XH) (k : Nat) (u : Int32) (h : vC σ k 10 = 0 ∨ vC σ k 10 = 1) : fX5_value X [xR 4 k, xI 11, xI u] σ = some (.inl (some (xI (valT (vC σ k) u 11))), σ) := by
  rw [uX5_value]
  refine wF_eq (wI_s (N := 99999) ?_)
  refine And.intro (fun h => absurd h (by decide)) (fun _ => ?_)
  refine And.intro (fun h => absurd h (by decide)) (fun _ => ?_)
  refine And.intro (fun h => absurd h (by decide)) (fun _ => ?_)
  refine And.intro (fun h => absurd h (by decide)) (fun _ => ?_)
  refine And.intro (fun h => absurd h (by decide)) (fun _ => ?_)
  refine And.intro (fun h => absurd h (by decide)) (fun _ => ?_)
  refine And.intro (fun h => absurd h (by decide)) (fun _ => ?_)
  refine And.intro (fun h => absurd h (by decide)) (fun _ => ?_)
  refine And.intro (fun h => absurd h (by decide)) (fun _ => ?_)
  refine And.intro (fun h => absurd h (by decide)) (fun _ => ?_)
  refine And.intro (fun h => absurd h (by decide)) (fun _ => ?_)
  refine And.intro (fun _ => ?_) (fun h => absurd rfl h)
  rcases h with h | h
  · refine And.intro (fun _ => ?_) (fun q => absurd h q)
    exact congrArg (fun x => ((.inl (some (xI x)), σ) : XR × XH)) h.symm
  · refine And.intro (fun q => absurd (h.symm.trans q) (by decide)) (fun _ => ?_)
    exact congrArg (fun x => ((.inl (some (xI x)), σ) : XR × XH)) h.symm
set_option maxRecDepth 100000 in
set_option maxHeartbeats 1000000 in
theorem eX5_value_12 (X : Nat × (Nat → Int32)) (σ : XH) (k : Nat) (u : Int32) : fX5_value X [xR 4 k, xI 12, xI u] σ = some (.inl (some (xI (valT (vC σ k) u 12))), σ) := by
  rw [uX5_value]
  refine wF_eq (wI_s (N := 99999) ?_)
  refine And.intro (fun h => absurd h (by decide)) (fun _ => ?_)
  refine And.intro (fun h => absurd h (by decide)) (fun _ => ?_)
  refine And.intro (fun h => absurd h (by decide)) (fun _ => ?_)
  refine And.intro (fun h => absurd h (by decide)) (fun _ => ?_)
  refine And.intro (fun h => absurd h (by decide)) (fun _ => ?_)
  refine And.intro (fun h => absurd h (by decide)) (fun _ => ?_)
  refine And.intro (fun h => absurd h (by decide)) (fun _ => ?_)
  refine And.intro (fun h => absurd h (by decide)) (fun _ => ?_)
  refine And.intro (fun h => absurd h (by decide)) (fun _ => ?_)
  refine And.intro (fun h => absurd h (by decide)) (fun _ => ?_)
  refine And.intro (fun h => absurd h (by decide)) (fun _ => ?_)
  refine And.intro (fun h => absurd h (by decide)) (fun _ => ?_)
  refine And.intro (fun _ => ?_) (fun h => absurd rfl h)
  rfl
set_option maxRecDepth 100000 in
set_option maxHeartbeats 1000000 in
theorem eX5_value_13 (X : Nat × (Nat → Int32)) (σ : XH) (k : Nat) (u : Int32) : fX5_value X [xR 4 k, xI 13, xI u] σ = some (.inl (some (xI (valT (vC σ k) u 13))), σ) := by
  rw [uX5_value]
  refine wF_eq (wI_s (N := 99999) ?_)
  refine And.intro (fun h => absurd h (by decide)) (fun _ => ?_)
  refine And.intro (fun h => absurd h (by decide)) (fun _ => ?_)
  refine And.intro (fun h => absurd h (by decide)) (fun _ => ?_)
  refine And.intro (fun h => absurd h (by decide)) (fun _ => ?_)
  refine And.intro (fun h => absurd h (by decide)) (fun _ => ?_)
  refine And.intro (fun h => absurd h (by decide)) (fun _ => ?_)
  refine And.intro (fun h => absurd h (by decide)) (fun _ => ?_)
  refine And.intro (fun h => absurd h (by decide)) (fun _ => ?_)
  refine And.intro (fun h => absurd h (by decide)) (fun _ => ?_)
  refine And.intro (fun h => absurd h (by decide)) (fun _ => ?_)
  refine And.intro (fun h => absurd h (by decide)) (fun _ => ?_)
  refine And.intro (fun h => absurd h (by decide)) (fun _ => ?_)
  refine And.intro (fun h => absurd h (by decide)) (fun _ => ?_)
  refine And.intro (fun _ => ?_) (fun h => absurd rfl h)
  rfl
set_option maxRecDepth 100000 in
set_option maxHeartbeats 1000000 in
theorem eX5_value_14 (X : Nat × (Nat → Int32)) (σ : XH) (k : Nat) (u : Int32) : fX5_value X [xR 4 k, xI 14, xI u] σ = some (.inl (some (xI (valT (vC σ k) u 14))), σ) := by
  rw [uX5_value]
  refine wF_eq (wI_s (N := 99999) ?_)
  refine And.intro (fun h => absurd h (by decide)) (fun _ => ?_)
  refine And.intro (fun h => absurd h (by decide)) (fun _ => ?_)
  refine And.intro (fun h => absurd h (by decide)) (fun _ => ?_)
  refine And.intro (fun h => absurd h (by decide)) (fun _ => ?_)
  refine And.intro (fun h => absurd h (by decide)) (fun _ => ?_)
  refine And.intro (fun h => absurd h (by decide)) (fun _ => ?_)
  refine And.intro (fun h => absurd h (by decide)) (fun _ => ?_)
  refine And.intro (fun h => absurd h (by decide)) (fun _ => ?_)
  refine And.intro (fun h => absurd h (by decide)) (fun _ => ?_)
  refine And.intro (fun h => absurd h (by decide)) (fun _ => ?_)
  refine And.intro (fun h => absurd h (by decide)) (fun _ => ?_)
  refine And.intro (fun h => absurd h (by decide)) (fun _ => ?_)
  refine And.intro (fun h => absurd h (by decide)) (fun _ => ?_)
  refine And.intro (fun h => absurd h (by decide)) (fun _ => ?_)
  refine And.intro (fun _ => ?_) (fun h => absurd rfl h)
  rfl
set_option maxRecDepth 100000 in
set_option maxHeartbeats 1000000 in
theorem eX5_value_15 (X : Nat × (Nat → Int32)) (σ : XH) (k : Nat) (u : Int32) : fX5_value X [xR 4 k, xI 15, xI u] σ = some (.inl (some (xI (valT (vC σ k) u 15))), σ) := by
  rw [uX5_value]
  refine wF_eq (wI_s (N := 99999) ?_)
  refine And.intro (fun h => absurd h (by decide)) (fun _ => ?_)
  refine And.intro (fun h => absurd h (by decide)) (fun _ => ?_)
  refine And.intro (fun h => absurd h (by decide)) (fun _ => ?_)
  refine And.intro (fun h => absurd h (by decide)) (fun _ => ?_)
  refine And.intro (fun h => absurd h (by decide)) (fun _ => ?_)
  refine And.intro (fun h => absurd h (by decide)) (fun _ => ?_)
  refine And.intro (fun h => absurd h (by decide)) (fun _ => ?_)
  refine And.intro (fun h => absurd h (by decide)) (fun _ => ?_)
  refine And.intro (fun h => absurd h (by decide)) (fun _ => ?_)
  refine And.intro (fun h => absurd h (by decide)) (fun _ => ?_)
  refine And.intro (fun h => absurd h (by decide)) (fun _ => ?_)
  refine And.intro (fun h => absurd h (by decide)) (fun _ => ?_)
  refine And.intro (fun h => absurd h (by decide)) (fun _ => ?_)
  refine And.intro (fun h => absurd h (by decide)) (fun _ => ?_)
  refine And.intro (fun h => absurd h (by decide)) (fun _ => ?_)
  refine And.intro (fun _ => ?_) (fun h => absurd rfl h)
  rfl
set_option maxRecDepth 100000 in
set_option maxHeartbeats 1000000 in
theorem eX5_value_16 (X : Nat × (Nat → Int32)) (σ : XH) (k : Nat) (u : Int32) : fX5_value X [xR 4 k, xI 16, xI u] σ = some (.inl (some (xI (valT (vC σ k) u 16))), σ) := by
  rw [uX5_value]
  refine wF_eq (wI_s (N := 99999) ?_)
  refine And.intro (fun h => absurd h (by decide)) (fun _ => ?_)
  refine And.intro (fun h => absurd h (by decide)) (fun _ => ?_)
  refine And.intro (fun h => absurd h (by decide)) (fun _ => ?_)
  refine And.intro (fun h => absurd h (by decide)) (fun _ => ?_)
  refine And.intro (fun h => absurd h (by decide)) (fun _ => ?_)
  refine And.intro (fun h => absurd h (by decide)) (fun _ => ?_)
  refine And.intro (fun h => absurd h (by decide)) (fun _ => ?_)
  refine And.intro (fun h => absurd h (by decide)) (fun _ => ?_)
  refine And.intro (fun h => absurd h (by decide)) (fun _ => ?_)
  refine And.intro (fun h => absurd h (by decide)) (fun _ => ?_)
  refine And.intro (fun h => absurd h (by decide)) (fun _ => ?_)
  refine And.intro (fun h => absurd h (by decide)) (fun _ => ?_)
  refine And.intro (fun h => absurd h (by decide)) (fun _ => ?_)
  refine And.intro (fun h => absurd h (by decide)) (fun _ => ?_)
  refine And.intro (fun h => absurd h (by decide)) (fun _ => ?_)
  refine And.intro (fun h => absurd h (by decide)) (fun _ => ?_)
  refine And.intro (fun _ => ?_) (fun h => absurd rfl h)
  refine wF_of (eX5_wear X σ k) ?_
  rfl
set_option maxRecDepth 100000 in
set_option maxHeartbeats 1000000 in
theorem eX5_value_17 (X : Nat × (Nat → Int32)) (σ : XH) (k : Nat) (u : Int32) (h : vC σ k 10 = 0 ∨ vC σ k 10 = 1) : fX5_value X [xR 4 k, xI 17, xI u] σ = some (.inl (some (xI (valT (vC σ k) u 17))), σ) := by
  rw [uX5_value]
  refine wF_eq (wI_s (N := 99999) ?_)
  refine And.intro (fun h => absurd h (by decide)) (fun _ => ?_)
  refine And.intro (fun h => absurd h (by decide)) (fun _ => ?_)
  refine And.intro (fun h => absurd h (by decide)) (fun _ => ?_)
  refine And.intro (fun h => absurd h (by decide)) (fun _ => ?_)
  refine And.intro (fun h => absurd h (by decide)) (fun _ => ?_)
  refine And.intro (fun h => absurd h (by decide)) (fun _ => ?_)
  refine And.intro (fun h => absurd h (by decide)) (fun _ => ?_)
  refine And.intro (fun h => absurd h (by decide)) (fun _ => ?_)
  refine And.intro (fun h => absurd h (by decide)) (fun _ => ?_)
  refine And.intro (fun h => absurd h (by decide)) (fun _ => ?_)
  refine And.intro (fun h => absurd h (by decide)) (fun _ => ?_)
  refine And.intro (fun h => absurd h (by decide)) (fun _ => ?_)
  refine And.intro (fun h => absurd h (by decide)) (fun _ => ?_)
  refine And.intro (fun h => absurd h (by decide)) (fun _ => ?_)
  refine And.intro (fun h => absurd h (by decide)) (fun _ => ?_)
  refine And.intro (fun h => absurd h (by decide)) (fun _ => ?_)
  refine And.intro (fun h => absurd h (by decide)) (fun _ => ?_)
  refine And.intro (fun _ => ?_) (fun h => absurd rfl h)
  refine wF_of (eX5_threshold X σ k _ h) ?_
  rfl
set_option maxRecDepth 100000 in
set_option maxHeartbeats 1000000 in
theorem eX5_value_18 (X : Nat × (Nat → Int32)) (σ : XH) (k : Nat) (u : Int32) (h : vC σ k 10 = 0 ∨ vC σ k 10 = 1) : fX5_value X [xR 4 k, xI 18, xI u] σ = some (.inl (some (xI (valT (vC σ k) u 18))), σ) := by
  rw [uX5_value]
  refine wF_eq (wI_s (N := 99999) ?_)
  refine And.intro (fun h => absurd h (by decide)) (fun _ => ?_)
  refine And.intro (fun h => absurd h (by decide)) (fun _ => ?_)
  refine And.intro (fun h => absurd h (by decide)) (fun _ => ?_)
  refine And.intro (fun h => absurd h (by decide)) (fun _ => ?_)
  refine And.intro (fun h => absurd h (by decide)) (fun _ => ?_)
  refine And.intro (fun h => absurd h (by decide)) (fun _ => ?_)
  refine And.intro (fun h => absurd h (by decide)) (fun _ => ?_)
  refine And.intro (fun h => absurd h (by decide)) (fun _ => ?_)
  refine And.intro (fun h => absurd h (by decide)) (fun _ => ?_)
  refine And.intro (fun h => absurd h (by decide)) (fun _ => ?_)
  refine And.intro (fun h => absurd h (by decide)) (fun _ => ?_)
  refine And.intro (fun h => absurd h (by decide)) (fun _ => ?_)
  refine And.intro (fun h => absurd h (by decide)) (fun _ => ?_)
  refine And.intro (fun h => absurd h (by decide)) (fun _ => ?_)
  refine And.intro (fun h => absurd h (by decide)) (fun _ => ?_)
  refine And.intro (fun h => absurd h (by decide)) (fun _ => ?_)
  refine And.intro (fun h => absurd h (by decide)) (fun _ => ?_)
  refine And.intro (fun h => absurd h (by decide)) (fun _ => ?_)
  refine And.intro (fun _ => ?_) (fun h => absurd rfl h)
  refine wF_of (eX5_threshold X σ k _ h) ?_
  rfl
set_option maxRecDepth 100000 in
set_option maxHeartbeats 1000000 in
theorem eX5_value_19 (X : Nat × (Nat → Int32)) (σ : XH) (k : Nat) (u : Int32) (h : 0 ≤ vC σ k 4 ∧ vC σ k 4 ≤ 2) : fX5_value X [xR 4 k, xI 19, xI u] σ = some (.inl (some (xI (valT (vC σ k) u 19))), σ) := by
  rw [uX5_value]
  refine wF_eq (wI_s (N := 99999) ?_)
  refine And.intro (fun h => absurd h (by decide)) (fun _ => ?_)
  refine And.intro (fun h => absurd h (by decide)) (fun _ => ?_)
  refine And.intro (fun h => absurd h (by decide)) (fun _ => ?_)
  refine And.intro (fun h => absurd h (by decide)) (fun _ => ?_)
  refine And.intro (fun h => absurd h (by decide)) (fun _ => ?_)
  refine And.intro (fun h => absurd h (by decide)) (fun _ => ?_)
  refine And.intro (fun h => absurd h (by decide)) (fun _ => ?_)
  refine And.intro (fun h => absurd h (by decide)) (fun _ => ?_)
  refine And.intro (fun h => absurd h (by decide)) (fun _ => ?_)
  refine And.intro (fun h => absurd h (by decide)) (fun _ => ?_)
  refine And.intro (fun h => absurd h (by decide)) (fun _ => ?_)
  refine And.intro (fun h => absurd h (by decide)) (fun _ => ?_)
  refine And.intro (fun h => absurd h (by decide)) (fun _ => ?_)
  refine And.intro (fun h => absurd h (by decide)) (fun _ => ?_)
  refine And.intro (fun h => absurd h (by decide)) (fun _ => ?_)
  refine And.intro (fun h => absurd h (by decide)) (fun _ => ?_)
  refine And.intro (fun h => absurd h (by decide)) (fun _ => ?_)
  refine And.intro (fun h => absurd h (by decide)) (fun _ => ?_)
  refine And.intro (fun h => absurd h (by decide)) (fun _ => ?_)
  refine And.intro (fun _ => ?_) (fun h => absurd rfl h)
  refine wF_of (eX5_flow X σ k h) ?_
  rfl
set_option maxRecDepth 100000 in
set_option maxHeartbeats 1000000 in
theorem eX5_value_20 (X : Nat × (Nat → Int32)) (σ : XH) (k : Nat) (u : Int32) : fX5_value X [xR 4 k, xI 20, xI u] σ = some (.inl (some (xI (valT (vC σ k) u 20))), σ) := by
  rw [uX5_value]
  refine wF_eq (wI_s (N := 99999) ?_)
  refine And.intro (fun h => absurd h (by decide)) (fun _ => ?_)
  refine And.intro (fun h => absurd h (by decide)) (fun _ => ?_)
  refine And.intro (fun h => absurd h (by decide)) (fun _ => ?_)
  refine And.intro (fun h => absurd h (by decide)) (fun _ => ?_)
  refine And.intro (fun h => absurd h (by decide)) (fun _ => ?_)
  refine And.intro (fun h => absurd h (by decide)) (fun _ => ?_)
  refine And.intro (fun h => absurd h (by decide)) (fun _ => ?_)
  refine And.intro (fun h => absurd h (by decide)) (fun _ => ?_)
  refine And.intro (fun h => absurd h (by decide)) (fun _ => ?_)
  refine And.intro (fun h => absurd h (by decide)) (fun _ => ?_)
  refine And.intro (fun h => absurd h (by decide)) (fun _ => ?_)
  refine And.intro (fun h => absurd h (by decide)) (fun _ => ?_)
  refine And.intro (fun h => absurd h (by decide)) (fun _ => ?_)
  refine And.intro (fun h => absurd h (by decide)) (fun _ => ?_)
  refine And.intro (fun h => absurd h (by decide)) (fun _ => ?_)
  refine And.intro (fun h => absurd h (by decide)) (fun _ => ?_)
  refine And.intro (fun h => absurd h (by decide)) (fun _ => ?_)
  refine And.intro (fun h => absurd h (by decide)) (fun _ => ?_)
  refine And.intro (fun h => absurd h (by decide)) (fun _ => ?_)
  refine And.intro (fun h => absurd h (by decide)) (fun _ => ?_)
  rfl
theorem eX5_value (X : Nat × (Nat → Int32)) (σ : XH) (k : Nat) (u : Int32) (h : okV (vC σ k)) (hu : 0 ≤ u ∧ u ≤ 1000) : ∀ w, w ≤ 20 → fX5_value X [xR 4 k, xI (oN w), xI u] σ = some (.inl (some (xI (valT (vC σ k) u w))), σ)
  | 0, _ => eX5_value_0 X σ k u
  | 1, _ => eX5_value_1 X σ k u
  | 2, _ => eX5_value_2 X σ k u
  | 3, _ => eX5_value_3 X σ k u
  | 4, _ => eX5_value_4 X σ k u
  | 5, _ => eX5_value_5 X σ k u
  | 6, _ => eX5_value_6 X σ k u
  | 7, _ => eX5_value_7 X σ k u h.2.2.2.1
  | 8, _ => eX5_value_8 X σ k u h hu
  | 9, _ => eX5_value_9 X σ k u
  | 10, _ => eX5_value_10 X σ k u
  | 11, _ => eX5_value_11 X σ k u h.2.2.2.2.2
  | 12, _ => eX5_value_12 X σ k u
  | 13, _ => eX5_value_13 X σ k u
  | 14, _ => eX5_value_14 X σ k u
  | 15, _ => eX5_value_15 X σ k u
  | 16, _ => eX5_value_16 X σ k u
  | 17, _ => eX5_value_17 X σ k u h.2.2.2.2.2
  | 18, _ => eX5_value_18 X σ k u h.2.2.2.2.2
  | 19, _ => eX5_value_19 X σ k u h.2.1
  | 20, _ => eX5_value_20 X σ k u
  | n + 21, q => absurd q (by omega)
set_option maxRecDepth 100000 in
set_option maxHeartbeats 1000000 in
theorem eX4_value_0 (X : Nat × (Nat → Int32)) (σ : XH) (j : Nat) : fX4_value X [xR 3 j, xI 0] σ = some (.inl (some (xI (prT (cTS σ j) 0))), σ) := by
  rw [uX4_value]
  refine wF_eq (wI_s (N := 99999) ?_)
  refine And.intro (fun _ => ?_) (fun h => absurd rfl h)
  rfl
set_option maxRecDepth 100000 in
set_option maxHeartbeats 1000000 in
theorem eX4_value_1 (X : Nat × (Nat → Int32)) (σ : XH) (j : Nat) : fX4_value X [xR 3 j, xI 1] σ = some (.inl (some (xI (prT (cTS σ j) 1))), σ) := by
  rw [uX4_value]
  refine wF_eq (wI_s (N := 99999) ?_)
  refine And.intro (fun h => absurd h (by decide)) (fun _ => ?_)
  refine And.intro (fun _ => ?_) (fun h => absurd rfl h)
  rfl
set_option maxRecDepth 100000 in
set_option maxHeartbeats 1000000 in
theorem eX4_value_2 (X : Nat × (Nat → Int32)) (σ : XH) (j : Nat) : fX4_value X [xR 3 j, xI 2] σ = some (.inl (some (xI (prT (cTS σ j) 2))), σ) := by
  rw [uX4_value]
  refine wF_eq (wI_s (N := 99999) ?_)
  refine And.intro (fun h => absurd h (by decide)) (fun _ => ?_)
  refine And.intro (fun h => absurd h (by decide)) (fun _ => ?_)
  refine And.intro (fun _ => ?_) (fun h => absurd rfl h)
  rfl
set_option maxRecDepth 100000 in
set_option maxHeartbeats 1000000 in
theorem eX4_value_3 (X : Nat × (Nat → Int32)) (σ : XH) (j : Nat) : fX4_value X [xR 3 j, xI 3] σ = some (.inl (some (xI (prT (cTS σ j) 3))), σ) := by
  rw [uX4_value]
  refine wF_eq (wI_s (N := 99999) ?_)
  refine And.intro (fun h => absurd h (by decide)) (fun _ => ?_)
  refine And.intro (fun h => absurd h (by decide)) (fun _ => ?_)
  refine And.intro (fun h => absurd h (by decide)) (fun _ => ?_)
  refine And.intro (fun _ => ?_) (fun h => absurd rfl h)
  rfl
set_option maxRecDepth 100000 in
set_option maxHeartbeats 1000000 in
theorem eX4_value_4 (X : Nat × (Nat → Int32)) (σ : XH) (j : Nat) : fX4_value X [xR 3 j, xI 4] σ = some (.inl (some (xI (prT (cTS σ j) 4))), σ) := by
  rw [uX4_value]
  refine wF_eq (wI_s (N := 99999) ?_)
  refine And.intro (fun h => absurd h (by decide)) (fun _ => ?_)
  refine And.intro (fun h => absurd h (by decide)) (fun _ => ?_)
  refine And.intro (fun h => absurd h (by decide)) (fun _ => ?_)
  refine And.intro (fun h => absurd h (by decide)) (fun _ => ?_)
  refine And.intro (fun _ => ?_) (fun h => absurd rfl h)
  rfl
set_option maxRecDepth 100000 in
set_option maxHeartbeats 1000000 in
theorem eX4_value_5 (X : Nat × (Nat → Int32)) (σ : XH) (j : Nat) : fX4_value X [xR 3 j, xI 5] σ = some (.inl (some (xI (prT (cTS σ j) 5))), σ) := by
  rw [uX4_value]
  refine wF_eq (wI_s (N := 99999) ?_)
  refine And.intro (fun h => absurd h (by decide)) (fun _ => ?_)
  refine And.intro (fun h => absurd h (by decide)) (fun _ => ?_)
  refine And.intro (fun h => absurd h (by decide)) (fun _ => ?_)
  refine And.intro (fun h => absurd h (by decide)) (fun _ => ?_)
  refine And.intro (fun h => absurd h (by decide)) (fun _ => ?_)
  refine And.intro (fun _ => ?_) (fun h => absurd rfl h)
  rfl
set_option maxRecDepth 100000 in
set_option maxHeartbeats 1000000 in
theorem eX4_value_6 (X : Nat × (Nat → Int32)) (σ : XH) (j : Nat) (h : okT (cTS σ j)) : fX4_value X [xR 3 j, xI 6] σ = some (.inl (some (xI (prT (cTS σ j) 6))), σ) := by
  rw [uX4_value]
  refine wF_eq (wI_s (N := 99999) ?_)
  refine And.intro (fun h => absurd h (by decide)) (fun _ => ?_)
  refine And.intro (fun h => absurd h (by decide)) (fun _ => ?_)
  refine And.intro (fun h => absurd h (by decide)) (fun _ => ?_)
  refine And.intro (fun h => absurd h (by decide)) (fun _ => ?_)
  refine And.intro (fun h => absurd h (by decide)) (fun _ => ?_)
  refine And.intro (fun h => absurd h (by decide)) (fun _ => ?_)
  refine And.intro (fun _ => ?_) (fun h => absurd rfl h)
  refine wF_of (eX4_flow X σ j h.1 h.2.1) ?_
  rfl
set_option maxRecDepth 100000 in
set_option maxHeartbeats 1000000 in
theorem eX4_value_7 (X : Nat × (Nat → Int32)) (σ : XH) (j : Nat) (h : okT (cTS σ j)) : fX4_value X [xR 3 j, xI 7] σ = some (.inl (some (xI (prT (cTS σ j) 7))), σ) := by
  rw [uX4_value]
  refine wF_eq (wI_s (N := 99999) ?_)
  refine And.intro (fun h => absurd h (by decide)) (fun _ => ?_)
  refine And.intro (fun h => absurd h (by decide)) (fun _ => ?_)
  refine And.intro (fun h => absurd h (by decide)) (fun _ => ?_)
  refine And.intro (fun h => absurd h (by decide)) (fun _ => ?_)
  refine And.intro (fun h => absurd h (by decide)) (fun _ => ?_)
  refine And.intro (fun h => absurd h (by decide)) (fun _ => ?_)
  refine And.intro (fun h => absurd h (by decide)) (fun _ => ?_)
  refine And.intro (fun _ => ?_) (fun h => absurd rfl h)
  refine wF_of (eX4_idealFor X σ j _ h.1 h.2.1 h.2.2.1) ?_
  rfl
set_option maxRecDepth 100000 in
set_option maxHeartbeats 1000000 in
theorem eX4_value_8 (X : Nat × (Nat → Int32)) (σ : XH) (j : Nat) : fX4_value X [xR 3 j, xI 8] σ = some (.inl (some (xI (prT (cTS σ j) 8))), σ) := by
  rw [uX4_value]
  refine wF_eq (wI_s (N := 99999) ?_)
  refine And.intro (fun h => absurd h (by decide)) (fun _ => ?_)
  refine And.intro (fun h => absurd h (by decide)) (fun _ => ?_)
  refine And.intro (fun h => absurd h (by decide)) (fun _ => ?_)
  refine And.intro (fun h => absurd h (by decide)) (fun _ => ?_)
  refine And.intro (fun h => absurd h (by decide)) (fun _ => ?_)
  refine And.intro (fun h => absurd h (by decide)) (fun _ => ?_)
  refine And.intro (fun h => absurd h (by decide)) (fun _ => ?_)
  refine And.intro (fun h => absurd h (by decide)) (fun _ => ?_)
  refine And.intro (fun _ => ?_) (fun h => absurd rfl h)
  rfl
set_option maxRecDepth 100000 in
set_option maxHeartbeats 1000000 in
theorem eX4_value_9 (X : Nat × (Nat → Int32)) (σ : XH) (j : Nat) : fX4_value X [xR 3 j, xI 9] σ = some (.inl (some (xI (prT (cTS σ j) 9))), σ) := by
  rw [uX4_value]
  refine wF_eq (wI_s (N := 99999) ?_)
  refine And.intro (fun h => absurd h (by decide)) (fun _ => ?_)
  refine And.intro (fun h => absurd h (by decide)) (fun _ => ?_)
  refine And.intro (fun h => absurd h (by decide)) (fun _ => ?_)
  refine And.intro (fun h => absurd h (by decide)) (fun _ => ?_)
  refine And.intro (fun h => absurd h (by decide)) (fun _ => ?_)
  refine And.intro (fun h => absurd h (by decide)) (fun _ => ?_)
  refine And.intro (fun h => absurd h (by decide)) (fun _ => ?_)
  refine And.intro (fun h => absurd h (by decide)) (fun _ => ?_)
  refine And.intro (fun h => absurd h (by decide)) (fun _ => ?_)
  refine And.intro (fun _ => ?_) (fun h => absurd rfl h)
  rfl
set_option maxRecDepth 100000 in
set_option maxHeartbeats 1000000 in
theorem eX4_value_10 (X : Nat × (Nat → Int32)) (σ : XH) (j : Nat) : fX4_value X [xR 3 j, xI 10] σ = some (.inl (some (xI (prT (cTS σ j) 10))), σ) := by
  rw [uX4_value]
  refine wF_eq (wI_s (N := 99999) ?_)
  refine And.intro (fun h => absurd h (by decide)) (fun _ => ?_)
  refine And.intro (fun h => absurd h (by decide)) (fun _ => ?_)
  refine And.intro (fun h => absurd h (by decide)) (fun _ => ?_)
  refine And.intro (fun h => absurd h (by decide)) (fun _ => ?_)
  refine And.intro (fun h => absurd h (by decide)) (fun _ => ?_)
  refine And.intro (fun h => absurd h (by decide)) (fun _ => ?_)
  refine And.intro (fun h => absurd h (by decide)) (fun _ => ?_)
  refine And.intro (fun h => absurd h (by decide)) (fun _ => ?_)
  refine And.intro (fun h => absurd h (by decide)) (fun _ => ?_)
  refine And.intro (fun h => absurd h (by decide)) (fun _ => ?_)
  refine And.intro (fun _ => ?_) (fun h => absurd rfl h)
  rfl
set_option maxRecDepth 100000 in
set_option maxHeartbeats 1000000 in
theorem eX4_value_11 (X : Nat × (Nat → Int32)) (σ : XH) (j : Nat) : fX4_value X [xR 3 j, xI 11] σ = some (.inl (some (xI (prT (cTS σ j) 11))), σ) := by
  rw [uX4_value]
  refine wF_eq (wI_s (N := 99999) ?_)
  refine And.intro (fun h => absurd h (by decide)) (fun _ => ?_)
  refine And.intro (fun h => absurd h (by decide)) (fun _ => ?_)
  refine And.intro (fun h => absurd h (by decide)) (fun _ => ?_)
  refine And.intro (fun h => absurd h (by decide)) (fun _ => ?_)
  refine And.intro (fun h => absurd h (by decide)) (fun _ => ?_)
  refine And.intro (fun h => absurd h (by decide)) (fun _ => ?_)
  refine And.intro (fun h => absurd h (by decide)) (fun _ => ?_)
  refine And.intro (fun h => absurd h (by decide)) (fun _ => ?_)
  refine And.intro (fun h => absurd h (by decide)) (fun _ => ?_)
  refine And.intro (fun h => absurd h (by decide)) (fun _ => ?_)
  refine And.intro (fun h => absurd h (by decide)) (fun _ => ?_)
  rfl
theorem eX4_value (X : Nat × (Nat → Int32)) (σ : XH) (j : Nat) (h : okT (cTS σ j)) : ∀ w, w ≤ 11 → fX4_value X [xR 3 j, xI (oN w)] σ = some (.inl (some (xI (prT (cTS σ j) w))), σ)
  | 0, _ => eX4_value_0 X σ j
  | 1, _ => eX4_value_1 X σ j
  | 2, _ => eX4_value_2 X σ j
  | 3, _ => eX4_value_3 X σ j
  | 4, _ => eX4_value_4 X σ j
  | 5, _ => eX4_value_5 X σ j
  | 6, _ => eX4_value_6 X σ j h
  | 7, _ => eX4_value_7 X σ j h
  | 8, _ => eX4_value_8 X σ j
  | 9, _ => eX4_value_9 X σ j
  | 10, _ => eX4_value_10 X σ j
  | 11, _ => eX4_value_11 X σ j
  | n + 12, q => absurd q (by omega)

