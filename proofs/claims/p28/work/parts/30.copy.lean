/-! ===== pure words of the class (out of the proof of whole, by wip/p28/gen/prune.py) ===== -/
set_option maxRecDepth 100000 in
set_option maxHeartbeats 1000000 in
theorem wX5_copy (X : Nat × (Nat → Int32)) (σ : XH) (k0 k1 : Nat) (hne : k1 ≠ k0) (h7 : vC σ k1 7 = 0 ∨ vC σ k1 7 = 1) (h10 : vC σ k1 10 = 0 ∨ vC σ k1 10 = 1) : wF (fX5_copy X [xR 4 k0, xR 4 k1] σ) (fun r => ∃ σ', r = (.inl none, σ') ∧ vC σ' k0 = vC σ k1 ∧ xFr (PV k0) σ σ') := by
  have h9 : ¬ (4 = 4 ∧ k1 = k0) := fun q => hne q.2
  rw [uX5_copy]
  refine wI_s (N := 99999) ?_
  refine And.intro ?_ ?_
  · dsimp only
    rw [xu_ne h9, xu_ne h9]
    exact h7
  refine And.intro ?_ ?_
  · dsimp only
    rw [xu_ne h9, xu_ne h9, xu_ne h9, xu_ne h9, xu_ne h9, xu_ne h9, xu_ne h9, xu_ne h9, xu_ne h9, xu_ne h9]
    exact h10
  refine ⟨_, rfl, ?_, ?_⟩
  · dsimp only
    funext w
    unfold vC trF
    by_cases hw : w < 16
    · rw [if_pos hw, if_pos hw]
      dsimp only
      have hi : w = 0 ∨ w = 1 ∨ w = 2 ∨ w = 3 ∨ w = 4 ∨ w = 5 ∨ w = 6 ∨ w = 7 ∨ w = 8 ∨ w = 9 ∨ w = 10 ∨ w = 11 ∨ w = 12 ∨ w = 13 ∨ w = 14 ∨ w = 15 := by omega
      rcases hi with h | h | h | h | h | h | h | h | h | h | h | h | h | h | h | h <;> subst h <;> simp [pmV, xu_eq, xu_ne h9]
    · rw [if_neg hw, if_neg hw]
  · dsimp only
    refine ⟨fun c j i hp => ?_, rfl⟩
    have hp2 : ¬ (c = 4 ∧ j = k0) := hp
    simp only [xu_ne hp2]
set_option maxRecDepth 100000 in
set_option maxHeartbeats 1000000 in
theorem wX1_copy (X : Nat × (Nat → Int32)) (σ : XH) (j0 j1 : Nat) (hne : j1 ≠ j0) : wF (fX1_copy X [xR 0 j0, xR 0 j1] σ) (fun r => ∃ σ', r = (.inl none, σ') ∧ bL σ' j0 = bL σ j1 ∧ σ'.1 0 j0 1 = σ.1 0 j1 1 ∧ xFr (PB j0) σ σ') := by
  rw [uX1_copy]
  refine wI_s (N := 99999) ?_
  refine And.intro (by decide) ?_
  refine ⟨_, rfl, ?_, ?_, ?_⟩
  · rw [bL_ne (fun q => absurd q.1 (by decide))]
    funext i
    unfold bL trF xCpy va_cpy
    dsimp only
    split
    · rw [if_pos rfl, if_pos rfl, if_pos]
      · have e : (Int32.ofInt 0).toNatClampNeg = 0 := rfl
        rw [e, Nat.zero_add, Nat.sub_zero]
      · refine ⟨Nat.zero_le _, ?_⟩
        show i < 0 + 60
        omega
    · rfl
  · rw [xu_eq, if_pos rfl]
    rfl
  · refine xFr.tr (b := xCpy σ j1 j0 0 0 60) ⟨fun c j' i hp => ?_, rfl⟩ (xFr.u ⟨Or.inr rfl, rfl⟩)
    unfold xCpy
    dsimp only
    split
    · split
      · rename_i h4 h5
        exact absurd ⟨Or.inl h4, h5⟩ hp
      · rfl
    · rfl
set_option maxRecDepth 100000 in
set_option maxHeartbeats 1000000 in
theorem wX4_copy (X : Nat × (Nat → Int32)) (σ : XH) (j0 j1 : Nat) (hne : j1 ≠ j0) (h : okT (cTS σ j1)) : wF (fX4_copy X [xR 3 j0, xR 3 j1] σ) (fun r => ∃ σ', r = (.inl none, σ') ∧ cTS σ' j0 = cTS σ j1 ∧ xFr (PT j0) σ σ') := by
  obtain ⟨r, a1, σ1, rfl, a2, a3⟩ := wX5_copy X σ (2 * j0) (2 * j1) (by omega) h.1.2.2.2.1 h.1.2.2.2.2.2
  have hB : vC σ1 (2 * j1 + 1) = vC σ (2 * j1 + 1) := vC_fr a3 (fun q => absurd q.2 (by omega))
  obtain ⟨r, b1, σ2, rfl, b2, b3⟩ := wX5_copy X σ1 (2 * j0 + 1) (2 * j1 + 1) (by omega) (by rw [hB]; exact h.2.1.2.2.2.1) (by rw [hB]; exact h.2.1.2.2.2.2.2)
  obtain ⟨r, c1, σ3, rfl, c2, c3, c4⟩ := wX1_copy X σ2 j0 j1 hne
  rw [uX4_copy]
  refine wI_s (N := 99999) ?_
  refine wF_of a1 ?_
  refine wF_of b1 ?_
  refine wF_of c1 ?_
  refine ⟨_, rfl, ?_, ?_⟩
  · dsimp only
    have h9 : ¬ (3 = 3 ∧ j1 = j0) := fun q => hne q.2
    refine Prod.ext (funext fun i => ?_) (Prod.ext ?_ (Prod.ext ?_ ?_))
    · show trF 10 (gC _ j0) i = trF 10 (gC σ j1) i
      unfold trF
      by_cases hi : i < 10
      · rw [if_pos hi, if_pos hi]
        have s3 : ∀ i, σ3.1 3 j1 i = σ.1 3 j1 i := fun i => ((c4.1 _ _ _ (by unfold PB; omega)).trans (b3.1 _ _ _ (by unfold PV; omega))).trans (a3.1 _ _ _ (by unfold PV; omega))
        have s0 : σ2.1 0 j1 1 = σ.1 0 j1 1 := (b3.1 _ _ _ (by unfold PV; omega)).trans (a3.1 _ _ _ (by unfold PV; omega))
        have hc : i = 0 ∨ i = 1 ∨ i = 2 ∨ i = 3 ∨ i = 4 ∨ i = 5 ∨ i = 6 ∨ i = 7 ∨ i = 8 ∨ i = 9 := by omega
        have r0 : ∀ (τ : XH) (i : Nat) (x : Int32), (xuI τ 3 j0 i x).1 0 j0 1 = τ.1 0 j0 1 := fun _ _ _ => xu_ne (fun q => absurd q.1 (by decide))
        rcases hc with e | e | e | e | e | e | e | e | e | e <;> subst e <;> simp [gC, xu_eq, xu_ne h9, r0, s3, s0, c3]
      · rw [if_neg hi, if_neg hi]
    · have n4 : ∀ (τ : XH) (i : Nat) (x : Int32), vC (xuI τ 3 j0 i x) (2 * j0) = vC τ (2 * j0) := fun _ _ _ => vC_ne (fun q => absurd q.1 (by decide))
      show vC _ (2 * j0) = vC σ (2 * j1)
      simp only [n4]
      rw [vC_fr c4 (by unfold PB; omega), vC_fr b3 (by unfold PV; omega), a2]
    · have n4 : ∀ (τ : XH) (i : Nat) (x : Int32), vC (xuI τ 3 j0 i x) (2 * j0 + 1) = vC τ (2 * j0 + 1) := fun _ _ _ => vC_ne (fun q => absurd q.1 (by decide))
      show vC _ (2 * j0 + 1) = vC σ (2 * j1 + 1)
      simp only [n4]
      rw [vC_fr c4 (by unfold PB; omega), b2, hB]
    · have n4 : ∀ (τ : XH) (i : Nat) (x : Int32), bL (xuI τ 3 j0 i x) j0 = bL τ j0 := fun _ _ _ => bL_ne (fun q => absurd q.1 (by decide))
      show bL _ j0 = bL σ j1
      simp only [n4]
      rw [c2, bL_fr b3 (by unfold PV; omega), bL_fr a3 (by unfold PV; omega)]
  · dsimp only
    refine xFr.tr (a3.mono (fun c i q => Or.inr (Or.inl ⟨q.1, Or.inl q.2⟩))) (xFr.tr (b3.mono (fun c i q => Or.inr (Or.inl ⟨q.1, Or.inr q.2⟩))) (xFr.tr (c4.mono (fun c i q => Or.inr (Or.inr q))) ?_))
    refine ⟨fun c j i hp => ?_, rfl⟩
    have hp2 : ¬ (c = 3 ∧ j = j0) := fun q => hp (Or.inl q)
    simp only [xu_ne hp2]

