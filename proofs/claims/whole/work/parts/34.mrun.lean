/-! ===== the reference's runs, and its settings as they are called ===== -/
abbrev xRn (X : Nat × (Nat → Int32)) (N pc : Nat) (lv : XL) (σ : XH) : Option (XR × XH) := xIter X (xEnv (nX8_runs X)) (fun _ _ => some none) 0 [(35, [0, 1, 2])] tX8_runs N (pc, lv, σ, 0)
set_option maxRecDepth 100000 in
set_option maxHeartbeats 1000000 in
theorem lX8_runs (X : Nat × (Nat → Int32)) (σ : XH) (n : Nat) (hn : n ≤ 500) (h : okT (mTS σ)) : ∀ (m k N : Nat) (τ : XH), k + m = n → mTS τ = itT (mTS σ) k → τ.1 7 0 9 = cnT (mTS σ) k → NF σ τ → wF (xRn X (N + m + 1) 35 [(0, xR 7 0), (1, xI (oN n)), (2, xI (oN k))] τ) (wOK σ (cnT (mTS σ) n) (itT (mTS σ) n)) := by
  intro m
  induction m with
  | zero =>
    intro k N τ hk h1 h2 h3
    have : k = n := by omega
    subst this
    refine wI_s (N := N + 0) ?_
    refine And.intro (fun _ => ?_) (fun h => absurd (Int32.le_refl _) h)
    exact ⟨τ, rfl, h2, h1, h3⟩
  | succ m ih =>
    intro k N τ hk h1 h2 h3
    have hok : okT (mTS τ) := by
      rw [h1]
      exact okT_it h k
    obtain ⟨r, a1, σ1, rfl, a2, a3⟩ := wX8_tick X τ hok
    have next : ∀ x, x = cnT (mTS σ) (k + 1) → wF (xRn X (N + (m + 1)) 35 [(0, xR 7 0), (1, xI (oN n)), (2, xI (oN k + 1))] (xuI σ1 7 0 9 x)) (wOK σ (cnT (mTS σ) n) (itT (mTS σ) n)) := by
      rintro x rfl
      rw [oN_1]
      refine ih (k + 1) N _ (by omega) ?_ ?_ ((h3.tr (NF.pm a3)).tr (NF.u7 (by decide) (by decide)))
      · rw [mTS_u7, a2, h1]
        rfl
      · rw [xu_eq, if_pos rfl]
    refine wI_s (N := N + (m + 1)) ?_
    refine And.intro (fun q => ?_) (fun _ => ?_)
    · have q : oN n ≤ oN k := q
      rw [oN_le (by omega) (by omega)] at q
      omega
    by_cases hm : mvT (mTS τ)
    · rw [if_pos hm] at a1
      refine wF_of a1 ?_
      refine And.intro (fun h => absurd h (by decide)) (fun _ => ?_)
      refine next _ ?_
      show τ.1 7 0 9 + 1 = cnT (mTS σ) k + (if mvT (itT (mTS σ) k) then 1 else 0)
      rw [h2, ← h1, if_pos hm]
    · rw [if_neg hm] at a1
      refine wF_of a1 ?_
      refine And.intro (fun _ => ?_) (fun h => absurd rfl h)
      refine next _ ?_
      show τ.1 7 0 9 + 0 = cnT (mTS σ) k + (if mvT (itT (mTS σ) k) then 1 else 0)
      rw [h2, ← h1, if_neg hm]
set_option maxRecDepth 100000 in
set_option maxHeartbeats 1000000 in
theorem wX8_runs (X : Nat × (Nat → Int32)) (σ : XH) (n : Nat) (h1 : 1 ≤ n) (hn : n ≤ 500) (h : okT (mTS σ)) (ht : (mTS σ).1 5 + oN n ≤ 200000) : wF (fX8_runs X [xR 7 0, xI (oN n)] σ) (wOK σ (cnT (mTS σ) n) (itT (mTS σ) n)) := by
  have hl := lX8_runs X σ n hn h n 0 (99998 - n) (xuI σ 7 0 9 0) (by omega) mTS_u7 (by rw [xu_eq, if_pos rfl]; rfl) (NF.u7 (by decide) (by decide))
  rw [show 99998 - n + n + 1 = 99999 by omega] at hl
  rw [uX8_runs]
  refine wI_s (N := 99999) ?_
  refine wF_of (iX8_y X σ ⟨(oN_le (a := 1) (by decide) (by omega)).mpr h1, (oN_le (b := 500) (by omega) (by decide)).mpr hn⟩) ?_
  refine And.intro (fun h => absurd h (by decide)) (fun _ => ?_)
  refine And.intro (by decide) ?_
  refine And.intro (fun _ => ?_) (fun h => absurd ht h)
  exact hl
set_option maxRecDepth 100000 in
set_option maxHeartbeats 1000000 in
theorem wX8_runs_r (X : Nat × (Nat → Int32)) (σ : XH) (n : Int32) (hn : ¬ (1 ≤ n ∧ n ≤ 500)) : fX8_runs X [xR 7 0, xI n] σ = some (.inl (some (xI 2)), σ) := by
  rw [uX8_runs]
  refine wF_eq (wI_s (N := 99999) ?_)
  refine wF_of (iX8_n X σ hn) ?_
  refine And.intro (fun _ => ?_) (fun h => absurd rfl h)
  rfl
set_option maxRecDepth 100000 in
set_option maxHeartbeats 1000000 in
theorem wX8_runs_t (X : Nat × (Nat → Int32)) (σ : XH) (n : Int32) (hn : 1 ≤ n ∧ n ≤ 500) (ht : ¬ (mTS σ).1 5 + n ≤ 200000) : fX8_runs X [xR 7 0, xI n] σ = some (.inl (some (xI 3)), σ) := by
  rw [uX8_runs]
  refine wF_eq (wI_s (N := 99999) ?_)
  refine wF_of (iX8_y X σ hn) ?_
  refine And.intro (fun h => absurd h (by decide)) (fun _ => ?_)
  refine And.intro (by decide) ?_
  refine And.intro (fun h => absurd h ht) (fun _ => ?_)
  rfl
