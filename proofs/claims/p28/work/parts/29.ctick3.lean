/-! ===== pure words of the class (out of the proof of whole, by wip/p28/gen/prune.py) ===== -/
set_option maxRecDepth 100000 in
set_option maxHeartbeats 1000000 in
theorem wX4_tick (X : Nat × (Nat → Int32)) (σ : XH) (j : Nat) (h : okT (cTS σ j)) : wF (fX4_tick X [xR 3 j] σ) (fun r => ∃ σ', r = (.inl (some (xI (if mvT (cTS σ j) then 1 else 0))), σ') ∧ cTS σ' j = tickT (cTS σ j) ∧ xFr (PT j) σ σ') := by
  rw [uX4_tick]
  refine wI_s (N := 99999) ?_
  have hc := okT_ctl h
  have main : ∀ (σ1 : XH), cTS σ1 j = ctlT (cTS σ j) → xFr (PT j) σ σ1 → wF (xIter X (xEnv (nX4_tick X)) (fun _ _ => some none) 1 [(20, [0, 1, 2])] tX4_tick 99999 (20, [(0, xR 3 j), (1, xI 0), (2, xI (oN 0))], σ1, 0)) (fun r => ∃ σ', r = (.inl (some (xI (if mvT (cTS σ j) then 1 else 0))), σ') ∧ cTS σ' j = tickT (cTS σ j) ∧ xFr (PT j) σ σ') := by
    intro σ1 e f
    refine wI_s (N := 99998) ?_
    refine sX4_tick_20 X _ j 0 (by decide) 0 σ1 (by rw [e]; exact hc) ?_
    intro σ2 e2 f2
    rw [e] at e2 ⊢
    refine wI_s (N := 99997) ?_
    have h2 := okT_bodC hc (v := 0) (by decide)
    refine sX4_tick_20 X _ j 1 (by decide) _ σ2 (by rw [e2]; exact h2) ?_
    intro σ3 e3 f3
    rw [e2] at e3 ⊢
    have h3 := okT_bodC h2 (v := 1) (by decide)
    rw [← e3] at h3
    have b1 : byT (bodC (ctlT (cTS σ j)) 0) 1 = byT (ctlT (cTS σ j)) 1 := rfl
    rw [b1]
    have hm : (if (if (0 : Int32) = 0 ∧ byT (ctlT (cTS σ j)) 0 = 0 then (0 : Int32) else 1) = 0 ∧ byT (ctlT (cTS σ j)) 1 = 0 then (0 : Int32) else 1) = (if mvT (cTS σ j) then 1 else 0) := by
      by_cases c0 : byT (ctlT (cTS σ j)) 0 = 0 <;> by_cases c1 : byT (ctlT (cTS σ j)) 1 = 0 <;> simp [c0, c1]
    rw [hm]
    have hm01 : (if mvT (cTS σ j) then (1 : Int32) else 0) = 0 ∨ (if mvT (cTS σ j) then (1 : Int32) else 0) = 1 := by
      split
      · exact Or.inr rfl
      · exact Or.inl rfl
    refine wI_s (N := 99996) ?_
    have e9 : ∀ x, cTS (xuI σ3 3 j 9 x) j = (updF (cTS σ3 j).1 6 x, (cTS σ3 j).2) := fun x => cTS_g (w := 6) (by decide)
    have o1 : okV (vC (xuI σ3 3 j 9 (σ3.1 3 j 9 + bothT (cTS σ3 j))) (2 * j)) := by
      rw [vC_ne (fun q => absurd q.1 (by decide))]
      exact h3.1
    have o2 : okV (vC (xuI σ3 3 j 9 (σ3.1 3 j 9 + bothT (cTS σ3 j))) (2 * j + 1)) := by
      rw [vC_ne (fun q => absurd q.1 (by decide))]
      exact h3.2.1
    have hid := eX4_idealFor X (xuI σ3 3 j 9 (σ3.1 3 j 9 + bothT (cTS σ3 j))) j (σ3.1 3 j 3) o1 o2 h3.2.2.1
    rw [e9] at hid
    refine And.intro (fun _ => ?_) (fun h => absurd (by decide) h)
    refine wF_of (eX4_flow X σ3 j h3.1 h3.2.1) ?_
    refine wF_of hid ?_
    refine wF_of (eJ9_abs X _ _) ?_
    refine And.intro hm01 ?_
    have fin : ∀ (x y z : Int32), x = σ3.1 3 j 9 + bothT (cTS σ3 j) → y = σ3.1 3 j 10 + abI (bothT (cTS σ3 j) - idealT (cTS σ3 j) (σ3.1 3 j 3)) → z = σ3.1 3 j 8 + 1 → (∃ σ', ((.inl (some (xI (if mvT (cTS σ j) then 1 else 0))), xuI (xuI (xuI σ3 3 j 9 x) 3 j 10 y) 3 j 8 z) : XR × XH) = (.inl (some (xI (if mvT (cTS σ j) then 1 else 0))), σ') ∧ cTS σ' j = tickT (cTS σ j) ∧ xFr (PT j) σ σ') := by
      rintro x y z rfl rfl rfl
      refine ⟨_, rfl, ?_, ((((f.tr f2).tr f3).tr (xFr.u (Or.inl ⟨rfl, rfl⟩))).tr (xFr.u (Or.inl ⟨rfl, rfl⟩))).tr (xFr.u (Or.inl ⟨rfl, rfl⟩))⟩
      have m8 : ∀ (τ : XH) (x : Int32), cTS (xuI τ 3 j 8 x) j = _ := fun τ x => cTS_g (w := 5) (by decide)
      have m10 : ∀ (τ : XH) (x : Int32), cTS (xuI τ 3 j 10 x) j = _ := fun τ x => cTS_g (w := 7) (by decide)
      rw [m8, m10, e9]
      have g8 : σ3.1 3 j 8 = (cTS σ3 j).1 5 := rfl
      have g9 : σ3.1 3 j 9 = (cTS σ3 j).1 6 := rfl
      have g10 : σ3.1 3 j 10 = (cTS σ3 j).1 7 := rfl
      have g3 : σ3.1 3 j 3 = (cTS σ3 j).1 0 := rfl
      rw [g8, g9, g10, g3, e3]
      exact bodC_eq hc
    refine fin _ _ _ rfl ?_ ?_
    · rw [xu_eq, if_neg (by decide)]
      rfl
    · rw [xu_eq, if_neg (by decide), xu_eq, if_neg (by decide)]
      rfl
  refine And.intro (fun h1 => ?_) (fun h1 => ?_)
  · refine wF_of (eX4_flow X σ j h.1 h.2.1) ?_
    refine wF_of (eX4_steer X σ j h.2.2.2.2.1) ?_
    refine main _ ?_ (xFr.u (Or.inl ⟨rfl, rfl⟩))
    have m3 : ∀ (τ : XH) (x : Int32), cTS (xuI τ 3 j 3 x) j = _ := fun τ x => cTS_g (w := 0) (by decide)
    rw [m3]
    exact (if_pos h1).symm
  · refine main _ ?_ xFr.rf
    exact (if_neg h1).symm

