/-! ===== pure words of the class (out of the proof of whole, by wip/p28/gen/prune.py) ===== -/
set_option maxRecDepth 100000 in
set_option maxHeartbeats 1000000 in
theorem sX4_tick_20 (X : Nat × (Nat → Int32)) (Q : XO → Prop) (j v : Nat) (hv : v < 2) (m : Int32) (σ : XH) (h : okT (cTS σ j)) (hQ : ∀ σ', cTS σ' j = bodC (cTS σ j) v → xFr (PT j) σ σ' → Q (.inr (20, [(0, xR 3 j), (1, xI (if m = 0 ∧ byT (cTS σ j) v = 0 then 0 else 1)), (2, xI (oN (v + 1)))], σ', 0))) : xCk X Q 1000 20 [(0, xR 3 j), (1, xI m), (2, xI (oN v))] [] σ := by
  have hv2 : v = 0 ∨ v = 1 := by omega
  have hV : vC σ (2 * j + v) = vT (cTS σ j) v := by
    rcases hv2 with rfl | rfl <;> rfl
  have hok : okV (vC σ (2 * j + v)) := by
    rw [hV]
    rcases hv2 with rfl | rfl
    · exact h.1
    · exact h.2.1
  have hn := okT_n h
  have hu : 0 ≤ σ.1 3 j 3 ∧ σ.1 3 j 3 ≤ 1000 := h.2.2.1
  have hd := dem_rng hok (σ.1 3 j 3)
  have hb : moveV (vC σ (2 * j + v)) (demV (vC σ (2 * j + v)) (σ.1 3 j 3)) = byT (cTS σ j) v := by
    rw [hV]
    rfl
  have hmv := eX5_moveTowards X σ (2 * j + v) _ hok hd
  rw [hb] at hmv
  obtain ⟨r, g1, σ1, rfl, g2, g3⟩ := wX5_shift X σ (2 * j + v) (byT (cTS σ j) v)
  have hok1 : okV (vC σ1 (2 * j + v)) := by
    rw [g2, ← hb]
    exact okV_shift hok hd
  have e1 : cTS σ1 j = setV (cTS σ j) v (shiftV (vT (cTS σ j) v) (byT (cTS σ j) v)) := by
    rw [cTS_V hv g3, g2, hV]
  have g2' : vC σ1 (2 * j + v) = shiftV (vT (cTS σ j) v) (byT (cTS σ j) v) := by rw [g2, hV]
  have c9 : (cTS σ1 j).1 = (cTS σ j).1 := by rw [e1, setV_1]
  have n2 : σ1.1 0 j 1 = oN (entN (cTS σ j)) := by
    rw [← hn.1, ← c9]
    rfl
  have bL2 : bL σ1 j = (cTS σ j).2.2.2 := bL_fr g3 (fun q => absurd q.1 (by decide))
  have hl0 : σ1.1 4 (2 * j + v) 8 = 0 → flowV (vC σ1 (2 * j + v)) = lkV (vC σ1 (2 * j + v)) := fun h0 => (if_pos h0).symm
  have hl1 : ¬ σ1.1 4 (2 * j + v) 8 = 0 → Int32.ofInt 0 = lkV (vC σ1 (2 * j + v)) := fun h0 => (show Int32.ofInt 0 = 0 from rfl).trans (if_neg h0).symm
  have hfl := eX5_flow X σ1 (2 * j + v) hok1.2.1
  have tail : ∀ (n : Nat) (l : Int32), l = lkV (vC σ1 (2 * j + v)) → xCk X Q (n + 100) 68 [(5, xI (turnV (vC σ (2 * j + v)) (byT (cTS σ j) v))), (4, xI (byT (cTS σ j) v)), (3, xR 4 (2 * j + v)), (0, xR 3 j), (1, xI m), (2, xI (oN v))] [xI l] σ1 := by
    intro n l hl
    refine sX4_tick_68 X Q n j (2 * j + v) v (entN (cTS σ j)) m l _ _ σ1 hn.2 n2 (by rw [bL2]; exact h.2.2.2.2.2.2) (fun σ3 e3 f3 => hQ σ3 ?_ (xFr.tr (g3.mono (fun c i q => Or.inr (Or.inl ⟨q.1, ?_⟩))) f3))
    · rw [e3, bL2, c9, hl, g2', e1, hV, updF_98, bodC_M hv]
      generalize shiftV (vT (cTS σ j) v) (byT (cTS σ j) v) = V
      generalize ledL _ _ _ _ _ _ _ = E
      rcases hv2 with rfl | rfl <;> rfl
    · have := q.2
      omega
  have tail0 : ∀ (n : Nat), Int32.ofInt 0 = lkV (vC σ1 (2 * j + v)) → xCk X Q (n + 100) 67 [(5, xI (turnV (vC σ (2 * j + v)) (byT (cTS σ j) v))), (4, xI (byT (cTS σ j) v)), (3, xR 4 (2 * j + v)), (0, xR 3 j), (1, xI m), (2, xI (oN v))] [] σ1 := by
    intro n hl
    refine sX4_tick_67 X Q n j (2 * j + v) v (entN (cTS σ j)) m _ _ σ1 hn.2 n2 (by rw [bL2]; exact h.2.2.2.2.2.2) (fun σ3 e3 f3 => hQ σ3 ?_ (xFr.tr (g3.mono (fun c i q => Or.inr (Or.inl ⟨q.1, ?_⟩))) f3))
    · rw [e3, bL2, c9, hl, g2', e1, hV, updF_98, bodC_M hv]
      generalize shiftV (vT (cTS σ j) v) (byT (cTS σ j) v) = V
      generalize ledL _ _ _ _ _ _ _ = E
      rcases hv2 with rfl | rfl <;> rfl
    · have := q.2
      omega
  clear g2 g2' g3 e1 c9 n2 bL2 hQ
  refine And.intro (fun q => ?_) (fun _ => ?_)
  · have q : oN 2 ≤ oN v := q
    rw [oN_le (by omega) (by omega)] at q
    omega
  refine wF_of (eX4_at X σ j v hv) ?_
  refine wF_of (eX5_demandFor X σ (2 * j + v) (σ.1 3 j 3) hok hu) ?_
  refine wF_of hmv ?_
  refine wF_of g1 ?_
  refine And.intro (fun h0 => ?_) (fun h0 => ?_)
  · refine wF_of hfl ?_
    exact tail _ _ (hl0 h0)
  · exact tail0 _ (hl1 h0)

