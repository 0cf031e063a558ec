/-! ===== starts; class and law stand alike behind it (written by wip/p28/gen/world.py) ===== -/
/-- the law's numbers behind starts -/
def tV0 (v : Nat) : Nat → Int32
  | 0 => 1000 | 1 => 10 | 2 => 20 | 3 => 100 | 5 => 500 * oN v | 6 => 500 + 500 * oN v | _ => 0
def tG0 : Nat → Int32
  | 2 => 100 | 4 => 1000 | _ => 0
def tS0 : TS := (tG0, tV0 0, tV0 1, fun _ => 0)
abbrev sStp : List (Nat × List Nat) := [(13, [1, 2])]
theorem lTS_0 : lTS xH0 = (fun _ => 0, fun _ => 0, fun _ => 0, fun _ => 0) := by
  refine Prod.ext (funext fun i => ?_) (Prod.ext (funext fun i => ?_) (Prod.ext (funext fun i => ?_) (funext fun i => ?_)))
  all_goals
    simp only [lTS, trF]
    split <;> rfl
set_option maxRecDepth 100000 in
set_option maxHeartbeats 600000 in
theorem lL_starts_13 (X : Nat × (Nat → Int32)) (R : XR × XH → Prop) (F v : Nat) (hv : v < 2) (σ : XH) (hR : ∀ σ', lTS σ' = setV (lTS σ) v (updF (updF (updF (updF (updF (updF (vT (lTS σ) v) 0 1000) 1 10) 2 20) 3 100) 5 (500 * oN v)) 6 (500 + 500 * oN v)) → xFr PL σ σ' → wF (xIter X (xEnv (nL_starts X)) (fun _ _ => some none) 4 sStp tL_starts F (13, [(1, xR 9 3), (2, xI (oN (v + 1)))], σ', 0)) R) : wF (xIter X (xEnv (nL_starts X)) (fun _ _ => some none) 4 sStp tL_starts (F + 1) (13, [(1, xR 9 3), (2, xI (oN v))], σ, 0)) R := by
  have y0 : (Int32.ofInt 16 * oN v).toNatClampNeg = 16 * v + 0 := by
    rw [show Int32.ofInt 16 * oN v = oN (16 * v) from oN_mul 16 v]
    exact oN_nat (by omega)
  have z0 : 0 ≤ Int32.ofInt 16 * oN v ∧ (Int32.ofInt 16 * oN v).toNatClampNeg < 32 := by
    rw [show Int32.ofInt 16 * oN v = oN (16 * v) from oN_mul 16 v]
    exact ⟨oN_nn (by omega), by rw [oN_nat (by omega)]; omega⟩
  have y1 : (Int32.ofInt 16 * oN v + Int32.ofInt 1).toNatClampNeg = 16 * v + 1 := iyE hv (k := 1) (by decide)
  have y2 : (Int32.ofInt 16 * oN v + Int32.ofInt 2).toNatClampNeg = 16 * v + 2 := iyE hv (k := 2) (by decide)
  have y3 : (Int32.ofInt 16 * oN v + Int32.ofInt 3).toNatClampNeg = 16 * v + 3 := iyE hv (k := 3) (by decide)
  have y5 : (Int32.ofInt 16 * oN v + Int32.ofInt 5).toNatClampNeg = 16 * v + 5 := iyE hv (k := 5) (by decide)
  have y6 : (Int32.ofInt 16 * oN v + Int32.ofInt 6).toNatClampNeg = 16 * v + 6 := iyE hv (k := 6) (by decide)
  have hR2 : ∀ σ', lTS σ' = setV (lTS σ) v (updF (updF (updF (updF (updF (updF (vT (lTS σ) v) 0 1000) 1 10) 2 20) 3 100) 5 (500 * oN v)) 6 (500 + 500 * oN v)) → xFr PL σ σ' → wF (xIter X (xEnv (nL_starts X)) (fun _ _ => some none) 4 sStp tL_starts F (13, [(1, xR 9 3), (2, xI (oN v + Int32.ofInt 1))], σ', 0)) R := by
    have := hR
    rw [← oN_1] at this
    exact this
  refine wI_s (N := F) ?_
  refine And.intro (fun q => ?_) (fun _ => ?_)
  · have q : oN 2 ≤ oN v := q
    rw [oN_le (by decide) (by omega)] at q
    omega
  refine And.intro (bE z0) ?_
  refine And.intro (bE (ixE hv (k := 1) (by decide))) ?_
  refine And.intro (bE (ixE hv (k := 2) (by decide))) ?_
  refine And.intro (bE (ixE hv (k := 3) (by decide))) ?_
  refine And.intro (bE (ixE hv (k := 5) (by decide))) ?_
  refine And.intro (bE (ixE hv (k := 6) (by decide))) ?_
  refine hR2 _ ?_ ?_
  · rw [y0, y1, y2, y3, y5, y6, lTS_ev hv (by decide), lTS_ev hv (by decide), lTS_ev hv (by decide), lTS_ev hv (by decide), lTS_ev hv (by decide), lTS_ev hv (by decide)]
    simp only [vT_set hv, setV_set hv]
    rfl
  · exact (((((xFr.u ⟨rfl, by decide⟩).tr (xFr.u ⟨rfl, by decide⟩)).tr (xFr.u ⟨rfl, by decide⟩)).tr (xFr.u ⟨rfl, by decide⟩)).tr (xFr.u ⟨rfl, by decide⟩)).tr (xFr.u ⟨rfl, by decide⟩)
set_option maxRecDepth 100000 in
set_option maxHeartbeats 600000 in
theorem wL_starts (X : Nat × (Nat → Int32)) : wF (fL_starts X [xR 9 2, xR 9 3] xH0) (fun r => ∃ σ', r = (.inl none, σ') ∧ lTS σ' = tS0 ∧ xFr PL xH0 σ') := by
  rw [uL_starts]
  refine wI_s (N := 99999) ?_
  refine And.intro (bG (by decide)) ?_
  refine And.intro (bG (by decide)) ?_
  have main : ∀ τ, lTS τ = (updF (updF (fun _ => 0) 2 100) 4 1000, fun _ => 0, fun _ => 0, fun _ => 0) → xFr PL xH0 τ → wF (xIter X (xEnv (nL_starts X)) (fun _ _ => some none) 4 sStp tL_starts 99999 (13, [(1, xR 9 3), (2, xI (oN 0))], τ, 0)) (fun r => ∃ σ', r = (.inl none, σ') ∧ lTS σ' = tS0 ∧ xFr PL xH0 σ') := by
    intro τ t1 f1
    refine lL_starts_13 X _ 99998 0 (by decide) τ (fun σ1 t2 f2 => ?_)
    refine lL_starts_13 X _ 99997 1 (by decide) σ1 (fun σ2 t3 f3 => ?_)
    refine wI_s (N := 99996) ?_
    refine And.intro (fun _ => ?_) (fun q => absurd (by decide) q)
    refine ⟨σ2, rfl, ?_, (f1.tr f2).tr f3⟩
    rw [t3, t2, t1]
    refine Prod.ext (funext fun i => ?_) (Prod.ext (funext fun i => ?_) (Prod.ext (funext fun i => ?_) rfl))
    · show updF (updF (fun _ => 0) 2 100) 4 1000 i = tG0 i
      unfold updF tG0
      rcases i with _ | _ | _ | _ | _ | i <;> first | rfl | (rw [if_neg (by omega), if_neg (by omega)])
    · show updF (updF (updF (updF (updF (updF (fun _ => 0) 0 1000) 1 10) 2 20) 3 100) 5 (500 * oN 0)) 6 (500 + 500 * oN 0) i = tV0 0 i
      unfold updF tV0
      rcases i with _ | _ | _ | _ | _ | _ | _ | i <;> first | rfl | (rw [if_neg (by omega), if_neg (by omega), if_neg (by omega), if_neg (by omega), if_neg (by omega), if_neg (by omega)])
    · show updF (updF (updF (updF (updF (updF (fun _ => 0) 0 1000) 1 10) 2 20) 3 100) 5 (500 * oN 1)) 6 (500 + 500 * oN 1) i = tV0 1 i
      unfold updF tV0
      rcases i with _ | _ | _ | _ | _ | _ | _ | i <;> first | rfl | (rw [if_neg (by omega), if_neg (by omega), if_neg (by omega), if_neg (by omega), if_neg (by omega), if_neg (by omega)])
  refine main _ ?_ ?_
  · show lTS (xuI (xuI xH0 9 2 2 100) 9 2 4 1000) = _
    rw [lTS_g (by decide), lTS_g (by decide), lTS_0]
  · exact (xFr.u ⟨rfl, by decide⟩).tr (xFr.u ⟨rfl, by decide⟩)
set_option maxRecDepth 100000 in
theorem yJ_1 : ∀ i, i < 10 → gC xH0 0 i = tG0 i := by decide +kernel
set_option maxRecDepth 100000 in
theorem yJ_2 : ∀ i, i < 16 → xH0.1 4 0 (pmV i) = tV0 0 i ∧ xH0.1 4 1 (pmV i) = tV0 1 i := by decide +kernel
theorem trF_g {n : Nat} {f g : Nat → Int32} (h : ∀ i, i < n → f i = g i) (h2 : ∀ i, n ≤ i → g i = 0) : trF n f = g := funext fun i => by
  unfold trF
  split
  · exact h i ‹_›
  · exact (h2 i (by omega)).symm
theorem tV0_hi (v i : Nat) (h : 16 ≤ i) : tV0 v i = 0 := by
  obtain ⟨k, rfl⟩ : ∃ k, i = k + 7 := ⟨i - 7, by omega⟩
  rfl
theorem tG0_hi (i : Nat) (h : 10 ≤ i) : tG0 i = 0 := by
  obtain ⟨k, rfl⟩ : ∃ k, i = k + 5 := ⟨i - 5, by omega⟩
  rfl
theorem cTS_0' : cTS xH0 0 = tS0 := by
  refine Prod.ext (trF_g yJ_1 tG0_hi) (Prod.ext (trF_g (fun i hi => (yJ_2 i hi).1) (tV0_hi 0)) (Prod.ext (trF_g (fun i hi => (yJ_2 i hi).2) (tV0_hi 1)) (trF_g (fun i hi => rfl) (fun i hi => rfl))))
theorem tS0_U : ∀ v, v < 2 → okU 0 (tV0 v) := by
  intro v hv
  rcases (by omega : v = 0 ∨ v = 1) with rfl | rfl
  · exact ⟨⟨by decide, by decide, by decide, by decide, by decide, by decide⟩, by decide, by decide, by decide, by decide, by decide, by decide⟩
  · exact ⟨⟨by decide, by decide, by decide, by decide, by decide, by decide⟩, by decide, by decide, by decide, by decide, by decide, by decide⟩
theorem tS0_W : okW tS0 := by
  have hn : entN tS0 = 0 := rfl
  refine ⟨⟨⟨(tS0_U 0 (by decide)).1, (tS0_U 1 (by decide)).1, by decide, by decide, by decide, ⟨0, by omega, rfl⟩, fun i k h1 h2 => ?_⟩, by decide⟩, tS0_U 0 (by decide), tS0_U 1 (by decide)⟩
  rw [hn] at h2
  omega
theorem JJ_0 {σ : XH} (h1 : lTS σ = tS0) (h2 : xFr PL xH0 σ) : JJ 0 σ := by
  have hq := xFq.of h2
  have hS : CSt xH0 (fun _ => tS0) 0 := ⟨by omega, rfl, 0, by omega, rfl, fun i hi => absurd hi (by omega)⟩
  exact ⟨fun _ => tS0, 0, (fq_c hq 0).trans (cTS_0'.trans h1.symm), by rw [h1]; exact tS0_W, fq_S hq hS, 0, Nat.le_refl _, by rw [h1]; rfl⟩
theorem JJ_HH {B : Nat} {σ : XH} (h : JJ B σ) : HH σ := by
  obtain ⟨S, m, h1, h2, -⟩ := h
  exact ⟨h1, h2⟩
