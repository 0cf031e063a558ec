/-! ===== what isSo computes (written by wip/p28/gen/isso2.py) ===== -/
def HH (σ : XH) : Prop := cTS σ 0 = lTS σ ∧ okW (lTS σ)
section IV
variable {X : Nat × (Nat → Int32)} {σ : XH}
theorem vP (h : HH σ) (w : Nat) (hw : w ≤ 11) : fL_pairOf X [xR 6 0, xI (oN w)] σ = some (.inl (some (xI (prT (lTS σ) w))), σ) := by
  have e := wX7_pair X σ w (by rw [h.1]; exact h.2.1.1) hw
  rw [h.1] at e
  exact (wL_pairOf X σ (oN w)).1 _ _ e
theorem vV (h : HH σ) {v : Nat} (hv : v < 2) (w : Nat) (hw : w ≤ 20) : fL_valveOf X [xR 6 0, xI (oN v), xI (oN w)] σ = some (.inl (some (xI (valT (vT (lTS σ) v) ((lTS σ).1 0) w))), σ) := by
  have e := wX7_valve X σ v w (by rw [h.1]; exact h.2.1.1) hv hw
  rw [h.1] at e
  exact (wL_valveOf X σ (oN v) (oN w)).1 _ _ e
theorem vS (h : HH σ) {v : Nat} (hv : v < 2) (w : Nat) (hw : 2 ≤ w ∧ w ≤ 4) : fL_sumOf X [xR 6 0, xI (oN v), xI (oN w)] σ = some (.inl (some (xI (sumL (lTS σ).2.2.2 (oN v) w (entN (lTS σ))))), σ) := by
  have e := wX7_ledgerSum X σ v w (by rw [h.1]; exact h.2.1.1) hv hw
  rw [h.1] at e
  exact (wL_sumOf X σ (oN v) (oN w)).1 _ _ e
theorem vLd (h : HH σ) (e w : Nat) (he : e < 2 ^ 31) (hw : w ≤ 4) : fL_ledgerOf X [xR 6 0, xI (oN e), xI (oN w)] σ = some (.inl (some (xI (ledT (lTS σ) e w))), σ) := by
  have q := wX7_ledger X σ e w (by rw [h.1]; exact h.2.1.1) he hw
  rw [h.1] at q
  exact (wL_ledgerOf X σ (oN e) (oN w)).1 _ _ q
end IV
theorem val_lo {V : Nat → Int32} {u : Int32} {k : Nat} (h : k < 8) : valT V u k = V k := by
  rcases (by omega : k = 0 ∨ k = 1 ∨ k = 2 ∨ k = 3 ∨ k = 4 ∨ k = 5 ∨ k = 6 ∨ k = 7) with rfl | rfl | rfl | rfl | rfl | rfl | rfl | rfl <;> rfl
theorem val_hi {V : Nat → Int32} {u : Int32} {k : Nat} (h : 8 ≤ k) (h2 : k < 15) : valT V u (k + 1) = V k := by
  rcases (by omega : k = 8 ∨ k = 9 ∨ k = 10 ∨ k = 11 ∨ k = 12 ∨ k = 13 ∨ k = 14) with rfl | rfl | rfl | rfl | rfl | rfl | rfl <;> rfl
theorem pr_lo {t : TS} {k : Nat} (h : k < 6) : prT t k = t.1 k := by
  rcases (by omega : k = 0 ∨ k = 1 ∨ k = 2 ∨ k = 3 ∨ k = 4 ∨ k = 5) with rfl | rfl | rfl | rfl | rfl | rfl <;> rfl
theorem pr_hi {t : TS} {k : Nat} (h : 6 ≤ k) (h2 : k < 10) : prT t (k + 2) = t.1 k := by
  rcases (by omega : k = 6 ∨ k = 7 ∨ k = 8 ∨ k = 9) with rfl | rfl | rfl | rfl <;> rfl
set_option maxRecDepth 100000 in
set_option maxHeartbeats 600000 in
theorem sL_isSo_0 (X : Nat × (Nat → Int32)) (σ : XH) (h : HH σ) : wExec X (xEnv (nL_isSo X)) (fun _ _ => some none) 1 [(36, [0, 1, 2, 3])] tIA (fun out => out = .inr (36, iLv0, σ, 298)) 1000 (xPc tIA 0) iLv0 [] σ 300 := by
  refine wF_of (vP (X := X) h 6 (by decide)) ?_
  refine wF_of (eL_flow (X := X) (v := 0) (by decide) h.2.2.1) ?_
  refine wF_of (eL_flow (X := X) (v := 1) (by decide) h.2.2.2) ?_
  refine And.intro (fun _ => ?_) (fun g => absurd rfl g)
  refine wF_of (vP (X := X) h 7 (by decide)) ?_
  refine And.intro (bG (by decide)) ?_
  refine wF_of (eL_ideal X σ ((lTS σ).1 0) h.2.2.1.1 h.2.2.2.1) ?_
  refine And.intro (fun _ => ?_) (fun g => absurd rfl g)
  rfl
abbrev xIr (X : Nat × (Nat → Int32)) (F pc : Nat) (lv : XL) (σ : XH) (b : Nat) : Option (XR × XH) := xIter X (xEnv (nL_isSo X)) (fun _ _ => some none) 1 iStp tIB F (pc, lv, σ, b)
abbrev iLv (rest : XL) : XL := [(0, xR 6 0), (1, xR 9 2), (2, xR 9 3), (3, xR 9 4), (4, xI 1)] ++ rest
set_option maxRecDepth 100000 in
set_option maxHeartbeats 600000 in
theorem lL_isSo_76 (X : Nat × (Nat → Int32)) (σ : XH) (h : HH σ) (K D : Nat) (R : XR × XH → Prop) (hc : ∀ F, K ≤ F → wF (xIr X F 76 (iLv [(5, xI (oN 10))]) σ D) R) : ∀ (m k F : Nat), k + m = 10 → K + m ≤ F → wF (xIr X F 76 (iLv [(5, xI (oN k))]) σ (D + m)) R := by
  intro m
  induction m with
  | zero =>
    intro k F hk hF
    have : k = 10 := by omega
    subst this
    exact hc F hF
  | succ m ih =>
    intro k F hk hF
    obtain ⟨F, rfl⟩ : ∃ F', F = F' + 1 := ⟨F - 1, by omega⟩
    have next : wF (xIr X F 76 (iLv [(5, xI (oN k + Int32.ofInt 1))]) σ (D + m)) R := by
      have q := ih (k + 1) F (by omega) (by omega)
      rw [← oN_1] at q
      exact q
    have zk : 0 ≤ oN k ∧ (oN k).toNatClampNeg < 10 := ⟨oN_nn (by omega), by rw [oN_nat (by omega)]; omega⟩
    have yk : (oN k).toNatClampNeg = k := oN_nat (by omega)
    refine wI_s (N := F) ?_
    refine And.intro (fun q => ?_) (fun _ => ?_)
    · have q : oN 10 ≤ oN k := q
      rw [oN_le (by decide) (by omega)] at q
      omega
    refine And.intro (fun q => absurd q (by decide)) (fun _ => ?_)
    refine And.intro (fun q => ?_) (fun q => ?_)
    · have q : oN 6 ≤ oN k := q
      rw [oN_le (by decide) (by omega)] at q
      have e := vP (X := X) h (k + 2) (by omega)
      rw [← oN_add, pr_hi q (by omega)] at e
      refine wF_of e ?_
      refine And.intro (bG zk) ?_
      refine And.intro (fun _ => next) (fun g => absurd ?_ g)
      rw [yk]
      exact (gL_at (by omega)).symm
    · have q : ¬ oN 6 ≤ oN k := q
      rw [oN_le (by decide) (by omega)] at q
      have e := vP (X := X) h k (by omega)
      rw [pr_lo (by omega)] at e
      refine wF_of e ?_
      refine And.intro (bG zk) ?_
      refine And.intro (fun _ => next) (fun g => absurd ?_ g)
      rw [yk]
      exact (gL_at (by omega)).symm
set_option maxRecDepth 100000 in
set_option maxHeartbeats 600000 in
theorem lL_isSo_145 (X : Nat × (Nat → Int32)) (σ : XH) (h : HH σ) (v : Nat) (hv : v < 2) (K D : Nat) (R : XR × XH → Prop) (hc : ∀ F, K ≤ F → wF (xIr X F 145 (iLv [(5, xI (oN v)), (6, xI (oN 15))]) σ D) R) : ∀ (m k F : Nat), k + m = 15 → K + m ≤ F → wF (xIr X F 145 (iLv [(5, xI (oN v)), (6, xI (oN k))]) σ (D + 2 * m)) R := by
  intro m
  induction m with
  | zero =>
    intro k F hk hF
    have : k = 15 := by omega
    subst this
    exact hc F hF
  | succ m ih =>
    intro k F hk hF
    obtain ⟨F, rfl⟩ : ∃ F', F = F' + 1 := ⟨F - 1, by omega⟩
    rw [show D + 2 * (m + 1) = D + 2 * m + 2 by omega]
    have next : wF (xIr X F 145 (iLv [(5, xI (oN v)), (6, xI (oN k + Int32.ofInt 1))]) σ (D + 2 * m)) R := by
      have q := ih (k + 1) F (by omega) (by omega)
      rw [← oN_1] at q
      exact q
    have yk : (Int32.ofInt 16 * oN v + oN k).toNatClampNeg = 16 * v + k := iyE hv (by omega)
    refine wI_s (N := F) ?_
    refine And.intro (fun q => ?_) (fun _ => ?_)
    · have q : oN 15 ≤ oN k := q
      rw [oN_le (by decide) (by omega)] at q
      omega
    refine And.intro (fun q => absurd q (by decide)) (fun _ => ?_)
    refine And.intro (fun q => ?_) (fun q => ?_)
    · have q : oN 8 ≤ oN k := q
      rw [oN_le (by decide) (by omega)] at q
      have e := vV (X := X) h hv (k + 1) (by omega)
      rw [← oN_1, val_hi q (by omega)] at e
      refine wF_of e ?_
      refine And.intro (bE (ixE hv (k := k) (by omega))) ?_
      refine And.intro (fun _ => next) (fun g => absurd ?_ g)
      rw [yk]
      exact (eV_at hv (by omega)).symm
    · have q : ¬ oN 8 ≤ oN k := q
      rw [oN_le (by decide) (by omega)] at q
      have e := vV (X := X) h hv k (by omega)
      rw [val_lo (by omega)] at e
      refine wF_of e ?_
      refine And.intro (bE (ixE hv (k := k) (by omega))) ?_
      refine And.intro (fun _ => next) (fun g => absurd ?_ g)
      rw [yk]
      exact (eV_at hv (by omega)).symm
set_option maxRecDepth 100000 in
set_option maxHeartbeats 600000 in
theorem sL_isSo_205 (X : Nat × (Nat → Int32)) (σ : XH) (h : HH σ) (v : Nat) (hv : v < 2) (D F : Nat) (R : XR × XH → Prop) (hc : wF (xIr X F 331 (iLv [(5, xI (oN v)), (6, xI (oN 2))]) σ D) R) : wF (xIr X (F + 1) 145 (iLv [(5, xI (oN v)), (6, xI (oN 15))]) σ (D + 12)) R := by
  have hu := okW_v h.2 hv
  refine wI_s (N := F) ?_
  refine And.intro (fun _ => ?_) (fun q => absurd (by decide) q)
  refine And.intro (fun q => absurd q (by decide)) (fun _ => ?_)
  refine wF_of (vV (X := X) h hv 8 (by decide)) ?_
  refine And.intro (bG (by decide)) ?_
  refine wF_of (eL_demand (X := X) hv (u := (lTS σ).1 0) hu) ?_
  refine And.intro (fun _ => ?_) (fun g => absurd rfl g)
  refine wF_of (vV (X := X) h hv 16 (by decide)) ?_
  refine wF_of (eL_wear (X := X) hv) ?_
  refine And.intro (fun _ => ?_) (fun g => absurd rfl g)
  refine wF_of (vV (X := X) h hv 17 (by decide)) ?_
  refine wF_of (eL_hurdle (X := X) hv (w := 1) (Or.inl rfl) hu) ?_
  refine And.intro (fun _ => ?_) (fun g => absurd rfl g)
  refine wF_of (vV (X := X) h hv 18 (by decide)) ?_
  refine wF_of (eL_hurdle (X := X) hv (w := -1) (Or.inr rfl) hu) ?_
  refine And.intro (fun _ => ?_) (fun g => absurd rfl g)
  refine wF_of (vV (X := X) h hv 19 (by decide)) ?_
  refine wF_of (eL_flow (X := X) hv hu) ?_
  refine And.intro (fun _ => ?_) (fun g => absurd rfl g)
  refine wF_of (vV (X := X) h hv 20 (by decide)) ?_
  refine And.intro (bE (ixE hv (k := 15) (by decide))) ?_
  refine And.intro (fun _ => ?_) (fun g => absurd ?_ g)
  · exact hc
  · have y15 : (Int32.ofInt 16 * oN v + Int32.ofInt 15).toNatClampNeg = 16 * v + 15 := iyE hv (k := 15) (by decide)
    rw [y15]
    exact (eV_at hv (by decide)).symm
set_option maxRecDepth 100000 in
set_option maxHeartbeats 600000 in
theorem lL_isSo_343 (X : Nat × (Nat → Int32)) (σ : XH) (h : HH σ) (v w : Nat) (hv : v < 2) (hw : w ≤ 4) (K D : Nat) (R : XR × XH → Prop) (hc : ∀ F, K ≤ F → wF (xIr X F 343 (iLv [(5, xI (oN v)), (6, xI (oN w)), (7, xI (sumL (lTS σ).2.2.2 (oN v) w (entN (lTS σ)))), (8, xI (oN (entN (lTS σ))))]) σ D) R) : ∀ (m k F : Nat), k + m = entN (lTS σ) → K + m ≤ F → wF (xIr X F 343 (iLv [(5, xI (oN v)), (6, xI (oN w)), (7, xI (sumL (lTS σ).2.2.2 (oN v) w k)), (8, xI (oN k))]) σ D) R := by
  obtain ⟨he, hn⟩ := okT_n h.2.1.1
  intro m
  induction m with
  | zero =>
    intro k F hk hF
    have : k = entN (lTS σ) := by omega
    subst this
    exact hc F hF
  | succ m ih =>
    intro k F hk hF
    obtain ⟨F, rfl⟩ : ∃ F', F = F' + 1 := ⟨F - 1, by omega⟩
    have next : ∀ x, x = sumL (lTS σ).2.2.2 (oN v) w (k + 1) → wF (xIr X F 343 (iLv [(5, xI (oN v)), (6, xI (oN w)), (7, xI x), (8, xI (oN k + Int32.ofInt 1))]) σ D) R := by
      rintro x rfl
      have q := ih (k + 1) F (by omega) (by omega)
      rw [← oN_1] at q
      exact q
    have e5 : Int32.ofInt 5 * oN k = oN (5 * k) := i5m
    have z0 : 0 ≤ Int32.ofInt 5 * oN k ∧ (Int32.ofInt 5 * oN k).toNatClampNeg < 60 := by
      rw [e5]
      exact ⟨oN_nn (by omega), by rw [oN_nat (by omega)]; omega⟩
    have y0 : (Int32.ofInt 5 * oN k).toNatClampNeg = 5 * k := by
      rw [e5]
      exact oN_nat (by omega)
    have zw : 0 ≤ Int32.ofInt 5 * oN k + oN w ∧ (Int32.ofInt 5 * oN k + oN w).toNatClampNeg < 60 := by
      rw [e5]
      exact aix (m := 60) _ w rfl (by omega) (by decide)
    have yw : (Int32.ofInt 5 * oN k + oN w).toNatClampNeg = 5 * k + w := by
      rw [e5]
      exact aixn _ w rfl (by omega)
    refine wI_s (N := F) ?_
    refine And.intro (bG (by decide)) ?_
    refine And.intro (fun q => ?_) (fun _ => ?_)
    · have q : (lTS σ).1 9 ≤ oN k := q
      rw [he, oN_le (by omega) (by omega)] at q
      omega
    refine And.intro (bT z0) ?_
    refine And.intro (fun c => ?_) (fun c => ?_)
    · have c : σ.1 9 4 (Int32.ofInt 5 * oN k).toNatClampNeg = oN v := c
      rw [y0, tL_at (by omega)] at c
      refine And.intro (bT zw) ?_
      refine next _ ?_
      rw [yw, tL_at (by omega)]
      show _ = sumL _ _ w k + _
      rw [if_pos c]
    · have c : ¬ σ.1 9 4 (Int32.ofInt 5 * oN k).toNatClampNeg = oN v := c
      rw [y0, tL_at (by omega)] at c
      refine next _ ?_
      show _ = sumL _ _ w k + _
      rw [if_neg c]
      rfl
set_option maxRecDepth 100000 in
set_option maxHeartbeats 600000 in
theorem lL_isSo_331 (X : Nat × (Nat → Int32)) (σ : XH) (h : HH σ) (v : Nat) (hv : v < 2) (K D : Nat) (R : XR × XH → Prop) (hc : ∀ F, K ≤ F → wF (xIr X F 331 (iLv [(5, xI (oN v)), (6, xI (oN 5))]) σ D) R) : ∀ (m w F : Nat), w + m = 5 → 2 ≤ w → K + 20 * m ≤ F → wF (xIr X F 331 (iLv [(5, xI (oN v)), (6, xI (oN w))]) σ (D + 2 * m)) R := by
  obtain ⟨he, hn⟩ := okT_n h.2.1.1
  intro m
  induction m with
  | zero =>
    intro w F hk _ hF
    have : w = 5 := by omega
    subst this
    exact hc F hF
  | succ m ih =>
    intro w F hk h2 hF
    obtain ⟨F, rfl⟩ : ∃ F', F = F' + 1 := ⟨F - 1, by omega⟩
    rw [show D + 2 * (m + 1) = D + 2 * m + 2 by omega]
    refine wI_s (N := F) ?_
    refine And.intro (fun q => ?_) (fun _ => ?_)
    · have q : oN 5 ≤ oN w := q
      rw [oN_le (by decide) (by omega)] at q
      omega
    refine lL_isSo_343 X σ h v w hv (by omega) (K + 20 * m + 1) (D + 2 * m + 2) R (fun F hF => ?_) (entN (lTS σ)) 0 F (by omega) (by omega)
    obtain ⟨F, rfl⟩ : ∃ F', F = F' + 1 := ⟨F - 1, by omega⟩
    have next : wF (xIr X F 331 (iLv [(5, xI (oN v)), (6, xI (oN w + Int32.ofInt 1))]) σ (D + 2 * m)) R := by
      have q := ih (w + 1) F (by omega) (by omega) (by omega)
      rw [← oN_1] at q
      exact q
    refine wI_s (N := F) ?_
    refine And.intro (bG (by decide)) ?_
    refine And.intro (fun _ => ?_) (fun q => absurd (by show (lTS σ).1 9 ≤ _; rw [he]; exact Int32.le_refl _) q)
    refine And.intro (fun q => absurd q (by decide)) (fun _ => ?_)
    refine wF_of (vS (X := X) h hv w ⟨h2, by omega⟩) ?_
    refine And.intro (fun _ => next) (fun g => absurd rfl g)
set_option maxRecDepth 100000 in
set_option maxHeartbeats 600000 in
theorem lL_isSo_131 (X : Nat × (Nat → Int32)) (σ : XH) (h : HH σ) (K D : Nat) (R : XR × XH → Prop) (v : Nat) (hv : v < 2) (hc : ∀ F, K ≤ F → wF (xIr X F 131 (iLv [(5, xI (oN (v + 1)))]) σ D) R) : ∀ F, K + 100 ≤ F → wF (xIr X F 131 (iLv [(5, xI (oN v))]) σ (D + 48)) R := by
  intro F hF
  obtain ⟨F, rfl⟩ : ∃ F', F = F' + 1 := ⟨F - 1, by omega⟩
  refine wI_s (N := F) ?_
  refine And.intro (fun q => ?_) (fun _ => ?_)
  · have q : oN 2 ≤ oN v := q
    rw [oN_le (by decide) (by omega)] at q
    omega
  refine And.intro (fun q => absurd q (by decide)) (fun _ => ?_)
  refine lL_isSo_145 X σ h v hv (K + 62) (D + 18) R (fun F hF => ?_) 15 0 F (by decide) (by omega)
  obtain ⟨F, rfl⟩ : ∃ F', F = F' + 1 := ⟨F - 1, by omega⟩
  refine sL_isSo_205 X σ h v hv (D + 6) F R ?_
  refine lL_isSo_331 X σ h v hv (K + 1) D R (fun F hF => ?_) 3 2 F (by decide) (by decide) (by omega)
  obtain ⟨F, rfl⟩ : ∃ F', F = F' + 1 := ⟨F - 1, by omega⟩
  have next := hc F (by omega)
  rw [← oN_1] at next
  refine wI_s (N := F) ?_
  refine And.intro (fun _ => ?_) (fun q => absurd (by decide) q)
  exact next
set_option maxRecDepth 100000 in
set_option maxHeartbeats 600000 in
theorem lL_isSo_427 (X : Nat × (Nat → Int32)) (σ : XH) (h : HH σ) (K D : Nat) (R : XR × XH → Prop) (hc : ∀ F, K ≤ F → wF (xIr X F 427 [(0, xR 6 0), (1, xR 9 2), (3, xR 9 4), (4, xI 1), (5, xI (oN (5 * entN (lTS σ))))] σ D) R) : ∀ (m k F : Nat), k + m = 5 * entN (lTS σ) → K + m ≤ F → wF (xIr X F 427 [(0, xR 6 0), (1, xR 9 2), (3, xR 9 4), (4, xI 1), (5, xI (oN k))] σ (D + m)) R := by
  obtain ⟨he, hn⟩ := okT_n h.2.1.1
  intro m
  induction m with
  | zero =>
    intro k F hk hF
    have : k = 5 * entN (lTS σ) := by omega
    subst this
    exact hc F hF
  | succ m ih =>
    intro k F hk hF
    obtain ⟨F, rfl⟩ : ∃ F', F = F' + 1 := ⟨F - 1, by omega⟩
    have next : wF (xIr X F 427 [(0, xR 6 0), (1, xR 9 2), (3, xR 9 4), (4, xI 1), (5, xI (oN k + Int32.ofInt 1))] σ (D + m)) R := by
      have q := ih (k + 1) F (by omega) (by omega)
      rw [← oN_1] at q
      exact q
    have e1 : oN k / Int32.ofInt 5 = oN (k / 5) := q_div (n := 5) rfl (by omega) (by decide) (by decide)
    have e2 : oN k - oN k / Int32.ofInt 5 * Int32.ofInt 5 = oN (k % 5) := q_mod (n := 5) rfl (by omega) (by decide) (by decide)
    have hm : k % 5 < 5 := Nat.mod_lt _ (by decide)
    have e := vLd (X := X) h (k / 5) (k % 5) (by omega) (by omega)
    have hl : ledT (lTS σ) (k / 5) (k % 5) = (lTS σ).2.2.2 k := by
      unfold ledT
      rw [if_pos (by omega), show 5 * (k / 5) + k % 5 = k by omega]
    rw [hl, ← e1, ← e2] at e
    have zk : 0 ≤ oN k ∧ (oN k).toNatClampNeg < 60 := ⟨oN_nn (by omega), by rw [oN_nat (by omega)]; omega⟩
    have yk : (oN k).toNatClampNeg = k := oN_nat (by omega)
    refine wI_s (N := F) ?_
    refine And.intro (bG (by decide)) ?_
    refine And.intro (fun q => ?_) (fun _ => ?_)
    · have q : Int32.ofInt 5 * (lTS σ).1 9 ≤ oN k := q
      rw [he, i5m, oN_le (by omega) (by omega)] at q
      omega
    refine And.intro (fun q => absurd q (by decide)) (fun _ => ?_)
    refine And.intro (by decide) ?_
    refine And.intro (by decide) ?_
    refine wF_of e ?_
    refine And.intro (bT zk) ?_
    refine And.intro (fun _ => next) (fun g => absurd ?_ g)
    rw [yk]
    exact (tL_at (by omega)).symm
set_option maxRecDepth 100000 in
set_option maxHeartbeats 600000 in
theorem sL_isSo_475 (X : Nat × (Nat → Int32)) (σ : XH) (h : HH σ) (D F : Nat) (hF : 1 ≤ F) : wF (xIr X F 427 [(0, xR 6 0), (1, xR 9 2), (3, xR 9 4), (4, xI 1), (5, xI (oN (5 * entN (lTS σ))))] σ (D + 1)) (fun r => r = (.inl (some (xI 1)), σ)) := by
  obtain ⟨he, hn⟩ := okT_n h.2.1.1
  obtain ⟨F, rfl⟩ : ∃ F', F = F' + 1 := ⟨F - 1, by omega⟩
  have e := vLd (X := X) h (entN (lTS σ)) 0 (by omega) (by omega)
  have hl : ledT (lTS σ) (entN (lTS σ)) 0 = -1000000 := by
    unfold ledT
    rw [if_neg (by omega)]
  rw [hl, ← he] at e
  refine wI_s (N := F) ?_
  refine And.intro (bG (by decide)) ?_
  refine And.intro (fun _ => ?_) (fun q => absurd ?_ q)
  · refine And.intro (fun q => absurd q (by decide)) (fun _ => ?_)
    refine And.intro (bG (by decide)) ?_
    refine wF_of e ?_
    refine And.intro (fun _ => ?_) (fun g => absurd rfl g)
    refine And.intro (Or.inr (by decide)) ?_
    rfl
  · show Int32.ofInt 5 * (lTS σ).1 9 ≤ _
    rw [he, i5m]
    exact Int32.le_refl _
set_option maxRecDepth 100000 in
set_option maxHeartbeats 600000 in
theorem wL_isSo2 (X : Nat × (Nat → Int32)) (σ : XH) (h : HH σ) : wF (xIr X 100000 66 iLv0 σ 298) (fun r => r = (.inl (some (xI 1)), σ)) := by
  obtain ⟨he, hn⟩ := okT_n h.2.1.1
  refine wI_s (N := 99999) ?_
  refine lL_isSo_76 X σ h 1000 288 _ (fun F hF => ?_) 10 0 99999 (by decide) (by decide)
  obtain ⟨F, rfl⟩ : ∃ F', F = F' + 1 := ⟨F - 1, by omega⟩
  refine wI_s (N := F) ?_
  refine And.intro (fun _ => ?_) (fun q => absurd (by decide) q)
  refine lL_isSo_131 X σ h 500 240 _ 0 (by decide) (fun F hF => ?_) F (by omega)
  refine lL_isSo_131 X σ h 300 192 _ 1 (by decide) (fun F hF => ?_) F (by omega)
  obtain ⟨F, rfl⟩ : ∃ F', F = F' + 1 := ⟨F - 1, by omega⟩
  refine wI_s (N := F) ?_
  refine And.intro (fun _ => ?_) (fun q => absurd (by decide) q)
  have hl := lL_isSo_427 X σ h 1 (192 - 5 * entN (lTS σ)) (fun r => r = (.inl (some (xI 1)), σ)) (fun F hF => by
    obtain ⟨D, hD⟩ : ∃ D, 192 - 5 * entN (lTS σ) = D + 1 := ⟨191 - 5 * entN (lTS σ), by omega⟩
    rw [hD]
    exact sL_isSo_475 X σ h D F hF) (5 * entN (lTS σ)) 0 F (by omega) (by omega)
  rw [show 192 - 5 * entN (lTS σ) + 5 * entN (lTS σ) = 192 by omega] at hl
  exact hl
theorem HH_iOK {σ : XH} (h : HH σ) : 0 ≤ σ.1 3 0 8 ∧ σ.1 3 0 8 = σ.1 9 2 5 ∧ σ.1 3 0 9 = σ.1 9 2 6 := by
  have e5 : (cTS σ 0).1 5 = (lTS σ).1 5 := by rw [h.1]
  have e6 : (cTS σ 0).1 6 = (lTS σ).1 6 := by rw [h.1]
  have e5 : σ.1 3 0 8 = σ.1 9 2 5 := e5
  have e6 : σ.1 3 0 9 = σ.1 9 2 6 := e6
  refine ⟨?_, e5, e6⟩
  rw [e5]
  exact h.2.1.2.1
theorem wL_isSo (X : Nat × (Nat → Int32)) (σ : XH) (h : HH σ) : fL_isSo X [xR 6 0, xR 9 2, xR 9 3, xR 9 4] σ = some (.inl (some (xI 1)), σ) := by
  obtain ⟨out, ho, rfl⟩ := wExec_s 1000 (sL_isSo_0 X σ h)
  obtain ⟨r, hr, rfl⟩ := wL_isSo2 X σ h
  unfold fL_isSo
  rw [if_pos rfl, ho]
  show iNext X (36, iLv0, σ, 298) = _
  unfold iNext
  show (if iLv0 = iLv0 ∧ _ then _ else _) = _
  rw [if_pos ⟨rfl, HH_iOK h⟩]
  exact hr
