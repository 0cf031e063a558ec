/-! ===== the reference's settings ===== -/
/-- what the settings and ticks leave as it was -/
def NF (σ σ' : XH) : Prop := KM σ σ' ∧ SK σ σ' ∧ aS σ' = aS σ
theorem NF.rf {σ : XH} : NF σ σ := ⟨KM.rf, SK.rf, rfl⟩
theorem NF.tr {a b c : XH} (h1 : NF a b) (h2 : NF b c) : NF a c := ⟨h1.1.tr h2.1, h1.2.1.tr h2.2.1, h2.2.2.trans h1.2.2⟩
theorem NF.u2 {σ : XH} {i : Nat} {x : Int32} : NF σ (xuI σ 9 2 i x) :=
  ⟨KM.fr (P := P2) (xFr.u ⟨rfl, rfl⟩) (by unfold P2; omega), SK.fr (P := P2) (xFr.u ⟨rfl, rfl⟩) (by unfold P2; omega), aTS_cg fun k _ => xu_ne (by omega)⟩
theorem NF.u7 {σ : XH} {f : Nat} {x : Int32} (h3 : f ≠ 3) (h5 : f ≠ 5 ∧ f ≠ 10) : NF σ (xuI σ 7 0 f x) := ⟨KM.u h5, SK.u h3, aTS_cg fun k _ => xu_ne (by omega)⟩
theorem NF.pm {σ σ' : XH} (h : xFr PM σ σ') : NF σ σ' :=
  ⟨KM.fr h (by unfold PM; omega), SK.fr h (by unfold PM; omega), aTS_cg fun k _ => h.1 _ _ _ (by unfold PM; omega)⟩
theorem vT_set {t : TS} {v : Nat} {V : Nat → Int32} (hv : v < 2) : vT (setV t v V) v = V := by
  have hv2 : v = 0 ∨ v = 1 := by omega
  rcases hv2 with rfl | rfl <;> rfl
theorem set_set {t : TS} {v : Nat} {V W : Nat → Int32} (hv : v < 2) : setV (setV t v V) v W = setV t v W := by
  have hv2 : v = 0 ∨ v = 1 := by omega
  rcases hv2 with rfl | rfl <;> rfl
theorem mTS_V {σ : XH} {v k : Nat} {x : Int32} (hv : v < 2) (h : k < 16) : mTS (xuI σ 9 2 (10 + 16 * v + k) x) = setV (mTS σ) v (updF (vT (mTS σ) v) k x) := by
  have hv2 : v = 0 ∨ v = 1 := by omega
  rcases hv2 with rfl | rfl
  · rw [show 10 + 16 * 0 + k = k + 10 by omega, mTS_V0 h]
    rfl
  · rw [show 10 + 16 * 1 + k = k + 26 by omega, mTS_V1 h]
    rfl
theorem mTS_at {σ : XH} {v k : Nat} (hv : v < 2) (h : k < 16) : σ.1 9 2 (10 + 16 * v + k) = vT (mTS σ) v k := by
  have hv2 : v = 0 ∨ v = 1 := by omega
  rcases hv2 with rfl | rfl
  · show _ = trF 16 (fun i => σ.1 9 2 (0 + (10 + i))) k
    unfold trF
    dsimp only
    rw [if_pos h, show 0 + (10 + k) = 10 + 16 * 0 + k by omega]
  · show _ = trF 16 (fun i => σ.1 9 2 (0 + (26 + i))) k
    unfold trF
    dsimp only
    rw [if_pos h, show 0 + (26 + k) = 10 + 16 * 1 + k by omega]
theorem ix_vw {v w : Nat} (hv : v < 2) (hw : w < 16) : 10 + 16 * oN v + oN w = oN (10 + 16 * v + w) := by
  show oN 10 + oN 16 * oN v + oN w = _
  rw [oN_mul, oN_add, oN_add]
theorem oX8 (X : Nat × (Nat → Int32)) (σ : XH) {v w : Nat} (hv : v < 2) (hw : w < 16) : fX8_of X [xR 7 0, xI (oN v), xI (oN w)] σ = some (.inl (some (xI (vT (mTS σ) v w))), σ) := by
  rw [eX8_of X σ (oN v) (oN w) (by rw [ix_vw hv hw, oN_nat (by omega)]; exact ⟨oN_nn (by omega), by omega⟩), ix_vw hv hw, oN_nat (by omega), mTS_at hv hw]
theorem qX8 (X : Nat × (Nat → Int32)) (σ : XH) {v w : Nat} (x : Int32) (hv : v < 2) (hw : w < 16) : fX8_puts X [xR 7 0, xI (oN v), xI (oN w), xI x] σ = some (.inl none, xuI σ 9 2 (10 + 16 * v + w) x) := by
  rw [eX8_puts X σ (oN v) (oN w) x (by rw [ix_vw hv hw, oN_nat (by omega)]; exact ⟨oN_nn (by omega), by omega⟩), ix_vw hv hw, oN_nat (by omega)]
theorem vX8_y (X : Nat × (Nat → Int32)) (σ : XH) {v : Nat} (hv : v < 2) : fX8_isValve X [xI (oN v)] σ = some (.inl (some (xI 1)), σ) := by
  have hv2 : v = 0 ∨ v = 1 := by omega
  rw [eX8_isValve]
  rcases hv2 with rfl | rfl <;> rfl
theorem vX8_n (X : Nat × (Nat → Int32)) (σ : XH) {v : Int32} (hv : ¬ (0 ≤ v ∧ v ≤ 1)) : fX8_isValve X [xI v] σ = some (.inl (some (xI 0)), σ) := by
  rw [eX8_isValve, if_neg hv]
theorem iX8_y (X : Nat × (Nat → Int32)) (σ : XH) {v l m : Int32} (h : l ≤ v ∧ v ≤ m) : fX8_in X [xI v, xI l, xI m] σ = some (.inl (some (xI 1)), σ) := by
  rw [eX8_in, if_pos h]
theorem iX8_n (X : Nat × (Nat → Int32)) (σ : XH) {v l m : Int32} (h : ¬ (l ≤ v ∧ v ≤ m)) : fX8_in X [xI v, xI l, xI m] σ = some (.inl (some (xI 0)), σ) := by
  rw [eX8_in, if_neg h]
def gR (a b : Int32) : Prop := 0 ≤ a ∧ a < b ∧ b ≤ 1000
def rngV (V : Nat → Int32) (a b f : Int32) : Nat → Int32 := updF (updF (updF V 5 a) 6 b) 7 (if f = 0 then 0 else 1)
/-- an inner call of the reference that goes well: the answer, the new state -/
def wOK (σ : XH) (a : Int32) (t : TS) (r : XR × XH) : Prop := ∃ σ', r = (.inl (some (xI 0)), σ') ∧ σ'.1 7 0 9 = a ∧ mTS σ' = t ∧ NF σ σ'
set_option maxRecDepth 100000 in
set_option maxHeartbeats 1000000 in
theorem wX8_ranges (X : Nat × (Nat → Int32)) (σ : XH) (v : Nat) (a b f : Int32) (hv : v < 2) (hg : gR a b) : wF (fX8_ranges X [xR 7 0, xI (oN v), xI a, xI b, xI f] σ) (wOK σ (10000 * vT (mTS σ) v 5 + vT (mTS σ) v 6) (setV (mTS σ) v (rngV (vT (mTS σ) v) a b f))) := by
  obtain ⟨g1, g2, g3⟩ := hg
  have key : ∀ x, x = (if f = 0 then (0 : Int32) else 1) → wOK σ (10000 * vT (mTS σ) v 5 + vT (mTS σ) v 6) (setV (mTS σ) v (rngV (vT (mTS σ) v) a b f)) (.inl (some (xI 0)), xuI (xuI (xuI (xuI σ 7 0 9 (10000 * vT (mTS σ) v 5 + vT (mTS σ) v 6)) 9 2 (10 + 16 * v + 5) a) 9 2 (10 + 16 * v + 6) b) 9 2 (10 + 16 * v + 7) x) := by
    rintro x rfl
    refine ⟨_, rfl, ?_, ?_, (((NF.u7 (by decide) (by decide)).tr NF.u2).tr NF.u2).tr NF.u2⟩
    · rw [xu_ne (by decide), xu_ne (by decide), xu_ne (by decide), xu_eq, if_pos rfl]
    · rw [mTS_V hv (by decide), mTS_V hv (by decide), mTS_V hv (by decide), mTS_u7, vT_set hv, vT_set hv, set_set hv, set_set hv]
      rfl
  rw [uX8_ranges]
  refine wI_s (N := 99999) ?_
  refine wF_of (vX8_y X σ hv) ?_
  refine And.intro (fun h => absurd h (by decide)) (fun _ => ?_)
  refine wF_of (iX8_y X σ ⟨g1, by show a ≤ 999; grind⟩) ?_
  refine And.intro (fun h => absurd h (by decide)) (fun _ => ?_)
  refine And.intro (fun h => absurd h (Int32.not_le.mpr g2)) (fun _ => ?_)
  refine And.intro (fun _ => ?_) (fun h => absurd g3 h)
  refine wF_of (oX8 X σ (w := 5) hv (by decide)) ?_
  refine wF_of (oX8 X σ (w := 6) hv (by decide)) ?_
  refine wF_of (qX8 X _ (w := 5) a hv (by decide)) ?_
  refine wF_of (qX8 X _ (w := 6) b hv (by decide)) ?_
  refine And.intro (fun h0 => ?_) (fun h0 => ?_)
  · refine wF_of (qX8 X _ (w := 7) _ hv (by decide)) ?_
    exact key _ (if_pos h0).symm
  · refine wF_of (qX8 X _ (w := 7) _ hv (by decide)) ?_
    exact key _ (if_neg h0).symm
set_option maxRecDepth 100000 in
set_option maxHeartbeats 1000000 in
theorem wX8_ranges_v (X : Nat × (Nat → Int32)) (σ : XH) (v a b f : Int32) (hv : ¬ (0 ≤ v ∧ v ≤ 1)) : fX8_ranges X [xR 7 0, xI v, xI a, xI b, xI f] σ = some (.inl (some (xI 1)), σ) := by
  rw [uX8_ranges]
  refine wF_eq (wI_s (N := 99999) ?_)
  refine wF_of (vX8_n X σ hv) ?_
  refine And.intro (fun _ => ?_) (fun h => absurd rfl h)
  rfl
set_option maxRecDepth 100000 in
set_option maxHeartbeats 1000000 in
theorem wX8_ranges_r (X : Nat × (Nat → Int32)) (σ : XH) (v : Nat) (a b f : Int32) (hv : v < 2) (hg : ¬ gR a b) : fX8_ranges X [xR 7 0, xI (oN v), xI a, xI b, xI f] σ = some (.inl (some (xI 2)), σ) := by
  rw [uX8_ranges]
  refine wF_eq (wI_s (N := 99999) ?_)
  refine wF_of (vX8_y X σ hv) ?_
  refine And.intro (fun h => absurd h (by decide)) (fun _ => ?_)
  by_cases c : (0 : Int32) ≤ a ∧ a ≤ 999
  · refine wF_of (iX8_y X σ c) ?_
    refine And.intro (fun h => absurd h (by decide)) (fun _ => ?_)
    refine And.intro (fun _ => ?_) (fun h => ?_)
    · rfl
    · refine And.intro (fun h3 => ?_) (fun _ => ?_)
      · exact absurd ⟨c.1, Int32.not_le.mp h, h3⟩ hg
      · rfl
  · refine wF_of (iX8_n X σ c) ?_
    refine And.intro (fun _ => ?_) (fun h => absurd rfl h)
    rfl
/-- the values of settings -/
def gS (w x : Int32) : Prop := (w = 0 ∧ 1 ≤ x ∧ x ≤ 1000) ∨ ((w = 1 ∨ w = 2) ∧ 0 ≤ x ∧ x ≤ 300) ∨ (w = 3 ∧ 0 ≤ x ∧ x ≤ 1000) ∨ (w = 4 ∧ 0 ≤ x ∧ x ≤ 2)
def gC4 (w x : Int32) : Prop := (w = 0 ∧ 0 ≤ x ∧ x ≤ 1) ∨ (w = 1 ∧ -10000 ≤ x ∧ x ≤ 10000) ∨ (w = 2 ∧ 0 ≤ x ∧ x ≤ 2000) ∨ (w = 3 ∧ 1 ≤ x ∧ x ≤ 1000)
theorem i01 {c : Prop} [Decidable c] : (if c then (1 : Int32) else 0) = 0 ∨ (if c then (1 : Int32) else 0) = 1 := by
  split
  · exact Or.inr rfl
  · exact Or.inl rfl
set_option maxRecDepth 100000 in
set_option maxHeartbeats 1000000 in
theorem eX8_isOfValve (X : Nat × (Nat → Int32)) (σ : XH) (w x : Int32) : wF (fX8_isOfValve X [xI w, xI x] σ) (fun r => (gS w x → r = (.inl (some (xI 1)), σ)) ∧ (¬ gS w x → r = (.inl (some (xI 0)), σ))) := by
  have fin : ∀ (c : Prop) [Decidable c], (gS w x ↔ c) → ∀ r, r = ((.inl (some (xI (if c then 1 else 0))), σ) : XR × XH) → (gS w x → r = (.inl (some (xI 1)), σ)) ∧ (¬ gS w x → r = (.inl (some (xI 0)), σ)) := by
    rintro c _ hc r rfl
    exact ⟨fun h => by rw [if_pos (hc.mp h)], fun h => by rw [if_neg (fun q => h (hc.mpr q))]⟩
  rw [uX8_isOfValve]
  refine wI_s (N := 99999) ?_
  refine And.intro (fun h => ?_) (fun h0 => ?_)
  · refine wF_of (eX8_in X σ _ _ _) ?_
    refine And.intro i01 ?_
    subst h
    exact fin _ (by unfold gS; simp) _ rfl
  refine And.intro (fun h => ?_) (fun h1 => ?_)
  · refine wF_of (eX8_in X σ _ _ _) ?_
    refine And.intro i01 ?_
    subst h
    exact fin _ (by unfold gS; simp) _ rfl
  refine And.intro (fun h => ?_) (fun h2 => ?_)
  · refine wF_of (eX8_in X σ _ _ _) ?_
    refine And.intro i01 ?_
    subst h
    exact fin _ (by unfold gS; simp) _ rfl
  refine And.intro (fun h => ?_) (fun h3 => ?_)
  · refine wF_of (eX8_in X σ _ _ _) ?_
    refine And.intro i01 ?_
    subst h
    exact fin _ (by unfold gS; simp) _ rfl
  refine And.intro (fun h => ?_) (fun h4 => ?_)
  · refine wF_of (eX8_in X σ _ _ _) ?_
    refine And.intro i01 ?_
    subst h
    exact fin _ (by unfold gS; simp) _ rfl
  refine And.intro (Or.inl (by decide)) ?_
  exact fin False (by unfold gS; simp [h0, h1, h2, h3, h4]) _ rfl
set_option maxRecDepth 100000 in
set_option maxHeartbeats 1000000 in
theorem eX8_isTuning (X : Nat × (Nat → Int32)) (σ : XH) (w x : Int32) : wF (fX8_isTuning X [xI w, xI x] σ) (fun r => (gC4 w x → r = (.inl (some (xI 1)), σ)) ∧ (¬ gC4 w x → r = (.inl (some (xI 0)), σ))) := by
  have fin : ∀ (c : Prop) [Decidable c], (gC4 w x ↔ c) → ∀ r, r = ((.inl (some (xI (if c then 1 else 0))), σ) : XR × XH) → (gC4 w x → r = (.inl (some (xI 1)), σ)) ∧ (¬ gC4 w x → r = (.inl (some (xI 0)), σ)) := by
    rintro c _ hc r rfl
    exact ⟨fun h => by rw [if_pos (hc.mp h)], fun h => by rw [if_neg (fun q => h (hc.mpr q))]⟩
  rw [uX8_isTuning]
  refine wI_s (N := 99999) ?_
  refine And.intro (fun h => ?_) (fun h0 => ?_)
  · refine wF_of (eX8_in X σ _ _ _) ?_
    refine And.intro i01 ?_
    subst h
    exact fin _ (by unfold gC4; simp) _ rfl
  refine And.intro (fun h => ?_) (fun h1 => ?_)
  · refine wF_of (eX8_in X σ _ _ _) ?_
    refine And.intro i01 ?_
    subst h
    exact fin _ (by unfold gC4; simp) _ rfl
  refine And.intro (fun h => ?_) (fun h2 => ?_)
  · refine wF_of (eX8_in X σ _ _ _) ?_
    refine And.intro i01 ?_
    subst h
    exact fin _ (by unfold gC4; simp) _ rfl
  refine And.intro (fun h => ?_) (fun h3 => ?_)
  · refine wF_of (eX8_in X σ _ _ _) ?_
    refine And.intro i01 ?_
    subst h
    exact fin _ (by unfold gC4; simp) _ rfl
  refine And.intro (Or.inl (by decide)) ?_
  exact fin False (by unfold gC4; simp [h0, h1, h2, h3]) _ rfl
theorem mTS_gs {σ : XH} {p x y : Int32} {k : Nat} (hk : k < 10) : mTS (xuI (xuI σ 7 0 9 y) 9 2 k x) = (updF (mTS σ).1 k x, (mTS σ).2) := by
  rw [mTS_g hk, mTS_u7]
/-- what exchanges leaves, of one of the valves' numbers -/
theorem wX8_exch_V (X : Nat × (Nat → Int32)) (σ : XH) (x : Int32) {v w : Nat} (hv : v < 2) (hw : w < 16) : wF (fX8_exchanges X [xR 7 0, xI (oN (10 + 16 * v + w)), xI x] σ) (wOK σ (vT (mTS σ) v w) (setV (mTS σ) v (updF (vT (mTS σ) v) w x))) := by
  have hi : (oN (10 + 16 * v + w)).toNatClampNeg = 10 + 16 * v + w := oN_nat (by omega)
  refine wF_of (eX8_exchanges X σ _ x ⟨oN_nn (by omega), by rw [hi]; omega⟩) ⟨_, rfl, ?_, ?_, (NF.u7 (by decide) (by decide)).tr NF.u2⟩
  · rw [xu_ne (by decide), xu_eq, if_pos rfl, hi, mTS_at hv hw]
  · rw [hi, mTS_V hv hw, mTS_u7]
theorem wX8_exch_g (X : Nat × (Nat → Int32)) (σ : XH) (x : Int32) {k : Nat} (hk : k < 10) : wF (fX8_exchanges X [xR 7 0, xI (oN k), xI x] σ) (wOK σ ((mTS σ).1 k) (updF (mTS σ).1 k x, (mTS σ).2)) := by
  have hi : (oN k).toNatClampNeg = k := oN_nat (by omega)
  refine wF_of (eX8_exchanges X σ _ x ⟨oN_nn (by omega), by rw [hi]; omega⟩) ⟨_, rfl, ?_, ?_, (NF.u7 (by decide) (by decide)).tr NF.u2⟩
  · rw [xu_ne (by decide), xu_eq, if_pos rfl, hi]
    show _ = trF 10 (fun i => σ.1 9 2 (0 + i)) k
    unfold trF
    dsimp only
    rw [if_pos hk, Nat.zero_add]
  · rw [hi, mTS_g hk, mTS_u7]
set_option maxRecDepth 100000 in
set_option maxHeartbeats 1000000 in
theorem wX8_sets (X : Nat × (Nat → Int32)) (σ : XH) (v w : Nat) (x : Int32) (hv : v < 2) (hw : w < 5) (hg : gS (oN w) x) : wF (fX8_sets X [xR 7 0, xI (oN v), xI (oN w), xI x] σ) (wOK σ (vT (mTS σ) v w) (setV (mTS σ) v (updF (vT (mTS σ) v) w x))) := by
  rw [uX8_sets]
  refine wI_s (N := 99999) ?_
  refine wF_of (vX8_y X σ hv) ?_
  refine And.intro (fun h => absurd h (by decide)) (fun _ => ?_)
  obtain ⟨r, h1, h2, -⟩ := eX8_isOfValve X σ (oN w) x
  rw [h2 hg] at h1
  refine wF_of h1 ?_
  refine And.intro (fun h => absurd h (by decide)) (fun _ => ?_)
  have h3 := wX8_exch_V X σ x hv (w := w) (by omega)
  rw [← ix_vw hv (by omega)] at h3
  refine wF_mono h3 ?_
  rintro r ⟨σ', rfl, h4⟩
  exact ⟨σ', rfl, h4⟩
set_option maxRecDepth 100000 in
set_option maxHeartbeats 1000000 in
theorem wX8_sets_v (X : Nat × (Nat → Int32)) (σ : XH) (v w x : Int32) (hv : ¬ (0 ≤ v ∧ v ≤ 1)) : fX8_sets X [xR 7 0, xI v, xI w, xI x] σ = some (.inl (some (xI 1)), σ) := by
  rw [uX8_sets]
  refine wF_eq (wI_s (N := 99999) ?_)
  refine wF_of (vX8_n X σ hv) ?_
  refine And.intro (fun _ => ?_) (fun h => absurd rfl h)
  rfl
set_option maxRecDepth 100000 in
set_option maxHeartbeats 1000000 in
theorem wX8_sets_r (X : Nat × (Nat → Int32)) (σ : XH) (v : Nat) (w x : Int32) (hv : v < 2) (hg : ¬ gS w x) : fX8_sets X [xR 7 0, xI (oN v), xI w, xI x] σ = some (.inl (some (xI 2)), σ) := by
  rw [uX8_sets]
  refine wF_eq (wI_s (N := 99999) ?_)
  refine wF_of (vX8_y X σ hv) ?_
  refine And.intro (fun h => absurd h (by decide)) (fun _ => ?_)
  obtain ⟨r, h1, -, h2⟩ := eX8_isOfValve X σ w x
  rw [h2 hg] at h1
  refine wF_of h1 ?_
  refine And.intro (fun _ => ?_) (fun h => absurd rfl h)
  rfl
set_option maxRecDepth 100000 in
set_option maxHeartbeats 1000000 in
theorem wX8_signals (X : Nat × (Nat → Int32)) (σ : XH) (u : Int32) (hu : 0 ≤ u ∧ u ≤ 1000) : wF (fX8_signals X [xR 7 0, xI u] σ) (wOK σ ((mTS σ).1 0) (updF (mTS σ).1 0 u, (mTS σ).2)) := by
  rw [uX8_signals]
  refine wI_s (N := 99999) ?_
  refine wF_of (iX8_y X σ hu) ?_
  refine And.intro (fun h => absurd h (by decide)) (fun _ => ?_)
  refine wF_mono (wX8_exch_g X σ u (k := 0) (by decide)) ?_
  rintro r ⟨σ', rfl, h4⟩
  exact ⟨σ', rfl, h4⟩
set_option maxRecDepth 100000 in
set_option maxHeartbeats 1000000 in
theorem wX8_signals_r (X : Nat × (Nat → Int32)) (σ : XH) (u : Int32) (hu : ¬ (0 ≤ u ∧ u ≤ 1000)) : fX8_signals X [xR 7 0, xI u] σ = some (.inl (some (xI 2)), σ) := by
  rw [uX8_signals]
  refine wF_eq (wI_s (N := 99999) ?_)
  refine wF_of (iX8_n X σ hu) ?_
  refine And.intro (fun _ => ?_) (fun h => absurd rfl h)
  rfl
set_option maxRecDepth 100000 in
set_option maxHeartbeats 1000000 in
theorem wX8_tunes (X : Nat × (Nat → Int32)) (σ : XH) (w : Nat) (x : Int32) (hw : w < 4) (hg : gC4 (oN w) x) : wF (fX8_tunes X [xR 7 0, xI (oN w), xI x] σ) (wOK σ ((mTS σ).1 (1 + w)) (updF (mTS σ).1 (1 + w) x, (mTS σ).2)) := by
  rw [uX8_tunes]
  refine wI_s (N := 99999) ?_
  obtain ⟨r, h1, h2, -⟩ := eX8_isTuning X σ (oN w) x
  rw [h2 hg] at h1
  refine wF_of h1 ?_
  refine And.intro (fun h => absurd h (by decide)) (fun _ => ?_)
  have h3 := wX8_exch_g X σ x (k := 1 + w) (by omega)
  rw [← oN_add] at h3
  refine wF_mono h3 ?_
  rintro r ⟨σ', rfl, h4⟩
  exact ⟨σ', rfl, h4⟩
set_option maxRecDepth 100000 in
set_option maxHeartbeats 1000000 in
theorem wX8_tunes_r (X : Nat × (Nat → Int32)) (σ : XH) (w x : Int32) (hg : ¬ gC4 w x) : fX8_tunes X [xR 7 0, xI w, xI x] σ = some (.inl (some (xI 2)), σ) := by
  rw [uX8_tunes]
  refine wF_eq (wI_s (N := 99999) ?_)
  obtain ⟨r, h1, -, h2⟩ := eX8_isTuning X σ w x
  rw [h2 hg] at h1
  refine wF_of h1 ?_
  refine And.intro (fun _ => ?_) (fun h => absurd rfl h)
  rfl
def srvV (V : Nat → Int32) : Nat → Int32 := updF (updF (updF V 11 0) 12 0) 15 (V 15 + 1)
def stmV (V : Nat → Int32) (p : Int32) : Nat → Int32 := updF (updF (updF V 8 p) 9 0) 10 0
theorem wX8_wear (X : Nat × (Nat → Int32)) (σ : XH) {v : Nat} (hv : v < 2) : fX8_wear X [xR 7 0, xI (oN v)] σ = some (.inl (some (xI (wearV (vT (mTS σ) v)))), σ) := by
  have hv2 : v = 0 ∨ v = 1 := by omega
  rcases hv2 with rfl | rfl
  · exact eX8_wear_0 X σ
  · exact eX8_wear_1 X σ
set_option maxRecDepth 100000 in
set_option maxHeartbeats 1000000 in
theorem wX8_serves (X : Nat × (Nat → Int32)) (σ : XH) (v : Nat) (hv : v < 2) : wF (fX8_serves X [xR 7 0, xI (oN v)] σ) (wOK σ (wearV (vT (mTS σ) v)) (setV (mTS σ) v (srvV (vT (mTS σ) v)))) := by
  rw [uX8_serves]
  refine wI_s (N := 99999) ?_
  refine wF_of (vX8_y X σ hv) ?_
  refine And.intro (fun h => absurd h (by decide)) (fun _ => ?_)
  refine wF_of (wX8_wear X σ hv) ?_
  refine wF_of (qX8 X _ (w := 11) _ hv (by decide)) ?_
  refine wF_of (qX8 X _ (w := 12) _ hv (by decide)) ?_
  refine wF_of (oX8 X _ (w := 15) hv (by decide)) ?_
  refine wF_of (qX8 X _ (w := 15) _ hv (by decide)) ?_
  have key : ∀ x, x = vT (mTS σ) v 15 + 1 → wOK σ (wearV (vT (mTS σ) v)) (setV (mTS σ) v (srvV (vT (mTS σ) v))) (.inl (some (xI 0)), xuI (xuI (xuI (xuI σ 7 0 9 (wearV (vT (mTS σ) v))) 9 2 (10 + 16 * v + 11) 0) 9 2 (10 + 16 * v + 12) 0) 9 2 (10 + 16 * v + 15) x) := by
    rintro x rfl
    refine ⟨_, rfl, ?_, ?_, (((NF.u7 (by decide) (by decide)).tr NF.u2).tr NF.u2).tr NF.u2⟩
    · rw [xu_ne (by decide), xu_ne (by decide), xu_ne (by decide), xu_eq, if_pos rfl]
    · rw [mTS_V hv (by decide), mTS_V hv (by decide), mTS_V hv (by decide), mTS_u7, vT_set hv, vT_set hv, set_set hv, set_set hv]
      rfl
  refine key _ ?_
  have : vT (mTS (xuI (xuI (xuI σ 7 0 9 (wearV (vT (mTS σ) v))) 9 2 (10 + 16 * v + 11) 0) 9 2 (10 + 16 * v + 12) 0)) v 15 = vT (mTS σ) v 15 := by
    rw [mTS_V hv (by decide), mTS_V hv (by decide), mTS_u7, vT_set hv, vT_set hv]
    rfl
  exact congrArg (· + 1) this
set_option maxRecDepth 100000 in
set_option maxHeartbeats 1000000 in
theorem wX8_serves_v (X : Nat × (Nat → Int32)) (σ : XH) (v : Int32) (hv : ¬ (0 ≤ v ∧ v ≤ 1)) : fX8_serves X [xR 7 0, xI v] σ = some (.inl (some (xI 1)), σ) := by
  rw [uX8_serves]
  refine wF_eq (wI_s (N := 99999) ?_)
  refine wF_of (vX8_n X σ hv) ?_
  refine And.intro (fun _ => ?_) (fun h => absurd rfl h)
  rfl
set_option maxRecDepth 100000 in
set_option maxHeartbeats 1000000 in
theorem wX8_stems (X : Nat × (Nat → Int32)) (σ : XH) (v : Nat) (p : Int32) (hv : v < 2) (hp : 0 ≤ p ∧ p ≤ 1000) : wF (fX8_stems X [xR 7 0, xI (oN v), xI p] σ) (wOK σ (vT (mTS σ) v 8) (setV (mTS σ) v (stmV (vT (mTS σ) v) p))) := by
  rw [uX8_stems]
  refine wI_s (N := 99999) ?_
  refine wF_of (vX8_y X σ hv) ?_
  refine And.intro (fun h => absurd h (by decide)) (fun _ => ?_)
  refine wF_of (iX8_y X σ hp) ?_
  refine And.intro (fun h => absurd h (by decide)) (fun _ => ?_)
  refine wF_of (oX8 X σ (w := 8) hv (by decide)) ?_
  refine wF_of (qX8 X _ (w := 8) _ hv (by decide)) ?_
  refine wF_of (qX8 X _ (w := 9) _ hv (by decide)) ?_
  refine wF_of (qX8 X _ (w := 10) _ hv (by decide)) ?_
  refine ⟨xuI (xuI (xuI (xuI σ 7 0 9 (vT (mTS σ) v 8)) 9 2 (10 + 16 * v + 8) p) 9 2 (10 + 16 * v + 9) 0) 9 2 (10 + 16 * v + 10) 0, rfl, ?_, ?_, (((NF.u7 (by decide) (by decide)).tr NF.u2).tr NF.u2).tr NF.u2⟩
  · rw [xu_ne (by decide), xu_ne (by decide), xu_ne (by decide), xu_eq, if_pos rfl]
  · rw [mTS_V hv (by decide), mTS_V hv (by decide), mTS_V hv (by decide), mTS_u7, vT_set hv, vT_set hv, set_set hv, set_set hv]
    rfl
set_option maxRecDepth 100000 in
set_option maxHeartbeats 1000000 in
theorem wX8_stems_v (X : Nat × (Nat → Int32)) (σ : XH) (v p : Int32) (hv : ¬ (0 ≤ v ∧ v ≤ 1)) : fX8_stems X [xR 7 0, xI v, xI p] σ = some (.inl (some (xI 1)), σ) := by
  rw [uX8_stems]
  refine wF_eq (wI_s (N := 99999) ?_)
  refine wF_of (vX8_n X σ hv) ?_
  refine And.intro (fun _ => ?_) (fun h => absurd rfl h)
  rfl
set_option maxRecDepth 100000 in
set_option maxHeartbeats 1000000 in
theorem wX8_stems_r (X : Nat × (Nat → Int32)) (σ : XH) (v : Nat) (p : Int32) (hv : v < 2) (hp : ¬ (0 ≤ p ∧ p ≤ 1000)) : fX8_stems X [xR 7 0, xI (oN v), xI p] σ = some (.inl (some (xI 2)), σ) := by
  rw [uX8_stems]
  refine wF_eq (wI_s (N := 99999) ?_)
  refine wF_of (vX8_y X σ hv) ?_
  refine And.intro (fun h => absurd h (by decide)) (fun _ => ?_)
  refine wF_of (iX8_n X σ hp) ?_
  refine And.intro (fun _ => ?_) (fun h => absurd rfl h)
  rfl
