/-! ===== the reference's values by loops ===== -/
theorem oN_of {e : Int32} (h : 0 ≤ e) : e = oN e.toNatClampNeg ∧ e.toNatClampNeg < 2 ^ 31 := by
  have h0 : (0 : Int32).toInt = 0 := rfl
  have h1 := Int32.le_iff_toInt_le.mp h
  have h2 := Int32.toInt_lt e
  rw [h0] at h1
  have h3 : e.toNatClampNeg < 2 ^ 31 := by
    show e.toInt.toNat < 2 ^ 31
    omega
  refine ⟨Int32.toInt_inj.mp ?_, h3⟩
  rw [oN_toInt h3]
  show e.toInt = (e.toInt.toNat : Int)
  omega
theorem tl_ok {σ : XH} {a : Int32} : apiNo σ a 0 (.inl (some (.inl a)), xuI σ 7 0 6 0) := ⟨_, rfl, SK.u (by decide), mTS_u7, by rw [xu_eq, if_pos rfl], KM.u (by decide)⟩
set_option maxRecDepth 100000 in
set_option maxHeartbeats 1000000 in
theorem wX8_ledger (X : Nat × (Nat → Int32)) (σ : XH) (e w : Nat) (h : okT (mTS σ)) (he : e < 2 ^ 31) (hw : w ≤ 4) : wF (fX8_ledger X [xR 7 0, xI (oN e), xI (oN w)] σ) (apiNo σ (ledT (mTS σ) e w) 0) := by
  have hn := okT_n h
  rw [uX8_ledger]
  refine wI_s (N := 99999) ?_
  refine And.intro (fun q => absurd (oN_nn he) (Int32.not_le.mpr q)) (fun _ => ?_)
  refine wF_of (iX8_y X σ (oN_in (l := 0) (m := 4) (by omega) hw (by decide))) ?_
  refine And.intro (fun h => absurd h (by decide)) (fun _ => ?_)
  refine And.intro (by decide) ?_
  have e9 : σ.1 9 2 9 = oN (entN (mTS σ)) := hn.1
  refine And.intro (fun q => ?_) (fun q => ?_)
  · have q : σ.1 9 2 9 ≤ oN e := q
    rw [e9, oN_le (by omega) he] at q
    refine wF_of (eX8_tells X _ _) ?_
    have : ledT (mTS σ) e w = -1000000 := by
      unfold ledT
      rw [if_neg (by omega)]
    rw [this]
    exact tl_ok
  · have q : ¬ σ.1 9 2 9 ≤ oN e := q
    rw [e9, oN_le (by omega) he] at q
    have i2 : (42 : Int32) + 5 * oN e + oN w = oN (42 + (5 * e + w)) := by rw [i5k, oN_add, Nat.add_assoc]
    have j2 : (Int32.ofInt 42 + Int32.ofInt 5 * oN e + oN w).toNatClampNeg = 42 + (5 * e + w) := by
      show ((42 : Int32) + 5 * oN e + oN w).toNatClampNeg = _
      rw [i2, oN_nat (by omega)]
    have b2 : 0 ≤ Int32.ofInt 42 + Int32.ofInt 5 * oN e + oN w ∧ (Int32.ofInt 42 + Int32.ofInt 5 * oN e + oN w).toNatClampNeg < 102 := by
      rw [j2]
      exact ⟨by show 0 ≤ (42 : Int32) + 5 * oN e + oN w; rw [i2]; exact oN_nn (by omega), by omega⟩
    refine And.intro b2 ?_
    refine wF_of (eX8_tells X _ _) ?_
    have : ledT (mTS σ) e w = σ.1 9 2 (Int32.ofInt 42 + Int32.ofInt 5 * oN e + oN w).toNatClampNeg := by
      unfold ledT
      rw [if_pos (by omega), j2, mTS_Lat (by omega)]
    rw [this]
    exact tl_ok
set_option maxRecDepth 100000 in
set_option maxHeartbeats 1000000 in
theorem wX8_ledger_r (X : Nat × (Nat → Int32)) (σ : XH) (e w : Int32) (hw : ¬ (0 ≤ e ∧ 0 ≤ w ∧ w ≤ 4)) : wF (fX8_ledger X [xR 7 0, xI e, xI w] σ) (apiNo σ 0 1) := by
  rw [uX8_ledger]
  refine wI_s (N := 99999) ?_
  have fin : apiNo σ 0 1 (.inl (some (.inl 0)), xuI σ 7 0 6 1) := ⟨_, rfl, SK.u (by decide), mTS_u7, by rw [xu_eq, if_pos rfl], KM.u (by decide)⟩
  refine And.intro (fun q => ?_) (fun q => ?_)
  · refine wF_of (eX8_fails X _ _) ?_
    exact fin
  · have q : ¬ e < 0 := q
    refine wF_of (iX8_n X σ (fun c => hw ⟨Int32.not_lt.mp q, c⟩)) ?_
    refine And.intro (fun _ => ?_) (fun h => absurd rfl h)
    refine wF_of (eX8_fails X _ _) ?_
    exact fin
abbrev xSg (X : Nat × (Nat → Int32)) (N pc : Nat) (lv : XL) (σ : XH) : Option (XR × XH) := xIter X (xEnv (nX8_signalFor X)) (fun _ _ => some none) 0 [(19, [0, 1, 2])] tX8_signalFor N (pc, lv, σ, 0)
set_option maxRecDepth 100000 in
set_option maxHeartbeats 1000000 in
theorem lX8_signalFor (X : Nat × (Nat → Int32)) (σ : XH) (f : Int32) (h : okT (mTS σ)) : ∀ (m k N : Nat), k + m = 1001 → wF (xSg X (N + m + 1) 19 [(0, xR 7 0), (1, xI f), (2, xI (oN k))] σ) (apiNo σ (fstN (sgP (mTS σ) f) k m) 0) := by
  intro m
  induction m with
  | zero =>
    intro k N hk
    have : k = 1001 := by omega
    subst this
    refine wI_s (N := N + 0) ?_
    refine And.intro (fun _ => ?_) (fun h => absurd (by decide) h)
    refine wF_of (eX8_tells X _ _) ?_
    exact tl_ok
  | succ m ih =>
    intro k N hk
    refine wI_s (N := N + (m + 1)) ?_
    refine And.intro (fun q => ?_) (fun _ => ?_)
    · have q : oN 1000 < oN k := q
      rw [oN_lt (by decide) (by omega)] at q
      omega
    refine wF_of (eX8_ideal X σ _ (okT_D h)) ?_
    refine And.intro (fun c => ?_) (fun c => ?_)
    · have c : idealT (mTS σ) (oN k) < f := c
      unfold fstN
      rw [if_neg (by unfold sgP; rw [decide_eq_true_eq]; exact Int32.not_le.mpr c)]
      have := ih (k + 1) N (by omega)
      rw [← oN_1] at this
      exact this
    · have c : ¬ idealT (mTS σ) (oN k) < f := c
      unfold fstN
      rw [if_pos (by unfold sgP; rw [decide_eq_true_eq]; exact Int32.not_lt.mp c)]
      refine wF_of (eX8_tells X _ _) ?_
      exact tl_ok
set_option maxRecDepth 100000 in
set_option maxHeartbeats 1000000 in
theorem wX8_signalFor (X : Nat × (Nat → Int32)) (σ : XH) (f : Int32) (h : okT (mTS σ)) (hf : 0 ≤ f ∧ f ≤ 2000) : wF (fX8_signalFor X [xR 7 0, xI f] σ) (apiNo σ (fstN (sgP (mTS σ) f) 0 1001) 0) := by
  have hl := lX8_signalFor X σ f h 1001 0 98997 rfl
  rw [uX8_signalFor]
  refine wI_s (N := 99999) ?_
  refine wF_of (iX8_y X σ hf) ?_
  refine And.intro (fun h => absurd h (by decide)) (fun _ => ?_)
  exact hl
set_option maxRecDepth 100000 in
set_option maxHeartbeats 1000000 in
theorem wX8_signalFor_r (X : Nat × (Nat → Int32)) (σ : XH) (f : Int32) (hf : ¬ (0 ≤ f ∧ f ≤ 2000)) : wF (fX8_signalFor X [xR 7 0, xI f] σ) (apiNo σ 0 1) := by
  rw [uX8_signalFor]
  refine wI_s (N := 99999) ?_
  refine wF_of (iX8_n X σ hf) ?_
  refine And.intro (fun _ => ?_) (fun h => absurd rfl h)
  refine wF_of (eX8_fails X _ _) ?_
  exact ⟨_, rfl, SK.u (by decide), mTS_u7, by rw [xu_eq, if_pos rfl]; rfl, KM.u (by decide)⟩
abbrev xFa (X : Nat × (Nat → Int32)) (N pc : Nat) (lv : XL) (σ : XH) : Option (XR × XH) := xIter X (xEnv (nX8_falls X)) (fun _ _ => some none) 0 [(8, [0, 1, 2])] tX8_falls N (pc, lv, σ, 0)
abbrev xFt (X : Nat × (Nat → Int32)) (N pc : Nat) (lv : XL) (σ : XH) : Option (XR × XH) := xIter X (xEnv (nX8_flats X)) (fun _ _ => some none) 0 [(4, [0, 1, 2])] tX8_flats N (pc, lv, σ, 0)
set_option maxRecDepth 100000 in
set_option maxHeartbeats 1000000 in
theorem lX8_falls (X : Nat × (Nat → Int32)) (σ : XH) (h : okT (mTS σ)) : ∀ (m k N : Nat), k + 1 + m = 1001 → wF (xFa X (N + m + 1) 8 [(0, xR 7 0), (1, xI (idealT (mTS σ) (oN k))), (2, xI (oN (k + 1)))] σ) (fun r => r = (.inl (some (xI (fstN (flP (mTS σ)) (k + 1) m))), σ)) := by
  intro m
  induction m with
  | zero =>
    intro k N hk
    have : k = 1000 := by omega
    subst this
    refine wI_s (N := N + 0) ?_
    refine And.intro (fun _ => ?_) (fun h => absurd (by decide) h)
    rfl
  | succ m ih =>
    intro k N hk
    refine wI_s (N := N + (m + 1)) ?_
    refine And.intro (fun q => ?_) (fun _ => ?_)
    · have q : oN 1000 < oN (k + 1) := q
      rw [oN_lt (by decide) (by omega)] at q
      omega
    refine wF_of (eX8_ideal X σ _ (okT_D h)) ?_
    refine And.intro (fun c => ?_) (fun c => ?_)
    · have c : idealT (mTS σ) (oN k) ≤ idealT (mTS σ) (oN (k + 1)) := c
      unfold fstN
      rw [if_neg (by unfold flP; rw [decide_eq_true_eq, Nat.add_sub_cancel]; exact Int32.not_lt.mpr c)]
      have := ih (k + 1) N (by omega)
      rw [← oN_1 (k := k + 1)] at this
      exact this
    · have c : ¬ idealT (mTS σ) (oN k) ≤ idealT (mTS σ) (oN (k + 1)) := c
      unfold fstN
      rw [if_pos (by unfold flP; rw [decide_eq_true_eq, Nat.add_sub_cancel]; exact Int32.not_le.mp c)]
      rfl
set_option maxRecDepth 100000 in
set_option maxHeartbeats 1000000 in
theorem eX8_falls (X : Nat × (Nat → Int32)) (σ : XH) (h : okT (mTS σ)) : fX8_falls X [xR 7 0] σ = some (.inl (some (xI (fstN (flP (mTS σ)) 1 1000))), σ) := by
  have hl := lX8_falls X σ h 1000 0 98998 rfl
  rw [uX8_falls]
  refine wF_eq (wI_s (N := 99999) ?_)
  refine wF_of (eX8_ideal X σ _ (okT_D h)) ?_
  exact hl
set_option maxRecDepth 100000 in
set_option maxHeartbeats 1000000 in
theorem lX8_flats (X : Nat × (Nat → Int32)) (σ : XH) (h : okT (mTS σ)) : ∀ (m k N : Nat), k + m = 1000 → wF (xFt X (N + m + 1) 4 [(0, xR 7 0), (1, xI (cntN (ftP (mTS σ)) k)), (2, xI (oN (k + 1)))] σ) (fun r => r = (.inl (some (xI (cntN (ftP (mTS σ)) 1000))), σ)) := by
  have hD := okT_D h
  intro m
  induction m with
  | zero =>
    intro k N hk
    have : k = 1000 := by omega
    subst this
    refine wI_s (N := N + 0) ?_
    refine And.intro (fun _ => ?_) (fun h => absurd (by decide) h)
    rfl
  | succ m ih =>
    intro k N hk
    have next : ∀ x, x = cntN (ftP (mTS σ)) (k + 1) → wF (xFt X (N + (m + 1)) 4 [(0, xR 7 0), (1, xI x), (2, xI (oN (k + 1) + 1))] σ) (fun r => r = (.inl (some (xI (cntN (ftP (mTS σ)) 1000))), σ)) := by
      rintro x rfl
      rw [oN_1]
      exact ih (k + 1) N (by omega)
    have em : oN (k + 1) - 1 = oN k := by
      rw [← oN_1]
      grind
    refine wI_s (N := N + (m + 1)) ?_
    refine And.intro (fun q => ?_) (fun _ => ?_)
    · have q : oN 1000 < oN (k + 1) := q
      rw [oN_lt (by decide) (by omega)] at q
      omega
    refine wF_of (eX8_demand_0 X σ _ hD.1) ?_
    refine wF_of (eX8_demand_0 X σ _ hD.1) ?_
    refine And.intro (fun c => ?_) (fun c => ?_)
    · have c : demV (mTS σ).2.1 (oN (k + 1)) = demV (mTS σ).2.1 (oN (k + 1) - 1) := c
      refine wF_of (eX8_demand_1 X σ _ hD.2) ?_
      refine wF_of (eX8_demand_1 X σ _ hD.2) ?_
      refine And.intro (fun d => ?_) (fun d => ?_)
      · have d : demV (mTS σ).2.2.1 (oN (k + 1)) = demV (mTS σ).2.2.1 (oN (k + 1) - 1) := d
        refine next _ ?_
        rw [em] at c d
        show _ = cntN (ftP (mTS σ)) k + _
        rw [if_pos (by unfold ftP; rw [decide_eq_true_eq, Nat.add_sub_cancel]; exact ⟨c, d⟩)]
        rfl
      · have d : ¬ demV (mTS σ).2.2.1 (oN (k + 1)) = demV (mTS σ).2.2.1 (oN (k + 1) - 1) := d
        refine next _ ?_
        rw [em] at d
        show _ = cntN (ftP (mTS σ)) k + _
        rw [if_neg (by unfold ftP; rw [decide_eq_true_eq, Nat.add_sub_cancel]; exact fun q => d q.2)]
        rfl
    · have c : ¬ demV (mTS σ).2.1 (oN (k + 1)) = demV (mTS σ).2.1 (oN (k + 1) - 1) := c
      refine next _ ?_
      rw [em] at c
      show _ = cntN (ftP (mTS σ)) k + _
      rw [if_neg (by unfold ftP; rw [decide_eq_true_eq, Nat.add_sub_cancel]; exact fun q => c q.1)]
      rfl
set_option maxRecDepth 100000 in
set_option maxHeartbeats 1000000 in
theorem eX8_flats (X : Nat × (Nat → Int32)) (σ : XH) (h : okT (mTS σ)) : fX8_flats X [xR 7 0] σ = some (.inl (some (xI (cntN (ftP (mTS σ)) 1000))), σ) := by
  have hl := lX8_flats X σ h 1000 0 98998 rfl
  rw [uX8_flats]
  refine wF_eq (wI_s (N := 99999) ?_)
  exact hl
set_option maxRecDepth 100000 in
set_option maxHeartbeats 1000000 in
theorem wX8_flatSignals (X : Nat × (Nat → Int32)) (σ : XH) (h : okT (mTS σ)) : wF (fX8_flatSignals X [xR 7 0] σ) (apiNo σ (cntN (ftP (mTS σ)) 1000) 0) := by
  rw [uX8_flatSignals]
  refine wI_s (N := 99999) ?_
  refine wF_of (eX8_flats X σ h) ?_
  refine wF_of (eX8_tells X _ _) ?_
  exact tl_ok
set_option maxRecDepth 100000 in
set_option maxHeartbeats 1000000 in
theorem wX8_firstFall (X : Nat × (Nat → Int32)) (σ : XH) (h : okT (mTS σ)) : wF (fX8_firstFall X [xR 7 0] σ) (apiNo σ (fstN (flP (mTS σ)) 1 1000) 0) := by
  rw [uX8_firstFall]
  refine wI_s (N := 99999) ?_
  refine wF_of (eX8_falls X σ h) ?_
  refine wF_of (eX8_tells X _ _) ?_
  exact tl_ok
