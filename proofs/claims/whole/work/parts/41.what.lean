/-! ===== what-if questions that let ticks pass ===== -/
def rsP (t : TS) (k : Nat) : Bool := decide (¬ mvT (itT t (k - 1)))
def wnP (t : TS) (v : Nat) (w : Int32) (n : Nat) : Bool := decide (w ≤ wearV (vT (itT t n) v))
def msT (t : TS) (n : Nat) : Int32 := (itT t n).1 7 - t.1 7
theorem rs_t {σ τ : XH} (h : NF (hS σ) τ) : mTS (cpS τ 2 0 4 0 102) = mTS σ := by
  refine Eq.trans ?_ (h.2.2.trans hS_a)
  refine aTS_cg fun i hi => ?_
  unfold cpS
  dsimp only
  rw [if_pos (by omega), show 0 + (0 + i - 0) = 0 + i by omega]
theorem rs_ok {σ τ : XH} {a : Int32} (h : NF (hS σ) τ) : apiNo σ a 0 (.inl (some (.inl a)), xuI (cpS τ 2 0 4 0 102) 7 0 6 0) :=
  ⟨_, rfl, (hS_S.tr h.2.1).tr ((SK.cp (by decide)).tr (SK.u (by decide))), mTS_u7.trans (rs_t h), by rw [xu_eq, if_pos rfl], (hS_K.tr h.1).tr ((KM.cp (by decide) (by decide)).tr (KM.u (by decide)))⟩
abbrev xRa (X : Nat × (Nat → Int32)) (N pc : Nat) (lv : XL) (σ : XH) : Option (XR × XH) := xIter X (xEnv (nX8_restAfter X)) (fun _ _ => some none) 0 [(26, [0, 1, 2, 3])] tX8_restAfter N (pc, lv, σ, 0)
set_option maxRecDepth 100000 in
set_option maxHeartbeats 1000000 in
theorem lX8_restAfter (X : Nat × (Nat → Int32)) (σ : XH) (n : Nat) (hn : n ≤ 500) (h : okT (mTS σ)) : ∀ (m q N : Nat) (τ : XH), q + m = n → mTS τ = itT (mTS σ) q → NF (hS σ) τ → wF (xRa X (N + m + 2) 26 [(0, xR 7 0), (1, xI (oN n)), (2, xI (-1000000)), (3, xI (oN (q + 1)))] τ) (apiNo σ (fstN (rsP (mTS σ)) (q + 1) m) 0) := by
  intro m
  induction m with
  | zero =>
    intro q N τ hk h1 h2
    have : q = n := by omega
    subst this
    refine wI_s (N := N + 1) ?_
    refine And.intro (fun _ => ?_) (fun h => absurd ((oN_lt (by omega) (by omega)).mpr (Nat.lt_succ_self q)) h)
    refine wF_of (eX8_restore X τ) ?_
    refine wF_of (eX8_tells X _ _) ?_
    exact rs_ok h2
  | succ m ih =>
    intro q N τ hk h1 h2
    have hok : okT (mTS τ) := by
      rw [h1]
      exact okT_it h q
    obtain ⟨r, a1, σ1, rfl, a2, a3⟩ := wX8_tick X τ hok
    have h3 : NF (hS σ) σ1 := h2.tr (NF.pm a3)
    refine wI_s (N := N + m + 2) ?_
    refine And.intro (fun c => ?_) (fun _ => ?_)
    · have c : oN n < oN (q + 1) := c
      rw [oN_lt (by omega) (by omega)] at c
      omega
    refine And.intro (fun _ => ?_) (fun h => absurd rfl h)
    unfold fstN
    by_cases hm : mvT (mTS τ)
    · rw [if_pos hm] at a1
      refine wF_of a1 ?_
      refine And.intro (fun h => absurd h (by decide)) (fun _ => ?_)
      rw [if_neg (by unfold rsP; rw [decide_eq_true_eq, Nat.add_sub_cancel, ← h1]; exact fun z => z hm)]
      have := ih (q + 1) N σ1 (by omega) (by rw [a2, h1]; rfl) h3
      rw [← oN_1 (k := q + 1)] at this
      exact this
    · rw [if_neg hm] at a1
      refine wF_of a1 ?_
      refine And.intro (fun _ => ?_) (fun h => absurd rfl h)
      rw [if_pos (by unfold rsP; rw [decide_eq_true_eq, Nat.add_sub_cancel, ← h1]; exact hm)]
      refine wI_s (N := N + m + 1) ?_
      refine And.intro (fun _ => ?_) (fun _ => ?_)
      · refine wF_of (eX8_restore X σ1) ?_
        refine wF_of (eX8_tells X _ _) ?_
        exact rs_ok h3
      · refine And.intro (fun c => ?_) (fun _ => ?_)
        · have c : oN (q + 1) = -1000000 := c
          have := oN_nn (n := q + 1) (by omega)
          rw [c] at this
          exact absurd this (by decide)
        · refine wF_of (eX8_restore X σ1) ?_
          refine wF_of (eX8_tells X _ _) ?_
          exact rs_ok h3
set_option maxRecDepth 100000 in
set_option maxHeartbeats 1000000 in
theorem wX8_restAfter (X : Nat × (Nat → Int32)) (σ : XH) (n : Nat) (h1 : 1 ≤ n) (hn : n ≤ 500) (h : okT (mTS σ)) : wF (fX8_restAfter X [xR 7 0, xI (oN n)] σ) (apiNo σ (fstN (rsP (mTS σ)) 1 n) 0) := by
  have hl := lX8_restAfter X σ n hn h n 0 (99997 - n) (hS σ) (by omega) hS_t NF.rf
  rw [show 99997 - n + n + 2 = 99999 by omega] at hl
  rw [uX8_restAfter]
  refine wI_s (N := 99999) ?_
  refine wF_of (iX8_y X σ (oN_in (l := 1) (m := 500) h1 hn (by decide))) ?_
  refine And.intro (fun h => absurd h (by decide)) (fun _ => ?_)
  refine wF_of (eX8_hold X σ) ?_
  exact hl
set_option maxRecDepth 100000 in
set_option maxHeartbeats 1000000 in
theorem wX8_restAfter_r (X : Nat × (Nat → Int32)) (σ : XH) (n : Int32) (hn : ¬ (1 ≤ n ∧ n ≤ 500)) : wF (fX8_restAfter X [xR 7 0, xI n] σ) (apiNo σ 0 1) := by
  rw [uX8_restAfter]
  refine wI_s (N := 99999) ?_
  refine wF_of (iX8_n X σ hn) ?_
  refine And.intro (fun _ => ?_) (fun h => absurd rfl h)
  refine wF_of (eX8_fails X _ _) ?_
  exact ⟨_, rfl, SK.u (by decide), mTS_u7, by rw [xu_eq, if_pos rfl]; rfl, KM.u (by decide)⟩
abbrev xWa (X : Nat × (Nat → Int32)) (N pc : Nat) (lv : XL) (σ : XH) : Option (XR × XH) := xIter X (xEnv (nX8_wornAfter X)) (fun _ _ => some none) 0 [(47, [0, 1, 2, 3, 4])] tX8_wornAfter N (pc, lv, σ, 0)
set_option maxRecDepth 100000 in
set_option maxHeartbeats 1000000 in
theorem lX8_wornAfter (X : Nat × (Nat → Int32)) (σ : XH) (v n : Nat) (w : Int32) (hv : v < 2) (hn : n ≤ 500) (h : okT (mTS σ)) : ∀ (m q N : Nat) (τ : XH), q + m = n → mTS τ = itT (mTS σ) q → NF (hS σ) τ → wF (xWa X (N + m + 1) 47 [(0, xR 7 0), (1, xI (oN v)), (2, xI w), (3, xI (oN n)), (4, xI (oN q))] τ) (apiNo σ (fstN (wnP (mTS σ) v w) q (m + 1)) 0) := by
  intro m
  induction m with
  | zero =>
    intro q N τ hk h1 h2
    have : q = n := by omega
    subst this
    have hw := wX8_wear X τ hv
    rw [h1] at hw
    refine wI_s (N := N + 0) ?_
    refine wF_of hw ?_
    unfold fstN
    refine And.intro (fun c => ?_) (fun c => ?_)
    · have c : w ≤ wearV (vT (itT (mTS σ) q) v) := c
      rw [if_pos (by unfold wnP; rw [decide_eq_true_eq]; exact c)]
      refine wF_of hw ?_
      refine And.intro (fun z => absurd z (Int32.not_lt.mpr c)) (fun _ => ?_)
      refine wF_of (eX8_restore X τ) ?_
      refine And.intro (fun h => absurd h (by decide)) (fun _ => ?_)
      refine wF_of (eX8_tells X _ _) ?_
      exact rs_ok h2
    · have c : ¬ w ≤ wearV (vT (itT (mTS σ) q) v) := c
      rw [if_neg (by unfold wnP; rw [decide_eq_true_eq]; exact c)]
      refine And.intro (fun _ => ?_) (fun h => absurd (Int32.le_refl _) h)
      refine wF_of hw ?_
      refine And.intro (fun _ => ?_) (fun z => absurd (Int32.not_le.mp c) z)
      refine wF_of (eX8_restore X τ) ?_
      refine And.intro (fun _ => ?_) (fun h => absurd rfl h)
      refine wF_of (eX8_tells X _ _) ?_
      exact rs_ok h2
  | succ m ih =>
    intro q N τ hk h1 h2
    have hok : okT (mTS τ) := by
      rw [h1]
      exact okT_it h q
    obtain ⟨r, a1, σ1, rfl, a2, a3⟩ := wX8_tick X τ hok
    have h3 : NF (hS σ) σ1 := h2.tr (NF.pm a3)
    have hw := wX8_wear X τ hv
    rw [h1] at hw
    refine wI_s (N := N + (m + 1)) ?_
    refine wF_of hw ?_
    unfold fstN
    refine And.intro (fun c => ?_) (fun c => ?_)
    · have c : w ≤ wearV (vT (itT (mTS σ) q) v) := c
      rw [if_pos (by unfold wnP; rw [decide_eq_true_eq]; exact c)]
      refine wF_of hw ?_
      refine And.intro (fun z => absurd z (Int32.not_lt.mpr c)) (fun _ => ?_)
      refine wF_of (eX8_restore X τ) ?_
      refine And.intro (fun h => absurd h (by decide)) (fun _ => ?_)
      refine wF_of (eX8_tells X _ _) ?_
      exact rs_ok h2
    · have c : ¬ w ≤ wearV (vT (itT (mTS σ) q) v) := c
      rw [if_neg (by unfold wnP; rw [decide_eq_true_eq]; exact c)]
      refine And.intro (fun z => ?_) (fun _ => ?_)
      · have z : oN n ≤ oN q := z
        rw [oN_le (by omega) (by omega)] at z
        omega
      refine wF_of a1 ?_
      have := ih (q + 1) N σ1 (by omega) (by rw [a2, h1]; rfl) h3
      rw [← oN_1] at this
      exact this
set_option maxRecDepth 100000 in
set_option maxHeartbeats 1000000 in
theorem wX8_wornAfter (X : Nat × (Nat → Int32)) (σ : XH) (v n : Nat) (w : Int32) (hv : v < 2) (hw : 0 ≤ w ∧ w ≤ 100000) (hn : n ≤ 500) (h : okT (mTS σ)) : wF (fX8_wornAfter X [xR 7 0, xI (oN v), xI w, xI (oN n)] σ) (apiNo σ (fstN (wnP (mTS σ) v w) 0 (n + 1)) 0) := by
  have hl := lX8_wornAfter X σ v n w hv hn h n 0 (99998 - n) (hS σ) (by omega) hS_t NF.rf
  rw [show 99998 - n + n + 1 = 99999 by omega] at hl
  rw [uX8_wornAfter]
  refine wI_s (N := 99999) ?_
  refine wF_of (vX8_y X σ hv) ?_
  refine And.intro (fun h => absurd h (by decide)) (fun _ => ?_)
  refine wF_of (iX8_y X σ hw) ?_
  refine And.intro (fun h => absurd h (by decide)) (fun _ => ?_)
  refine wF_of (iX8_y X σ (oN_in (l := 0) (m := 500) (by omega) hn (by decide))) ?_
  refine And.intro (fun h => absurd h (by decide)) (fun _ => ?_)
  refine wF_of (eX8_hold X σ) ?_
  exact hl
set_option maxRecDepth 100000 in
set_option maxHeartbeats 1000000 in
theorem wX8_wornAfter_v (X : Nat × (Nat → Int32)) (σ : XH) (v w n : Int32) (hv : ¬ (0 ≤ v ∧ v ≤ 1)) : wF (fX8_wornAfter X [xR 7 0, xI v, xI w, xI n] σ) (apiNo σ 0 1) := by
  rw [uX8_wornAfter]
  refine wI_s (N := 99999) ?_
  refine wF_of (vX8_n X σ hv) ?_
  refine And.intro (fun _ => ?_) (fun h => absurd rfl h)
  refine wF_of (eX8_fails X _ _) ?_
  exact ⟨_, rfl, SK.u (by decide), mTS_u7, by rw [xu_eq, if_pos rfl]; rfl, KM.u (by decide)⟩
set_option maxRecDepth 100000 in
set_option maxHeartbeats 1000000 in
theorem wX8_wornAfter_r (X : Nat × (Nat → Int32)) (σ : XH) (v : Nat) (w n : Int32) (hv : v < 2) (hn : ¬ ((0 ≤ w ∧ w ≤ 100000) ∧ 0 ≤ n ∧ n ≤ 500)) : wF (fX8_wornAfter X [xR 7 0, xI (oN v), xI w, xI n] σ) (apiNo σ 0 2) := by
  rw [uX8_wornAfter]
  refine wI_s (N := 99999) ?_
  refine wF_of (vX8_y X σ hv) ?_
  refine And.intro (fun h => absurd h (by decide)) (fun _ => ?_)
  by_cases c : (0 : Int32) ≤ w ∧ w ≤ 100000
  · refine wF_of (iX8_y X σ c) ?_
    refine And.intro (fun h => absurd h (by decide)) (fun _ => ?_)
    refine wF_of (iX8_n X σ (fun q => hn ⟨c, q⟩)) ?_
    refine And.intro (fun _ => ?_) (fun h => absurd rfl h)
    refine wF_of (eX8_fails X _ _) ?_
    exact ⟨_, rfl, SK.u (by decide), mTS_u7, by rw [xu_eq, if_pos rfl]; rfl, KM.u (by decide)⟩
  · refine wF_of (iX8_n X σ c) ?_
    refine And.intro (fun _ => ?_) (fun h => absurd rfl h)
    refine wF_of (eX8_fails X _ _) ?_
    exact ⟨_, rfl, SK.u (by decide), mTS_u7, by rw [xu_eq, if_pos rfl]; rfl, KM.u (by decide)⟩
abbrev xMw (X : Nat × (Nat → Int32)) (N pc : Nat) (lv : XL) (σ : XH) : Option (XR × XH) := xIter X (xEnv (nX8_missedWithin X)) (fun _ _ => some none) 0 [(31, [0, 1, 2, 3])] tX8_missedWithin N (pc, lv, σ, 0)
set_option maxRecDepth 100000 in
set_option maxHeartbeats 1000000 in
theorem lX8_missedWithin (X : Nat × (Nat → Int32)) (σ : XH) (n : Nat) (hn : n ≤ 500) (h : okT (mTS σ)) : ∀ (m q N : Nat) (τ : XH), q + m = n → mTS τ = itT (mTS σ) q → NF (hS σ) τ → wF (xMw X (N + m + 1) 31 [(0, xR 7 0), (1, xI (oN n)), (2, xI ((mTS σ).1 7)), (3, xI (oN q))] τ) (apiNo σ (msT (mTS σ) n) 0) := by
  intro m
  induction m with
  | zero =>
    intro q N τ hk h1 h2
    have : q = n := by omega
    subst this
    refine wI_s (N := N + 0) ?_
    refine And.intro (fun _ => ?_) (fun h => absurd (Int32.le_refl _) h)
    refine And.intro (by decide) ?_
    refine wF_of (eX8_restore X τ) ?_
    refine wF_of (eX8_tells X _ _) ?_
    have e : msT (mTS σ) q = τ.1 9 2 7 - (mTS σ).1 7 := by
      unfold msT
      rw [← h1]
      rfl
    rw [e]
    exact rs_ok h2
  | succ m ih =>
    intro q N τ hk h1 h2
    have hok : okT (mTS τ) := by
      rw [h1]
      exact okT_it h q
    obtain ⟨r, a1, σ1, rfl, a2, a3⟩ := wX8_tick X τ hok
    refine wI_s (N := N + (m + 1)) ?_
    refine And.intro (fun z => ?_) (fun _ => ?_)
    · have z : oN n ≤ oN q := z
      rw [oN_le (by omega) (by omega)] at z
      omega
    refine wF_of a1 ?_
    have := ih (q + 1) N σ1 (by omega) (by rw [a2, h1]; rfl) (h2.tr (NF.pm a3))
    rw [← oN_1] at this
    exact this
set_option maxRecDepth 100000 in
set_option maxHeartbeats 1000000 in
theorem wX8_missedWithin (X : Nat × (Nat → Int32)) (σ : XH) (n : Nat) (h1 : 1 ≤ n) (hn : n ≤ 500) (h : okT (mTS σ)) : wF (fX8_missedWithin X [xR 7 0, xI (oN n)] σ) (apiNo σ (msT (mTS σ) n) 0) := by
  have hl := lX8_missedWithin X σ n hn h n 0 (99998 - n) (hS σ) (by omega) hS_t NF.rf
  rw [show 99998 - n + n + 1 = 99999 by omega] at hl
  have e : (mTS σ).1 7 = (hS σ).1 9 2 7 := (congrArg (fun t : TS => t.1 7) (hS_t (σ := σ))).symm
  rw [e] at hl
  rw [uX8_missedWithin]
  refine wI_s (N := 99999) ?_
  refine wF_of (iX8_y X σ (oN_in (l := 1) (m := 500) h1 hn (by decide))) ?_
  refine And.intro (fun h => absurd h (by decide)) (fun _ => ?_)
  refine wF_of (eX8_hold X σ) ?_
  refine And.intro (by decide) ?_
  exact hl
set_option maxRecDepth 100000 in
set_option maxHeartbeats 1000000 in
theorem wX8_missedWithin_r (X : Nat × (Nat → Int32)) (σ : XH) (n : Int32) (hn : ¬ (1 ≤ n ∧ n ≤ 500)) : wF (fX8_missedWithin X [xR 7 0, xI n] σ) (apiNo σ 0 1) := by
  rw [uX8_missedWithin]
  refine wI_s (N := 99999) ?_
  refine wF_of (iX8_n X σ hn) ?_
  refine And.intro (fun _ => ?_) (fun h => absurd rfl h)
  refine wF_of (eX8_fails X _ _) ?_
  exact ⟨_, rfl, SK.u (by decide), mTS_u7, by rw [xu_eq, if_pos rfl]; rfl, KM.u (by decide)⟩
/-- an answer of the class that leaves all but the copy for what-if questions -/
def cNo (σ : XH) (a : Int32) (r : XR × XH) : Prop := ∃ σ', r = (.inl (some (xI a)), σ') ∧ xFr (PT 1) σ σ'
abbrev xCr (X : Nat × (Nat → Int32)) (N pc : Nat) (lv : XL) (σ : XH) : Option (XR × XH) := xIter X (xEnv (nX7_restAfter X)) (fun _ _ => some none) 0 [(20, [0, 1, 2])] tX7_restAfter N (pc, lv, σ, 0)
set_option maxRecDepth 100000 in
set_option maxHeartbeats 1000000 in
theorem lX7_restAfter (X : Nat × (Nat → Int32)) (σ : XH) (n : Nat) (hn : n ≤ 500) (h : okT (cTS σ 0)) : ∀ (m q N : Nat) (τ : XH), q + m = n → cTS τ 1 = itT (cTS σ 0) q → xFr (PT 1) σ τ → wF (xCr X (N + m + 1) 20 [(0, xR 6 0), (1, xI (oN n)), (2, xI (oN (q + 1)))] τ) (cNo σ (fstN (rsP (cTS σ 0)) (q + 1) m)) := by
  intro m
  induction m with
  | zero =>
    intro q N τ hk h1 h2
    have : q = n := by omega
    subst this
    refine wI_s (N := N + 0) ?_
    refine And.intro (fun _ => ?_) (fun h => absurd ((oN_lt (by omega) (by omega)).mpr (Nat.lt_succ_self q)) h)
    exact ⟨τ, rfl, h2⟩
  | succ m ih =>
    intro q N τ hk h1 h2
    have hok : okT (cTS τ 1) := by
      rw [h1]
      exact okT_it h q
    obtain ⟨r, a1, σ1, rfl, a2, a3⟩ := wX4_tick X τ 1 hok
    refine wI_s (N := N + (m + 1)) ?_
    refine And.intro (fun c => ?_) (fun _ => ?_)
    · have c : oN n < oN (q + 1) := c
      rw [oN_lt (by omega) (by omega)] at c
      omega
    unfold fstN
    by_cases hm : mvT (cTS τ 1)
    · rw [if_pos hm] at a1
      refine wF_of a1 ?_
      refine And.intro (fun h => absurd h (by decide)) (fun _ => ?_)
      rw [if_neg (by unfold rsP; rw [decide_eq_true_eq, Nat.add_sub_cancel, ← h1]; exact fun z => z hm)]
      have := ih (q + 1) N σ1 (by omega) (by rw [a2, h1]; rfl) (h2.tr a3)
      rw [← oN_1 (k := q + 1)] at this
      exact this
    · rw [if_neg hm] at a1
      refine wF_of a1 ?_
      refine And.intro (fun _ => ?_) (fun h => absurd rfl h)
      rw [if_pos (by unfold rsP; rw [decide_eq_true_eq, Nat.add_sub_cancel, ← h1]; exact hm)]
      exact ⟨σ1, rfl, h2.tr a3⟩
set_option maxRecDepth 100000 in
set_option maxHeartbeats 1000000 in
theorem wX7_restAfter (X : Nat × (Nat → Int32)) (σ : XH) (n : Nat) (h1 : 1 ≤ n) (hn : n ≤ 500) (h : okT (cTS σ 0)) : wF (fX7_restAfter X [xR 6 0, xI (oN n)] σ) (cNo σ (fstN (rsP (cTS σ 0)) 1 n)) := by
  obtain ⟨r, b1, σ1, rfl, b2, b3⟩ := wX4_copy X σ 1 0 (by decide) h
  have hl := lX7_restAfter X σ n hn h n 0 (99998 - n) σ1 (by omega) b2 b3
  rw [show 99998 - n + n + 1 = 99999 by omega] at hl
  rw [uX7_restAfter]
  refine wI_s (N := 99999) ?_
  have c1 := eX7_isTicks X σ (oN n)
  rw [if_pos (show (1 : Int32) ≤ oN n ∧ oN n ≤ 500 from oN_in (l := 1) (m := 500) h1 hn (by decide))] at c1
  refine wF_of c1 ?_
  refine wF_of (eX7_refuse_y X σ) ?_
  refine wF_of b1 ?_
  exact hl
set_option maxRecDepth 100000 in
set_option maxHeartbeats 1000000 in
theorem wX7_restAfter_r (X : Nat × (Nat → Int32)) (σ : XH) (n : Int32) (hn : ¬ (1 ≤ n ∧ n ≤ 500)) : fX7_restAfter X [xR 6 0, xI n] σ = some (.inr 1, σ) := by
  rw [uX7_restAfter]
  refine wF_eq (wI_s (N := 99999) ?_)
  have c1 := eX7_isTicks X σ n
  rw [if_neg hn] at c1
  refine wF_of c1 ?_
  refine wF_of (eX7_refuse_n X σ) ?_
  rfl
set_option maxRecDepth 100000 in
set_option maxHeartbeats 1000000 in
theorem wX7_missedWithin (X : Nat × (Nat → Int32)) (σ : XH) (n : Nat) (h1 : 1 ≤ n) (hn : n ≤ 500) (h : okT (cTS σ 0)) : wF (fX7_missedWithin X [xR 6 0, xI (oN n)] σ) (cNo σ (msT (cTS σ 0) n)) := by
  obtain ⟨r, b1, σ1, rfl, b2, b3⟩ := wX4_copy X σ 1 0 (by decide) h
  obtain ⟨r, d1, σ2, rfl, d2, d3⟩ := wX4_pass X σ1 1 n hn (by rw [b2]; exact h)
  rw [uX7_missedWithin]
  refine wI_s (N := 99999) ?_
  have c1 := eX7_isTicks X σ (oN n)
  rw [if_pos (show (1 : Int32) ≤ oN n ∧ oN n ≤ 500 from oN_in (l := 1) (m := 500) h1 hn (by decide))] at c1
  refine wF_of c1 ?_
  refine wF_of (eX7_refuse_y X σ) ?_
  refine wF_of b1 ?_
  refine wF_of d1 ?_
  have e : msT (cTS σ 0) n = σ2.1 3 1 10 - σ2.1 3 0 10 := by
    have e1 : σ2.1 3 1 10 = (itT (cTS σ 0) n).1 7 := by
      rw [← b2, ← d2]
      rfl
    have e2 : σ2.1 3 0 10 = (cTS σ 0).1 7 := by
      rw [(b3.tr d3).1 _ _ _ (by unfold PT; omega)]
      rfl
    rw [e1, e2]
    rfl
  rw [e]
  exact ⟨σ2, rfl, b3.tr d3⟩
set_option maxRecDepth 100000 in
set_option maxHeartbeats 1000000 in
theorem wX7_missedWithin_r (X : Nat × (Nat → Int32)) (σ : XH) (n : Int32) (hn : ¬ (1 ≤ n ∧ n ≤ 500)) : fX7_missedWithin X [xR 6 0, xI n] σ = some (.inr 1, σ) := by
  rw [uX7_missedWithin]
  refine wF_eq (wI_s (N := 99999) ?_)
  have c1 := eX7_isTicks X σ n
  rw [if_neg hn] at c1
  refine wF_of c1 ?_
  refine wF_of (eX7_refuse_n X σ) ?_
  rfl
abbrev xCw (X : Nat × (Nat → Int32)) (N pc : Nat) (lv : XL) (σ : XH) (b : Nat) : Option (XR × XH) := xIter X (xEnv (nX7_wornAfter X)) (fun _ _ => some none) 0 [(57, [0, 2, 3, 4, 5])] tX7_wornAfter N (pc, lv, σ, b)
set_option maxRecDepth 100000 in
set_option maxHeartbeats 1000000 in
theorem lX7_wornAfter (X : Nat × (Nat → Int32)) (σ : XH) (v n b : Nat) (w : Int32) (hv : v < 2) (hn : n ≤ 500) (h : okT (cTS σ 0)) : ∀ (m q N : Nat) (τ : XH), q + m = n + 1 → cTS τ 1 = itT (cTS σ 0) q → xFr (PT 1) σ τ → wF (xCw X (N + m + 1) 57 [(0, xR 6 0), (2, xI w), (3, xI (oN n)), (4, xR 4 (2 * 1 + v)), (5, xI (oN q))] τ b) (cNo σ (fstN (wnP (cTS σ 0) v w) q m)) := by
  intro m
  induction m with
  | zero =>
    intro q N τ hk h1 h2
    have : q = n + 1 := by omega
    subst this
    refine wI_s (N := N + 0) ?_
    refine And.intro (fun _ => ?_) (fun h => absurd ((oN_lt (by omega) (by omega)).mpr (Nat.lt_succ_self n)) h)
    exact ⟨τ, rfl, h2⟩
  | succ m ih =>
    intro q N τ hk h1 h2
    have hok : okT (cTS τ 1) := by
      rw [h1]
      exact okT_it h q
    obtain ⟨r, a1, σ1, rfl, a2, a3⟩ := wX4_tick X τ 1 hok
    have hw := eX5_wear X τ (2 * 1 + v)
    rw [vC_T hv, h1] at hw
    refine wI_s (N := N + (m + 1)) ?_
    refine And.intro (fun c => ?_) (fun _ => ?_)
    · have c : oN n < oN q := c
      rw [oN_lt (by omega) (by omega)] at c
      omega
    refine wF_of hw ?_
    unfold fstN
    refine And.intro (fun c => ?_) (fun c => ?_)
    · have c : wearV (vT (itT (cTS σ 0) q) v) < w := c
      rw [if_neg (by unfold wnP; rw [decide_eq_true_eq]; exact Int32.not_le.mpr c)]
      refine wF_of a1 ?_
      have := ih (q + 1) N σ1 (by omega) (by rw [a2, h1]; rfl) (h2.tr a3)
      rw [← oN_1] at this
      exact this
    · have c : ¬ wearV (vT (itT (cTS σ 0) q) v) < w := c
      rw [if_pos (by unfold wnP; rw [decide_eq_true_eq]; exact Int32.not_lt.mp c)]
      exact ⟨τ, rfl, h2⟩
set_option maxRecDepth 100000 in
set_option maxHeartbeats 1000000 in
theorem wX7_wornAfter (X : Nat × (Nat → Int32)) (σ : XH) (v n : Nat) (w : Int32) (hv : v < 2) (hw : 0 ≤ w ∧ w ≤ 100000) (hn : n ≤ 500) (h : okT (cTS σ 0)) : wF (fX7_wornAfter X [xR 6 0, xI (oN v), xI w, xI (oN n)] σ) (cNo σ (fstN (wnP (cTS σ 0) v w) 0 (n + 1))) := by
  obtain ⟨r, b1, σ1, rfl, b2, b3⟩ := wX4_copy X σ 1 0 (by decide) h
  have hl := lX7_wornAfter X σ v n 0 w hv hn h (n + 1) 0 (99997 - n) σ1 (by omega) b2 b3
  rw [show 99997 - n + (n + 1) + 1 = 99999 by omega] at hl
  rw [uX7_wornAfter]
  refine wI_s (N := 99999) ?_
  refine wF_of (eX7_refV_y X σ (oN_01 hv)) ?_
  refine wF_of (wn_y X σ hw) ?_
  refine And.intro (fun h => absurd h (by decide)) (fun _ => ?_)
  refine wF_of (wn_y X σ (oN_in (l := 0) (m := 500) (by omega) hn (by decide))) ?_
  refine And.intro (fun h => absurd h (by decide)) (fun _ => ?_)
  refine wF_of (eX7_refuse_y X σ) ?_
  refine wF_of b1 ?_
  refine wF_of (eX4_at X σ1 1 v hv) ?_
  exact hl
set_option maxRecDepth 100000 in
set_option maxHeartbeats 1000000 in
theorem wX7_wornAfter_v (X : Nat × (Nat → Int32)) (σ : XH) (v w n : Int32) (hv : ¬ (0 ≤ v ∧ v ≤ 1)) : fX7_wornAfter X [xR 6 0, xI v, xI w, xI n] σ = some (.inr 0, σ) := by
  rw [uX7_wornAfter]
  refine wF_eq (wI_s (N := 99999) ?_)
  refine wF_of (eX7_refV_n X σ hv) ?_
  rfl
set_option maxRecDepth 100000 in
set_option maxHeartbeats 1000000 in
theorem wX7_wornAfter_r (X : Nat × (Nat → Int32)) (σ : XH) (v : Nat) (w n : Int32) (hv : v < 2) (hn : ¬ ((0 ≤ w ∧ w ≤ 100000) ∧ 0 ≤ n ∧ n ≤ 500)) : fX7_wornAfter X [xR 6 0, xI (oN v), xI w, xI n] σ = some (.inr 1, σ) := by
  rw [uX7_wornAfter]
  refine wF_eq (wI_s (N := 99999) ?_)
  refine wF_of (eX7_refV_y X σ (oN_01 hv)) ?_
  by_cases c : (0 : Int32) ≤ w ∧ w ≤ 100000
  · refine wF_of (wn_y X σ c) ?_
    refine And.intro (fun h => absurd h (by decide)) (fun _ => ?_)
    refine wF_of (wn_n X σ (fun q => hn ⟨c, q⟩)) ?_
    refine And.intro (fun _ => ?_) (fun h => absurd rfl h)
    refine wF_of (eX7_refuse_n X σ) ?_
    rfl
  · refine wF_of (wn_n X σ c) ?_
    refine And.intro (fun _ => ?_) (fun h => absurd rfl h)
    refine wF_of (eX7_refuse_n X σ) ?_
    rfl
