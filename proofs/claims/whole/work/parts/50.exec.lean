/-! ===== a command is carried out ===== -/
def pOK (t : TS) (k : Nat) (g : Nat → Int32) : Prop := match k with
  | 0 => (0 ≤ g 0 ∧ g 0 ≤ 1) ∧ gR (g 1) (g 2)
  | 1 => (0 ≤ g 0 ∧ g 0 ≤ 1) ∧ gR (g 1) (g 2)
  | 2 => (0 ≤ g 0 ∧ g 0 ≤ 1) ∧ gS (g 1) (g 2)
  | 3 => 0 ≤ g 0 ∧ g 0 ≤ 1000
  | 4 => gC4 2 (g 0)
  | 5 => True
  | 6 => 0 ≤ g 0 ∧ g 0 ≤ 1
  | _ => (1 ≤ g 0 ∧ g 0 ≤ 500) ∧ t.1 5 + g 0 ≤ 200000
def exT (t : TS) (k : Nat) (g : Nat → Int32) : TS := match k with
  | 0 => setV t (g 0).toNatClampNeg (rngV (vT t (g 0).toNatClampNeg) (g 1) (g 2) 0)
  | 1 => setV t (g 0).toNatClampNeg (rngV (vT t (g 0).toNatClampNeg) (g 1) (g 2) 1)
  | 2 => setV t (g 0).toNatClampNeg (updF (vT t (g 0).toNatClampNeg) (g 1).toNatClampNeg (g 2))
  | 3 => (updF t.1 0 (g 0), t.2)
  | 4 => (updF (updF t.1 3 (g 0)) 1 1, t.2)
  | 5 => (updF t.1 1 0, t.2)
  | 6 => setV t (g 0).toNatClampNeg (srvV (vT t (g 0).toNatClampNeg))
  | _ => itT t (g 0).toNatClampNeg
theorem v01 {x : Int32} (h : 0 ≤ x ∧ x ≤ 1) : x = oN x.toNatClampNeg ∧ x.toNatClampNeg < 2 := by
  obtain ⟨e1, e2⟩ := oN_of h.1
  have h2 := h.2
  rw [e1] at h2
  have := (oN_le (b := 1) e2 (by decide)).mp h2
  exact ⟨e1, by omega⟩
theorem gS_w {w x : Int32} (h : gS w x) : w = oN w.toNatClampNeg ∧ w.toNatClampNeg < 5 := by
  rcases h with ⟨rfl, -⟩ | ⟨rfl | rfl, -⟩ | ⟨rfl, -⟩ | ⟨rfl, -⟩ <;> decide
theorem gC_w {w x : Int32} (h : gC4 w x) : w = oN w.toNatClampNeg ∧ w.toNatClampNeg < 4 := by
  rcases h with ⟨rfl, -⟩ | ⟨rfl, -⟩ | ⟨rfl, -⟩ | ⟨rfl, -⟩ <;> decide
theorem t500 {x : Int32} (h : 1 ≤ x ∧ x ≤ 500) : x = oN x.toNatClampNeg ∧ 1 ≤ x.toNatClampNeg ∧ x.toNatClampNeg ≤ 500 := by
  obtain ⟨e1, e2⟩ := oN_of (Int32.le_trans (by decide) h.1)
  have h2 := h.2
  have h1 := h.1
  rw [e1] at h2 h1
  have a := (oN_le (b := 500) e2 (by decide)).mp h2
  have b := (oN_le (a := 1) (by decide) e2).mp h1
  exact ⟨e1, b, a⟩
theorem okT_V {t : TS} (h : okT t) {v : Nat} (hv : v < 2) {V : Nat → Int32} (hV : okV (vT t v) → okV V) : okT (setV t v V) := okT_set h hv (hV (okT_v h hv))
theorem okV_rng {V : Nat → Int32} {a b f : Int32} (h : okV V) (hg : gR a b) : okV (rngV V a b f) := by
  obtain ⟨h0, h4, h5, h7, h8, h10⟩ := h
  refine ⟨h0, h4, hg, ?_, h8, h10⟩
  show (if f = 0 then (0 : Int32) else 1) = 0 ∨ (if f = 0 then (0 : Int32) else 1) = 1
  split
  · exact Or.inl rfl
  · exact Or.inr rfl
theorem okV_sets {V : Nat → Int32} {x : Int32} (h : okV V) : ∀ w, w < 5 → gS (oN w) x → okV (updF V w x)
  | 0, _, hg => by
    obtain ⟨h0, h4, h5, h7, h8, h10⟩ := h
    rcases hg with ⟨-, hg⟩ | ⟨e | e, -⟩ | ⟨e, -⟩ | ⟨e, -⟩ <;> first | exact ⟨hg, h4, h5, h7, h8, h10⟩ | exact absurd e (by decide)
  | 1, _, hg => h
  | 2, _, hg => h
  | 3, _, hg => h
  | 4, _, hg => by
    obtain ⟨h0, h4, h5, h7, h8, h10⟩ := h
    rcases hg with ⟨e, -⟩ | ⟨e | e, -⟩ | ⟨e, -⟩ | ⟨-, hg⟩ <;> first | exact ⟨h0, hg, h5, h7, h8, h10⟩ | exact absurd e (by decide)
  | n + 5, q, _ => absurd q (by omega)
theorem okV_srv {V : Nat → Int32} (h : okV V) : okV (srvV V) := h
theorem okV_stm {V : Nat → Int32} {p : Int32} (h : okV V) (hp : 0 ≤ p ∧ p ≤ 1000) : okV (stmV V p) := by
  obtain ⟨h0, h4, h5, h7, h8, h10⟩ := h
  exact ⟨h0, h4, h5, h7, hp, Or.inl rfl⟩
theorem okT_sig {t : TS} {u : Int32} (h : okT t) (hu : 0 ≤ u ∧ u ≤ 1000) : okT (updF t.1 0 u, t.2) := by
  obtain ⟨h1, h2, h3, h4⟩ := h
  exact ⟨h1, h2, hu, h4⟩
theorem okT_tun {t : TS} {x : Int32} (h : okT t) : ∀ w, w < 4 → gC4 (oN w) x → okT (updF t.1 (1 + w) x, t.2)
  | 0, _, hg => by
    obtain ⟨h1, h2, h3, h4, h5⟩ := h
    rcases hg with ⟨-, hg⟩ | ⟨e, -⟩ | ⟨e, -⟩ | ⟨e, -⟩ <;> first | exact ⟨h1, h2, h3, (by have : x = 0 ∨ x = 1 := (by grind); exact this), h5⟩ | exact absurd e (by decide)
  | 1, _, hg => h
  | 2, _, hg => h
  | 3, _, hg => by
    obtain ⟨h1, h2, h3, h4, h5, h6⟩ := h
    rcases hg with ⟨e, -⟩ | ⟨e, -⟩ | ⟨e, -⟩ | ⟨-, hg⟩ <;> first | exact ⟨h1, h2, h3, h4, hg, h6⟩ | exact absurd e (by decide)
  | n + 4, q, _ => absurd q (by omega)
theorem okT_ex {t : TS} (h : okT t) {g : Nat → Int32} : ∀ k, pOK t k g → okT (exT t k g)
  | 0, q => okT_V h (v01 q.1).2 (fun z => okV_rng z q.2)
  | 1, q => okT_V h (v01 q.1).2 (fun z => okV_rng z q.2)
  | 2, q => okT_V h (v01 q.1).2 (fun z => okV_sets z _ (gS_w q.2).2 (by rw [← (gS_w q.2).1]; exact q.2))
  | 3, q => okT_sig h q
  | 4, q => okT_tun (t := (updF t.1 (1 + 2) (g 0), t.2)) (okT_tun h 2 (by decide) q) 0 (by decide) (Or.inl ⟨rfl, by decide, by decide⟩)
  | 5, _ => okT_tun h 0 (by decide) (Or.inl ⟨rfl, by decide, by decide⟩)
  | 6, q => okT_V h (v01 q).2 (fun z => okV_srv z)
  | n + 7, q => okT_it h _
set_option maxRecDepth 100000 in
set_option maxHeartbeats 1000000 in
theorem eX3_number (X : Nat × (Nat → Int32)) (σ : XH) (i : Nat) (hi : i < 3) : fX3_number X [xR 2 0, xI (oN i)] σ = some (.inl (some (xI (σ.1 9 1 i))), σ) := by
  have e : (oN i).toNatClampNeg = i := oN_nat (by omega)
  rw [uX3_number]
  refine wF_eq (wI_s (N := 99999) ?_)
  refine wF_of (wn_y X σ (oN_in (l := 0) (m := 2) (by omega) (by omega) (by decide))) ?_
  refine And.intro (fun h => absurd h (by decide)) (fun _ => ?_)
  refine And.intro ⟨oN_nn (by omega), by rw [e]; exact hi⟩ ?_
  exact congrArg (fun i => ((.inl (some (xI (σ.1 9 1 i))), σ) : XR × XH)) e
set_option maxRecDepth 100000 in
set_option maxHeartbeats 1000000 in
theorem wX7_isAllowed_0 (X : Nat × (Nat → Int32)) (σ : XH) : wF (fX7_isAllowed X [xR 6 0, xR 12 0] σ) (fun r => (pOK (cTS σ 0) 0 (fun i => σ.1 9 1 i) → r = (.inl (some (xI 1)), σ)) ∧ (¬ pOK (cTS σ 0) 0 (fun i => σ.1 9 1 i) → r = (.inl (some (xI 0)), σ))) := by
  rw [uX7_isAllowed]
  refine wI_s (N := 99999) ?_
  refine wF_of (eX3_number X σ 0 (by decide)) ?_
  refine wF_of (r := (.inl (some (xI 0)), σ)) rfl ?_
  refine And.intro (by decide) ?_
  refine And.intro (fun _ => ?_) (fun h => absurd (by decide) h)
  have c1 := eX7_isValve X σ (σ.1 9 1 0)
  by_cases c : 0 ≤ σ.1 9 1 0 ∧ σ.1 9 1 0 ≤ 1
  · rw [if_pos c] at c1
    refine wF_of c1 ?_
    refine And.intro (fun h => absurd h (by decide)) (fun _ => ?_)
    refine wF_of (eX3_number X σ 1 (by decide)) ?_
    refine wF_of (eX3_number X σ 2 (by decide)) ?_
    obtain ⟨r, d1, d2, d3⟩ := wX7_isRange X σ (σ.1 9 1 1) (σ.1 9 1 2)
    refine wF_of d1 ?_
    by_cases e : gR (σ.1 9 1 1) (σ.1 9 1 2)
    · rw [d2 e]
      refine And.intro (fun h => absurd h (by decide)) (fun _ => ?_)
      refine And.intro (Or.inr (by decide)) ?_
      exact ⟨fun _ => rfl, fun q => absurd ⟨c, e⟩ q⟩
    · rw [d3 e]
      refine And.intro (fun _ => ?_) (fun h => absurd rfl h)
      refine And.intro (Or.inl (by decide)) ?_
      exact ⟨fun q => absurd q.2 e, fun _ => rfl⟩
  · rw [if_neg c] at c1
    refine wF_of c1 ?_
    refine And.intro (fun _ => ?_) (fun h => absurd rfl h)
    refine And.intro (Or.inl (by decide)) ?_
    exact ⟨fun q => absurd q.1 c, fun _ => rfl⟩
set_option maxRecDepth 100000 in
set_option maxHeartbeats 1000000 in
theorem wX7_isAllowed_1 (X : Nat × (Nat → Int32)) (σ : XH) : wF (fX7_isAllowed X [xR 6 0, xR 12 1] σ) (fun r => (pOK (cTS σ 0) 1 (fun i => σ.1 9 1 i) → r = (.inl (some (xI 1)), σ)) ∧ (¬ pOK (cTS σ 0) 1 (fun i => σ.1 9 1 i) → r = (.inl (some (xI 0)), σ))) := by
  rw [uX7_isAllowed]
  refine wI_s (N := 99999) ?_
  refine wF_of (eX3_number X σ 0 (by decide)) ?_
  refine wF_of (r := (.inl (some (xI 1)), σ)) rfl ?_
  refine And.intro (by decide) ?_
  refine And.intro (fun h => absurd h (by decide)) (fun _ => ?_)
  refine And.intro (fun _ => ?_) (fun h => absurd (by decide) h)
  have c1 := eX7_isValve X σ (σ.1 9 1 0)
  by_cases c : 0 ≤ σ.1 9 1 0 ∧ σ.1 9 1 0 ≤ 1
  · rw [if_pos c] at c1
    refine wF_of c1 ?_
    refine And.intro (fun h => absurd h (by decide)) (fun _ => ?_)
    refine wF_of (eX3_number X σ 1 (by decide)) ?_
    refine wF_of (eX3_number X σ 2 (by decide)) ?_
    obtain ⟨r, d1, d2, d3⟩ := wX7_isRange X σ (σ.1 9 1 1) (σ.1 9 1 2)
    refine wF_of d1 ?_
    by_cases e : gR (σ.1 9 1 1) (σ.1 9 1 2)
    · rw [d2 e]
      refine And.intro (fun h => absurd h (by decide)) (fun _ => ?_)
      refine And.intro (Or.inr (by decide)) ?_
      exact ⟨fun _ => rfl, fun q => absurd ⟨c, e⟩ q⟩
    · rw [d3 e]
      refine And.intro (fun _ => ?_) (fun h => absurd rfl h)
      refine And.intro (Or.inl (by decide)) ?_
      exact ⟨fun q => absurd q.2 e, fun _ => rfl⟩
  · rw [if_neg c] at c1
    refine wF_of c1 ?_
    refine And.intro (fun _ => ?_) (fun h => absurd rfl h)
    refine And.intro (Or.inl (by decide)) ?_
    exact ⟨fun q => absurd q.1 c, fun _ => rfl⟩
set_option maxRecDepth 100000 in
set_option maxHeartbeats 1000000 in
theorem wX7_isAllowed_2 (X : Nat × (Nat → Int32)) (σ : XH) : wF (fX7_isAllowed X [xR 6 0, xR 12 2] σ) (fun r => (pOK (cTS σ 0) 2 (fun i => σ.1 9 1 i) → r = (.inl (some (xI 1)), σ)) ∧ (¬ pOK (cTS σ 0) 2 (fun i => σ.1 9 1 i) → r = (.inl (some (xI 0)), σ))) := by
  rw [uX7_isAllowed]
  refine wI_s (N := 99999) ?_
  refine wF_of (eX3_number X σ 0 (by decide)) ?_
  refine wF_of (r := (.inl (some (xI 2)), σ)) rfl ?_
  refine And.intro (by decide) ?_
  refine And.intro (fun h => absurd h (by decide)) (fun _ => ?_)
  refine And.intro (fun h => absurd h (by decide)) (fun _ => ?_)
  refine And.intro (fun _ => ?_) (fun h => absurd (by decide) h)
  have c1 := eX7_isValve X σ (σ.1 9 1 0)
  by_cases c : 0 ≤ σ.1 9 1 0 ∧ σ.1 9 1 0 ≤ 1
  · rw [if_pos c] at c1
    refine wF_of c1 ?_
    refine And.intro (fun h => absurd h (by decide)) (fun _ => ?_)
    refine wF_of (eX3_number X σ 1 (by decide)) ?_
    refine wF_of (eX3_number X σ 2 (by decide)) ?_
    obtain ⟨r, d1, d2, d3⟩ := wX7_isValveSetting X σ (σ.1 9 1 1) (σ.1 9 1 2)
    refine wF_of d1 ?_
    by_cases e : gS (σ.1 9 1 1) (σ.1 9 1 2)
    · rw [d2 e]
      refine And.intro (fun h => absurd h (by decide)) (fun _ => ?_)
      refine And.intro (Or.inr (by decide)) ?_
      exact ⟨fun _ => rfl, fun q => absurd ⟨c, e⟩ q⟩
    · rw [d3 e]
      refine And.intro (fun _ => ?_) (fun h => absurd rfl h)
      refine And.intro (Or.inl (by decide)) ?_
      exact ⟨fun q => absurd q.2 e, fun _ => rfl⟩
  · rw [if_neg c] at c1
    refine wF_of c1 ?_
    refine And.intro (fun _ => ?_) (fun h => absurd rfl h)
    refine And.intro (Or.inl (by decide)) ?_
    exact ⟨fun q => absurd q.1 c, fun _ => rfl⟩
set_option maxRecDepth 100000 in
set_option maxHeartbeats 1000000 in
theorem wX7_isAllowed_3 (X : Nat × (Nat → Int32)) (σ : XH) : wF (fX7_isAllowed X [xR 6 0, xR 12 3] σ) (fun r => (pOK (cTS σ 0) 3 (fun i => σ.1 9 1 i) → r = (.inl (some (xI 1)), σ)) ∧ (¬ pOK (cTS σ 0) 3 (fun i => σ.1 9 1 i) → r = (.inl (some (xI 0)), σ))) := by
  rw [uX7_isAllowed]
  refine wI_s (N := 99999) ?_
  refine wF_of (eX3_number X σ 0 (by decide)) ?_
  refine wF_of (r := (.inl (some (xI 3)), σ)) rfl ?_
  refine And.intro (by decide) ?_
  refine And.intro (fun h => absurd h (by decide)) (fun _ => ?_)
  refine And.intro (fun h => absurd h (by decide)) (fun _ => ?_)
  refine And.intro (fun h => absurd h (by decide)) (fun _ => ?_)
  refine And.intro (fun _ => ?_) (fun h => absurd (by decide) h)
  have c1 := eX7_isSignal X σ (σ.1 9 1 0)
  refine wF_of c1 ?_
  refine And.intro i01 ?_
  refine ⟨fun q => ?_, fun q => ?_⟩
  · have q : 0 ≤ σ.1 9 1 0 ∧ σ.1 9 1 0 ≤ 1000 := q
    rw [if_pos q]
  · have q : ¬ (0 ≤ σ.1 9 1 0 ∧ σ.1 9 1 0 ≤ 1000) := q
    rw [if_neg q]
set_option maxRecDepth 100000 in
set_option maxHeartbeats 1000000 in
theorem wX7_isAllowed_4 (X : Nat × (Nat → Int32)) (σ : XH) : wF (fX7_isAllowed X [xR 6 0, xR 12 4] σ) (fun r => (pOK (cTS σ 0) 4 (fun i => σ.1 9 1 i) → r = (.inl (some (xI 1)), σ)) ∧ (¬ pOK (cTS σ 0) 4 (fun i => σ.1 9 1 i) → r = (.inl (some (xI 0)), σ))) := by
  rw [uX7_isAllowed]
  refine wI_s (N := 99999) ?_
  refine wF_of (eX3_number X σ 0 (by decide)) ?_
  refine wF_of (r := (.inl (some (xI 4)), σ)) rfl ?_
  refine And.intro (by decide) ?_
  refine And.intro (fun h => absurd h (by decide)) (fun _ => ?_)
  refine And.intro (fun h => absurd h (by decide)) (fun _ => ?_)
  refine And.intro (fun h => absurd h (by decide)) (fun _ => ?_)
  refine And.intro (fun h => absurd h (by decide)) (fun _ => ?_)
  refine And.intro (fun _ => ?_) (fun h => absurd (by decide) h)
  obtain ⟨r, d1, d2, d3⟩ := wX7_isControllerSetting X σ 2 (σ.1 9 1 0)
  refine wF_of d1 ?_
  by_cases e : gC4 2 (σ.1 9 1 0)
  · rw [d2 e]
    refine And.intro (Or.inr (by decide)) ?_
    exact ⟨fun _ => rfl, fun q => absurd e q⟩
  · rw [d3 e]
    refine And.intro (Or.inl (by decide)) ?_
    exact ⟨fun q => absurd q e, fun _ => rfl⟩
set_option maxRecDepth 100000 in
set_option maxHeartbeats 1000000 in
theorem wX7_isAllowed_5 (X : Nat × (Nat → Int32)) (σ : XH) : wF (fX7_isAllowed X [xR 6 0, xR 12 5] σ) (fun r => (pOK (cTS σ 0) 5 (fun i => σ.1 9 1 i) → r = (.inl (some (xI 1)), σ)) ∧ (¬ pOK (cTS σ 0) 5 (fun i => σ.1 9 1 i) → r = (.inl (some (xI 0)), σ))) := by
  rw [uX7_isAllowed]
  refine wI_s (N := 99999) ?_
  refine wF_of (eX3_number X σ 0 (by decide)) ?_
  refine wF_of (r := (.inl (some (xI 5)), σ)) rfl ?_
  refine And.intro (by decide) ?_
  refine And.intro (fun h => absurd h (by decide)) (fun _ => ?_)
  refine And.intro (fun h => absurd h (by decide)) (fun _ => ?_)
  refine And.intro (fun h => absurd h (by decide)) (fun _ => ?_)
  refine And.intro (fun h => absurd h (by decide)) (fun _ => ?_)
  refine And.intro (fun h => absurd h (by decide)) (fun _ => ?_)
  refine And.intro (fun _ => ?_) (fun h => absurd (by decide) h)
  refine And.intro (Or.inr (by decide)) ?_
  exact ⟨fun _ => rfl, fun q => absurd trivial q⟩
set_option maxRecDepth 100000 in
set_option maxHeartbeats 1000000 in
theorem wX7_isAllowed_6 (X : Nat × (Nat → Int32)) (σ : XH) : wF (fX7_isAllowed X [xR 6 0, xR 12 6] σ) (fun r => (pOK (cTS σ 0) 6 (fun i => σ.1 9 1 i) → r = (.inl (some (xI 1)), σ)) ∧ (¬ pOK (cTS σ 0) 6 (fun i => σ.1 9 1 i) → r = (.inl (some (xI 0)), σ))) := by
  rw [uX7_isAllowed]
  refine wI_s (N := 99999) ?_
  refine wF_of (eX3_number X σ 0 (by decide)) ?_
  refine wF_of (r := (.inl (some (xI 6)), σ)) rfl ?_
  refine And.intro (by decide) ?_
  refine And.intro (fun h => absurd h (by decide)) (fun _ => ?_)
  refine And.intro (fun h => absurd h (by decide)) (fun _ => ?_)
  refine And.intro (fun h => absurd h (by decide)) (fun _ => ?_)
  refine And.intro (fun h => absurd h (by decide)) (fun _ => ?_)
  refine And.intro (fun h => absurd h (by decide)) (fun _ => ?_)
  refine And.intro (fun h => absurd h (by decide)) (fun _ => ?_)
  refine And.intro (fun _ => ?_) (fun h => absurd (by decide) h)
  have c1 := eX7_isValve X σ (σ.1 9 1 0)
  refine wF_of c1 ?_
  refine And.intro i01 ?_
  refine ⟨fun q => ?_, fun q => ?_⟩
  · have q : 0 ≤ σ.1 9 1 0 ∧ σ.1 9 1 0 ≤ 1 := q
    rw [if_pos q]
  · have q : ¬ (0 ≤ σ.1 9 1 0 ∧ σ.1 9 1 0 ≤ 1) := q
    rw [if_neg q]
set_option maxRecDepth 100000 in
set_option maxHeartbeats 1000000 in
theorem wX7_isAllowed_7 (X : Nat × (Nat → Int32)) (σ : XH) : wF (fX7_isAllowed X [xR 6 0, xR 12 7] σ) (fun r => (pOK (cTS σ 0) 7 (fun i => σ.1 9 1 i) → r = (.inl (some (xI 1)), σ)) ∧ (¬ pOK (cTS σ 0) 7 (fun i => σ.1 9 1 i) → r = (.inl (some (xI 0)), σ))) := by
  rw [uX7_isAllowed]
  refine wI_s (N := 99999) ?_
  refine wF_of (eX3_number X σ 0 (by decide)) ?_
  refine wF_of (r := (.inl (some (xI 7)), σ)) rfl ?_
  refine And.intro (by decide) ?_
  refine And.intro (fun h => absurd h (by decide)) (fun _ => ?_)
  refine And.intro (fun h => absurd h (by decide)) (fun _ => ?_)
  refine And.intro (fun h => absurd h (by decide)) (fun _ => ?_)
  refine And.intro (fun h => absurd h (by decide)) (fun _ => ?_)
  refine And.intro (fun h => absurd h (by decide)) (fun _ => ?_)
  refine And.intro (fun h => absurd h (by decide)) (fun _ => ?_)
  refine And.intro (fun h => absurd h (by decide)) (fun _ => ?_)
  refine And.intro (fun _ => ?_) (fun h => absurd (by decide) h)
  have c1 := eX7_isTicks X σ (σ.1 9 1 0)
  by_cases c : 1 ≤ σ.1 9 1 0 ∧ σ.1 9 1 0 ≤ 500
  · rw [if_pos c] at c1
    refine wF_of c1 ?_
    refine And.intro (fun h => absurd h (by decide)) (fun _ => ?_)
    obtain ⟨r, d1, d2, d3⟩ := wX7_isTimeLeft X σ (σ.1 9 1 0)
    refine wF_of d1 ?_
    by_cases e : (cTS σ 0).1 5 + σ.1 9 1 0 ≤ 200000
    · rw [d2 e]
      refine And.intro (fun h => absurd h (by decide)) (fun _ => ?_)
      refine And.intro (Or.inr (by decide)) ?_
      exact ⟨fun _ => rfl, fun q => absurd ⟨c, e⟩ q⟩
    · rw [d3 e]
      refine And.intro (fun _ => ?_) (fun h => absurd rfl h)
      refine And.intro (Or.inl (by decide)) ?_
      exact ⟨fun q => absurd q.2 e, fun _ => rfl⟩
  · rw [if_neg c] at c1
    refine wF_of c1 ?_
    refine And.intro (fun _ => ?_) (fun h => absurd rfl h)
    refine And.intro (Or.inl (by decide)) ?_
    exact ⟨fun q => absurd q.1 c, fun _ => rfl⟩
theorem wX7_isAllowed (X : Nat × (Nat → Int32)) (σ : XH) : ∀ k, k < 8 → wF (fX7_isAllowed X [xR 6 0, xR 12 k] σ) (fun r => (pOK (cTS σ 0) k (fun i => σ.1 9 1 i) → r = (.inl (some (xI 1)), σ)) ∧ (¬ pOK (cTS σ 0) k (fun i => σ.1 9 1 i) → r = (.inl (some (xI 0)), σ)))
  | 0, _ => wX7_isAllowed_0 X σ
  | 1, _ => wX7_isAllowed_1 X σ
  | 2, _ => wX7_isAllowed_2 X σ
  | 3, _ => wX7_isAllowed_3 X σ
  | 4, _ => wX7_isAllowed_4 X σ
  | 5, _ => wX7_isAllowed_5 X σ
  | 6, _ => wX7_isAllowed_6 X σ
  | 7, _ => wX7_isAllowed_7 X σ
  | n + 8, q => absurd q (by omega)
set_option maxRecDepth 100000 in
set_option maxHeartbeats 1000000 in
theorem wX7_hold (X : Nat × (Nat → Int32)) (σ : XH) (x : Int32) : wF (fX7_hold X [xR 6 0, xI x] σ) (fun r => ∃ σ', r = (.inl none, σ') ∧ cTS σ' 0 = (updF (updF (cTS σ 0).1 3 x) 1 1, (cTS σ 0).2) ∧ xFr (PT 0) σ σ') := by
  obtain ⟨r, a1, σ1, rfl, a2, a3⟩ := wX4_changeSetting X σ 0 x 2 (by decide)
  obtain ⟨r, b1, σ2, rfl, b2, b3⟩ := wX4_changeSetting X σ1 0 1 0 (by decide)
  rw [uX7_hold]
  refine wI_s (N := 99999) ?_
  refine wF_of a1 ?_
  refine wF_of b1 ?_
  refine ⟨σ2, rfl, ?_, a3.tr b3⟩
  rw [b2, a2]
set_option maxRecDepth 100000 in
set_option maxHeartbeats 1000000 in
theorem wX7_carryOut_0 (X : Nat × (Nat → Int32)) (σ : XH) (ho : okT (cTS σ 0)) (h : pOK (cTS σ 0) 0 (fun i => σ.1 9 1 i)) : wF (fX7_carryOut X [xR 6 0, xR 12 0] σ) (fun r => ∃ σ', r = (.inl none, σ') ∧ cTS σ' 0 = exT (cTS σ 0) 0 (fun i => σ.1 9 1 i) ∧ xFr (PT 0) σ σ') := by
  obtain ⟨v0, v2⟩ := v01 h.1
  have at1 := eX4_at X σ 0 _ v2
  rw [← v0] at at1
  have e1 := wX5_changeRange X σ (2 * 0 + (σ.1 9 1 0).toNatClampNeg) (σ.1 9 1 1) (σ.1 9 1 2) 0 (Or.inl rfl)
  obtain ⟨r, d1, σ1, rfl, d2, d3⟩ := e1
  rw [uX7_carryOut]
  refine wI_s (N := 99999) ?_
  refine wF_of (eX3_number X σ 0 (by decide)) ?_
  refine wF_of (r := (.inl (some (xI 0)), σ)) rfl ?_
  refine And.intro (by decide) ?_
  refine And.intro (fun _ => ?_) (fun h => absurd (by decide) h)
  refine wF_of at1 ?_
  refine wF_of (eX3_number X σ 1 (by decide)) ?_
  refine wF_of (eX3_number X σ 2 (by decide)) ?_
  refine wF_of d1 ?_
  refine ⟨σ1, rfl, ?_, PV_PT v2 d3⟩
  rw [cTS_V v2 d3, d2, vC_T v2]
  rfl
set_option maxRecDepth 100000 in
set_option maxHeartbeats 1000000 in
theorem wX7_carryOut_1 (X : Nat × (Nat → Int32)) (σ : XH) (ho : okT (cTS σ 0)) (h : pOK (cTS σ 0) 1 (fun i => σ.1 9 1 i)) : wF (fX7_carryOut X [xR 6 0, xR 12 1] σ) (fun r => ∃ σ', r = (.inl none, σ') ∧ cTS σ' 0 = exT (cTS σ 0) 1 (fun i => σ.1 9 1 i) ∧ xFr (PT 0) σ σ') := by
  obtain ⟨v0, v2⟩ := v01 h.1
  have at1 := eX4_at X σ 0 _ v2
  rw [← v0] at at1
  have e1 := wX5_changeRange X σ (2 * 0 + (σ.1 9 1 0).toNatClampNeg) (σ.1 9 1 1) (σ.1 9 1 2) 1 (Or.inr rfl)
  obtain ⟨r, d1, σ1, rfl, d2, d3⟩ := e1
  rw [uX7_carryOut]
  refine wI_s (N := 99999) ?_
  refine wF_of (eX3_number X σ 0 (by decide)) ?_
  refine wF_of (r := (.inl (some (xI 1)), σ)) rfl ?_
  refine And.intro (by decide) ?_
  refine And.intro (fun h => absurd h (by decide)) (fun _ => ?_)
  refine And.intro (fun _ => ?_) (fun h => absurd (by decide) h)
  refine wF_of at1 ?_
  refine wF_of (eX3_number X σ 1 (by decide)) ?_
  refine wF_of (eX3_number X σ 2 (by decide)) ?_
  refine wF_of d1 ?_
  refine ⟨σ1, rfl, ?_, PV_PT v2 d3⟩
  rw [cTS_V v2 d3, d2, vC_T v2]
  rfl
set_option maxRecDepth 100000 in
set_option maxHeartbeats 1000000 in
theorem wX7_carryOut_2 (X : Nat × (Nat → Int32)) (σ : XH) (ho : okT (cTS σ 0)) (h : pOK (cTS σ 0) 2 (fun i => σ.1 9 1 i)) : wF (fX7_carryOut X [xR 6 0, xR 12 2] σ) (fun r => ∃ σ', r = (.inl none, σ') ∧ cTS σ' 0 = exT (cTS σ 0) 2 (fun i => σ.1 9 1 i) ∧ xFr (PT 0) σ σ') := by
  obtain ⟨v0, v2⟩ := v01 h.1
  have at1 := eX4_at X σ 0 _ v2
  rw [← v0] at at1
  have e1 := wX5_changeSetting X σ (2 * 0 + (σ.1 9 1 0).toNatClampNeg) (σ.1 9 1 2) (σ.1 9 1 1).toNatClampNeg (gS_w h.2).2
  rw [← (gS_w h.2).1] at e1
  obtain ⟨r, d1, σ1, rfl, d2, d3⟩ := e1
  rw [uX7_carryOut]
  refine wI_s (N := 99999) ?_
  refine wF_of (eX3_number X σ 0 (by decide)) ?_
  refine wF_of (r := (.inl (some (xI 2)), σ)) rfl ?_
  refine And.intro (by decide) ?_
  refine And.intro (fun h => absurd h (by decide)) (fun _ => ?_)
  refine And.intro (fun h => absurd h (by decide)) (fun _ => ?_)
  refine And.intro (fun _ => ?_) (fun h => absurd (by decide) h)
  refine wF_of at1 ?_
  refine wF_of (eX3_number X σ 1 (by decide)) ?_
  refine wF_of (eX3_number X σ 2 (by decide)) ?_
  refine wF_of d1 ?_
  refine ⟨σ1, rfl, ?_, PV_PT v2 d3⟩
  rw [cTS_V v2 d3, d2, vC_T v2]
  rfl
set_option maxRecDepth 100000 in
set_option maxHeartbeats 1000000 in
theorem wX7_carryOut_3 (X : Nat × (Nat → Int32)) (σ : XH) (ho : okT (cTS σ 0)) (h : pOK (cTS σ 0) 3 (fun i => σ.1 9 1 i)) : wF (fX7_carryOut X [xR 6 0, xR 12 3] σ) (fun r => ∃ σ', r = (.inl none, σ') ∧ cTS σ' 0 = exT (cTS σ 0) 3 (fun i => σ.1 9 1 i) ∧ xFr (PT 0) σ σ') := by
  have e1 := wX4_changeSignal X σ 0 (σ.1 9 1 0)
  obtain ⟨r, d1, σ1, rfl, d2, d3⟩ := e1
  rw [uX7_carryOut]
  refine wI_s (N := 99999) ?_
  refine wF_of (eX3_number X σ 0 (by decide)) ?_
  refine wF_of (r := (.inl (some (xI 3)), σ)) rfl ?_
  refine And.intro (by decide) ?_
  refine And.intro (fun h => absurd h (by decide)) (fun _ => ?_)
  refine And.intro (fun h => absurd h (by decide)) (fun _ => ?_)
  refine And.intro (fun h => absurd h (by decide)) (fun _ => ?_)
  refine And.intro (fun _ => ?_) (fun h => absurd (by decide) h)
  refine wF_of d1 ?_
  exact ⟨σ1, rfl, d2, d3⟩
set_option maxRecDepth 100000 in
set_option maxHeartbeats 1000000 in
theorem wX7_carryOut_4 (X : Nat × (Nat → Int32)) (σ : XH) (ho : okT (cTS σ 0)) (h : pOK (cTS σ 0) 4 (fun i => σ.1 9 1 i)) : wF (fX7_carryOut X [xR 6 0, xR 12 4] σ) (fun r => ∃ σ', r = (.inl none, σ') ∧ cTS σ' 0 = exT (cTS σ 0) 4 (fun i => σ.1 9 1 i) ∧ xFr (PT 0) σ σ') := by
  have e1 := wX7_hold X σ (σ.1 9 1 0)
  obtain ⟨r, d1, σ1, rfl, d2, d3⟩ := e1
  rw [uX7_carryOut]
  refine wI_s (N := 99999) ?_
  refine wF_of (eX3_number X σ 0 (by decide)) ?_
  refine wF_of (r := (.inl (some (xI 4)), σ)) rfl ?_
  refine And.intro (by decide) ?_
  refine And.intro (fun h => absurd h (by decide)) (fun _ => ?_)
  refine And.intro (fun h => absurd h (by decide)) (fun _ => ?_)
  refine And.intro (fun h => absurd h (by decide)) (fun _ => ?_)
  refine And.intro (fun h => absurd h (by decide)) (fun _ => ?_)
  refine And.intro (fun _ => ?_) (fun h => absurd (by decide) h)
  refine wF_of d1 ?_
  exact ⟨σ1, rfl, d2, d3⟩
set_option maxRecDepth 100000 in
set_option maxHeartbeats 1000000 in
theorem wX7_carryOut_5 (X : Nat × (Nat → Int32)) (σ : XH) (ho : okT (cTS σ 0)) (h : pOK (cTS σ 0) 5 (fun i => σ.1 9 1 i)) : wF (fX7_carryOut X [xR 6 0, xR 12 5] σ) (fun r => ∃ σ', r = (.inl none, σ') ∧ cTS σ' 0 = exT (cTS σ 0) 5 (fun i => σ.1 9 1 i) ∧ xFr (PT 0) σ σ') := by
  have e1 := wX4_changeSetting X σ 0 0 0 (by decide)
  obtain ⟨r, d1, σ1, rfl, d2, d3⟩ := e1
  rw [uX7_carryOut]
  refine wI_s (N := 99999) ?_
  refine wF_of (eX3_number X σ 0 (by decide)) ?_
  refine wF_of (r := (.inl (some (xI 5)), σ)) rfl ?_
  refine And.intro (by decide) ?_
  refine And.intro (fun h => absurd h (by decide)) (fun _ => ?_)
  refine And.intro (fun h => absurd h (by decide)) (fun _ => ?_)
  refine And.intro (fun h => absurd h (by decide)) (fun _ => ?_)
  refine And.intro (fun h => absurd h (by decide)) (fun _ => ?_)
  refine And.intro (fun h => absurd h (by decide)) (fun _ => ?_)
  refine And.intro (fun _ => ?_) (fun h => absurd (by decide) h)
  refine wF_of d1 ?_
  exact ⟨σ1, rfl, d2, d3⟩
set_option maxRecDepth 100000 in
set_option maxHeartbeats 1000000 in
theorem wX7_carryOut_6 (X : Nat × (Nat → Int32)) (σ : XH) (ho : okT (cTS σ 0)) (h : pOK (cTS σ 0) 6 (fun i => σ.1 9 1 i)) : wF (fX7_carryOut X [xR 6 0, xR 12 6] σ) (fun r => ∃ σ', r = (.inl none, σ') ∧ cTS σ' 0 = exT (cTS σ 0) 6 (fun i => σ.1 9 1 i) ∧ xFr (PT 0) σ σ') := by
  obtain ⟨v0, v2⟩ := v01 h
  have at1 := eX4_at X σ 0 _ v2
  rw [← v0] at at1
  have e1 := wX5_renew X σ (2 * 0 + (σ.1 9 1 0).toNatClampNeg)
  obtain ⟨r, d1, σ1, rfl, d2, d3⟩ := e1
  rw [uX7_carryOut]
  refine wI_s (N := 99999) ?_
  refine wF_of (eX3_number X σ 0 (by decide)) ?_
  refine wF_of (r := (.inl (some (xI 6)), σ)) rfl ?_
  refine And.intro (by decide) ?_
  refine And.intro (fun h => absurd h (by decide)) (fun _ => ?_)
  refine And.intro (fun h => absurd h (by decide)) (fun _ => ?_)
  refine And.intro (fun h => absurd h (by decide)) (fun _ => ?_)
  refine And.intro (fun h => absurd h (by decide)) (fun _ => ?_)
  refine And.intro (fun h => absurd h (by decide)) (fun _ => ?_)
  refine And.intro (fun h => absurd h (by decide)) (fun _ => ?_)
  refine And.intro (fun _ => ?_) (fun h => absurd (by decide) h)
  refine wF_of at1 ?_
  refine wF_of d1 ?_
  refine ⟨σ1, rfl, ?_, PV_PT v2 d3⟩
  rw [cTS_V v2 d3, d2, vC_T v2]
  rfl
set_option maxRecDepth 100000 in
set_option maxHeartbeats 1000000 in
theorem wX7_carryOut_7 (X : Nat × (Nat → Int32)) (σ : XH) (ho : okT (cTS σ 0)) (h : pOK (cTS σ 0) 7 (fun i => σ.1 9 1 i)) : wF (fX7_carryOut X [xR 6 0, xR 12 7] σ) (fun r => ∃ σ', r = (.inl none, σ') ∧ cTS σ' 0 = exT (cTS σ 0) 7 (fun i => σ.1 9 1 i) ∧ xFr (PT 0) σ σ') := by
  have e1 := wX4_pass X σ 0 _ (t500 h.1).2.2 ho
  rw [← (t500 h.1).1] at e1
  obtain ⟨r, d1, σ1, rfl, d2, d3⟩ := e1
  rw [uX7_carryOut]
  refine wI_s (N := 99999) ?_
  refine wF_of (eX3_number X σ 0 (by decide)) ?_
  refine wF_of (r := (.inl (some (xI 7)), σ)) rfl ?_
  refine And.intro (by decide) ?_
  refine And.intro (fun h => absurd h (by decide)) (fun _ => ?_)
  refine And.intro (fun h => absurd h (by decide)) (fun _ => ?_)
  refine And.intro (fun h => absurd h (by decide)) (fun _ => ?_)
  refine And.intro (fun h => absurd h (by decide)) (fun _ => ?_)
  refine And.intro (fun h => absurd h (by decide)) (fun _ => ?_)
  refine And.intro (fun h => absurd h (by decide)) (fun _ => ?_)
  refine And.intro (fun h => absurd h (by decide)) (fun _ => ?_)
  refine And.intro (fun _ => ?_) (fun h => absurd (by decide) h)
  refine wF_of d1 ?_
  exact ⟨σ1, rfl, d2, d3⟩
theorem wX7_carryOut (X : Nat × (Nat → Int32)) (σ : XH) (ho : okT (cTS σ 0)) : ∀ k, k < 8 → pOK (cTS σ 0) k (fun i => σ.1 9 1 i) → wF (fX7_carryOut X [xR 6 0, xR 12 k] σ) (fun r => ∃ σ', r = (.inl none, σ') ∧ cTS σ' 0 = exT (cTS σ 0) k (fun i => σ.1 9 1 i) ∧ xFr (PT 0) σ σ')
  | 0, _, h => wX7_carryOut_0 X σ ho h
  | 1, _, h => wX7_carryOut_1 X σ ho h
  | 2, _, h => wX7_carryOut_2 X σ ho h
  | 3, _, h => wX7_carryOut_3 X σ ho h
  | 4, _, h => wX7_carryOut_4 X σ ho h
  | 5, _, h => wX7_carryOut_5 X σ ho h
  | 6, _, h => wX7_carryOut_6 X σ ho h
  | 7, _, h => wX7_carryOut_7 X σ ho h
  | n + 8, q, _ => absurd q (by omega)
set_option maxRecDepth 100000 in
set_option maxHeartbeats 1000000 in
theorem wX8_holds (X : Nat × (Nat → Int32)) (σ : XH) (x : Int32) (hx : gC4 2 x) : wF (fX8_holds X [xR 7 0, xI x] σ) (fun r => ∃ σ', r = (.inl (some (xI 0)), σ') ∧ mTS σ' = (updF (updF (mTS σ).1 3 x) 1 1, (mTS σ).2) ∧ NF σ σ') := by
  obtain ⟨r, a1, σ1, rfl, -, a2, a3⟩ := wX8_tunes X σ 2 x (by decide) hx
  obtain ⟨r, b1, σ2, rfl, -, b2, b3⟩ := wX8_tunes X σ1 0 1 (by decide) (Or.inl ⟨rfl, by decide, by decide⟩)
  rw [uX8_holds]
  refine wI_s (N := 99999) ?_
  refine wF_of a1 ?_
  refine And.intro (fun _ => ?_) (fun h => absurd (by decide) h)
  refine wF_of b1 ?_
  refine ⟨σ2, rfl, ?_, a3.tr b3⟩
  rw [b2, a2]
set_option maxRecDepth 100000 in
set_option maxHeartbeats 1000000 in
theorem wX8_holds_r (X : Nat × (Nat → Int32)) (σ : XH) (x : Int32) (hx : ¬ gC4 2 x) : fX8_holds X [xR 7 0, xI x] σ = some (.inl (some (xI 2)), σ) := by
  rw [uX8_holds]
  refine wF_eq (wI_s (N := 99999) ?_)
  refine wF_of (wX8_tunes_r X σ 2 x hx) ?_
  refine And.intro (fun h => absurd h (by decide)) (fun _ => ?_)
  rfl
set_option maxRecDepth 100000 in
set_option maxHeartbeats 1000000 in
theorem wX8_does_0 (X : Nat × (Nat → Int32)) (σ : XH) (hw : σ.2.1 7 0 11 = 0x72697365) (ho : okT (mTS σ)) (h : pOK (mTS σ) 0 (fun i => σ.1 9 8 i)) : wF (fX8_does X [xR 7 0] σ) (fun r => ∃ σ', r = (.inl (some (xI 0)), σ') ∧ mTS σ' = exT (mTS σ) 0 (fun i => σ.1 9 8 i) ∧ NF σ σ') := by
  have e1 := wX8_ranges X σ _ (σ.1 9 8 1) (σ.1 9 8 2) 0 (v01 h.1).2 h.2
  rw [← (v01 h.1).1] at e1
  obtain ⟨r, d1, σ1, rfl, -, d2, d3⟩ := e1
  rw [uX8_does]
  refine wI_s (N := 99999) ?_
  refine And.intro (by decide) ?_
  refine And.intro (fun _ => ?_) (fun h => absurd ((lg_cmp_eq _ _).mpr hw) h)
  refine And.intro (by decide) ?_
  refine And.intro (by decide) ?_
  refine And.intro (fun h => absurd (hw.symm.trans ((lg_cmp_eq _ _).mp h)) (by decide +kernel)) (fun _ => ?_)
  refine wF_of d1 ?_
  exact ⟨σ1, rfl, d2, d3⟩
set_option maxRecDepth 100000 in
set_option maxHeartbeats 1000000 in
theorem wX8_does_n0 (X : Nat × (Nat → Int32)) (σ : XH) (hw : σ.2.1 7 0 11 = 0x72697365) (h : ¬ pOK (mTS σ) 0 (fun i => σ.1 9 8 i)) : wF (fX8_does X [xR 7 0] σ) (fun r => ∃ c : Int32, 0 < c ∧ r = (.inl (some (xI c)), σ)) := by
  rw [uX8_does]
  refine wI_s (N := 99999) ?_
  refine And.intro (by decide) ?_
  refine And.intro (fun _ => ?_) (fun h => absurd ((lg_cmp_eq _ _).mpr hw) h)
  refine And.intro (by decide) ?_
  refine And.intro (by decide) ?_
  refine And.intro (fun h => absurd (hw.symm.trans ((lg_cmp_eq _ _).mp h)) (by decide +kernel)) (fun _ => ?_)
  by_cases c : 0 ≤ σ.1 9 8 0 ∧ σ.1 9 8 0 ≤ 1
  · have e1 := wX8_ranges_r X σ _ (σ.1 9 8 1) (σ.1 9 8 2) 0 (v01 c).2 (fun q => h ⟨c, q⟩)
    rw [← (v01 c).1] at e1
    refine wF_of e1 ?_
    exact ⟨_, by decide, rfl⟩
  · refine wF_of (wX8_ranges_v X σ (σ.1 9 8 0) _ _ _ c) ?_
    exact ⟨_, by decide, rfl⟩
set_option maxRecDepth 100000 in
set_option maxHeartbeats 1000000 in
theorem wX8_does_1 (X : Nat × (Nat → Int32)) (σ : XH) (hw : σ.2.1 7 0 11 = 0x66616c6c) (ho : okT (mTS σ)) (h : pOK (mTS σ) 1 (fun i => σ.1 9 8 i)) : wF (fX8_does X [xR 7 0] σ) (fun r => ∃ σ', r = (.inl (some (xI 0)), σ') ∧ mTS σ' = exT (mTS σ) 1 (fun i => σ.1 9 8 i) ∧ NF σ σ') := by
  have e1 := wX8_ranges X σ _ (σ.1 9 8 1) (σ.1 9 8 2) 1 (v01 h.1).2 h.2
  rw [← (v01 h.1).1] at e1
  obtain ⟨r, d1, σ1, rfl, -, d2, d3⟩ := e1
  rw [uX8_does]
  refine wI_s (N := 99999) ?_
  refine And.intro (by decide) ?_
  refine And.intro (fun h => absurd (hw.symm.trans ((lg_cmp_eq _ _).mp h)) (by decide +kernel)) (fun _ => ?_)
  refine And.intro (fun _ => ?_) (fun h => absurd ((lg_cmp_eq _ _).mpr hw) h)
  refine And.intro (by decide) ?_
  refine And.intro (by decide) ?_
  refine And.intro (fun _ => ?_) (fun h => absurd ((lg_cmp_eq _ _).mpr hw) h)
  refine wF_of d1 ?_
  exact ⟨σ1, rfl, d2, d3⟩
set_option maxRecDepth 100000 in
set_option maxHeartbeats 1000000 in
theorem wX8_does_n1 (X : Nat × (Nat → Int32)) (σ : XH) (hw : σ.2.1 7 0 11 = 0x66616c6c) (h : ¬ pOK (mTS σ) 1 (fun i => σ.1 9 8 i)) : wF (fX8_does X [xR 7 0] σ) (fun r => ∃ c : Int32, 0 < c ∧ r = (.inl (some (xI c)), σ)) := by
  rw [uX8_does]
  refine wI_s (N := 99999) ?_
  refine And.intro (by decide) ?_
  refine And.intro (fun h => absurd (hw.symm.trans ((lg_cmp_eq _ _).mp h)) (by decide +kernel)) (fun _ => ?_)
  refine And.intro (fun _ => ?_) (fun h => absurd ((lg_cmp_eq _ _).mpr hw) h)
  refine And.intro (by decide) ?_
  refine And.intro (by decide) ?_
  refine And.intro (fun _ => ?_) (fun h => absurd ((lg_cmp_eq _ _).mpr hw) h)
  by_cases c : 0 ≤ σ.1 9 8 0 ∧ σ.1 9 8 0 ≤ 1
  · have e1 := wX8_ranges_r X σ _ (σ.1 9 8 1) (σ.1 9 8 2) 1 (v01 c).2 (fun q => h ⟨c, q⟩)
    rw [← (v01 c).1] at e1
    refine wF_of e1 ?_
    exact ⟨_, by decide, rfl⟩
  · refine wF_of (wX8_ranges_v X σ (σ.1 9 8 0) _ _ _ c) ?_
    exact ⟨_, by decide, rfl⟩
set_option maxRecDepth 100000 in
set_option maxHeartbeats 1000000 in
theorem wX8_does_2 (X : Nat × (Nat → Int32)) (σ : XH) (hw : σ.2.1 7 0 11 = 0x736574) (ho : okT (mTS σ)) (h : pOK (mTS σ) 2 (fun i => σ.1 9 8 i)) : wF (fX8_does X [xR 7 0] σ) (fun r => ∃ σ', r = (.inl (some (xI 0)), σ') ∧ mTS σ' = exT (mTS σ) 2 (fun i => σ.1 9 8 i) ∧ NF σ σ') := by
  have e1 := wX8_sets X σ _ _ (σ.1 9 8 2) (v01 h.1).2 (gS_w h.2).2 (by rw [← (gS_w h.2).1]; exact h.2)
  rw [← (v01 h.1).1, ← (gS_w h.2).1] at e1
  obtain ⟨r, d1, σ1, rfl, -, d2, d3⟩ := e1
  rw [uX8_does]
  refine wI_s (N := 99999) ?_
  refine And.intro (by decide) ?_
  refine And.intro (fun h => absurd (hw.symm.trans ((lg_cmp_eq _ _).mp h)) (by decide +kernel)) (fun _ => ?_)
  refine And.intro (fun h => absurd (hw.symm.trans ((lg_cmp_eq _ _).mp h)) (by decide +kernel)) (fun _ => ?_)
  refine And.intro (fun _ => ?_) (fun h => absurd ((lg_cmp_eq _ _).mpr hw) h)
  refine And.intro (by decide) ?_
  refine And.intro (by decide) ?_
  refine wF_of d1 ?_
  exact ⟨σ1, rfl, d2, d3⟩
set_option maxRecDepth 100000 in
set_option maxHeartbeats 1000000 in
theorem wX8_does_n2 (X : Nat × (Nat → Int32)) (σ : XH) (hw : σ.2.1 7 0 11 = 0x736574) (h : ¬ pOK (mTS σ) 2 (fun i => σ.1 9 8 i)) : wF (fX8_does X [xR 7 0] σ) (fun r => ∃ c : Int32, 0 < c ∧ r = (.inl (some (xI c)), σ)) := by
  rw [uX8_does]
  refine wI_s (N := 99999) ?_
  refine And.intro (by decide) ?_
  refine And.intro (fun h => absurd (hw.symm.trans ((lg_cmp_eq _ _).mp h)) (by decide +kernel)) (fun _ => ?_)
  refine And.intro (fun h => absurd (hw.symm.trans ((lg_cmp_eq _ _).mp h)) (by decide +kernel)) (fun _ => ?_)
  refine And.intro (fun _ => ?_) (fun h => absurd ((lg_cmp_eq _ _).mpr hw) h)
  refine And.intro (by decide) ?_
  refine And.intro (by decide) ?_
  by_cases c : 0 ≤ σ.1 9 8 0 ∧ σ.1 9 8 0 ≤ 1
  · have e1 := wX8_sets_r X σ _ (σ.1 9 8 1) (σ.1 9 8 2) (v01 c).2 (fun q => h ⟨c, q⟩)
    rw [← (v01 c).1] at e1
    refine wF_of e1 ?_
    exact ⟨_, by decide, rfl⟩
  · refine wF_of (wX8_sets_v X σ (σ.1 9 8 0) _ _ c) ?_
    exact ⟨_, by decide, rfl⟩
set_option maxRecDepth 100000 in
set_option maxHeartbeats 1000000 in
theorem wX8_does_3 (X : Nat × (Nat → Int32)) (σ : XH) (hw : σ.2.1 7 0 11 = 0x7369676e616c) (ho : okT (mTS σ)) (h : pOK (mTS σ) 3 (fun i => σ.1 9 8 i)) : wF (fX8_does X [xR 7 0] σ) (fun r => ∃ σ', r = (.inl (some (xI 0)), σ') ∧ mTS σ' = exT (mTS σ) 3 (fun i => σ.1 9 8 i) ∧ NF σ σ') := by
  have e1 := wX8_signals X σ (σ.1 9 8 0) h
  obtain ⟨r, d1, σ1, rfl, -, d2, d3⟩ := e1
  rw [uX8_does]
  refine wI_s (N := 99999) ?_
  refine And.intro (by decide) ?_
  refine And.intro (fun h => absurd (hw.symm.trans ((lg_cmp_eq _ _).mp h)) (by decide +kernel)) (fun _ => ?_)
  refine And.intro (fun h => absurd (hw.symm.trans ((lg_cmp_eq _ _).mp h)) (by decide +kernel)) (fun _ => ?_)
  refine And.intro (fun h => absurd (hw.symm.trans ((lg_cmp_eq _ _).mp h)) (by decide +kernel)) (fun _ => ?_)
  refine And.intro (fun _ => ?_) (fun h => absurd ((lg_cmp_eq _ _).mpr hw) h)
  refine wF_of d1 ?_
  exact ⟨σ1, rfl, d2, d3⟩
set_option maxRecDepth 100000 in
set_option maxHeartbeats 1000000 in
theorem wX8_does_n3 (X : Nat × (Nat → Int32)) (σ : XH) (hw : σ.2.1 7 0 11 = 0x7369676e616c) (h : ¬ pOK (mTS σ) 3 (fun i => σ.1 9 8 i)) : wF (fX8_does X [xR 7 0] σ) (fun r => ∃ c : Int32, 0 < c ∧ r = (.inl (some (xI c)), σ)) := by
  rw [uX8_does]
  refine wI_s (N := 99999) ?_
  refine And.intro (by decide) ?_
  refine And.intro (fun h => absurd (hw.symm.trans ((lg_cmp_eq _ _).mp h)) (by decide +kernel)) (fun _ => ?_)
  refine And.intro (fun h => absurd (hw.symm.trans ((lg_cmp_eq _ _).mp h)) (by decide +kernel)) (fun _ => ?_)
  refine And.intro (fun h => absurd (hw.symm.trans ((lg_cmp_eq _ _).mp h)) (by decide +kernel)) (fun _ => ?_)
  refine And.intro (fun _ => ?_) (fun h => absurd ((lg_cmp_eq _ _).mpr hw) h)
  refine wF_of (wX8_signals_r X σ (σ.1 9 8 0) h) ?_
  exact ⟨_, by decide, rfl⟩

set_option maxRecDepth 100000 in
set_option maxHeartbeats 1000000 in
theorem wX8_does_4 (X : Nat × (Nat → Int32)) (σ : XH) (hw : σ.2.1 7 0 11 = 0x686f6c64) (ho : okT (mTS σ)) (h : pOK (mTS σ) 4 (fun i => σ.1 9 8 i)) : wF (fX8_does X [xR 7 0] σ) (fun r => ∃ σ', r = (.inl (some (xI 0)), σ') ∧ mTS σ' = exT (mTS σ) 4 (fun i => σ.1 9 8 i) ∧ NF σ σ') := by
  have e1 := wX8_holds X σ (σ.1 9 8 0) h
  obtain ⟨r, d1, σ1, rfl, d2, d3⟩ := e1
  rw [uX8_does]
  refine wI_s (N := 99999) ?_
  refine And.intro (by decide) ?_
  refine And.intro (fun h => absurd (hw.symm.trans ((lg_cmp_eq _ _).mp h)) (by decide +kernel)) (fun _ => ?_)
  refine And.intro (fun h => absurd (hw.symm.trans ((lg_cmp_eq _ _).mp h)) (by decide +kernel)) (fun _ => ?_)
  refine And.intro (fun h => absurd (hw.symm.trans ((lg_cmp_eq _ _).mp h)) (by decide +kernel)) (fun _ => ?_)
  refine And.intro (fun h => absurd (hw.symm.trans ((lg_cmp_eq _ _).mp h)) (by decide +kernel)) (fun _ => ?_)
  refine And.intro (fun _ => ?_) (fun h => absurd ((lg_cmp_eq _ _).mpr hw) h)
  refine wF_of d1 ?_
  exact ⟨σ1, rfl, d2, d3⟩
set_option maxRecDepth 100000 in
set_option maxHeartbeats 1000000 in
theorem wX8_does_n4 (X : Nat × (Nat → Int32)) (σ : XH) (hw : σ.2.1 7 0 11 = 0x686f6c64) (h : ¬ pOK (mTS σ) 4 (fun i => σ.1 9 8 i)) : wF (fX8_does X [xR 7 0] σ) (fun r => ∃ c : Int32, 0 < c ∧ r = (.inl (some (xI c)), σ)) := by
  rw [uX8_does]
  refine wI_s (N := 99999) ?_
  refine And.intro (by decide) ?_
  refine And.intro (fun h => absurd (hw.symm.trans ((lg_cmp_eq _ _).mp h)) (by decide +kernel)) (fun _ => ?_)
  refine And.intro (fun h => absurd (hw.symm.trans ((lg_cmp_eq _ _).mp h)) (by decide +kernel)) (fun _ => ?_)
  refine And.intro (fun h => absurd (hw.symm.trans ((lg_cmp_eq _ _).mp h)) (by decide +kernel)) (fun _ => ?_)
  refine And.intro (fun h => absurd (hw.symm.trans ((lg_cmp_eq _ _).mp h)) (by decide +kernel)) (fun _ => ?_)
  refine And.intro (fun _ => ?_) (fun h => absurd ((lg_cmp_eq _ _).mpr hw) h)
  refine wF_of (wX8_holds_r X σ (σ.1 9 8 0) h) ?_
  exact ⟨_, by decide, rfl⟩

set_option maxRecDepth 100000 in
set_option maxHeartbeats 1000000 in
theorem wX8_does_5 (X : Nat × (Nat → Int32)) (σ : XH) (hw : σ.2.1 7 0 11 = 0x66726565) (ho : okT (mTS σ)) (h : pOK (mTS σ) 5 (fun i => σ.1 9 8 i)) : wF (fX8_does X [xR 7 0] σ) (fun r => ∃ σ', r = (.inl (some (xI 0)), σ') ∧ mTS σ' = exT (mTS σ) 5 (fun i => σ.1 9 8 i) ∧ NF σ σ') := by
  have e1 := wX8_tunes X σ 0 0 (by decide) (Or.inl ⟨rfl, by decide, by decide⟩)
  obtain ⟨r, d1, σ1, rfl, -, d2, d3⟩ := e1
  rw [uX8_does]
  refine wI_s (N := 99999) ?_
  refine And.intro (by decide) ?_
  refine And.intro (fun h => absurd (hw.symm.trans ((lg_cmp_eq _ _).mp h)) (by decide +kernel)) (fun _ => ?_)
  refine And.intro (fun h => absurd (hw.symm.trans ((lg_cmp_eq _ _).mp h)) (by decide +kernel)) (fun _ => ?_)
  refine And.intro (fun h => absurd (hw.symm.trans ((lg_cmp_eq _ _).mp h)) (by decide +kernel)) (fun _ => ?_)
  refine And.intro (fun h => absurd (hw.symm.trans ((lg_cmp_eq _ _).mp h)) (by decide +kernel)) (fun _ => ?_)
  refine And.intro (fun h => absurd (hw.symm.trans ((lg_cmp_eq _ _).mp h)) (by decide +kernel)) (fun _ => ?_)
  refine And.intro (fun _ => ?_) (fun h => absurd ((lg_cmp_eq _ _).mpr hw) h)
  refine wF_of d1 ?_
  exact ⟨σ1, rfl, d2, d3⟩
set_option maxRecDepth 100000 in
set_option maxHeartbeats 1000000 in
theorem wX8_does_6 (X : Nat × (Nat → Int32)) (σ : XH) (hw : σ.2.1 7 0 11 = 0x73657276696365) (ho : okT (mTS σ)) (h : pOK (mTS σ) 6 (fun i => σ.1 9 8 i)) : wF (fX8_does X [xR 7 0] σ) (fun r => ∃ σ', r = (.inl (some (xI 0)), σ') ∧ mTS σ' = exT (mTS σ) 6 (fun i => σ.1 9 8 i) ∧ NF σ σ') := by
  have e1 := wX8_serves X σ _ (v01 h).2
  rw [← (v01 h).1] at e1
  obtain ⟨r, d1, σ1, rfl, -, d2, d3⟩ := e1
  rw [uX8_does]
  refine wI_s (N := 99999) ?_
  refine And.intro (by decide) ?_
  refine And.intro (fun h => absurd (hw.symm.trans ((lg_cmp_eq _ _).mp h)) (by decide +kernel)) (fun _ => ?_)
  refine And.intro (fun h => absurd (hw.symm.trans ((lg_cmp_eq _ _).mp h)) (by decide +kernel)) (fun _ => ?_)
  refine And.intro (fun h => absurd (hw.symm.trans ((lg_cmp_eq _ _).mp h)) (by decide +kernel)) (fun _ => ?_)
  refine And.intro (fun h => absurd (hw.symm.trans ((lg_cmp_eq _ _).mp h)) (by decide +kernel)) (fun _ => ?_)
  refine And.intro (fun h => absurd (hw.symm.trans ((lg_cmp_eq _ _).mp h)) (by decide +kernel)) (fun _ => ?_)
  refine And.intro (fun h => absurd (hw.symm.trans ((lg_cmp_eq _ _).mp h)) (by decide +kernel)) (fun _ => ?_)
  refine And.intro (fun _ => ?_) (fun h => absurd ((lg_cmp_eq _ _).mpr hw) h)
  refine wF_of d1 ?_
  exact ⟨σ1, rfl, d2, d3⟩
set_option maxRecDepth 100000 in
set_option maxHeartbeats 1000000 in
theorem wX8_does_n6 (X : Nat × (Nat → Int32)) (σ : XH) (hw : σ.2.1 7 0 11 = 0x73657276696365) (h : ¬ pOK (mTS σ) 6 (fun i => σ.1 9 8 i)) : wF (fX8_does X [xR 7 0] σ) (fun r => ∃ c : Int32, 0 < c ∧ r = (.inl (some (xI c)), σ)) := by
  rw [uX8_does]
  refine wI_s (N := 99999) ?_
  refine And.intro (by decide) ?_
  refine And.intro (fun h => absurd (hw.symm.trans ((lg_cmp_eq _ _).mp h)) (by decide +kernel)) (fun _ => ?_)
  refine And.intro (fun h => absurd (hw.symm.trans ((lg_cmp_eq _ _).mp h)) (by decide +kernel)) (fun _ => ?_)
  refine And.intro (fun h => absurd (hw.symm.trans ((lg_cmp_eq _ _).mp h)) (by decide +kernel)) (fun _ => ?_)
  refine And.intro (fun h => absurd (hw.symm.trans ((lg_cmp_eq _ _).mp h)) (by decide +kernel)) (fun _ => ?_)
  refine And.intro (fun h => absurd (hw.symm.trans ((lg_cmp_eq _ _).mp h)) (by decide +kernel)) (fun _ => ?_)
  refine And.intro (fun h => absurd (hw.symm.trans ((lg_cmp_eq _ _).mp h)) (by decide +kernel)) (fun _ => ?_)
  refine And.intro (fun _ => ?_) (fun h => absurd ((lg_cmp_eq _ _).mpr hw) h)
  refine wF_of (wX8_serves_v X σ (σ.1 9 8 0) h) ?_
  exact ⟨_, by decide, rfl⟩

set_option maxRecDepth 100000 in
set_option maxHeartbeats 1000000 in
theorem wX8_does_7 (X : Nat × (Nat → Int32)) (σ : XH) (hw : σ.2.1 7 0 11 = 0x72756e) (ho : okT (mTS σ)) (h : pOK (mTS σ) 7 (fun i => σ.1 9 8 i)) : wF (fX8_does X [xR 7 0] σ) (fun r => ∃ σ', r = (.inl (some (xI 0)), σ') ∧ mTS σ' = exT (mTS σ) 7 (fun i => σ.1 9 8 i) ∧ NF σ σ') := by
  have e1 := wX8_runs X σ _ (t500 h.1).2.1 (t500 h.1).2.2 ho (by rw [← (t500 h.1).1]; exact h.2)
  rw [← (t500 h.1).1] at e1
  obtain ⟨r, d1, σ1, rfl, -, d2, d3⟩ := e1
  rw [uX8_does]
  refine wI_s (N := 99999) ?_
  refine And.intro (by decide) ?_
  refine And.intro (fun h => absurd (hw.symm.trans ((lg_cmp_eq _ _).mp h)) (by decide +kernel)) (fun _ => ?_)
  refine And.intro (fun h => absurd (hw.symm.trans ((lg_cmp_eq _ _).mp h)) (by decide +kernel)) (fun _ => ?_)
  refine And.intro (fun h => absurd (hw.symm.trans ((lg_cmp_eq _ _).mp h)) (by decide +kernel)) (fun _ => ?_)
  refine And.intro (fun h => absurd (hw.symm.trans ((lg_cmp_eq _ _).mp h)) (by decide +kernel)) (fun _ => ?_)
  refine And.intro (fun h => absurd (hw.symm.trans ((lg_cmp_eq _ _).mp h)) (by decide +kernel)) (fun _ => ?_)
  refine And.intro (fun h => absurd (hw.symm.trans ((lg_cmp_eq _ _).mp h)) (by decide +kernel)) (fun _ => ?_)
  refine And.intro (fun h => absurd (hw.symm.trans ((lg_cmp_eq _ _).mp h)) (by decide +kernel)) (fun _ => ?_)
  refine wF_of d1 ?_
  exact ⟨σ1, rfl, d2, d3⟩
set_option maxRecDepth 100000 in
set_option maxHeartbeats 1000000 in
theorem wX8_does_n7 (X : Nat × (Nat → Int32)) (σ : XH) (hw : σ.2.1 7 0 11 = 0x72756e) (h : ¬ pOK (mTS σ) 7 (fun i => σ.1 9 8 i)) : wF (fX8_does X [xR 7 0] σ) (fun r => ∃ c : Int32, 0 < c ∧ r = (.inl (some (xI c)), σ)) := by
  rw [uX8_does]
  refine wI_s (N := 99999) ?_
  refine And.intro (by decide) ?_
  refine And.intro (fun h => absurd (hw.symm.trans ((lg_cmp_eq _ _).mp h)) (by decide +kernel)) (fun _ => ?_)
  refine And.intro (fun h => absurd (hw.symm.trans ((lg_cmp_eq _ _).mp h)) (by decide +kernel)) (fun _ => ?_)
  refine And.intro (fun h => absurd (hw.symm.trans ((lg_cmp_eq _ _).mp h)) (by decide +kernel)) (fun _ => ?_)
  refine And.intro (fun h => absurd (hw.symm.trans ((lg_cmp_eq _ _).mp h)) (by decide +kernel)) (fun _ => ?_)
  refine And.intro (fun h => absurd (hw.symm.trans ((lg_cmp_eq _ _).mp h)) (by decide +kernel)) (fun _ => ?_)
  refine And.intro (fun h => absurd (hw.symm.trans ((lg_cmp_eq _ _).mp h)) (by decide +kernel)) (fun _ => ?_)
  refine And.intro (fun h => absurd (hw.symm.trans ((lg_cmp_eq _ _).mp h)) (by decide +kernel)) (fun _ => ?_)
  by_cases c : 1 ≤ σ.1 9 8 0 ∧ σ.1 9 8 0 ≤ 500
  · refine wF_of (wX8_runs_t X σ (σ.1 9 8 0) c (fun q => h ⟨c, q⟩)) ?_
    exact ⟨_, by decide, rfl⟩
  · refine wF_of (wX8_runs_r X σ (σ.1 9 8 0) c) ?_
    exact ⟨_, by decide, rfl⟩
theorem wX8_does (X : Nat × (Nat → Int32)) (σ : XH) (ho : okT (mTS σ)) : ∀ k, k < 8 → σ.2.1 7 0 11 = Int64.ofNat (wcN k) → pOK (mTS σ) k (fun i => σ.1 9 8 i) → wF (fX8_does X [xR 7 0] σ) (fun r => ∃ σ', r = (.inl (some (xI 0)), σ') ∧ mTS σ' = exT (mTS σ) k (fun i => σ.1 9 8 i) ∧ NF σ σ')
  | 0, _, hw, h => wX8_does_0 X σ (hw.trans wc_eq.1) ho h
  | 1, _, hw, h => wX8_does_1 X σ (hw.trans wc_eq.2.1) ho h
  | 2, _, hw, h => wX8_does_2 X σ (hw.trans wc_eq.2.2.1) ho h
  | 3, _, hw, h => wX8_does_3 X σ (hw.trans wc_eq.2.2.2.1) ho h
  | 4, _, hw, h => wX8_does_4 X σ (hw.trans wc_eq.2.2.2.2.1) ho h
  | 5, _, hw, h => wX8_does_5 X σ (hw.trans wc_eq.2.2.2.2.2.1) ho h
  | 6, _, hw, h => wX8_does_6 X σ (hw.trans wc_eq.2.2.2.2.2.2.1) ho h
  | 7, _, hw, h => wX8_does_7 X σ (hw.trans wc_eq.2.2.2.2.2.2.2) ho h
  | n + 8, q, _, _ => absurd q (by omega)
theorem wX8_does_n (X : Nat × (Nat → Int32)) (σ : XH) : ∀ k, k < 8 → σ.2.1 7 0 11 = Int64.ofNat (wcN k) → ¬ pOK (mTS σ) k (fun i => σ.1 9 8 i) → wF (fX8_does X [xR 7 0] σ) (fun r => ∃ c : Int32, 0 < c ∧ r = (.inl (some (xI c)), σ))
  | 0, _, hw, h => wX8_does_n0 X σ (hw.trans wc_eq.1) h
  | 1, _, hw, h => wX8_does_n1 X σ (hw.trans wc_eq.2.1) h
  | 2, _, hw, h => wX8_does_n2 X σ (hw.trans wc_eq.2.2.1) h
  | 3, _, hw, h => wX8_does_n3 X σ (hw.trans wc_eq.2.2.2.1) h
  | 4, _, hw, h => wX8_does_n4 X σ (hw.trans wc_eq.2.2.2.2.1) h
  | 5, _, _, h => absurd trivial h
  | 6, _, hw, h => wX8_does_n6 X σ (hw.trans wc_eq.2.2.2.2.2.2.1) h
  | 7, _, hw, h => wX8_does_n7 X σ (hw.trans wc_eq.2.2.2.2.2.2.2) h
  | n + 8, q, _, _ => absurd q (by omega)
