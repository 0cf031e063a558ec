/-! ===== pure words of the class (out of the proof of whole, by wip/p28/gen/prune.py) ===== -/
theorem vC_uu {σ : XH} {k p w : Nat} {x : Int32} (hp : p = pmV w) (h : w < 16) : vC (xuI σ 4 k p x) k = updF (vC σ k) w x := by
  subst hp
  exact vC_u h
theorem updF_id {f : Nat → Int32} {i : Nat} {x : Int32} (h : x = f i) : updF f i x = f := by
  funext k
  unfold updF
  split
  · rename_i e
    rw [e, h]
  · rfl
set_option maxRecDepth 100000 in
set_option maxHeartbeats 1000000 in
theorem wX5_changeRange (X : Nat × (Nat → Int32)) (σ : XH) (k : Nat) (a b f : Int32) (hf : f = 0 ∨ f = 1) : wF (fX5_changeRange X [xR 4 k, xI a, xI b, xI f] σ) (fun r => ∃ σ', r = (.inl (some (xI (10000 * vC σ k 5 + vC σ k 6))), σ') ∧ vC σ' k = rngV (vC σ k) a b f ∧ xFr (PV k) σ σ') := by
  rw [uX5_changeRange]
  refine wI_s (N := 99999) ?_
  refine And.intro hf ?_
  refine ⟨xuI (xuI (xuI σ 4 k 0 a) 4 k 1 b) 4 k 2 f, rfl, ?_, ((xFr.u ⟨rfl, rfl⟩).tr (xFr.u ⟨rfl, rfl⟩)).tr (xFr.u ⟨rfl, rfl⟩)⟩
  rw [vC_uu (p := 2) (w := 7) rfl (by decide), vC_uu (p := 1) (w := 6) rfl (by decide), vC_uu (p := 0) (w := 5) rfl (by decide)]
  unfold rngV
  rcases hf with rfl | rfl <;> rfl
set_option maxRecDepth 100000 in
set_option maxHeartbeats 1000000 in
theorem wX5_renew (X : Nat × (Nat → Int32)) (σ : XH) (k : Nat) : wF (fX5_renew X [xR 4 k] σ) (fun r => ∃ σ', r = (.inl (some (xI (wearV (vC σ k)))), σ') ∧ vC σ' k = srvV (vC σ k) ∧ xFr (PV k) σ σ') := by
  rw [uX5_renew]
  refine wI_s (N := 99999) ?_
  refine wF_of (eX5_wear X σ k) ?_
  have key : ∀ x, x = σ.1 4 k 15 + 1 → (∃ σ', ((.inl (some (xI (wearV (vC σ k)))), xuI (xuI (xuI σ 4 k 11 0) 4 k 12 0) 4 k 15 x) : XR × XH) = (.inl (some (xI (wearV (vC σ k)))), σ') ∧ vC σ' k = srvV (vC σ k) ∧ xFr (PV k) σ σ') := by
    rintro x rfl
    refine ⟨_, rfl, ?_, ((xFr.u ⟨rfl, rfl⟩).tr (xFr.u ⟨rfl, rfl⟩)).tr (xFr.u ⟨rfl, rfl⟩)⟩
    rw [vC_uu (p := 15) (w := 15) rfl (by decide), vC_uu (p := 12) (w := 12) rfl (by decide), vC_uu (p := 11) (w := 11) rfl (by decide)]
    rfl
  refine key _ ?_
  rw [xu_eq, if_neg (by decide), xu_eq, if_neg (by decide)]
  rfl
set_option maxRecDepth 100000 in
set_option maxHeartbeats 1000000 in
theorem wX5_putAt (X : Nat × (Nat → Int32)) (σ : XH) (k : Nat) (p : Int32) : wF (fX5_putAt X [xR 4 k, xI p] σ) (fun r => ∃ σ', r = (.inl (some (xI (vC σ k 8))), σ') ∧ vC σ' k = stmV (vC σ k) p ∧ xFr (PV k) σ σ') := by
  rw [uX5_putAt]
  refine wI_s (N := 99999) ?_
  refine And.intro (Or.inl (by decide)) ?_
  refine ⟨xuI (xuI (xuI σ 4 k 8 p) 4 k 10 0) 4 k 9 0, rfl, ?_, ((xFr.u ⟨rfl, rfl⟩).tr (xFr.u ⟨rfl, rfl⟩)).tr (xFr.u ⟨rfl, rfl⟩)⟩
  rw [vC_uu (p := 9) (w := 9) rfl (by decide), vC_uu (p := 10) (w := 10) rfl (by decide), vC_uu (p := 8) (w := 8) rfl (by decide)]
  unfold stmV updF
  funext i
  grind
set_option maxRecDepth 100000 in
set_option maxHeartbeats 1000000 in
theorem wX5_changeSetting_0 (X : Nat × (Nat → Int32)) (σ : XH) (k : Nat) (x : Int32) : wF (fX5_changeSetting X [xR 4 k, xI 0, xI x] σ) (fun r => ∃ σ', r = (.inl (some (xI (vC σ k 0))), σ') ∧ vC σ' k = updF (vC σ k) 0 x ∧ xFr (PV k) σ σ') := by
  rw [uX5_changeSetting]
  refine wI_s (N := 99999) ?_
  refine wF_of (eX5_value_0 X σ k 0) ?_
  refine And.intro (fun _ => ?_) (fun h => absurd rfl h)
  refine ⟨xuI σ 4 k 3 x, rfl, vC_uu (p := 3) (w := 0) rfl (by decide), xFr.u ⟨rfl, rfl⟩⟩
set_option maxRecDepth 100000 in
set_option maxHeartbeats 1000000 in
theorem wX5_changeSetting_1 (X : Nat × (Nat → Int32)) (σ : XH) (k : Nat) (x : Int32) : wF (fX5_changeSetting X [xR 4 k, xI 1, xI x] σ) (fun r => ∃ σ', r = (.inl (some (xI (vC σ k 1))), σ') ∧ vC σ' k = updF (vC σ k) 1 x ∧ xFr (PV k) σ σ') := by
  rw [uX5_changeSetting]
  refine wI_s (N := 99999) ?_
  refine wF_of (eX5_value_1 X σ k 0) ?_
  refine And.intro (fun h => absurd h (by decide)) (fun _ => ?_)
  refine And.intro (fun _ => ?_) (fun h => absurd rfl h)
  refine ⟨xuI σ 4 k 4 x, rfl, vC_uu (p := 4) (w := 1) rfl (by decide), xFr.u ⟨rfl, rfl⟩⟩
set_option maxRecDepth 100000 in
set_option maxHeartbeats 1000000 in
theorem wX5_changeSetting_2 (X : Nat × (Nat → Int32)) (σ : XH) (k : Nat) (x : Int32) : wF (fX5_changeSetting X [xR 4 k, xI 2, xI x] σ) (fun r => ∃ σ', r = (.inl (some (xI (vC σ k 2))), σ') ∧ vC σ' k = updF (vC σ k) 2 x ∧ xFr (PV k) σ σ') := by
  rw [uX5_changeSetting]
  refine wI_s (N := 99999) ?_
  refine wF_of (eX5_value_2 X σ k 0) ?_
  refine And.intro (fun h => absurd h (by decide)) (fun _ => ?_)
  refine And.intro (fun h => absurd h (by decide)) (fun _ => ?_)
  refine And.intro (fun _ => ?_) (fun h => absurd rfl h)
  refine ⟨xuI σ 4 k 5 x, rfl, vC_uu (p := 5) (w := 2) rfl (by decide), xFr.u ⟨rfl, rfl⟩⟩
set_option maxRecDepth 100000 in
set_option maxHeartbeats 1000000 in
theorem wX5_changeSetting_3 (X : Nat × (Nat → Int32)) (σ : XH) (k : Nat) (x : Int32) : wF (fX5_changeSetting X [xR 4 k, xI 3, xI x] σ) (fun r => ∃ σ', r = (.inl (some (xI (vC σ k 3))), σ') ∧ vC σ' k = updF (vC σ k) 3 x ∧ xFr (PV k) σ σ') := by
  rw [uX5_changeSetting]
  refine wI_s (N := 99999) ?_
  refine wF_of (eX5_value_3 X σ k 0) ?_
  refine And.intro (fun h => absurd h (by decide)) (fun _ => ?_)
  refine And.intro (fun h => absurd h (by decide)) (fun _ => ?_)
  refine And.intro (fun h => absurd h (by decide)) (fun _ => ?_)
  refine And.intro (fun _ => ?_) (fun h => absurd rfl h)
  refine ⟨xuI σ 4 k 6 x, rfl, vC_uu (p := 6) (w := 3) rfl (by decide), xFr.u ⟨rfl, rfl⟩⟩
set_option maxRecDepth 100000 in
set_option maxHeartbeats 1000000 in
theorem wX5_changeSetting_4 (X : Nat × (Nat → Int32)) (σ : XH) (k : Nat) (x : Int32) : wF (fX5_changeSetting X [xR 4 k, xI 4, xI x] σ) (fun r => ∃ σ', r = (.inl (some (xI (vC σ k 4))), σ') ∧ vC σ' k = updF (vC σ k) 4 x ∧ xFr (PV k) σ σ') := by
  rw [uX5_changeSetting]
  refine wI_s (N := 99999) ?_
  refine wF_of (eX5_value_4 X σ k 0) ?_
  refine And.intro (fun h => absurd h (by decide)) (fun _ => ?_)
  refine And.intro (fun h => absurd h (by decide)) (fun _ => ?_)
  refine And.intro (fun h => absurd h (by decide)) (fun _ => ?_)
  refine And.intro (fun h => absurd h (by decide)) (fun _ => ?_)
  refine ⟨xuI σ 4 k 7 x, rfl, vC_uu (p := 7) (w := 4) rfl (by decide), xFr.u ⟨rfl, rfl⟩⟩
theorem wX5_changeSetting (X : Nat × (Nat → Int32)) (σ : XH) (k : Nat) (x : Int32) : ∀ w, w < 5 → wF (fX5_changeSetting X [xR 4 k, xI (oN w), xI x] σ) (fun r => ∃ σ', r = (.inl (some (xI (vC σ k w))), σ') ∧ vC σ' k = updF (vC σ k) w x ∧ xFr (PV k) σ σ')
  | 0, _ => wX5_changeSetting_0 X σ k x
  | 1, _ => wX5_changeSetting_1 X σ k x
  | 2, _ => wX5_changeSetting_2 X σ k x
  | 3, _ => wX5_changeSetting_3 X σ k x
  | 4, _ => wX5_changeSetting_4 X σ k x
  | n + 5, q => absurd q (by omega)
set_option maxRecDepth 100000 in
set_option maxHeartbeats 1000000 in
theorem wX4_changeSignal (X : Nat × (Nat → Int32)) (σ : XH) (j : Nat) (u : Int32) : wF (fX4_changeSignal X [xR 3 j, xI u] σ) (fun r => ∃ σ', r = (.inl (some (xI ((cTS σ j).1 0))), σ') ∧ cTS σ' j = (updF (cTS σ j).1 0 u, (cTS σ j).2) ∧ xFr (PT j) σ σ') := by
  rw [uX4_changeSignal]
  refine wI_s (N := 99999) ?_
  exact ⟨xuI σ 3 j 3 u, rfl, cTS_g (w := 0) (by decide), xFr.u (Or.inl ⟨rfl, rfl⟩)⟩
set_option maxRecDepth 100000 in
set_option maxHeartbeats 1000000 in
theorem wX4_changeSetting_0 (X : Nat × (Nat → Int32)) (σ : XH) (j : Nat) (x : Int32) : wF (fX4_changeSetting X [xR 3 j, xI 0, xI x] σ) (fun r => ∃ σ', r = (.inl (some (xI ((cTS σ j).1 1))), σ') ∧ cTS σ' j = (updF (cTS σ j).1 1 x, (cTS σ j).2) ∧ xFr (PT j) σ σ') := by
  rw [uX4_changeSetting]
  refine wI_s (N := 99999) ?_
  refine wF_of (eX4_value_1 X σ j) ?_
  refine And.intro (fun _ => ?_) (fun h => absurd rfl h)
  refine ⟨xuI σ 3 j 4 x, rfl, cTS_g (w := 1) (by decide), xFr.u (Or.inl ⟨rfl, rfl⟩)⟩
set_option maxRecDepth 100000 in
set_option maxHeartbeats 1000000 in
theorem wX4_changeSetting_1 (X : Nat × (Nat → Int32)) (σ : XH) (j : Nat) (x : Int32) : wF (fX4_changeSetting X [xR 3 j, xI 1, xI x] σ) (fun r => ∃ σ', r = (.inl (some (xI ((cTS σ j).1 2))), σ') ∧ cTS σ' j = (updF (cTS σ j).1 2 x, (cTS σ j).2) ∧ xFr (PT j) σ σ') := by
  rw [uX4_changeSetting]
  refine wI_s (N := 99999) ?_
  refine wF_of (eX4_value_2 X σ j) ?_
  refine And.intro (fun h => absurd h (by decide)) (fun _ => ?_)
  refine And.intro (fun _ => ?_) (fun h => absurd rfl h)
  refine ⟨xuI σ 3 j 5 x, rfl, cTS_g (w := 2) (by decide), xFr.u (Or.inl ⟨rfl, rfl⟩)⟩
set_option maxRecDepth 100000 in
set_option maxHeartbeats 1000000 in
theorem wX4_changeSetting_2 (X : Nat × (Nat → Int32)) (σ : XH) (j : Nat) (x : Int32) : wF (fX4_changeSetting X [xR 3 j, xI 2, xI x] σ) (fun r => ∃ σ', r = (.inl (some (xI ((cTS σ j).1 3))), σ') ∧ cTS σ' j = (updF (cTS σ j).1 3 x, (cTS σ j).2) ∧ xFr (PT j) σ σ') := by
  rw [uX4_changeSetting]
  refine wI_s (N := 99999) ?_
  refine wF_of (eX4_value_3 X σ j) ?_
  refine And.intro (fun h => absurd h (by decide)) (fun _ => ?_)
  refine And.intro (fun h => absurd h (by decide)) (fun _ => ?_)
  refine And.intro (fun _ => ?_) (fun h => absurd rfl h)
  refine ⟨xuI σ 3 j 6 x, rfl, cTS_g (w := 3) (by decide), xFr.u (Or.inl ⟨rfl, rfl⟩)⟩
set_option maxRecDepth 100000 in
set_option maxHeartbeats 1000000 in
theorem wX4_changeSetting_3 (X : Nat × (Nat → Int32)) (σ : XH) (j : Nat) (x : Int32) : wF (fX4_changeSetting X [xR 3 j, xI 3, xI x] σ) (fun r => ∃ σ', r = (.inl (some (xI ((cTS σ j).1 4))), σ') ∧ cTS σ' j = (updF (cTS σ j).1 4 x, (cTS σ j).2) ∧ xFr (PT j) σ σ') := by
  rw [uX4_changeSetting]
  refine wI_s (N := 99999) ?_
  refine wF_of (eX4_value_4 X σ j) ?_
  refine And.intro (fun h => absurd h (by decide)) (fun _ => ?_)
  refine And.intro (fun h => absurd h (by decide)) (fun _ => ?_)
  refine And.intro (fun h => absurd h (by decide)) (fun _ => ?_)
  refine ⟨xuI σ 3 j 7 x, rfl, cTS_g (w := 4) (by decide), xFr.u (Or.inl ⟨rfl, rfl⟩)⟩
theorem wX4_changeSetting (X : Nat × (Nat → Int32)) (σ : XH) (j : Nat) (x : Int32) : ∀ w, w < 4 → wF (fX4_changeSetting X [xR 3 j, xI (oN w), xI x] σ) (fun r => ∃ σ', r = (.inl (some (xI ((cTS σ j).1 (1 + w)))), σ') ∧ cTS σ' j = (updF (cTS σ j).1 (1 + w) x, (cTS σ j).2) ∧ xFr (PT j) σ σ')
  | 0, _ => wX4_changeSetting_0 X σ j x
  | 1, _ => wX4_changeSetting_1 X σ j x
  | 2, _ => wX4_changeSetting_2 X σ j x
  | 3, _ => wX4_changeSetting_3 X σ j x
  | n + 4, q => absurd q (by omega)
theorem PV_PT {σ σ' : XH} {j v : Nat} (hv : v < 2) (h : xFr (PV (2 * j + v)) σ σ') : xFr (PT j) σ σ' := h.mono (fun c i q => Or.inr (Or.inl ⟨q.1, by have := q.2; omega⟩))
theorem vC_T {σ : XH} {j v : Nat} (hv : v < 2) : vC σ (2 * j + v) = vT (cTS σ j) v := by
  have hv2 : v = 0 ∨ v = 1 := by omega
  rcases hv2 with rfl | rfl <;> rfl
abbrev xPs (X : Nat × (Nat → Int32)) (N pc : Nat) (lv : XL) (σ : XH) : Option (XR × XH) := xIter X (xEnv (nX4_pass X)) (fun _ _ => some none) 0 [(4, [0, 1, 2, 3])] tX4_pass N (pc, lv, σ, 0)
set_option maxRecDepth 100000 in
set_option maxHeartbeats 1000000 in
theorem lX4_pass (X : Nat × (Nat → Int32)) (σ : XH) (j n : Nat) (hn : n ≤ 500) (h : okT (cTS σ j)) : ∀ (m k N : Nat) (τ : XH), k + m = n → cTS τ j = itT (cTS σ j) k → xFr (PT j) σ τ → wF (xPs X (N + m + 1) 4 [(0, xR 3 j), (1, xI (oN n)), (2, xI (cnT (cTS σ j) k)), (3, xI (oN k))] τ) (fun r => ∃ σ', r = (.inl (some (xI (cnT (cTS σ j) n))), σ') ∧ cTS σ' j = itT (cTS σ j) n ∧ xFr (PT j) σ σ') := by
  intro m
  induction m with
  | zero =>
    intro k N τ hk h1 h3
    have : k = n := by omega
    subst this
    refine wI_s (N := N + 0) ?_
    refine And.intro (fun _ => ?_) (fun h => absurd (Int32.le_refl _) h)
    exact ⟨τ, rfl, h1, h3⟩
  | succ m ih =>
    intro k N τ hk h1 h3
    have hok : okT (cTS τ j) := by
      rw [h1]
      exact okT_it h k
    obtain ⟨r, a1, σ1, rfl, a2, a3⟩ := wX4_tick X τ j hok
    have next : ∀ x, x = cnT (cTS σ j) (k + 1) → wF (xPs X (N + (m + 1)) 4 [(0, xR 3 j), (1, xI (oN n)), (2, xI x), (3, xI (oN k + 1))] σ1) (fun r => ∃ σ', r = (.inl (some (xI (cnT (cTS σ j) n))), σ') ∧ cTS σ' j = itT (cTS σ j) n ∧ xFr (PT j) σ σ') := by
      rintro x rfl
      rw [oN_1]
      refine ih (k + 1) N _ (by omega) ?_ (h3.tr a3)
      rw [a2, h1]
      rfl
    refine wI_s (N := N + (m + 1)) ?_
    refine And.intro (fun q => ?_) (fun _ => ?_)
    · have q : oN n ≤ oN k := q
      rw [oN_le (by omega) (by omega)] at q
      omega
    by_cases hm : mvT (cTS τ j)
    · rw [if_pos hm] at a1
      refine wF_of a1 ?_
      refine And.intro (fun h => absurd h (by decide)) (fun _ => ?_)
      refine next _ ?_
      show cnT (cTS σ j) k + 1 = cnT (cTS σ j) k + (if mvT (itT (cTS σ j) k) then 1 else 0)
      rw [← h1, if_pos hm]
    · rw [if_neg hm] at a1
      refine wF_of a1 ?_
      refine And.intro (fun _ => ?_) (fun h => absurd rfl h)
      refine next _ ?_
      show cnT (cTS σ j) k = cnT (cTS σ j) k + (if mvT (itT (cTS σ j) k) then 1 else 0)
      rw [← h1, if_neg hm]
      grind
set_option maxRecDepth 100000 in
set_option maxHeartbeats 1000000 in
theorem wX4_pass (X : Nat × (Nat → Int32)) (σ : XH) (j n : Nat) (hn : n ≤ 500) (h : okT (cTS σ j)) : wF (fX4_pass X [xR 3 j, xI (oN n)] σ) (fun r => ∃ σ', r = (.inl (some (xI (cnT (cTS σ j) n))), σ') ∧ cTS σ' j = itT (cTS σ j) n ∧ xFr (PT j) σ σ') := by
  have hl := lX4_pass X σ j n hn h n 0 (99998 - n) σ (by omega) rfl xFr.rf
  rw [show 99998 - n + n + 1 = 99999 by omega] at hl
  rw [uX4_pass]
  refine wI_s (N := 99999) ?_
  exact hl
def PK (c _j : Nat) : Prop := c = 0 ∨ c = 1 ∨ c = 3 ∨ c = 4 ∨ c = 8
def cOK (σ : XH) (S : Nat → TS) (m : Nat) (a : Int32) (t : TS) (r : XR × XH) : Prop := ∃ σ', r = (.inl (some (xI a)), σ') ∧ CSt σ' (pushS S (cTS σ 0)) (min (m + 1) 4) ∧ cTS σ' 0 = t ∧ xFr PK σ σ'
theorem CSt_0 {σ σ' : XH} {S : Nat → TS} {m : Nat} (h : xFr (PT 0) σ σ') (hS : CSt σ S m) : CSt σ' S m := by
  obtain ⟨h1, h2, l, hl, h3, h4⟩ := hS
  refine ⟨h1, by rw [h.1 _ _ _ (by unfold PT; omega), h2], l, hl, by rw [h.1 _ _ _ (by unfold PT; omega), h3], fun i hi => ?_⟩
  rw [cTS_PT h (by omega)]
  exact h4 i hi
theorem PK_T {σ σ' : XH} {j : Nat} (h : xFr (PT j) σ σ') : xFr PK σ σ' := h.mono (by unfold PT PK; omega)
theorem PK_S {σ σ' : XH} {j : Nat} (h : xFr (PS j) σ σ') : xFr PK σ σ' := h.mono (by unfold PS PT PK; omega)
theorem oN_01 {v : Nat} (hv : v < 2) : 0 ≤ oN v ∧ oN v ≤ 1 := ⟨oN_nn (by omega), (oN_le (b := 1) (by omega) (by decide)).mpr (by omega)⟩
set_option maxRecDepth 100000 in
set_option maxHeartbeats 1000000 in
theorem wX7_setRange (X : Nat × (Nat → Int32)) (σ : XH) (v : Nat) (a b f : Int32) (S : Nat → TS) (m : Nat) (ho : okT (cTS σ 0)) (hm : CSt σ S m) (hv : v < 2) (hg : gR a b) (hf : f = 0 ∨ f = 1) : wF (fX7_setRange X [xR 6 0, xI (oN v), xI a, xI b, xI f] σ) (cOK σ S m (10000 * vT (cTS σ 0) v 5 + vT (cTS σ 0) v 6) (setV (cTS σ 0) v (rngV (vT (cTS σ 0) v) a b f))) := by
  obtain ⟨r, b0, σ1, rfl, b1, b2, jj, -, -, b3⟩ := wX2_save X σ S m ho hm
  have e1 := wX5_changeRange X σ1 (2 * 0 + v) a b f hf
  rw [vC_T (j := 0) (by omega), b2] at e1
  obtain ⟨r, d1, σ2, rfl, d2, d3⟩ := e1
  rw [uX7_setRange]
  refine wI_s (N := 99999) ?_
  refine wF_of (eX7_refV_y X σ (oN_01 hv)) ?_
  obtain ⟨r, c1, c2, c3⟩ := wX7_isRange X σ a b
  rw [c2 hg] at c1
  refine wF_of c1 ?_
  refine wF_of (eX7_refuse_y X σ) ?_
  refine wF_of b0 ?_
  refine wF_of (eX4_at X σ1 0 v hv) ?_
  refine wF_of d1 ?_
  refine ⟨σ2, rfl, CSt_0 (PV_PT hv d3) b1, ?_, (PK_S b3).tr (PK_T (PV_PT hv d3))⟩
  rw [cTS_V hv d3, d2, b2]
set_option maxRecDepth 100000 in
set_option maxHeartbeats 1000000 in
theorem wX7_setValve (X : Nat × (Nat → Int32)) (σ : XH) (v w : Nat) (x : Int32) (S : Nat → TS) (m : Nat) (ho : okT (cTS σ 0)) (hm : CSt σ S m) (hv : v < 2) (hw : w < 5) (hg : gS (oN w) x) : wF (fX7_setValve X [xR 6 0, xI (oN v), xI (oN w), xI x] σ) (cOK σ S m (vT (cTS σ 0) v w) (setV (cTS σ 0) v (updF (vT (cTS σ 0) v) w x))) := by
  obtain ⟨r, b0, σ1, rfl, b1, b2, jj, -, -, b3⟩ := wX2_save X σ S m ho hm
  have e1 := wX5_changeSetting X σ1 (2 * 0 + v) x w hw
  rw [vC_T (j := 0) (by omega), b2] at e1
  obtain ⟨r, d1, σ2, rfl, d2, d3⟩ := e1
  rw [uX7_setValve]
  refine wI_s (N := 99999) ?_
  refine wF_of (eX7_refV_y X σ (oN_01 hv)) ?_
  obtain ⟨r, c1, c2, c3⟩ := wX7_isValveSetting X σ (oN w) x
  rw [c2 hg] at c1
  refine wF_of c1 ?_
  refine wF_of (eX7_refuse_y X σ) ?_
  refine wF_of b0 ?_
  refine wF_of (eX4_at X σ1 0 v hv) ?_
  refine wF_of d1 ?_
  refine ⟨σ2, rfl, CSt_0 (PV_PT hv d3) b1, ?_, (PK_S b3).tr (PK_T (PV_PT hv d3))⟩
  rw [cTS_V hv d3, d2, b2]
set_option maxRecDepth 100000 in
set_option maxHeartbeats 1000000 in
theorem wX7_setSignal (X : Nat × (Nat → Int32)) (σ : XH) (u : Int32) (S : Nat → TS) (m : Nat) (ho : okT (cTS σ 0)) (hm : CSt σ S m) (hu : 0 ≤ u ∧ u ≤ 1000) : wF (fX7_setSignal X [xR 6 0, xI u] σ) (cOK σ S m ((cTS σ 0).1 0) ((updF (cTS σ 0).1 0 u, (cTS σ 0).2))) := by
  obtain ⟨r, b0, σ1, rfl, b1, b2, jj, -, -, b3⟩ := wX2_save X σ S m ho hm
  have e1 := wX4_changeSignal X σ1 0 u
  rw [b2] at e1
  obtain ⟨r, d1, σ2, rfl, d2, d3⟩ := e1
  rw [uX7_setSignal]
  refine wI_s (N := 99999) ?_
  have c1 := eX7_isSignal X σ u
  rw [if_pos hu] at c1
  refine wF_of c1 ?_
  refine wF_of (eX7_refuse_y X σ) ?_
  refine wF_of b0 ?_
  refine wF_of d1 ?_
  exact ⟨σ2, rfl, CSt_0 d3 b1, d2, (PK_S b3).tr (PK_T d3)⟩
set_option maxRecDepth 100000 in
set_option maxHeartbeats 1000000 in
theorem wX7_tune (X : Nat × (Nat → Int32)) (σ : XH) (w : Nat) (x : Int32) (S : Nat → TS) (m : Nat) (ho : okT (cTS σ 0)) (hm : CSt σ S m) (hw : w < 4) (hg : gC4 (oN w) x) : wF (fX7_tune X [xR 6 0, xI (oN w), xI x] σ) (cOK σ S m ((cTS σ 0).1 (1 + w)) ((updF (cTS σ 0).1 (1 + w) x, (cTS σ 0).2))) := by
  obtain ⟨r, b0, σ1, rfl, b1, b2, jj, -, -, b3⟩ := wX2_save X σ S m ho hm
  have e1 := wX4_changeSetting X σ1 0 x w hw
  rw [b2] at e1
  obtain ⟨r, d1, σ2, rfl, d2, d3⟩ := e1
  rw [uX7_tune]
  refine wI_s (N := 99999) ?_
  obtain ⟨r, c1, c2, c3⟩ := wX7_isControllerSetting X σ (oN w) x
  rw [c2 hg] at c1
  refine wF_of c1 ?_
  refine wF_of (eX7_refuse_y X σ) ?_
  refine wF_of b0 ?_
  refine wF_of d1 ?_
  exact ⟨σ2, rfl, CSt_0 d3 b1, d2, (PK_S b3).tr (PK_T d3)⟩
set_option maxRecDepth 100000 in
set_option maxHeartbeats 1000000 in
theorem wX7_service (X : Nat × (Nat → Int32)) (σ : XH) (v : Nat) (S : Nat → TS) (m : Nat) (ho : okT (cTS σ 0)) (hm : CSt σ S m) (hv : v < 2) : wF (fX7_service X [xR 6 0, xI (oN v)] σ) (cOK σ S m (wearV (vT (cTS σ 0) v)) (setV (cTS σ 0) v (srvV (vT (cTS σ 0) v)))) := by
  obtain ⟨r, b0, σ1, rfl, b1, b2, jj, -, -, b3⟩ := wX2_save X σ S m ho hm
  have e1 := wX5_renew X σ1 (2 * 0 + v)
  rw [vC_T (j := 0) (by omega), b2] at e1
  obtain ⟨r, d1, σ2, rfl, d2, d3⟩ := e1
  rw [uX7_service]
  refine wI_s (N := 99999) ?_
  refine wF_of (eX7_refV_y X σ (oN_01 hv)) ?_
  refine wF_of b0 ?_
  refine wF_of (eX4_at X σ1 0 v hv) ?_
  refine wF_of d1 ?_
  refine ⟨σ2, rfl, CSt_0 (PV_PT hv d3) b1, ?_, (PK_S b3).tr (PK_T (PV_PT hv d3))⟩
  rw [cTS_V hv d3, d2, b2]
set_option maxRecDepth 100000 in
set_option maxHeartbeats 1000000 in
theorem wX7_service_v (X : Nat × (Nat → Int32)) (σ : XH) (v : Int32) (hv : ¬ (0 ≤ v ∧ v ≤ 1)) : fX7_service X [xR 6 0, xI v] σ = some (.inr 0, σ) := by
  rw [uX7_service]
  refine wF_eq (wI_s (N := 99999) ?_)
  refine wF_of (eX7_refV_n X σ hv) ?_
  rfl
set_option maxRecDepth 100000 in
set_option maxHeartbeats 1000000 in
theorem wX7_putStem (X : Nat × (Nat → Int32)) (σ : XH) (v : Nat) (p : Int32) (S : Nat → TS) (m : Nat) (ho : okT (cTS σ 0)) (hm : CSt σ S m) (hv : v < 2) (hp : 0 ≤ p ∧ p ≤ 1000) : wF (fX7_putStem X [xR 6 0, xI (oN v), xI p] σ) (cOK σ S m (vT (cTS σ 0) v 8) (setV (cTS σ 0) v (stmV (vT (cTS σ 0) v) p))) := by
  obtain ⟨r, b0, σ1, rfl, b1, b2, jj, -, -, b3⟩ := wX2_save X σ S m ho hm
  have e1 := wX5_putAt X σ1 (2 * 0 + v) p
  rw [vC_T (j := 0) (by omega), b2] at e1
  obtain ⟨r, d1, σ2, rfl, d2, d3⟩ := e1
  rw [uX7_putStem]
  refine wI_s (N := 99999) ?_
  refine wF_of (eX7_refV_y X σ (oN_01 hv)) ?_
  refine wF_of (wn_y X σ hp) ?_
  refine wF_of (eX7_refuse_y X σ) ?_
  refine wF_of b0 ?_
  refine wF_of (eX4_at X σ1 0 v hv) ?_
  refine wF_of d1 ?_
  refine ⟨σ2, rfl, CSt_0 (PV_PT hv d3) b1, ?_, (PK_S b3).tr (PK_T (PV_PT hv d3))⟩
  rw [cTS_V hv d3, d2, b2]
set_option maxRecDepth 100000 in
set_option maxHeartbeats 1000000 in
theorem wX7_run (X : Nat × (Nat → Int32)) (σ : XH) (n : Nat) (S : Nat → TS) (m : Nat) (ho : okT (cTS σ 0)) (hm : CSt σ S m) (h1 : 1 ≤ n) (hn : n ≤ 500) (ht : (cTS σ 0).1 5 + oN n ≤ 200000) : wF (fX7_run X [xR 6 0, xI (oN n)] σ) (cOK σ S m (cnT (cTS σ 0) n) (itT (cTS σ 0) n)) := by
  obtain ⟨r, b0, σ1, rfl, b1, b2, jj, -, -, b3⟩ := wX2_save X σ S m ho hm
  have e1 := wX4_pass X σ1 0 n hn (by rw [b2]; exact ho)
  rw [b2] at e1
  obtain ⟨r, d1, σ2, rfl, d2, d3⟩ := e1
  rw [uX7_run]
  refine wI_s (N := 99999) ?_
  have c1 := eX7_isTicks X σ (oN n)
  rw [if_pos ⟨(oN_le (a := 1) (by decide) (by omega)).mpr h1, (oN_le (b := 500) (by omega) (by decide)).mpr hn⟩] at c1
  refine wF_of c1 ?_
  refine wF_of (eX7_refuse_y X σ) ?_
  obtain ⟨r, c1, c2, c3⟩ := wX7_isTimeLeft X σ (oN n)
  rw [c2 ht] at c1
  refine wF_of c1 ?_
  refine And.intro (fun h => absurd h (by decide)) (fun _ => ?_)
  refine wF_of b0 ?_
  refine wF_of d1 ?_
  exact ⟨σ2, rfl, CSt_0 d3 b1, d2, (PK_S b3).tr (PK_T d3)⟩
