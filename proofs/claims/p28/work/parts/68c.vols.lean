/-! ===== the volumes, the ledger, the time of a tick (written by wip/p28/gen/tick4.py) ===== -/
theorem both_rn {t : TS} {T : Int32} (h0 : okU T t.2.1) (h1 : okU T t.2.2.1) (hT : tOK T) : ∃ n, n ≤ 2000 ∧ bothT t = oN n := by
  obtain ⟨a, ha, ea⟩ := flow_rng h0 hT
  obtain ⟨b, hb, eb⟩ := flow_rng h1 hT
  refine ⟨a + b, by omega, ?_⟩
  unfold bothT
  rw [ea, eb, oN_add]
theorem ideal_rn {t : TS} {T : Int32} (h0 : okU T t.2.1) (h1 : okU T t.2.2.1) (u : Int32) : ∃ n, n ≤ 2000 ∧ idealT t u = oN n := by
  obtain ⟨a, ha, ea⟩ := id_rng h0 u
  obtain ⟨b, hb, eb⟩ := id_rng h1 u
  refine ⟨a + b, by omega, ?_⟩
  unfold idealT
  rw [ea, eb]
  show oN 0 + oN a + oN b = _
  rw [oN_add, oN_add, Nat.zero_add]
theorem ab_dif {t : TS} {T : Int32} (h0 : okU T t.2.1) (h1 : okU T t.2.2.1) (hT : tOK T) (u : Int32) : (if idealT t u < bothT t then bothT t - idealT t u else idealT t u - bothT t) = abI (bothT t - idealT t u) := by
  obtain ⟨m, hm, em⟩ := both_rn h0 h1 hT
  obtain ⟨n, hn, en⟩ := ideal_rn h0 h1 u
  rw [em, en]
  exact ab_sub hm hn
set_option maxRecDepth 100000 in
set_option maxHeartbeats 600000 in
theorem sL_tick_257 (X : Nat × (Nat → Int32)) (Q : XO → Prop) (σ : XH) (T : Int32) (h0 : okU T (lTS σ).2.1) (h1 : okU T (lTS σ).2.2.1) (hT : tOK T)
    (hQ : ∀ σ', lTS σ' = volT (lTS σ) → σ'.1 9 5 = σ.1 9 5 → xFr PL σ σ' → Q (.inr (318, [(0, xR 9 2), (1, xR 9 3), (2, xR 9 4), (3, xR 9 5), (6, xI (oN 0))], σ', 0))) :
    xTk X Q 1000 65 [(0, xR 9 2), (1, xR 9 3), (2, xR 9 4), (3, xR 9 5), (4, xI (oN 2))] [] σ := by
  have hd := ab_dif h0 h1 hT ((lTS σ).1 0)
  have fin : ∀ x, x = abI (bothT (lTS σ) - idealT (lTS σ) ((lTS σ).1 0)) → Q (.inr (318, [(0, xR 9 2), (1, xR 9 3), (2, xR 9 4), (3, xR 9 5), (6, xI (oN 0))], xuI (xuI σ 9 2 6 (σ.1 9 2 6 + bothT (lTS σ))) 9 2 7 ((xuI σ 9 2 6 (σ.1 9 2 6 + bothT (lTS σ))).1 9 2 7 + x), 0)) := by
    rintro x rfl
    refine hQ _ ?_ ?_ ((xFr.u ⟨rfl, Or.inl rfl⟩).tr (xFr.u ⟨rfl, Or.inl rfl⟩))
    · rw [lTS_g (by decide), lTS_g (by decide), xu_eq, if_neg (by decide), gL_at (by decide), gL_at (by decide)]
      rfl
    · funext i
      rw [xu_ne (by decide), xu_ne (by decide)]
  refine And.intro (fun _ => ?_) (fun h => absurd (by decide) h)
  refine wF_of (eL_flow (X := X) (v := 0) (by decide) h0) ?_
  refine wF_of (eL_flow (X := X) (v := 1) (by decide) h1) ?_
  refine And.intro (bG (by decide)) ?_
  refine wF_of (eL_ideal X σ ((lTS σ).1 0) h0.1 h1.1) ?_
  refine And.intro (bG (by decide)) ?_
  refine And.intro (bG (by decide)) ?_
  refine And.intro (bG (by decide)) ?_
  refine And.intro (fun h => ?_) (fun h => ?_)
  · have h : bothT (lTS σ) ≤ idealT (lTS σ) ((lTS σ).1 0) := h
    rw [if_neg (Int32.not_lt.mpr h)] at hd
    refine And.intro (bG (by decide)) ?_
    exact fin _ hd
  · have h : ¬ bothT (lTS σ) ≤ idealT (lTS σ) ((lTS σ).1 0) := h
    rw [if_pos (Int32.not_le.mp h)] at hd
    refine And.intro (bG (by decide)) ?_
    exact fin _ hd
abbrev vLv (v : Nat) (rest : XL) : XL := rest ++ [(0, xR 9 2), (1, xR 9 3), (2, xR 9 4), (3, xR 9 5), (6, xI (oN v))]
set_option maxRecDepth 100000 in
set_option maxHeartbeats 600000 in
theorem sL_tick_347 (X : Nat × (Nat → Int32)) (Q : XO → Prop) (n v : Nat) (hv : v < 2) (l : Int32) (σ : XH) (hf : xfl σ = 1) (h : okT (lTS σ)) (hl : l = lkV (vT (lTS σ) v))
    (hQ : ∀ σ', lTS σ' = bodT (lTS σ) v (σ.1 9 5 v) (σ.1 9 5 (2 + v)) → σ'.1 9 5 = σ.1 9 5 → xFr PL σ σ' → Q (.inr (318, [(0, xR 9 2), (1, xR 9 3), (2, xR 9 4), (3, xR 9 5), (6, xI (oN (v + 1)))], σ', 0))) :
    xTk X Q (n + 90) 347 (vLv v []) [xI l] σ := by
  obtain ⟨he, hn⟩ := okT_n h
  have hk := h.2.2.2.2.2.2
  refine And.intro (bG (by decide)) ?_
  refine And.intro (by decide) ?_
  obtain ⟨r, hr1, σ1, rfl, t1, f1⟩ := wL_entry X σ (oN v) ((lTS σ).1 5 / 100) (entN (lTS σ)) hn he hk
  refine wF_of hr1 ?_
  have hr := rowL_rng (L := (lTS σ).2.2.2) (v := oN v) (d := (lTS σ).1 5 / 100) hn
  have w1 : σ1.1 9 5 = σ.1 9 5 := funext fun i => f1.1 _ _ _ (by unfold PE; omega)
  have g1 : xfl σ1 = 1 := by
    show σ1.2.1 10 0 0 = 1
    rw [f1.2]
    exact hf
  have f2 : xFr PL σ σ1 := f1.mono (by unfold PE PL; omega)
  have zv : 0 ≤ oN v ∧ (oN v).toNatClampNeg < 4 := ⟨oN_nn (by omega), by rw [oN_nat (by omega)]; omega⟩
  have yv : (oN v).toNatClampNeg = v := oN_nat (by omega)
  have e2 : Int32.ofInt 2 + oN v = oN (2 + v) := oN_add 2 v
  have z2 : 0 ≤ Int32.ofInt 2 + oN v ∧ (Int32.ofInt 2 + oN v).toNatClampNeg < 4 := by
    rw [e2]
    exact ⟨oN_nn (by omega), by rw [oN_nat (by omega)]; omega⟩
  have y2v : (Int32.ofInt 2 + oN v).toNatClampNeg = 2 + v := by
    rw [e2]
    exact oN_nat (by omega)
  generalize hp : (rowL (lTS σ).2.2.2 (entN (lTS σ)) (oN v) ((lTS σ).1 5 / 100)).1 = p at *
  have hp12 : p < 12 := by omega
  have z : ∀ c, c < 5 → 0 ≤ oN (5 * p) + oN c ∧ (oN (5 * p) + oN c).toNatClampNeg < 60 := fun c hc => aix (m := 60) _ c rfl (by omega) (by decide)
  refine And.intro (bT (z 2 (by decide))) ?_
  refine And.intro (bW g1 zv) ?_
  refine And.intro (bT (z 2 (by decide))) ?_
  refine And.intro (bT (z 3 (by decide))) ?_
  refine And.intro (bW g1 z2) ?_
  refine And.intro (bT (z 3 (by decide))) ?_
  refine And.intro (bT (z 4 (by decide))) ?_
  refine And.intro (bT (z 4 (by decide))) ?_
  refine And.intro (bG (by decide)) ?_
  refine And.intro (bG (by decide)) ?_
  have y2 : (oN (5 * p) + Int32.ofInt 2).toNatClampNeg = 5 * p + 2 := aixn _ 2 rfl (by omega)
  have y3 : (oN (5 * p) + Int32.ofInt 3).toNatClampNeg = 5 * p + 3 := aixn _ 3 rfl (by omega)
  have y4 : (oN (5 * p) + Int32.ofInt 4).toNatClampNeg = 5 * p + 4 := aixn _ 4 rfl (by omega)
  have y8 : (Int32.ofInt 8).toNatClampNeg = 8 := rfl
  have hQ2 : ∀ σ', lTS σ' = bodT (lTS σ) v (σ.1 9 5 v) (σ.1 9 5 (2 + v)) → σ'.1 9 5 = σ.1 9 5 → xFr PL σ σ' → Q (.inr (318, [(0, xR 9 2), (1, xR 9 3), (2, xR 9 4), (3, xR 9 5), (6, xI (oN v + 1))], σ', 0)) := by
    rw [oN_1]
    exact hQ
  have r5 : ∀ (τ : XH) (k i : Nat) (x : Int32), (xuI τ 9 4 k x).1 9 5 i = τ.1 9 5 i := fun _ _ _ _ => xu_ne (by decide)
  have r2 : ∀ (τ : XH) (k i : Nat) (x : Int32), (xuI τ 9 4 k x).1 9 2 i = τ.1 9 2 i := fun _ _ _ _ => xu_ne (by decide)
  have q : ∀ (τ : XH) (i k : Nat) (x : Int32), i ≠ k → (xuI τ 9 4 (5 * p + i) x).1 9 4 (5 * p + k) = τ.1 9 4 (5 * p + k) := fun τ i k x hik => by
    rw [xu_eq, if_neg (by omega)]
  refine hQ2 _ ?_ ?_ ?_
  · rw [y2, y3, y4, y8, yv, y2v]
    simp only [r5, r2]
    rw [q _ 3 4 _ (by decide), q _ 2 4 _ (by decide), q _ 2 3 _ (by decide), lTS_g (by decide), lTS_t (by omega), lTS_t (by omega), lTS_t (by omega), tL_at (by omega), tL_at (by omega), tL_at (by omega), gL_at (by decide), t1, w1, hl]
    unfold bodT ledL addL
    rw [hp]
    rfl
  · funext i
    rw [xu_ne (by decide)]
    simp only [r5]
    rw [w1]
  · exact (((f2.tr (xFr.u ⟨rfl, by decide⟩)).tr (xFr.u ⟨rfl, by decide⟩)).tr (xFr.u ⟨rfl, by decide⟩)).tr (xFr.u ⟨rfl, by decide⟩)
set_option maxRecDepth 100000 in
set_option maxHeartbeats 600000 in
theorem sL_tick_318 (X : Nat × (Nat → Int32)) (Q : XO → Prop) (v : Nat) (hv : v < 2) (σ : XH) (T : Int32) (hu : okU T (vT (lTS σ) v)) (hf : xfl σ = 1) (h : okT (lTS σ))
    (hQ : ∀ σ', lTS σ' = bodT (lTS σ) v (σ.1 9 5 v) (σ.1 9 5 (2 + v)) → σ'.1 9 5 = σ.1 9 5 → xFr PL σ σ' → Q (.inr (318, [(0, xR 9 2), (1, xR 9 3), (2, xR 9 4), (3, xR 9 5), (6, xI (oN (v + 1)))], σ', 0))) :
    xTk X Q 1000 318 [(0, xR 9 2), (1, xR 9 3), (2, xR 9 4), (3, xR 9 5), (6, xI (oN v))] [] σ := by
  have ha : Int32.ofInt 16 * oN v = oN (16 * v) := oN_mul 16 v
  have z8 : 0 ≤ Int32.ofInt 16 * oN v + Int32.ofInt 8 ∧ (Int32.ofInt 16 * oN v + Int32.ofInt 8).toNatClampNeg < 32 := by
    rw [ha]
    exact aix (m := 32) _ 8 rfl (by omega) (by decide)
  have y8 : (Int32.ofInt 16 * oN v + Int32.ofInt 8).toNatClampNeg = 16 * v + 8 := by
    rw [ha]
    exact aixn _ 8 rfl (by omega)
  refine And.intro (fun h => ?_) (fun _ => ?_)
  · have h : oN 2 ≤ oN v := h
    rw [oN_le (by decide) (by omega)] at h
    omega
  refine And.intro (bE z8) ?_
  refine And.intro (fun c => ?_) (fun c => ?_)
  · have c : σ.1 9 3 (Int32.ofInt 16 * oN v + Int32.ofInt 8).toNatClampNeg = 0 := c
    rw [y8, eV_at hv (by decide)] at c
    refine wF_of (eL_flow (X := X) hv hu) ?_
    refine wk_goto (pc := 343) (t := 347) rfl rfl ?_
    exact sL_tick_347 X Q _ v hv _ σ hf h (by unfold lkV; rw [if_pos c]) hQ
  · have c : ¬ σ.1 9 3 (Int32.ofInt 16 * oN v + Int32.ofInt 8).toNatClampNeg = 0 := c
    rw [y8, eV_at hv (by decide)] at c
    refine wk_iconst (pc := 346) rfl rfl ?_
    exact sL_tick_347 X Q _ v hv _ σ hf h (by unfold lkV; rw [if_neg c]; rfl) hQ
theorem ab_pos {b : Int32} (h : -1000 ≤ b ∧ b ≤ 1000) : 0 < abI b ↔ ¬ b = 0 := by
  unfold abI
  split <;> constructor <;> intro _ <;> grind
set_option maxRecDepth 100000 in
set_option maxHeartbeats 600000 in
theorem sL_tick_418 (X : Nat × (Nat → Int32)) (Q : XO → Prop) (σ : XH) (hf : xfl σ = 1)
    (hQ : ∀ σ', lTS σ' = (updF (lTS σ).1 5 ((lTS σ).1 5 + 1), (lTS σ).2) → xFr PL σ σ' → Q (.inl (.inl (some (xI (if 0 < σ.1 9 5 0 ∨ 0 < σ.1 9 5 1 then 1 else 0))), σ'))) :
    xTk X Q 1000 318 [(0, xR 9 2), (1, xR 9 3), (2, xR 9 4), (3, xR 9 5), (6, xI (oN 2))] [] σ := by
  refine And.intro (fun _ => ?_) (fun h => absurd (by decide) h)
  have fin : ∀ x, x = (if 0 < σ.1 9 5 0 ∨ 0 < σ.1 9 5 1 then (1 : Int32) else 0) → Q (.inl (.inl (some (xI x)), xuI σ 9 2 5 (σ.1 9 2 5 + Int32.ofInt 1))) := by
    rintro x rfl
    refine hQ _ ?_ (xFr.u ⟨rfl, Or.inl rfl⟩)
    rw [lTS_g (by decide), gL_at (by decide)]
    rfl
  have c0 : (xuI σ 9 2 5 (σ.1 9 2 5 + Int32.ofInt 1)).1 9 5 0 = σ.1 9 5 0 := xu_ne (by decide)
  have c1 : (xuI σ 9 2 5 (σ.1 9 2 5 + Int32.ofInt 1)).1 9 5 1 = σ.1 9 5 1 := xu_ne (by decide)
  refine And.intro (bG (by decide)) ?_
  refine And.intro (bG (by decide)) ?_
  refine And.intro (bW hf (by decide)) ?_
  refine And.intro (fun h => ?_) (fun h => ?_)
  · have h : 0 < (xuI σ 9 2 5 (σ.1 9 2 5 + Int32.ofInt 1)).1 9 5 0 := h
    rw [c0] at h
    refine And.intro (Or.inr (by decide)) ?_
    exact fin _ (by rw [if_pos (Or.inl h)]; rfl)
  · have h : ¬ 0 < (xuI σ 9 2 5 (σ.1 9 2 5 + Int32.ofInt 1)).1 9 5 0 := h
    rw [c0] at h
    refine And.intro (bW hf (by decide)) ?_
    refine And.intro (fun g => ?_) (fun g => ?_)
    · have g : (xuI σ 9 2 5 (σ.1 9 2 5 + Int32.ofInt 1)).1 9 5 1 ≤ 0 := g
      rw [c1] at g
      refine And.intro (Or.inl (by decide)) ?_
      exact fin _ (by rw [if_neg (fun q => q.elim h (Int32.not_lt.mpr g))]; rfl)
    · have g : ¬ (xuI σ 9 2 5 (σ.1 9 2 5 + Int32.ofInt 1)).1 9 5 1 ≤ 0 := g
      rw [c1] at g
      refine And.intro (Or.inr (by decide)) ?_
      exact fin _ (by rw [if_pos (Or.inr (Int32.not_le.mp g))]; rfl)
