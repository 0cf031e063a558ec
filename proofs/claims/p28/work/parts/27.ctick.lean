/-! ===== pure words of the class (out of the proof of whole, by wip/p28/gen/prune.py) ===== -/
theorem flD {a : Int32} : (if (a ^^^ 1000) < 0 then (if a / 1000 * 1000 = a then a / 1000 else a / 1000 - 1) else a / 1000) = flI a 1000 := by
  have hs : (a ^^^ 1000) < 0 ↔ a < 0 := by
    have e : ∀ x : Int32, x < 0 ↔ x.toBitVec.msb = true := by
      intro x
      rw [Int32.lt_iff_toInt_lt, BitVec.msb_eq_toInt, decide_eq_true_eq]
      rfl
    rw [e, e, Int32.toBitVec_xor, BitVec.msb_xor]
    have : (1000 : Int32).toBitVec.msb = false := by decide
    rw [this, Bool.xor_false]
  have hq : (a / 1000).toInt = a.toInt.tdiv 1000 := Int32.toInt_div_of_ne_right _ _ (by decide)
  have h0 : (0 : Int32).toInt = 0 := rfl
  have l1 := Int32.toInt_lt a
  have l2 := Int32.le_toInt a
  unfold flI
  by_cases ha : a < 0
  · rw [if_pos (hs.mpr ha)]
    have h1 := Int32.lt_iff_toInt_lt.mp ha
    rw [h0] at h1
    have hk : a.toInt.tdiv 1000 = -((-a.toInt) / 1000) := by
      rw [← Int.tdiv_eq_ediv_of_nonneg (by omega : 0 ≤ -a.toInt), Int.neg_tdiv, Int.neg_neg]
    have hm : (a / 1000 * 1000).toInt = -((-a.toInt) / 1000) * 1000 := by
      rw [Int32.toInt_mul, hq, hk]
      exact Int.bmod_eq_of_le (by show _ ≤ -((-a.toInt) / 1000) * 1000; omega) (by show -((-a.toInt) / 1000) * 1000 < _; omega)
    have hr : (a - a / 1000 * 1000).toInt = a.toInt - -((-a.toInt) / 1000) * 1000 := by
      rw [Int32.toInt_sub, hm]
      exact Int.bmod_eq_of_le (by omega) (by omega)
    by_cases hz : a / 1000 * 1000 = a
    · rw [if_pos hz, if_neg]
      rw [hz]
      intro h2
      have : a - a = 0 := by grind
      rw [this] at h2
      exact absurd h2 (by decide)
    · rw [if_neg hz, if_pos]
      rw [Int32.lt_iff_toInt_lt, hr, h0]
      have h3 : ¬ (-((-a.toInt) / 1000) * 1000 = a.toInt) := fun q => hz (Int32.toInt_inj.mp (by rw [hm]; exact q))
      omega
  · rw [if_neg (fun q => ha (hs.mp q))]
    rw [if_neg (Int32.not_lt.mpr (tdiv_bd (Int32.not_lt.mp ha) (by decide)).2.2)]
def PT (j c i : Nat) : Prop := (c = 3 ∧ i = j) ∨ (c = 4 ∧ (i = 2 * j ∨ i = 2 * j + 1)) ∨ ((c = 8 ∨ c = 0) ∧ i = j)
theorem cTS_g {σ : XH} {j w : Nat} {x : Int32} (h : w < 9) : cTS (xuI σ 3 j (w + 3) x) j = (updF (cTS σ j).1 w x, (cTS σ j).2) := by
  refine Prod.ext (funext fun i => ?_) (Prod.ext (vC_ne (by omega)) (Prod.ext (vC_ne (by omega)) (bL_ne (by omega))))
  show trF 10 (gC (xuI σ 3 j (w + 3) x) j) i = updF (trF 10 (gC σ j)) w x i
  unfold trF updF
  dsimp only
  by_cases hi : i < 10
  · rw [if_pos hi, if_pos hi]
    by_cases e : i = 9
    · subst e
      rw [if_neg (by omega)]
      exact xu_ne (by omega)
    · have e1 : ∀ τ : XH, gC τ j i = τ.1 3 j (i + 3) := by
        intro τ
        unfold gC
        split
        · exact absurd rfl e
        · rfl
      rw [e1, e1, xu_eq]
      by_cases e2 : i = w
      · rw [if_pos e2, if_pos (by omega)]
      · rw [if_neg e2, if_neg (by omega)]
  · rw [if_neg hi, if_neg hi, if_neg (by omega)]
theorem cTS_fr {P : Nat → Nat → Prop} {σ σ' : XH} {j : Nat} (h : xFr P σ σ') (h3 : ¬ P 3 j) (h4 : ¬ P 4 (2 * j)) (h5 : ¬ P 4 (2 * j + 1)) (h8 : ¬ P 8 j) (h0 : ¬ P 0 j) : cTS σ' j = cTS σ j := by
  refine Prod.ext (funext fun i => ?_) (Prod.ext (vC_fr h h4) (Prod.ext (vC_fr h h5) (bL_fr h h8)))
  show trF 10 (gC σ' j) i = trF 10 (gC σ j) i
  unfold trF
  split
  · unfold gC
    split
    · exact h.1 _ _ _ h0
    · exact h.1 _ _ _ h3
  · rfl
theorem cTS_V {σ σ' : XH} {j : Nat} {v : Nat} (hv : v < 2) (h : xFr (PV (2 * j + v)) σ σ') : cTS σ' j = setV (cTS σ j) v (vC σ' (2 * j + v)) := by
  have hg : (cTS σ' j).1 = (cTS σ j).1 := by
    funext i
    show trF 10 (gC σ' j) i = trF 10 (gC σ j) i
    unfold trF
    split
    · unfold gC
      split
      · exact h.1 _ _ _ (fun q => absurd q.1 (by decide))
      · exact h.1 _ _ _ (fun q => absurd q.1 (by decide))
    · rfl
  have hL : bL σ' j = bL σ j := bL_fr h (fun q => absurd q.1 (by decide))
  have hv2 : v = 0 ∨ v = 1 := by omega
  rcases hv2 with rfl | rfl
  · exact Prod.ext hg (Prod.ext rfl (Prod.ext (vC_fr h (fun q => absurd q.2 (by omega))) hL))
  · exact Prod.ext hg (Prod.ext (vC_fr h (fun q => absurd q.2 (by omega))) (Prod.ext rfl hL))
theorem cTS_B {σ σ' : XH} {j n : Nat} (h : xFr (PB j) σ σ') (hn : σ'.1 0 j 1 = oN n) : cTS σ' j = (updF (cTS σ j).1 9 (oN n), (cTS σ j).2.1, (cTS σ j).2.2.1, bL σ' j) := by
  refine Prod.ext (funext fun i => ?_) (Prod.ext (vC_fr h (by unfold PB; omega)) (Prod.ext (vC_fr h (by unfold PB; omega)) rfl))
  show trF 10 (gC σ' j) i = updF (trF 10 (gC σ j)) 9 (oN n) i
  unfold trF updF
  dsimp only
  by_cases hi : i < 10
  · rw [if_pos hi, if_pos hi]
    by_cases e : i = 9
    · subst e
      rw [if_pos rfl]
      exact hn
    · rw [if_neg e]
      have e1 : ∀ τ : XH, gC τ j i = τ.1 3 j (i + 3) := by
        intro τ
        unfold gC
        split
        · exact absurd rfl e
        · rfl
      rw [e1, e1]
      exact h.1 _ _ _ (by unfold PB; omega)
  · rw [if_neg hi, if_neg hi, if_neg (by omega)]
set_option maxRecDepth 100000 in
set_option maxHeartbeats 4000000 in
theorem eX4_at (X : Nat × (Nat → Int32)) (σ : XH) (j v : Nat) (hv : v < 2) : fX4_at X [xR 3 j, xI (oN v)] σ = some (.inl (some (xR 4 (2 * j + v))), σ) := by
  rw [uX4_at]
  refine wF_eq (wI_s ?_)
  have hv2 : v = 0 ∨ v = 1 := by omega
  rcases hv2 with rfl | rfl
  · refine And.intro (fun _ => ?_) (fun h => absurd rfl h)
    rfl
  · refine And.intro (fun h => absurd h (by decide)) (fun _ => ?_)
    rfl
set_option maxRecDepth 100000 in
set_option maxHeartbeats 4000000 in
theorem eX4_flow (X : Nat × (Nat → Int32)) (σ : XH) (j : Nat) (h0 : okV (vC σ (2 * j))) (h1 : okV (vC σ (2 * j + 1))) : fX4_flow X [xR 3 j] σ = some (.inl (some (xI (bothT (cTS σ j)))), σ) := by
  rw [uX4_flow]
  refine wF_eq (wI_s ?_)
  refine wF_of (eX5_flow X σ (2 * j) h0.2.1) ?_
  refine wF_of (eX5_flow X σ (2 * j + 1) h1.2.1) ?_
  rfl
set_option maxRecDepth 100000 in
set_option maxHeartbeats 4000000 in
theorem eX4_idealFor (X : Nat × (Nat → Int32)) (σ : XH) (j : Nat) (u : Int32) (h0 : okV (vC σ (2 * j))) (h1 : okV (vC σ (2 * j + 1))) (hu : 0 ≤ u ∧ u ≤ 1000) : fX4_idealFor X [xR 3 j, xI u] σ = some (.inl (some (xI (idealT (cTS σ j) u))), σ) := by
  rw [uX4_idealFor]
  refine wF_eq (wI_s ?_)
  refine wF_of (eX5_idealFor X σ (2 * j) u h0 hu) ?_
  refine wF_of (eX5_idealFor X σ (2 * j + 1) u h1 hu) ?_
  have e : ∀ x y : Int32, x + y = 0 + x + y := fun x y => by grind
  exact congrArg (fun x => ((.inl (some (xI x)), σ) : XR × XH)) (e _ _)
theorem steer_eq {r c s : Int32} (hr : 1 ≤ r ∧ r ≤ 1000) : (if (0 : Int32) < (if s + (if -r < (if c < r then c else r) then (if c < r then c else r) else -r) < 1000 then s + (if -r < (if c < r then c else r) then (if c < r then c else r) else -r) else 1000) then (if s + (if -r < (if c < r then c else r) then (if c < r then c else r) else -r) < 1000 then s + (if -r < (if c < r then c else r) then (if c < r then c else r) else -r) else 1000) else 0) = inI (s + inI c (-r) r) 0 1000 := by
  have e : (if -r < (if c < r then c else r) then (if c < r then c else r) else -r) = inI c (-r) r := by
    unfold inI
    grind
  rw [e]
  generalize s + inI c (-r) r = z
  unfold inI
  grind
set_option maxRecDepth 100000 in
set_option maxHeartbeats 4000000 in
theorem eX4_steer (X : Nat × (Nat → Int32)) (σ : XH) (j : Nat) (hr : 1 ≤ σ.1 3 j 7 ∧ σ.1 3 j 7 ≤ 1000) : fX4_steer X [xR 3 j, xI (bothT (cTS σ j))] σ = some (.inl none, xuI σ 3 j 3 (ctlI (cTS σ j))) := by
  rw [uX4_steer]
  refine wF_eq (wI_s ?_)
  refine wF_of (eJ9_floorDiv X σ _ _ (by decide)) ?_
  refine wF_of (eJ9_min X σ _ _) ?_
  refine wF_of (eJ9_max X σ _ _) ?_
  refine wF_of (eJ9_min X σ _ _) ?_
  refine wF_of (eJ9_max X σ _ _) ?_
  have key : ∀ x, x = ctlI (cTS σ j) → ((.inl none, xuI σ 3 j 3 x) : XR × XH) = (.inl none, xuI σ 3 j 3 (ctlI (cTS σ j))) := by
    rintro x rfl
    rfl
  refine key _ ?_
  unfold ctlI
  rw [← flD]
  exact steer_eq (r := σ.1 3 j 7) (s := σ.1 3 j 3) hr
/-- one valve's part of the class's tick -/
def bodC (t : TS) (v : Nat) : TS := bodT (setV t v (shiftV (vT t v) (byT t v))) v (abI (byT t v)) (turnV (vT t v) (byT t v))
abbrev xCk (X : Nat × (Nat → Int32)) (Q : XO → Prop) (n pc : Nat) (lv : XL) (st : List XV) (σ : XH) : Prop := wExec X (xEnv (nX4_tick X)) (fun _ _ => some none) 1 [(20, [0, 1, 2])] tX4_tick Q n (xPc tX4_tick pc) lv st σ 0
theorem updF_98 {g : Nat → Int32} {a b : Int32} : updF (updF g 8 a) 9 b = updF (updF g 9 b) 8 a := by
  funext i
  unfold updF
  grind
set_option maxRecDepth 100000 in
set_option maxHeartbeats 4000000 in
theorem sX4_tick_68 (X : Nat × (Nat → Int32)) (Q : XO → Prop) (n j k v N : Nat) (m l b t : Int32) (σ : XH) (hN : N ≤ 12) (he : σ.1 0 j 1 = oN N) (hk : keyA (bL σ j) N)
    (hQ : ∀ σ', cTS σ' j = (updF (updF (cTS σ j).1 8 ((cTS σ j).1 8 + l)) 9 (oN (ledL (bL σ j) N (oN v) ((cTS σ j).1 5 / 100) (abI b) t l).2), (cTS σ j).2.1, (cTS σ j).2.2.1, (ledL (bL σ j) N (oN v) ((cTS σ j).1 5 / 100) (abI b) t l).1) → xFr (PT j) σ σ' → Q (.inr (20, [(0, xR 3 j), (1, xI (if m = 0 ∧ b = 0 then 0 else 1)), (2, xI (oN (v + 1)))], σ', 0))) : xCk X Q (n + 100) 68 [(5, xI t), (4, xI b), (3, xR 4 k), (0, xR 3 j), (1, xI m), (2, xI (oN v))] [xI l] σ := by
  have e2 : cTS (xuI σ 3 j 11 (σ.1 3 j 11 + l)) j = (updF (cTS σ j).1 8 (σ.1 3 j 11 + l), (cTS σ j).2) := cTS_g (w := 8) (by decide)
  have n2 : (xuI σ 3 j 11 (σ.1 3 j 11 + l)).1 0 j 1 = oN N := by
    rw [xu_ne (fun q => absurd q.1 (by decide)), he]
  have bL2 : bL (xuI σ 3 j 11 (σ.1 3 j 11 + l)) j = bL σ j := bL_ne (fun q => absurd q.1 (by decide))
  have t8 : (xuI σ 3 j 11 (σ.1 3 j 11 + l)).1 3 j 8 = (cTS σ j).1 5 := by
    rw [xu_eq, if_neg (by decide)]
    rfl
  obtain ⟨r, a1, σ3, rfl, a2, a3, a4⟩ := wX1_add X (xuI σ 3 j 11 (σ.1 3 j 11 + l)) j (oN v) ((xuI σ 3 j 11 (σ.1 3 j 11 + l)).1 3 j 8 / 100) (abI b) t l N hN n2 (by rw [bL2]; exact hk)
  have hQ2 : ∀ x y, x = (if m = 0 ∧ b = 0 then (0 : Int32) else 1) → y = oN (v + 1) → Q (.inr (20, [(0, xR 3 j), (1, xI x), (2, xI y)], σ3, 0)) := by
    rintro x y rfl rfl
    refine hQ σ3 ?_ (xFr.tr (xFr.u (Or.inl ⟨rfl, rfl⟩)) (a4.mono (fun c i q => Or.inr (Or.inr q))))
    rw [cTS_B a4 a3, e2, a2, bL2, t8]
    rfl
  refine And.intro (by decide) ?_
  refine wF_of (eJ9_abs X _ _) ?_
  refine wF_of a1 ?_
  refine And.intro (fun z1 => ?_) (fun z1 => ?_)
  · refine And.intro (fun z2 => ?_) (fun z2 => ?_)
    · exact hQ2 _ _ (if_pos ⟨z1, z2⟩).symm oN_1
    · exact hQ2 _ _ (if_neg (fun q => z2 q.2)).symm oN_1
  · exact hQ2 _ _ (if_neg (fun q => z1 q.1)).symm oN_1
set_option maxRecDepth 100000 in
set_option maxHeartbeats 4000000 in
theorem sX4_tick_67 (X : Nat × (Nat → Int32)) (Q : XO → Prop) (n j k v N : Nat) (m b t : Int32) (σ : XH) (hN : N ≤ 12) (he : σ.1 0 j 1 = oN N) (hk : keyA (bL σ j) N)
    (hQ : ∀ σ', cTS σ' j = (updF (updF (cTS σ j).1 8 ((cTS σ j).1 8 + (Int32.ofInt 0))) 9 (oN (ledL (bL σ j) N (oN v) ((cTS σ j).1 5 / 100) (abI b) t (Int32.ofInt 0)).2), (cTS σ j).2.1, (cTS σ j).2.2.1, (ledL (bL σ j) N (oN v) ((cTS σ j).1 5 / 100) (abI b) t (Int32.ofInt 0)).1) → xFr (PT j) σ σ' → Q (.inr (20, [(0, xR 3 j), (1, xI (if m = 0 ∧ b = 0 then 0 else 1)), (2, xI (oN (v + 1)))], σ', 0))) : xCk X Q (n + 100) 67 [(5, xI t), (4, xI b), (3, xR 4 k), (0, xR 3 j), (1, xI m), (2, xI (oN v))] [] σ := by
  have e2 : cTS (xuI σ 3 j 11 (σ.1 3 j 11 + (Int32.ofInt 0))) j = (updF (cTS σ j).1 8 (σ.1 3 j 11 + (Int32.ofInt 0)), (cTS σ j).2) := cTS_g (w := 8) (by decide)
  have n2 : (xuI σ 3 j 11 (σ.1 3 j 11 + (Int32.ofInt 0))).1 0 j 1 = oN N := by
    rw [xu_ne (fun q => absurd q.1 (by decide)), he]
  have bL2 : bL (xuI σ 3 j 11 (σ.1 3 j 11 + (Int32.ofInt 0))) j = bL σ j := bL_ne (fun q => absurd q.1 (by decide))
  have t8 : (xuI σ 3 j 11 (σ.1 3 j 11 + (Int32.ofInt 0))).1 3 j 8 = (cTS σ j).1 5 := by
    rw [xu_eq, if_neg (by decide)]
    rfl
  obtain ⟨r, a1, σ3, rfl, a2, a3, a4⟩ := wX1_add X (xuI σ 3 j 11 (σ.1 3 j 11 + (Int32.ofInt 0))) j (oN v) ((xuI σ 3 j 11 (σ.1 3 j 11 + (Int32.ofInt 0))).1 3 j 8 / 100) (abI b) t (Int32.ofInt 0) N hN n2 (by rw [bL2]; exact hk)
  have hQ2 : ∀ x y, x = (if m = 0 ∧ b = 0 then (0 : Int32) else 1) → y = oN (v + 1) → Q (.inr (20, [(0, xR 3 j), (1, xI x), (2, xI y)], σ3, 0)) := by
    rintro x y rfl rfl
    refine hQ σ3 ?_ (xFr.tr (xFr.u (Or.inl ⟨rfl, rfl⟩)) (a4.mono (fun c i q => Or.inr (Or.inr q))))
    rw [cTS_B a4 a3, e2, a2, bL2, t8]
    rfl
  refine And.intro (by decide) ?_
  refine wF_of (eJ9_abs X _ _) ?_
  refine wF_of a1 ?_
  refine And.intro (fun z1 => ?_) (fun z1 => ?_)
  · refine And.intro (fun z2 => ?_) (fun z2 => ?_)
    · exact hQ2 _ _ (if_pos ⟨z1, z2⟩).symm oN_1
    · exact hQ2 _ _ (if_neg (fun q => z2 q.2)).symm oN_1
  · exact hQ2 _ _ (if_neg (fun q => z1 q.1)).symm oN_1

