/-! ===== pure words of the class (out of the proof of whole, by wip/p28/gen/prune.py) ===== -/
theorem vC_u {σ : XH} {k w : Nat} {x : Int32} (h : w < 16) : vC (xuI σ 4 k (pmV w) x) k = updF (vC σ k) w x := by
  have hi : ∀ i, i < 16 → ∀ w, w < 16 → pmV i = pmV w → i = w := by decide
  funext i
  simp only [vC, trF, xu_eq, updF]
  by_cases e : i = w
  · subst e
    rw [if_pos h, if_pos rfl, if_pos rfl]
  · rw [if_neg e]
    split
    · rename_i h2
      rw [if_neg (fun q => e (hi i h2 w h q))]
    · rfl
theorem vC_ne {σ : XH} {c j i k : Nat} {x : Int32} (h : ¬ (4 = c ∧ k = j)) : vC (xuI σ c j i x) k = vC σ k := by
  unfold vC
  funext w
  unfold trF
  dsimp only
  rw [xu_ne h]
theorem vC_fr {P : Nat → Nat → Prop} {σ σ' : XH} {k : Nat} (h : xFr P σ σ') (hn : ¬ P 4 k) : vC σ' k = vC σ k := by
  unfold vC
  funext w
  unfold trF
  dsimp only
  rw [h.1 _ _ _ hn]
def PV (k : Nat) (c j : Nat) : Prop := c = 4 ∧ j = k
abbrev xSh (X : Nat × (Nat → Int32)) (Q : XO → Prop) (n pc : Nat) (lv : XL) (st : List XV) (σ : XH) : Prop := wExec X (xEnv (nX5_shift X)) (fun _ _ => some none) 0 [] tX5_shift Q n (xPc tX5_shift pc) lv st σ 0
set_option maxRecDepth 100000 in
set_option maxHeartbeats 4000000 in
theorem sX5_shift_44 (X : Nat × (Nat → Int32)) (Q : XO → Prop) (n k : Nat) (b w t : Int32) (σ : XH) (hQ : ∀ σ', vC σ' k = updF (updF (updF (updF (updF (updF (vC σ k) 8 (vC σ k 8 + b)) 11 (vC σ k 11 + abI b)) 13 (vC σ k 13 + abI b)) 12 (vC σ k 12 + t)) 14 (vC σ k 14 + t)) 9 w → xFr (PV k) σ σ' → Q (.inl (.inl (some (xI t)), σ'))) : xSh X Q (n + 60) 44 [(3, xI t), (2, xI w), (0, xR 4 k), (1, xI b)] [] σ := by
  refine wF_of (eJ9_abs X _ _) ?_
  refine wF_of (eJ9_abs X _ _) ?_
  refine hQ _ ?_ ?_
  · have m8 : ∀ (τ : XH) (x : Int32), vC (xuI τ 4 k 8 x) k = _ := fun τ x => vC_u (w := 8) (by decide)
    have m9 : ∀ (τ : XH) (x : Int32), vC (xuI τ 4 k 9 x) k = _ := fun τ x => vC_u (w := 9) (by decide)
    have m11 : ∀ (τ : XH) (x : Int32), vC (xuI τ 4 k 11 x) k = _ := fun τ x => vC_u (w := 11) (by decide)
    have m12 : ∀ (τ : XH) (x : Int32), vC (xuI τ 4 k 12 x) k = _ := fun τ x => vC_u (w := 12) (by decide)
    have m13 : ∀ (τ : XH) (x : Int32), vC (xuI τ 4 k 13 x) k = _ := fun τ x => vC_u (w := 13) (by decide)
    have m14 : ∀ (τ : XH) (x : Int32), vC (xuI τ 4 k 14 x) k = _ := fun τ x => vC_u (w := 14) (by decide)
    rw [m9, m14, m12, m13, m11, m8]
    simp [xu_eq, vC_8, vC_11, vC_12, vC_13, vC_14]
  · exact (((((xFr.u ⟨rfl, rfl⟩).tr (xFr.u ⟨rfl, rfl⟩)).tr (xFr.u ⟨rfl, rfl⟩)).tr (xFr.u ⟨rfl, rfl⟩)).tr (xFr.u ⟨rfl, rfl⟩)).tr (xFr.u ⟨rfl, rfl⟩)
theorem shift_eq {V : Nat → Int32} {b : Int32} (h0 : ¬ b = 0) : updF (updF (updF (updF (updF (updF (updF V 10 1) 8 (V 8 + b)) 11 (V 11 + abI b)) 13 (V 13 + abI b)) 12 (V 12 + turnV V b)) 14 (V 14 + turnV V b)) 9 (wayI b) = shiftV V b := by
  unfold shiftV turnV
  rw [if_neg h0, if_neg h0]
  funext i
  unfold updF
  grind
set_option maxRecDepth 100000 in
set_option maxHeartbeats 4000000 in
theorem wX5_shift (X : Nat × (Nat → Int32)) (σ : XH) (k : Nat) (b : Int32) : wF (fX5_shift X [xR 4 k, xI b] σ) (fun r => ∃ σ', r = (.inl (some (xI (turnV (vC σ k) b))), σ') ∧ vC σ' k = shiftV (vC σ k) b ∧ xFr (PV k) σ σ') := by
  rw [uX5_shift]
  refine wI_s (N := 99999) ?_
  have m10 : ∀ (τ : XH) (x : Int32), vC (xuI τ 4 k 10 x) k = _ := fun τ x => vC_u (w := 10) (by decide)
  refine And.intro (fun h0 => ?_) (fun h0 => ?_)
  · refine And.intro (Or.inl (by decide)) ?_
    refine And.intro (fun _ => ?_) (fun h => absurd h0 h)
    refine ⟨xuI σ 4 k 10 0, ?_, ?_, xFr.u ⟨rfl, rfl⟩⟩
    · unfold turnV
      rw [if_pos h0]
      rfl
    · rw [m10]
      unfold shiftV
      rw [if_pos h0]
  · refine And.intro (Or.inr (by decide)) ?_
    refine And.intro (fun h => absurd h h0) (fun _ => ?_)
    have e9 : (xuI σ 4 k 10 (Int32.ofInt 1)).1 4 k 9 = vC σ k 9 := by
      rw [xu_eq, if_neg (by decide)]
      exact (vC_9 σ k).symm
    have tail : ∀ (n : Nat) (w t : Int32), w = wayI b → t = turnV (vC σ k) b → xSh X (wQ X (xEnv (nX5_shift X)) (fun _ _ => some none) 0 [] tX5_shift 99999 (fun r => ∃ σ', r = (.inl (some (xI (turnV (vC σ k) b))), σ') ∧ vC σ' k = shiftV (vC σ k) b ∧ xFr (PV k) σ σ')) (n + 60) 44 [(3, xI t), (2, xI w), (0, xR 4 k), (1, xI b)] [] (xuI σ 4 k 10 (Int32.ofInt 1)) := by
      intro n w t hw ht
      refine sX5_shift_44 X _ n k b w t _ (fun σ' h1 h2 => ⟨σ', ?_, ?_, (xFr.u ⟨rfl, rfl⟩).tr h2⟩)
      · rw [ht]
      · rw [h1, m10, hw, ht]
        exact shift_eq h0
    refine And.intro (fun hle => ?_) (fun hgt => ?_)
    · have hw : (-1 : Int32) = wayI b := by
        have hle : b ≤ 0 := hle
        unfold wayI
        grind
      refine And.intro (fun ht => ?_) (fun ht => ?_)
      · refine tail _ _ _ hw ?_
        rw [e9] at ht
        unfold turnV
        rw [if_neg h0, if_pos (by rw [← hw]; exact ht)]
        rfl
      · refine tail _ _ _ hw ?_
        rw [e9] at ht
        unfold turnV
        rw [if_neg h0, if_neg (by rw [← hw]; exact ht)]
        rfl
    · have hw : (1 : Int32) = wayI b := by
        have hgt : ¬ b ≤ 0 := hgt
        unfold wayI
        grind
      refine And.intro (fun ht => ?_) (fun ht => ?_)
      · refine tail _ _ _ hw ?_
        rw [e9] at ht
        unfold turnV
        rw [if_neg h0, if_pos (by rw [← hw]; exact ht)]
        rfl
      · refine tail _ _ _ hw ?_
        rw [e9] at ht
        unfold turnV
        rw [if_neg h0, if_neg (by rw [← hw]; exact ht)]
        rfl
/-- the rows of the book j -/
def bL (σ : XH) (j : Nat) : Nat → Int32 := trF 60 (fun i => σ.1 8 j i)
def PB (j c i : Nat) : Prop := (c = 8 ∨ c = 0) ∧ i = j
theorem bL_at {σ : XH} {j i : Nat} (h : i < 60) : σ.1 8 j i = bL σ j i := by
  unfold bL trF
  rw [if_pos h]
theorem bL_u {σ : XH} {j i : Nat} {x : Int32} (h : i < 60) : bL (xuI σ 8 j i x) j = updF (bL σ j) i x := by
  funext k
  simp only [bL, trF, xu_eq, updF]
  grind
theorem bL_ne {σ : XH} {c j i k : Nat} {x : Int32} (h : ¬ (8 = c ∧ k = j)) : bL (xuI σ c j i x) k = bL σ k := by
  unfold bL
  funext w
  unfold trF
  dsimp only
  rw [xu_ne h]
theorem bL_fr {P : Nat → Nat → Prop} {σ σ' : XH} {k : Nat} (h : xFr P σ σ') (hn : ¬ P 8 k) : bL σ' k = bL σ k := by
  unfold bL
  funext w
  unfold trF
  dsimp only
  rw [h.1 _ _ _ hn]
theorem i5p {p : Nat} : oN p * (5 : Int32) = oN (5 * p) := by
  show oN p * oN 5 = _
  rw [oN_mul, Nat.mul_comm]
set_option maxRecDepth 100000 in
set_option maxHeartbeats 4000000 in
theorem lX1_find (X : Nat × (Nat → Int32)) (σ : XH) (j : Nat) (v d : Int32) (n : Nat) (R : XR × XH → Prop) (hn : n ≤ 12) (hR : ∀ r, r < n → bL σ j (5 * r) = v → bL σ j (5 * r + 1) = d → R (.inl (some (xI (oN r))), σ)) (hN : (∀ i, i < n → ¬ (bL σ j (5 * i) = v ∧ bL σ j (5 * i + 1) = d)) → R (.inl (some (xI (-1))), σ)) :
    ∀ (m N : Nat), m ≤ n → (∀ i, m ≤ i → i < n → ¬ (bL σ j (5 * i) = v ∧ bL σ j (5 * i + 1) = d)) → wF (xIter X (xEnv (nX1_find X)) (fun _ _ => some none) 0 [(7, [0, 1, 2, 3])] tX1_find (N + m + 1) (7, [(0, xR 0 j), (1, xI v), (2, xI d), (3, xI (oN m - 1))], σ, 0)) R := by
  intro m
  induction m with
  | zero =>
    intro N _ h
    refine wI_s (N := N + 0) ?_
    refine And.intro (fun _ => ?_) (fun h => absurd (by decide) h)
    exact hN (fun i hi => h i (Nat.zero_le _) hi)
  | succ m ih =>
    intro N hm h
    have e1 : oN (m + 1) - 1 = oN m := by
      rw [← oN_1]
      grind
    rw [e1]
    refine wI_s (N := N + (m + 1)) ?_
    refine And.intro (fun q => ?_) (fun _ => ?_)
    · exact absurd q (Int32.not_lt.mpr (oN_nn (by omega)))
    have e5 : oN m * (Int32.ofInt 5) = oN (5 * m) := i5p
    have y1 : (oN m * Int32.ofInt 5 + Int32.ofInt 1).toNatClampNeg = 5 * m + 1 := by
      rw [e5]
      exact aixn _ 1 rfl (by omega)
    have y0 : (oN m * Int32.ofInt 5 + Int32.ofInt 0).toNatClampNeg = 5 * m := by
      rw [e5]
      exact aixn _ 0 rfl (by omega)
    have z1 : 0 ≤ oN m * Int32.ofInt 5 + Int32.ofInt 1 ∧ (oN m * Int32.ofInt 5 + Int32.ofInt 1).toNatClampNeg < 60 := by
      rw [e5]
      exact aix (m := 60) _ 1 rfl (by omega) (by decide)
    have z0 : 0 ≤ oN m * Int32.ofInt 5 + Int32.ofInt 0 ∧ (oN m * Int32.ofInt 5 + Int32.ofInt 0).toNatClampNeg < 60 := by
      rw [e5]
      exact aix (m := 60) _ 0 rfl (by omega) (by decide)
    have e2 : oN m + Int32.ofInt (-1) = oN m - 1 := by
      show oN m + (-1) = _
      grind
    have next : ¬ (bL σ j (5 * m) = v ∧ bL σ j (5 * m + 1) = d) → wF (xIter X (xEnv (nX1_find X)) (fun _ _ => some none) 0 [(7, [0, 1, 2, 3])] tX1_find (N + (m + 1)) (7, [(0, xR 0 j), (1, xI v), (2, xI d), (3, xI (oN m + Int32.ofInt (-1)))], σ, 0)) R := by
      intro hno
      rw [e2]
      exact ih N (by omega) (fun i h1 h2 => by
        by_cases e : i = m
        · rw [e]; exact hno
        · exact h i (by omega) h2)
    refine And.intro z1 ?_
    refine And.intro (fun c1 => ?_) (fun c1 => next (fun q => c1 ?_))
    · refine And.intro z0 ?_
      refine And.intro (fun c0 => ?_) (fun c0 => next (fun q => c0 ?_))
      · refine hR m (by omega) ?_ ?_
        · rw [← bL_at (by omega), ← y0]
          exact c0
        · rw [← bL_at (by omega), ← y1]
          exact c1
      · rw [y0]
        exact (bL_at (by omega)).trans q.1
    · rw [y1]
      exact (bL_at (by omega)).trans q.2
set_option maxRecDepth 100000 in
set_option maxHeartbeats 4000000 in
theorem wX1_find (X : Nat × (Nat → Int32)) (σ : XH) (j : Nat) (v d : Int32) (n : Nat) (R : XR × XH → Prop) (hn : n ≤ 12) (he : σ.1 0 j 1 = oN n) (hR : ∀ r, r < n → bL σ j (5 * r) = v → bL σ j (5 * r + 1) = d → R (.inl (some (xI (oN r))), σ)) (hN : (∀ i, i < n → ¬ (bL σ j (5 * i) = v ∧ bL σ j (5 * i + 1) = d)) → R (.inl (some (xI (-1))), σ)) : wF (fX1_find X [xR 0 j, xI v, xI d] σ) R := by
  rw [uX1_find]
  refine wI_s (N := 99999) ?_
  have h := lX1_find X σ j v d n R hn hR hN n (99998 - n) (Nat.le_refl _) (fun i h1 h2 => by omega)
  rw [show 99998 - n + n + 1 = 99999 by omega, ← he] at h
  exact h
theorem bL_cpy {σ : XH} {j : Nat} : bL (xCpy σ j j 5 0 55) j = shfL (bL σ j) := by
  funext i
  simp only [bL, trF, xCpy, shfL, va_cpy]
  grind
abbrev xMk (X : Nat × (Nat → Int32)) (Q : XO → Prop) (n pc : Nat) (lv : XL) (st : List XV) (σ : XH) : Prop := wExec X (xEnv (nX1_make X)) (fun _ _ => some none) 0 [] tX1_make Q n (xPc tX1_make pc) lv st σ 0
set_option maxRecDepth 100000 in
set_option maxHeartbeats 4000000 in
theorem sX1_make_30 (X : Nat × (Nat → Int32)) (Q : XO → Prop) (n j q : Nat) (v d : Int32) (σ : XH) (hq : q < 12) (he : σ.1 0 j 1 = oN q) (hQ : ∀ σ', bL σ' j = filL (bL σ j) q v d → σ'.1 0 j 1 = oN (q + 1) → xFr (PB j) σ σ' → Q (.inl (.inl (some (xI (oN q))), σ'))) : xMk X Q (n + 60) 30 [(0, xR 0 j), (1, xI v), (2, xI d)] [] σ := by
  have e5 : σ.1 0 j 1 * (Int32.ofInt 5) = oN (5 * q) := by
    rw [he]
    exact i5p
  have z : ∀ c, c < 5 → 0 ≤ σ.1 0 j 1 * Int32.ofInt 5 + oN c ∧ (σ.1 0 j 1 * Int32.ofInt 5 + oN c).toNatClampNeg < 60 := by
    intro c hc
    rw [e5]
    exact aix (m := 60) _ c rfl (by omega) (by decide)
  have y : ∀ c, c < 5 → (σ.1 0 j 1 * Int32.ofInt 5 + oN c).toNatClampNeg = 5 * q + c := by
    intro c hc
    rw [e5]
    exact aixn _ c rfl (by omega)
  refine And.intro (z 0 (by decide)) ?_
  refine And.intro (z 1 (by decide)) ?_
  refine And.intro (z 2 (by decide)) ?_
  refine And.intro (z 3 (by decide)) ?_
  refine And.intro (z 4 (by decide)) ?_
  have y0 : (σ.1 0 j 1 * Int32.ofInt 5 + Int32.ofInt 0).toNatClampNeg = 5 * q := y 0 (by decide)
  have y1 : (σ.1 0 j 1 * Int32.ofInt 5 + Int32.ofInt 1).toNatClampNeg = 5 * q + 1 := y 1 (by decide)
  have y2 : (σ.1 0 j 1 * Int32.ofInt 5 + Int32.ofInt 2).toNatClampNeg = 5 * q + 2 := y 2 (by decide)
  have y3 : (σ.1 0 j 1 * Int32.ofInt 5 + Int32.ofInt 3).toNatClampNeg = 5 * q + 3 := y 3 (by decide)
  have y4 : (σ.1 0 j 1 * Int32.ofInt 5 + Int32.ofInt 4).toNatClampNeg = 5 * q + 4 := y 4 (by decide)
  have hQ2 : ∀ (x : Int32) (σ' : XH), x = oN q → bL σ' j = filL (bL σ j) q v d → σ'.1 0 j 1 = oN (q + 1) → xFr (PB j) σ σ' → Q (.inl (.inl (some (xI x)), σ')) := by
    rintro x σ' rfl
    exact hQ σ'
  have r0 : ∀ (τ : XH) (i : Nat) (x : Int32), (xuI τ 8 j i x).1 0 j 1 = τ.1 0 j 1 := fun _ _ _ => xu_ne (fun h => absurd h.1 (by decide))
  refine hQ2 _ _ ?_ ?_ ?_ ?_
  · simp only [xu_eq, r0, he, if_true]
    show oN q + 1 - 1 = oN q
    grind
  · rw [bL_ne (fun h => absurd h.1 (by decide)), y0, y1, y2, y3, y4, bL_u (by omega), bL_u (by omega), bL_u (by omega), bL_u (by omega), bL_u (by omega)]
    rfl
  · simp only [xu_eq, r0, he, if_true]
    exact oN_1
  · exact (((((xFr.u ⟨Or.inl rfl, rfl⟩).tr (xFr.u ⟨Or.inl rfl, rfl⟩)).tr (xFr.u ⟨Or.inl rfl, rfl⟩)).tr (xFr.u ⟨Or.inl rfl, rfl⟩)).tr (xFr.u ⟨Or.inl rfl, rfl⟩)).tr (xFr.u ⟨Or.inr rfl, rfl⟩)
set_option maxRecDepth 100000 in
set_option maxHeartbeats 4000000 in
theorem wX1_make (X : Nat × (Nat → Int32)) (σ : XH) (j : Nat) (v d : Int32) (n : Nat) (hn : n ≤ 12) (he : σ.1 0 j 1 = oN n) : wF (fX1_make X [xR 0 j, xI v, xI d] σ) (fun r => ∃ σ', r = (.inl (some (xI (oN (if n = 12 then 11 else n)))), σ') ∧ bL σ' j = (if n = 12 then filL (shfL (bL σ j)) 11 v d else filL (bL σ j) n v d) ∧ σ'.1 0 j 1 = oN (if n = 12 then 12 else n + 1) ∧ xFr (PB j) σ σ') := by
  rw [uX1_make]
  refine wI_s (N := 99999) ?_
  refine And.intro (fun hlt => ?_) (fun hge => ?_)
  · have hlt : σ.1 0 j 1 < oN 12 := hlt
    rw [he, oN_lt (by omega) (by decide)] at hlt
    rw [if_neg (by omega), if_neg (by omega), if_neg (by omega)]
    exact sX1_make_30 X _ _ j n v d σ hlt he (fun σ' h1 h2 h3 => ⟨σ', rfl, h1, h2, h3⟩)
  · have hge : ¬ σ.1 0 j 1 < oN 12 := hge
    rw [he, oN_lt (by omega) (by decide)] at hge
    have : n = 12 := by omega
    subst this
    rw [if_pos rfl, if_pos rfl, if_pos rfl]
    refine And.intro (by decide) ?_
    refine sX1_make_30 X _ _ j 11 v d _ (by decide) ?_ (fun σ' h1 h2 h3 => ⟨σ', rfl, ?_, h2, xFr.tr ?_ h3⟩)
    · rw [xu_eq]
      rfl
    · rw [h1, bL_ne (fun h => absurd h.1 (by decide))]
      exact congrArg (fun L => filL L 11 v d) bL_cpy
    · refine xFr.tr (b := xCpy σ j j 5 0 55) ⟨fun c j' i hp => ?_, rfl⟩ (xFr.u ⟨Or.inr rfl, rfl⟩)
      unfold xCpy
      dsimp only
      split
      · split
        · rename_i h4 h5
          exact absurd ⟨Or.inl h4, h5⟩ hp
        · rfl
      · rfl
abbrev xAd (X : Nat × (Nat → Int32)) (Q : XO → Prop) (n pc : Nat) (lv : XL) (st : List XV) (σ : XH) : Prop := wExec X (xEnv (nX1_add X)) (fun _ _ => some none) 4 [] tX1_add Q n (xPc tX1_add pc) lv st σ 0
set_option maxRecDepth 100000 in
set_option maxHeartbeats 4000000 in
theorem sX1_add_21 (X : Nat × (Nat → Int32)) (Q : XO → Prop) (n j p : Nat) (v d a b c : Int32) (σ : XH) (hp : p < 12) (hQ : ∀ σ', bL σ' j = addL (bL σ j) p a b c → σ'.1 0 j 1 = σ.1 0 j 1 → xFr (PB j) σ σ' → Q (.inl (.inl none, σ'))) : xAd X Q (n + 60) 21 [(6, xI (oN p)), (0, xR 0 j), (1, xI v), (2, xI d), (3, xI a), (4, xI b), (5, xI c)] [] σ := by
  have e5 : oN p * (Int32.ofInt 5) = oN (5 * p) := i5p
  have z : ∀ c, c < 5 → 0 ≤ oN p * Int32.ofInt 5 + oN c ∧ (oN p * Int32.ofInt 5 + oN c).toNatClampNeg < 60 := by
    intro c hc
    rw [e5]
    exact aix (m := 60) _ c rfl (by omega) (by decide)
  have y : ∀ c, c < 5 → (oN p * Int32.ofInt 5 + oN c).toNatClampNeg = 5 * p + c := by
    intro c hc
    rw [e5]
    exact aixn _ c rfl (by omega)
  refine And.intro (z 2 (by decide)) ?_
  refine And.intro (z 2 (by decide)) ?_
  refine And.intro (z 3 (by decide)) ?_
  refine And.intro (z 3 (by decide)) ?_
  refine And.intro (z 4 (by decide)) ?_
  refine And.intro (z 4 (by decide)) ?_
  have y2 : (oN p * Int32.ofInt 5 + Int32.ofInt 2).toNatClampNeg = 5 * p + 2 := y 2 (by decide)
  have y3 : (oN p * Int32.ofInt 5 + Int32.ofInt 3).toNatClampNeg = 5 * p + 3 := y 3 (by decide)
  have y4 : (oN p * Int32.ofInt 5 + Int32.ofInt 4).toNatClampNeg = 5 * p + 4 := y 4 (by decide)
  have n4 : ¬ 5 * p + 3 = 5 * p + 2 := by omega
  have n5 : ¬ 5 * p + 4 = 5 * p + 2 := by omega
  have n6 : ¬ 5 * p + 4 = 5 * p + 3 := by omega
  have r0 : ∀ (τ : XH) (i : Nat) (x : Int32), (xuI τ 8 j i x).1 0 j 1 = τ.1 0 j 1 := fun _ _ _ => xu_ne (fun h => absurd h.1 (by decide))
  refine hQ _ ?_ ?_ ?_
  · rw [y2, y3, y4]
    simp only [xu_eq, n4, n5, n6, if_false]
    rw [bL_u (by omega), bL_u (by omega), bL_u (by omega), bL_at (by omega), bL_at (by omega), bL_at (by omega)]
    rfl
  · rw [r0, r0, r0]
  · exact ((xFr.u ⟨Or.inl rfl, rfl⟩).tr (xFr.u ⟨Or.inl rfl, rfl⟩)).tr (xFr.u ⟨Or.inl rfl, rfl⟩)
set_option maxRecDepth 100000 in
set_option maxHeartbeats 4000000 in
theorem wX1_add (X : Nat × (Nat → Int32)) (σ : XH) (j : Nat) (v d a b c : Int32) (n : Nat) (hn : n ≤ 12) (he : σ.1 0 j 1 = oN n) (hk : keyA (bL σ j) n) : wF (fX1_add X [xR 0 j, xI v, xI d, xI a, xI b, xI c] σ) (fun r => ∃ σ', r = (.inl none, σ') ∧ bL σ' j = (ledL (bL σ j) n v d a b c).1 ∧ σ'.1 0 j 1 = oN (ledL (bL σ j) n v d a b c).2 ∧ xFr (PB j) σ σ') := by
  rw [uX1_add]
  refine wI_s (N := 99999) ?_
  refine wX1_find X σ j v d n _ hn he (fun r hr h1 h2 => ?_) (fun hno => ?_)
  · have hf := fndL_at hk hr h1 h2
    have hrow : rowL (bL σ j) n v d = (r, bL σ j, n) := by
      unfold rowL
      rw [hf]
    refine And.intro (fun _ => ?_) (fun h => absurd (oN_nn (by omega)) h)
    refine sX1_add_21 X _ _ j r v d a b c σ (by omega) (fun σ' h3 h4 h5 => ⟨σ', rfl, ?_, ?_, h5⟩)
    · unfold ledL
      rw [hrow, h3]
    · unfold ledL
      rw [hrow, h4, he]
  · have hf := fndL_no hno
    refine And.intro (fun h => absurd h (by decide)) (fun _ => ?_)
    obtain ⟨r, h1, σ1, rfl, h2, h3, h4⟩ := wX1_make X σ j v d n hn he
    refine wF_of h1 ?_
    have hrow : rowL (bL σ j) n v d = ((if n = 12 then 11 else n), (if n = 12 then filL (shfL (bL σ j)) 11 v d else filL (bL σ j) n v d), (if n = 12 then 12 else n + 1)) := by
      unfold rowL
      rw [hf]
      dsimp only
      split <;> rfl
    refine sX1_add_21 X _ _ j (if n = 12 then 11 else n) v d a b c σ1 (by split <;> omega) (fun σ' h5 h6 h7 => ⟨σ', rfl, ?_, ?_, h4.tr h7⟩)
    · unfold ledL
      rw [hrow, h5, h2]
    · unfold ledL
      rw [hrow, h6, h3]

