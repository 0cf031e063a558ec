/-! ===== the class's reader: words, commands, the fault ===== -/
abbrev xSt (X : Nat × (Nat → Int32)) (N pc : Nat) (lv : XL) (σ : XH) : Option (XR × XH) := xIter X (xEnv (nX6_stands X)) (fun _ _ => some none) 1 [(28, [0, 1, 2, 4])] tX6_stands N (pc, lv, σ, 0)
set_option maxRecDepth 100000 in
set_option maxHeartbeats 1000000 in
theorem lX6_stands (X : Nat × (Nat → Int32)) (σ : XH) (b : Nat → Int32) (n k s : Nat) (hT : TxC σ b n) (hs : s + (xLt k).length ≤ n) : ∀ (m i N : Nat), i + m = (xLt k).length → (∀ j, j < i → b (s + j) = (xLt k).getD j 0) → wF (xSt X (N + m + 1) 28 [(0, xR 12 k), (1, xR 9 0), (2, xI (oN s)), (4, xI (oN i))] σ) (fun r => r = (.inl (some (xI (if ∀ j, j < (xLt k).length → b (s + j) = (xLt k).getD j 0 then 1 else 0))), σ)) := by
  have hn := hT.2.1
  intro m
  induction m with
  | zero =>
    intro i N hi hj
    have : i = (xLt k).length := by omega
    subst this
    refine wI_s (N := N + 0) ?_
    refine wF_of (r := (.inl (some (xI (oN (xLt k).length))), σ)) rfl ?_
    refine And.intro (fun _ => ?_) (fun z => absurd (Int32.le_refl _) z)
    refine And.intro (Or.inr (by decide)) ?_
    rw [if_pos hj]
    rfl
  | succ m ih =>
    intro i N hi hj
    refine wI_s (N := N + (m + 1)) ?_
    refine wF_of (r := (.inl (some (xI (oN (xLt k).length))), σ)) rfl ?_
    refine And.intro (fun z => ?_) (fun _ => ?_)
    · have z : oN (xLt k).length ≤ oN i := z
      rw [oN_le (by omega) (by omega)] at z
      omega
    have ha : (oN s + oN i).toNatClampNeg = s + i := by rw [oN_add, oN_nat (by omega)]
    refine And.intro ⟨?_, ?_⟩ ?_
    · show 0 ≤ oN s + oN i
      rw [oN_add]
      exact oN_nn (by omega)
    · show (oN s + oN i).toNatClampNeg < 150
      rw [ha]
      omega
    have hi2 : (oN i).toNatClampNeg = i := oN_nat (by omega)
    have hc : fChr [.inr (.inr (some (16, k))), .inl (oN i)] σ = some (.inl (some (xI ((xLt k).getD i 0))), σ) := by
      show (if _ then _ else _) = _
      rw [if_pos ⟨oN_nn (by omega), by rw [hi2]; omega⟩, hi2]
    refine wF_of hc ?_
    have hb : σ.1 9 0 (oN s + oN i).toNatClampNeg = b (s + i) := by rw [ha, (hT.2.2 (s + i) (by omega)).1]
    refine And.intro (fun c => ?_) (fun c => ?_)
    · have c : σ.1 9 0 (oN s + oN i).toNatClampNeg = (xLt k).getD i 0 := c
      rw [hb] at c
      have := ih (i + 1) N (by omega) (fun j hj2 => by
        by_cases e : j = i
        · rw [e]; exact c
        · exact hj j (by omega))
      rw [← oN_1] at this
      exact this
    · have c : ¬ σ.1 9 0 (oN s + oN i).toNatClampNeg = (xLt k).getD i 0 := c
      rw [hb] at c
      refine And.intro (Or.inl (by decide)) ?_
      rw [if_neg (fun q => c (q i (by omega)))]
      rfl
set_option maxRecDepth 100000 in
set_option maxHeartbeats 1000000 in
theorem eX6_stands (X : Nat × (Nat → Int32)) (σ : XH) (b : Nat → Int32) (n k s e : Nat) (hT : TxC σ b n) (hs : s ≤ e) (he : e ≤ n) (hk : (xLt k).length < 150) : fX6_stands X [xR 12 k, xR 9 0, xI (oN s), xI (oN e)] σ = some (.inl (some (xI (if eqW k b s (e - s) = true then 1 else 0))), σ) := by
  have hn := hT.2.1
  have es : oN e - oN s = oN (e - s) := by
    obtain ⟨d, rfl⟩ : ∃ d, e = s + d := ⟨e - s, by omega⟩
    rw [Nat.add_sub_cancel_left, ← oN_add]
    grind
  rw [uX6_stands]
  refine wF_eq (wI_s (N := 99999) ?_)
  refine And.intro (fun z => absurd (oN_nn (by omega)) (Int32.not_le.mpr z)) (fun _ => ?_)
  refine And.intro (fun z => ?_) (fun _ => ?_)
  · have z : oN 150 < oN e := z
    rw [oN_lt (by decide) (by omega)] at z
    omega
  refine wF_of (r := (.inl (some (xI (oN (xLt k).length))), σ)) rfl ?_
  refine And.intro (fun z => ?_) (fun z => ?_)
  · have z : oN e - oN s = oN (xLt k).length := z
    rw [es, oN_inj (by omega) (by omega)] at z
    have hl := lX6_stands X σ b n k s hT (by omega) (xLt k).length 0 (99998 - (xLt k).length) (by omega) (fun j hj => by omega)
    rw [show 99998 - (xLt k).length + (xLt k).length + 1 = 99999 by omega] at hl
    have e2 : (eqW k b s (e - s) = true) ↔ ∀ j, j < (xLt k).length → b (s + j) = (xLt k).getD j 0 := by
      unfold eqW
      rw [decide_eq_true_eq, z]
      exact ⟨fun h => h.2, fun h => ⟨rfl, h⟩⟩
    refine wF_mono hl ?_
    rintro r rfl
    by_cases c : ∀ j, j < (xLt k).length → b (s + j) = (xLt k).getD j 0
    · rw [if_pos c, if_pos (e2.mpr c)]
    · rw [if_neg c, if_neg (fun q => c (e2.mp q))]
  · have z : ¬ oN e - oN s = oN (xLt k).length := z
    rw [es, oN_inj (by omega) (by omega)] at z
    refine And.intro (Or.inl (by decide)) ?_
    rw [if_neg (by unfold eqW; rw [decide_eq_true_eq]; exact fun h => z h.1)]
    rfl
theorem xLt_len {k : Nat} (hk : k < 8) : (xLt k).length < 150 := by
  have h : k = 0 ∨ k = 1 ∨ k = 2 ∨ k = 3 ∨ k = 4 ∨ k = 5 ∨ k = 6 ∨ k = 7 := by omega
  rcases h with rfl | rfl | rfl | rfl | rfl | rfl | rfl | rfl <;> decide +kernel
def wdR (k : Nat) : XV := if k = 8 then .inr (.inr none) else xR 12 k
abbrev xOf (X : Nat × (Nat → Int32)) (N pc : Nat) (lv : XL) (σ : XH) : Option (XR × XH) := xIter X (xEnv (nX6_of X)) (fun _ _ => some none) 3 [(11, [0, 1, 2, 3, 4, 5])] tX6_of N (pc, lv, σ, 0)
set_option maxRecDepth 100000 in
set_option maxHeartbeats 1000000 in
theorem lX6_of (X : Nat × (Nat → Int32)) (σ : XH) (b : Nat → Int32) (n s e : Nat) (hT : TxC σ b n) (hs : s ≤ e) (he : e ≤ n) : ∀ (m k N : Nat), k + m = 8 → wF (xOf X (N + m + 1) 11 [(0, xR 9 0), (1, xI (oN s)), (2, xI (oN e)), (3, xR 13 0), (4, xI 8), (5, xI (oN k))] σ) (fun r => r = (.inl (some (wdR (kndF b s (e - s) k m))), σ)) := by
  intro m
  induction m with
  | zero =>
    intro k N hk
    have : k = 8 := by omega
    subst this
    refine wI_s (N := N + 0) ?_
    refine And.intro (fun _ => ?_) (fun z => absurd (by decide) z)
    rfl
  | succ m ih =>
    intro k N hk
    have hi : (oN k).toNatClampNeg = k := oN_nat (by omega)
    have h1 := eX6_stands X σ b n k s e hT hs he (xLt_len (by omega))
    have h2 : fX6_stands X [xR 12 (oN k).toNatClampNeg, xR 9 0, xI (oN s), xI (oN e)] σ = some (.inl (some (xI (if eqW k b s (e - s) = true then 1 else 0))), σ) := by
      rw [hi]
      exact h1
    refine wI_s (N := N + (m + 1)) ?_
    refine And.intro (fun z => ?_) (fun _ => ?_)
    · have z : oN 8 ≤ oN k := z
      rw [oN_le (by decide) (by omega)] at z
      omega
    refine And.intro ⟨oN_nn (by omega), by rw [hi]; omega⟩ ?_
    unfold kndF
    by_cases c : eqW k b s (e - s) = true
    · rw [if_pos c] at h2
      rw [if_pos c]
      refine wF_of h2 ?_
      refine And.intro (fun h => absurd h (by decide)) (fun _ => ?_)
      unfold wdR
      rw [if_neg (by omega)]
      exact congrArg (fun i => ((.inl (some (xR 12 i)), σ) : XR × XH)) hi
    · rw [if_neg c] at h2
      rw [if_neg c]
      refine wF_of h2 ?_
      refine And.intro (fun _ => ?_) (fun h => absurd rfl h)
      have := ih (k + 1) N (by omega)
      rw [← oN_1] at this
      exact this
set_option maxRecDepth 100000 in
set_option maxHeartbeats 1000000 in
theorem eX6_of (X : Nat × (Nat → Int32)) (σ : XH) (b : Nat → Int32) (n s e : Nat) (hT : TxC σ b n) (hs : s ≤ e) (he : e ≤ n) : fX6_of X [xR 9 0, xI (oN s), xI (oN e)] σ = some (.inl (some (wdR (knd b s (e - s)))), σ) := by
  rw [uX6_of]
  refine wF_eq (wI_s (N := 99999) ?_)
  exact lX6_of X σ b n s e hT hs he 8 0 99990 rfl
theorem knd_rng {b : Nat → Int32} {s len : Nat} : ∀ (m k : Nat), k + m = 8 → kndF b s len k m ≤ 8
  | 0, k, h => Nat.le_refl _
  | m + 1, k, h => by
    unfold kndF
    split
    · omega
    · exact knd_rng m (k + 1) (by omega)
theorem xwn_m {k : Nat} : xwn k = oN (many k) := by
  match k with
  | 0 => rfl
  | 1 => rfl
  | 2 => rfl
  | 3 => rfl
  | 4 => rfl
  | 5 => rfl
  | 6 => rfl
  | 7 => rfl
  | n + 8 => rfl
theorem many_3 {k : Nat} : many k ≤ 3 := by
  unfold many
  split <;> omega
/-- what comes of reading numbers, and the semicolon -/
def nuR (σ : XH) (b : Nat → Int32) (n k : Nat) (o : ((Nat → Int32) × Nat) ⊕ Nat) (r : XR × XH) : Prop := match o with
  | .inr f => ∃ σ', r = (.inl (some (xI 0)), σ') ∧ σ'.1 2 0 4 = oN f ∧ FS σ σ'
  | .inl (g, p) => (runP isSp b n p < n ∧ b (runP isSp b n p) = 59 → ∃ σ', r = (.inl (some (xI 1)), σ') ∧ σ'.1 2 0 3 = oN (runP isSp b n p + 1) ∧ σ'.1 2 0 4 = σ.1 2 0 4 ∧ σ'.2.2 = some k ∧ (∀ i, i < many k → σ'.1 9 1 i = g i) ∧ FS σ σ') ∧
    (¬ (runP isSp b n p < n ∧ b (runP isSp b n p) = 59) → ∃ σ', r = (.inl (some (xI 0)), σ') ∧ σ'.1 2 0 4 = oN (runP isSp b n p) ∧ FS σ σ')
theorem nuR_tr {σ σ1 : XH} {b : Nat → Int32} {n k : Nat} {o : ((Nat → Int32) × Nat) ⊕ Nat} {r : XR × XH} (h1 : FS σ σ1) (h4 : σ1.1 2 0 4 = σ.1 2 0 4) (h : nuR σ1 b n k o r) : nuR σ b n k o r := by
  unfold nuR at h ⊢
  rcases o with ⟨g, p⟩ | f
  · dsimp only at h ⊢
    refine ⟨fun c => ?_, fun c => ?_⟩
    · obtain ⟨σ', a, b, d, e, f, i⟩ := h.1 c
      exact ⟨σ', a, b, d.trans h4, e, f, h1.tr i⟩
    · obtain ⟨σ', a, b, d⟩ := h.2 c
      exact ⟨σ', a, b, h1.tr d⟩
  · dsimp only at h ⊢
    obtain ⟨σ', a, b, d⟩ := h
    exact ⟨σ', a, b, h1.tr d⟩
abbrev xNx (X : Nat × (Nat → Int32)) (N pc : Nat) (lv : XL) (σ : XH) : Option (XR × XH) := xIter X (xEnv (nX3_next X)) (fun _ _ => some none) 1 [(55, [0, 2])] tX3_next N (pc, lv, σ, 0)
set_option maxRecDepth 100000 in
set_option maxHeartbeats 1000000 in
theorem sX3_next_e (X : Nat × (Nat → Int32)) (σ : XH) (b : Nat → Int32) (n k p N : Nat) (g : Nat → Int32) (hp : p ≤ n) (hT : TxC σ b n) (ha : σ.1 2 0 3 = oN p) (hw : σ.2.2 = some k) (hg : ∀ i, i < many k → σ.1 9 1 i = g i) : wF (xNx X (N + 1) 55 [(0, xR 2 0), (2, xI (oN (many k)))] σ) (nuR σ b n k (.inl (g, p))) := by
  obtain ⟨r, a1, σ1, rfl, a2, a3⟩ := wX3_skipSpaces X σ b n p hT hp ha
  have hq := (runP_le (P := isSp) (b := b) hp).2
  have hn := hT.2.1
  have e1 := eX3_here X σ1 b n _ (a3.fs.tx hT) hq a2
  refine wI_s (N := N) ?_
  have hwn : xfg σ 2 0 5 = xR 12 k := by
    show (.inr (.inr (xrho σ.2.2 2 0 5)) : XV) = _
    rw [hw]
    rfl
  have st : ∀ Q : XO → Prop, (wExec X (xEnv (nX3_next X)) (fun _ _ => some none) 1 [(55, [0, 2])] tX3_next Q 997 (xPc tX3_next 60) [(0, xR 2 0), (2, xI (oN (many k)))] [xR 12 k, xI (oN (many k))] σ 0) → wExec X (xEnv (nX3_next X)) (fun _ _ => some none) 1 [(55, [0, 2])] tX3_next Q 1000 (xPc tX3_next 55) [(0, xR 2 0), (2, xI (oN (many k)))] [] σ 0 := by
    intro Q h
    rw [← hwn] at h
    exact h
  refine st _ ?_
  refine And.intro (fun _ => ?_) (fun z => absurd (by show xwn k ≤ oN (many k); rw [xwn_m]; exact Int32.le_refl _) z)
  refine wF_of a1 ?_
  refine wF_of e1 ?_
  by_cases hl : runP isSp b n p < n
  · rw [if_pos hl]
    refine And.intro (fun c => ?_) (fun c => ?_)
    · have c : b (runP isSp b n p) = 59 := c
      refine And.intro (Or.inr (by decide)) ?_
      refine ⟨fun _ => ⟨xuI σ1 2 0 3 (σ1.1 2 0 3 + 1), rfl, ?_, ?_, ?_, fun i hi => ?_, a3.fs.tr FS.u3⟩, fun z => absurd ⟨hl, c⟩ z⟩
      · rw [xu_eq, if_pos rfl, a2, oN_1]
      · rw [xu_eq, if_neg (by decide), a3.1 _ _ _ (by omega)]
      · show σ1.2.2 = _
        rw [a3.2, hw]
      · rw [xu_ne (by decide), a3.1 _ _ _ (by omega), hg i hi]
    · have c : ¬ b (runP isSp b n p) = 59 := c
      refine And.intro (Or.inl (by decide)) ?_
      refine ⟨fun z => absurd z.2 c, fun _ => ⟨xuI σ1 2 0 4 (σ1.1 2 0 3), rfl, ?_, a3.fs.tr FS.u4⟩⟩
      rw [xu_eq, if_pos rfl, a2]
  · rw [if_neg hl]
    refine And.intro (fun c => absurd c (by decide)) (fun _ => ?_)
    refine And.intro (Or.inl (by decide)) ?_
    refine ⟨fun z => absurd z.1 hl, fun _ => ⟨xuI σ1 2 0 4 (σ1.1 2 0 3), rfl, ?_, a3.fs.tr FS.u4⟩⟩
    rw [xu_eq, if_pos rfl, a2]
