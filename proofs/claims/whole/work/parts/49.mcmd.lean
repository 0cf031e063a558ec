/-! ===== the reference's reader: numbers, commands, the fault ===== -/
def inR (σ : XH) (k : Nat) (o : (Int32 × Nat) ⊕ Nat) (r : XR × XH) : Prop := match o with
  | .inr f => ∃ σ', r = (.inl (some (xI 0)), σ') ∧ σ'.1 7 0 10 = oN f ∧ GS σ σ'
  | .inl (v, q) => ∃ σ', r = (.inl (some (xI 1)), σ') ∧ σ'.1 7 0 10 = oN q ∧ σ'.1 9 8 k = v ∧ (∀ i, i ≠ k → σ'.1 9 8 i = σ.1 9 8 i) ∧ σ'.2.1 7 0 11 = σ.2.1 7 0 11 ∧ GS σ σ'
def dgO (b : Nat → Int32) (n q : Nat) (d : Nat × Int32) : (Int32 × Nat) ⊕ Nat := if d.1 = q then .inr q else if d.1 < n ∧ isDg (b d.1) = true then .inr d.1 else .inl (d.2, d.1)
theorem rd_dg {b : Nat → Int32} {n p : Nat} (h : ¬ runP isSp b n p = p) : rdNum b n p = dgO b n (runP isSp b n p) (digF b n (runP isSp b n p) 4 0) := by
  unfold rdNum
  rw [if_neg h]
  rfl
abbrev xIn (X : Nat × (Nat → Int32)) (N pc : Nat) (lv : XL) (σ : XH) : Option (XR × XH) := xIter X (xEnv (nX8_isNumber X)) (fun _ _ => some none) 1 [(29, [0, 1, 2])] tX8_isNumber N (pc, lv, σ, 0)
theorem inR_tr {σ σ1 : XH} {k : Nat} {o : (Int32 × Nat) ⊕ Nat} {r : XR × XH} (h1 : GS σ σ1) (h2 : ∀ i, i ≠ k → σ1.1 9 8 i = σ.1 9 8 i) (h3 : σ1.2.1 7 0 11 = σ.2.1 7 0 11) (h : inR σ1 k o r) : inR σ k o r := by
  rcases o with ⟨v, q⟩ | f
  · obtain ⟨σ', a, b, c, d, e, f⟩ := h
    exact ⟨σ', a, b, c, fun i hi => (d i hi).trans (h2 i hi), e.trans h3, h1.tr f⟩
  · obtain ⟨σ', a, b, c⟩ := h
    exact ⟨σ', a, b, h1.tr c⟩
set_option maxRecDepth 100000 in
set_option maxHeartbeats 1000000 in
theorem sX8_isNumber_91 (X : Nat × (Nat → Int32)) (σ : XH) (b : Nat → Int32) (n q k p N F : Nat) (a : Int32) (hq : q ≤ p) (hp : p ≤ n) (hT : TxM σ b n) (ha : σ.1 7 0 10 = oN p) (hv : σ.1 9 8 k = a) : wExec X (xEnv (nX8_isNumber X)) (fun _ _ => some none) 1 [(29, [0, 1, 2])] tX8_isNumber (wQ X (xEnv (nX8_isNumber X)) (fun _ _ => some none) 1 [(29, [0, 1, 2])] tX8_isNumber N (inR σ k (dgO b n q (p, a)))) (F + 60) (xPc tX8_isNumber 91) [(0, xR 7 0), (1, xI (oN k)), (2, xI (oN q))] [] σ 0 := by
  have hn := hT.2.1
  unfold dgO
  refine And.intro (fun z => ?_) (fun z => ?_)
  · have z : σ.1 7 0 10 ≤ oN q := z
    rw [ha, oN_le (by omega) (by omega)] at z
    refine And.intro (Or.inl (by decide)) ?_
    rw [if_pos (show (p, a).1 = q by show p = q; omega)]
    exact ⟨σ, rfl, by rw [ha]; congr 1; omega, GS.rf⟩
  · have z : ¬ σ.1 7 0 10 ≤ oN q := z
    rw [ha, oN_le (by omega) (by omega)] at z
    rw [if_neg (show ¬ (p, a).1 = q by show ¬ p = q; omega)]
    by_cases c : p < n ∧ isDg (b p) = true
    · refine wF_of (aX8_y X σ hT ha c.1 (dg_r.mp c.2)) ?_
      refine And.intro (fun h => absurd h (by decide)) (fun _ => ?_)
      refine And.intro (Or.inl (by decide)) ?_
      rw [if_pos c]
      exact ⟨σ, rfl, ha, GS.rf⟩
    · refine wF_of (aX8_n X σ hT ha hp (fun w => c ⟨w.1, dg_r.mpr w.2⟩)) ?_
      refine And.intro (fun _ => ?_) (fun h => absurd rfl h)
      refine And.intro (Or.inr (by decide)) ?_
      rw [if_neg c]
      exact ⟨σ, rfl, ha, hv, fun _ _ => rfl, rfl, GS.rf⟩
set_option maxRecDepth 100000 in
set_option maxHeartbeats 1000000 in
theorem lX8_isNumber (X : Nat × (Nat → Int32)) (b : Nat → Int32) (n q k : Nat) (hk : k < 3) : ∀ (m c N : Nat) (a : Int32) (σ : XH), c + m = 4 → q + c ≤ n → TxM σ b n → σ.1 7 0 10 = oN (q + c) → σ.1 9 8 k = a → wF (xIn X (N + m + 1) 29 [(0, xR 7 0), (1, xI (oN k)), (2, xI (oN q))] σ) (inR σ k (dgO b n q (digF b n (q + c) m a))) := by
  have hik : (oN k).toNatClampNeg = k := oN_nat (by omega)
  intro m
  induction m with
  | zero =>
    intro c N a σ hc hqc hT ha hv
    have hn := hT.2.1
    have es : oN (q + c) - oN q = oN c := by
      rw [← oN_add]
      grind
    refine wI_s (N := N + 0) ?_
    refine And.intro (fun _ => ?_) (fun z => absurd (by show oN 4 ≤ σ.1 7 0 10 - oN q; rw [ha, es, oN_le (by decide) (by omega)]; omega) z)
    exact sX8_isNumber_91 X σ b n q k (q + c) _ _ a (by omega) hqc hT ha hv
  | succ m ih =>
    intro c N a σ hc hqc hT ha hv
    have hn := hT.2.1
    have es : oN (q + c) - oN q = oN c := by
      rw [← oN_add]
      grind
    refine wI_s (N := N + (m + 1)) ?_
    refine And.intro (fun z => ?_) (fun _ => ?_)
    · have z : oN 4 ≤ σ.1 7 0 10 - oN q := z
      rw [ha, es, oN_le (by decide) (by omega)] at z
      omega
    by_cases hd : q + c < n ∧ isDg (b (q + c)) = true
    · have hi : (σ.1 7 0 10).toNatClampNeg = q + c := by rw [ha, oN_nat (by omega)]
      have hb : σ.1 9 5 (σ.1 7 0 10).toNatClampNeg = b (q + c) := by rw [hi, (hT.2.2 _ hd.1).1]
      refine wF_of (aX8_y X σ hT ha hd.1 (dg_r.mp hd.2)) ?_
      refine And.intro (fun h => absurd h (by decide)) (fun _ => ?_)
      refine And.intro ⟨oN_nn (by omega), by rw [hik]; exact hk⟩ ?_
      refine And.intro ⟨by rw [ha]; exact oN_nn (by omega), by rw [hi]; show q + c < 150; omega⟩ ?_
      refine And.intro ⟨oN_nn (by omega), by rw [hik]; exact hk⟩ ?_
      have ed : digF b n (q + c) (m + 1) a = digF b n (q + (c + 1)) m (10 * a + b (q + c) - 48) := by
        show (if _ then _ else _) = _
        rw [if_pos hd]
        rfl
      rw [ed]
      have next : ∀ i x y, i = k → x = 10 * a + b (q + c) - 48 → y = oN (q + (c + 1)) → wF (xIn X (N + (m + 1)) 29 [(0, xR 7 0), (1, xI (oN k)), (2, xI (oN q))] (xuI (xuI σ 9 8 i x) 7 0 10 y)) (inR σ k (dgO b n q (digF b n (q + (c + 1)) m (10 * a + b (q + c) - 48)))) := by
        rintro i x y rfl rfl rfl
        have g1 : GS σ (xuI (xuI σ 9 8 i (10 * a + b (q + c) - 48)) 7 0 10 (oN (q + (c + 1)))) := GS.u9.tr GA.u.gs
        refine wF_mono (ih (c + 1) N _ _ (by omega) (by omega) (g1.tx hT) (by rw [xu_eq, if_pos rfl]) (by rw [xu_ne (by decide), xu_eq, if_pos rfl])) (fun r hr => ?_)
        exact inR_tr g1 (fun j hj => by rw [xu_ne (by decide), xu_eq, if_neg hj]) rfl hr
      refine next _ _ _ hik ?_ ?_
      · show 10 * σ.1 9 8 (oN k).toNatClampNeg + σ.1 9 5 (σ.1 7 0 10).toNatClampNeg - 48 = _
        rw [hik, hv, hb]
      · rw [xu_ne (by decide), ha, ← Nat.add_assoc, ← oN_1]
        rfl
    · refine wF_of (aX8_n X σ hT ha hqc (fun w => hd ⟨w.1, dg_r.mpr w.2⟩)) ?_
      refine And.intro (fun _ => ?_) (fun h => absurd rfl h)
      have ed : digF b n (q + c) (m + 1) a = (q + c, a) := by
        show (if _ then _ else _) = _
        rw [if_neg hd]
      rw [ed]
      exact sX8_isNumber_91 X σ b n q k (q + c) _ _ a (by omega) hqc hT ha hv
set_option maxRecDepth 100000 in
set_option maxHeartbeats 1000000 in
theorem wX8_isNumber (X : Nat × (Nat → Int32)) (σ : XH) (b : Nat → Int32) (n p k : Nat) (hk : k < 3) (hp : p ≤ n) (hT : TxM σ b n) (ha : σ.1 7 0 10 = oN p) : wF (fX8_isNumber X [xR 7 0, xI (oN k)] σ) (inR σ k (rdNum b n p)) := by
  have hn := hT.2.1
  have hik : (oN k).toNatClampNeg = k := oN_nat (by omega)
  rw [uX8_isNumber]
  refine wI_s (N := 99999) ?_
  by_cases c : p < n ∧ isSp (b p) = true
  · have h0 : ¬ runP isSp b n p = p := by
      rw [runP_s c.1 c.2]
      have := (runP_le (P := isSp) (b := b) (n := n) (p := p + 1) (by omega)).1
      omega
    have hq := (runP_le (P := isSp) (b := b) hp).2
    rw [rd_dg h0]
    refine wF_of (aX8_y X σ hT ha c.1 (sp_32.mp c.2)) ?_
    refine And.intro (fun h => absurd h (by decide)) (fun _ => ?_)
    obtain ⟨r, a1, σ1, rfl, a2, a3⟩ := wX8_skips X σ b n p hT hp ha
    refine wF_of a1 ?_
    refine And.intro ⟨oN_nn (by omega), by rw [hik]; exact hk⟩ ?_
    have next : ∀ i x, i = k → x = oN (runP isSp b n p) → wF (xIn X 99999 29 [(0, xR 7 0), (1, xI (oN k)), (2, xI x)] (xuI σ1 9 8 i 0)) (inR σ k (dgO b n (runP isSp b n p) (digF b n (runP isSp b n p) 4 0))) := by
      rintro i x rfl rfl
      have g1 : GS σ (xuI σ1 9 8 i 0) := a3.gs.tr GS.u9
      have := lX8_isNumber X b n (runP isSp b n p) i hk 4 0 99994 0 (xuI σ1 9 8 i 0) rfl (by omega) (g1.tx hT) (by rw [xu_ne (by decide), a2]; rfl) (by rw [xu_eq, if_pos rfl])
      refine wF_mono this (fun r hr => ?_)
      exact inR_tr g1 (fun j hj => by rw [xu_eq, if_neg hj, a3.1 _ _ _ (by omega)]) (by show σ1.2.1 7 0 11 = _; rw [a3.2]) hr
    exact next _ _ hik a2
  · have h0 : runP isSp b n p = p := by
      by_cases hl : p < n
      · exact runP_0 hl (fun q => c ⟨hl, q⟩)
      · exact runP_n (by omega)
    refine wF_of (aX8_n X σ hT ha hp (fun w => c ⟨w.1, sp_32.mpr w.2⟩)) ?_
    refine And.intro (fun _ => ?_) (fun h => absurd rfl h)
    refine And.intro (Or.inl (by decide)) ?_
    unfold rdNum
    rw [if_pos h0]
    exact ⟨σ, rfl, ha, GS.rf⟩
def mnR (σ : XH) (b : Nat → Int32) (n k : Nat) (o : ((Nat → Int32) × Nat) ⊕ Nat) (r : XR × XH) : Prop := match o with
  | .inr f => ∃ σ', r = (.inl (some (xI 0)), σ') ∧ σ'.1 7 0 10 = oN f ∧ GS σ σ'
  | .inl (g, p) => (runP isSp b n p < n ∧ b (runP isSp b n p) = 59 → ∃ σ', r = (.inl (some (xI 1)), σ') ∧ σ'.1 7 0 10 = oN (runP isSp b n (runP isSp b n p + 1)) ∧ σ'.2.1 7 0 11 = σ.2.1 7 0 11 ∧ (∀ i, i < many k → σ'.1 9 8 i = g i) ∧ GS σ σ') ∧
    (¬ (runP isSp b n p < n ∧ b (runP isSp b n p) = 59) → ∃ σ', r = (.inl (some (xI 0)), σ') ∧ σ'.1 7 0 10 = oN (runP isSp b n p) ∧ GS σ σ')
theorem mnR_tr {σ σ1 : XH} {b : Nat → Int32} {n k : Nat} {o : ((Nat → Int32) × Nat) ⊕ Nat} {r : XR × XH} (h1 : GS σ σ1) (h4 : σ1.2.1 7 0 11 = σ.2.1 7 0 11) (h : mnR σ1 b n k o r) : mnR σ b n k o r := by
  rcases o with ⟨g, p⟩ | f
  · refine ⟨fun c => ?_, fun c => ?_⟩
    · obtain ⟨σ', a, b, d, e, f⟩ := h.1 c
      exact ⟨σ', a, b, d.trans h4, e, h1.tr f⟩
    · obtain ⟨σ', a, b, d⟩ := h.2 c
      exact ⟨σ', a, b, h1.tr d⟩
  · obtain ⟨σ', a, b, d⟩ := h
    exact ⟨σ', a, b, h1.tr d⟩
abbrev xIc (X : Nat × (Nat → Int32)) (N pc : Nat) (lv : XL) (σ : XH) : Option (XR × XH) := xIter X (xEnv (nX8_isCommand X)) (fun _ _ => some none) 1 [(19, [0, 1, 2])] tX8_isCommand N (pc, lv, σ, 0)
set_option maxRecDepth 100000 in
set_option maxHeartbeats 1000000 in
theorem lX8_isCommand (X : Nat × (Nat → Int32)) (b : Nat → Int32) (n k : Nat) : ∀ (m i N : Nat) (σ : XH) (p : Nat) (g : Nat → Int32), i + m = many k → p ≤ n → TxM σ b n → σ.1 7 0 10 = oN p → (∀ j, j < i → σ.1 9 8 j = g j) → wF (xIc X (N + m + 1) 19 [(0, xR 7 0), (1, xI (oN (many k))), (2, xI (oN i))] σ) (mnR σ b n k (rdNums b n m i p g)) := by
  have h3 := many_3 (k := k)
  intro m
  induction m with
  | zero =>
    intro i N σ p g hi hp hT ha hg
    have : i = many k := by omega
    subst this
    have hn := hT.2.1
    obtain ⟨r, a1, σ1, rfl, a2, a3⟩ := wX8_skips X σ b n p hT hp ha
    have hq := (runP_le (P := isSp) (b := b) hp).2
    have hT1 := a3.gs.tx hT
    refine wI_s (N := N + 0) ?_
    refine And.intro (fun _ => ?_) (fun z => absurd (Int32.le_refl _) z)
    refine wF_of a1 ?_
    by_cases c : runP isSp b n p < n ∧ b (runP isSp b n p) = 59
    · refine wF_of (aX8_y X σ1 hT1 a2 c.1 (by rw [c.2]; decide)) ?_
      refine And.intro (fun h => absurd h (by decide)) (fun _ => ?_)
      have g1 : GA σ1 (xuI σ1 7 0 10 (oN (runP isSp b n p + 1))) := GA.u
      obtain ⟨r, d1, σ2, rfl, d2, d3⟩ := wX8_skips X _ b n (runP isSp b n p + 1) (g1.gs.tx hT1) (by omega) (by rw [xu_eq, if_pos rfl])
      rw [← oN_1, ← a2] at d1
      refine wF_of d1 ?_
      refine And.intro (Or.inr (by decide)) ?_
      refine ⟨fun _ => ⟨σ2, rfl, d2, ?_, fun j hj => ?_, (a3.tr (GA.u.tr d3)).gs⟩, fun z => absurd c z⟩
      · rw [d3.2]
        show σ1.2.1 7 0 11 = _
        rw [a3.2]
      · rw [d3.1 _ _ _ (by omega), xu_ne (by decide), a3.1 _ _ _ (by omega), hg j hj]
    · refine wF_of (aX8_n X σ1 hT1 a2 hq (fun z => c ⟨z.1, Int32.le_antisymm z.2.2 z.2.1⟩)) ?_
      refine And.intro (fun _ => ?_) (fun h => absurd rfl h)
      refine And.intro (Or.inl (by decide)) ?_
      exact ⟨fun z => absurd z c, fun _ => ⟨σ1, rfl, a2, a3.gs⟩⟩
  | succ m ih =>
    intro i N σ p g hi hp hT ha hg
    obtain ⟨r, a1, a2⟩ := wX8_isNumber X σ b n p i (by omega) hp hT ha
    unfold rdNums
    refine wI_s (N := N + (m + 1)) ?_
    refine And.intro (fun z => ?_) (fun _ => ?_)
    · have z : oN (many k) ≤ oN i := z
      rw [oN_le (by omega) (by omega)] at z
      omega
    refine wF_of a1 ?_
    cases hr : rdNum b n p with
    | inr f =>
      rw [hr] at a2
      obtain ⟨σ1, rfl, b1, b2⟩ := a2
      refine And.intro (fun _ => ?_) (fun h => absurd rfl h)
      refine And.intro (Or.inl (by decide)) ?_
      exact ⟨σ1, rfl, b1, b2⟩
    | inl vq =>
      obtain ⟨v, q⟩ := vq
      rw [hr] at a2
      obtain ⟨σ1, rfl, b1, b2, b3, b4, b5⟩ := a2
      have hq : q ≤ n := by
        unfold rdNum at hr
        split at hr
        · cases hr
        · split at hr
          · cases hr
          · split at hr
            · cases hr
            · cases hr
              exact (digF_rng (b := b) (n := n) 4 _ 0).2 (runP_le (P := isSp) (b := b) hp).2
      refine And.intro (fun h => absurd h (by decide)) (fun _ => ?_)
      have := ih (i + 1) N σ1 q (updF g i v) (by omega) hq (b5.tx hT) b1 (fun j hj => by
        unfold updF
        split
        · rename_i e
          rw [e, b2]
        · rename_i e
          rw [b3 j e]
          exact hg j (by omega))
      rw [← oN_1] at this
      refine wF_mono this (fun r hr => ?_)
      exact mnR_tr b5 b4 hr
def icR (σ : XH) (b : Nat → Int32) (n : Nat) (o : (Nat × (Nat → Int32) × Nat) ⊕ Nat) (r : XR × XH) : Prop := match o with
  | .inr f => ∃ σ', r = (.inl (some (xI 0)), σ') ∧ σ'.1 7 0 10 = oN f ∧ GS σ σ'
  | .inl (k, g, q) => ∃ σ', r = (.inl (some (xI 1)), σ') ∧ σ'.1 7 0 10 = oN (runP isSp b n q) ∧ σ'.2.1 7 0 11 = Int64.ofNat (wcN k) ∧ (∀ i, i < many k → σ'.1 9 8 i = g i) ∧ GS σ σ' 
set_option maxRecDepth 100000 in
set_option maxHeartbeats 1000000 in
theorem wX8_isCommand (X : Nat × (Nat → Int32)) (σ : XH) (b : Nat → Int32) (n p : Nat) (hp : p ≤ n) (hT : TxM σ b n) (ha : σ.1 7 0 10 = oN p) : wF (fX8_isCommand X [xR 7 0] σ) (icR σ b n (nxT b n p)) := by
  obtain ⟨r, a1, a2⟩ := wX8_isWord X σ b n p hp hT ha
  rw [uX8_isCommand]
  refine wI_s (N := 99999) ?_
  refine wF_of a1 ?_
  unfold nxT
  by_cases h8 : knd b p (runP isLt b n p - p) = 8
  · rw [if_pos h8]
    obtain ⟨σ1, rfl, b1, b2⟩ := a2.1 h8
    refine And.intro (fun _ => ?_) (fun h => absurd rfl h)
    refine And.intro (Or.inl (by decide)) ?_
    exact ⟨σ1, rfl, b1, b2⟩
  · rw [if_neg h8]
    have hle := knd_rng (b := b) (s := p) (len := runP isLt b n p - p) 8 0 rfl
    have hk : knd b p (runP isLt b n p - p) < 8 := by
      unfold knd at h8 ⊢
      omega
    obtain ⟨σ1, rfl, b1, b2, b3⟩ := a2.2 _ hk rfl
    generalize knd b p (runP isLt b n p - p) = k at *
    have h3 := many_3 (k := k)
    have hm := eX8_manyOf X σ1 k hk
    rw [← b2] at hm
    refine And.intro (fun h => absurd h (by decide)) (fun _ => ?_)
    refine wF_of hm ?_
    have hl := lX8_isCommand X b n k (many k) 0 (99998 - many k) σ1 (runP isLt b n p) (fun _ => 0) (by omega) (runP_le (P := isLt) (b := b) hp).2 (b3.tx hT) b1 (fun j hj => by omega)
    rw [show 99998 - many k + many k + 1 = 99999 by omega] at hl
    refine wF_mono hl (fun r hr => ?_)
    cases hrd : rdNums b n (many k) 0 (runP isLt b n p) (fun _ => 0) with
    | inr f =>
      rw [hrd] at hr
      obtain ⟨σ', a, c, d⟩ := hr
      exact ⟨σ', a, c, b3.tr d⟩
    | inl gp =>
      obtain ⟨g, p2⟩ := gp
      rw [hrd] at hr
      dsimp only
      by_cases hc : runP isSp b n p2 < n ∧ b (runP isSp b n p2) = 59
      · rw [if_pos hc]
        obtain ⟨σ', a, c, d, e, f⟩ := hr.1 hc
        exact ⟨σ', a, c, d.trans b2, e, b3.tr f⟩
      · rw [if_neg hc]
        obtain ⟨σ', a, c, d⟩ := hr.2 hc
        exact ⟨σ', a, c, b3.tr d⟩
set_option maxRecDepth 100000 in
set_option maxHeartbeats 1000000 in
theorem lX8_faultAt (X : Nat × (Nat → Int32)) (b : Nat → Int32) (n : Nat) : ∀ (m c N : Nat) (σ : XH) (p : Nat), c + m = 150 → c ≤ p → p ≤ n → TxM σ b n → σ.1 7 0 10 = oN (runP isSp b n p) → wF (xIter X (xEnv (nX8_faultAt X)) (fun _ _ => some none) 0 [(9, [0])] tX8_faultAt (N + m + 1) (9, [(0, xR 7 0)], σ, 0)) (fun r => ∃ σ', r = (.inl (some (xI (match ftT b n m p with | some f => oN f | none => -1000000))), σ') ∧ GS σ σ') := by
  have ex : ∀ (N p : Nat) (σ : XH) (R : XR × XH → Prop), p ≤ n → TxM σ b n → σ.1 7 0 10 = oN (runP isSp b n p) → ¬ runP isSp b n p < n → R (.inl (some (xI (-1000000))), σ) → wF (xIter X (xEnv (nX8_faultAt X)) (fun _ _ => some none) 0 [(9, [0])] tX8_faultAt (N + 1) (9, [(0, xR 7 0)], σ, 0)) R := by
    intro N p σ R hp hT ha hl hR
    have hn := hT.2.1
    have hr := (runP_le (P := isSp) (b := b) hp).2
    refine wI_s (N := N) ?_
    refine And.intro (fun _ => ?_) (fun z => absurd (by show σ.1 7 0 5 ≤ σ.1 7 0 10; rw [ha, hT.1, oN_le (by omega) (by omega)]; omega) z)
    exact hR
  intro m
  induction m with
  | zero =>
    intro c N σ p hc hcp hp hT ha
    have hn := hT.2.1
    have hr := runP_le (P := isSp) (b := b) hp
    exact ex (N + 0) p σ _ hp hT ha (by omega) ⟨σ, rfl, GS.rf⟩
  | succ m ih =>
    intro c N σ p hc hcp hp hT ha
    have hn := hT.2.1
    have hr := runP_le (P := isSp) (b := b) hp
    unfold ftT
    by_cases he : runP isSp b n p < n
    · rw [if_pos he]
      obtain ⟨r, a1, a2⟩ := wX8_isCommand X σ b n (runP isSp b n p) (by omega) hT ha
      refine wI_s (N := N + (m + 1)) ?_
      refine And.intro (fun z => ?_) (fun _ => ?_)
      · have z : σ.1 7 0 5 ≤ σ.1 7 0 10 := z
        rw [ha, hT.1, oN_le (by omega) (by omega)] at z
        omega
      refine wF_of a1 ?_
      cases hx : nxT b n (runP isSp b n p) with
      | inr f =>
        rw [hx] at a2
        obtain ⟨σ1, rfl, b1, b2⟩ := a2
        refine And.intro (fun _ => ?_) (fun h => absurd rfl h)
        refine ⟨σ1, ?_, b2⟩
        exact congrArg (fun x => ((.inl (some (xI x)), σ1) : XR × XH)) b1
      | inl kgq =>
        obtain ⟨k, g, q⟩ := kgq
        rw [hx] at a2
        obtain ⟨σ1, rfl, b1, b2, b3, b4⟩ := a2
        refine And.intro (fun h => absurd h (by decide)) (fun _ => ?_)
        have hq := nxT_q he hx
        refine wF_mono (ih (c + 1) N σ1 q (by omega) (by omega) hq.2.1 (b4.tx hT) b1) ?_
        rintro r ⟨σ', rfl, h9⟩
        exact ⟨σ', rfl, b4.tr h9⟩
    · rw [if_neg he]
      exact ex (N + (m + 1)) p σ _ hp hT ha he ⟨σ, rfl, GS.rf⟩
set_option maxRecDepth 100000 in
set_option maxHeartbeats 1000000 in
theorem wX8_faultAt (X : Nat × (Nat → Int32)) (σ : XH) (b : Nat → Int32) (n : Nat) (hT : TxM σ b n) : wF (fX8_faultAt X [xR 7 0] σ) (fun r => ∃ σ', r = (.inl (some (xI (match ftT b n 150 0 with | some f => oN f | none => -1000000))), σ') ∧ GS σ σ') := by
  have g1 : GA σ (xuI σ 7 0 10 0) := GA.u
  obtain ⟨r, a1, σ1, rfl, a2, a3⟩ := wX8_skips X _ b n 0 (g1.gs.tx hT) (by omega) (by rw [xu_eq, if_pos rfl]; rfl)
  have g2 := g1.tr a3
  rw [uX8_faultAt]
  refine wI_s (N := 99999) ?_
  refine wF_of a1 ?_
  refine wF_mono (lX8_faultAt X b n 150 0 99848 σ1 0 rfl (by omega) (by omega) (g2.gs.tx hT) a2) ?_
  rintro r ⟨σ', rfl, h⟩
  exact ⟨σ', rfl, g2.gs.tr h⟩
