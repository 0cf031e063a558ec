/-! ===== the class's reader: a command; the fault of a text ===== -/
theorem dg_sp {x : Int32} (h : isDg x = true) : ¬ isSp x = true ∧ ¬ x = 59 := by
  unfold isDg at h
  unfold isSp
  rw [decide_eq_true_eq] at h ⊢
  grind
theorem st55 {X : Nat × (Nat → Int32)} {σ : XH} {k : Nat} {x : Int32} (hw : σ.2.2 = some k) (Q : XO → Prop) (h : wExec X (xEnv (nX3_next X)) (fun _ _ => some none) 1 [(55, [0, 2])] tX3_next Q 997 (xPc tX3_next 60) [(0, xR 2 0), (2, xI x)] [xR 12 k, xI x] σ 0) : wExec X (xEnv (nX3_next X)) (fun _ _ => some none) 1 [(55, [0, 2])] tX3_next Q 1000 (xPc tX3_next 55) [(0, xR 2 0), (2, xI x)] [] σ 0 := by
  have hwn : xfg σ 2 0 5 = xR 12 k := by
    show (.inr (.inr (xrho σ.2.2 2 0 5)) : XV) = _
    rw [hw]
    rfl
  rw [← hwn] at h
  exact h
set_option maxRecDepth 100000 in
set_option maxHeartbeats 1000000 in
theorem lX3_stuck (X : Nat × (Nat → Int32)) (b : Nat → Int32) (n k e : Nat) (he : e < n) (hd : isDg (b e) = true) (m i N : Nat) (σ : XH) (hi : i + m = many k) (hT : TxC σ b n) (ha : σ.1 2 0 3 = oN e) (hw : σ.2.2 = some k) : wF (xNx X (N + m + 1) 55 [(0, xR 2 0), (2, xI (oN i))] σ) (nuR σ b n k (.inr e)) := by
  have hr : runP isSp b n e = e := runP_0 he (dg_sp hd).1
  have hn := hT.2.1
  have h3 := many_3 (k := k)
  cases m with
  | zero =>
    have : i = many k := by omega
    subst this
    refine wF_mono (sX3_next_e X σ b n k e (N + 0) (fun i => σ.1 9 1 i) (by omega) hT ha hw (fun _ _ => rfl)) ?_
    rintro r ⟨-, h2⟩
    have := h2 (by rw [hr]; exact fun z => (dg_sp hd).2 z.2)
    rw [hr] at this
    exact this
  | succ m =>
    obtain ⟨r, a1, σ1, rfl, a2, a3⟩ := wX3_readNumber_0 X σ b n e i (by omega) hT ha hr
    refine wI_s (N := N + (m + 1)) ?_
    refine st55 hw _ ?_
    refine And.intro (fun z => ?_) (fun _ => ?_)
    · have z : xwn k ≤ oN i := z
      rw [xwn_m, oN_le (by omega) (by omega)] at z
      omega
    refine wF_of a1 ?_
    refine And.intro (fun _ => ?_) (fun h => absurd rfl h)
    refine And.intro (Or.inl (by decide)) ?_
    refine ⟨xuI σ1 2 0 4 (σ1.1 2 0 3), rfl, ?_, a3.fs.tr FS.u4⟩
    rw [xu_eq, if_pos rfl, a2]
set_option maxRecDepth 100000 in
set_option maxHeartbeats 1000000 in
theorem lX3_next (X : Nat × (Nat → Int32)) (b : Nat → Int32) (n k : Nat) : ∀ (m i N : Nat) (σ : XH) (p : Nat) (g : Nat → Int32), i + m = many k → p ≤ n → TxC σ b n → σ.1 2 0 3 = oN p → σ.2.2 = some k → (∀ j, j < i → σ.1 9 1 j = g j) → wF (xNx X (N + m + 1) 55 [(0, xR 2 0), (2, xI (oN i))] σ) (nuR σ b n k (rdNums b n m i p g)) := by
  have h3 := many_3 (k := k)
  intro m
  induction m with
  | zero =>
    intro i N σ p g hi hp hT ha hw hg
    have : i = many k := by omega
    subst this
    exact sX3_next_e X σ b n k p (N + 0) g hp hT ha hw hg
  | succ m ih =>
    intro i N σ p g hi hp hT ha hw hg
    have hn := hT.2.1
    unfold rdNums
    refine wI_s (N := N + (m + 1)) ?_
    refine st55 hw _ ?_
    refine And.intro (fun z => ?_) (fun _ => ?_)
    · have z : xwn k ≤ oN i := z
      rw [xwn_m, oN_le (by omega) (by omega)] at z
      omega
    unfold rdNum
    by_cases h0 : runP isSp b n p = p
    · rw [if_pos h0]
      obtain ⟨r, a1, σ1, rfl, a2, a3⟩ := wX3_readNumber_0 X σ b n p i hp hT ha h0
      refine wF_of a1 ?_
      refine And.intro (fun _ => ?_) (fun h => absurd rfl h)
      refine And.intro (Or.inl (by decide)) ?_
      refine ⟨xuI σ1 2 0 4 (σ1.1 2 0 3), rfl, ?_, a3.fs.tr FS.u4⟩
      rw [xu_eq, if_pos rfl, a2]
    · rw [if_neg h0]
      have hq := (runP_le (P := isSp) (b := b) hp).2
      have hdn := (digF_rng (b := b) (n := n) 4 (runP isSp b n p) 0).2 hq
      obtain ⟨r, a1, σ1, rfl, a2, a4, a5, a6, a7, a8⟩ := wX3_readNumber X σ b n p i (by omega) hp hT ha h0
      by_cases h1 : (digF b n (runP isSp b n p) 4 0).1 = runP isSp b n p
      · rw [if_pos h1] at a1
        rw [if_pos h1]
        refine wF_of a1 ?_
        refine And.intro (fun _ => ?_) (fun h => absurd rfl h)
        refine And.intro (Or.inl (by decide)) ?_
        refine ⟨xuI σ1 2 0 4 (σ1.1 2 0 3), rfl, ?_, a8.tr FS.u4⟩
        rw [xu_eq, if_pos rfl, a2, h1]
      · rw [if_neg h1] at a1
        rw [if_neg h1]
        refine wF_of a1 ?_
        refine And.intro (fun h => absurd h (by decide)) (fun _ => ?_)
        by_cases h2 : (digF b n (runP isSp b n p) 4 0).1 < n ∧ isDg (b (digF b n (runP isSp b n p) 4 0).1) = true
        · rw [if_pos h2]
          have := lX3_stuck X b n k _ h2.1 h2.2 m (i + 1) N σ1 (by omega) (a8.tx hT) a2 (a7.trans hw)
          rw [← oN_1] at this
          refine wF_mono this (fun r hr => ?_)
          exact nuR_tr (o := .inr _) a8 a6 hr
        · rw [if_neg h2]
          have := ih (i + 1) N σ1 (digF b n (runP isSp b n p) 4 0).1 (updF g i (digF b n (runP isSp b n p) 4 0).2) (by omega) hdn (a8.tx hT) a2 (a7.trans hw) (fun j hj => by
            unfold updF
            split
            · rename_i e
              rw [e]
              exact a4 h1
            · rename_i e
              rw [a5 j e]
              exact hg j (by omega))
          rw [← oN_1] at this
          refine wF_mono this (fun r hr => ?_)
          exact nuR_tr a8 a6 hr
/-- what the next command comes to -/
def nxR (σ : XH) (o : (Nat × (Nat → Int32) × Nat) ⊕ Nat) (r : XR × XH) : Prop := match o with
  | .inr f => ∃ σ', r = (.inl (some (xI 0)), σ') ∧ σ'.1 2 0 4 = oN f ∧ FS σ σ'
  | .inl (k, g, q) => ∃ σ', r = (.inl (some (xI 1)), σ') ∧ σ'.1 2 0 3 = oN q ∧ σ'.1 2 0 4 = σ.1 2 0 4 ∧ σ'.2.2 = some k ∧ (∀ i, i < many k → σ'.1 9 1 i = g i) ∧ FS σ σ' 
set_option maxRecDepth 100000 in
set_option maxHeartbeats 1000000 in
theorem wX3_next_e (X : Nat × (Nat → Int32)) (σ : XH) (b : Nat → Int32) (n p : Nat) (hp : p ≤ n) (hT : TxC σ b n) (ha : σ.1 2 0 3 = oN p) (he : runP isSp b n p = n) : wF (fX3_next X [xR 2 0] σ) (fun r => ∃ σ', r = (.inl (some (xI 0)), σ') ∧ σ'.1 2 0 4 = σ.1 2 0 4 ∧ FS σ σ') := by
  obtain ⟨r, a1, σ1, rfl, a2, a3⟩ := wX3_skipSpaces X σ b n p hT hp ha
  have e1 := eX3_here X σ1 b n _ (a3.fs.tx hT) (by omega) a2
  rw [if_neg (by omega)] at e1
  rw [uX3_next]
  refine wI_s (N := 99999) ?_
  refine wF_of a1 ?_
  refine wF_of e1 ?_
  refine And.intro (fun _ => ?_) (fun z => absurd (by decide) z)
  refine And.intro (Or.inl (by decide)) ?_
  exact ⟨σ1, rfl, a3.1 _ _ _ (by omega), a3.fs⟩
set_option maxRecDepth 100000 in
set_option maxHeartbeats 1000000 in
theorem wX3_next (X : Nat × (Nat → Int32)) (σ : XH) (b : Nat → Int32) (n p : Nat) (hp : p ≤ n) (hT : TxC σ b n) (ha : σ.1 2 0 3 = oN p) (he : runP isSp b n p < n) : wF (fX3_next X [xR 2 0] σ) (nxR σ (nxT b n (runP isSp b n p))) := by
  have hn := hT.2.1
  obtain ⟨r, a1, σ1, rfl, a2, a3⟩ := wX3_skipSpaces X σ b n p hT hp ha
  have hT1 := a3.fs.tx hT
  have e1 := eX3_here X σ1 b n _ hT1 (by omega) a2
  rw [if_pos he] at e1
  have b0 : 0 ≤ b (runP isSp b n p) := (hT.2.2 _ he).2.1
  generalize runP isSp b n p = q at *
  obtain ⟨r, b1, σ2, rfl, b2, b3⟩ := wX3_skipLetters X σ1 b n q hT1 (by omega) a2
  have hT2 := b3.fs.tx hT1
  obtain ⟨l1, l2⟩ := runP_le (P := isLt) (b := b) (n := n) (p := q) (by omega)
  have c1 := eX6_of X σ2 b n q (runP isLt b n q) hT2 l1 l2
  rw [← b2, ← a2] at c1
  rw [uX3_next]
  refine wI_s (N := 99999) ?_
  refine wF_of a1 ?_
  refine wF_of e1 ?_
  refine And.intro (fun c => ?_) (fun _ => ?_)
  · have c : b q = -1 := c
    rw [c] at b0
    exact absurd b0 (by decide)
  refine wF_of b1 ?_
  refine wF_of c1 ?_
  unfold nxT
  by_cases h8 : knd b q (runP isLt b n q - q) = 8
  · rw [if_pos h8, h8]
    refine And.intro (Or.inl (by decide)) ?_
    refine ⟨xuI (σ2.1, σ2.2.1, none) 2 0 4 (σ1.1 2 0 3), rfl, ?_, (a3.fs.tr b3.fs).tr (FS.w.tr FS.u4)⟩
    rw [xu_eq, if_pos rfl, a2]
  · rw [if_neg h8]
    have hw : wdR (knd b q (runP isLt b n q - q)) = xR 12 (knd b q (runP isLt b n q - q)) := by
      unfold wdR
      rw [if_neg h8]
    rw [hw]
    generalize knd b q (runP isLt b n q - q) = k
    have hl := lX3_next X b n k (many k) 0 (99998 - many k) (σ2.1, σ2.2.1, some k) (runP isLt b n q) (fun _ => 0) (by omega) l2 (FS.w.tx hT2) b2 rfl (fun j hj => by omega)
    have h3 := many_3 (k := k)
    rw [show 99998 - many k + many k + 1 = 99999 by omega] at hl
    refine wF_mono hl (fun r hr => ?_)
    have hr2 := nuR_tr (σ := σ) ((a3.fs.tr b3.fs).tr FS.w) (by
      show σ2.1 2 0 4 = _
      rw [b3.1 _ _ _ (by omega), a3.1 _ _ _ (by omega)]) hr
    cases hrd : rdNums b n (many k) 0 (runP isLt b n q) (fun _ => 0) with
    | inr f =>
      rw [hrd] at hr2
      exact hr2
    | inl gp =>
      obtain ⟨g, p2⟩ := gp
      rw [hrd] at hr2
      dsimp only
      by_cases hc : runP isSp b n p2 < n ∧ b (runP isSp b n p2) = 59
      · rw [if_pos hc]
        exact hr2.1 hc
      · rw [if_neg hc]
        exact hr2.2 hc
/-- the fault of a text from a place on, which is behind spaces or at them -/
def ftT (b : Nat → Int32) (n : Nat) : Nat → Nat → Option Nat
  | 0, _ => none
  | m + 1, p => if runP isSp b n p < n then (match nxT b n (runP isSp b n p) with
    | .inr f => some f
    | .inl (_, _, q) => ftT b n m q) else none
theorem nxT_q {b : Nat → Int32} {n p k q : Nat} {g : Nat → Int32} (hp : p < n) (h : nxT b n p = .inl (k, g, q)) : p < q ∧ q ≤ n ∧ k < 8 := by
  unfold nxT at h
  split at h
  · cases h
  · rename_i h8
    split at h
    · cases h
    · rename_i g2 r hr
      split at h
      · rename_i hc
        cases h
        have k8 := knd_rng (b := b) (s := p) (len := runP isLt b n p - p) 8 0 rfl
        refine ⟨?_, by omega, by unfold knd at h8 ⊢; omega⟩
        have l1 := (runP_le (P := isLt) (b := b) (n := n) (p := p) (by omega))
        have rn : ∀ (m i a : Nat) (u : Nat → Int32) (v : Nat → Int32) (z : Nat), a ≤ n → rdNums b n m i a u = .inl (v, z) → a ≤ z ∧ z ≤ n := by
          intro m
          induction m with
          | zero =>
            intro i a u v z ha h
            cases h
            omega
          | succ m ih =>
            intro i a u v z ha h
            unfold rdNums at h
            split at h
            · cases h
            · rename_i v1 q1 hq1
              unfold rdNum at hq1
              split at hq1
              · cases hq1
              · split at hq1
                · cases hq1
                · split at hq1
                  · cases hq1
                  · cases hq1
                    have r1 := runP_le (P := isSp) (b := b) ha
                    have r2 := digF_rng (b := b) (n := n) 4 (runP isSp b n a) 0
                    have := ih _ _ _ _ _ (r2.2 r1.2) h
                    omega
        have r3 := rn _ _ _ _ _ _ l1.2 hr
        have r4 := (runP_le (P := isSp) (b := b) r3.2)
        omega
      · cases h
set_option maxRecDepth 100000 in
set_option maxHeartbeats 1000000 in
theorem lX3_findFault (X : Nat × (Nat → Int32)) (b : Nat → Int32) (n : Nat) : ∀ (m c N : Nat) (σ : XH) (p : Nat), c + m = 150 → c ≤ p → p ≤ n → TxC σ b n → σ.1 2 0 3 = oN p → σ.1 2 0 4 = -1 → wF (xIter X (xEnv (nX3_findFault X)) (fun _ _ => some none) 0 [(6, [0, 1])] tX3_findFault (N + m + 1) (6, [(0, xR 2 0), (1, xI (oN c))], σ, 0)) (fun r => ∃ σ', r = (.inl (some (xI (match ftT b n m p with | some f => oN f | none => -1))), σ') ∧ FS σ σ') := by
  intro m
  induction m with
  | zero =>
    intro c N σ p hc hcp hp hT ha hf
    have : c = 150 := by omega
    subst this
    refine wI_s (N := N + 0) ?_
    refine And.intro (fun _ => ?_) (fun z => absurd (by decide) z)
    refine ⟨σ, ?_, FS.rf⟩
    exact congrArg (fun x => ((.inl (some (xI x)), σ) : XR × XH)) hf
  | succ m ih =>
    intro c N σ p hc hcp hp hT ha hf
    have hn := hT.2.1
    refine wI_s (N := N + (m + 1)) ?_
    refine And.intro (fun z => ?_) (fun _ => ?_)
    · have z : oN 150 ≤ oN c := z
      rw [oN_le (by decide) (by omega)] at z
      omega
    unfold ftT
    by_cases he : runP isSp b n p < n
    · rw [if_pos he]
      obtain ⟨r, a1, a2⟩ := wX3_next X σ b n p hp hT ha he
      refine wF_of a1 ?_
      cases hx : nxT b n (runP isSp b n p) with
      | inr f =>
        rw [hx] at a2
        obtain ⟨σ1, rfl, b1, b2⟩ := a2
        refine And.intro (fun _ => ?_) (fun h => absurd rfl h)
        refine ⟨σ1, ?_, b2⟩
        exact congrArg (fun x => ((.inl (some (xI x)), σ1) : XR × XH)) b1
      | inl kgq =>
        obtain ⟨k, g, q⟩ := kgq
        rw [hx] at a2
        obtain ⟨σ1, rfl, b1, b2, b3, b4, b5⟩ := a2
        refine And.intro (fun h => absurd h (by decide)) (fun _ => ?_)
        have hq := nxT_q he hx
        have hr := runP_le (P := isSp) (b := b) hp
        have := ih (c + 1) N σ1 q (by omega) (by omega) hq.2.1 (b5.tx hT) b1 (b2.trans hf)
        rw [← oN_1] at this
        refine wF_mono this ?_
        rintro r ⟨σ', rfl, h9⟩
        exact ⟨σ', rfl, b5.tr h9⟩
    · rw [if_neg he]
      have hr := runP_le (P := isSp) (b := b) hp
      obtain ⟨r, a1, σ1, rfl, b1, b2⟩ := wX3_next_e X σ b n p hp hT ha (by omega)
      refine wF_of a1 ?_
      refine And.intro (fun _ => ?_) (fun h => absurd rfl h)
      refine ⟨σ1, ?_, b2⟩
      exact congrArg (fun x => ((.inl (some (xI x)), σ1) : XR × XH)) (b1.trans hf)
set_option maxRecDepth 100000 in
set_option maxHeartbeats 1000000 in
theorem wX3_findFault (X : Nat × (Nat → Int32)) (σ : XH) (b : Nat → Int32) (n : Nat) (hT : TxC σ b n) : wF (fX3_findFault X [xR 2 0] σ) (fun r => ∃ σ', r = (.inl (some (xI (match ftT b n 150 0 with | some f => oN f | none => -1))), σ') ∧ FS σ σ') := by
  have hrw : fX3_rewind X [xR 2 0] σ = some (.inl none, xuI (xuI σ 2 0 3 0) 2 0 4 (-1)) := by
    rw [uX3_rewind]
    refine wF_eq (wI_s (N := 99999) ?_)
    rfl
  have f2 : FS σ (xuI (xuI σ 2 0 3 0) 2 0 4 (-1)) := FS.u3.tr FS.u4
  have hl := lX3_findFault X b n 150 0 99848 (xuI (xuI σ 2 0 3 0) 2 0 4 (-1)) 0 rfl (by omega) (by omega) (f2.tx hT) (by rw [xu_eq, if_neg (by decide), xu_eq, if_pos rfl]; rfl) (by rw [xu_eq, if_pos rfl])
  rw [uX3_findFault]
  refine wI_s (N := 99999) ?_
  refine wF_of hrw ?_
  refine wF_mono hl ?_
  rintro r ⟨σ', rfl, h⟩
  exact ⟨σ', rfl, f2.tr h⟩
