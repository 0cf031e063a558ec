/-! ===== texts of commands are run ===== -/
noncomputable def rcT (b : Nat → Int32) (n : Nat) : Nat → Nat → TS → Nat × TS
  | 0, _, t => (0, t)
  | m + 1, p, t => if runP isSp b n p < n then (match nxT b n (runP isSp b n p) with
    | .inr _ => (0, t)
    | .inl (k, g, q) => @ite _ (pOK t k g) (Classical.propDecidable _) ((rcT b n m q (exT t k g)).1 + 1, (rcT b n m q (exT t k g)).2) (0, t)) else (0, t)
def PR (c j i : Nat) : Prop := PT 0 c j ∨ (c = 2 ∧ j = 0 ∧ (i = 3 ∨ i = 4)) ∨ (c = 9 ∧ j = 1)
/-- what running a text leaves of the class -/
def FR (σ σ' : XH) : Prop := (∀ c j i, ¬ PR c j i → σ'.1 c j i = σ.1 c j i) ∧ σ'.2.1 = σ.2.1
theorem FR.rf {σ : XH} : FR σ σ := ⟨fun _ _ _ _ => rfl, rfl⟩
theorem FR.tr {a b c : XH} (h1 : FR a b) (h2 : FR b c) : FR a c := ⟨fun x y z h => (h2.1 x y z h).trans (h1.1 x y z h), h2.2.trans h1.2⟩
theorem FS.fr {σ σ' : XH} (h : FS σ σ') : FR σ σ' := ⟨fun c j i hn => h.1 c j i (fun q => hn (Or.inr q)), h.2⟩
theorem FR.pt {σ σ' : XH} (h : xFr (PT 0) σ σ') : FR σ σ' := ⟨fun c j i hn => h.1 c j i (fun q => hn (Or.inl q)), by rw [h.2]⟩
theorem FR.tx {σ σ' : XH} {b : Nat → Int32} {n : Nat} (h : FR σ σ') (hT : TxC σ b n) : TxC σ' b n :=
  ⟨(h.1 _ _ _ (by unfold PR PT; omega)).trans hT.1, hT.2.1, fun i hi => ⟨(h.1 _ _ _ (by unfold PR PT; omega)).trans (hT.2.2 i hi).1, (hT.2.2 i hi).2⟩⟩
theorem cTS_i {σ σ' : XH} {j : Nat} (h3 : ∀ i, σ'.1 3 j i = σ.1 3 j i) (h0 : σ'.1 0 j 1 = σ.1 0 j 1) (h4 : ∀ i, σ'.1 4 (2 * j) i = σ.1 4 (2 * j) i) (h5 : ∀ i, σ'.1 4 (2 * j + 1) i = σ.1 4 (2 * j + 1) i) (h8 : ∀ i, σ'.1 8 j i = σ.1 8 j i) : cTS σ' j = cTS σ j := by
  refine Prod.ext (funext fun i => ?_) (Prod.ext (funext fun i => ?_) (Prod.ext (funext fun i => ?_) (funext fun i => ?_)))
  · show trF 10 (gC σ' j) i = trF 10 (gC σ j) i
    unfold trF
    split
    · unfold gC
      split
      · exact h0
      · exact h3 _
    · rfl
  · show vC σ' (2 * j) i = vC σ (2 * j) i
    unfold vC trF
    dsimp only
    rw [h4]
  · show vC σ' (2 * j + 1) i = vC σ (2 * j + 1) i
    unfold vC trF
    dsimp only
    rw [h5]
  · show bL σ' j i = bL σ j i
    unfold bL trF
    dsimp only
    rw [h8]
theorem FS.ct {σ σ' : XH} (h : FS σ σ') (j : Nat) : cTS σ' j = cTS σ j := cTS_i (fun i => h.1 _ _ _ (by omega)) (h.1 _ _ _ (by omega)) (fun i => h.1 _ _ _ (by omega)) (fun i => h.1 _ _ _ (by omega)) (fun i => h.1 _ _ _ (by omega))
theorem FR.cs {σ σ' : XH} {S : Nat → TS} {m : Nat} (h : FR σ σ') (hS : CSt σ S m) : CSt σ' S m := by
  obtain ⟨h1, h2, l, hl, h3, h4⟩ := hS
  refine ⟨h1, (h.1 _ _ _ (by unfold PR PT; omega)).trans h2, l, hl, (h.1 _ _ _ (by unfold PR PT; omega)).trans h3, fun i hi => ?_⟩
  rw [← h4 i hi]
  exact cTS_i (fun i => h.1 _ _ _ (by unfold PR PT; omega)) (h.1 _ _ _ (by unfold PR PT; omega)) (fun i => h.1 _ _ _ (by unfold PR PT; omega)) (fun i => h.1 _ _ _ (by unfold PR PT; omega)) (fun i => h.1 _ _ _ (by unfold PR PT; omega))
abbrev xRc (X : Nat × (Nat → Int32)) (N pc : Nat) (lv : XL) (σ : XH) : Option (XR × XH) := xIter X (xEnv (nX7_runCommands X)) (fun _ _ => some none) 0 [(38, [0, 2])] tX7_runCommands N (pc, lv, σ, 0)
theorem st7 {X : Nat × (Nat → Int32)} {σ : XH} {k F : Nat} {x : Int32} (hw : σ.2.2 = some k) (Q : XO → Prop) (h : wExec X (xEnv (nX7_runCommands X)) (fun _ _ => some none) 0 [(38, [0, 2])] tX7_runCommands Q F (xPc tX7_runCommands 62) [(0, xR 6 0), (2, xI x)] [xR 12 k] σ 0) : wExec X (xEnv (nX7_runCommands X)) (fun _ _ => some none) 0 [(38, [0, 2])] tX7_runCommands Q (F + 3) (xPc tX7_runCommands 55) [(0, xR 6 0), (2, xI x)] [] σ 0 := by
  have hwn : xfg σ 2 0 5 = xR 12 k := by
    show (.inr (.inr (xrho σ.2.2 2 0 5)) : XV) = _
    rw [hw]
    rfl
  rw [← hwn] at h
  exact h
set_option maxRecDepth 100000 in
set_option maxHeartbeats 1000000 in
theorem lX7_run (X : Nat × (Nat → Int32)) (b : Nat → Int32) (n : Nat) : ∀ (m c N : Nat) (σ : XH) (p : Nat), c + m = 150 → p ≤ n → TxC σ b n → σ.1 2 0 3 = oN p → okT (cTS σ 0) → wF (xRc X (N + m + 1) 38 [(0, xR 6 0), (2, xI (oN c))] σ) (fun r => ∃ σ', r = (.inl (some (xI (oN (c + (rcT b n m p (cTS σ 0)).1)))), σ') ∧ cTS σ' 0 = (rcT b n m p (cTS σ 0)).2 ∧ FR σ σ') := by
  intro m
  induction m with
  | zero =>
    intro c N σ p hc hp hT ha ho
    refine wI_s (N := N + 0) ?_
    refine And.intro (fun _ => ?_) (fun z => absurd (by show oN 150 ≤ oN c; rw [oN_le (by decide) (by omega)]; omega) z)
    exact ⟨σ, rfl, rfl, FR.rf⟩
  | succ m ih =>
    intro c N σ p hc hp hT ha ho
    have hn := hT.2.1
    have hr := runP_le (P := isSp) (b := b) hp
    refine wI_s (N := N + (m + 1)) ?_
    refine And.intro (fun z => ?_) (fun _ => ?_)
    · have z : oN 150 ≤ oN c := z
      rw [oN_le (by decide) (by omega)] at z
      omega
    unfold rcT
    by_cases he : runP isSp b n p < n
    · rw [if_pos he]
      obtain ⟨r, a1, a2⟩ := wX3_next X σ b n p hp hT ha he
      refine wF_of a1 ?_
      cases hx : nxT b n (runP isSp b n p) with
      | inr f =>
        rw [hx] at a2
        obtain ⟨σ1, rfl, b1, b2⟩ := a2
        refine And.intro (fun _ => ?_) (fun h => absurd rfl h)
        exact ⟨σ1, rfl, b2.ct 0, b2.fr⟩
      | inl kgq =>
        obtain ⟨k, g, q⟩ := kgq
        rw [hx] at a2
        obtain ⟨σ1, rfl, b1, b2, b3, b4, b5⟩ := a2
        have hq := nxT_q he hx
        have hcg := pOK_cg (t := cTS σ 0) k hq.2.2 b4
        have hct := b5.ct 0
        dsimp only
        refine And.intro (fun h => absurd h (by decide)) (fun _ => ?_)
        refine st7 b3 _ ?_
        obtain ⟨r, c1, c2, c3⟩ := wX7_isAllowed X σ1 k hq.2.2
        rw [hct] at c2 c3
        refine wF_of c1 ?_
        by_cases hok : pOK (cTS σ 0) k g
        · rw [if_pos hok, c2 (hcg.1.mpr hok)]
          refine And.intro (fun h => absurd h (by decide)) (fun _ => ?_)
          obtain ⟨r, d1, σ2, rfl, d2, d3⟩ := wX7_carryOut X σ1 (by rw [hct]; exact ho) k hq.2.2 (by rw [hct]; exact hcg.1.mpr hok)
          refine wF_of d1 ?_
          rw [hct, hcg.2] at d2
          have f2 : FR σ σ2 := b5.fr.tr (FR.pt d3)
          have := ih (c + 1) N σ2 q (by omega) hq.2.1 (f2.tx hT) (by rw [d3.1 _ _ _ (by unfold PT; omega), b1]) (by rw [d2]; exact okT_ex ho k hok)
          rw [← oN_1, d2] at this
          refine wF_mono this ?_
          rintro r ⟨σ', rfl, g1, g2⟩
          exact ⟨σ', by rw [show c + 1 + (rcT b n m q (exT (cTS σ 0) k g)).1 = c + ((rcT b n m q (exT (cTS σ 0) k g)).1 + 1) by omega], g1, f2.tr g2⟩
        · rw [if_neg hok, c3 (fun q => hok (hcg.1.mp q))]
          refine And.intro (fun _ => ?_) (fun h => absurd rfl h)
          exact ⟨σ1, rfl, hct, b5.fr⟩
    · rw [if_neg he]
      obtain ⟨r, a1, σ1, rfl, b1, b2⟩ := wX3_next_e X σ b n p hp hT ha (by omega)
      refine wF_of a1 ?_
      refine And.intro (fun _ => ?_) (fun h => absurd rfl h)
      exact ⟨σ1, rfl, b2.ct 0, b2.fr⟩
set_option maxRecDepth 100000 in
set_option maxHeartbeats 1000000 in
theorem wX7_runCommands (X : Nat × (Nat → Int32)) (σ : XH) (b : Nat → Int32) (n : Nat) (S : Nat → TS) (m : Nat) (hT : TxC σ b n) (ho : okT (cTS σ 0)) (hS : CSt σ S m) (hf : ftT b n 150 0 = none) : wF (fX7_runCommands X [xR 6 0] σ) (fun r => ∃ σ', r = (.inl (some (xI (oN (rcT b n 150 0 (cTS σ 0)).1))), σ') ∧ CSt σ' (pushS S (cTS σ 0)) (min (m + 1) 4) ∧ cTS σ' 0 = (rcT b n 150 0 (cTS σ 0)).2 ∧ TxC σ' b n ∧ (∀ c j i, (c = 7 ∨ (c = 9 ∧ 2 ≤ j)) → σ'.1 c j i = σ.1 c j i) ∧ σ'.2.1 = σ.2.1) := by
  obtain ⟨r, a1, σ1, rfl, a2⟩ := wX3_findFault X σ b n hT
  rw [hf] at a1
  have h1 := a2.ct 0
  obtain ⟨r, b1, σ2, rfl, b2, b3, jj, j2, j6, b4⟩ := wX2_save X σ1 S m (by rw [h1]; exact ho) (a2.fr.cs hS)
  have hT2 : TxC σ2 b n := by
    have t1 := a2.tx hT
    exact ⟨(b4.1 _ _ _ (by unfold PS PT; omega)).trans t1.1, t1.2.1, fun i hi => ⟨(b4.1 _ _ _ (by unfold PS PT; omega)).trans (t1.2.2 i hi).1, (t1.2.2 i hi).2⟩⟩
  have hrw : fX3_rewind X [xR 2 0] σ2 = some (.inl none, xuI (xuI σ2 2 0 3 0) 2 0 4 (-1)) := by
    rw [uX3_rewind]
    refine wF_eq (wI_s (N := 99999) ?_)
    rfl
  have f2 : FS σ2 (xuI (xuI σ2 2 0 3 0) 2 0 4 (-1)) := FS.u3.tr FS.u4
  have h2 := (f2.ct 0).trans (b3.trans h1)
  have hl := lX7_run X b n 150 0 99848 (xuI (xuI σ2 2 0 3 0) 2 0 4 (-1)) 0 rfl (by omega) (f2.tx hT2) (by rw [xu_eq, if_neg (by decide), xu_eq, if_pos rfl]; rfl) (by rw [h2]; exact ho)
  rw [h2] at hl
  rw [uX7_runCommands]
  refine wI_s (N := 99999) ?_
  refine wF_of a1 ?_
  refine And.intro (fun _ => ?_) (fun z => absurd rfl z)
  refine wF_of b1 ?_
  refine wF_of hrw ?_
  refine wF_mono hl ?_
  rintro r ⟨σ', rfl, g1, g2⟩
  have g3 := f2.fr.tr g2
  refine ⟨σ', by rw [Nat.zero_add], ?_, g1, g3.tx hT2, fun c j i hc => ?_, ?_⟩
  · rw [← h1]
    exact g3.cs b2
  · rw [g3.1 _ _ _ (by unfold PR PT; omega), b4.1 _ _ _ (by unfold PS PT; omega), a2.1 _ _ _ (by omega)]
  · rw [g3.2, b4.2, a2.2]
set_option maxRecDepth 100000 in
set_option maxHeartbeats 1000000 in
theorem wX7_runCommands_f (X : Nat × (Nat → Int32)) (σ : XH) (b : Nat → Int32) (n f : Nat) (hT : TxC σ b n) (hf : ftT b n 150 0 = some f) (hf2 : f ≤ 150) : wF (fX7_runCommands X [xR 6 0] σ) (fun r => ∃ σ', r = (.inl (some (xI (-10 - oN f))), σ') ∧ FS σ σ') := by
  obtain ⟨r, a1, σ1, rfl, a2⟩ := wX3_findFault X σ b n hT
  rw [hf] at a1
  rw [uX7_runCommands]
  refine wI_s (N := 99999) ?_
  refine wF_of a1 ?_
  refine And.intro (fun z => ?_) (fun _ => ?_)
  · have z : oN f = -1 := z
    have := oN_nn (n := f) (by omega)
    rw [z] at this
    exact absurd this (by decide)
  · exact ⟨σ1, rfl, a2⟩
/-- what running a text leaves of the reference -/
def KW (σ σ' : XH) : Prop := (∀ c j i, ¬ (c = 7 ∨ (c = 9 ∧ 2 ≤ j)) → σ'.1 c j i = σ.1 c j i) ∧ σ'.1 7 0 5 = σ.1 7 0 5 ∧ (∀ i, σ'.1 9 5 i = σ.1 9 5 i) ∧ (∀ j i, σ'.2.1 10 j i = σ.2.1 10 j i) ∧ σ'.2.2 = σ.2.2
def NW (σ σ' : XH) : Prop := KW σ σ' ∧ SK σ σ' ∧ aS σ' = aS σ
theorem KM.kw {σ σ' : XH} (h : KM σ σ') : KW σ σ' := ⟨h.1, h.2.1.1, h.2.2⟩
theorem KW.tr {a b c : XH} (h1 : KW a b) (h2 : KW b c) : KW a c := ⟨fun x y z h => (h2.1 x y z h).trans (h1.1 x y z h), h2.2.1.trans h1.2.1, fun i => (h2.2.2.1 i).trans (h1.2.2.1 i), fun j i => (h2.2.2.2.1 j i).trans (h1.2.2.2.1 j i), h2.2.2.2.2.trans h1.2.2.2.2⟩
theorem GS.kw {σ σ' : XH} (h : GS σ σ') : KW σ σ' := ⟨fun c j i hn => h.1 _ _ _ (by omega), h.1 _ _ _ (by omega), fun i => h.1 _ _ _ (by omega), fun j i => h.2.1 _ _ _ (by omega), h.2.2⟩
theorem GS.sk {σ σ' : XH} (h : GS σ σ') : SK σ σ' := ⟨h.1 _ _ _ (by omega), fun i => h.1 _ _ _ (by omega)⟩
theorem GS.as {σ σ' : XH} (h : GS σ σ') : aS σ' = aS σ := aTS_cg fun i _ => h.1 _ _ _ (by omega)
theorem GS.mt {σ σ' : XH} (h : GS σ σ') : mTS σ' = mTS σ := aTS_cg fun i _ => h.1 _ _ _ (by omega)
theorem GS.nw {σ σ' : XH} (h : GS σ σ') : NW σ σ' := ⟨h.kw, h.sk, h.as⟩
theorem NF.nw {σ σ' : XH} (h : NF σ σ') : NW σ σ' := ⟨h.1.kw, h.2⟩
theorem NW.rf {σ : XH} : NW σ σ := NF.rf.nw
theorem NW.tr {a b c : XH} (h1 : NW a b) (h2 : NW b c) : NW a c := ⟨h1.1.tr h2.1, h1.2.1.tr h2.2.1, h2.2.2.trans h1.2.2⟩
theorem KW.tx {σ σ' : XH} {b : Nat → Int32} {n : Nat} (h : KW σ σ') (hT : TxM σ b n) : TxM σ' b n := ⟨h.2.1.trans hT.1, hT.2.1, fun i hi => ⟨(h.2.2.1 i).trans (hT.2.2 i hi).1, (hT.2.2 i hi).2⟩⟩
def rmR (σ : XH) (S : Nat → TS) (m : Nat) (x : Int32) (t : TS) (r : XR × XH) : Prop := ∃ σ', r = (.inl (some (xI x)), σ') ∧ MSt σ' (pushS S (aS σ)) (min (m + 1) 4) ∧ mTS σ' = t ∧ σ'.1 7 0 6 = 0 ∧ KW σ σ'
abbrev xRm2 (X : Nat × (Nat → Int32)) (N pc : Nat) (lv : XL) (σ : XH) : Option (XR × XH) := xIter X (xEnv (nX8_runCommands X)) (fun _ _ => some none) 0 [(37, [0, 2, 3])] tX8_runCommands N (pc, lv, σ, 0)
theorem rm_end (X : Nat × (Nat → Int32)) {σ τ : XH} {S : Nat → TS} {m : Nat} (x : Int32) (h : NW σ τ) (hS : MSt σ S m) : wF (fX8_ends X [xR 7 0, xI x] τ) (rmR σ S m x (mTS τ)) := by
  refine wF_mono (wX8_ends X τ x S m (h.2.1.st hS)) ?_
  rintro r ⟨σ', rfl, a, b, c, d⟩
  rw [h.2.2] at a
  exact ⟨σ', rfl, a, b, c, h.1.tr d.kw⟩
set_option maxRecDepth 100000 in
set_option maxHeartbeats 1000000 in
theorem lX8_run (X : Nat × (Nat → Int32)) (σ0 : XH) (b : Nat → Int32) (n : Nat) (S : Nat → TS) (mS : Nat) (hS : MSt σ0 S mS) : ∀ (m c cp N : Nat) (σ : XH) (p : Nat), cp + m = 150 → c ≤ cp → cp ≤ p → p ≤ n → TxM σ b n → σ.1 7 0 10 = oN (runP isSp b n p) → okT (mTS σ) → NW σ0 σ → ftT b n m p = none → wF (xRm2 X (N + m + 2) 37 [(0, xR 7 0), (2, xI (oN c)), (3, xI 0)] σ) (rmR σ0 S mS (oN (c + (rcT b n m p (mTS σ)).1)) (rcT b n m p (mTS σ)).2) := by
  have ex : ∀ (N p : Nat) (x : Int32) (σ : XH), p ≤ n → TxM σ b n → σ.1 7 0 10 = oN (runP isSp b n p) → ¬ runP isSp b n p < n → NW σ0 σ → wF (xRm2 X (N + 1) 37 [(0, xR 7 0), (2, xI x), (3, xI 0)] σ) (rmR σ0 S mS x (mTS σ)) := by
    intro N p x σ hp hT ha hl hN
    have hn := hT.2.1
    have hr := (runP_le (P := isSp) (b := b) hp).2
    refine wI_s (N := N) ?_
    refine And.intro (fun _ => ?_) (fun z => absurd (by show σ.1 7 0 5 ≤ σ.1 7 0 10; rw [ha, hT.1, oN_le (by omega) (by omega)]; omega) z)
    refine wF_mono (rm_end X x hN hS) ?_
    rintro r ⟨σ', rfl, h⟩
    exact ⟨σ', rfl, h⟩
  intro m
  induction m with
  | zero =>
    intro c cp N σ p hc hcc hcp hp hT ha ho hN hf
    have hr := runP_le (P := isSp) (b := b) hp
    have hn := hT.2.1
    exact ex (N + 0 + 1) p _ σ hp hT ha (by omega) hN
  | succ m ih =>
    intro c cp N σ p hc hcc hcp hp hT ha ho hN hf
    have hn := hT.2.1
    have hr := runP_le (P := isSp) (b := b) hp
    unfold ftT at hf
    unfold rcT
    by_cases he : runP isSp b n p < n
    · rw [if_pos he] at hf ⊢
      obtain ⟨r, a1, a2⟩ := wX8_isCommand X σ b n (runP isSp b n p) (by omega) hT ha
      refine wI_s (N := N + (m + 1) + 1) ?_
      refine And.intro (fun z => ?_) (fun _ => ?_)
      · have z : σ.1 7 0 5 ≤ σ.1 7 0 10 := z
        rw [ha, hT.1, oN_le (by omega) (by omega)] at z
        omega
      refine And.intro (fun _ => ?_) (fun h => absurd rfl h)
      refine wF_of a1 ?_
      cases hx : nxT b n (runP isSp b n p) with
      | inr f =>
        rw [hx] at hf
        cases hf
      | inl kgq =>
        obtain ⟨k, g, q⟩ := kgq
        rw [hx] at a2 hf
        obtain ⟨σ1, rfl, b1, b2, b3, b4⟩ := a2
        have hq := nxT_q he hx
        have hcg := pOK_cg (t := mTS σ) k hq.2.2 b3
        have hmt := b4.mt
        have hrq := (runP_le (P := isSp) (b := b) hq.2.1).2
        dsimp only at hf ⊢
        refine And.intro (fun h => absurd h (by decide)) (fun _ => ?_)
        by_cases hok : pOK (mTS σ) k g
        · rw [if_pos hok]
          obtain ⟨r, d1, σ2, rfl, d2, d3⟩ := wX8_does X σ1 (by rw [hmt]; exact ho) k hq.2.2 b2 (by rw [hmt]; exact hcg.1.mpr hok)
          rw [hmt, hcg.2] at d2
          refine wF_of d1 ?_
          refine And.intro (fun _ => ?_) (fun h => absurd (by decide) h)
          refine And.intro (fun _ => ?_) (fun h => absurd rfl h)
          have := ih (c + 1) (cp + 1) N σ2 q (by omega) (by omega) (by omega) hq.2.1 ((b4.kw.tr d3.1.kw).tx hT) (by rw [d3.1.2.1.2, b1]) (by rw [d2]; exact okT_ex ho k hok) (hN.tr (b4.nw.tr d3.nw)) hf
          rw [← oN_1, d2, show N + m + 2 = N + (m + 1) + 1 by omega] at this
          refine wF_mono this ?_
          rintro r ⟨σ', rfl, h⟩
          exact ⟨σ', by rw [show c + 1 + (rcT b n m q (exT (mTS σ) k g)).1 = c + ((rcT b n m q (exT (mTS σ) k g)).1 + 1) by omega], h⟩
        · rw [if_neg hok]
          obtain ⟨r, d1, e, e0, rfl⟩ := wX8_does_n X σ1 k hq.2.2 b2 (by rw [hmt]; exact fun z => hok (hcg.1.mp z))
          refine wF_of d1 ?_
          refine And.intro (fun h => absurd h (Int32.not_le.mpr e0)) (fun _ => ?_)
          refine And.intro (fun h => absurd h (by decide)) (fun _ => ?_)
          have hend := rm_end X (oN c + 0) (hN.tr b4.nw) hS
          have e00 : oN c + 0 = oN c := oN_add c 0
          refine wI_s (N := N + (m + 1)) ?_
          rw [hmt] at hend
          refine And.intro (fun _ => ?_) (fun _ => ?_)
          · refine wF_mono hend ?_
            rintro r ⟨σ', rfl, h⟩
            exact ⟨σ', by rw [e00]; rfl, h⟩
          · refine And.intro (fun h => absurd h (by decide)) (fun _ => ?_)
            refine wF_mono hend ?_
            rintro r ⟨σ', rfl, h⟩
            exact ⟨σ', by rw [e00]; rfl, h⟩
    · rw [if_neg he]
      exact ex (N + (m + 1) + 1) p _ σ hp hT ha he hN
set_option maxRecDepth 100000 in
set_option maxHeartbeats 1000000 in
theorem wX8_runCommands (X : Nat × (Nat → Int32)) (σ : XH) (b : Nat → Int32) (n : Nat) (S : Nat → TS) (m : Nat) (hT : TxM σ b n) (ho : okT (mTS σ)) (hSt : MSt σ S m) (hf : ftT b n 150 0 = none) : wF (fX8_runCommands X [xR 7 0] σ) (fun r => ∃ σ', r = (.inl (some (xI (oN (rcT b n 150 0 (mTS σ)).1))), σ') ∧ MSt σ' (pushS S (mTS σ)) (min (m + 1) 4) ∧ mTS σ' = (rcT b n 150 0 (mTS σ)).2 ∧ σ'.1 7 0 6 = 0 ∧ KW σ σ') := by
  obtain ⟨r, a1, σ1, rfl, a2⟩ := wX8_faultAt X σ b n hT
  rw [hf] at a1
  have k1 : KW σ (hS σ1) := a2.kw.tr (hS_K (σ := σ1)).kw
  have g1 : GA (hS σ1) (xuI (hS σ1) 7 0 10 0) := GA.u
  obtain ⟨r, b1, σ2, rfl, b2, b3⟩ := wX8_skips X _ b n 0 (g1.gs.tx (k1.tx hT)) (by omega) (by rw [xu_eq, if_pos rfl]; rfl)
  have g2 := (g1.tr b3).gs
  have hm : mTS (hS σ1) = mTS σ := hS_t.trans a2.mt
  have hm2 : mTS σ2 = mTS σ := g2.mt.trans hm
  have hS1 : MSt (hS σ1) S m := (hS_S (σ := σ1)).st (a2.sk.st hSt)
  have hl := lX8_run X (hS σ1) b n S m hS1 150 0 0 99847 σ2 0 rfl (by omega) (by omega) (by omega) (g2.tx (k1.tx hT)) b2 (by rw [hm2]; exact ho) g2.nw hf
  rw [hm2] at hl
  rw [uX8_runCommands]
  refine wI_s (N := 99999) ?_
  refine wF_of a1 ?_
  refine And.intro (fun _ => ?_) (fun z => absurd rfl z)
  refine wF_of (eX8_hold X σ1) ?_
  refine wF_of b1 ?_
  refine wF_mono hl ?_
  rintro r ⟨σ', rfl, h1, h2, h3, h4⟩
  rw [hS_a, a2.mt] at h1
  exact ⟨σ', by rw [Nat.zero_add], h1, h2, h3, k1.tr h4⟩
set_option maxRecDepth 100000 in
set_option maxHeartbeats 1000000 in
theorem wX8_runCommands_f (X : Nat × (Nat → Int32)) (σ : XH) (b : Nat → Int32) (n f : Nat) (hT : TxM σ b n) (hf : ftT b n 150 0 = some f) (hf2 : f ≤ 150) : wF (fX8_runCommands X [xR 7 0] σ) (fun r => ∃ σ', r = (.inl (some (xI (-10 - oN f))), σ') ∧ SK σ σ' ∧ mTS σ' = mTS σ ∧ σ'.1 7 0 6 = 0 ∧ KW σ σ') := by
  obtain ⟨r, a1, σ1, rfl, a2⟩ := wX8_faultAt X σ b n hT
  rw [hf] at a1
  rw [uX8_runCommands]
  refine wI_s (N := 99999) ?_
  refine wF_of a1 ?_
  refine And.intro (fun z => ?_) (fun _ => ?_)
  · have z : oN f = -1000000 := z
    have := oN_nn (n := f) (by omega)
    rw [z] at this
    exact absurd this (by decide)
  · refine wF_of (eX8_tells X _ _) ?_
    exact ⟨_, rfl, a2.sk.tr (SK.u (by decide)), mTS_u7.trans a2.mt, by rw [xu_eq, if_pos rfl], a2.kw.tr (KM.u (by decide)).kw⟩
