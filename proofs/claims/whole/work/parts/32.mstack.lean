/-! ===== the reference's stack; what its methods leave as it was ===== -/
def KM (σ σ' : XH) : Prop := (∀ c j i, ¬ (c = 7 ∨ (c = 9 ∧ 2 ≤ j)) → σ'.1 c j i = σ.1 c j i) ∧ (σ'.1 7 0 5 = σ.1 7 0 5 ∧ σ'.1 7 0 10 = σ.1 7 0 10) ∧ (∀ i, σ'.1 9 5 i = σ.1 9 5 i) ∧ (∀ j i, σ'.2.1 10 j i = σ.2.1 10 j i) ∧ σ'.2.2 = σ.2.2
def SK (σ σ' : XH) : Prop := σ'.1 7 0 3 = σ.1 7 0 3 ∧ ∀ i, σ'.1 9 3 i = σ.1 9 3 i
theorem KM.rf {σ : XH} : KM σ σ := ⟨fun _ _ _ _ => rfl, ⟨rfl, rfl⟩, fun _ => rfl, fun _ _ => rfl, rfl⟩
theorem KM.tr {a b c : XH} (h1 : KM a b) (h2 : KM b c) : KM a c := ⟨fun x y z h => (h2.1 x y z h).trans (h1.1 x y z h), ⟨h2.2.1.1.trans h1.2.1.1, h2.2.1.2.trans h1.2.1.2⟩, fun i => (h2.2.2.1 i).trans (h1.2.2.1 i), fun j i => (h2.2.2.2.1 j i).trans (h1.2.2.2.1 j i), h2.2.2.2.2.trans h1.2.2.2.2⟩
theorem SK.rf {σ : XH} : SK σ σ := ⟨rfl, fun _ => rfl⟩
theorem SK.tr {a b c : XH} (h1 : SK a b) (h2 : SK b c) : SK a c := ⟨h2.1.trans h1.1, fun i => (h2.2 i).trans (h1.2 i)⟩
theorem KM.fr {P : Nat → Nat → Prop} {σ σ' : XH} (h : xFr P σ σ') (hP : ∀ c j, P c j → c = 9 ∧ 2 ≤ j ∧ j ≠ 5) : KM σ σ' :=
  ⟨fun c j i hn => h.1 c j i (fun p => hn (Or.inr ⟨(hP c j p).1, (hP c j p).2.1⟩)), ⟨h.1 _ _ _ (fun p => absurd (hP _ _ p).1 (by decide)), h.1 _ _ _ (fun p => absurd (hP _ _ p).1 (by decide))⟩, fun i => h.1 _ _ _ (fun p => (hP _ _ p).2.2 rfl), fun j i => by rw [h.2], by rw [h.2]⟩
theorem SK.fr {P : Nat → Nat → Prop} {σ σ' : XH} (h : xFr P σ σ') (hP : ∀ c j, P c j → c = 9 ∧ j ≠ 3) : SK σ σ' :=
  ⟨h.1 _ _ _ (fun p => absurd (hP _ _ p).1 (by decide)), fun i => h.1 _ _ _ (fun p => (hP _ _ p).2 rfl)⟩
theorem KM.u {σ : XH} {f : Nat} {x : Int32} (hf : f ≠ 5 ∧ f ≠ 10) : KM σ (xuI σ 7 0 f x) :=
  ⟨fun c j i hn => xu_ne (by omega), ⟨by rw [xu_eq, if_neg (fun h => hf.1 h.symm)], by rw [xu_eq, if_neg (fun h => hf.2 h.symm)]⟩, fun i => xu_ne (by omega), fun _ _ => rfl, rfl⟩
theorem SK.u {σ : XH} {f : Nat} {x : Int32} (hf : f ≠ 3) : SK σ (xuI σ 7 0 f x) :=
  ⟨by rw [xu_eq, if_neg (fun h => hf h.symm)], fun i => xu_ne (by omega)⟩
theorem KM.cp {σ : XH} {a oa b ob k : Nat} (ha : 2 ≤ a) (ha5 : a ≠ 5) : KM σ (cpS σ a oa b ob k) := by
  refine ⟨fun c j i hn => ?_, ⟨rfl, rfl⟩, fun i => ?_, fun _ _ => rfl, rfl⟩
  · unfold cpS
    dsimp only
    rw [if_neg (by omega)]
  · unfold cpS
    dsimp only
    rw [if_neg (by omega)]
theorem SK.cp {σ : XH} {a oa b ob k : Nat} (ha5 : a ≠ 3) : SK σ (cpS σ a oa b ob k) := by
  refine ⟨rfl, fun i => ?_⟩
  unfold cpS
  dsimp only
  rw [if_neg (by omega)]
theorem SK.st {σ σ' : XH} {S : Nat → TS} {m : Nat} (h : SK σ σ') (hS : MSt σ S m) : MSt σ' S m := by
  refine ⟨hS.1, h.1.trans hS.2.1, fun i hi => ?_⟩
  rw [← hS.2.2 i hi]
  exact aTS_cg fun k _ => h.2 _
theorem mTS_u7 {σ : XH} {f : Nat} {x : Int32} : mTS (xuI σ 7 0 f x) = mTS σ := mTS_ne (by omega)
theorem mP_u7 {σ : XH} {f i : Nat} {x : Int32} : mP (xuI σ 7 0 f x) i = mP σ i := aTS_cg fun k _ => xu_ne (by omega)
theorem mTS_cp {σ : XH} {a oa b ob k : Nat} (ha : a ≠ 2) : mTS (cpS σ a oa b ob k) = mTS σ := aTS_cg fun i _ => by
  unfold cpS
  dsimp only
  rw [if_neg (by omega)]
theorem mP_cp {σ : XH} {a oa b ob k i : Nat} (ha : a ≠ 3) : mP (cpS σ a oa b ob k) i = mP σ i := aTS_cg fun q _ => by
  unfold cpS
  dsimp only
  rw [if_neg (by omega)]
theorem mP_cp_eq {σ : XH} {b m : Nat} : mP (cpS σ 3 (102 * m) b 0 102) m = aTS (fun k => σ.1 9 b k) 0 := aTS_cg fun i hi => by
  unfold cpS
  dsimp only
  rw [if_pos (by omega), show 0 + (102 * m + i - 102 * m) = 0 + i by omega]
theorem mP_cp_ne {σ : XH} {b m i : Nat} (hne : i ≠ m) : mP (cpS σ 3 (102 * m) b 0 102) i = mP σ i := aTS_cg fun q hq => by
  unfold cpS
  dsimp only
  rw [if_neg (by omega)]
theorem mTS_cp2 {σ : XH} {m : Nat} : mTS (cpS σ 2 0 3 (102 * m) 102) = mP σ m := aTS_cg fun i hi => by
  unfold cpS
  dsimp only
  rw [if_pos (by omega), show 102 * m + (0 + i - 0) = 102 * m + i by omega]
theorem wX8_ends (X : Nat × (Nat → Int32)) (σ : XH) (v : Int32) (S : Nat → TS) (m : Nat) (hS : MSt σ S m) : wF (fX8_ends X [xR 7 0, xI v] σ) (fun r => ∃ σ', r = (.inl (some (xI v)), σ') ∧ MSt σ' (pushS S (aS σ)) (min (m + 1) 4) ∧ mTS σ' = mTS σ ∧ σ'.1 7 0 6 = 0 ∧ KM σ σ') := by
  obtain ⟨hm, hp, hr⟩ := hS
  by_cases h4 : m = 4
  · subst h4
    refine wF_of (eX8_ends_4 X σ v hp) ⟨_, rfl, ⟨by omega, ?_, ?_⟩, ?_, ?_, ?_⟩
    · rw [xu_eq, if_neg (by decide), xu_eq, if_pos rfl]
      rfl
    · intro i hi
      rw [mP_u7, mP_u7, show min (4 + 1) 4 - 1 - i = 3 - i by omega]
      match i, hi with
      | 0, _ =>
        refine (mP_cp_eq (m := 3) (b := 4)).trans ?_
        refine aTS_cg fun k hk => ?_
        rw [xu_ne (by decide)]
        unfold shP
        dsimp only
        rw [if_neg (by omega)]
      | i + 1, hi =>
        refine (mP_cp_ne (m := 3) (b := 4) (by omega)).trans ?_
        rw [mP_u7]
        refine Eq.trans ?_ (hr i (by omega))
        refine aTS_cg fun k hk => ?_
        unfold shP
        dsimp only
        rw [if_pos (by omega), show 102 * (3 - (i + 1)) + k + 102 = 102 * (4 - 1 - i) + k by omega]
    · rw [mTS_u7, mTS_u7, mTS_cp (by decide), mTS_u7]
      refine aTS_cg fun k hk => ?_
      unfold shP
      dsimp only
      rw [if_neg (by omega)]
    · rw [xu_eq, if_pos rfl]
    · refine KM.tr ?_ (KM.tr (KM.u (f := 3) (by decide)) (KM.tr (KM.cp (by decide) (by decide)) (KM.tr (KM.u (f := 3) (by decide)) (KM.u (f := 6) (by decide)))))
      refine ⟨fun c j i hn => ?_, ⟨rfl, rfl⟩, fun i => ?_, fun _ _ => rfl, rfl⟩
      · unfold shP
        dsimp only
        rw [if_neg (by omega)]
      · unfold shP
        dsimp only
        rw [if_neg (by omega)]
  · refine wF_of (eX8_ends_n X σ v m (by omega) hp) ⟨_, rfl, ⟨by omega, ?_, ?_⟩, ?_, ?_, ?_⟩
    · rw [xu_eq, if_neg (by decide), xu_eq, if_pos rfl, show min (m + 1) 4 = m + 1 by omega]
    · intro i hi
      rw [mP_u7, mP_u7, show min (m + 1) 4 - 1 - i = m - i by omega]
      match i, hi with
      | 0, _ => exact mP_cp_eq
      | i + 1, hi =>
        rw [mP_cp_ne (by omega), show m - (i + 1) = m - 1 - i by omega]
        exact hr i (by omega)
    · rw [mTS_u7, mTS_u7, mTS_cp (by decide)]
    · rw [xu_eq, if_pos rfl]
    · exact KM.tr (KM.cp (by decide) (by decide)) (KM.tr (KM.u (f := 3) (by decide)) (KM.u (f := 6) (by decide)))
theorem wX8_undo (X : Nat × (Nat → Int32)) (σ : XH) (S : Nat → TS) (m : Nat) (hS : MSt σ S (m + 1)) : wF (fX8_undo X [xR 7 0] σ) (fun r => ∃ σ', r = (.inl (some (xI (oN m))), σ') ∧ MSt σ' (fun i => S (i + 1)) m ∧ mTS σ' = S 0 ∧ σ'.1 7 0 6 = 0 ∧ KM σ σ') := by
  obtain ⟨hm, hp, hr⟩ := hS
  refine wF_of (eX8_undo_s X σ m (by omega) hp) ⟨_, rfl, ⟨by omega, ?_, ?_⟩, ?_, ?_, ?_⟩
  · rw [xu_eq, if_neg (by decide)]
    rfl
  · intro i hi
    rw [mP_u7, mP_cp (by decide), mP_u7, show m - 1 - i = m + 1 - 1 - (i + 1) by omega]
    exact hr (i + 1) (by omega)
  · rw [mTS_u7, mTS_cp2, mP_u7]
    exact hr 0 (by omega)
  · rw [xu_eq, if_pos rfl]
  · exact KM.tr (KM.u (f := 3) (by decide)) (KM.tr (KM.cp (by decide) (by decide)) (KM.u (f := 6) (by decide)))
theorem wX8_done (X : Nat × (Nat → Int32)) (σ : XH) (v : Int32) (S : Nat → TS) (m : Nat) (hv : v ≤ 0) (hS : MSt σ S m) : wF (fX8_done X [xR 7 0, xI v] σ) (fun r => ∃ σ', r = (.inl (some (xI (σ.1 7 0 9))), σ') ∧ MSt σ' (pushS S (aS σ)) (min (m + 1) 4) ∧ mTS σ' = mTS σ ∧ σ'.1 7 0 6 = 0 ∧ KM σ σ') := by
  by_cases h4 : m = 4
  · rw [eX8_done_4 X σ v hv (by rw [hS.2.1, h4]; rfl)]
    exact wX8_ends X σ _ S m hS
  · have := hS.1
    rw [eX8_done_n X σ v hv m (by omega) hS.2.1]
    exact wX8_ends X σ _ S m hS
theorem wX8_doneAlone (X : Nat × (Nat → Int32)) (σ : XH) (v : Int32) (S : Nat → TS) (m : Nat) (hv : v ≤ 0) (hS : MSt σ S m) : wF (fX8_doneAlone X [xR 7 0, xI v] σ) (fun r => ∃ σ', r = (.inl (some (xI (σ.1 7 0 9))), σ') ∧ MSt σ' (pushS S (aS σ)) (min (m + 1) 4) ∧ mTS σ' = mTS σ ∧ σ'.1 7 0 6 = 0 ∧ KM σ σ') := by
  by_cases h4 : m = 4
  · rw [eX8_doneAlone_4 X σ v hv (by rw [hS.2.1, h4]; rfl)]
    exact wX8_ends X σ _ S m hS
  · have := hS.1
    rw [eX8_doneAlone_n X σ v hv m (by omega) hS.2.1]
    exact wX8_ends X σ _ S m hS
