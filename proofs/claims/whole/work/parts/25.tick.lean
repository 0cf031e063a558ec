/-! ===== the reference's tick ===== -/
theorem mTS_Lp {σ : XH} {p : Nat} {x : Int32} (h1 : 42 ≤ p) (h2 : p < 102) : mTS (xuI σ 9 2 p x) = ((mTS σ).1, (mTS σ).2.1, (mTS σ).2.2.1, updF (mTS σ).2.2.2 (p - 42) x) := by
  obtain ⟨k, rfl⟩ : ∃ k, p = k + 42 := ⟨p - 42, by omega⟩
  rw [mTS_L (by omega), Nat.add_sub_cancel]
theorem mTS_shS {σ : XH} : mTS (shS σ 97) = ((mTS σ).1, (mTS σ).2.1, (mTS σ).2.2.1, shfL (mTS σ).2.2.2) := by
  refine Prod.ext (funext fun i => ?_) (Prod.ext (funext fun i => ?_) (Prod.ext (funext fun i => ?_) (funext fun i => ?_)))
  all_goals
    simp only [aTS, trF, shS, shfL]
    grind
def P2 (c j : Nat) : Prop := c = 9 ∧ j = 2
theorem mTS_entS {σ : XH} {v d : Int32} {q : Nat} (h : q < 12) : mTS (entS σ v d (42 + 5 * q)) = (updF (mTS σ).1 9 ((mTS σ).1 9 + 1), (mTS σ).2.1, (mTS σ).2.2.1, filL (mTS σ).2.2.2 q v d) := by
  have e0 : (fillS σ v d (42 + 5 * q)).1 9 2 9 = (mTS σ).1 9 := by
    unfold fillS
    rw [xu_eq, if_neg (by omega), xu_eq, if_neg (by omega), xu_eq, if_neg (by omega), xu_eq, if_neg (by omega), xu_eq, if_neg (by omega)]
    rfl
  unfold entS
  rw [mTS_g (by decide), e0]
  unfold fillS
  rw [mTS_Lp (by omega) (by omega), mTS_Lp (by omega) (by omega), mTS_Lp (by omega) (by omega), mTS_Lp (by omega) (by omega), mTS_Lp (by omega) (by omega)]
  have q0 : 42 + 5 * q + 0 - 42 = 5 * q := by omega
  have q1 : 42 + 5 * q + 1 - 42 = 5 * q + 1 := by omega
  have q2 : 42 + 5 * q + 2 - 42 = 5 * q + 2 := by omega
  have q3 : 42 + 5 * q + 3 - 42 = 5 * q + 3 := by omega
  have q4 : 42 + 5 * q + 4 - 42 = 5 * q + 4 := by omega
  rw [q0, q1, q2, q3, q4]
  rfl
theorem xFr_entS {σ : XH} {v d : Int32} {p : Nat} : xFr P2 σ (entS σ v d p) :=
  (((((xFr.u ⟨rfl, rfl⟩).tr (xFr.u ⟨rfl, rfl⟩)).tr (xFr.u ⟨rfl, rfl⟩)).tr (xFr.u ⟨rfl, rfl⟩)).tr (xFr.u ⟨rfl, rfl⟩)).tr (xFr.u ⟨rfl, rfl⟩)
theorem wX8_entry (X : Nat × (Nat → Int32)) (σ : XH) (v d : Int32) (n : Nat) (hn : n ≤ 12) (he : (mTS σ).1 9 = oN n) : wF (fX8_entry X [xR 7 0, xI v, xI d] σ) (fun r => ∃ σ', r = (.inl (some (.inl (oN (42 + 5 * (rowL (mTS σ).2.2.2 n v d).1)))), σ') ∧ mTS σ' = (updF (mTS σ).1 9 (oN (rowL (mTS σ).2.2.2 n v d).2.2), (mTS σ).2.1, (mTS σ).2.2.1, (rowL (mTS σ).2.2.2 n v d).2.1) ∧ xFr P2 σ σ') := by
  have h := eX8_entry X σ v d n hn he
  rw [fndL_cg (L' := (mTS σ).2.2.2) n 0 (fun i hi => by
    show _ = trF 60 _ i
    unfold trF
    rw [if_pos (by omega)]
    simp only [Nat.zero_add])] at h
  unfold rowL
  have hu : updF (mTS σ).1 9 (oN n) = (mTS σ).1 := by
    funext i
    unfold updF
    split
    · rename_i e
      rw [e, he]
    · rfl
  cases hf : fndL (mTS σ).2.2.2 v d 0 n with
  | some q =>
    rw [hf] at h
    refine wF_of h ⟨σ, rfl, ?_, xFr.rf⟩
    dsimp only
    rw [hu]
  | none =>
    rw [hf] at h
    dsimp only at h ⊢
    by_cases e : n = 12
    · rw [if_pos e] at h
      refine wF_of h ?_
      rw [if_pos e]
      refine ⟨_, rfl, ?_, ?_⟩
      · have e1 := mTS_entS (σ := xuI (shS σ 97) 9 2 9 11) (v := v) (d := d) (q := 11) (by decide)
        rw [mTS_g (by decide), mTS_shS] at e1
        refine e1.trans ?_
        dsimp only
        refine Prod.ext (funext fun i => ?_) rfl
        simp only [updF]
        split
        · rfl
        · rfl
      · refine xFr.tr ?_ xFr_entS
        refine xFr.tr ?_ (xFr.u ⟨rfl, rfl⟩)
        refine ⟨fun c j i hp => ?_, rfl⟩
        unfold shS
        dsimp only
        rw [if_neg (fun h => hp ⟨h.1, h.2.1⟩)]
    · rw [if_neg e] at h
      refine wF_of h ?_
      rw [if_neg e]
      refine ⟨_, rfl, ?_, xFr_entS⟩
      rw [mTS_entS (by omega), he, oN_1]
theorem aix {p m : Nat} (k : Int32) (c : Nat) (hk : k = oN c) (h : p + c < m) (hm : m ≤ 1000) : 0 ≤ oN p + k ∧ (oN p + k).toNatClampNeg < m := by
  rw [hk, oN_add, oN_nat (by omega)]
  exact ⟨oN_nn (by omega), h⟩
theorem aixn {p : Nat} (k : Int32) (c : Nat) (hk : k = oN c) (h : p + c < 1000) : (oN p + k).toNatClampNeg = p + c := by
  rw [hk, oN_add, oN_nat (by omega)]
/-- what a tick does for one valve behind the moves -/
def bodT (t : TS) (v : Nat) (a c : Int32) : TS :=
  (updF (updF t.1 9 (oN (ledL t.2.2.2 (entN t) (oN v) (t.1 5 / 100) a c (lkV (vT t v))).2)) 8 (t.1 8 + lkV (vT t v)), t.2.1, t.2.2.1, (ledL t.2.2.2 (entN t) (oN v) (t.1 5 / 100) a c (lkV (vT t v))).1)
abbrev xTk (X : Nat × (Nat → Int32)) (Q : XO → Prop) (n pc : Nat) (lv : XL) (st : List XV) (σ : XH) : Prop := wExec X (xEnv (nX8_tick X)) (fun _ _ => some none) 1 [(76, [0, 2])] tX8_tick Q n (xPc tX8_tick pc) lv st σ 0
set_option maxRecDepth 100000 in
set_option maxHeartbeats 4000000 in
theorem sX8_tick_100 (X : Nat × (Nat → Int32)) (Q : XO → Prop) (n v : Nat) (hv : v < 2) (l : Int32) (σ : XH) (h9 : ∃ m, m ≤ 12 ∧ (mTS σ).1 9 = oN m) (hl : l = lkV (vT (mTS σ) v)) (hQ : ∀ σ', mTS σ' = bodT (mTS σ) v (σ.1 9 6 v) (σ.1 9 7 v) → σ'.1 9 6 = σ.1 9 6 → σ'.1 9 7 = σ.1 9 7 → xFr PM σ σ' → Q (.inr (76, [(0, xR 7 0), (2, xI (oN (v + 1)))], σ', 0))) : xTk X Q (n + 60) 100 [(2, xI (oN v)), (0, xR 7 0)] [xI l] σ := by
  obtain ⟨m, hm, he⟩ := h9
  have hen : entN (mTS σ) = m := by
    unfold entN
    rw [he]
    exact oN_nat (by omega)
  refine And.intro (by decide) ?_
  refine And.intro (by decide) ?_
  obtain ⟨r, h1, σ1, rfl, h2, h3⟩ := wX8_entry X σ (oN v) (σ.1 9 2 5 / 100) m hm he
  refine wF_of h1 ?_
  have hr := rowL_rng (L := (mTS σ).2.2.2) (v := oN v) (d := σ.1 9 2 5 / 100) hm
  generalize hp : (rowL (mTS σ).2.2.2 m (oN v) (σ.1 9 2 5 / 100)).1 = p at *
  have hp12 : p < 12 := by omega
  have v6 : 0 ≤ oN v ∧ (oN v).toNatClampNeg < 2 := ⟨oN_nn (by omega), by rw [oN_nat (by omega)]; omega⟩
  have hQ2 : ∀ σ', mTS σ' = bodT (mTS σ) v (σ.1 9 6 v) (σ.1 9 7 v) → σ'.1 9 6 = σ.1 9 6 → σ'.1 9 7 = σ.1 9 7 → xFr PM σ σ' → Q (.inr (76, [(0, xR 7 0), (2, xI (oN v + 1))], σ', 0)) := by
    rw [oN_1]
    exact hQ
  refine And.intro (by decide) ?_
  refine And.intro (by decide) ?_
  refine And.intro (aix (m := 102) _ 2 rfl (by omega) (by decide)) ?_
  refine And.intro v6 ?_
  refine And.intro (aix (m := 102) _ 2 rfl (by omega) (by decide)) ?_
  refine And.intro (aix (m := 102) _ 3 rfl (by omega) (by decide)) ?_
  refine And.intro v6 ?_
  refine And.intro (aix (m := 102) _ 3 rfl (by omega) (by decide)) ?_
  refine And.intro (aix (m := 102) _ 4 rfl (by omega) (by decide)) ?_
  refine And.intro (aix (m := 102) _ 4 rfl (by omega) (by decide)) ?_
  refine hQ2 _ ?_ ?_ ?_ ?_
  all_goals sorry
