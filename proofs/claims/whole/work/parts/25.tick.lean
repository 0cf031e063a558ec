/-! ===== the reference's tick ===== -/
theorem mTS_Lp {σ : XH} {p : Nat} {x : Int32} (h1 : 42 ≤ p) (h2 : p < 102) : mTS (xuI σ 9 2 p x) = ((mTS σ).1, (mTS σ).2.1, (mTS σ).2.2.1, updF (mTS σ).2.2.2 (p - 42) x) := by
  obtain ⟨k, rfl⟩ : ∃ k, p = k + 42 := ⟨p - 42, by omega⟩
  rw [mTS_L (by omega), Nat.add_sub_cancel]
theorem mTS_shS {σ : XH} : mTS (shS σ 97) = ((mTS σ).1, (mTS σ).2.1, (mTS σ).2.2.1, shfL (mTS σ).2.2.2) := by
  refine Prod.ext (funext fun i => ?_) (Prod.ext (funext fun i => ?_) (Prod.ext (funext fun i => ?_) (funext fun i => ?_)))
  all_goals
    simp only [aTS, trF, shS, shfL]
    grind
def P2 (c j : Nat) : Prop := c = 9 ∧ j = 2
theorem mTS_entS {σ : XH} {v d : Int32} {q : Nat} (h : q < 12) : mTS (entS σ v d (42 + 5 * q)) = (updF (mTS σ).1 9 ((mTS σ).1 9 + 1), (mTS σ).2.1, (mTS σ).2.2.1, filL (mTS σ).2.2.2 q v d) := by
  have e0 : (fillS σ v d (42 + 5 * q)).1 9 2 9 = (mTS σ).1 9 := by
    unfold fillS
    rw [xu_eq, if_neg (by omega), xu_eq, if_neg (by omega), xu_eq, if_neg (by omega), xu_eq, if_neg (by omega), xu_eq, if_neg (by omega)]
    rfl
  unfold entS
  rw [mTS_g (by decide), e0]
  unfold fillS
  rw [mTS_Lp (by omega) (by omega), mTS_Lp (by omega) (by omega), mTS_Lp (by omega) (by omega), mTS_Lp (by omega) (by omega), mTS_Lp (by omega) (by omega)]
  have q0 : 42 + 5 * q + 0 - 42 = 5 * q := by omega
  have q1 : 42 + 5 * q + 1 - 42 = 5 * q + 1 := by omega
  have q2 : 42 + 5 * q + 2 - 42 = 5 * q + 2 := by omega
  have q3 : 42 + 5 * q + 3 - 42 = 5 * q + 3 := by omega
  have q4 : 42 + 5 * q + 4 - 42 = 5 * q + 4 := by omega
  rw [q0, q1, q2, q3, q4]
  rfl
theorem xFr_entS {σ : XH} {v d : Int32} {p : Nat} : xFr P2 σ (entS σ v d p) :=
  (((((xFr.u ⟨rfl, rfl⟩).tr (xFr.u ⟨rfl, rfl⟩)).tr (xFr.u ⟨rfl, rfl⟩)).tr (xFr.u ⟨rfl, rfl⟩)).tr (xFr.u ⟨rfl, rfl⟩)).tr (xFr.u ⟨rfl, rfl⟩)
theorem wX8_entry (X : Nat × (Nat → Int32)) (σ : XH) (v d : Int32) (n : Nat) (hn : n ≤ 12) (he : (mTS σ).1 9 = oN n) : wF (fX8_entry X [xR 7 0, xI v, xI d] σ) (fun r => ∃ σ', r = (.inl (some (.inl (oN (42 + 5 * (rowL (mTS σ).2.2.2 n v d).1)))), σ') ∧ mTS σ' = (updF (mTS σ).1 9 (oN (rowL (mTS σ).2.2.2 n v d).2.2), (mTS σ).2.1, (mTS σ).2.2.1, (rowL (mTS σ).2.2.2 n v d).2.1) ∧ xFr P2 σ σ') := by
  have h := eX8_entry X σ v d n hn he
  rw [fndL_cg (L' := (mTS σ).2.2.2) n 0 (fun i hi => by
    show σ.1 9 2 (42 + i) = (if i < 60 then σ.1 9 2 (0 + (42 + i)) else 0)
    rw [if_pos (by omega), Nat.zero_add])] at h
  unfold rowL
  have hu : updF (mTS σ).1 9 (oN n) = (mTS σ).1 := by
    funext i
    unfold updF
    split
    · rename_i e
      rw [e, he]
    · rfl
  cases hf : fndL (mTS σ).2.2.2 v d 0 n with
  | some q =>
    rw [hf] at h
    refine wF_of h ⟨σ, rfl, ?_, xFr.rf⟩
    dsimp only
    rw [hu]
  | none =>
    rw [hf] at h
    dsimp only at h ⊢
    by_cases e : n = 12
    · rw [if_pos e] at h
      refine wF_of h ?_
      rw [if_pos e]
      refine ⟨_, rfl, ?_, ?_⟩
      · have e1 := mTS_entS (σ := xuI (shS σ 97) 9 2 9 11) (v := v) (d := d) (q := 11) (by decide)
        rw [mTS_g (by decide), mTS_shS] at e1
        refine e1.trans ?_
        dsimp only
        refine Prod.ext (funext fun i => ?_) rfl
        simp only [updF]
        split
        · rfl
        · rfl
      · refine xFr.tr ?_ xFr_entS
        refine xFr.tr ?_ (xFr.u ⟨rfl, rfl⟩)
        refine ⟨fun c j i hp => ?_, rfl⟩
        unfold shS
        dsimp only
        rw [if_neg (fun h => hp ⟨h.1, h.2.1⟩)]
    · rw [if_neg e] at h
      refine wF_of h ?_
      rw [if_neg e]
      refine ⟨_, rfl, ?_, xFr_entS⟩
      rw [mTS_entS (by omega), he, oN_1]
theorem aix {p m : Nat} (k : Int32) (c : Nat) (hk : k = oN c) (h : p + c < m) (hm : m ≤ 1000) : 0 ≤ oN p + k ∧ (oN p + k).toNatClampNeg < m := by
  rw [hk, oN_add, oN_nat (by omega)]
  exact ⟨oN_nn (by omega), h⟩
theorem aixn {p : Nat} (k : Int32) (c : Nat) (hk : k = oN c) (h : p + c < 1000) : (oN p + k).toNatClampNeg = p + c := by
  rw [hk, oN_add, oN_nat (by omega)]
/-- what a tick does for one valve behind the moves -/
def bodT (t : TS) (v : Nat) (a c : Int32) : TS :=
  (updF (updF t.1 9 (oN (ledL t.2.2.2 (entN t) (oN v) (t.1 5 / 100) a c (lkV (vT t v))).2)) 8 (t.1 8 + lkV (vT t v)), t.2.1, t.2.2.1, (ledL t.2.2.2 (entN t) (oN v) (t.1 5 / 100) a c (lkV (vT t v))).1)
abbrev xTk (X : Nat × (Nat → Int32)) (Q : XO → Prop) (n pc : Nat) (lv : XL) (st : List XV) (σ : XH) : Prop := wExec X (xEnv (nX8_tick X)) (fun _ _ => some none) 1 [(76, [0, 2])] tX8_tick Q n (xPc tX8_tick pc) lv st σ 0
set_option maxRecDepth 100000 in
set_option maxHeartbeats 4000000 in
theorem sX8_tick_100 (X : Nat × (Nat → Int32)) (Q : XO → Prop) (n v : Nat) (hv : v < 2) (l : Int32) (σ : XH) (h9 : ∃ m, m ≤ 12 ∧ (mTS σ).1 9 = oN m) (hl : l = lkV (vT (mTS σ) v)) (hQ : ∀ σ', mTS σ' = bodT (mTS σ) v (σ.1 9 6 v) (σ.1 9 7 v) → σ'.1 9 6 = σ.1 9 6 → σ'.1 9 7 = σ.1 9 7 → xFr PM σ σ' → Q (.inr (76, [(0, xR 7 0), (2, xI (oN (v + 1)))], σ', 0))) : xTk X Q (n + 60) 100 [(0, xR 7 0), (2, xI (oN v))] [xI l] σ := by
  obtain ⟨m, hm, he⟩ := h9
  have hen : entN (mTS σ) = m := by
    unfold entN
    rw [he]
    exact oN_nat (by omega)
  refine And.intro (by decide) ?_
  refine And.intro (by decide) ?_
  obtain ⟨r, h1, σ1, rfl, h2, h3⟩ := wX8_entry X σ (oN v) (σ.1 9 2 5 / 100) m hm he
  refine wF_of h1 ?_
  have hr := rowL_rng (L := (mTS σ).2.2.2) (v := oN v) (d := σ.1 9 2 5 / 100) hm
  generalize hp : (rowL (mTS σ).2.2.2 m (oN v) (σ.1 9 2 5 / 100)).1 = p at *
  have hp12 : p < 12 := by omega
  have v6 : 0 ≤ oN v ∧ (oN v).toNatClampNeg < 2 := ⟨oN_nn (by omega), by rw [oN_nat (by omega)]; omega⟩
  have hQ2 : ∀ σ', mTS σ' = bodT (mTS σ) v (σ.1 9 6 v) (σ.1 9 7 v) → σ'.1 9 6 = σ.1 9 6 → σ'.1 9 7 = σ.1 9 7 → xFr PM σ σ' → Q (.inr (76, [(0, xR 7 0), (2, xI (oN v + 1))], σ', 0)) := by
    rw [oN_1]
    exact hQ
  refine And.intro (by decide) ?_
  refine And.intro (by decide) ?_
  refine And.intro (aix (m := 102) _ 2 rfl (by omega) (by decide)) ?_
  refine And.intro v6 ?_
  refine And.intro (aix (m := 102) _ 2 rfl (by omega) (by decide)) ?_
  refine And.intro (aix (m := 102) _ 3 rfl (by omega) (by decide)) ?_
  refine And.intro v6 ?_
  refine And.intro (aix (m := 102) _ 3 rfl (by omega) (by decide)) ?_
  refine And.intro (aix (m := 102) _ 4 rfl (by omega) (by decide)) ?_
  refine And.intro (aix (m := 102) _ 4 rfl (by omega) (by decide)) ?_
  have i2 := aixn (p := 42 + 5 * p) (Int32.ofInt 2) 2 rfl (by omega)
  have i3 := aixn (p := 42 + 5 * p) (Int32.ofInt 3) 3 rfl (by omega)
  have i4 := aixn (p := 42 + 5 * p) (Int32.ofInt 4) 4 rfl (by omega)
  have i8 : (Int32.ofInt 8).toNatClampNeg = 8 := rfl
  have iv := oN_nat (n := v) (by omega)
  have f6 : ∀ i, σ1.1 9 6 i = σ.1 9 6 i := fun i => h3.1 _ _ _ (by unfold P2; omega)
  have f7 : ∀ i, σ1.1 9 7 i = σ.1 9 7 i := fun i => h3.1 _ _ _ (by unfold P2; omega)
  have g8 : σ1.1 9 2 8 = (mTS σ).1 8 := (show σ1.1 9 2 8 = (mTS σ1).1 8 from rfl).trans (by rw [h2]; rfl)
  have gL : ∀ i, i < 60 → σ1.1 9 2 (42 + i) = (rowL (mTS σ).2.2.2 m (oN v) (σ.1 9 2 5 / 100)).2.1 i := fun i hi => (show σ1.1 9 2 (42 + i) = (mTS σ1).2.2.2 i from (by
    show _ = (if i < 60 then σ1.1 9 2 (0 + (42 + i)) else 0)
    rw [if_pos hi, Nat.zero_add])).trans (by rw [h2])
  have r6 : ∀ (τ : XH) (i k : Nat) (x : Int32), (xuI τ 9 2 i x).1 9 6 k = τ.1 9 6 k := fun _ _ _ _ => xu_ne (by decide)
  have r7 : ∀ (τ : XH) (i k : Nat) (x : Int32), (xuI τ 9 2 i x).1 9 7 k = τ.1 9 7 k := fun _ _ _ _ => xu_ne (by decide)
  have n1 : ¬ 42 + 5 * p + 2 = 8 := by omega
  have n2 : ¬ 42 + 5 * p + 3 = 8 := by omega
  have n3 : ¬ 42 + 5 * p + 4 = 8 := by omega
  have n4 : ¬ 42 + 5 * p + 3 = 42 + 5 * p + 2 := by omega
  have n5 : ¬ 42 + 5 * p + 4 = 42 + 5 * p + 2 := by omega
  have n6 : ¬ 42 + 5 * p + 4 = 42 + 5 * p + 3 := by omega
  refine hQ2 _ ?_ ?_ ?_ ?_
  · rw [i2, i3, i4, i8, iv]
    simp only [r6, r7, xu_eq, n1, n2, n3, n4, n5, n6, if_false, f6, f7, g8]
    rw [mTS_Lp (by omega) (by omega), mTS_Lp (by omega) (by omega), mTS_Lp (by omega) (by omega), mTS_g (by decide), h2, Nat.add_assoc 42, Nat.add_assoc 42, Nat.add_assoc 42, gL _ (by omega), gL _ (by omega), gL _ (by omega), Nat.add_sub_cancel_left, Nat.add_sub_cancel_left, Nat.add_sub_cancel_left, hl]
    unfold bodT ledL
    rw [hen]
    show _ = (_, _, _, addL _ (rowL (mTS σ).2.2.2 m (oN v) (σ.1 9 2 5 / 100)).1 _ _ _)
    rw [hp]
    rfl
  · funext i
    rw [i2, i3, i4, i8, iv]
    simp only [r6, f6]
  · funext i
    rw [i2, i3, i4, i8, iv]
    simp only [r7, f7]
  · exact ((((h3.mono (fun c j h => ⟨h.1, Or.inl h.2⟩)).tr (xFr.u ⟨rfl, Or.inl rfl⟩)).tr (xFr.u ⟨rfl, Or.inl rfl⟩)).tr (xFr.u ⟨rfl, Or.inl rfl⟩)).tr (xFr.u ⟨rfl, Or.inl rfl⟩)
def volT (t : TS) : TS := (updF (updF t.1 6 (t.1 6 + bothT t)) 7 (t.1 7 + abI (bothT t - idealT t (t.1 0))), t.2)
set_option maxRecDepth 100000 in
set_option maxHeartbeats 4000000 in
theorem sX8_tick_14 (X : Nat × (Nat → Int32)) (Q : XO → Prop) (n : Nat) (σ : XH) (h : okT (mTS σ)) (hQ : ∀ σ', mTS σ' = volT (movT (mTS σ)) → σ'.1 9 6 0 = abI (byT (mTS σ) 0) → σ'.1 9 6 1 = abI (byT (mTS σ) 1) → σ'.1 9 7 0 = turnV (mTS σ).2.1 (byT (mTS σ) 0) → σ'.1 9 7 1 = turnV (mTS σ).2.2.1 (byT (mTS σ) 1) → xFr PM σ σ' → Q (.inr (76, [(0, xR 7 0), (2, xI (oN 0))], σ', 0))) : xTk X Q (n + 60) 14 [(0, xR 7 0)] [] σ := by
  have hD := okT_D h
  have d0 := eX8_demand_0 X σ (σ.1 9 2 0) hD.1
  obtain ⟨σ1, m1, e1, a1, b1, a2, b2, f1⟩ := eX8_moves_0 X σ _ _ d0 (eX8_move_0 X σ _)
  refine wF_of m1 ?_
  have q1 : vT (mTS σ1) 1 = vT (mTS σ) 1 := by rw [e1]; rfl
  have q0 : σ1.1 9 2 0 = σ.1 9 2 0 := congrArg (fun t : TS => t.1 0) e1
  have d1 := eX8_demand_1 X σ1 (σ1.1 9 2 0) (by rw [q1]; exact hD.2)
  obtain ⟨σ2, m2, e2, a3, b3, a4, b4, f2⟩ := eX8_moves_1 X σ1 _ _ d1 (eX8_move_1 X σ1 _)
  refine wF_of m2 ?_
  rw [q1, q0] at e2 a3 b3
  rw [e1] at e2
  have e3 : mTS σ2 = movT (mTS σ) := e2
  have hD2 : okD (mTS σ2) := by
    rw [e3]
    exact okT_D (okT_mov h)
  have r6 : ∀ (τ : XH) (i k : Nat) (x : Int32), (xuI τ 9 2 i x).1 9 6 k = τ.1 9 6 k := fun _ _ _ _ => xu_ne (by decide)
  have r7 : ∀ (τ : XH) (i k : Nat) (x : Int32), (xuI τ 9 2 i x).1 9 7 k = τ.1 9 7 k := fun _ _ _ _ => xu_ne (by decide)
  have i6 : (Int32.ofInt 6).toNatClampNeg = 6 := rfl
  have i7 : (Int32.ofInt 7).toNatClampNeg = 7 := rfl
  have g0 : σ2.1 9 2 (Int32.ofInt 0).toNatClampNeg = (mTS σ2).1 0 := rfl
  refine wF_of (eX8_both X σ2) ?_
  refine And.intro (by decide) ?_
  refine wF_of (eX8_ideal X σ2 _ hD2) ?_
  refine And.intro (by decide) ?_
  refine wF_of (eX8_both X σ2) ?_
  refine And.intro (by decide) ?_
  refine And.intro (by decide) ?_
  have hf : ∀ (x y : Int32), xFr PM σ (xuI (xuI σ2 9 2 6 x) 9 2 7 y) := fun x y => ((f1.tr f2).tr (xFr.u ⟨rfl, Or.inl rfl⟩)).tr (xFr.u ⟨rfl, Or.inl rfl⟩)
  have key : ∀ (x y : Int32), x = (mTS σ2).1 6 + bothT (mTS σ2) → y = (mTS σ2).1 7 + abI (bothT (mTS σ2) - idealT (mTS σ2) ((mTS σ2).1 0)) → Q (.inr (76, [(0, xR 7 0), (2, xI (oN 0))], xuI (xuI σ2 9 2 6 x) 9 2 7 y, 0)) := by
    intro x y hx hy
    refine hQ _ ?_ ?_ ?_ ?_ ?_ (hf x y)
    · rw [mTS_g (by decide), mTS_g (by decide), hx, hy, e3]
      rfl
    · rw [r6, r6, a4, a1]; rfl
    · rw [r6, r6, a3]; rfl
    · rw [r7, r7, b4, b1]; rfl
    · rw [r7, r7, b3]; rfl
  refine And.intro (fun hge => ?_) (fun hlt => ?_)
  · refine And.intro (by decide) ?_
    refine key _ _ rfl ?_
    have hge : 0 ≤ bothT (mTS σ2) - idealT (mTS σ2) ((mTS σ2).1 0) := hge
    unfold abI
    rw [if_neg (Int32.not_lt.mpr hge)]
    rfl
  · refine And.intro (by decide) ?_
    refine key _ _ rfl ?_
    have hlt : ¬ 0 ≤ bothT (mTS σ2) - idealT (mTS σ2) ((mTS σ2).1 0) := hlt
    unfold abI
    rw [if_pos (Int32.not_le.mp hlt)]
    rfl
set_option maxRecDepth 100000 in
set_option maxHeartbeats 4000000 in
theorem sX8_tick_76 (X : Nat × (Nat → Int32)) (Q : XO → Prop) (v : Nat) (hv : v < 2) (σ : XH) (h9 : ∃ m, m ≤ 12 ∧ (mTS σ).1 9 = oN m) (hQ : ∀ σ', mTS σ' = bodT (mTS σ) v (σ.1 9 6 v) (σ.1 9 7 v) → σ'.1 9 6 = σ.1 9 6 → σ'.1 9 7 = σ.1 9 7 → xFr PM σ σ' → Q (.inr (76, [(0, xR 7 0), (2, xI (oN (v + 1)))], σ', 0))) : xTk X Q 1000 76 [(0, xR 7 0), (2, xI (oN v))] [] σ := by
  have hv2 : v = 0 ∨ v = 1 := by omega
  rcases hv2 with rfl | rfl
  · refine And.intro (fun h => absurd h (by decide)) (fun _ => ?_)
    refine wF_of (eX8_of X σ 0 8 (by decide)) ?_
    refine And.intro (fun h0 => ?_) (fun h0 => ?_)
    · refine wF_of (eX8_flow_0 X σ) ?_
      exact sX8_tick_100 X Q _ 0 hv _ σ h9 (if_pos h0).symm hQ
    · exact sX8_tick_100 X Q _ 0 hv _ σ h9 (if_neg h0).symm hQ
  · refine And.intro (fun h => absurd h (by decide)) (fun _ => ?_)
    refine wF_of (eX8_of X σ 1 8 (by decide)) ?_
    refine And.intro (fun h0 => ?_) (fun h0 => ?_)
    · refine wF_of (eX8_flow_1 X σ) ?_
      exact sX8_tick_100 X Q _ 1 hv _ σ h9 (if_pos h0).symm hQ
    · exact sX8_tick_100 X Q _ 1 hv _ σ h9 (if_neg h0).symm hQ
theorem abI_mv {a b : Int32} (ha : -1000 ≤ a ∧ a ≤ 1000) (hb : -1000 ≤ b ∧ b ≤ 1000) : abI a + abI b ≤ 0 ↔ a = 0 ∧ b = 0 := by
  unfold abI
  grind
theorem updF_7 {g : Nat → Int32} {a b c d e f k : Int32} : updF (updF (updF (updF (updF (updF (updF g 6 a) 7 b) 9 c) 8 d) 9 e) 8 f) 5 k = updF (updF (updF (updF (updF g 6 a) 7 b) 8 f) 9 e) 5 k := by
  funext i
  unfold updF
  grind
/-- bodT, with the number of entries aside -/
def bodN (t : TS) (n v : Nat) (a c : Int32) : TS :=
  (updF (updF t.1 9 (oN (ledL t.2.2.2 n (oN v) (t.1 5 / 100) a c (lkV (vT t v))).2)) 8 (t.1 8 + lkV (vT t v)), t.2.1, t.2.2.1, (ledL t.2.2.2 n (oN v) (t.1 5 / 100) a c (lkV (vT t v))).1)
theorem tick_eq {u : TS} (h : okT u) (a b c d : Int32) : (updF (bodT (bodT (volT u) 0 (abI a) c) 1 (abI b) d).1 5 ((bodT (bodT (volT u) 0 (abI a) c) 1 (abI b) d).1 5 + 1), (bodT (bodT (volT u) 0 (abI a) c) 1 (abI b) d).2) = endT u a b c d := by
  have hn := (okT_n h).2
  have g1 := ledL_rng (L := u.2.2.2) (v := 0) (d := u.1 5 / 100) (a := abI a) (b := c) (c := lkV u.2.1) hn
  have e : entN (bodT (volT u) 0 (abI a) c) = (ledL u.2.2.2 (entN u) 0 (u.1 5 / 100) (abI a) c (lkV u.2.1)).2 := oN_nat (Nat.lt_of_le_of_lt g1 (by decide))
  have e2 : bodT (bodT (volT u) 0 (abI a) c) 1 (abI b) d = bodN (bodT (volT u) 0 (abI a) c) (entN (bodT (volT u) 0 (abI a) c)) 1 (abI b) d := rfl
  rw [e] at e2
  rw [e2]
  refine Prod.ext ?_ rfl
  exact updF_7 (g := u.1) (a := u.1 6 + bothT u) (b := u.1 7 + abI (bothT u - idealT u (u.1 0))) (c := oN (ledL u.2.2.2 (entN u) 0 (u.1 5 / 100) (abI a) c (lkV u.2.1)).2) (d := u.1 8 + lkV u.2.1) (e := oN (ledL (ledL u.2.2.2 (entN u) 0 (u.1 5 / 100) (abI a) c (lkV u.2.1)).1 (ledL u.2.2.2 (entN u) 0 (u.1 5 / 100) (abI a) c (lkV u.2.1)).2 1 (u.1 5 / 100) (abI b) d (lkV u.2.2.1)).2) (f := u.1 8 + lkV u.2.1 + lkV u.2.2.1) (k := u.1 5 + 1)
theorem by_rng {t : TS} (h : okT t) : (-1000 ≤ byT t 0 ∧ byT t 0 ≤ 1000) ∧ -1000 ≤ byT t 1 ∧ byT t 1 ≤ 1000 := ⟨(move_rng h.1 (dem_rng h.1 _)).2, (move_rng h.2.1 (dem_rng h.2.1 _)).2⟩
set_option maxRecDepth 100000 in
set_option maxHeartbeats 4000000 in
theorem wX8_tick (X : Nat × (Nat → Int32)) (σ : XH) (h : okT (mTS σ)) : wF (fX8_tick X [xR 7 0] σ) (fun r => ∃ σ', r = (.inl (some (xI (if mvT (mTS σ) then 1 else 0))), σ') ∧ mTS σ' = tickT (mTS σ) ∧ xFr PM σ σ') := by
  rw [uX8_tick]
  refine wI_s (N := 99999) ?_
  have hc := okT_ctl h
  have main : ∀ (n : Nat) (σ1 : XH), mTS σ1 = ctlT (mTS σ) → xFr PM σ σ1 → xTk X (wQ X (xEnv (nX8_tick X)) (fun _ _ => some none) 1 [(76, [0, 2])] tX8_tick 99999 (fun r => ∃ σ', r = (.inl (some (xI (if mvT (mTS σ) then 1 else 0))), σ') ∧ mTS σ' = tickT (mTS σ) ∧ xFr PM σ σ')) (n + 60) 14 [(0, xR 7 0)] [] σ1 := by
    intro n σ1 e f
    refine sX8_tick_14 X _ n σ1 (by rw [e]; exact hc) ?_
    intro σ2 e2 a0 a1 c0 c1 f2
    rw [e] at e2 a0 a1 c0 c1
    have n2 := okT_n (okT_mov hc)
    refine wI_s (N := 99998) ?_
    refine sX8_tick_76 X _ 0 (by decide) σ2 ⟨_, n2.2, by rw [e2]; exact n2.1⟩ ?_
    intro σ3 e3 b6 b7 f3
    rw [e2, a0, c0] at e3
    refine wI_s (N := 99997) ?_
    have g1 := ledL_rng (L := (ctlT (mTS σ)).2.2.2) (v := oN 0) (d := (ctlT (mTS σ)).1 5 / 100) (a := abI (byT (ctlT (mTS σ)) 0)) (b := turnV (ctlT (mTS σ)).2.1 (byT (ctlT (mTS σ)) 0)) (c := lkV (movT (ctlT (mTS σ))).2.1) n2.2
    refine sX8_tick_76 X _ 1 (by decide) σ3 ⟨_, g1, by rw [e3]; rfl⟩ ?_
    intro σ4 e4 d6 d7 f4
    rw [e3, b6, b7, a1, c1] at e4
    refine wI_s (N := 99996) ?_
    refine And.intro (fun _ => ?_) (fun h => absurd (by decide) h)
    refine And.intro (by decide) ?_
    refine And.intro (by decide) ?_
    refine And.intro (by decide) ?_
    refine And.intro (by decide) ?_
    have i5 : (Int32.ofInt 5).toNatClampNeg = 5 := rfl
    have r6 : ∀ (τ : XH) (i k : Nat) (x : Int32), (xuI τ 9 2 i x).1 9 6 k = τ.1 9 6 k := fun _ _ _ _ => xu_ne (by decide)
    have z0 : σ4.1 9 6 0 = abI (byT (ctlT (mTS σ)) 0) := by rw [d6, b6, a0]
    have z1 : σ4.1 9 6 1 = abI (byT (ctlT (mTS σ)) 1) := by rw [d6, b6, a1]
    have fin : ∀ x, x = σ4.1 9 2 5 + 1 → mTS (xuI σ4 9 2 5 x) = tickT (mTS σ) ∧ xFr PM σ (xuI σ4 9 2 5 x) := by
      intro x hx
      refine ⟨?_, (((f.tr f2).tr f3).tr f4).tr (xFr.u ⟨rfl, Or.inl rfl⟩)⟩
      rw [mTS_g (by decide), hx]
      have e5 := tick_eq (okT_mov hc) (byT (ctlT (mTS σ)) 0) (byT (ctlT (mTS σ)) 1) (turnV (ctlT (mTS σ)).2.1 (byT (ctlT (mTS σ)) 0)) (turnV (ctlT (mTS σ)).2.2.1 (byT (ctlT (mTS σ)) 1))
      rw [← e4] at e5
      exact e5
    obtain ⟨r0, r1⟩ := by_rng hc
    have hb := abI_mv r0 r1
    refine And.intro (fun hz => ?_) (fun hz => ?_)
    · refine And.intro (Or.inl (by decide)) ?_
      have hz2 : abI (byT (ctlT (mTS σ)) 0) + abI (byT (ctlT (mTS σ)) 1) ≤ 0 := by
        rw [← z0, ← z1]
        exact hz
      refine ⟨_, ?_, fin _ rfl⟩
      rw [if_neg (fun q => q (hb.mp hz2))]
      rfl
    · refine And.intro (Or.inr (by decide)) ?_
      have hz2 : ¬ abI (byT (ctlT (mTS σ)) 0) + abI (byT (ctlT (mTS σ)) 1) ≤ 0 := by
        rw [← z0, ← z1]
        exact hz
      refine ⟨_, ?_, fin _ rfl⟩
      rw [if_pos (fun q => hz2 (hb.mpr q))]
      rfl
  refine And.intro (by decide) ?_
  refine And.intro (fun h1 => ?_) (fun h1 => ?_)
  · refine wF_of (eX8_controls X σ) ?_
    refine main _ _ ?_ (xFr.u ⟨rfl, Or.inl rfl⟩)
    rw [mTS_g (by decide)]
    exact (if_pos h1).symm
  · refine main _ _ ?_ xFr.rf
    exact (if_neg h1).symm
