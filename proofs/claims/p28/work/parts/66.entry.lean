/-! ===== the law's entry of the ledger ===== -/
/-- the last row found, as the law looks for it -/
def lastL (L : Nat → Int32) (v d : Int32) : Nat → Int32
  | 0 => -1
  | k + 1 => if L (5 * k) = v ∧ L (5 * k + 1) = d then oN (5 * k) else lastL L v d k
theorem lastL_eq {L : Nat → Int32} {v d : Int32} {n : Nat} (hA : keyA L n) : lastL L v d n = match fndL L v d 0 n with | some r => oN (5 * r) | none => -1 := by
  cases h : fndL L v d 0 n with
  | none =>
    have hn := fndL_none n 0 h
    have : ∀ m, m ≤ n → lastL L v d m = -1 := by
      intro m
      induction m with
      | zero => intro _; rfl
      | succ m ih =>
        intro hm
        unfold lastL
        rw [if_neg (hn m (by omega) (by omega))]
        exact ih (by omega)
    exact this n (Nat.le_refl _)
  | some r =>
    obtain ⟨h1, h2, h3, h4⟩ := fndL_some n 0 h
    have : ∀ m, m ≤ n → lastL L v d m = if r < m then oN (5 * r) else -1 := by
      intro m
      induction m with
      | zero => intro _; rfl
      | succ m ih =>
        intro hm
        unfold lastL
        by_cases e : m = r
        · subst e
          rw [if_pos ⟨h3, h4⟩, if_pos (by omega)]
        · have hne : ¬ (L (5 * m) = v ∧ L (5 * m + 1) = d) := fun q => by
            rcases Nat.lt_or_gt_of_ne e with g | g
            · exact hA m r g (by omega) ⟨q.1.trans h3.symm, q.2.trans h4.symm⟩
            · exact hA r m g (by omega) ⟨h3.trans q.1.symm, h4.trans q.2.symm⟩
          rw [if_neg hne, ih (by omega)]
          by_cases g : r < m
          · rw [if_pos g, if_pos (by omega)]
          · rw [if_neg g, if_neg (by omega)]
    rw [this n (Nat.le_refl _), if_pos (by omega)]
def PE (c j : Nat) : Prop := c = 9 ∧ (j = 2 ∨ j = 4)
abbrev eStp : List (Nat × List Nat) := [(6, [0, 1, 2, 3, 4, 5]), (82, [0, 1, 2, 3, 5])]
abbrev xLe (X : Nat × (Nat → Int32)) (N pc : Nat) (lv : XL) (σ : XH) : Option (XR × XH) := xIter X (xEnv (nL_entry X)) (fun _ _ => some none) 0 eStp tL_entry N (pc, lv, σ, 0)
abbrev xLw (X : Nat × (Nat → Int32)) (Q : XO → Prop) (n pc : Nat) (lv : XL) (st : List XV) (σ : XH) : Prop := wExec X (xEnv (nL_entry X)) (fun _ _ => some none) 0 eStp tL_entry Q n (xPc tL_entry pc) lv st σ 0
theorem i5m {p : Nat} : Int32.ofInt 5 * oN p = oN (5 * p) := oN_mul 5 p
theorem tL_at {σ : XH} {i : Nat} (h : i < 60) : σ.1 9 4 i = (lTS σ).2.2.2 i := by
  show _ = trF 60 _ i
  unfold trF
  rw [if_pos h]
theorem gL_at {σ : XH} {i : Nat} (h : i < 10) : σ.1 9 2 i = (lTS σ).1 i := by
  show _ = trF 10 _ i
  unfold trF
  rw [if_pos h]
set_option maxRecDepth 100000 in
set_option maxHeartbeats 400000 in
theorem sL_entry_113 (X : Nat × (Nat → Int32)) (Q : XO → Prop) (n q : Nat) (x v d k : Int32) (σ : XH) (hq : q < 12) (hx : x = oN (5 * q)) (he : (lTS σ).1 9 = oN q) (hQ : ∀ σ', lTS σ' = (updF (lTS σ).1 9 (oN (q + 1)), (lTS σ).2.1, (lTS σ).2.2.1, filL (lTS σ).2.2.2 q v d) → xFr PE σ σ' → Q (.inl (.inl (some (xI (oN (5 * q)))), σ'))) : xLw X Q (n + 60) 113 [(4, xI x), (0, xR 9 2), (1, xR 9 4), (2, xI v), (3, xI d), (5, xI k)] [] σ := by
  subst hx
  have z : ∀ c, c < 5 → 0 ≤ oN (5 * q) + oN c ∧ (oN (5 * q) + oN c).toNatClampNeg < 60 := fun c hc => aix (m := 60) _ c rfl (by omega) (by decide)
  have z0 : 0 ≤ oN (5 * q) ∧ (oN (5 * q)).toNatClampNeg < 60 := ⟨oN_nn (by omega), by rw [oN_nat (by omega)]; omega⟩
  refine And.intro (bT z0) ?_
  refine And.intro (bT (z 1 (by decide))) ?_
  refine And.intro (bT (z 2 (by decide))) ?_
  refine And.intro (bT (z 3 (by decide))) ?_
  refine And.intro (bT (z 4 (by decide))) ?_
  refine And.intro (bG (by decide)) ?_
  refine And.intro (bG (by decide)) ?_
  have y0 : (oN (5 * q)).toNatClampNeg = 5 * q := oN_nat (by omega)
  have y1 : (oN (5 * q) + Int32.ofInt 1).toNatClampNeg = 5 * q + 1 := aixn _ 1 rfl (by omega)
  have y2 : (oN (5 * q) + Int32.ofInt 2).toNatClampNeg = 5 * q + 2 := aixn _ 2 rfl (by omega)
  have y3 : (oN (5 * q) + Int32.ofInt 3).toNatClampNeg = 5 * q + 3 := aixn _ 3 rfl (by omega)
  have y4 : (oN (5 * q) + Int32.ofInt 4).toNatClampNeg = 5 * q + 4 := aixn _ 4 rfl (by omega)
  have y9 : (Int32.ofInt 9).toNatClampNeg = 9 := rfl
  have r0 : ∀ (τ : XH) (i : Nat) (x : Int32), (xuI τ 9 4 i x).1 9 2 9 = τ.1 9 2 9 := fun _ _ _ => xu_ne (fun h => absurd h.2 (by decide))
  refine hQ _ ?_ ?_
  · rw [y0, y1, y2, y3, y4, y9, lTS_g (by decide), lTS_t (by omega), lTS_t (by omega), lTS_t (by omega), lTS_t (by omega), lTS_t (by omega), r0, r0, r0, r0, r0, gL_at (by decide), he]
    show (updF (lTS σ).1 9 (oN q + 1), _) = _
    rw [oN_1]
    rfl
  · exact (((((xFr.u ⟨rfl, Or.inr rfl⟩).tr (xFr.u ⟨rfl, Or.inr rfl⟩)).tr (xFr.u ⟨rfl, Or.inr rfl⟩)).tr (xFr.u ⟨rfl, Or.inr rfl⟩)).tr (xFr.u ⟨rfl, Or.inr rfl⟩)).tr (xFr.u ⟨rfl, Or.inl rfl⟩)
/-- the ledger's rows go down by one, the first k cells of it -/
def shS (σ : XH) (k : Nat) : XH := (fun c j i => if c = 9 ∧ j = 4 ∧ i < k then σ.1 9 4 (i + 5) else σ.1 c j i, σ.2)
theorem shS_0 (σ : XH) : shS σ 0 = σ := by
  refine Prod.ext (funext fun c => funext fun j => funext fun i => ?_) rfl
  show (if c = 9 ∧ j = 4 ∧ i < 0 then _ else _) = _
  rw [if_neg (by omega)]
theorem shS_s (σ : XH) (k : Nat) : xuI (shS σ k) 9 4 k (σ.1 9 4 (k + 5)) = shS σ (k + 1) := by
  refine Prod.ext (funext fun c => funext fun j => funext fun i => ?_) rfl
  unfold xuI shS
  dsimp only
  grind
theorem shS_r (σ : XH) (k : Nat) : (shS σ k).1 9 4 (k + 5) = σ.1 9 4 (k + 5) := by
  show (if 9 = 9 ∧ 4 = 4 ∧ k + 5 < k then _ else _) = _
  rw [if_neg (by omega)]
theorem shS_g (σ : XH) (k : Nat) : (shS σ k).1 9 2 = σ.1 9 2 := by
  funext i
  rw [show (shS σ k).1 9 2 i = (if (9 : Nat) = 9 ∧ (2 : Nat) = 4 ∧ i < k then σ.1 9 4 (i + 5) else σ.1 9 2 i) from rfl, if_neg (by omega)]
theorem shS_fr (σ : XH) (k : Nat) : xFr PE σ (shS σ k) := ⟨fun c j i h => by
  show (if c = 9 ∧ j = 4 ∧ i < k then _ else _) = _
  rw [if_neg (fun q => h ⟨q.1, Or.inr q.2.1⟩)], rfl⟩
theorem lTS_shS (σ : XH) : lTS (shS σ 55) = ((lTS σ).1, (lTS σ).2.1, (lTS σ).2.2.1, shfL (lTS σ).2.2.2) := by
  refine Prod.ext (funext fun i => ?_) (Prod.ext (funext fun i => ?_) (Prod.ext (funext fun i => ?_) (funext fun i => ?_)))
  all_goals
    simp only [lTS, trF, shS, shfL]
    grind
set_option maxRecDepth 100000 in
set_option maxHeartbeats 400000 in
theorem lL_entry_82 (X : Nat × (Nat → Int32)) (σ : XH) (v d : Int32) (R : XR × XH → Prop) (N : Nat) (hR : wF (xLe X (N + 1) 82 [(0, xR 9 2), (1, xR 9 4), (2, xI v), (3, xI d), (5, xI (oN 55))] (shS σ 55)) R) : ∀ (m k : Nat), k + m = 55 → wF (xLe X (N + m + 1) 82 [(0, xR 9 2), (1, xR 9 4), (2, xI v), (3, xI d), (5, xI (oN k))] (shS σ k)) R := by
  intro m
  induction m with
  | zero =>
    intro k hk
    have : k = 55 := by omega
    subst this
    exact hR
  | succ m ih =>
    intro k hk
    refine wI_s (N := N + (m + 1)) ?_
    refine And.intro (fun q => ?_) (fun _ => ?_)
    · have q : oN 55 ≤ oN k := q
      rw [oN_le (by decide) (by omega)] at q
      omega
    have y0 : (oN k).toNatClampNeg = k := oN_nat (by omega)
    have y5 : (oN k + Int32.ofInt 5).toNatClampNeg = k + 5 := aixn _ 5 rfl (by omega)
    refine And.intro (bT (aix (m := 60) _ 5 rfl (by omega) (by decide))) ?_
    refine And.intro (bT ⟨oN_nn (by omega), by rw [y0]; omega⟩) ?_
    have h := ih (k + 1) (by omega)
    rw [← shS_s, ← oN_1, ← shS_r] at h
    rw [← y5] at h
    have e : xuI (shS σ k) 9 4 k ((shS σ k).1 9 4 (oN k + Int32.ofInt 5).toNatClampNeg) = xuI (shS σ k) 9 4 (oN k).toNatClampNeg ((shS σ k).1 9 4 (oN k + Int32.ofInt 5).toNatClampNeg) := by rw [y0]
    rw [e] at h
    exact h
set_option maxRecDepth 100000 in
set_option maxHeartbeats 400000 in
theorem lL_entry_6 (X : Nat × (Nat → Int32)) (σ : XH) (v d : Int32) (n : Nat) (hn : n ≤ 12) (he : (lTS σ).1 9 = oN n) (R : XR × XH → Prop) (N : Nat) (hR : wF (xLe X (N + 1) 6 [(0, xR 9 2), (1, xR 9 4), (2, xI v), (3, xI d), (4, xI (lastL (lTS σ).2.2.2 v d n)), (5, xI (oN n))] σ) R) : ∀ (m k : Nat), k + m = n → wF (xLe X (N + m + 1) 6 [(0, xR 9 2), (1, xR 9 4), (2, xI v), (3, xI d), (4, xI (lastL (lTS σ).2.2.2 v d k)), (5, xI (oN k))] σ) R := by
  intro m
  induction m with
  | zero =>
    intro k hk
    have : k = n := by omega
    subst this
    exact hR
  | succ m ih =>
    intro k hk
    have next : ∀ x, x = lastL (lTS σ).2.2.2 v d (k + 1) → wF (xLe X (N + (m + 1)) 6 [(0, xR 9 2), (1, xR 9 4), (2, xI v), (3, xI d), (4, xI x), (5, xI (oN k + Int32.ofInt 1))] σ) R := by
      rintro x rfl
      have h := ih (k + 1) (by omega)
      rw [← oN_1] at h
      exact h
    refine wI_s (N := N + (m + 1)) ?_
    refine And.intro (bG (by decide)) ?_
    refine And.intro (fun q => ?_) (fun _ => ?_)
    · have q : (lTS σ).1 9 ≤ oN k := q
      rw [he, oN_le (by omega) (by omega)] at q
      omega
    have e5 : Int32.ofInt 5 * oN k = oN (5 * k) := i5m
    have y0 : (Int32.ofInt 5 * oN k).toNatClampNeg = 5 * k := by
      rw [e5]
      exact oN_nat (by omega)
    have y1 : (Int32.ofInt 5 * oN k + Int32.ofInt 1).toNatClampNeg = 5 * k + 1 := by
      rw [e5]
      exact aixn _ 1 rfl (by omega)
    have z0 : 0 ≤ Int32.ofInt 5 * oN k ∧ (Int32.ofInt 5 * oN k).toNatClampNeg < 60 := by
      rw [e5]
      exact ⟨oN_nn (by omega), by rw [oN_nat (by omega)]; omega⟩
    have z1 : 0 ≤ Int32.ofInt 5 * oN k + Int32.ofInt 1 ∧ (Int32.ofInt 5 * oN k + Int32.ofInt 1).toNatClampNeg < 60 := by
      rw [e5]
      exact aix (m := 60) _ 1 rfl (by omega) (by decide)
    refine And.intro (bT z0) ?_
    refine And.intro (fun c0 => ?_) (fun c0 => ?_)
    · have c0 : σ.1 9 4 (Int32.ofInt 5 * oN k).toNatClampNeg = v := c0
      rw [y0, tL_at (by omega)] at c0
      refine And.intro (bT z1) ?_
      refine And.intro (fun c1 => ?_) (fun c1 => ?_)
      · have c1 : σ.1 9 4 (Int32.ofInt 5 * oN k + Int32.ofInt 1).toNatClampNeg = d := c1
        rw [y1, tL_at (by omega)] at c1
        refine next _ ?_
        unfold lastL
        rw [if_pos ⟨c0, c1⟩]
        exact i5m
      · have c1 : ¬ σ.1 9 4 (Int32.ofInt 5 * oN k + Int32.ofInt 1).toNatClampNeg = d := c1
        rw [y1, tL_at (by omega)] at c1
        refine next _ ?_
        show lastL _ v d k = _
        rw [lastL, if_neg (fun q => c1 q.2)]
    · have c0 : ¬ σ.1 9 4 (Int32.ofInt 5 * oN k).toNatClampNeg = v := c0
      rw [y0, tL_at (by omega)] at c0
      refine next _ ?_
      show lastL _ v d k = _
      rw [lastL, if_neg (fun q => c0 q.1)]
set_option maxRecDepth 100000 in
set_option maxHeartbeats 400000 in
theorem lL_entry_f (X : Nat × (Nat → Int32)) (σ τ : XH) (v d : Int32) (N : Nat) (t1 : lTS τ = (updF (lTS σ).1 9 (oN 11), (lTS σ).2)) (f1 : xFr PE σ τ) : wF (xLe X (N + 56) 82 [(0, xR 9 2), (1, xR 9 4), (2, xI v), (3, xI d), (5, xI (oN 0))] τ) (fun r => ∃ σ', r = (.inl (some (xI (oN (5 * 11)))), σ') ∧ lTS σ' = (updF (lTS σ).1 9 (oN 12), (lTS σ).2.1, (lTS σ).2.2.1, filL (shfL (lTS σ).2.2.2) 11 v d) ∧ xFr PE σ σ') := by
  have h0 := lL_entry_82 X τ v d (fun r => ∃ σ', r = (.inl (some (xI (oN (5 * 11)))), σ') ∧ lTS σ' = (updF (lTS σ).1 9 (oN 12), (lTS σ).2.1, (lTS σ).2.2.1, filL (shfL (lTS σ).2.2.2) 11 v d) ∧ xFr PE σ σ') N ?_ 55 0 (by decide)
  · rw [shS_0] at h0
    exact h0
  · refine wI_s (N := N) ?_
    refine And.intro (fun _ => ?_) (fun h => absurd (by decide) h)
    refine And.intro (bG (by decide)) ?_
    have t2 : lTS (shS τ 55) = (updF (lTS σ).1 9 (oN 11), (lTS σ).2.1, (lTS σ).2.2.1, shfL (lTS σ).2.2.2) := by
      rw [lTS_shS, t1]
    have hx : Int32.ofInt 5 * (shS τ 55).1 9 2 9 = oN (5 * 11) := by
      rw [gL_at (by decide), t2]
      exact i5m
    refine sL_entry_113 X _ _ 11 _ v d _ (shS τ 55) (by decide) hx (by rw [t2]; rfl) (fun σ' h1 h2 => ⟨σ', rfl, ?_, (f1.tr (shS_fr τ 55)).tr h2⟩)
    rw [h1, t2]
    refine Prod.ext ?_ rfl
    funext i
    unfold updF
    dsimp only
    split <;> rfl
set_option maxRecDepth 100000 in
set_option maxHeartbeats 400000 in
theorem wL_entry (X : Nat × (Nat → Int32)) (σ : XH) (v d : Int32) (n : Nat) (hn : n ≤ 12) (he : (lTS σ).1 9 = oN n) (hk : keyA (lTS σ).2.2.2 n) : wF (fL_entry X [xR 9 2, xR 9 4, xI v, xI d] σ) (fun r => ∃ σ', r = (.inl (some (xI (oN (5 * (rowL (lTS σ).2.2.2 n v d).1)))), σ') ∧ lTS σ' = (updF (lTS σ).1 9 (oN (rowL (lTS σ).2.2.2 n v d).2.2), (lTS σ).2.1, (lTS σ).2.2.1, (rowL (lTS σ).2.2.2 n v d).2.1) ∧ xFr PE σ σ') := by
  rw [uL_entry]
  refine wI_s (N := 99999) ?_
  refine wF_mono (o := xLe X 99999 6 [(0, xR 9 2), (1, xR 9 4), (2, xI v), (3, xI d), (4, xI (lastL (lTS σ).2.2.2 v d 0)), (5, xI (oN 0))] σ) ?_ (fun r h => h)
  obtain ⟨N, hN⟩ : ∃ N, 99998 = N + 56 + n := ⟨99998 - 56 - n, by omega⟩
  rw [show (99999 : Nat) = N + 56 + n + 1 by omega]
  refine lL_entry_6 X σ v d n hn he _ (N + 56) ?_ n 0 (by omega)
  rw [lastL_eq hk]
  refine wI_s (N := N + 56) ?_
  refine And.intro (bG (by decide)) ?_
  refine And.intro (fun _ => ?_) (fun h => absurd (by show (lTS σ).1 9 ≤ oN n; rw [he]; exact Int32.le_refl _) h)
  have full := fun τ t1 f1 => lL_entry_f X σ τ v d N t1 f1
  unfold rowL
  cases hf : fndL (lTS σ).2.2.2 v d 0 n with
  | some r =>
    obtain ⟨h1, h2, h3, h4⟩ := fndL_some n 0 hf
    refine And.intro (fun h => absurd h (Int32.not_lt.mpr (oN_nn (by omega)))) (fun _ => ?_)
    refine ⟨σ, rfl, ?_, xFr.rf⟩
    dsimp only
    rw [updF_id he.symm]
  | none =>
    refine And.intro (fun _ => ?_) (fun h => absurd (by decide) h)
    refine And.intro (bG (by decide)) ?_
    refine And.intro (fun c => ?_) (fun c => ?_)
    · have c : (lTS σ).1 9 = oN 12 := c
      rw [he, oN_inj (by omega) (by decide)] at c
      subst c
      dsimp only
      rw [if_pos rfl]
      refine And.intro (bG (by decide)) ?_
      refine And.intro (bG (by decide)) ?_
      exact full _ (by
        show lTS (xuI σ 9 2 9 (σ.1 9 2 9 - 1)) = _
        rw [lTS_g (by decide), gL_at (by decide), he]
        rfl) (xFr.u ⟨rfl, Or.inl rfl⟩)
    · have c : ¬ (lTS σ).1 9 = oN 12 := c
      rw [he, oN_inj (by omega) (by decide)] at c
      refine And.intro (bG (by decide)) ?_
      have hx : Int32.ofInt 5 * σ.1 9 2 9 = oN (5 * n) := by
        rw [gL_at (by decide), he]
        exact i5m
      dsimp only
      rw [if_neg c]
      exact sL_entry_113 X _ _ n _ v d _ σ (by omega) hx he (fun σ' h1 h2 => ⟨σ', rfl, h1, h2⟩)
