/-! ===== the segments of acts (written by wip/p28/gen/acts3.py) ===== -/
section WSTEP2
variable {X : Nat × (Nat → Int32)} {cl : XC} {hd : Nat → Nat → Option (Option (Nat × Nat))} {rt : Nat} {stops : List (Nat × List Nat)} {tbl : List XE} {Q : XO → Prop} {n b : Nat} {lv : XL} {st : List XV} {σ : XH}
theorem wk_iadd {pc : Nat} {x y : Int32} (h : xPc tbl pc = (pc, .iadd, 1, 0, 0, []) :: xPc tbl (pc + 1)) (hs : xStopAt stops (xPc tbl (pc + 1)) = none) (k : wExec X cl hd rt stops tbl Q n (xPc tbl (pc + 1)) lv (.inl (x + y) :: st) σ b) : wExec X cl hd rt stops tbl Q (n + 1) (xPc tbl pc) lv (.inl y :: .inl x :: st) σ b := by
  rw [h]
  show (match xStopAt stops (xPc tbl (pc + 1)) with | none => wExec X cl hd rt stops tbl Q n (xPc tbl (pc + 1)) lv (.inl (x + y) :: st) σ b | some q => wStopOut Q q lv (.inl (x + y) :: st) σ b)
  rw [hs]
  exact k
theorem wk_isub {pc : Nat} {x y : Int32} (h : xPc tbl pc = (pc, .isub, 1, 0, 0, []) :: xPc tbl (pc + 1)) (hs : xStopAt stops (xPc tbl (pc + 1)) = none) (k : wExec X cl hd rt stops tbl Q n (xPc tbl (pc + 1)) lv (.inl (x - y) :: st) σ b) : wExec X cl hd rt stops tbl Q (n + 1) (xPc tbl pc) lv (.inl y :: .inl x :: st) σ b := by
  rw [h]
  show (match xStopAt stops (xPc tbl (pc + 1)) with | none => wExec X cl hd rt stops tbl Q n (xPc tbl (pc + 1)) lv (.inl (x - y) :: st) σ b | some q => wStopOut Q q lv (.inl (x - y) :: st) σ b)
  rw [hs]
  exact k
theorem wk_sipush {pc : Nat} {z : Int} (h : xPc tbl pc = (pc, .sipush z, 3, 0, 0, []) :: xPc tbl (pc + 3)) (hs : xStopAt stops (xPc tbl (pc + 3)) = none) (k : wExec X cl hd rt stops tbl Q n (xPc tbl (pc + 3)) lv (.inl (Int32.ofInt z) :: st) σ b) : wExec X cl hd rt stops tbl Q (n + 1) (xPc tbl pc) lv st σ b := by
  rw [h]
  show (match xStopAt stops (xPc tbl (pc + 3)) with | none => wExec X cl hd rt stops tbl Q n (xPc tbl (pc + 3)) lv (.inl (Int32.ofInt z) :: st) σ b | some q => wStopOut Q q lv (.inl (Int32.ofInt z) :: st) σ b)
  rw [hs]
  exact k
end WSTEP2
theorem q_div {a n : Nat} {y : Int32} (hy : y = oN n) (ha : a < 2 ^ 31) (h0 : 0 < n) (hn : n < 2 ^ 31) : oN a / y = oN (a / n) := by
  rw [hy]
  exact oN_div ha h0 hn
theorem q_mod {a n : Nat} {y : Int32} (hy : y = oN n) (ha : a < 2 ^ 31) (h0 : 0 < n) (hn : n < 2 ^ 31) : oN a - oN a / y * y = oN (a % n) := by
  rw [hy]
  exact oN_mod ha h0 hn
theorem ixE {v k : Nat} (hv : v < 2) (hk : k < 16) : 0 ≤ Int32.ofInt 16 * oN v + oN k ∧ (Int32.ofInt 16 * oN v + oN k).toNatClampNeg < 32 := by
  rw [show Int32.ofInt 16 * oN v = oN (16 * v) from oN_mul 16 v]
  exact aix (m := 32) _ k rfl (by omega) (by decide)
theorem iyE {v k : Nat} (hv : v < 2) (hk : k < 16) : (Int32.ofInt 16 * oN v + oN k).toNatClampNeg = 16 * v + k := by
  rw [show Int32.ofInt 16 * oN v = oN (16 * v) from oN_mul 16 v]
  exact aixn _ k rfl (by omega)
def aR (B : Nat) (r : XR × XH) : Prop := ∃ σ', r = (.inl (some (xI 1)), σ') ∧ JJ (B + 400) σ'
abbrev aQ (X : Nat × (Nat → Int32)) (B N : Nat) : XO → Prop := wQ X (xEnv (nL_acts X)) (fun _ _ => some none) 1 aStp tL_acts N (aR B)
abbrev xAk (X : Nat × (Nat → Int32)) (Q : XO → Prop) (n pc : Nat) (lv : XL) (st : List XV) (σ : XH) : Prop := wExec X (xEnv (nL_acts X)) (fun _ _ => some none) 1 aStp tL_acts Q n (xPc tL_acts pc) lv st σ 410
abbrev aLv (x v z : Int32) (rest : XL) : XL := rest ++ [(6, xI v), (5, xI x), (0, xR 6 0), (1, xR 9 2), (2, xR 9 3), (3, xR 9 4), (4, xI z)]
theorem aR_of {B : Nat} {σ : XH} (h : JJ B σ) : aR B (.inl (some (xI 1)), σ) := ⟨σ, rfl, h.up (by omega)⟩
set_option maxRecDepth 100000 in
set_option maxHeartbeats 600000 in
theorem sL_acts_122 (X : Nat × (Nat → Int32)) (B N : Nat) (n v : Nat) (hv : v < 2) (x z a r : Int32) (σ : XH) (hJ : JJ B σ) (hg : gR a (a + Int32.ofInt 1 + r)) : xAk X (aQ X B N) (n + 150) 122 (aLv x (oN v) z [(7, xI a)]) [xI r, xI (a + Int32.ofInt 1)] σ := by
  have y5 : (Int32.ofInt 16 * oN v + Int32.ofInt 5).toNatClampNeg = 16 * v + 5 := iyE hv (k := 5) (by decide)
  have y6 : (Int32.ofInt 16 * oN v + Int32.ofInt 6).toNatClampNeg = 16 * v + 6 := iyE hv (k := 6) (by decide)
  have y7 : (Int32.ofInt 16 * oN v + Int32.ofInt 7).toNatClampNeg = 16 * v + 7 := iyE hv (k := 7) (by decide)
  have st : ∀ f : Int32, f = 0 ∨ f = 1 → ∃ σ2, fL_ranges X [xR 6 0, xI (oN v), xI a, xI (a + Int32.ofInt 1 + r), xI f] (xuI (xuI (xuI σ 9 3 (16 * v + 5) a) 9 3 (16 * v + 6) (a + Int32.ofInt 1 + r)) 9 3 (16 * v + 7) f) = some (.inl (some (xI (10000 * vT (lTS σ) v 5 + vT (lTS σ) v 6))), σ2) ∧ JJ B σ2 := by
    intro f hf
    refine kL_ranges hJ hv hg hf ?_ (xFq.of (((xFr.u ⟨rfl, Or.inr (Or.inl rfl)⟩).tr (xFr.u ⟨rfl, Or.inr (Or.inl rfl)⟩)).tr (xFr.u ⟨rfl, Or.inr (Or.inl rfl)⟩)))
    rw [lTS_ev hv (by decide), lTS_ev hv (by decide), lTS_ev hv (by decide)]
    simp only [vT_set hv, setV_set hv]
    unfold rngV
    rcases hf with rfl | rfl
    · rw [if_pos rfl]
    · rw [if_neg (by decide)]
  refine And.intro (bE (ixE hv (k := 5) (by decide))) ?_
  refine And.intro (bE (ixE hv (k := 6) (by decide))) ?_
  refine And.intro (bE (ixE hv (k := 5) (by decide))) ?_
  refine And.intro (bE (ixE hv (k := 6) (by decide))) ?_
  refine And.intro (by decide) ?_
  refine And.intro (by decide) ?_
  have hc : Int32.ofInt 10000 * σ.1 9 3 (16 * v + 5) + σ.1 9 3 (16 * v + 6) = 10000 * vT (lTS σ) v 5 + vT (lTS σ) v 6 := by
    rw [eV_at hv (by decide), eV_at hv (by decide)]
    rfl
  refine And.intro (fun c => ?_) (fun c => ?_)
  · refine And.intro (bE (ixE hv (k := 7) (by decide))) ?_
    refine And.intro (by decide) ?_
    refine And.intro (by decide) ?_
    refine And.intro (fun _ => ?_) (fun c2 => absurd c c2)
    rw [y5, y6, y7]
    obtain ⟨σ2, e, hJ2⟩ := st 1 (Or.inr rfl)
    refine wF_of e ?_
    refine And.intro (fun _ => ?_) (fun g => absurd hc.symm g)
    refine And.intro (Or.inr (by decide)) ?_
    exact aR_of hJ2
  · refine And.intro (bE (ixE hv (k := 7) (by decide))) ?_
    refine And.intro (by decide) ?_
    refine And.intro (by decide) ?_
    refine And.intro (fun c2 => absurd c2 c) (fun _ => ?_)
    rw [y5, y6, y7]
    obtain ⟨σ2, e, hJ2⟩ := st 0 (Or.inl rfl)
    refine wF_of e ?_
    refine And.intro (fun _ => ?_) (fun g => absurd hc.symm g)
    refine And.intro (Or.inr (by decide)) ?_
    exact aR_of hJ2
set_option maxRecDepth 100000 in
set_option maxHeartbeats 600000 in
theorem sL_acts_104 (X : Nat × (Nat → Int32)) (B N : Nat) (n v k a : Nat) (hv : v < 2) (hk : k < 10000000) (ha : a < 1000) (y z : Int32) (hy : y = oN a) (σ : XH) (hJ : JJ B σ) : xAk X (aQ X B N) (n + 170) 104 (aLv (oN k) (oN v) z []) [xI y] σ := by
  subst hy
  have e7 : oN k / Int32.ofInt 7 = oN (k / 7) := q_div (n := 7) rfl (by omega) (by decide) (by decide)
  have eS : Int32.ofInt 1000 - oN a = oN (1000 - a) := oN_sub (m := 1000) (by omega)
  refine And.intro (by decide) ?_
  refine And.intro (fun h => ?_) ?_
  · have h : Int32.ofInt 1000 - oN a = oN 0 := h
    rw [eS, oN_inj (by omega) (by decide)] at h
    omega
  refine sL_acts_122 X B N _ v hv _ _ _ _ σ hJ ?_
  dsimp only
  rw [eS, e7, q_mod (n := 1000 - a) rfl (by omega) (by omega) (by omega)]
  have hr : k / 7 % (1000 - a) < 1000 - a := Nat.mod_lt _ (by omega)
  generalize k / 7 % (1000 - a) = r at *
  rw [show oN a + Int32.ofInt 1 + oN r = oN (a + 1 + r) from by rw [show oN a + Int32.ofInt 1 = oN (a + 1) from oN_1, oN_add]]
  exact ⟨oN_nn (by omega), (oN_lt (by omega) (by omega)).mpr (by omega), (oN_le (b := 1000) (by omega) (by decide)).mpr (by omega)⟩
set_option maxRecDepth 100000 in
set_option maxHeartbeats 600000 in
theorem sL_acts_96 (X : Nat × (Nat → Int32)) (B N : Nat) (n v k : Nat) (hv : v < 2) (hk : k < 10000000) (z : Int32) (σ : XH) (hJ : JJ B σ) : xAk X (aQ X B N) (n + 180) 96 (aLv (oN k) (oN v) z []) [] σ := by
  refine And.intro (by decide) ?_
  refine And.intro (by decide) ?_
  have e2 : oN k / Int32.ofInt 2 = oN (k / 2) := q_div (n := 2) rfl (by omega) (by decide) (by decide)
  have eA : oN k / Int32.ofInt 2 - oN k / Int32.ofInt 2 / Int32.ofInt 1000 * Int32.ofInt 1000 = oN (k / 2 % 1000) := by
    rw [e2]
    exact q_mod (n := 1000) rfl (by omega) (by decide) (by decide)
  exact sL_acts_104 X B N _ v k _ hv hk (Nat.mod_lt _ (by decide)) _ z eA σ hJ
set_option maxRecDepth 100000 in
set_option maxHeartbeats 600000 in
theorem sL_acts_327 (X : Nat × (Nat → Int32)) (B N : Nat) (n v w : Nat) (hv : v < 2) (hw : w < 5) (x z y : Int32) (σ : XH) (hJ : JJ B σ) (hg : gS (oN w) y) : xAk X (aQ X B N) (n + 60) 327 (aLv x (oN v) z [(10, xI (oN w))]) [xI y] σ := by
  have yw : (Int32.ofInt 16 * oN v + oN w).toNatClampNeg = 16 * v + w := iyE hv (by omega)
  obtain ⟨σ2, e, hJ2⟩ := kL_sets (X := X) (τ := xuI σ 9 3 (16 * v + w) y) hJ hv hw hg (lTS_ev hv (by omega)) (xFq.of (xFr.u ⟨rfl, Or.inr (Or.inl rfl)⟩))
  refine And.intro (bE (ixE hv (k := w) (by omega))) ?_
  refine And.intro (bE (ixE hv (k := w) (by omega))) ?_
  rw [yw]
  refine wF_of e ?_
  refine And.intro (fun _ => ?_) (fun g => absurd (eV_at hv (by omega)).symm g)
  refine And.intro (Or.inr (by decide)) ?_
  exact aR_of hJ2
set_option maxRecDepth 100000 in
set_option maxHeartbeats 600000 in
theorem sL_acts_239 (X : Nat × (Nat → Int32)) (B N : Nat) (n v k w : Nat) (hv : v < 2) (hk : k < 10000000) (hw : w < 5) (yy z : Int32) (hy : yy = oN w) (σ : XH) (hJ : JJ B σ) : xAk X (aQ X B N) (n + 110) 239 (aLv (oN k) (oN v) z []) [xI yy] σ := by
  subst hy
  have e10 : oN k / Int32.ofInt 10 = oN (k / 10) := q_div (n := 10) rfl (by omega) (by decide) (by decide)
  have md : ∀ m, 0 < m → m < 2000 → ∀ y : Int32, y = oN m → ∃ r, r < m ∧ oN k / Int32.ofInt 10 - oN k / Int32.ofInt 10 / y * y = oN r := fun m h0 hm y hy => ⟨k / 10 % m, Nat.mod_lt _ h0, by rw [e10]; exact q_mod hy (by omega) h0 (by omega)⟩
  refine And.intro (fun c => ?_) (fun c => ?_)
  · have c : oN w = oN 0 := c
    rw [oN_inj (by omega) (by decide)] at c
    subst c
    have g0 : ∀ m, 0 < m → m ≤ 1000 → ∀ y : Int32, y = oN m → gS (oN 0) (Int32.ofInt 1 + (oN k / Int32.ofInt 10 - oN k / Int32.ofInt 10 / y * y)) := fun m h0 hm y hy => by
      obtain ⟨r, hr, er⟩ := md m h0 (by omega) y hy
      rw [er]
      refine Or.inl ⟨rfl, ?_⟩
      show oN 1 ≤ oN 1 + oN r ∧ oN 1 + oN r ≤ oN 1000
      rw [oN_add, oN_le (by omega) (by omega), oN_le (by omega) (by omega)]
      omega
    refine And.intro (by decide) ?_
    refine And.intro (by decide) ?_
    refine And.intro (fun _ => ?_) (fun _ => ?_)
    · refine And.intro (by decide) ?_
      refine wk_iadd (pc := 268) rfl rfl ?_
      refine wk_goto (pc := 269) (t := 327) rfl rfl ?_
      exact sL_acts_327 X B N _ v 0 hv (by decide) _ _ _ σ hJ (g0 1000 (by decide) (by decide) _ rfl)
    · refine And.intro (by decide) ?_
      refine wk_iadd (pc := 268) rfl rfl ?_
      refine wk_goto (pc := 269) (t := 327) rfl rfl ?_
      exact sL_acts_327 X B N _ v 0 hv (by decide) _ _ _ σ hJ (g0 40 (by decide) (by decide) _ rfl)
  · have c : ¬ oN w = oN 0 := c
    rw [oN_inj (by omega) (by decide)] at c
    refine And.intro (fun d => ?_) (fun d => ?_)
    · have d : oN w = oN 3 := d
      rw [oN_inj (by omega) (by decide)] at d
      subst d
      refine And.intro (by decide) ?_
      refine And.intro (by decide) ?_
      refine wk_goto (pc := 287) (t := 327) rfl rfl ?_
      refine sL_acts_327 X B N _ v 3 hv (by decide) _ _ _ σ hJ ?_
      obtain ⟨r, hr, er⟩ := md 1001 (by decide) (by decide) (Int32.ofInt 1001) rfl
      dsimp only
      rw [er]
      refine Or.inr (Or.inr (Or.inl ⟨rfl, oN_nn (by omega), ?_⟩))
      exact (oN_le (b := 1000) (by omega) (by decide)).mpr (by omega)
    · have d : ¬ oN w = oN 3 := d
      rw [oN_inj (by omega) (by decide)] at d
      refine And.intro (fun f => ?_) (fun f => ?_)
      · have f : oN w = oN 4 := f
        rw [oN_inj (by omega) (by decide)] at f
        subst f
        refine And.intro (by decide) ?_
        refine And.intro (by decide) ?_
        refine wk_goto (pc := 303) (t := 327) rfl rfl ?_
        refine sL_acts_327 X B N _ v 4 hv (by decide) _ _ _ σ hJ ?_
        obtain ⟨r, hr, er⟩ := md 3 (by decide) (by decide) (Int32.ofInt 3) rfl
        dsimp only
        rw [er]
        refine Or.inr (Or.inr (Or.inr ⟨rfl, oN_nn (by omega), ?_⟩))
        exact (oN_le (b := 2) (by omega) (by decide)).mpr (by omega)
      · have f : ¬ oN w = oN 4 := f
        rw [oN_inj (by omega) (by decide)] at f
        have hw2 : oN w = 1 ∨ oN w = 2 := by
          rcases (by omega : w = 1 ∨ w = 2) with rfl | rfl
          · exact Or.inl rfl
          · exact Or.inr rfl
        have g1 : ∀ m, 0 < m → m ≤ 301 → ∀ y : Int32, y = oN m → gS (oN w) (oN k / Int32.ofInt 10 - oN k / Int32.ofInt 10 / y * y) := fun m h0 hm y hy => by
          obtain ⟨r, hr, er⟩ := md m h0 (by omega) y hy
          rw [er]
          exact Or.inr (Or.inl ⟨hw2, oN_nn (by omega), (oN_le (b := 300) (by omega) (by decide)).mpr (by omega)⟩)
        refine And.intro (by decide) ?_
        refine And.intro (by decide) ?_
        refine And.intro (fun _ => ?_) (fun _ => ?_)
        · refine And.intro (by decide) ?_
          exact sL_acts_327 X B N _ v w hv hw _ _ _ σ hJ (g1 301 (by decide) (by decide) _ rfl)
        · refine And.intro (by decide) ?_
          exact sL_acts_327 X B N _ v w hv hw _ _ _ σ hJ (g1 30 (by decide) (by decide) _ rfl)
set_option maxRecDepth 100000 in
set_option maxHeartbeats 600000 in
theorem sL_acts_233 (X : Nat × (Nat → Int32)) (B N : Nat) (n v k : Nat) (hv : v < 2) (hk : k < 10000000) (z : Int32) (σ : XH) (hJ : JJ B σ) : xAk X (aQ X B N) (n + 120) 233 (aLv (oN k) (oN v) z []) [] σ := by
  refine And.intro (by decide) ?_
  refine And.intro (by decide) ?_
  have e2 : oN k / Int32.ofInt 2 = oN (k / 2) := q_div (n := 2) rfl (by omega) (by decide) (by decide)
  have eW : oN k / Int32.ofInt 2 - oN k / Int32.ofInt 2 / Int32.ofInt 5 * Int32.ofInt 5 = oN (k / 2 % 5) := by
    rw [e2]
    exact q_mod (n := 5) rfl (by omega) (by decide) (by decide)
  exact sL_acts_239 X B N _ v k _ hv hk (Nat.mod_lt _ (by decide)) _ z eW σ hJ
set_option maxRecDepth 100000 in
set_option maxHeartbeats 600000 in
theorem sL_acts_380 (X : Nat × (Nat → Int32)) (B N : Nat) (n u : Nat) (hu : u < 1001) (y x v z : Int32) (hy : y = oN u) (σ : XH) (hJ : JJ B σ) : xAk X (aQ X B N) (n + 50) 380 (aLv x v z []) [xI y] σ := by
  subst hy
  obtain ⟨σ2, e, hJ2⟩ := kL_signals (X := X) (u := oN u) (τ := xuI σ 9 2 0 (oN u)) hJ (iRb (A := 1000) (by decide) (by omega)) (lTS_g (by decide)) (xFq.of (xFr.u ⟨rfl, Or.inl rfl⟩))
  refine And.intro (bG (by decide)) ?_
  refine And.intro (bG (by decide)) ?_
  refine wF_of e ?_
  refine And.intro (fun _ => ?_) (fun g => absurd (gL_at (by decide)).symm g)
  refine And.intro (Or.inr (by decide)) ?_
  exact aR_of hJ2
set_option maxRecDepth 100000 in
set_option maxHeartbeats 600000 in
theorem sL_acts_374 (X : Nat × (Nat → Int32)) (B N : Nat) (n v k : Nat) (hk : k < 10000000) (z : Int32) (σ : XH) (hJ : JJ B σ) : xAk X (aQ X B N) (n + 60) 374 (aLv (oN k) (oN v) z []) [] σ := by
  refine And.intro (by decide) ?_
  have eU : oN k - oN k / Int32.ofInt 1001 * Int32.ofInt 1001 = oN (k % 1001) := q_mod (n := 1001) rfl (by omega) (by decide) (by decide)
  exact sL_acts_380 X B N _ _ (Nat.mod_lt _ (by decide)) _ _ _ z eU σ hJ
set_option maxRecDepth 100000 in
set_option maxHeartbeats 600000 in
theorem sL_acts_477 (X : Nat × (Nat → Int32)) (B N : Nat) (n w : Nat) (hw : w < 4) (x v z y : Int32) (σ : XH) (hJ : JJ B σ) (hg : gC4 (oN w) y) : xAk X (aQ X B N) (n + 60) 477 (aLv x v z [(15, xI (oN w))]) [xI y] σ := by
  have yw : (Int32.ofInt 1 + oN w).toNatClampNeg = 1 + w := by
    rw [show Int32.ofInt 1 + oN w = oN (1 + w) from oN_add 1 w]
    exact oN_nat (by omega)
  have zw : 0 ≤ Int32.ofInt 1 + oN w ∧ (Int32.ofInt 1 + oN w).toNatClampNeg < 10 := by
    rw [show Int32.ofInt 1 + oN w = oN (1 + w) from oN_add 1 w]
    exact ⟨oN_nn (by omega), by rw [oN_nat (by omega)]; omega⟩
  obtain ⟨σ2, e, hJ2⟩ := kL_tunes (X := X) (τ := xuI σ 9 2 (1 + w) y) hJ hw hg (lTS_g (by omega)) (xFq.of (xFr.u ⟨rfl, Or.inl rfl⟩))
  refine And.intro (bG zw) ?_
  refine And.intro (bG zw) ?_
  rw [yw]
  refine wF_of e ?_
  refine And.intro (fun _ => ?_) (fun g => absurd (gL_at (by omega)).symm g)
  refine And.intro (Or.inr (by decide)) ?_
  exact aR_of hJ2
set_option maxRecDepth 100000 in
set_option maxHeartbeats 600000 in
theorem sL_acts_413 (X : Nat × (Nat → Int32)) (B N : Nat) (n k w : Nat) (hk : k < 10000000) (hw : w < 4) (yy v z : Int32) (hy : yy = oN w) (σ : XH) (hJ : JJ B σ) : xAk X (aQ X B N) (n + 110) 413 (aLv (oN k) v z []) [xI yy] σ := by
  subst hy
  have e4 : oN k / Int32.ofInt 4 = oN (k / 4) := q_div (n := 4) rfl (by omega) (by decide) (by decide)
  have md : ∀ m, 0 < m → m < 30000 → ∀ y : Int32, y = oN m → ∃ r, r < m ∧ oN k / Int32.ofInt 4 - oN k / Int32.ofInt 4 / y * y = oN r := fun m h0 hm y hy => ⟨k / 4 % m, Nat.mod_lt _ h0, by rw [e4]; exact q_mod hy (by omega) h0 (by omega)⟩
  refine And.intro (fun c => ?_) (fun c => ?_)
  · have c : oN w = oN 0 := c
    rw [oN_inj (by omega) (by decide)] at c
    subst c
    refine And.intro (by decide) ?_
    refine And.intro (by decide) ?_
    refine wk_goto (pc := 426) (t := 477) rfl rfl ?_
    refine sL_acts_477 X B N _ 0 (by decide) _ _ _ _ σ hJ ?_
    obtain ⟨r, hr, er⟩ := md 2 (by decide) (by decide) (Int32.ofInt 2) rfl
    dsimp only
    rw [er]
    exact Or.inl ⟨rfl, oN_nn (by omega), (oN_le (b := 1) (by omega) (by decide)).mpr (by omega)⟩
  · have c : ¬ oN w = oN 0 := c
    rw [oN_inj (by omega) (by decide)] at c
    refine And.intro (fun d => ?_) (fun d => ?_)
    · have d : oN w = oN 1 := d
      rw [oN_inj (by omega) (by decide)] at d
      subst d
      refine And.intro (by decide) ?_
      refine And.intro (by decide) ?_
      refine wk_sipush (pc := 443) rfl rfl ?_
      refine wk_isub (pc := 446) rfl rfl ?_
      refine wk_goto (pc := 447) (t := 477) rfl rfl ?_
      refine sL_acts_477 X B N _ 1 (by decide) _ _ _ _ σ hJ ?_
      obtain ⟨r, hr, er⟩ := md 20001 (by decide) (by decide) (Int32.ofInt 20001) rfl
      dsimp only
      rw [er]
      have h1 := oN_nn (n := r) (by omega)
      have h2 : oN r ≤ 20000 := (oN_le (b := 20000) (by omega) (by decide)).mpr (by omega)
      refine Or.inr (Or.inl ⟨rfl, ?_⟩)
      show -10000 ≤ oN r - 10000 ∧ oN r - 10000 ≤ 10000
      generalize oN r = q at *
      constructor <;> grind
    · have d : ¬ oN w = oN 1 := d
      rw [oN_inj (by omega) (by decide)] at d
      refine And.intro (fun f => ?_) (fun f => ?_)
      · have f : oN w = oN 2 := f
        rw [oN_inj (by omega) (by decide)] at f
        subst f
        refine And.intro (by decide) ?_
        refine And.intro (by decide) ?_
        refine wk_goto (pc := 464) (t := 477) rfl rfl ?_
        refine sL_acts_477 X B N _ 2 (by decide) _ _ _ _ σ hJ ?_
        obtain ⟨r, hr, er⟩ := md 2001 (by decide) (by decide) (Int32.ofInt 2001) rfl
        dsimp only
        rw [er]
        exact Or.inr (Or.inr (Or.inl ⟨rfl, oN_nn (by omega), (oN_le (b := 2000) (by omega) (by decide)).mpr (by omega)⟩))
      · have f : ¬ oN w = oN 2 := f
        rw [oN_inj (by omega) (by decide)] at f
        have hw3 : w = 3 := by omega
        subst hw3
        refine And.intro (by decide) ?_
        refine And.intro (by decide) ?_
        refine wk_iadd (pc := 476) rfl rfl ?_
        refine sL_acts_477 X B N _ 3 (by decide) _ _ _ _ σ hJ ?_
        obtain ⟨r, hr, er⟩ := md 1000 (by decide) (by decide) (Int32.ofInt 1000) rfl
        dsimp only
        rw [er]
        refine Or.inr (Or.inr (Or.inr ⟨rfl, ?_⟩))
        show oN 1 ≤ oN 1 + oN r ∧ oN 1 + oN r ≤ oN 1000
        rw [oN_add, oN_le (by omega) (by omega), oN_le (by omega) (by omega)]
        omega
set_option maxRecDepth 100000 in
set_option maxHeartbeats 600000 in
theorem sL_acts_409 (X : Nat × (Nat → Int32)) (B N : Nat) (n v k : Nat) (hk : k < 10000000) (z : Int32) (σ : XH) (hJ : JJ B σ) : xAk X (aQ X B N) (n + 120) 409 (aLv (oN k) (oN v) z []) [] σ := by
  refine And.intro (by decide) ?_
  have eW : oN k - oN k / Int32.ofInt 4 * Int32.ofInt 4 = oN (k % 4) := q_mod (n := 4) rfl (by omega) (by decide) (by decide)
  exact sL_acts_413 X B N _ k _ hk (Nat.mod_lt _ (by decide)) _ _ z eW σ hJ
set_option maxRecDepth 100000 in
set_option maxHeartbeats 600000 in
theorem sL_acts_514 (X : Nat × (Nat → Int32)) (B N : Nat) (n v k : Nat) (hv : v < 2) (hk : k < 10000000) (z : Int32) (σ : XH) (hJ : JJ B σ) : xAk X (aQ X B N) (n + 120) 514 (aLv (oN k) (oN v) z []) [] σ := by
  refine And.intro (by decide) ?_
  refine And.intro (fun _ => ?_) (fun _ => ?_)
  · have y11 : (Int32.ofInt 16 * oN v + Int32.ofInt 11).toNatClampNeg = 16 * v + 11 := iyE hv (k := 11) (by decide)
    have y12 : (Int32.ofInt 16 * oN v + Int32.ofInt 12).toNatClampNeg = 16 * v + 12 := iyE hv (k := 12) (by decide)
    have y15 : (Int32.ofInt 16 * oN v + Int32.ofInt 15).toNatClampNeg = 16 * v + 15 := iyE hv (k := 15) (by decide)
    obtain ⟨σ2, e, hJ2⟩ := kL_serves (X := X) (τ := xuI (xuI (xuI σ 9 3 (16 * v + 11) 0) 9 3 (16 * v + 12) 0) 9 3 (16 * v + 15) ((xuI (xuI σ 9 3 (16 * v + 11) 0) 9 3 (16 * v + 12) 0).1 9 3 (16 * v + 15) + Int32.ofInt 1)) hJ hv (by
      rw [lTS_ev hv (by decide), lTS_ev hv (by decide), lTS_ev hv (by decide)]
      simp only [vT_set hv, setV_set hv]
      rw [xu_eq, if_neg (by omega), xu_eq, if_neg (by omega), eV_at hv (by decide)]
      rfl) (xFq.of (((xFr.u ⟨rfl, Or.inr (Or.inl rfl)⟩).tr (xFr.u ⟨rfl, Or.inr (Or.inl rfl)⟩)).tr (xFr.u ⟨rfl, Or.inr (Or.inl rfl)⟩)))
    refine wF_of (eL_wear (X := X) hv) ?_
    refine And.intro (bE (ixE hv (k := 11) (by decide))) ?_
    refine And.intro (bE (ixE hv (k := 12) (by decide))) ?_
    refine And.intro (bE (ixE hv (k := 15) (by decide))) ?_
    refine And.intro (bE (ixE hv (k := 15) (by decide))) ?_
    rw [y11, y12, y15]
    refine wF_of e ?_
    refine And.intro (fun _ => ?_) (fun g => absurd rfl g)
    refine And.intro (Or.inr (by decide)) ?_
    exact aR_of hJ2
  · have hn : ¬ (0 ≤ Int32.ofInt 2 + oN v ∧ Int32.ofInt 2 + oN v ≤ 1) := by
      rw [show Int32.ofInt 2 + oN v = oN (2 + v) from oN_add 2 v]
      intro q
      have q := (oN_le (b := 1) (by omega) (by decide)).mp q.2
      omega
    refine wF_of (kL_serves_v (X := X) (τ := σ) hn) ?_
    refine And.intro (fun _ => ?_) (fun g => absurd rfl g)
    refine And.intro (Or.inr (by decide)) ?_
    exact aR_of hJ
set_option maxRecDepth 100000 in
set_option maxHeartbeats 600000 in
theorem sL_acts_609 (X : Nat × (Nat → Int32)) (B N : Nat) (n v p : Nat) (hv : v < 2) (hp : p < 1001) (y x z : Int32) (hy : y = oN p) (σ : XH) (hJ : JJ B σ) : xAk X (aQ X B N) (n + 110) 609 (aLv x (oN v) z []) [xI y] σ := by
  subst hy
  have y8 : (Int32.ofInt 16 * oN v + Int32.ofInt 8).toNatClampNeg = 16 * v + 8 := iyE hv (k := 8) (by decide)
  have y9 : (Int32.ofInt 16 * oN v + Int32.ofInt 9).toNatClampNeg = 16 * v + 9 := iyE hv (k := 9) (by decide)
  have y10 : (Int32.ofInt 16 * oN v + Int32.ofInt 10).toNatClampNeg = 16 * v + 10 := iyE hv (k := 10) (by decide)
  obtain ⟨σ2, e, hJ2⟩ := kL_stems (X := X) (p := oN p) (τ := xuI (xuI (xuI σ 9 3 (16 * v + 8) (oN p)) 9 3 (16 * v + 9) 0) 9 3 (16 * v + 10) 0) hJ hv (iRb (A := 1000) (by decide) (by omega)) (by
    rw [lTS_ev hv (by decide), lTS_ev hv (by decide), lTS_ev hv (by decide)]
    simp only [vT_set hv, setV_set hv]
    rfl) (xFq.of (((xFr.u ⟨rfl, Or.inr (Or.inl rfl)⟩).tr (xFr.u ⟨rfl, Or.inr (Or.inl rfl)⟩)).tr (xFr.u ⟨rfl, Or.inr (Or.inl rfl)⟩)))
  refine And.intro (bE (ixE hv (k := 8) (by decide))) ?_
  refine And.intro (bE (ixE hv (k := 8) (by decide))) ?_
  refine And.intro (bE (ixE hv (k := 9) (by decide))) ?_
  refine And.intro (bE (ixE hv (k := 10) (by decide))) ?_
  rw [y8, y9, y10]
  refine wF_of e ?_
  refine And.intro (fun _ => ?_) (fun g => absurd (eV_at hv (by decide)).symm g)
  refine And.intro (Or.inr (by decide)) ?_
  exact aR_of hJ2
set_option maxRecDepth 100000 in
set_option maxHeartbeats 600000 in
theorem sL_acts_601 (X : Nat × (Nat → Int32)) (B N : Nat) (n v k : Nat) (hv : v < 2) (hk : k < 10000000) (z : Int32) (σ : XH) (hJ : JJ B σ) : xAk X (aQ X B N) (n + 120) 601 (aLv (oN k) (oN v) z []) [] σ := by
  refine And.intro (by decide) ?_
  refine And.intro (by decide) ?_
  have e2 : oN k / Int32.ofInt 2 = oN (k / 2) := q_div (n := 2) rfl (by omega) (by decide) (by decide)
  have eP : oN k / Int32.ofInt 2 - oN k / Int32.ofInt 2 / Int32.ofInt 1001 * Int32.ofInt 1001 = oN (k / 2 % 1001) := by
    rw [e2]
    exact q_mod (n := 1001) rfl (by omega) (by decide) (by decide)
  exact sL_acts_609 X B N _ v _ hv (Nat.mod_lt _ (by decide)) _ _ z eP σ hJ
set_option maxRecDepth 100000 in
set_option maxHeartbeats 600000 in
theorem lL_acts_704 (X : Nat × (Nat → Int32)) (B T : Nat) (hB : B ≤ 100000) (h1T : 1 ≤ T) (hT : T ≤ 400) (σ : XH) (hJ : JJ B σ) : ∀ (m k N D : Nat) (τ : XH), k + m = T → lTS τ = itT (lTS σ) k → xFq PL σ τ → wF (xIter X (xEnv (nL_acts X)) (fun _ _ => some none) 1 aStp tL_acts (N + m + 1) (704, [(0, xR 6 0), (1, xR 9 2), (2, xR 9 3), (3, xR 9 4), (21, xI (oN T)), (22, xI (cnT (lTS σ) k)), (23, xI (oN k))], τ, D + 2 + m)) (aR B) := by
  intro m
  induction m with
  | zero =>
    intro k N D τ hk hl hq
    have : k = T := by omega
    subst this
    refine wI_s (N := N + 0) ?_
    refine And.intro (fun _ => ?_) (fun h => absurd (Int32.le_refl _) h)
    obtain ⟨σ2, e, hJ2⟩ := kL_runs (X := X) hJ h1T hT hB hl hq
    refine wF_of e ?_
    refine And.intro (fun _ => ?_) (fun g => absurd rfl g)
    refine And.intro (Or.inr (by decide)) ?_
    exact ⟨σ2, rfl, hJ2⟩
  | succ m ih =>
    intro k N D τ hk hl hq
    obtain ⟨S, q, h1, h2, h3, k0, hk0, h4⟩ := hJ
    obtain ⟨w1, w2⟩ := okW_it h2 h4 k (by omega)
    refine wI_s (N := N + (m + 1)) ?_
    refine And.intro (fun h => ?_) (fun _ => ?_)
    · have h : oN T ≤ oN k := h
      rw [oN_le (by omega) (by omega)] at h
      omega
    obtain ⟨r, e, σ2, rfl, t2, f2⟩ := wL_tick X τ (by rw [hl]; exact w1) (by
      rw [hl, w2]
      exact (oN_lt (b := 200000) (by omega) (by decide)).mpr (by omega))
    refine wF_of e ?_
    have next : ∀ x, x = cnT (lTS σ) (k + 1) → wF (xIter X (xEnv (nL_acts X)) (fun _ _ => some none) 1 aStp tL_acts (N + (m + 1)) (704, [(0, xR 6 0), (1, xR 9 2), (2, xR 9 3), (3, xR 9 4), (21, xI (oN T)), (22, xI x), (23, xI (oN k + Int32.ofInt 1))], σ2, D + 2 + m)) (aR B) := by
      rintro x rfl
      have h := ih (k + 1) N D σ2 (by omega) (by rw [t2, hl]; rfl) (hq.tr f2)
      rw [← oN_1] at h
      exact h
    refine And.intro (fun c => ?_) (fun c => ?_)
    · refine next _ ?_
      by_cases g : mvT (lTS τ)
      · have c : (if mvT (lTS τ) then (1 : Int32) else 0) = 0 := c
        rw [if_pos g] at c
        exact absurd c (by decide)
      · show cnT (lTS σ) k + Int32.ofInt 0 = cnT (lTS σ) k + (if mvT (itT (lTS σ) k) then 1 else 0)
        rw [← hl, if_neg g]
        rfl
    · refine next _ ?_
      by_cases g : mvT (lTS τ)
      · show cnT (lTS σ) k + Int32.ofInt 1 = cnT (lTS σ) k + (if mvT (itT (lTS σ) k) then 1 else 0)
        rw [← hl, if_pos g]
        rfl
      · have c : ¬ (if mvT (lTS τ) then (1 : Int32) else 0) = 0 := c
        rw [if_neg g] at c
        exact absurd rfl c
set_option maxRecDepth 100000 in
set_option maxHeartbeats 600000 in
theorem sL_acts_676 (X : Nat × (Nat → Int32)) (B N : Nat) (hN : 500 ≤ N) (hB : B ≤ 100000) (n v k : Nat) (hk : k < 10000000) (z : Int32) (σ : XH) (hJ : JJ B σ) : xAk X (aQ X B N) (n + 60) 676 (aLv (oN k) (oN v) z []) [] σ := by
  have fin : ∀ m, 0 < m → m ≤ 400 → ∀ y : Int32, y = oN m → wF (xIter X (xEnv (nL_acts X)) (fun _ _ => some none) 1 aStp tL_acts N (704, [(0, xR 6 0), (1, xR 9 2), (2, xR 9 3), (3, xR 9 4), (21, xI (Int32.ofInt 1 + (oN k - oN k / y * y))), (22, xI (Int32.ofInt 0)), (23, xI (Int32.ofInt 0))], σ, 410)) (aR B) := by
    intro m h0 hm y hy
    rw [q_mod hy (by omega) h0 (by omega), show Int32.ofInt 1 + oN (k % m) = oN (1 + k % m) from oN_add 1 _]
    have hr : k % m < m := Nat.mod_lt _ h0
    generalize k % m = r at *
    obtain ⟨N', rfl⟩ : ∃ N', N = N' + (1 + r) + 1 := ⟨N - (1 + r) - 1, by omega⟩
    have h := lL_acts_704 X B (1 + r) hB (by omega) (by omega) σ hJ (1 + r) 0 N' (408 - (1 + r)) σ (by omega) rfl xFq.rf
    rw [show 408 - (1 + r) + 2 + (1 + r) = 410 by omega] at h
    exact h
  refine And.intro (by decide) ?_
  refine And.intro (fun _ => ?_) (fun _ => ?_)
  · refine And.intro (by decide) ?_
    exact fin 400 (by decide) (by decide) _ rfl
  · refine And.intro (by decide) ?_
    exact fin 25 (by decide) (by decide) _ rfl
