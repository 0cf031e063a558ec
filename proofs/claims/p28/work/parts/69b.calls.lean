/-! ===== the relation of class and law; the calls of acts (written by wip/p28/gen/acts2.py) ===== -/
/-- class and law stand alike; the time is at most B -/
def JJ (B : Nat) (σ : XH) : Prop := ∃ (S : Nat → TS) (m : Nat), cTS σ 0 = lTS σ ∧ okW (lTS σ) ∧ CSt σ S m ∧ ∃ k, k ≤ B ∧ (lTS σ).1 5 = oN k
theorem JJ.up {B B' : Nat} {σ : XH} (h : JJ B σ) (hB : B ≤ B') : JJ B' σ := by
  obtain ⟨S, m, h1, h2, h3, k, hk, h4⟩ := h
  exact ⟨S, m, h1, h2, h3, k, by omega, h4⟩
/-- what the law writes leaves the class as it is -/
theorem fq_c {σ τ : XH} (h : xFq PL σ τ) (j : Nat) : cTS τ j = cTS σ j := by
  have hf : xFr PL σ (τ.1, σ.2) := ⟨h, rfl⟩
  exact (cTS_fr hf (by unfold PL; omega) (by unfold PL; omega) (by unfold PL; omega) (by unfold PL; omega) (by unfold PL; omega) : cTS (τ.1, σ.2) j = cTS σ j)
theorem fq_S {σ τ : XH} (h : xFq PL σ τ) {S : Nat → TS} {m : Nat} (hS : CSt σ S m) : CSt τ S m := by
  obtain ⟨h1, h2, l, hl, h3, h4⟩ := hS
  exact ⟨h1, (h _ _ _ (by unfold PL; omega)).trans h2, l, hl, (h _ _ _ (by unfold PL; omega)).trans h3, fun i hi => (fq_c h _).trans (h4 i hi)⟩
theorem jj_set {B k : Nat} {τ : XH} {S : Nat → TS} {m : Nat} {a : Int32} {t : TS} {o : Option (XR × XH)} (hc : wF o (cOK τ S m a t)) (hl : lTS τ = t) (ok : okW t) (hk : k ≤ B) (ht : t.1 5 = oN k) : ∃ σ2, o = some (.inl (some (xI a)), σ2) ∧ JJ B σ2 := by
  obtain ⟨r, a1, σ2, rfl, a2, a3, a4⟩ := hc
  have e : lTS σ2 = t := (lTS_cg fun j i _ => a4.1 9 j i (by unfold PK; omega)).trans hl
  exact ⟨σ2, a1, _, _, a3.trans e.symm, by rw [e]; exact ok, a2, k, hk, by rw [e]; exact ht⟩
theorem okW_V {t : TS} (h : okW t) {v : Nat} (hv : v < 2) {V : Nat → Int32} (hV : okU (t.1 5) (vT t v) → okU (t.1 5) V) : okW (setV t v V) := by
  have h1 := hV (okW_v h hv)
  rcases (by omega : v = 0 ∨ v = 1) with rfl | rfl
  · exact ⟨okJ_V h.1 (v := 0) (by decide) (fun _ => h1.1), h1, h.2.2⟩
  · exact ⟨okJ_V h.1 (v := 1) (by decide) (fun _ => h1.1), h.2.1, h1⟩
theorem okU_rng {T : Int32} {V : Nat → Int32} {a b f : Int32} (h : okU T V) (hg : gR a b) : okU T (rngV V a b f) := by
  obtain ⟨⟨h0, h4, h5, h7, h8, h10⟩, h2⟩ := h
  exact ⟨⟨h0, h4, hg, (by unfold rngV updF; simp only [Nat.reduceEqDiff, if_true, if_false]; split <;> first | exact Or.inl rfl | exact Or.inr rfl), h8, h10⟩, h2⟩
theorem okU_sets {T : Int32} {V : Nat → Int32} {x : Int32} (h : okU T V) : ∀ w, w < 5 → gS (oN w) x → okU T (updF V w x)
  | 0, _, hg => by
    obtain ⟨⟨h0, h1⟩, h2⟩ := h
    rcases hg with ⟨-, hg⟩ | ⟨e, -⟩ | ⟨e, -⟩ | ⟨e, -⟩ <;> first | exact ⟨⟨hg, h1⟩, h2⟩ | exact absurd e (by decide)
  | 1, _, hg => by
    obtain ⟨h1, h2, h3, h4⟩ := h
    rcases hg with ⟨e, -⟩ | ⟨-, hg⟩ | ⟨e, -⟩ | ⟨e, -⟩ <;> first | exact ⟨h1, h2, hg, h4⟩ | exact absurd e (by decide)
  | 2, _, hg => by
    obtain ⟨h1, h2, h3, h4, h5⟩ := h
    rcases hg with ⟨e, -⟩ | ⟨-, hg⟩ | ⟨e, -⟩ | ⟨e, -⟩ <;> first | exact ⟨h1, h2, h3, hg, h5⟩ | exact absurd e (by decide)
  | 3, _, hg => by
    obtain ⟨h1, h2, h3, h4, h5, h6⟩ := h
    rcases hg with ⟨e, -⟩ | ⟨e, -⟩ | ⟨-, hg⟩ | ⟨e, -⟩ <;> first | exact ⟨h1, h2, h3, h4, hg, h6⟩ | exact absurd e (by decide)
  | 4, _, hg => by
    obtain ⟨⟨h0, h1, h3⟩, h2⟩ := h
    rcases hg with ⟨e, -⟩ | ⟨e, -⟩ | ⟨e, -⟩ | ⟨-, hg⟩ <;> first | exact ⟨⟨h0, hg, h3⟩, h2⟩ | exact absurd e (by decide)
  | n + 5, q, _ => absurd q (by omega)
theorem okU_srv {T : Int32} {V : Nat → Int32} (h : okU T V) (h0 : 0 ≤ T) (hT : T ≤ 200000) : okU T (srvV V) := by
  obtain ⟨h1, h2, h3, h4, h5, h6, h7⟩ := h
  refine ⟨h1, h2, h3, h4, h5, ⟨Int32.le_refl _, ?_⟩, ⟨Int32.le_refl _, h0⟩⟩
  exact Int32.le_trans h6.1 h6.2
theorem okU_stm {T : Int32} {V : Nat → Int32} {p : Int32} (h : okU T V) (hp : 0 ≤ p ∧ p ≤ 1000) : okU T (stmV V p) := by
  obtain ⟨⟨h0, h4, h5, h7, h8, h10⟩, h2, h3⟩ := h
  exact ⟨⟨h0, h4, h5, h7, hp, Or.inl rfl⟩, Or.inr (Or.inl rfl), h3⟩
theorem okW_sig {t : TS} {u : Int32} (h : okW t) (hu : 0 ≤ u ∧ u ≤ 1000) : okW (updF t.1 0 u, t.2) := ⟨okJ_sig h.1 hu, h.2⟩
theorem okW_tun {t : TS} {x : Int32} (h : okW t) {w : Nat} (hw : w < 4) (hg : gC4 (oN w) x) : okW (updF t.1 (1 + w) x, t.2) := by
  have e : updF t.1 (1 + w) x 5 = t.1 5 := by
    unfold updF
    rw [if_neg (by omega)]
  refine ⟨okJ_tun h.1 w hw hg, ?_, ?_⟩
  · show okU (updF t.1 (1 + w) x 5) t.2.1
    rw [e]
    exact h.2.1
  · show okU (updF t.1 (1 + w) x 5) t.2.2.1
    rw [e]
    exact h.2.2
theorem okW_it {t : TS} (h : okW t) {k : Nat} (h5 : t.1 5 = oN k) : ∀ n, k + n ≤ 200000 → okW (itT t n) ∧ (itT t n).1 5 = oN (k + n)
  | 0, _ => ⟨h, h5⟩
  | n + 1, hn => by
    obtain ⟨a, b⟩ := okW_it h h5 n (by omega)
    refine ⟨okW_tick a ?_, ?_⟩
    · rw [b]
      exact (oN_lt (b := 200000) (by omega) (by decide)).mpr (by omega)
    · show (tickT (itT t n)).1 5 = _
      rw [tickT_5, b]
      exact oN_1
section CALLS
variable {X : Nat × (Nat → Int32)} {B : Nat} {σ τ : XH}
theorem kL_ranges (hJ : JJ B σ) {v : Nat} (hv : v < 2) {a b f : Int32} (hg : gR a b) (hf : f = 0 ∨ f = 1) (hl : lTS τ = setV (lTS σ) v (rngV (vT (lTS σ) v) a b f)) (hq : xFq PL σ τ) : ∃ σ2, fL_ranges X [xR 6 0, xI (oN v), xI a, xI b, xI f] τ = some (.inl (some (xI (10000 * vT (lTS σ) v 5 + vT (lTS σ) v 6))), σ2) ∧ JJ B σ2 := by
  obtain ⟨S, m, h1, h2, h3, k, hk, h4⟩ := hJ
  have hc := wX7_setRange X τ v a b f S m (by rw [fq_c hq, h1]; exact h2.1.1) (fq_S hq h3) hv hg hf
  rw [fq_c hq, h1] at hc
  obtain ⟨σ2, e, hJ2⟩ := jj_set hc hl (okW_V h2 hv (fun z => okU_rng z hg)) hk (by rw [setV_11]; exact h4)
  exact ⟨σ2, (wL_ranges X τ (oN v) a b f).1 _ _ e, hJ2⟩
theorem kL_sets (hJ : JJ B σ) {v w : Nat} (hv : v < 2) (hw : w < 5) {x : Int32} (hg : gS (oN w) x) (hl : lTS τ = setV (lTS σ) v (updF (vT (lTS σ) v) w x)) (hq : xFq PL σ τ) : ∃ σ2, fL_sets X [xR 6 0, xI (oN v), xI (oN w), xI x] τ = some (.inl (some (xI (vT (lTS σ) v w))), σ2) ∧ JJ B σ2 := by
  obtain ⟨S, m, h1, h2, h3, k, hk, h4⟩ := hJ
  have hc := wX7_setValve X τ v w x S m (by rw [fq_c hq, h1]; exact h2.1.1) (fq_S hq h3) hv hw hg
  rw [fq_c hq, h1] at hc
  obtain ⟨σ2, e, hJ2⟩ := jj_set hc hl (okW_V h2 hv (fun z => okU_sets z w hw hg)) hk (by rw [setV_11]; exact h4)
  exact ⟨σ2, (wL_sets X τ (oN v) (oN w) x).1 _ _ e, hJ2⟩
theorem kL_signals (hJ : JJ B σ) {u : Int32} (hu : 0 ≤ u ∧ u ≤ 1000) (hl : lTS τ = (updF (lTS σ).1 0 u, (lTS σ).2)) (hq : xFq PL σ τ) : ∃ σ2, fL_signals X [xR 6 0, xI u] τ = some (.inl (some (xI ((lTS σ).1 0))), σ2) ∧ JJ B σ2 := by
  obtain ⟨S, m, h1, h2, h3, k, hk, h4⟩ := hJ
  have hc := wX7_setSignal X τ u S m (by rw [fq_c hq, h1]; exact h2.1.1) (fq_S hq h3) hu
  rw [fq_c hq, h1] at hc
  obtain ⟨σ2, e, hJ2⟩ := jj_set hc hl (okW_sig h2 hu) hk h4
  exact ⟨σ2, (wL_signals X τ u).1 _ _ e, hJ2⟩
theorem kL_tunes (hJ : JJ B σ) {w : Nat} (hw : w < 4) {x : Int32} (hg : gC4 (oN w) x) (hl : lTS τ = (updF (lTS σ).1 (1 + w) x, (lTS σ).2)) (hq : xFq PL σ τ) : ∃ σ2, fL_tunes X [xR 6 0, xI (oN w), xI x] τ = some (.inl (some (xI ((lTS σ).1 (1 + w)))), σ2) ∧ JJ B σ2 := by
  obtain ⟨S, m, h1, h2, h3, k, hk, h4⟩ := hJ
  have hc := wX7_tune X τ w x S m (by rw [fq_c hq, h1]; exact h2.1.1) (fq_S hq h3) hw hg
  rw [fq_c hq, h1] at hc
  obtain ⟨σ2, e, hJ2⟩ := jj_set hc hl (okW_tun h2 hw hg) hk (by
    show updF (lTS σ).1 (1 + w) x 5 = oN k
    unfold updF
    rw [if_neg (by omega)]
    exact h4)
  exact ⟨σ2, (wL_tunes X τ (oN w) x).1 _ _ e, hJ2⟩
theorem kL_serves (hJ : JJ B σ) {v : Nat} (hv : v < 2) (hl : lTS τ = setV (lTS σ) v (srvV (vT (lTS σ) v))) (hq : xFq PL σ τ) : ∃ σ2, fL_serves X [xR 6 0, xI (oN v)] τ = some (.inl (some (xI (wearV (vT (lTS σ) v)))), σ2) ∧ JJ B σ2 := by
  obtain ⟨S, m, h1, h2, h3, k, hk, h4⟩ := hJ
  have hc := wX7_service X τ v S m (by rw [fq_c hq, h1]; exact h2.1.1) (fq_S hq h3) hv
  rw [fq_c hq, h1] at hc
  obtain ⟨σ2, e, hJ2⟩ := jj_set hc hl (okW_V h2 hv (fun z => okU_srv z h2.1.2.1 h2.1.2.2)) hk (by rw [setV_11]; exact h4)
  exact ⟨σ2, (wL_serves X τ (oN v)).1 _ _ e, hJ2⟩
theorem kL_serves_v {v : Int32} (hv : ¬ (0 ≤ v ∧ v ≤ 1)) : fL_serves X [xR 6 0, xI v] τ = some (.inl (some (xI (-2000000001))), τ) := (wL_serves X τ v).2 (wX7_service_v X τ v hv)
theorem kL_stems (hJ : JJ B σ) {v : Nat} (hv : v < 2) {p : Int32} (hp : 0 ≤ p ∧ p ≤ 1000) (hl : lTS τ = setV (lTS σ) v (stmV (vT (lTS σ) v) p)) (hq : xFq PL σ τ) : ∃ σ2, fL_stems X [xR 6 0, xI (oN v), xI p] τ = some (.inl (some (xI (vT (lTS σ) v 8))), σ2) ∧ JJ B σ2 := by
  obtain ⟨S, m, h1, h2, h3, k, hk, h4⟩ := hJ
  have hc := wX7_putStem X τ v p S m (by rw [fq_c hq, h1]; exact h2.1.1) (fq_S hq h3) hv hp
  rw [fq_c hq, h1] at hc
  obtain ⟨σ2, e, hJ2⟩ := jj_set hc hl (okW_V h2 hv (fun z => okU_stm z hp)) hk (by rw [setV_11]; exact h4)
  exact ⟨σ2, (wL_stems X τ (oN v) p).1 _ _ e, hJ2⟩
theorem kL_runs (hJ : JJ B σ) {n : Nat} (h1n : 1 ≤ n) (hn : n ≤ 400) (hB : B ≤ 100000) (hl : lTS τ = itT (lTS σ) n) (hq : xFq PL σ τ) : ∃ σ2, fL_runs X [xR 6 0, xI (oN n)] τ = some (.inl (some (xI (cnT (lTS σ) n))), σ2) ∧ JJ (B + 400) σ2 := by
  obtain ⟨S, m, h1, h2, h3, k, hk, h4⟩ := hJ
  have ht : (cTS τ 0).1 5 + oN n ≤ 200000 := by
    rw [fq_c hq, h1, h4, oN_add]
    exact (oN_le (b := 200000) (by omega) (by decide)).mpr (by omega)
  have hc := wX7_run X τ n S m (by rw [fq_c hq, h1]; exact h2.1.1) (fq_S hq h3) h1n (by omega) ht
  rw [fq_c hq, h1] at hc
  obtain ⟨a, b⟩ := okW_it h2 h4 n (by omega)
  obtain ⟨σ2, e, hJ2⟩ := jj_set hc hl a (B := B + 400) (k := k + n) (by omega) b
  exact ⟨σ2, (wL_runs X τ (oN n)).1 _ _ e, hJ2⟩
end CALLS
