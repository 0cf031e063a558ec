/-! ===== pure words of the class (out of the proof of whole, by wip/p28/gen/prune.py) ===== -/
theorem t500 {x : Int32} (h : 1 ≤ x ∧ x ≤ 500) : x = oN x.toNatClampNeg ∧ 1 ≤ x.toNatClampNeg ∧ x.toNatClampNeg ≤ 500 := by
  obtain ⟨e1, e2⟩ := oN_of (Int32.le_trans (by decide) h.1)
  have h2 := h.2
  have h1 := h.1
  rw [e1] at h2 h1
  have a := (oN_le (b := 500) e2 (by decide)).mp h2
  have b := (oN_le (a := 1) (by decide) e2).mp h1
  exact ⟨e1, b, a⟩
theorem okT_V {t : TS} (h : okT t) {v : Nat} (hv : v < 2) {V : Nat → Int32} (hV : okV (vT t v) → okV V) : okT (setV t v V) := okT_set h hv (hV (okT_v h hv))
theorem okT_sig {t : TS} {u : Int32} (h : okT t) (hu : 0 ≤ u ∧ u ≤ 1000) : okT (updF t.1 0 u, t.2) := by
  obtain ⟨h1, h2, h3, h4⟩ := h
  exact ⟨h1, h2, hu, h4⟩
theorem okT_tun {t : TS} {x : Int32} (h : okT t) : ∀ w, w < 4 → gC4 (oN w) x → okT (updF t.1 (1 + w) x, t.2)
  | 0, _, hg => by
    obtain ⟨h1, h2, h3, h4, h5⟩ := h
    rcases hg with ⟨-, hg⟩ | ⟨e, -⟩ | ⟨e, -⟩ | ⟨e, -⟩ <;> first | exact ⟨h1, h2, h3, (by have : x = 0 ∨ x = 1 := (by grind); exact this), h5⟩ | exact absurd e (by decide)
  | 1, _, hg => h
  | 2, _, hg => h
  | 3, _, hg => by
    obtain ⟨h1, h2, h3, h4, h5, h6⟩ := h
    rcases hg with ⟨e, -⟩ | ⟨e, -⟩ | ⟨e, -⟩ | ⟨-, hg⟩ <;> first | exact ⟨h1, h2, h3, h4, hg, h6⟩ | exact absurd e (by decide)
  | n + 4, q, _ => absurd q (by omega)
