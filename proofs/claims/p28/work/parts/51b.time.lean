/-! ===== pure words of the class (out of the proof of whole, by wip/p28/gen/prune.py) ===== -/
def okJ (t : TS) : Prop := okT t ∧ 0 ≤ t.1 5 ∧ t.1 5 ≤ 200000
theorem setV_11 {t : TS} {v : Nat} {V : Nat → Int32} : (setV t v V).1 = t.1 := by
  cases v <;> rfl
theorem okJ_V {t : TS} (h : okJ t) {v : Nat} (hv : v < 2) {V : Nat → Int32} (hV : okV (vT t v) → okV V) : okJ (setV t v V) := ⟨okT_V h.1 hv hV, by rw [setV_11]; exact h.2⟩
theorem okJ_sig {t : TS} {u : Int32} (h : okJ t) (hu : 0 ≤ u ∧ u ≤ 1000) : okJ (updF t.1 0 u, t.2) := ⟨okT_sig h.1 hu, h.2⟩
theorem okJ_tun {t : TS} {x : Int32} (h : okJ t) (w : Nat) (hw : w < 4) (hg : gC4 (oN w) x) : okJ (updF t.1 (1 + w) x, t.2) := by
  refine ⟨okT_tun h.1 w hw hg, ?_⟩
  have e : updF t.1 (1 + w) x 5 = t.1 5 := by
    unfold updF
    rw [if_neg (by omega)]
  show 0 ≤ updF t.1 (1 + w) x 5 ∧ updF t.1 (1 + w) x 5 ≤ 200000
  rw [e]
  exact h.2
theorem endT_5 (t : TS) (a b c d : Int32) : (endT t a b c d).1 5 = t.1 5 + 1 := rfl
theorem ctlT_5 (t : TS) : (ctlT t).1 5 = t.1 5 := by
  unfold ctlT
  split
  · rfl
  · rfl
theorem movT_5 (t : TS) : (movT t).1 5 = t.1 5 := rfl
theorem tickT_5 (t : TS) : (tickT t).1 5 = t.1 5 + 1 := by
  unfold tickT
  rw [endT_5, movT_5, ctlT_5]
theorem itT_5 (t : TS) : ∀ k, (itT t k).1 5 = t.1 5 + oN k
  | 0 => (Int32.add_zero _).symm
  | k + 1 => by
    show (tickT (itT t k)).1 5 = _
    rw [tickT_5, itT_5 t k, Int32.add_assoc, show (1 : Int32) = oN 1 from rfl, oN_add]
theorem okJ_it {t : TS} (h : okJ t) {k : Nat} (hk : k ≤ 500) (ht : t.1 5 + oN k ≤ 200000) : okJ (itT t k) := by
  refine ⟨okT_it h.1 k, ?_⟩
  rw [itT_5]
  refine ⟨?_, ht⟩
  obtain ⟨e1, e2⟩ := oN_of h.2.1
  have h2 := h.2.2
  rw [e1] at h2 ⊢
  have e3 := (oN_le (b := 200000) e2 (by decide)).mp h2
  rw [oN_add]
  exact oN_nn (by omega)
