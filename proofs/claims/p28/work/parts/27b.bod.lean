/-! ===== pure words of the class (out of the proof of whole, by wip/p28/gen/prune.py) ===== -/
theorem setV_1 (t : TS) (v : Nat) (V : Nat → Int32) : (setV t v V).1 = t.1 := by
  unfold setV
  split <;> rfl
def bodM (t : TS) (e : (Nat → Int32) × Nat) (l : Int32) : TS := (updF (updF t.1 9 (oN e.2)) 8 (t.1 8 + l), t.2.1, t.2.2.1, e.1)
theorem bodT_M (t : TS) (v : Nat) (a c : Int32) : bodT t v a c = bodM t (ledL t.2.2.2 (entN t) (oN v) (t.1 5 / 100) a c (lkV (vT t v))) (lkV (vT t v)) := rfl
theorem okT_M {t : TS} {e : (Nat → Int32) × Nat} {l : Int32} (h : okT t) (hn : e.2 ≤ 12) (hk : keyA e.1 e.2) : okT (bodM t e l) := okT_of h h.1 h.2.1 rfl rfl rfl hn rfl hk
theorem okT_set {t : TS} (h : okT t) {v : Nat} (hv : v < 2) {V : Nat → Int32} (hV : okV V) : okT (setV t v V) := by
  have hv2 : v = 0 ∨ v = 1 := by omega
  obtain ⟨h1, h2, h3⟩ := h
  rcases hv2 with rfl | rfl
  · exact ⟨hV, h2, h3⟩
  · exact ⟨h1, hV, h3⟩
theorem okT_v {t : TS} (h : okT t) {v : Nat} (hv : v < 2) : okV (vT t v) := by
  have hv2 : v = 0 ∨ v = 1 := by omega
  rcases hv2 with rfl | rfl
  · exact h.1
  · exact h.2.1
theorem okT_bodC {t : TS} (h : okT t) {v : Nat} (hv : v < 2) : okT (bodC t v) := by
  have hs := okT_set h hv (okV_shift (okT_v h hv) (dem_rng (okT_v h hv) (t.1 0)))
  unfold bodC
  rw [bodT_M]
  exact okT_M hs (ledL_rng (okT_n hs).2) (keyA_led (okT_n hs).2 hs.2.2.2.2.2.2)
theorem updF_86 {g : Nat → Int32} {a b c d e f : Int32} : updF (updF (updF (updF (updF (updF g 9 a) 8 b) 9 c) 8 d) 6 e) 7 f = updF (updF (updF (updF (updF (updF g 6 e) 7 f) 9 a) 8 b) 9 c) 8 d := by
  funext i
  unfold updF
  grind
theorem volM2 (w : TS) (e0 e1 : (Nat → Int32) × Nat) (l0 l1 : Int32) : volT (bodM (bodM w e0 l0) e1 l1) = bodM (bodM (volT w) e0 l0) e1 l1 := Prod.ext updF_86 rfl
theorem setM (t : TS) (e : (Nat → Int32) × Nat) (l : Int32) (V : Nat → Int32) : setV (bodM t e l) 1 V = bodM (setV t 1 V) e l := rfl
theorem entN_M (t : TS) (e : (Nat → Int32) × Nat) (l : Int32) : entN (bodM t e l) = (oN e.2).toNatClampNeg := rfl
theorem M_5 (t : TS) (e : (Nat → Int32) × Nat) (l : Int32) : (bodM t e l).1 5 = t.1 5 := rfl
theorem M_L (t : TS) (e : (Nat → Int32) × Nat) (l : Int32) : (bodM t e l).2.2.2 = e.1 := rfl
theorem M_v (t : TS) (e : (Nat → Int32) × Nat) (l : Int32) (v : Nat) : vT (bodM t e l) v = vT t v := by
  unfold vT
  split <;> rfl
theorem bodC_M {t : TS} {v : Nat} (hv : v < 2) : bodC t v = bodM (setV t v (shiftV (vT t v) (byT t v))) (ledL t.2.2.2 (entN t) (oN v) (t.1 5 / 100) (abI (byT t v)) (turnV (vT t v) (byT t v)) (lkV (shiftV (vT t v) (byT t v)))) (lkV (shiftV (vT t v) (byT t v))) := by
  unfold bodC
  generalize shiftV (vT t v) (byT t v) = V
  generalize turnV (vT t v) (byT t v) = c
  generalize byT t v = b
  rw [bodT_M]
  have hv2 : v = 0 ∨ v = 1 := by omega
  rcases hv2 with rfl | rfl <;> rfl
theorem by_M (u : TS) (V : Nat → Int32) (e : (Nat → Int32) × Nat) (l : Int32) : byT (bodM (setV u 0 V) e l) 1 = byT u 1 := rfl
theorem vol_5 (t : TS) : (volT t).1 5 = t.1 5 := rfl
theorem vol_e (t : TS) : entN (volT t) = entN t := rfl
theorem vol_L (t : TS) : (volT t).2.2.2 = t.2.2.2 := rfl
theorem vol_v (t : TS) (v : Nat) : vT (volT t) v = vT t v := by
  unfold vT
  split <;> rfl
theorem bodC_gen (u : TS) (V0 V1 : Nat → Int32) (a0 c0 a1 c1 : Int32) : volT (bodM (setV (bodM (setV u 0 V0) (ledL u.2.2.2 (entN u) (oN 0) (u.1 5 / 100) a0 c0 (lkV V0)) (lkV V0)) 1 V1) (ledL (bodM (setV u 0 V0) (ledL u.2.2.2 (entN u) (oN 0) (u.1 5 / 100) a0 c0 (lkV V0)) (lkV V0)).2.2.2 (entN (bodM (setV u 0 V0) (ledL u.2.2.2 (entN u) (oN 0) (u.1 5 / 100) a0 c0 (lkV V0)) (lkV V0))) (oN 1) ((bodM (setV u 0 V0) (ledL u.2.2.2 (entN u) (oN 0) (u.1 5 / 100) a0 c0 (lkV V0)) (lkV V0)).1 5 / 100) a1 c1 (lkV V1)) (lkV V1)) = bodT (bodT (volT (u.1, V0, V1, u.2.2.2)) 0 a0 c0) 1 a1 c1 := by
  rw [bodT_M, bodT_M, vol_5, vol_e, vol_L, vol_v]
  have e1 : entN (u.1, V0, V1, u.2.2.2) = entN u := rfl
  have e2 : vT (u.1, V0, V1, u.2.2.2) 0 = V0 := rfl
  rw [e1, e2]
  generalize hE : ledL u.2.2.2 (entN u) (oN 0) (u.1 5 / 100) a0 c0 (lkV V0) = E0
  rw [setM, volM2, entN_M, entN_M, M_5, M_5, M_L, M_L, M_v, vol_v, vol_5]
  rfl
theorem bodC_eq {u : TS} (h : okT u) : (updF (volT (bodC (bodC u 0) 1)).1 5 ((bodC (bodC u 0) 1).1 5 + 1), (volT (bodC (bodC u 0) 1)).2) = endT (movT u) (byT u 0) (byT u 1) (turnV u.2.1 (byT u 0)) (turnV u.2.2.1 (byT u 1)) := by
  rw [← tick_eq (okT_mov h), ← vol_5]
  have q : volT (bodC (bodC u 0) 1) = bodT (bodT (volT (movT u)) 0 (abI (byT u 0)) (turnV u.2.1 (byT u 0))) 1 (abI (byT u 1)) (turnV u.2.2.1 (byT u 1)) := by
    rw [bodC_M (t := bodC u 0) (by decide), bodC_M (t := u) (by decide), by_M, M_v]
    exact bodC_gen u _ _ _ _ _ _
  rw [q]

