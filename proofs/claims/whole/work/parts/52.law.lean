/-! ===== the relation between class and reference; the law's own methods ===== -/
def J (σ : XH) : Prop := ∃ (S : Nat → TS) (m : Nat) (b : Nat → Int32) (n : Nat), cTS σ 0 = mTS σ ∧ okJ (mTS σ) ∧ CSt σ S m ∧ MSt σ S m ∧ (∀ i, i < m → okJ (S i)) ∧ TxC σ b n ∧ TxM σ b n
theorem m_keep {σ σ1 : XH} (h : ∀ c j i, (c = 7 ∨ (c = 9 ∧ 2 ≤ j)) → σ1.1 c j i = σ.1 c j i) : mTS σ1 = mTS σ ∧ (∀ S m, MSt σ S m → MSt σ1 S m) ∧ (∀ b n, TxM σ b n → TxM σ1 b n) :=
  ⟨aTS_cg fun i _ => h _ _ _ (by omega), fun S m hS => SK.st ⟨h _ _ _ (by omega), fun i => h _ _ _ (by omega)⟩ hS, fun b n hT => ⟨(h _ _ _ (by omega)).trans hT.1, hT.2.1, fun i hi => ⟨(h _ _ _ (by omega)).trans (hT.2.2 i hi).1, (hT.2.2 i hi).2⟩⟩⟩
theorem c_keep {σ σ1 : XH} (h : ∀ c j i, ¬ (c = 7 ∨ (c = 9 ∧ 2 ≤ j)) → σ1.1 c j i = σ.1 c j i) : (∀ j, cTS σ1 j = cTS σ j) ∧ (∀ S m, CSt σ S m → CSt σ1 S m) ∧ (∀ b n, TxC σ b n → TxC σ1 b n) := by
  have hc : ∀ j, cTS σ1 j = cTS σ j := fun j => cTS_i (fun i => h _ _ _ (by omega)) (h _ _ _ (by omega)) (fun i => h _ _ _ (by omega)) (fun i => h _ _ _ (by omega)) (fun i => h _ _ _ (by omega))
  refine ⟨hc, fun S m hS => ?_, fun b n hT => ⟨(h _ _ _ (by omega)).trans hT.1, hT.2.1, fun i hi => ⟨(h _ _ _ (by omega)).trans (hT.2.2 i hi).1, (hT.2.2 i hi).2⟩⟩⟩
  obtain ⟨h1, h2, l, hl, h3, h4⟩ := hS
  exact ⟨h1, (h _ _ _ (by omega)).trans h2, l, hl, (h _ _ _ (by omega)).trans h3, fun i hi => (hc _).trans (h4 i hi)⟩
theorem j_mk {σ1 σ2 : XH} {S : Nat → TS} {m : Nat} {b : Nat → Int32} {n : Nat} {t : TS} (hk : ∀ c j i, ¬ (c = 7 ∨ (c = 9 ∧ 2 ≤ j)) → σ2.1 c j i = σ1.1 c j i) (c1 : CSt σ1 S m) (c2 : cTS σ1 0 = t) (c3 : TxC σ1 b n) (m1 : MSt σ2 S m) (m2 : mTS σ2 = t) (m3 : TxM σ2 b n) (ok : okJ t) (okS : ∀ i, i < m → okJ (S i)) : J σ2 := by
  obtain ⟨k1, k2, k3⟩ := c_keep hk
  exact ⟨S, m, b, n, by rw [k1, c2, m2], by rw [m2]; exact ok, k2 _ _ c1, m1, okS, k3 _ _ c3, m3⟩
theorem push_ok {S : Nat → TS} {m : Nat} {t : TS} (h : ∀ i, i < m → okJ (S i)) (ht : okJ t) : ∀ i, i < min (m + 1) 4 → okJ (pushS S t i)
  | 0, _ => ht
  | i + 1, hi => h i (by omega)
/-- a call of both: the class's answer by the law's own method, then the reference's -/
def stpR (o1 : Option (XR × XH)) (ml : XH → Option (XR × XH)) : Prop := ∃ (k : Int32) (σ1 : XH) (b : Int32) (σ2 : XH), o1 = some (.inl (some (xI k)), σ1) ∧ ml σ1 = some (.inl (some (xI b)), σ2) ∧ J σ2 ∧ σ2.1 7 0 6 = k ∧ (k = 0 → σ2.2.1 10 0 0 = b.toInt64)
theorem uL_10 {σ : XH} {x : Int64} : (xuL σ 10 0 0 x).2.1 10 0 0 = x := rfl
theorem stp_set {o1 : Option (XR × XH)} {cl : Option (XR × XH)} {ml : XH → Option (XR × XH)} {σ : XH} {S : Nat → TS} {m : Nat} {b : Nat → Int32} {n : Nat} {a : Int32} {t : TS}
    (h1 : cTS σ 0 = mTS σ) (h2 : okJ (mTS σ)) (h4 : MSt σ S m) (h5 : ∀ i, i < m → okJ (S i)) (h6 : TxC σ b n) (h7 : TxM σ b n)
    (hw : ∀ v σ', cl = some (.inl (some (xI v)), σ') → o1 = some (.inl (some (xI 0)), xuL σ' 10 0 0 v.toInt64)) (hc : wF cl (cOK σ S m a t)) (hm : ∀ σ1, mTS σ1 = mTS σ → MSt σ1 S m → wF (ml σ1) (apiOK σ1 S m a t)) (ht : okJ t) : stpR o1 ml := by
  obtain ⟨r, a1, σ', rfl, a2, a3, a4⟩ := hc
  have hk := m_keep (σ := σ) (σ1 := xuL σ' 10 0 0 a.toInt64) (fun c j i h => a4.1 _ _ _ (by unfold PK; omega))
  obtain ⟨r, b1, σ2, rfl, b2, b3, b4, b5⟩ := hm (xuL σ' 10 0 0 a.toInt64) hk.1 (hk.2.1 _ _ h4)
  refine ⟨0, _, a, σ2, hw _ _ a1, b1, ?_, b4, fun _ => ?_⟩
  · rw [hk.1] at b2
    rw [h1] at a2
    refine j_mk b5.1 (show CSt (xuL σ' 10 0 0 a.toInt64) _ _ from a2) (show cTS (xuL σ' 10 0 0 a.toInt64) 0 = t from a3) (b := b) (n := n) ?_ b2 b3 (b5.kw.tx (hk.2.2 _ _ h7)) ht (push_ok h5 h2)
    exact ⟨(a4.1 _ _ _ (by unfold PK; omega)).trans h6.1, h6.2.1, fun i hi => ⟨(a4.1 _ _ _ (by unfold PK; omega)).trans (h6.2.2 i hi).1, (h6.2.2 i hi).2⟩⟩
  · rw [b5.2.2.2.1]
    rfl
/-- both say no -/
theorem stp_no {o1 : Option (XR × XH)} {ml : XH → Option (XR × XH)} {σ : XH} {k : Int32} (hJ : J σ) (hk : k ≠ 0) (hw : o1 = some (.inl (some (xI k)), σ)) (hm : wF (ml σ) (apiNo σ 0 k)) : stpR o1 ml := by
  obtain ⟨S, m, b, n, h1, h2, h3, h4, h5, h6, h7⟩ := hJ
  obtain ⟨r, b1, σ2, rfl, b2, b3, b4, b5⟩ := hm
  exact ⟨k, σ, 0, σ2, hw, b1, j_mk b5.1 h3 h1 h6 (b2.st h4) b3 (b5.kw.tx h7) h2 h5, b4, fun q => absurd q hk⟩
/-- a question: the class leaves all but its copy for what-if questions, the reference all -/
theorem stp_val {o1 : Option (XR × XH)} {cl : Option (XR × XH)} {ml : XH → Option (XR × XH)} {σ : XH} {a : Int32} (hJ : J σ) (hw : ∀ v σ', cl = some (.inl (some (xI v)), σ') → o1 = some (.inl (some (xI 0)), xuL σ' 10 0 0 v.toInt64)) (hc : wF cl (cNo σ a)) (hm : ∀ σ1, mTS σ1 = mTS σ → wF (ml σ1) (apiNo σ1 a 0)) : stpR o1 ml := by
  obtain ⟨S, m, b, n, h1, h2, h3, h4, h5, h6, h7⟩ := hJ
  obtain ⟨r, a1, σ', rfl, a4⟩ := hc
  have hk := m_keep (σ := σ) (σ1 := xuL σ' 10 0 0 a.toInt64) (fun c j i h => a4.1 _ _ _ (by unfold PT; omega))
  obtain ⟨r, b1, σ2, rfl, b2, b3, b4, b5⟩ := hm (xuL σ' 10 0 0 a.toInt64) hk.1
  refine ⟨0, _, a, σ2, hw _ _ a1, b1, ?_, b4, fun _ => ?_⟩
  · have hc0 : cTS σ' 0 = cTS σ 0 := cTS_PT a4 (by decide)
    have hcs : CSt σ' S m := by
      obtain ⟨g1, g2, l, hl, g3, g4⟩ := h3
      exact ⟨g1, (a4.1 _ _ _ (by unfold PT; omega)).trans g2, l, hl, (a4.1 _ _ _ (by unfold PT; omega)).trans g3, fun i hi => (cTS_PT a4 (by omega)).trans (g4 i hi)⟩
    have hct : TxC σ' b n := ⟨(a4.1 _ _ _ (by unfold PT; omega)).trans h6.1, h6.2.1, fun i hi => ⟨(a4.1 _ _ _ (by unfold PT; omega)).trans (h6.2.2 i hi).1, (h6.2.2 i hi).2⟩⟩
    exact j_mk b5.1 (show CSt (xuL σ' 10 0 0 a.toInt64) _ _ from hcs) (show cTS (xuL σ' 10 0 0 a.toInt64) 0 = mTS σ from hc0.trans h1) hct (b2.st (hk.2.1 _ _ h4)) (b3.trans hk.1) (b5.kw.tx (hk.2.2 _ _ h7)) h2 h5
  · rw [b5.2.2.2.1]
    rfl
theorem cNo_of {σ : XH} {a : Int32} {o : Option (XR × XH)} (h : o = some (.inl (some (xI a)), σ)) : wF o (cNo σ a) := wF_of h ⟨σ, rfl, xFr.rf⟩
set_option maxRecDepth 100000 in
set_option maxHeartbeats 1000000 in
theorem wL_setRange (X : Nat × (Nat → Int32)) (σ : XH) (p0 p1 p2 p3 : Int32) : (∀ v σ', fX7_setRange X [xR 6 0, xI p0, xI p1, xI p2, xI p3] σ = some (.inl (some (xI v)), σ') → fL_setRange X [xR 6 0, xI p0, xI p1, xI p2, xI p3, xR 10 0] σ = some (.inl (some (xI 0)), xuL σ' 10 0 0 v.toInt64)) ∧ (fX7_setRange X [xR 6 0, xI p0, xI p1, xI p2, xI p3] σ = some (.inr 0, σ) → fL_setRange X [xR 6 0, xI p0, xI p1, xI p2, xI p3, xR 10 0] σ = some (.inl (some (xI 1)), σ)) ∧ (fX7_setRange X [xR 6 0, xI p0, xI p1, xI p2, xI p3] σ = some (.inr 1, σ) → fL_setRange X [xR 6 0, xI p0, xI p1, xI p2, xI p3, xR 10 0] σ = some (.inl (some (xI 2)), σ)) := by
  refine ⟨fun v σ' h => ?_, fun h => ?_, fun h => ?_⟩
  · rw [uL_setRange]
    refine wF_eq (wI_s (N := 1) ?_)
    refine wF_of h ?_
    refine And.intro (by decide) ?_
    rfl
  · rw [uL_setRange]
    refine wF_eq (wI_s (N := 1) ?_)
    refine wF_of h ?_
    rfl
  · rw [uL_setRange]
    refine wF_eq (wI_s (N := 1) ?_)
    refine wF_of h ?_
    rfl
set_option maxRecDepth 100000 in
set_option maxHeartbeats 1000000 in
theorem wL_setValve (X : Nat × (Nat → Int32)) (σ : XH) (p0 p1 p2 : Int32) : (∀ v σ', fX7_setValve X [xR 6 0, xI p0, xI p1, xI p2] σ = some (.inl (some (xI v)), σ') → fL_setValve X [xR 6 0, xI p0, xI p1, xI p2, xR 10 0] σ = some (.inl (some (xI 0)), xuL σ' 10 0 0 v.toInt64)) ∧ (fX7_setValve X [xR 6 0, xI p0, xI p1, xI p2] σ = some (.inr 0, σ) → fL_setValve X [xR 6 0, xI p0, xI p1, xI p2, xR 10 0] σ = some (.inl (some (xI 1)), σ)) ∧ (fX7_setValve X [xR 6 0, xI p0, xI p1, xI p2] σ = some (.inr 1, σ) → fL_setValve X [xR 6 0, xI p0, xI p1, xI p2, xR 10 0] σ = some (.inl (some (xI 2)), σ)) := by
  refine ⟨fun v σ' h => ?_, fun h => ?_, fun h => ?_⟩
  · rw [uL_setValve]
    refine wF_eq (wI_s (N := 1) ?_)
    refine wF_of h ?_
    refine And.intro (by decide) ?_
    rfl
  · rw [uL_setValve]
    refine wF_eq (wI_s (N := 1) ?_)
    refine wF_of h ?_
    rfl
  · rw [uL_setValve]
    refine wF_eq (wI_s (N := 1) ?_)
    refine wF_of h ?_
    rfl
set_option maxRecDepth 100000 in
set_option maxHeartbeats 1000000 in
theorem wL_setSignal (X : Nat × (Nat → Int32)) (σ : XH) (p0 : Int32) : (∀ v σ', fX7_setSignal X [xR 6 0, xI p0] σ = some (.inl (some (xI v)), σ') → fL_setSignal X [xR 6 0, xI p0, xR 10 0] σ = some (.inl (some (xI 0)), xuL σ' 10 0 0 v.toInt64)) ∧ (fX7_setSignal X [xR 6 0, xI p0] σ = some (.inr 1, σ) → fL_setSignal X [xR 6 0, xI p0, xR 10 0] σ = some (.inl (some (xI 1)), σ)) := by
  refine ⟨fun v σ' h => ?_, fun h => ?_⟩
  · rw [uL_setSignal]
    refine wF_eq (wI_s (N := 1) ?_)
    refine wF_of h ?_
    refine And.intro (by decide) ?_
    rfl
  · rw [uL_setSignal]
    refine wF_eq (wI_s (N := 1) ?_)
    refine wF_of h ?_
    rfl
set_option maxRecDepth 100000 in
set_option maxHeartbeats 1000000 in
theorem wL_tune (X : Nat × (Nat → Int32)) (σ : XH) (p0 p1 : Int32) : (∀ v σ', fX7_tune X [xR 6 0, xI p0, xI p1] σ = some (.inl (some (xI v)), σ') → fL_tune X [xR 6 0, xI p0, xI p1, xR 10 0] σ = some (.inl (some (xI 0)), xuL σ' 10 0 0 v.toInt64)) ∧ (fX7_tune X [xR 6 0, xI p0, xI p1] σ = some (.inr 1, σ) → fL_tune X [xR 6 0, xI p0, xI p1, xR 10 0] σ = some (.inl (some (xI 1)), σ)) := by
  refine ⟨fun v σ' h => ?_, fun h => ?_⟩
  · rw [uL_tune]
    refine wF_eq (wI_s (N := 1) ?_)
    refine wF_of h ?_
    refine And.intro (by decide) ?_
    rfl
  · rw [uL_tune]
    refine wF_eq (wI_s (N := 1) ?_)
    refine wF_of h ?_
    rfl
set_option maxRecDepth 100000 in
set_option maxHeartbeats 1000000 in
theorem wL_service (X : Nat × (Nat → Int32)) (σ : XH) (p0 : Int32) : (∀ v σ', fX7_service X [xR 6 0, xI p0] σ = some (.inl (some (xI v)), σ') → fL_service X [xR 6 0, xI p0, xR 10 0] σ = some (.inl (some (xI 0)), xuL σ' 10 0 0 v.toInt64)) ∧ (fX7_service X [xR 6 0, xI p0] σ = some (.inr 0, σ) → fL_service X [xR 6 0, xI p0, xR 10 0] σ = some (.inl (some (xI 1)), σ)) := by
  refine ⟨fun v σ' h => ?_, fun h => ?_⟩
  · rw [uL_service]
    refine wF_eq (wI_s (N := 1) ?_)
    refine wF_of h ?_
    refine And.intro (by decide) ?_
    rfl
  · rw [uL_service]
    refine wF_eq (wI_s (N := 1) ?_)
    refine wF_of h ?_
    rfl
set_option maxRecDepth 100000 in
set_option maxHeartbeats 1000000 in
theorem wL_putStem (X : Nat × (Nat → Int32)) (σ : XH) (p0 p1 : Int32) : (∀ v σ', fX7_putStem X [xR 6 0, xI p0, xI p1] σ = some (.inl (some (xI v)), σ') → fL_putStem X [xR 6 0, xI p0, xI p1, xR 10 0] σ = some (.inl (some (xI 0)), xuL σ' 10 0 0 v.toInt64)) ∧ (fX7_putStem X [xR 6 0, xI p0, xI p1] σ = some (.inr 0, σ) → fL_putStem X [xR 6 0, xI p0, xI p1, xR 10 0] σ = some (.inl (some (xI 1)), σ)) ∧ (fX7_putStem X [xR 6 0, xI p0, xI p1] σ = some (.inr 1, σ) → fL_putStem X [xR 6 0, xI p0, xI p1, xR 10 0] σ = some (.inl (some (xI 2)), σ)) := by
  refine ⟨fun v σ' h => ?_, fun h => ?_, fun h => ?_⟩
  · rw [uL_putStem]
    refine wF_eq (wI_s (N := 1) ?_)
    refine wF_of h ?_
    refine And.intro (by decide) ?_
    rfl
  · rw [uL_putStem]
    refine wF_eq (wI_s (N := 1) ?_)
    refine wF_of h ?_
    rfl
  · rw [uL_putStem]
    refine wF_eq (wI_s (N := 1) ?_)
    refine wF_of h ?_
    rfl
set_option maxRecDepth 100000 in
set_option maxHeartbeats 1000000 in
theorem wL_run (X : Nat × (Nat → Int32)) (σ : XH) (p0 : Int32) : (∀ v σ', fX7_run X [xR 6 0, xI p0] σ = some (.inl (some (xI v)), σ') → fL_run X [xR 6 0, xI p0, xR 10 0] σ = some (.inl (some (xI 0)), xuL σ' 10 0 0 v.toInt64)) ∧ (fX7_run X [xR 6 0, xI p0] σ = some (.inr 1, σ) → fL_run X [xR 6 0, xI p0, xR 10 0] σ = some (.inl (some (xI 1)), σ)) ∧ (fX7_run X [xR 6 0, xI p0] σ = some (.inr 2, σ) → fL_run X [xR 6 0, xI p0, xR 10 0] σ = some (.inl (some (xI 2)), σ)) := by
  refine ⟨fun v σ' h => ?_, fun h => ?_, fun h => ?_⟩
  · rw [uL_run]
    refine wF_eq (wI_s (N := 1) ?_)
    refine wF_of h ?_
    refine And.intro (by decide) ?_
    rfl
  · rw [uL_run]
    refine wF_eq (wI_s (N := 1) ?_)
    refine wF_of h ?_
    rfl
  · rw [uL_run]
    refine wF_eq (wI_s (N := 1) ?_)
    refine wF_of h ?_
    rfl
set_option maxRecDepth 100000 in
set_option maxHeartbeats 1000000 in
theorem wL_valve (X : Nat × (Nat → Int32)) (σ : XH) (p0 p1 : Int32) : (∀ v σ', fX7_valve X [xR 6 0, xI p0, xI p1] σ = some (.inl (some (xI v)), σ') → fL_valve X [xR 6 0, xI p0, xI p1, xR 10 0] σ = some (.inl (some (xI 0)), xuL σ' 10 0 0 v.toInt64)) ∧ (fX7_valve X [xR 6 0, xI p0, xI p1] σ = some (.inr 0, σ) → fL_valve X [xR 6 0, xI p0, xI p1, xR 10 0] σ = some (.inl (some (xI 1)), σ)) ∧ (fX7_valve X [xR 6 0, xI p0, xI p1] σ = some (.inr 1, σ) → fL_valve X [xR 6 0, xI p0, xI p1, xR 10 0] σ = some (.inl (some (xI 2)), σ)) := by
  refine ⟨fun v σ' h => ?_, fun h => ?_, fun h => ?_⟩
  · rw [uL_valve]
    refine wF_eq (wI_s (N := 1) ?_)
    refine wF_of h ?_
    refine And.intro (by decide) ?_
    rfl
  · rw [uL_valve]
    refine wF_eq (wI_s (N := 1) ?_)
    refine wF_of h ?_
    rfl
  · rw [uL_valve]
    refine wF_eq (wI_s (N := 1) ?_)
    refine wF_of h ?_
    rfl
set_option maxRecDepth 100000 in
set_option maxHeartbeats 1000000 in
theorem wL_pair (X : Nat × (Nat → Int32)) (σ : XH) (p0 : Int32) : (∀ v σ', fX7_pair X [xR 6 0, xI p0] σ = some (.inl (some (xI v)), σ') → fL_pair X [xR 6 0, xI p0, xR 10 0] σ = some (.inl (some (xI 0)), xuL σ' 10 0 0 v.toInt64)) ∧ (fX7_pair X [xR 6 0, xI p0] σ = some (.inr 1, σ) → fL_pair X [xR 6 0, xI p0, xR 10 0] σ = some (.inl (some (xI 1)), σ)) := by
  refine ⟨fun v σ' h => ?_, fun h => ?_⟩
  · rw [uL_pair]
    refine wF_eq (wI_s (N := 1) ?_)
    refine wF_of h ?_
    refine And.intro (by decide) ?_
    rfl
  · rw [uL_pair]
    refine wF_eq (wI_s (N := 1) ?_)
    refine wF_of h ?_
    rfl
set_option maxRecDepth 100000 in
set_option maxHeartbeats 1000000 in
theorem wL_ledger (X : Nat × (Nat → Int32)) (σ : XH) (p0 p1 : Int32) : (∀ v σ', fX7_ledger X [xR 6 0, xI p0, xI p1] σ = some (.inl (some (xI v)), σ') → fL_ledger X [xR 6 0, xI p0, xI p1, xR 10 0] σ = some (.inl (some (xI 0)), xuL σ' 10 0 0 v.toInt64)) ∧ (fX7_ledger X [xR 6 0, xI p0, xI p1] σ = some (.inr 1, σ) → fL_ledger X [xR 6 0, xI p0, xI p1, xR 10 0] σ = some (.inl (some (xI 1)), σ)) := by
  refine ⟨fun v σ' h => ?_, fun h => ?_⟩
  · rw [uL_ledger]
    refine wF_eq (wI_s (N := 1) ?_)
    refine wF_of h ?_
    refine And.intro (by decide) ?_
    rfl
  · rw [uL_ledger]
    refine wF_eq (wI_s (N := 1) ?_)
    refine wF_of h ?_
    rfl
set_option maxRecDepth 100000 in
set_option maxHeartbeats 1000000 in
theorem wL_ledgerSum (X : Nat × (Nat → Int32)) (σ : XH) (p0 p1 : Int32) : (∀ v σ', fX7_ledgerSum X [xR 6 0, xI p0, xI p1] σ = some (.inl (some (xI v)), σ') → fL_ledgerSum X [xR 6 0, xI p0, xI p1, xR 10 0] σ = some (.inl (some (xI 0)), xuL σ' 10 0 0 v.toInt64)) ∧ (fX7_ledgerSum X [xR 6 0, xI p0, xI p1] σ = some (.inr 0, σ) → fL_ledgerSum X [xR 6 0, xI p0, xI p1, xR 10 0] σ = some (.inl (some (xI 1)), σ)) ∧ (fX7_ledgerSum X [xR 6 0, xI p0, xI p1] σ = some (.inr 1, σ) → fL_ledgerSum X [xR 6 0, xI p0, xI p1, xR 10 0] σ = some (.inl (some (xI 2)), σ)) := by
  refine ⟨fun v σ' h => ?_, fun h => ?_, fun h => ?_⟩
  · rw [uL_ledgerSum]
    refine wF_eq (wI_s (N := 1) ?_)
    refine wF_of h ?_
    refine And.intro (by decide) ?_
    rfl
  · rw [uL_ledgerSum]
    refine wF_eq (wI_s (N := 1) ?_)
    refine wF_of h ?_
    rfl
  · rw [uL_ledgerSum]
    refine wF_eq (wI_s (N := 1) ?_)
    refine wF_of h ?_
    rfl
set_option maxRecDepth 100000 in
set_option maxHeartbeats 1000000 in
theorem wL_idealFlow (X : Nat × (Nat → Int32)) (σ : XH) (p0 : Int32) : (∀ v σ', fX7_idealFlow X [xR 6 0, xI p0] σ = some (.inl (some (xI v)), σ') → fL_idealFlow X [xR 6 0, xI p0, xR 10 0] σ = some (.inl (some (xI 0)), xuL σ' 10 0 0 v.toInt64)) ∧ (fX7_idealFlow X [xR 6 0, xI p0] σ = some (.inr 1, σ) → fL_idealFlow X [xR 6 0, xI p0, xR 10 0] σ = some (.inl (some (xI 1)), σ)) := by
  refine ⟨fun v σ' h => ?_, fun h => ?_⟩
  · rw [uL_idealFlow]
    refine wF_eq (wI_s (N := 1) ?_)
    refine wF_of h ?_
    refine And.intro (by decide) ?_
    rfl
  · rw [uL_idealFlow]
    refine wF_eq (wI_s (N := 1) ?_)
    refine wF_of h ?_
    rfl
set_option maxRecDepth 100000 in
set_option maxHeartbeats 1000000 in
theorem wL_signalFor (X : Nat × (Nat → Int32)) (σ : XH) (p0 : Int32) : (∀ v σ', fX7_signalFor X [xR 6 0, xI p0] σ = some (.inl (some (xI v)), σ') → fL_signalFor X [xR 6 0, xI p0, xR 10 0] σ = some (.inl (some (xI 0)), xuL σ' 10 0 0 v.toInt64)) ∧ (fX7_signalFor X [xR 6 0, xI p0] σ = some (.inr 1, σ) → fL_signalFor X [xR 6 0, xI p0, xR 10 0] σ = some (.inl (some (xI 1)), σ)) := by
  refine ⟨fun v σ' h => ?_, fun h => ?_⟩
  · rw [uL_signalFor]
    refine wF_eq (wI_s (N := 1) ?_)
    refine wF_of h ?_
    refine And.intro (by decide) ?_
    rfl
  · rw [uL_signalFor]
    refine wF_eq (wI_s (N := 1) ?_)
    refine wF_of h ?_
    rfl
set_option maxRecDepth 100000 in
set_option maxHeartbeats 1000000 in
theorem wL_moveFor (X : Nat × (Nat → Int32)) (σ : XH) (p0 p1 : Int32) : (∀ v σ', fX7_moveFor X [xR 6 0, xI p0, xI p1] σ = some (.inl (some (xI v)), σ') → fL_moveFor X [xR 6 0, xI p0, xI p1, xR 10 0] σ = some (.inl (some (xI 0)), xuL σ' 10 0 0 v.toInt64)) ∧ (fX7_moveFor X [xR 6 0, xI p0, xI p1] σ = some (.inr 0, σ) → fL_moveFor X [xR 6 0, xI p0, xI p1, xR 10 0] σ = some (.inl (some (xI 1)), σ)) ∧ (fX7_moveFor X [xR 6 0, xI p0, xI p1] σ = some (.inr 1, σ) → fL_moveFor X [xR 6 0, xI p0, xI p1, xR 10 0] σ = some (.inl (some (xI 2)), σ)) := by
  refine ⟨fun v σ' h => ?_, fun h => ?_, fun h => ?_⟩
  · rw [uL_moveFor]
    refine wF_eq (wI_s (N := 1) ?_)
    refine wF_of h ?_
    refine And.intro (by decide) ?_
    rfl
  · rw [uL_moveFor]
    refine wF_eq (wI_s (N := 1) ?_)
    refine wF_of h ?_
    rfl
  · rw [uL_moveFor]
    refine wF_eq (wI_s (N := 1) ?_)
    refine wF_of h ?_
    rfl
set_option maxRecDepth 100000 in
set_option maxHeartbeats 1000000 in
theorem wL_restAfter (X : Nat × (Nat → Int32)) (σ : XH) (p0 : Int32) : (∀ v σ', fX7_restAfter X [xR 6 0, xI p0] σ = some (.inl (some (xI v)), σ') → fL_restAfter X [xR 6 0, xI p0, xR 10 0] σ = some (.inl (some (xI 0)), xuL σ' 10 0 0 v.toInt64)) ∧ (fX7_restAfter X [xR 6 0, xI p0] σ = some (.inr 1, σ) → fL_restAfter X [xR 6 0, xI p0, xR 10 0] σ = some (.inl (some (xI 1)), σ)) := by
  refine ⟨fun v σ' h => ?_, fun h => ?_⟩
  · rw [uL_restAfter]
    refine wF_eq (wI_s (N := 1) ?_)
    refine wF_of h ?_
    refine And.intro (by decide) ?_
    rfl
  · rw [uL_restAfter]
    refine wF_eq (wI_s (N := 1) ?_)
    refine wF_of h ?_
    rfl
set_option maxRecDepth 100000 in
set_option maxHeartbeats 1000000 in
theorem wL_wornAfter (X : Nat × (Nat → Int32)) (σ : XH) (p0 p1 p2 : Int32) : (∀ v σ', fX7_wornAfter X [xR 6 0, xI p0, xI p1, xI p2] σ = some (.inl (some (xI v)), σ') → fL_wornAfter X [xR 6 0, xI p0, xI p1, xI p2, xR 10 0] σ = some (.inl (some (xI 0)), xuL σ' 10 0 0 v.toInt64)) ∧ (fX7_wornAfter X [xR 6 0, xI p0, xI p1, xI p2] σ = some (.inr 0, σ) → fL_wornAfter X [xR 6 0, xI p0, xI p1, xI p2, xR 10 0] σ = some (.inl (some (xI 1)), σ)) ∧ (fX7_wornAfter X [xR 6 0, xI p0, xI p1, xI p2] σ = some (.inr 1, σ) → fL_wornAfter X [xR 6 0, xI p0, xI p1, xI p2, xR 10 0] σ = some (.inl (some (xI 2)), σ)) := by
  refine ⟨fun v σ' h => ?_, fun h => ?_, fun h => ?_⟩
  · rw [uL_wornAfter]
    refine wF_eq (wI_s (N := 1) ?_)
    refine wF_of h ?_
    refine And.intro (by decide) ?_
    rfl
  · rw [uL_wornAfter]
    refine wF_eq (wI_s (N := 1) ?_)
    refine wF_of h ?_
    rfl
  · rw [uL_wornAfter]
    refine wF_eq (wI_s (N := 1) ?_)
    refine wF_of h ?_
    rfl
set_option maxRecDepth 100000 in
set_option maxHeartbeats 1000000 in
theorem wL_missedWithin (X : Nat × (Nat → Int32)) (σ : XH) (p0 : Int32) : (∀ v σ', fX7_missedWithin X [xR 6 0, xI p0] σ = some (.inl (some (xI v)), σ') → fL_missedWithin X [xR 6 0, xI p0, xR 10 0] σ = some (.inl (some (xI 0)), xuL σ' 10 0 0 v.toInt64)) ∧ (fX7_missedWithin X [xR 6 0, xI p0] σ = some (.inr 1, σ) → fL_missedWithin X [xR 6 0, xI p0, xR 10 0] σ = some (.inl (some (xI 1)), σ)) := by
  refine ⟨fun v σ' h => ?_, fun h => ?_⟩
  · rw [uL_missedWithin]
    refine wF_eq (wI_s (N := 1) ?_)
    refine wF_of h ?_
    refine And.intro (by decide) ?_
    rfl
  · rw [uL_missedWithin]
    refine wF_eq (wI_s (N := 1) ?_)
    refine wF_of h ?_
    rfl
set_option maxRecDepth 100000 in
set_option maxHeartbeats 1000000 in
theorem wL_type (X : Nat × (Nat → Int32)) (σ : XH) (p0 : Int32) : (∀ v σ', fX7_type X [xR 6 0, xI p0] σ = some (.inl (some (xI v)), σ') → fL_type X [xR 6 0, xI p0, xR 10 0] σ = some (.inl (some (xI 0)), xuL σ' 10 0 0 v.toInt64)) ∧ (fX7_type X [xR 6 0, xI p0] σ = some (.inr 1, σ) → fL_type X [xR 6 0, xI p0, xR 10 0] σ = some (.inl (some (xI 1)), σ)) ∧ (fX7_type X [xR 6 0, xI p0] σ = some (.inr 2, σ) → fL_type X [xR 6 0, xI p0, xR 10 0] σ = some (.inl (some (xI 2)), σ)) := by
  refine ⟨fun v σ' h => ?_, fun h => ?_, fun h => ?_⟩
  · rw [uL_type]
    refine wF_eq (wI_s (N := 1) ?_)
    refine wF_of h ?_
    refine And.intro (by decide) ?_
    rfl
  · rw [uL_type]
    refine wF_eq (wI_s (N := 1) ?_)
    refine wF_of h ?_
    rfl
  · rw [uL_type]
    refine wF_eq (wI_s (N := 1) ?_)
    refine wF_of h ?_
    rfl
set_option maxRecDepth 100000 in
set_option maxHeartbeats 1000000 in
theorem wL_undo (X : Nat × (Nat → Int32)) (σ : XH) : (∀ v σ', fX7_undo X [xR 6 0] σ = some (.inl (some (xI v)), σ') → fL_undo X [xR 6 0, xR 10 0] σ = some (.inl (some (xI 0)), xuL σ' 10 0 0 v.toInt64)) ∧ (fX7_undo X [xR 6 0] σ = some (.inr 2, σ) → fL_undo X [xR 6 0, xR 10 0] σ = some (.inl (some (xI 1)), σ)) := by
  refine ⟨fun v σ' h => ?_, fun h => ?_⟩
  · rw [uL_undo]
    refine wF_eq (wI_s (N := 1) ?_)
    refine wF_of h ?_
    refine And.intro (by decide) ?_
    rfl
  · rw [uL_undo]
    refine wF_eq (wI_s (N := 1) ?_)
    refine wF_of h ?_
    rfl
