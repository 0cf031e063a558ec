section
/-! ===== the steps of the other calls ===== -/
theorem J_1 {σ σ' : XH} (h : σ'.1 = σ.1) (hJ : J σ) : J σ' := by
  obtain ⟨a, b⟩ := σ
  obtain ⟨a', b'⟩ := σ'
  cases h
  exact hJ
theorem cst_k {σ σ1 : XH} (h : ∀ c j i, (c = 0 ∨ c = 1 ∨ c = 3 ∨ c = 4 ∨ c = 8) → σ1.1 c j i = σ.1 c j i) : (∀ j, cTS σ1 j = cTS σ j) ∧ (∀ S m, CSt σ S m → CSt σ1 S m) := by
  have hc : ∀ j, cTS σ1 j = cTS σ j := fun j => cTS_i (fun i => h _ _ _ (by omega)) (h _ _ _ (by omega)) (fun i => h _ _ _ (by omega)) (fun i => h _ _ _ (by omega)) (fun i => h _ _ _ (by omega))
  refine ⟨hc, fun S m hS => ?_⟩
  obtain ⟨h1, h2, l, hl, h3, h4⟩ := hS
  exact ⟨h1, (h _ _ _ (by omega)).trans h2, l, hl, (h _ _ _ (by omega)).trans h3, fun i hi => (hc _).trans (h4 i hi)⟩
/-- a call of both that has no method of the law's own: the class's answer, then the reference's -/
def stpD (o1 : Option (XR × XH)) (ml : XH → Option (XR × XH)) : Prop := ∃ (a : Int32) (σ1 σ2 : XH), o1 = some (.inl (some (xI a)), σ1) ∧ ml σ1 = some (.inl (some (xI a)), σ2) ∧ J σ2
/-- the same, with a long -/
def stpE (o1 : Option (XR × XH)) (ml : XH → Option (XR × XH)) : Prop := ∃ (a : Int64) (σ1 σ2 : XH), o1 = some (.inl (some (xL a)), σ1) ∧ ml σ1 = some (.inl (some (xL a)), σ2) ∧ J σ2
theorem std_no {o1 : Option (XR × XH)} {ml : XH → Option (XR × XH)} {σ : XH} {a k : Int32} (hJ : J σ) (hw : o1 = some (.inl (some (xI a)), σ)) (hm : wF (ml σ) (apiNo σ a k)) : stpD o1 ml := by
  obtain ⟨S, m, b, n, h1, h2, h3, h4, h5, h6, h7⟩ := hJ
  obtain ⟨r, b1, σ2, rfl, b2, b3, b4, b5⟩ := hm
  exact ⟨a, σ, σ2, hw, b1, j_mk b5.1 h3 h1 h6 (b2.st h4) b3 (b5.kw.tx h7) h2 h5⟩
theorem st_flatSignals (X : Nat × (Nat → Int32)) (σ : XH) (hJ : J σ) : stpD (fX7_flatSignals X [xR 6 0] σ) (fun τ => fX8_flatSignals X [xR 7 0] τ) := by
  obtain ⟨S, m, b, n, h1, h2, h3, h4, h5, h6, h7⟩ := id hJ
  have hc := wX7_flatSignals X σ (by rw [h1]; exact h2.1)
  rw [h1] at hc
  exact std_no hJ hc (wX8_flatSignals X σ h2.1)
theorem st_firstFall (X : Nat × (Nat → Int32)) (σ : XH) (hJ : J σ) : stpD (fX7_firstFall X [xR 6 0] σ) (fun τ => fX8_firstFall X [xR 7 0] τ) := by
  obtain ⟨S, m, b, n, h1, h2, h3, h4, h5, h6, h7⟩ := id hJ
  have hc := wX7_firstFall X σ (by rw [h1]; exact h2.1)
  rw [h1] at hc
  exact std_no hJ hc (wX8_firstFall X σ h2.1)
theorem st_clearCommands (X : Nat × (Nat → Int32)) (σ : XH) (hJ : J σ) : stpD (fX7_clearCommands X [xR 6 0] σ) (fun τ => fX8_clearCommands X [xR 7 0] τ) := by
  obtain ⟨S, m, b, n, h1, h2, h3, h4, h5, h6, h7⟩ := hJ
  have k1 := cst_k (σ := σ) (σ1 := xuI σ 2 0 2 0) (fun c j i h => xu_ne (by omega))
  have k2 := m_keep (σ := σ) (σ1 := xuI σ 2 0 2 0) (fun c j i h => xu_ne (by omega))
  refine ⟨_, _, xuI (xuI (xuI σ 2 0 2 0) 7 0 5 0) 7 0 6 0, eX7_clear X σ, ?_, ?_⟩
  · refine (eX8_clear X _).trans ?_
    rw [show (xuI σ 2 0 2 0).1 7 0 5 = σ.1 2 0 2 from (xu_ne (by omega)).trans (h7.1.trans h6.1.symm)]
  · refine j_mk (b := b) (n := 0) (fun c j i h => (xu_ne (by omega)).trans (xu_ne (by omega))) (k1.2 _ _ h3) ((k1.1 0).trans h1) ⟨rfl, by omega, fun i hi => absurd hi (by omega)⟩ ?_ ?_ ⟨rfl, by omega, fun i hi => absurd hi (by omega)⟩ h2 h5
    · exact (SK.u (by omega)).st ((SK.u (by omega)).st (k2.2.1 _ _ h4))
    · rw [mTS_u7, mTS_u7, k2.1]
theorem st_type (X : Nat × (Nat → Int32)) (σ : XH) (p0 : Int32) (hJ : J σ) : stpR (fL_type X [xR 6 0, xI p0, xR 10 0] σ) (fun τ => fX8_type X [xR 7 0, xI p0] τ) := by
  have hw := wL_type X σ p0
  obtain ⟨S, m, b, n, h1, h2, h3, h4, h5, h6, h7⟩ := id hJ
  by_cases hp : 0 ≤ p0 ∧ p0 ≤ 127
  · by_cases hn : n < 150
    · have e := hw.1 _ _ (eX7_type X σ p0 n hp hn h6.1)
      have k1 := cst_k (σ := σ) (σ1 := xuL (xuI (xuI σ 9 0 n p0) 2 0 2 (oN (n + 1))) 10 0 0 (oN (n + 1)).toInt64) (fun c j i h => (xu_ne (by omega)).trans (xu_ne (by omega)))
      have k2 := m_keep (σ := σ) (σ1 := xuL (xuI (xuI σ 9 0 n p0) 2 0 2 (oN (n + 1))) 10 0 0 (oN (n + 1)).toInt64) (fun c j i h => (xu_ne (by omega)).trans (xu_ne (by omega)))
      have hv : (xuL (xuI (xuI σ 9 0 n p0) 2 0 2 (oN (n + 1))) 10 0 0 (oN (n + 1)).toInt64).2.1 10 0 0 = (oN (n + 1)).toInt64 := rfl
      have hx : ∀ i, (xuL (xuI (xuI σ 9 0 n p0) 2 0 2 (oN (n + 1))) 10 0 0 (oN (n + 1)).toInt64).1 9 0 i = if i = n then p0 else σ.1 9 0 i := fun i => (xu_ne (by omega)).trans xu_eq
      have hx2 : (xuL (xuI (xuI σ 9 0 n p0) 2 0 2 (oN (n + 1))) 10 0 0 (oN (n + 1)).toInt64).1 2 0 2 = oN (n + 1) := (show (xuI (xuI σ 9 0 n p0) 2 0 2 (oN (n + 1))).1 2 0 2 = oN (n + 1) from xu_eq.trans (if_pos rfl))
      have h7' := k2.2.2 _ _ h7
      generalize xuL (xuI (xuI σ 9 0 n p0) 2 0 2 (oN (n + 1))) 10 0 0 (oN (n + 1)).toInt64 = τ at *
      refine ⟨0, τ, _, _, e, eX8_type X τ p0 n hp hn h7'.1, ?_, xu_eq.trans (if_pos rfl), fun _ => hv⟩
      refine j_mk (b := fun i => if i = n then p0 else b i) (n := n + 1) (S := S) (m := m) (t := mTS σ) (fun c j i h => (xu_ne (by omega)).trans ((xu_ne (by omega)).trans (xu_ne (by omega)))) (k1.2 _ _ h3) ((k1.1 0).trans h1) ⟨hx2, by omega, fun i hi => ?_⟩ ?_ ?_ ⟨(xu_i (by omega)).trans (xu_eq.trans (if_pos rfl)), by omega, fun i hi => ?_⟩ h2 h5
      · rw [hx]
        dsimp only
        split
        · exact ⟨rfl, hp⟩
        · exact h6.2.2 i (by omega)
      · exact (SK.u (by omega)).st ((SK.u (by omega)).st (SK.st ⟨xu_ne (by omega), fun i => xu_ne (by omega)⟩ (k2.2.1 _ _ h4)))
      · rw [mTS_u7, mTS_u7, mTS_ne (by omega), k2.1]
      · rw [xu_ne (by omega), xu_ne (by omega), xu_eq]
        dsimp only
        split
        · exact ⟨rfl, hp⟩
        · exact h7'.2.2 i (by omega)
    · obtain rfl : n = 150 := by have := h6.2.1; omega
      have e8 := eX8_type_f X σ p0 hp h7.1
      exact ⟨2, σ, 0, _, hw.2.2 (eX7_type_f X σ p0 hp h6.1), e8, j_mk (fun c j i h => xu_ne (by omega)) h3 h1 h6 ((SK.u (by omega)).st h4) mTS_u7 ⟨(xu_i (by omega)).trans h7.1, h7.2.1, fun i hi => by rw [xu_ne (by omega)]; exact h7.2.2 i hi⟩ h2 h5, xu_eq.trans (if_pos rfl), fun q => absurd q (by decide)⟩
  · have e8 := eX8_type_r X σ p0 hp
    exact ⟨1, σ, 0, _, hw.2.1 (eX7_type_r X σ p0 hp), e8, j_mk (fun c j i h => xu_ne (by omega)) h3 h1 h6 ((SK.u (by omega)).st h4) mTS_u7 ⟨(xu_i (by omega)).trans h7.1, h7.2.1, fun i hi => by rw [xu_ne (by omega)]; exact h7.2.2 i hi⟩ h2 h5, xu_eq.trans (if_pos rfl), fun q => absurd q (by decide)⟩
theorem st_undo (X : Nat × (Nat → Int32)) (σ : XH) (hJ : J σ) : stpR (fL_undo X [xR 6 0, xR 10 0] σ) (fun τ => fX8_undo X [xR 7 0] τ) := by
  have hw := wL_undo X σ
  obtain ⟨S, m, b, n, h1, h2, h3, h4, h5, h6, h7⟩ := id hJ
  cases m with
  | zero =>
    have e8 := eX8_undo_0 X σ h4.2.1
    exact ⟨1, σ, 0, _, hw.2 (eX7_undo_0 X σ h3.2.1), e8, j_mk (fun c j i h => xu_ne (by omega)) h3 h1 h6 ((SK.u (by omega)).st h4) mTS_u7 ⟨(xu_i (by omega)).trans h7.1, h7.2.1, fun i hi => by rw [xu_ne (by omega)]; exact h7.2.2 i hi⟩ h2 h5, xu_eq.trans (if_pos rfl), fun q => absurd q (by decide)⟩
  | succ m =>
    obtain ⟨r, a1, σ', rfl, a2, a3, a4⟩ := wX7_undo X σ S m (h5 0 (by omega)).1 h3
    have e := hw.1 _ _ a1
    have a5 := PK_S a4
    have hk := m_keep (σ := σ) (σ1 := xuL σ' 10 0 0 (oN m).toInt64) (fun c j i h => a5.1 _ _ _ (by unfold PK; omega))
    obtain ⟨r, b1, σ2, rfl, b2, b3, b4, b5⟩ := wX8_undo X (xuL σ' 10 0 0 (oN m).toInt64) S m (hk.2.1 _ _ h4)
    refine ⟨0, _, _, σ2, e, b1, ?_, b4, fun _ => ?_⟩
    · refine j_mk b5.1 (show CSt (xuL σ' 10 0 0 (oN m).toInt64) _ _ from a2) (show cTS (xuL σ' 10 0 0 (oN m).toInt64) 0 = S 0 from a3) (b := b) (n := n) ?_ b2 b3 (b5.kw.tx (hk.2.2 _ _ h7)) (h5 0 (by omega)) (fun i hi => h5 (i + 1) (by omega))
      exact ⟨(a5.1 _ _ _ (by unfold PK; omega)).trans h6.1, h6.2.1, fun i hi => ⟨(a5.1 _ _ _ (by unfold PK; omega)).trans (h6.2.2 i hi).1, (h6.2.2 i hi).2⟩⟩
    · rw [b5.2.2.2.1]
      rfl
theorem rdNum_f {b : Nat → Int32} {n p f : Nat} (hp : p ≤ n) (h : rdNum b n p = .inr f) : f ≤ n := by
  have r1 := runP_le (P := isSp) (b := b) hp
  have r2 := digF_rng (b := b) (n := n) 4 (runP isSp b n p) 0
  have r3 := r2.2 r1.2
  unfold rdNum at h
  split at h
  · cases h
    omega
  · split at h
    · cases h
      omega
    · split at h
      · cases h
        omega
      · cases h
theorem rdNums_f {b : Nat → Int32} {n : Nat} : ∀ (m i p : Nat) (g : Nat → Int32), p ≤ n → (∀ f, rdNums b n m i p g = .inr f → f ≤ n) ∧ (∀ v z, rdNums b n m i p g = .inl (v, z) → z ≤ n)
  | 0, i, p, g, hp => by
    refine ⟨fun f h => ?_, fun v z h => ?_⟩
    · cases h
    · cases h
      exact hp
  | m + 1, i, p, g, hp => by
    have hz : ∀ v q, rdNum b n p = .inl (v, q) → q ≤ n := fun v q h => by
      have r1 := runP_le (P := isSp) (b := b) hp
      have r2 := digF_rng (b := b) (n := n) 4 (runP isSp b n p) 0
      have r3 := r2.2 r1.2
      unfold rdNum at h
      split at h
      · cases h
      · split at h
        · cases h
        · split at h
          · cases h
          · cases h
            omega
    unfold rdNums
    cases e : rdNum b n p with
    | inr f =>
      refine ⟨fun f' h => ?_, fun v z h => ?_⟩
      · cases h
        exact rdNum_f hp e
      · cases h
    | inl vq => 
      obtain ⟨v, q⟩ := vq
      exact rdNums_f m (i + 1) q (updF g i v) (hz v q e)
theorem nxT_f {b : Nat → Int32} {n p f : Nat} (hp : p ≤ n) (h : nxT b n p = .inr f) : f ≤ n := by
  have l1 := (runP_le (P := isLt) (b := b) (n := n) (p := p) hp)
  unfold nxT at h
  split at h
  · cases h
    exact hp
  · have q := rdNums_f (b := b) (n := n) (many (knd b p (runP isLt b n p - p))) 0 (runP isLt b n p) (fun _ => 0) l1.2
    split at h
    · rename_i f' hr
      cases h
      exact q.1 _ hr
    · rename_i g r hr
      have r3 := q.2 _ _ hr
      split at h
      · cases h
      · cases h
        exact (runP_le (P := isSp) (b := b) r3).2
theorem ftT_f {b : Nat → Int32} {n : Nat} : ∀ (m p f : Nat), p ≤ n → ftT b n m p = some f → f ≤ n
  | 0, p, f, hp, h => by cases h
  | m + 1, p, f, hp, h => by
    unfold ftT at h
    split at h
    · rename_i hlt
      split at h
      · rename_i f' hr
        cases h
        exact nxT_f (by omega) hr
      · rename_i k g q hr
        exact ftT_f m q f (nxT_q hlt hr).2.1 h
    · cases h
theorem okJ_rc {b : Nat → Int32} {n : Nat} : ∀ (m p : Nat) (t : TS), okJ t → okJ (rcT b n m p t).2
  | 0, p, t, h => h
  | m + 1, p, t, h => by
    unfold rcT
    split
    · split
      · exact h
      · rename_i k g q hq
        by_cases hk : pOK t k g
        · rw [if_pos hk]
          exact okJ_rc m q (exT t k g) (okJ_ex h k hk)
        · rw [if_neg hk]
          exact h
    · exact h
theorem st_runCommands (X : Nat × (Nat → Int32)) (σ : XH) (hJ : J σ) : stpD (fX7_runCommands X [xR 6 0] σ) (fun τ => fX8_runCommands X [xR 7 0] τ) := by
  obtain ⟨S, m, b, n, h1, h2, h3, h4, h5, h6, h7⟩ := hJ
  cases hf : ftT b n 150 0 with
  | none =>
    obtain ⟨r, a1, σ', rfl, a2, a3, a4, a5, a6⟩ := wX7_runCommands X σ b n S m h6 (by rw [h1]; exact h2.1) h3 hf
    have hk := m_keep (σ := σ) (σ1 := σ') a5
    obtain ⟨r, b1, σ2, rfl, b2, b3, b4, b5⟩ := wX8_runCommands X σ' b n S m (hk.2.2 _ _ h7) (by rw [hk.1]; exact h2.1) (hk.2.1 _ _ h4) hf
    rw [hk.1] at b1 b2 b3
    rw [h1] at a1 a2 a3
    exact ⟨_, σ', σ2, a1, b1, j_mk b5.1 a2 a3 a4 b2 b3 (b5.tx (hk.2.2 _ _ h7)) (okJ_rc 150 0 _ h2) (push_ok h5 h2)⟩
  | some f =>
    have hf2 : f ≤ 150 := by
      have := ftT_f 150 0 f (by omega) hf
      have := h6.2.1
      omega
    obtain ⟨r, a1, σ', rfl, a2⟩ := wX7_runCommands_f X σ b n f h6 hf hf2
    have hk := m_keep (σ := σ) (σ1 := σ') (fun c j i h => a2.1 c j i (by omega))
    have k1 := cst_k (σ := σ) (σ1 := σ') (fun c j i h => a2.1 c j i (by omega))
    obtain ⟨r, b1, σ2, rfl, b2, b3, b4, b5⟩ := wX8_runCommands_f X σ' b n f (hk.2.2 _ _ h7) hf hf2
    exact ⟨_, σ', σ2, a1, b1, j_mk b5.1 (k1.2 _ _ h3) ((k1.1 0).trans h1) (a2.fr.tx h6) (b2.st (hk.2.1 _ _ h4)) (b3.trans hk.1) (b5.tx (hk.2.2 _ _ h7)) h2 h5⟩
theorem st_digest (X : Nat × (Nat → Int32)) (σ : XH) (hJ : J σ) : stpE (fX7_digest X [xR 6 0] σ) (fun τ => fX8_digest X [xR 7 0] τ) := by
  obtain ⟨S, m, b, n, h1, h2, h3, h4, h5, h6, h7⟩ := hJ
  have hc := eX7_digest X σ (by rw [h1]; exact h2.1)
  obtain ⟨r, b1, τ, rfl, b2⟩ := wX8_digest X σ h2.1
  rw [h1, h3.2.1, h6.1] at hc
  rw [h4.2.1, h7.1] at b1
  refine ⟨_, σ, τ, hc, b1, ?_⟩
  exact J_1 b2.1 (j_mk (fun c j i h => xu_ne (by omega)) h3 h1 h6 ((SK.u (by omega)).st h4) mTS_u7 ⟨(xu_i (by omega)).trans h7.1, h7.2.1, fun i hi => by rw [xu_ne (by omega)]; exact h7.2.2 i hi⟩ h2 h5)

end
