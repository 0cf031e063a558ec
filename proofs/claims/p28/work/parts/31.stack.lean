/-! ===== pure words of the class (out of the proof of whole, by wip/p28/gen/prune.py) ===== -/
/-- the class's stack: the top first -/
def CSt (σ : XH) (S : Nat → TS) (m : Nat) : Prop := m ≤ 4 ∧ σ.1 1 0 2 = oN m ∧ ∃ l, l < 4 ∧ σ.1 1 0 1 = oN l ∧ ∀ i, i < m → cTS σ (2 + (l + 4 - i) % 4) = S i
def pushS (S : Nat → TS) (a : TS) : Nat → TS
  | 0 => a
  | i + 1 => S i
theorem fM_up (X : Nat × (Nat → Int32)) (σ : XH) (l : Nat) (hl : l < 4) : fJ9_floorMod_7cf53 X [xI (oN l + 1), xI 4] σ = some (.inl (some (xI (oN ((l + 1) % 4)))), σ) := by
  rw [eJ9_floorMod X σ _ _ (by decide)]
  have h : l = 0 ∨ l = 1 ∨ l = 2 ∨ l = 3 := by omega
  rcases h with rfl | rfl | rfl | rfl <;> rfl
theorem mn_4 (X : Nat × (Nat → Int32)) (σ : XH) (m : Nat) (hm : m ≤ 4) : fJ9_min_7cf53 X [xI (oN m + 1), xI 4] σ = some (.inl (some (xI (oN (min (m + 1) 4)))), σ) := by
  rw [eJ9_min]
  have h : m = 0 ∨ m = 1 ∨ m = 2 ∨ m = 3 ∨ m = 4 := by omega
  rcases h with rfl | rfl | rfl | rfl | rfl <;> rfl
/-- what the class's stack's methods write: the stack's own cells, and these of one state -/
def PS (j : Nat) (c i : Nat) : Prop := PT j c i ∨ (c = 1 ∧ i = 0)
theorem cTS_ne {σ : XH} {j c i k : Nat} {x : Int32} (h : ¬ PT j c i) : cTS (xuI σ c i k x) j = cTS σ j := by
  have hf : xFr (fun c' j' => c' = c ∧ j' = i) σ (xuI σ c i k x) := xFr.u ⟨rfl, rfl⟩
  refine cTS_fr hf ?_ ?_ ?_ ?_ ?_
  all_goals
    rintro ⟨h1, h2⟩
    apply h
    unfold PT
    omega
theorem cTS_PT {σ σ' : XH} {j k : Nat} (h : xFr (PT j) σ σ') (hne : k ≠ j) : cTS σ' k = cTS σ k := by
  refine cTS_fr h ?_ ?_ ?_ ?_ ?_
  all_goals
    unfold PT
    omega
set_option maxRecDepth 100000 in
set_option maxHeartbeats 1000000 in
theorem wX2_save (X : Nat × (Nat → Int32)) (σ : XH) (S : Nat → TS) (m : Nat) (h : okT (cTS σ 0)) (hS : CSt σ S m) : wF (fX2_save X [xR 1 0, xR 3 0] σ) (fun r => ∃ σ', r = (.inl none, σ') ∧ CSt σ' (pushS S (cTS σ 0)) (min (m + 1) 4) ∧ cTS σ' 0 = cTS σ 0 ∧ ∃ j, 2 ≤ j ∧ j < 6 ∧ xFr (PS j) σ σ') := by
  obtain ⟨hm, h2, l, hl, h1, hr⟩ := hS
  have hq : (l + 1) % 4 < 4 := Nat.mod_lt _ (by decide)
  have hi : (oN ((l + 1) % 4)).toNatClampNeg = (l + 1) % 4 := oN_nat (by omega)
  have hfm := fM_up X σ l hl
  rw [← h1] at hfm
  have e0 : cTS (xuI σ 1 0 1 (oN ((l + 1) % 4))) 0 = cTS σ 0 := cTS_ne (by unfold PT; omega)
  obtain ⟨r, a1, σ1, rfl, a2, a3⟩ := wX4_copy X (xuI σ 1 0 1 (oN ((l + 1) % 4))) (2 + (l + 1) % 4) 0 (by omega) (by rw [e0]; exact h)
  have a1' : fX4_copy X [xR 3 (2 + (oN ((l + 1) % 4)).toNatClampNeg), xR 3 0] (xuI σ 1 0 1 (oN ((l + 1) % 4))) = some (.inl none, σ1) := by
    rw [hi]
    exact a1
  have c2 : σ1.1 1 0 2 = oN m := by
    rw [a3.1 _ _ _ (by unfold PT; omega), xu_eq, if_neg (by decide), h2]
  have hmn := mn_4 X σ1 m hm
  rw [← c2] at hmn
  rw [uX2_save]
  refine wI_s (N := 99999) ?_
  refine wF_of hfm ?_
  refine And.intro ?_ ?_
  · show 0 ≤ oN ((l + 1) % 4) ∧ (oN ((l + 1) % 4)).toNatClampNeg < 4
    rw [hi]
    exact ⟨oN_nn (by omega), hq⟩
  refine wF_of a1' ?_
  refine wF_of hmn ?_
  refine ⟨xuI σ1 1 0 2 (oN (min (m + 1) 4)), rfl, ?_, ?_, 2 + (l + 1) % 4, by omega, by omega, ?_⟩
  · have e1 : ∀ k, cTS (xuI σ1 1 0 2 (oN (min (m + 1) 4))) k = cTS σ1 k := fun k => cTS_ne (by unfold PT; omega)
    refine ⟨by omega, by rw [xu_eq, if_pos rfl], (l + 1) % 4, hq, ?_, ?_⟩
    · rw [xu_eq, if_neg (by decide), a3.1 _ _ _ (by unfold PT; omega), xu_eq, if_pos rfl]
    · intro i hi2
      rw [e1]
      match i, hi2 with
      | 0, _ =>
        rw [show (2 + ((l + 1) % 4 + 4 - 0) % 4) = 2 + (l + 1) % 4 by omega, a2, e0]
        rfl
      | i + 1, hi2 =>
        rw [cTS_PT a3 (by omega), cTS_ne (by unfold PT; omega), show 2 + ((l + 1) % 4 + 4 - (i + 1)) % 4 = 2 + (l + 4 - i) % 4 by omega]
        exact hr i (by omega)
  · rw [cTS_ne (by unfold PT; omega), cTS_PT a3 (by omega), e0]
  · exact xFr.tr (xFr.u (Or.inr ⟨rfl, rfl⟩)) (xFr.tr (a3.mono (fun c i q => Or.inl q)) (xFr.u (Or.inr ⟨rfl, rfl⟩)))
