/-! ===== the law's state; numbers in ranges ===== -/
/-- the law's three arrays as a pair's state -/
def lTS (σ : XH) : TS := (trF 10 (fun i => σ.1 9 2 i), trF 16 (fun i => σ.1 9 3 i), trF 16 (fun i => σ.1 9 3 (16 + i)), trF 60 (fun i => σ.1 9 4 i))
theorem bE {σ : XH} {i : Int32} (h : 0 ≤ i ∧ i.toNatClampNeg < 32) : 0 ≤ i ∧ i.toNatClampNeg < xbd σ 3 := h
theorem bG {σ : XH} {i : Int32} (h : 0 ≤ i ∧ i.toNatClampNeg < 10) : 0 ≤ i ∧ i.toNatClampNeg < xbd σ 2 := h
theorem bT {σ : XH} {i : Int32} (h : 0 ≤ i ∧ i.toNatClampNeg < 60) : 0 ≤ i ∧ i.toNatClampNeg < xbd σ 4 := h
theorem bW {σ : XH} {i : Int32} (hf : xfl σ = 1) (h : 0 ≤ i ∧ i.toNatClampNeg < 4) : 0 ≤ i ∧ i.toNatClampNeg < xbd σ 5 := by
  show 0 ≤ i ∧ i.toNatClampNeg < (if xfl σ = 1 then 4 else 0)
  rw [if_pos hf]
  exact h
theorem lTS_g {σ : XH} {k : Nat} {x : Int32} (h : k < 10) : lTS (xuI σ 9 2 k x) = (updF (lTS σ).1 k x, (lTS σ).2) := by
  refine Prod.ext (funext fun i => ?_) (Prod.ext (funext fun i => ?_) (Prod.ext (funext fun i => ?_) (funext fun i => ?_)))
  · simp only [lTS, trF, xu_eq, updF]
    grind
  all_goals
    simp only [lTS, trF]
    rw [xu_ne (by decide)]
theorem lTS_e0 {σ : XH} {k : Nat} {x : Int32} (h : k < 16) : lTS (xuI σ 9 3 k x) = ((lTS σ).1, updF (lTS σ).2.1 k x, (lTS σ).2.2) := by
  refine Prod.ext (funext fun i => ?_) (Prod.ext (funext fun i => ?_) (Prod.ext (funext fun i => ?_) (funext fun i => ?_)))
  · simp only [lTS, trF]
    rw [xu_ne (by decide)]
  · simp only [lTS, trF, xu_eq, updF]
    grind
  · simp only [lTS, trF, xu_eq]
    grind
  · simp only [lTS, trF]
    rw [xu_ne (by decide)]
theorem lTS_e1 {σ : XH} {k : Nat} {x : Int32} (h : k < 16) : lTS (xuI σ 9 3 (16 + k) x) = ((lTS σ).1, (lTS σ).2.1, updF (lTS σ).2.2.1 k x, (lTS σ).2.2.2) := by
  refine Prod.ext (funext fun i => ?_) (Prod.ext (funext fun i => ?_) (Prod.ext (funext fun i => ?_) (funext fun i => ?_)))
  · simp only [lTS, trF]
    rw [xu_ne (by decide)]
  · simp only [lTS, trF, xu_eq]
    grind
  · simp only [lTS, trF, xu_eq, updF]
    grind
  · simp only [lTS, trF]
    rw [xu_ne (by decide)]
theorem lTS_t {σ : XH} {k : Nat} {x : Int32} (h : k < 60) : lTS (xuI σ 9 4 k x) = ((lTS σ).1, (lTS σ).2.1, (lTS σ).2.2.1, updF (lTS σ).2.2.2 k x) := by
  refine Prod.ext (funext fun i => ?_) (Prod.ext (funext fun i => ?_) (Prod.ext (funext fun i => ?_) (funext fun i => ?_)))
  · simp only [lTS, trF]
    rw [xu_ne (by decide)]
  · simp only [lTS, trF]
    rw [xu_ne (by decide)]
  · simp only [lTS, trF]
    rw [xu_ne (by decide)]
  · simp only [lTS, trF, xu_eq, updF]
    grind
theorem lTS_cg {σ σ' : XH} (h : ∀ j i, j = 2 ∨ j = 3 ∨ j = 4 → σ'.1 9 j i = σ.1 9 j i) : lTS σ' = lTS σ := by
  refine Prod.ext (funext fun i => ?_) (Prod.ext (funext fun i => ?_) (Prod.ext (funext fun i => ?_) (funext fun i => ?_)))
  all_goals simp only [lTS, trF]
  · rw [h 2 i (Or.inl rfl)]
  · rw [h 3 i (Or.inr (Or.inl rfl))]
  · rw [h 3 _ (Or.inr (Or.inl rfl))]
  · rw [h 4 i (Or.inr (Or.inr rfl))]
theorem lTS_ne {σ : XH} {c j k : Nat} {x : Int32} (h : ¬ (c = 9 ∧ (j = 2 ∨ j = 3 ∨ j = 4))) : lTS (xuI σ c j k x) = lTS σ := lTS_cg fun j' i hj => xu_ne (by omega)
/-- numbers by naturals -/
theorem oN_div {m n : Nat} (hm : m < 2 ^ 31) (h0 : 0 < n) (hn : n < 2 ^ 31) : oN m / oN n = oN (m / n) := by
  have h1 : (0 : Int32) < oN n := (oN_lt (a := 0) (by decide) hn).mpr h0
  refine Int32.toInt_inj.mp ?_
  rw [tdiv_nn (oN_nn hm) h1, oN_toInt hm, oN_toInt hn, oN_toInt (Nat.lt_of_le_of_lt (Nat.div_le_self m n) hm)]
  exact (Int.natCast_ediv m n).symm
theorem oN_sub {m n : Nat} (h : n ≤ m) : oN m - oN n = oN (m - n) := by
  have e : oN m = oN (m - n) + oN n := by
    rw [oN_add]
    congr 1
    omega
  rw [e]
  grind
theorem iR {x : Int32} {A : Nat} (hA : A < 2 ^ 31) (h : 0 ≤ x ∧ x ≤ oN A) : ∃ n, n ≤ A ∧ x = oN n := by
  obtain ⟨e1, e2⟩ := oN_of h.1
  refine ⟨_, ?_, e1⟩
  have h2 := h.2
  rw [e1] at h2
  exact (oN_le e2 hA).mp h2
theorem iRb {n A : Nat} (hA : A < 2 ^ 31) (h : n ≤ A) : 0 ≤ oN n ∧ oN n ≤ oN A := ⟨oN_nn (by omega), (oN_le (by omega) hA).mpr h⟩
theorem emod_self {a b : Int} (ha : 0 ≤ a) (hb : 0 < b) : a % b ≤ a := by
  have h1 := Int.mul_ediv_add_emod a b
  have h2 : 0 ≤ b * (a / b) := Int.mul_nonneg (by omega) (Int.ediv_nonneg ha (by omega))
  omega
/-- a quotient's product is above the number just where the rest is below 0 -/
theorem dn_iff {a b : Int32} (hb : 0 < b) : a / b * b ≤ a ↔ ¬ (a - a / b * b < 0) := by
  have h0 : (0 : Int32).toInt = 0 := rfl
  have h2 := Int32.lt_iff_toInt_lt.mp hb
  rw [h0] at h2
  have l1 := Int32.le_toInt a
  have l2 := Int32.toInt_lt a
  have hq : (a / b).toInt = a.toInt.tdiv b.toInt := Int32.toInt_div_of_ne_right _ _ (fun h => by rw [h] at h2; exact absurd h2 (by decide))
  have hm : a.toInt.tdiv b.toInt * b.toInt + a.toInt.tmod b.toInt = a.toInt := by
    rw [Int.mul_comm]
    exact Int.mul_tdiv_add_tmod a.toInt b.toInt
  have hr : (0 ≤ a.toInt → 0 ≤ a.toInt.tmod b.toInt ∧ a.toInt.tmod b.toInt ≤ a.toInt) ∧ (a.toInt < 0 → a.toInt.tmod b.toInt ≤ 0 ∧ a.toInt ≤ a.toInt.tmod b.toInt) := by
    constructor
    · intro h
      rw [Int.tmod_eq_emod_of_nonneg h]
      exact ⟨Int.emod_nonneg _ (by omega), emod_self h h2⟩
    · intro h
      have e : a.toInt.tmod b.toInt = -((-a.toInt) % b.toInt) := by
        rw [← Int.tmod_eq_emod_of_nonneg (by omega : 0 ≤ -a.toInt), Int.neg_tmod, Int.neg_neg]
      have h3 : 0 ≤ (-a.toInt) % b.toInt := Int.emod_nonneg _ (by omega)
      have h4 : (-a.toInt) % b.toInt ≤ -a.toInt := emod_self (by omega) h2
      omega
  have hp : (a / b * b).toInt = a.toInt.tdiv b.toInt * b.toInt := by
    rw [Int32.toInt_mul, hq]
    generalize a.toInt.tdiv b.toInt * b.toInt = z at *
    rcases Int.lt_or_le a.toInt 0 with h | h
    · obtain ⟨h5, h6⟩ := hr.2 h
      exact Int.bmod_eq_of_le (by omega) (by omega)
    · obtain ⟨h5, h6⟩ := hr.1 h
      exact Int.bmod_eq_of_le (by omega) (by omega)
  have hs : (a - a / b * b).toInt = a.toInt.tmod b.toInt := by
    rw [Int32.toInt_sub, hp]
    generalize a.toInt.tdiv b.toInt * b.toInt = z at *
    rcases Int.lt_or_le a.toInt 0 with h | h
    · obtain ⟨h5, h6⟩ := hr.2 h
      rw [Int.bmod_eq_of_le (by omega) (by omega)]
      omega
    · obtain ⟨h5, h6⟩ := hr.1 h
      rw [Int.bmod_eq_of_le (by omega) (by omega)]
      omega
  rw [Int32.le_iff_toInt_le, Int32.lt_iff_toInt_lt, hp, hs, h0]
  omega
