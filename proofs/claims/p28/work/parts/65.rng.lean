/-! ===== the numbers' ranges; what always holds of the law's state ===== -/
theorem oN_inj {a b : Nat} (ha : a < 2 ^ 31) (hb : b < 2 ^ 31) : oN a = oN b ↔ a = b := by
  constructor
  · intro h
    have h2 := congrArg Int32.toNatClampNeg h
    rwa [oN_nat ha, oN_nat hb] at h2
  · intro h
    rw [h]
/-- a valve's numbers, at the time T -/
def okU (T : Int32) (V : Nat → Int32) : Prop := okV V ∧ (V 9 = -1 ∨ V 9 = 0 ∨ V 9 = 1) ∧ (0 ≤ V 1 ∧ V 1 ≤ 300) ∧ (0 ≤ V 2 ∧ V 2 ≤ 300) ∧ (0 ≤ V 3 ∧ V 3 ≤ 1000) ∧ (0 ≤ V 11 ∧ V 11 ≤ 1000 * T) ∧ (0 ≤ V 12 ∧ V 12 ≤ T)
def okW (t : TS) : Prop := okJ t ∧ okU (t.1 5) t.2.1 ∧ okU (t.1 5) t.2.2.1
def tOK (T : Int32) : Prop := 0 ≤ T ∧ T ≤ 200000
theorem tOK_n {T : Int32} (h : tOK T) : ∃ k, k ≤ 200000 ∧ T = oN k := iR (by decide) h
theorem okW_t {t : TS} (h : okW t) : tOK (t.1 5) := h.1.2
theorem okW_v {t : TS} (h : okW t) {v : Nat} (hv : v < 2) : okU (t.1 5) (vT t v) := by
  rcases (by omega : v = 0 ∨ v = 1) with rfl | rfl
  · exact h.2.1
  · exact h.2.2
theorem wear_rng {T : Int32} {V : Nat → Int32} (h : okU T V) (hT : tOK T) : ∃ n, n ≤ 2600000 ∧ wearV V = oN n := by
  obtain ⟨k, hk, rfl⟩ := tOK_n hT
  obtain ⟨-, -, -, -, -, h11, h12⟩ := h
  rw [show (1000 : Int32) * oN k = oN (1000 * k) from oN_mul 1000 k] at h11
  obtain ⟨a, ha, ea⟩ := iR (by omega) h11
  obtain ⟨b, hb, eb⟩ := iR (by omega) h12
  refine ⟨a / 100 + 3 * b, by omega, ?_⟩
  unfold wearV
  rw [ea, eb]
  show oN a / oN 100 + oN 3 * oN b = _
  rw [oN_div (by omega) (by decide) (by decide), oN_mul, oN_add]
theorem thr_nn {T : Int32} {V : Nat → Int32} (h : okU T V) (hT : tOK T) (w : Int32) : 0 ≤ thrV V w := by
  obtain ⟨n, hn, en⟩ := wear_rng h hT
  obtain ⟨-, -, h1, h2, -⟩ := h
  obtain ⟨a, ha, ea⟩ := iR (A := 300) (by decide) h1
  obtain ⟨b, hb, eb⟩ := iR (A := 300) (by decide) h2
  unfold thrV
  rw [en, ea, eb]
  have e1 : oN n / 50 = oN (n / 50) := oN_div (by omega) (by decide) (by decide)
  rw [e1, oN_add]
  split
  · exact Int32.le_refl _
  · split
    · rw [oN_add]
      exact oN_nn (by omega)
    · show 0 ≤ oN (a + n / 50) + oN 0
      rw [oN_add]
      exact oN_nn (by omega)
theorem sq_le {q : Nat} (h : q ≤ 1000) : q * q / 1000 ≤ 1000 := by
  have : q * q ≤ 1000 * 1000 := Nat.mul_le_mul h h
  omega
theorem thru_rng {T : Int32} {V : Nat → Int32} (h : okU T V) {p : Int32} (hp : 0 ≤ p ∧ p ≤ 1000) : ∃ n, n ≤ 1000 ∧ thruV V p = oN n := by
  obtain ⟨-, -, -, -, h3, -⟩ := h
  obtain ⟨c, hc, ec⟩ := iR (A := 1000) (by decide) h3
  obtain ⟨q, hq, rfl⟩ := iR (A := 1000) (by decide) hp
  have ho : ∃ o, o ≤ 1000 ∧ openV V (oN q) = oN o := by
    unfold openV
    have e1 : ∀ r, r ≤ 1000 → oN r * oN r / 1000 = oN (r * r / 1000) := fun r hr => by
      have : r * r ≤ 1000 * 1000 := Nat.mul_le_mul hr hr
      rw [oN_mul]
      exact oN_div (by omega) (by decide) (by decide)
    split
    · exact ⟨q, hq, rfl⟩
    · split
      · exact ⟨_, sq_le hq, e1 q hq⟩
      · refine ⟨1000 - (1000 - q) * (1000 - q) / 1000, by omega, ?_⟩
        rw [show (1000 : Int32) - oN q = oN (1000 - q) from oN_sub hq, e1 _ (by omega)]
        exact oN_sub (m := 1000) (sq_le (by omega))
  obtain ⟨o, ho, eo⟩ := ho
  have hm : c * o ≤ 1000 * 1000 := Nat.mul_le_mul hc ho
  refine ⟨c * o / 1000, by omega, ?_⟩
  unfold thruV
  rw [eo, ec, oN_mul]
  exact oN_div (by omega) (by decide) (by decide)
theorem flow_rng {T : Int32} {V : Nat → Int32} (h : okU T V) (hT : tOK T) : ∃ n, n ≤ 1000 ∧ flowV V = oN n := by
  obtain ⟨n, hn, en⟩ := wear_rng h hT
  have h8 := h.1.2.2.2.2.1
  have h3 := h.2.2.2.2.1
  obtain ⟨c, hc, ec⟩ := iR (A := 1000) (by decide) h3
  unfold flowV
  split
  · exact thru_rng h h8
  · rw [en, ec, show oN n / 20 = oN (n / 20) from oN_div (by omega) (by decide) (by decide)]
    split
    · rename_i hl
      rw [oN_lt (by omega) (by omega)] at hl
      exact ⟨_, by omega, rfl⟩
    · exact ⟨_, hc, rfl⟩
theorem id_rng {T : Int32} {V : Nat → Int32} (h : okU T V) (u : Int32) : ∃ n, n ≤ 1000 ∧ idV V u = oN n := by
  unfold idV
  split
  · exact thru_rng h (dem_rng h.1 u)
  · exact ⟨0, by decide, rfl⟩
theorem both_rng {t : TS} (h : okW t) : ∃ n, n ≤ 2000 ∧ bothT t = oN n := by
  obtain ⟨a, ha, ea⟩ := flow_rng h.2.1 (okW_t h)
  obtain ⟨b, hb, eb⟩ := flow_rng h.2.2 (okW_t h)
  refine ⟨a + b, by omega, ?_⟩
  unfold bothT
  rw [ea, eb, oN_add]
theorem ideal_rng {t : TS} (h : okW t) (u : Int32) : ∃ n, n ≤ 2000 ∧ idealT t u = oN n := by
  obtain ⟨a, ha, ea⟩ := id_rng h.2.1 u
  obtain ⟨b, hb, eb⟩ := id_rng h.2.2 u
  refine ⟨a + b, by omega, ?_⟩
  unfold idealT
  rw [ea, eb]
  show oN 0 + oN a + oN b = _
  rw [oN_add, oN_add, Nat.zero_add]
theorem ab_sub {m n : Nat} (hm : m ≤ 2000) (hn : n ≤ 2000) : (if oN n < oN m then oN m - oN n else oN n - oN m) = abI (oN m - oN n) := by
  unfold abI
  by_cases h : n < m
  · rw [if_pos ((oN_lt (by omega) (by omega)).mpr h), oN_sub (by omega), if_neg (Int32.not_lt.mpr (oN_nn (by omega)))]
  · rw [if_neg (fun q => h ((oN_lt (by omega) (by omega)).mp q))]
    have e : oN m - oN n = -(oN n - oN m) := by grind
    rw [e, oN_sub (by omega)]
    by_cases h0 : n - m = 0
    · rw [h0]
      decide
    · have h1 : (0 : Int32) < oN (n - m) := (oN_lt (a := 0) (by decide) (by omega)).mpr (by omega)
      have h2 : oN (n - m) ≤ oN 2000 := (oN_le (by omega) (by decide)).mpr (by omega)
      generalize oN (n - m) = z at h1 h2
      have h2 : z ≤ 2000 := h2
      grind
/-- the step of a stem, as the law says it -/
theorem stp_eq {V : Nat → Int32} {d t1 t2 : Int32} (h0 : 1 ≤ V 0 ∧ V 0 ≤ 1000) (h8 : 0 ≤ V 8 ∧ V 8 ≤ 1000) (hd : 0 ≤ d ∧ d ≤ 1000) (e1 : thrV V 1 = t1) (e2 : thrV V (-1) = t2) (n1 : 0 ≤ t1) (n2 : 0 ≤ t2) :
    (t1 < d - V 8 → moveV V d = if V 0 < d - V 8 then V 0 else d - V 8) ∧ (¬ t1 < d - V 8 → (d - V 8 < 0 ∧ t2 < -(d - V 8)) → moveV V d = if d - V 8 < -(V 0) then -(V 0) else d - V 8) ∧ (¬ t1 < d - V 8 → ¬ (d - V 8 < 0 ∧ t2 < -(d - V 8)) → moveV V d = 0) := by
  unfold moveV
  generalize hV0 : V 0 = s at *
  generalize hV8 : V 8 = p at *
  have hx : -1000 ≤ d - p ∧ d - p ≤ 1000 := by grind
  generalize d - p = x at *
  by_cases c : x < 0
  · have ea : abI x = -x := by unfold abI; rw [if_pos c]
    have ew : wayI x = -1 := by unfold wayI; rw [if_pos c]
    rw [ea, ew, e2]
    refine ⟨fun h => by grind, fun h h' => ?_, fun h h' => ?_⟩
    · rw [if_neg (by grind)]
      split <;> split <;> grind
    · rw [if_pos (by grind)]
  · have ea : abI x = x := by unfold abI; rw [if_neg c]
    have ew : wayI x = 1 := by unfold wayI; rw [if_neg c]
    rw [ea, ew, e1]
    refine ⟨fun h => ?_, fun h h' => by grind, fun h h' => ?_⟩
    · rw [if_neg (by grind)]
      split <;> split <;> grind
    · rw [if_pos (by grind)]
/-- the least bits of an int, taken as a number not below 0 -/
def lowI (v n : Int32) : Int32 := (v &&& 2147483647) - (v &&& 2147483647) / n * n
theorem and_nn (v : Int32) : ∃ m, m < 2 ^ 31 ∧ v &&& 2147483647 = oN m := by
  have h1 : (v &&& 2147483647).toBitVec.toNat ≤ 2147483647 := by
    show (v.toBitVec &&& (2147483647 : Int32).toBitVec).toNat ≤ _
    rw [BitVec.toNat_and]
    exact Nat.and_le_right
  have h2 : (v &&& 2147483647).toInt = ((v &&& 2147483647).toBitVec.toNat : Int) := BitVec.toInt_eq_toNat_of_lt (by omega)
  refine ⟨(v &&& 2147483647).toBitVec.toNat, by omega, Int32.toInt_inj.mp ?_⟩
  rw [h2, oN_toInt (by omega)]
theorem oN_mod {m n : Nat} (hm : m < 2 ^ 31) (h0 : 0 < n) (hn : n < 2 ^ 31) : oN m - oN m / oN n * oN n = oN (m % n) := by
  rw [oN_div hm h0 hn, oN_mul, oN_sub (Nat.div_mul_le_self m n)]
  congr 1
  have := Nat.div_add_mod' m n
  omega
theorem low_rng (v : Int32) {n : Nat} (h0 : 0 < n) (hn : n < 2 ^ 31) : ∃ m, m < n ∧ lowI v (oN n) = oN m := by
  obtain ⟨m, hm, e⟩ := and_nn v
  refine ⟨m % n, Nat.mod_lt _ h0, ?_⟩
  unfold lowI
  rw [e]
  exact oN_mod hm h0 hn
