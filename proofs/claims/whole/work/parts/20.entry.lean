/-! ===== the reference's entry of the ledger (written by wip/whole/gen/pure4.py) ===== -/
def oN (n : Nat) : Int32 := Int32.ofNat n
theorem oN_add (a b : Nat) : oN a + oN b = oN (a + b) := (Int32.ofNat_add a b).symm
theorem oN_mul (a b : Nat) : oN a * oN b = oN (a * b) := (Int32.ofNat_mul a b).symm
theorem oN_toInt {n : Nat} (h : n < 2 ^ 31) : (oN n).toInt = n := Int32.toInt_ofNat_of_lt h
theorem oN_nat {n : Nat} (h : n < 2 ^ 31) : (oN n).toNatClampNeg = n := by
  show (oN n).toInt.toNat = n
  rw [oN_toInt h]
  rfl
theorem oN_le {a b : Nat} (ha : a < 2 ^ 31) (hb : b < 2 ^ 31) : oN a ≤ oN b ↔ a ≤ b := by
  rw [Int32.le_iff_toInt_le, oN_toInt ha, oN_toInt hb]
  omega
theorem oN_lt {a b : Nat} (ha : a < 2 ^ 31) (hb : b < 2 ^ 31) : oN a < oN b ↔ a < b := by
  rw [Int32.lt_iff_toInt_lt, oN_toInt ha, oN_toInt hb]
  omega
theorem oN_nn {n : Nat} (h : n < 2 ^ 31) : (0 : Int32) ≤ oN n := (oN_le (a := 0) (by decide) h).mpr (Nat.zero_le _)
theorem oN_inj {a b : Nat} (ha : a < 2 ^ 31) (hb : b < 2 ^ 31) : oN a = oN b ↔ a = b := by
  rw [← Int32.toInt_inj, oN_toInt ha, oN_toInt hb]
  omega
theorem i5k {k : Nat} : (42 : Int32) + 5 * oN k = oN (42 + 5 * k) := by
  show oN 42 + oN 5 * oN k = _
  rw [oN_mul, oN_add]
theorem oN_1 {k : Nat} : oN k + 1 = oN (k + 1) := oN_add k 1
theorem oN_5 {k : Nat} : oN k + 5 = oN (k + 5) := oN_add k 5
set_option maxRecDepth 100000 in
set_option maxHeartbeats 4000000 in
theorem lX8_entry_1 (X : Nat × (Nat → Int32)) (σ : XH) (v d : Int32) (k n : Nat) (hk : k < n) (hn : n ≤ 12) (he : σ.1 9 2 9 = oN n) : xExec X (xEnv (nX8_entry X)) (fun _ _ => some none) 0 [(2, [0, 1, 2, 3]), (73, [0, 1, 2, 3]), (126, [0, 1, 2, 3, 4])] tX8_entry 1000 (xPc tX8_entry 2) [(0, xR 7 0), (1, xI v), (2, xI d), (3, xI (oN k))] [] σ 0 = if σ.1 9 2 (42 + 5 * k) = v ∧ σ.1 9 2 (42 + 5 * k + 1) = d then some (.inl (.inl (some (.inl (oN (42 + 5 * k)))), σ)) else some (.inr (2, [(0, xR 7 0), (1, xI v), (2, xI d), (3, xI (oN (k + 1)))], σ, 0)) := by
  have q1 : ¬ oN n ≤ oN k := fun h => by
    have := (oN_le (by omega) (by omega)).mp h
    omega
  have q2 : (oN (42 + 5 * k)).toNatClampNeg = 42 + 5 * k := oN_nat (by omega)
  have q3 : (oN (42 + 5 * k + 1)).toNatClampNeg = 42 + 5 * k + 1 := oN_nat (by omega)
  have q4 : (0 : Int32) ≤ oN (42 + 5 * k) := oN_nn (by omega)
  have q5 : (0 : Int32) ≤ oN (42 + 5 * k + 1) := oN_nn (by omega)
  have q6 : 42 + 5 * k < 102 := by omega
  have q7 : 42 + 5 * k + 1 < 102 := by omega
  skip
  by_cases c1 : σ.1 9 2 (42 + 5 * k) = v <;> by_cases c2 : σ.1 9 2 (42 + 5 * k + 1) = d <;> simp [↓pX8_entry_0, ↓pX8_entry_1, ↓pX8_entry_2, ↓pX8_entry_3, ↓pX8_entry_4, ↓pX8_entry_7, ↓pX8_entry_9, ↓pX8_entry_10, ↓pX8_entry_13, ↓pX8_entry_14, ↓pX8_entry_17, ↓pX8_entry_19, ↓pX8_entry_20, ↓pX8_entry_21, ↓pX8_entry_22, ↓pX8_entry_23, ↓pX8_entry_24, ↓pX8_entry_25, ↓pX8_entry_28, ↓pX8_entry_29, ↓pX8_entry_32, ↓pX8_entry_34, ↓pX8_entry_35, ↓pX8_entry_36, ↓pX8_entry_37, ↓pX8_entry_38, ↓pX8_entry_39, ↓pX8_entry_40, ↓pX8_entry_41, ↓pX8_entry_42, ↓pX8_entry_45, ↓pX8_entry_47, ↓pX8_entry_48, ↓pX8_entry_49, ↓pX8_entry_50, ↓pX8_entry_51, ↓pX8_entry_52, ↓pX8_entry_55, ↓pX8_entry_58, ↓pX8_entry_59, ↓pX8_entry_62, ↓pX8_entry_64, ↓pX8_entry_65, ↓pX8_entry_67, ↓pX8_entry_70, ↓pX8_entry_72, ↓pX8_entry_73, ↓pX8_entry_74, ↓pX8_entry_76, ↓pX8_entry_79, ↓pX8_entry_80, ↓pX8_entry_83, ↓pX8_entry_84, ↓pX8_entry_85, ↓pX8_entry_88, ↓pX8_entry_89, ↓pX8_entry_90, ↓pX8_entry_91, ↓pX8_entry_92, ↓pX8_entry_93, ↓pX8_entry_96, ↓pX8_entry_99, ↓pX8_entry_100, ↓pX8_entry_103, ↓pX8_entry_105, ↓pX8_entry_106, ↓pX8_entry_107, ↓pX8_entry_108, ↓pX8_entry_109, ↓pX8_entry_110, ↓pX8_entry_112, ↓pX8_entry_113, ↓pX8_entry_114, ↓pX8_entry_117, ↓pX8_entry_119, ↓pX8_entry_120, ↓pX8_entry_121, ↓pX8_entry_122, ↓pX8_entry_123, ↓pX8_entry_124, ↓pX8_entry_126, ↓pX8_entry_128, ↓pX8_entry_129, ↓pX8_entry_132, ↓pX8_entry_133, ↓pX8_entry_136, ↓pX8_entry_137, ↓pX8_entry_139, ↓pX8_entry_140, ↓pX8_entry_142, ↓pX8_entry_145, ↓pX8_entry_146, ↓pX8_entry_149, ↓pX8_entry_151, ↓pX8_entry_152, ↓pX8_entry_155, ↓pX8_entry_156, ↓pX8_entry_159, ↓pX8_entry_160, ↓pX8_entry_161, ↓pX8_entry_164, ↓pX8_entry_167, ↓pX8_entry_168, ↓pX8_entry_171, ↓pX8_entry_173, ↓pX8_entry_174, ↓pX8_entry_175, ↓pX8_entry_176, ↓pX8_entry_177, ↓pX8_entry_178, ↓pX8_entry_179, ↓xkI, ↓xkL, ↓xkA, ↓xsI, ↓xsL, ↓xsA, ↓xbI, ↓xbD, ↓xbL, ↓xc1, ↓xc2, ↓xgF, ↓xpF, ↓xgA, ↓xpA, ↓xgLA, ↓xpLA, ↓xgRA, ↓xgLen, xBnd, ↓xGoTo, ↓xRet, ↓xRetL, ↓xRetA, ↓xRetV, ↓xNew, ↓xlg, ↓xl1, ↓xl2, xk1, xk2, ↓xcat, ↓xws, ↓xStopAt, ↓xStopOut, ↓xpick, ↓xfg, ↓xfk, ↓xrho, ↓xlen, ↓xSw, ↓List.filter, he, q1, q2, q3, q4, q5, q6, q7, i5k, oN_1, c1, c2]
/-- the first row from k on, of m rows, with the valve v and the day d -/
def fndL (L : Nat → Int32) (v d : Int32) : Nat → Nat → Option Nat
  | _, 0 => none
  | k, m + 1 => if L (5 * k) = v ∧ L (5 * k + 1) = d then some k else fndL L v d (k + 1) m
set_option maxRecDepth 100000 in
set_option maxHeartbeats 4000000 in
theorem lX8_entry_loop (X : Nat × (Nat → Int32)) (σ : XH) (v d : Int32) (n : Nat) (hn : n ≤ 12) (he : σ.1 9 2 9 = oN n) : ∀ (m k N : Nat), k + m = n → xIter X (xEnv (nX8_entry X)) (fun _ _ => some none) 0 [(2, [0, 1, 2, 3]), (73, [0, 1, 2, 3]), (126, [0, 1, 2, 3, 4])] tX8_entry (N + m) (2, [(0, xR 7 0), (1, xI v), (2, xI d), (3, xI (oN k))], σ, 0) = match fndL (fun i => σ.1 9 2 (42 + i)) v d k m with | some r => some (.inl (some (.inl (oN (42 + 5 * r)))), σ) | none => xIter X (xEnv (nX8_entry X)) (fun _ _ => some none) 0 [(2, [0, 1, 2, 3]), (73, [0, 1, 2, 3]), (126, [0, 1, 2, 3, 4])] tX8_entry N (2, [(0, xR 7 0), (1, xI v), (2, xI d), (3, xI (oN n))], σ, 0) := by
  intro m
  induction m with
  | zero =>
    intro k N h
    have h2 : k = n := by omega
    subst h2
    rfl
  | succ m ih =>
    intro k N h
    have h1 := lX8_entry_1 X σ v d k n (by omega) hn he
    unfold fndL
    by_cases c : σ.1 9 2 (42 + 5 * k) = v ∧ σ.1 9 2 (42 + 5 * k + 1) = d
    · have c2 : σ.1 9 2 (42 + 5 * k) = v ∧ σ.1 9 2 (42 + (5 * k + 1)) = d := c
      rw [if_pos c] at h1
      rw [if_pos c2]
      exact xDone (n := N + m) h1
    · have c2 : ¬ (σ.1 9 2 (42 + 5 * k) = v ∧ σ.1 9 2 (42 + (5 * k + 1)) = d) := c
      rw [if_neg c] at h1
      rw [if_neg c2]
      exact (xNext (n := N + m) h1).trans (ih (k + 1) N (by omega))
set_option maxRecDepth 100000 in
set_option maxHeartbeats 4000000 in
theorem lX8_entry_2 (X : Nat × (Nat → Int32)) (σ : XH) (v d : Int32) (n : Nat) (hn : n < 12) (he : σ.1 9 2 9 = oN n) : xExec X (xEnv (nX8_entry X)) (fun _ _ => some none) 0 [(2, [0, 1, 2, 3]), (73, [0, 1, 2, 3]), (126, [0, 1, 2, 3, 4])] tX8_entry 1000 (xPc tX8_entry 2) [(0, xR 7 0), (1, xI v), (2, xI d), (3, xI (oN n))] [] σ 0 = some (.inr (126, [(0, xR 7 0), (1, xI v), (2, xI d), (3, xI (oN (42 + 5 * n))), (4, xI 0)], σ, 0)) := by
  have q1 : ¬ oN n = 12 := fun h => by
    have h2 : oN n = oN 12 := h
    have := (oN_inj (by omega) (by decide)).mp h2
    omega
  simp [↓pX8_entry_0, ↓pX8_entry_1, ↓pX8_entry_2, ↓pX8_entry_3, ↓pX8_entry_4, ↓pX8_entry_7, ↓pX8_entry_9, ↓pX8_entry_10, ↓pX8_entry_13, ↓pX8_entry_14, ↓pX8_entry_17, ↓pX8_entry_19, ↓pX8_entry_20, ↓pX8_entry_21, ↓pX8_entry_22, ↓pX8_entry_23, ↓pX8_entry_24, ↓pX8_entry_25, ↓pX8_entry_28, ↓pX8_entry_29, ↓pX8_entry_32, ↓pX8_entry_34, ↓pX8_entry_35, ↓pX8_entry_36, ↓pX8_entry_37, ↓pX8_entry_38, ↓pX8_entry_39, ↓pX8_entry_40, ↓pX8_entry_41, ↓pX8_entry_42, ↓pX8_entry_45, ↓pX8_entry_47, ↓pX8_entry_48, ↓pX8_entry_49, ↓pX8_entry_50, ↓pX8_entry_51, ↓pX8_entry_52, ↓pX8_entry_55, ↓pX8_entry_58, ↓pX8_entry_59, ↓pX8_entry_62, ↓pX8_entry_64, ↓pX8_entry_65, ↓pX8_entry_67, ↓pX8_entry_70, ↓pX8_entry_72, ↓pX8_entry_73, ↓pX8_entry_74, ↓pX8_entry_76, ↓pX8_entry_79, ↓pX8_entry_80, ↓pX8_entry_83, ↓pX8_entry_84, ↓pX8_entry_85, ↓pX8_entry_88, ↓pX8_entry_89, ↓pX8_entry_90, ↓pX8_entry_91, ↓pX8_entry_92, ↓pX8_entry_93, ↓pX8_entry_96, ↓pX8_entry_99, ↓pX8_entry_100, ↓pX8_entry_103, ↓pX8_entry_105, ↓pX8_entry_106, ↓pX8_entry_107, ↓pX8_entry_108, ↓pX8_entry_109, ↓pX8_entry_110, ↓pX8_entry_112, ↓pX8_entry_113, ↓pX8_entry_114, ↓pX8_entry_117, ↓pX8_entry_119, ↓pX8_entry_120, ↓pX8_entry_121, ↓pX8_entry_122, ↓pX8_entry_123, ↓pX8_entry_124, ↓pX8_entry_126, ↓pX8_entry_128, ↓pX8_entry_129, ↓pX8_entry_132, ↓pX8_entry_133, ↓pX8_entry_136, ↓pX8_entry_137, ↓pX8_entry_139, ↓pX8_entry_140, ↓pX8_entry_142, ↓pX8_entry_145, ↓pX8_entry_146, ↓pX8_entry_149, ↓pX8_entry_151, ↓pX8_entry_152, ↓pX8_entry_155, ↓pX8_entry_156, ↓pX8_entry_159, ↓pX8_entry_160, ↓pX8_entry_161, ↓pX8_entry_164, ↓pX8_entry_167, ↓pX8_entry_168, ↓pX8_entry_171, ↓pX8_entry_173, ↓pX8_entry_174, ↓pX8_entry_175, ↓pX8_entry_176, ↓pX8_entry_177, ↓pX8_entry_178, ↓pX8_entry_179, ↓xkI, ↓xkL, ↓xkA, ↓xsI, ↓xsL, ↓xsA, ↓xbI, ↓xbD, ↓xbL, ↓xc1, ↓xc2, ↓xgF, ↓xpF, ↓xgA, ↓xpA, ↓xgLA, ↓xpLA, ↓xgRA, ↓xgLen, xBnd, ↓xGoTo, ↓xRet, ↓xRetL, ↓xRetA, ↓xRetV, ↓xNew, ↓xlg, ↓xl1, ↓xl2, xk1, xk2, ↓xcat, ↓xws, ↓xStopAt, ↓xStopOut, ↓xpick, ↓xfg, ↓xfk, ↓xrho, ↓xlen, ↓xSw, ↓List.filter, he, q1, i5k]
set_option maxRecDepth 100000 in
set_option maxHeartbeats 4000000 in
theorem lX8_entry_3 (X : Nat × (Nat → Int32)) (σ : XH) (v d : Int32) (he : σ.1 9 2 9 = oN 12) : xExec X (xEnv (nX8_entry X)) (fun _ _ => some none) 0 [(2, [0, 1, 2, 3]), (73, [0, 1, 2, 3]), (126, [0, 1, 2, 3, 4])] tX8_entry 1000 (xPc tX8_entry 2) [(0, xR 7 0), (1, xI v), (2, xI d), (3, xI (oN 12))] [] σ 0 = some (.inr (73, [(0, xR 7 0), (1, xI v), (2, xI d), (3, xI (oN 42))], σ, 0)) := by
  have q1 : oN 12 = 12 := rfl
  have q2 : oN 42 = 42 := rfl
  simp [↓pX8_entry_0, ↓pX8_entry_1, ↓pX8_entry_2, ↓pX8_entry_3, ↓pX8_entry_4, ↓pX8_entry_7, ↓pX8_entry_9, ↓pX8_entry_10, ↓pX8_entry_13, ↓pX8_entry_14, ↓pX8_entry_17, ↓pX8_entry_19, ↓pX8_entry_20, ↓pX8_entry_21, ↓pX8_entry_22, ↓pX8_entry_23, ↓pX8_entry_24, ↓pX8_entry_25, ↓pX8_entry_28, ↓pX8_entry_29, ↓pX8_entry_32, ↓pX8_entry_34, ↓pX8_entry_35, ↓pX8_entry_36, ↓pX8_entry_37, ↓pX8_entry_38, ↓pX8_entry_39, ↓pX8_entry_40, ↓pX8_entry_41, ↓pX8_entry_42, ↓pX8_entry_45, ↓pX8_entry_47, ↓pX8_entry_48, ↓pX8_entry_49, ↓pX8_entry_50, ↓pX8_entry_51, ↓pX8_entry_52, ↓pX8_entry_55, ↓pX8_entry_58, ↓pX8_entry_59, ↓pX8_entry_62, ↓pX8_entry_64, ↓pX8_entry_65, ↓pX8_entry_67, ↓pX8_entry_70, ↓pX8_entry_72, ↓pX8_entry_73, ↓pX8_entry_74, ↓pX8_entry_76, ↓pX8_entry_79, ↓pX8_entry_80, ↓pX8_entry_83, ↓pX8_entry_84, ↓pX8_entry_85, ↓pX8_entry_88, ↓pX8_entry_89, ↓pX8_entry_90, ↓pX8_entry_91, ↓pX8_entry_92, ↓pX8_entry_93, ↓pX8_entry_96, ↓pX8_entry_99, ↓pX8_entry_100, ↓pX8_entry_103, ↓pX8_entry_105, ↓pX8_entry_106, ↓pX8_entry_107, ↓pX8_entry_108, ↓pX8_entry_109, ↓pX8_entry_110, ↓pX8_entry_112, ↓pX8_entry_113, ↓pX8_entry_114, ↓pX8_entry_117, ↓pX8_entry_119, ↓pX8_entry_120, ↓pX8_entry_121, ↓pX8_entry_122, ↓pX8_entry_123, ↓pX8_entry_124, ↓pX8_entry_126, ↓pX8_entry_128, ↓pX8_entry_129, ↓pX8_entry_132, ↓pX8_entry_133, ↓pX8_entry_136, ↓pX8_entry_137, ↓pX8_entry_139, ↓pX8_entry_140, ↓pX8_entry_142, ↓pX8_entry_145, ↓pX8_entry_146, ↓pX8_entry_149, ↓pX8_entry_151, ↓pX8_entry_152, ↓pX8_entry_155, ↓pX8_entry_156, ↓pX8_entry_159, ↓pX8_entry_160, ↓pX8_entry_161, ↓pX8_entry_164, ↓pX8_entry_167, ↓pX8_entry_168, ↓pX8_entry_171, ↓pX8_entry_173, ↓pX8_entry_174, ↓pX8_entry_175, ↓pX8_entry_176, ↓pX8_entry_177, ↓pX8_entry_178, ↓pX8_entry_179, ↓xkI, ↓xkL, ↓xkA, ↓xsI, ↓xsL, ↓xsA, ↓xbI, ↓xbD, ↓xbL, ↓xc1, ↓xc2, ↓xgF, ↓xpF, ↓xgA, ↓xpA, ↓xgLA, ↓xpLA, ↓xgRA, ↓xgLen, xBnd, ↓xGoTo, ↓xRet, ↓xRetL, ↓xRetA, ↓xRetV, ↓xNew, ↓xlg, ↓xl1, ↓xl2, xk1, xk2, ↓xcat, ↓xws, ↓xStopAt, ↓xStopOut, ↓xpick, ↓xfg, ↓xfk, ↓xrho, ↓xlen, ↓xSw, ↓List.filter, he, q1, q2]
/-- the rows of the ledger moved up, as far as k -/
def shS (σ : XH) (k : Nat) : XH := (fun c j i => if c = 9 ∧ j = 2 ∧ 42 ≤ i ∧ i < k then σ.1 9 2 (i + 5) else σ.1 c j i, σ.2)
theorem shS_0 (σ : XH) : shS σ 42 = σ := by
  unfold shS
  refine Prod.ext (funext fun c => funext fun j => funext fun i => ?_) rfl
  dsimp only
  rw [if_neg (by omega)]
theorem shS_s (σ : XH) (k : Nat) (h : 42 ≤ k) : xuI (shS σ k) 9 2 k (σ.1 9 2 (k + 5)) = shS σ (k + 1) := by
  unfold shS xuI
  refine Prod.ext (funext fun c => funext fun j => funext fun i => ?_) rfl
  dsimp only
  grind
set_option maxRecDepth 100000 in
set_option maxHeartbeats 4000000 in
theorem lX8_entry_4 (X : Nat × (Nat → Int32)) (σ : XH) (v d : Int32) (k : Nat) (h1 : 42 ≤ k) (hk : k < 97) : xExec X (xEnv (nX8_entry X)) (fun _ _ => some none) 0 [(2, [0, 1, 2, 3]), (73, [0, 1, 2, 3]), (126, [0, 1, 2, 3, 4])] tX8_entry 1000 (xPc tX8_entry 73) [(0, xR 7 0), (1, xI v), (2, xI d), (3, xI (oN k))] [] (shS σ k) 0 = some (.inr (73, [(0, xR 7 0), (1, xI v), (2, xI d), (3, xI (oN (k + 1)))], shS σ (k + 1), 0)) := by
  have q1 : ¬ (97 : Int32) ≤ oN k := fun h => by
    have := (oN_le (a := 97) (by decide) (by omega)).mp h
    omega
  have q2 : (oN k).toNatClampNeg = k := oN_nat (by omega)
  have q3 : (oN (k + 5)).toNatClampNeg = k + 5 := oN_nat (by omega)
  have q4 : (0 : Int32) ≤ oN k := oN_nn (by omega)
  have q5 : (0 : Int32) ≤ oN (k + 5) := oN_nn (by omega)
  have q6 : k < 102 := by omega
  have q7 : k + 5 < 102 := by omega
  have q8 : (shS σ k).1 9 2 (k + 5) = σ.1 9 2 (k + 5) := by
    unfold shS
    dsimp only
    rw [if_neg (by omega)]
  rw [← shS_s σ k h1]
  simp [↓pX8_entry_0, ↓pX8_entry_1, ↓pX8_entry_2, ↓pX8_entry_3, ↓pX8_entry_4, ↓pX8_entry_7, ↓pX8_entry_9, ↓pX8_entry_10, ↓pX8_entry_13, ↓pX8_entry_14, ↓pX8_entry_17, ↓pX8_entry_19, ↓pX8_entry_20, ↓pX8_entry_21, ↓pX8_entry_22, ↓pX8_entry_23, ↓pX8_entry_24, ↓pX8_entry_25, ↓pX8_entry_28, ↓pX8_entry_29, ↓pX8_entry_32, ↓pX8_entry_34, ↓pX8_entry_35, ↓pX8_entry_36, ↓pX8_entry_37, ↓pX8_entry_38, ↓pX8_entry_39, ↓pX8_entry_40, ↓pX8_entry_41, ↓pX8_entry_42, ↓pX8_entry_45, ↓pX8_entry_47, ↓pX8_entry_48, ↓pX8_entry_49, ↓pX8_entry_50, ↓pX8_entry_51, ↓pX8_entry_52, ↓pX8_entry_55, ↓pX8_entry_58, ↓pX8_entry_59, ↓pX8_entry_62, ↓pX8_entry_64, ↓pX8_entry_65, ↓pX8_entry_67, ↓pX8_entry_70, ↓pX8_entry_72, ↓pX8_entry_73, ↓pX8_entry_74, ↓pX8_entry_76, ↓pX8_entry_79, ↓pX8_entry_80, ↓pX8_entry_83, ↓pX8_entry_84, ↓pX8_entry_85, ↓pX8_entry_88, ↓pX8_entry_89, ↓pX8_entry_90, ↓pX8_entry_91, ↓pX8_entry_92, ↓pX8_entry_93, ↓pX8_entry_96, ↓pX8_entry_99, ↓pX8_entry_100, ↓pX8_entry_103, ↓pX8_entry_105, ↓pX8_entry_106, ↓pX8_entry_107, ↓pX8_entry_108, ↓pX8_entry_109, ↓pX8_entry_110, ↓pX8_entry_112, ↓pX8_entry_113, ↓pX8_entry_114, ↓pX8_entry_117, ↓pX8_entry_119, ↓pX8_entry_120, ↓pX8_entry_121, ↓pX8_entry_122, ↓pX8_entry_123, ↓pX8_entry_124, ↓pX8_entry_126, ↓pX8_entry_128, ↓pX8_entry_129, ↓pX8_entry_132, ↓pX8_entry_133, ↓pX8_entry_136, ↓pX8_entry_137, ↓pX8_entry_139, ↓pX8_entry_140, ↓pX8_entry_142, ↓pX8_entry_145, ↓pX8_entry_146, ↓pX8_entry_149, ↓pX8_entry_151, ↓pX8_entry_152, ↓pX8_entry_155, ↓pX8_entry_156, ↓pX8_entry_159, ↓pX8_entry_160, ↓pX8_entry_161, ↓pX8_entry_164, ↓pX8_entry_167, ↓pX8_entry_168, ↓pX8_entry_171, ↓pX8_entry_173, ↓pX8_entry_174, ↓pX8_entry_175, ↓pX8_entry_176, ↓pX8_entry_177, ↓pX8_entry_178, ↓pX8_entry_179, ↓xkI, ↓xkL, ↓xkA, ↓xsI, ↓xsL, ↓xsA, ↓xbI, ↓xbD, ↓xbL, ↓xc1, ↓xc2, ↓xgF, ↓xpF, ↓xgA, ↓xpA, ↓xgLA, ↓xpLA, ↓xgRA, ↓xgLen, xBnd, ↓xGoTo, ↓xRet, ↓xRetL, ↓xRetA, ↓xRetV, ↓xNew, ↓xlg, ↓xl1, ↓xl2, xk1, xk2, ↓xcat, ↓xws, ↓xStopAt, ↓xStopOut, ↓xpick, ↓xfg, ↓xfk, ↓xrho, ↓xlen, ↓xSw, ↓List.filter, q1, q2, q3, q4, q5, q6, q7, q8, oN_1, oN_5]
set_option maxRecDepth 100000 in
set_option maxHeartbeats 4000000 in
theorem lX8_entry_5 (X : Nat × (Nat → Int32)) (σ : XH) (v d : Int32) : ∀ (m k N : Nat), 42 ≤ k → k + m = 97 → xIter X (xEnv (nX8_entry X)) (fun _ _ => some none) 0 [(2, [0, 1, 2, 3]), (73, [0, 1, 2, 3]), (126, [0, 1, 2, 3, 4])] tX8_entry (N + m) (73, [(0, xR 7 0), (1, xI v), (2, xI d), (3, xI (oN k))], shS σ k, 0) = xIter X (xEnv (nX8_entry X)) (fun _ _ => some none) 0 [(2, [0, 1, 2, 3]), (73, [0, 1, 2, 3]), (126, [0, 1, 2, 3, 4])] tX8_entry N (73, [(0, xR 7 0), (1, xI v), (2, xI d), (3, xI (oN 97))], shS σ 97, 0) := by
  intro m
  induction m with
  | zero =>
    intro k N h0 h
    have h2 : k = 97 := by omega
    subst h2
    rfl
  | succ m ih =>
    intro k N h0 h
    exact (xNext (n := N + m) (lX8_entry_4 X σ v d k h0 (by omega))).trans (ih (k + 1) N (by omega) (by omega))
set_option maxRecDepth 100000 in
set_option maxHeartbeats 4000000 in
theorem lX8_entry_6 (X : Nat × (Nat → Int32)) (σ : XH) (v d : Int32) (he : σ.1 9 2 9 = 12) : xExec X (xEnv (nX8_entry X)) (fun _ _ => some none) 0 [(2, [0, 1, 2, 3]), (73, [0, 1, 2, 3]), (126, [0, 1, 2, 3, 4])] tX8_entry 1000 (xPc tX8_entry 73) [(0, xR 7 0), (1, xI v), (2, xI d), (3, xI (oN 97))] [] σ 0 = some (.inr (126, [(0, xR 7 0), (1, xI v), (2, xI d), (3, xI (oN 97)), (4, xI 0)], xuI σ 9 2 9 11, 0)) := by
  have q1 : (97 : Int32) ≤ oN 97 := by decide
  simp [↓pX8_entry_0, ↓pX8_entry_1, ↓pX8_entry_2, ↓pX8_entry_3, ↓pX8_entry_4, ↓pX8_entry_7, ↓pX8_entry_9, ↓pX8_entry_10, ↓pX8_entry_13, ↓pX8_entry_14, ↓pX8_entry_17, ↓pX8_entry_19, ↓pX8_entry_20, ↓pX8_entry_21, ↓pX8_entry_22, ↓pX8_entry_23, ↓pX8_entry_24, ↓pX8_entry_25, ↓pX8_entry_28, ↓pX8_entry_29, ↓pX8_entry_32, ↓pX8_entry_34, ↓pX8_entry_35, ↓pX8_entry_36, ↓pX8_entry_37, ↓pX8_entry_38, ↓pX8_entry_39, ↓pX8_entry_40, ↓pX8_entry_41, ↓pX8_entry_42, ↓pX8_entry_45, ↓pX8_entry_47, ↓pX8_entry_48, ↓pX8_entry_49, ↓pX8_entry_50, ↓pX8_entry_51, ↓pX8_entry_52, ↓pX8_entry_55, ↓pX8_entry_58, ↓pX8_entry_59, ↓pX8_entry_62, ↓pX8_entry_64, ↓pX8_entry_65, ↓pX8_entry_67, ↓pX8_entry_70, ↓pX8_entry_72, ↓pX8_entry_73, ↓pX8_entry_74, ↓pX8_entry_76, ↓pX8_entry_79, ↓pX8_entry_80, ↓pX8_entry_83, ↓pX8_entry_84, ↓pX8_entry_85, ↓pX8_entry_88, ↓pX8_entry_89, ↓pX8_entry_90, ↓pX8_entry_91, ↓pX8_entry_92, ↓pX8_entry_93, ↓pX8_entry_96, ↓pX8_entry_99, ↓pX8_entry_100, ↓pX8_entry_103, ↓pX8_entry_105, ↓pX8_entry_106, ↓pX8_entry_107, ↓pX8_entry_108, ↓pX8_entry_109, ↓pX8_entry_110, ↓pX8_entry_112, ↓pX8_entry_113, ↓pX8_entry_114, ↓pX8_entry_117, ↓pX8_entry_119, ↓pX8_entry_120, ↓pX8_entry_121, ↓pX8_entry_122, ↓pX8_entry_123, ↓pX8_entry_124, ↓pX8_entry_126, ↓pX8_entry_128, ↓pX8_entry_129, ↓pX8_entry_132, ↓pX8_entry_133, ↓pX8_entry_136, ↓pX8_entry_137, ↓pX8_entry_139, ↓pX8_entry_140, ↓pX8_entry_142, ↓pX8_entry_145, ↓pX8_entry_146, ↓pX8_entry_149, ↓pX8_entry_151, ↓pX8_entry_152, ↓pX8_entry_155, ↓pX8_entry_156, ↓pX8_entry_159, ↓pX8_entry_160, ↓pX8_entry_161, ↓pX8_entry_164, ↓pX8_entry_167, ↓pX8_entry_168, ↓pX8_entry_171, ↓pX8_entry_173, ↓pX8_entry_174, ↓pX8_entry_175, ↓pX8_entry_176, ↓pX8_entry_177, ↓pX8_entry_178, ↓pX8_entry_179, ↓xkI, ↓xkL, ↓xkA, ↓xsI, ↓xsL, ↓xsA, ↓xbI, ↓xbD, ↓xbL, ↓xc1, ↓xc2, ↓xgF, ↓xpF, ↓xgA, ↓xpA, ↓xgLA, ↓xpLA, ↓xgRA, ↓xgLen, xBnd, ↓xGoTo, ↓xRet, ↓xRetL, ↓xRetA, ↓xRetV, ↓xNew, ↓xlg, ↓xl1, ↓xl2, xk1, xk2, ↓xcat, ↓xws, ↓xStopAt, ↓xStopOut, ↓xpick, ↓xfg, ↓xfk, ↓xrho, ↓xlen, ↓xSw, ↓List.filter, he, q1, xu_eq]
  rfl
set_option maxRecDepth 100000 in
set_option maxHeartbeats 4000000 in
theorem lX8_entry_f0 (X : Nat × (Nat → Int32)) (σ : XH) (v d : Int32) (p : Nat) (hp : p ≤ 97) : xExec X (xEnv (nX8_entry X)) (fun _ _ => some none) 0 [(2, [0, 1, 2, 3]), (73, [0, 1, 2, 3]), (126, [0, 1, 2, 3, 4])] tX8_entry 1000 (xPc tX8_entry 126) [(0, xR 7 0), (1, xI v), (2, xI d), (3, xI (oN p)), (4, xI 0)] [] σ 0 = some (.inr (126, [(0, xR 7 0), (1, xI v), (2, xI d), (3, xI (oN p)), (4, xI 1)], xuI σ 9 2 (p + 0) v, 0)) := by
  have q1 : (oN (p + 0)).toNatClampNeg = p + 0 := oN_nat (by omega)
  have q2 : (0 : Int32) ≤ oN (p + 0) := oN_nn (by omega)
  have q3 : p + 0 < 102 := by omega
  have q4 : oN p + 0 = oN (p + 0) := oN_add p 0
  simp only [Nat.add_zero] at *
  have q4b : oN p + 0 = oN p := oN_add p 0
  simp [↓pX8_entry_0, ↓pX8_entry_1, ↓pX8_entry_2, ↓pX8_entry_3, ↓pX8_entry_4, ↓pX8_entry_7, ↓pX8_entry_9, ↓pX8_entry_10, ↓pX8_entry_13, ↓pX8_entry_14, ↓pX8_entry_17, ↓pX8_entry_19, ↓pX8_entry_20, ↓pX8_entry_21, ↓pX8_entry_22, ↓pX8_entry_23, ↓pX8_entry_24, ↓pX8_entry_25, ↓pX8_entry_28, ↓pX8_entry_29, ↓pX8_entry_32, ↓pX8_entry_34, ↓pX8_entry_35, ↓pX8_entry_36, ↓pX8_entry_37, ↓pX8_entry_38, ↓pX8_entry_39, ↓pX8_entry_40, ↓pX8_entry_41, ↓pX8_entry_42, ↓pX8_entry_45, ↓pX8_entry_47, ↓pX8_entry_48, ↓pX8_entry_49, ↓pX8_entry_50, ↓pX8_entry_51, ↓pX8_entry_52, ↓pX8_entry_55, ↓pX8_entry_58, ↓pX8_entry_59, ↓pX8_entry_62, ↓pX8_entry_64, ↓pX8_entry_65, ↓pX8_entry_67, ↓pX8_entry_70, ↓pX8_entry_72, ↓pX8_entry_73, ↓pX8_entry_74, ↓pX8_entry_76, ↓pX8_entry_79, ↓pX8_entry_80, ↓pX8_entry_83, ↓pX8_entry_84, ↓pX8_entry_85, ↓pX8_entry_88, ↓pX8_entry_89, ↓pX8_entry_90, ↓pX8_entry_91, ↓pX8_entry_92, ↓pX8_entry_93, ↓pX8_entry_96, ↓pX8_entry_99, ↓pX8_entry_100, ↓pX8_entry_103, ↓pX8_entry_105, ↓pX8_entry_106, ↓pX8_entry_107, ↓pX8_entry_108, ↓pX8_entry_109, ↓pX8_entry_110, ↓pX8_entry_112, ↓pX8_entry_113, ↓pX8_entry_114, ↓pX8_entry_117, ↓pX8_entry_119, ↓pX8_entry_120, ↓pX8_entry_121, ↓pX8_entry_122, ↓pX8_entry_123, ↓pX8_entry_124, ↓pX8_entry_126, ↓pX8_entry_128, ↓pX8_entry_129, ↓pX8_entry_132, ↓pX8_entry_133, ↓pX8_entry_136, ↓pX8_entry_137, ↓pX8_entry_139, ↓pX8_entry_140, ↓pX8_entry_142, ↓pX8_entry_145, ↓pX8_entry_146, ↓pX8_entry_149, ↓pX8_entry_151, ↓pX8_entry_152, ↓pX8_entry_155, ↓pX8_entry_156, ↓pX8_entry_159, ↓pX8_entry_160, ↓pX8_entry_161, ↓pX8_entry_164, ↓pX8_entry_167, ↓pX8_entry_168, ↓pX8_entry_171, ↓pX8_entry_173, ↓pX8_entry_174, ↓pX8_entry_175, ↓pX8_entry_176, ↓pX8_entry_177, ↓pX8_entry_178, ↓pX8_entry_179, ↓xkI, ↓xkL, ↓xkA, ↓xsI, ↓xsL, ↓xsA, ↓xbI, ↓xbD, ↓xbL, ↓xc1, ↓xc2, ↓xgF, ↓xpF, ↓xgA, ↓xpA, ↓xgLA, ↓xpLA, ↓xgRA, ↓xgLen, xBnd, ↓xGoTo, ↓xRet, ↓xRetL, ↓xRetA, ↓xRetV, ↓xNew, ↓xlg, ↓xl1, ↓xl2, xk1, xk2, ↓xcat, ↓xws, ↓xStopAt, ↓xStopOut, ↓xpick, ↓xfg, ↓xfk, ↓xrho, ↓xlen, ↓xSw, ↓List.filter, q1, q2, q3, q4b]
set_option maxRecDepth 100000 in
set_option maxHeartbeats 4000000 in
theorem lX8_entry_f1 (X : Nat × (Nat → Int32)) (σ : XH) (v d : Int32) (p : Nat) (hp : p ≤ 97) : xExec X (xEnv (nX8_entry X)) (fun _ _ => some none) 0 [(2, [0, 1, 2, 3]), (73, [0, 1, 2, 3]), (126, [0, 1, 2, 3, 4])] tX8_entry 1000 (xPc tX8_entry 126) [(0, xR 7 0), (1, xI v), (2, xI d), (3, xI (oN p)), (4, xI 1)] [] σ 0 = some (.inr (126, [(0, xR 7 0), (1, xI v), (2, xI d), (3, xI (oN p)), (4, xI 2)], xuI σ 9 2 (p + 1) d, 0)) := by
  have q1 : (oN (p + 1)).toNatClampNeg = p + 1 := oN_nat (by omega)
  have q2 : (0 : Int32) ≤ oN (p + 1) := oN_nn (by omega)
  have q3 : p + 1 < 102 := by omega
  have q4 : oN p + 1 = oN (p + 1) := oN_add p 1
  simp [↓pX8_entry_0, ↓pX8_entry_1, ↓pX8_entry_2, ↓pX8_entry_3, ↓pX8_entry_4, ↓pX8_entry_7, ↓pX8_entry_9, ↓pX8_entry_10, ↓pX8_entry_13, ↓pX8_entry_14, ↓pX8_entry_17, ↓pX8_entry_19, ↓pX8_entry_20, ↓pX8_entry_21, ↓pX8_entry_22, ↓pX8_entry_23, ↓pX8_entry_24, ↓pX8_entry_25, ↓pX8_entry_28, ↓pX8_entry_29, ↓pX8_entry_32, ↓pX8_entry_34, ↓pX8_entry_35, ↓pX8_entry_36, ↓pX8_entry_37, ↓pX8_entry_38, ↓pX8_entry_39, ↓pX8_entry_40, ↓pX8_entry_41, ↓pX8_entry_42, ↓pX8_entry_45, ↓pX8_entry_47, ↓pX8_entry_48, ↓pX8_entry_49, ↓pX8_entry_50, ↓pX8_entry_51, ↓pX8_entry_52, ↓pX8_entry_55, ↓pX8_entry_58, ↓pX8_entry_59, ↓pX8_entry_62, ↓pX8_entry_64, ↓pX8_entry_65, ↓pX8_entry_67, ↓pX8_entry_70, ↓pX8_entry_72, ↓pX8_entry_73, ↓pX8_entry_74, ↓pX8_entry_76, ↓pX8_entry_79, ↓pX8_entry_80, ↓pX8_entry_83, ↓pX8_entry_84, ↓pX8_entry_85, ↓pX8_entry_88, ↓pX8_entry_89, ↓pX8_entry_90, ↓pX8_entry_91, ↓pX8_entry_92, ↓pX8_entry_93, ↓pX8_entry_96, ↓pX8_entry_99, ↓pX8_entry_100, ↓pX8_entry_103, ↓pX8_entry_105, ↓pX8_entry_106, ↓pX8_entry_107, ↓pX8_entry_108, ↓pX8_entry_109, ↓pX8_entry_110, ↓pX8_entry_112, ↓pX8_entry_113, ↓pX8_entry_114, ↓pX8_entry_117, ↓pX8_entry_119, ↓pX8_entry_120, ↓pX8_entry_121, ↓pX8_entry_122, ↓pX8_entry_123, ↓pX8_entry_124, ↓pX8_entry_126, ↓pX8_entry_128, ↓pX8_entry_129, ↓pX8_entry_132, ↓pX8_entry_133, ↓pX8_entry_136, ↓pX8_entry_137, ↓pX8_entry_139, ↓pX8_entry_140, ↓pX8_entry_142, ↓pX8_entry_145, ↓pX8_entry_146, ↓pX8_entry_149, ↓pX8_entry_151, ↓pX8_entry_152, ↓pX8_entry_155, ↓pX8_entry_156, ↓pX8_entry_159, ↓pX8_entry_160, ↓pX8_entry_161, ↓pX8_entry_164, ↓pX8_entry_167, ↓pX8_entry_168, ↓pX8_entry_171, ↓pX8_entry_173, ↓pX8_entry_174, ↓pX8_entry_175, ↓pX8_entry_176, ↓pX8_entry_177, ↓pX8_entry_178, ↓pX8_entry_179, ↓xkI, ↓xkL, ↓xkA, ↓xsI, ↓xsL, ↓xsA, ↓xbI, ↓xbD, ↓xbL, ↓xc1, ↓xc2, ↓xgF, ↓xpF, ↓xgA, ↓xpA, ↓xgLA, ↓xpLA, ↓xgRA, ↓xgLen, xBnd, ↓xGoTo, ↓xRet, ↓xRetL, ↓xRetA, ↓xRetV, ↓xNew, ↓xlg, ↓xl1, ↓xl2, xk1, xk2, ↓xcat, ↓xws, ↓xStopAt, ↓xStopOut, ↓xpick, ↓xfg, ↓xfk, ↓xrho, ↓xlen, ↓xSw, ↓List.filter, q1, q2, q3, q4]
set_option maxRecDepth 100000 in
set_option maxHeartbeats 4000000 in
theorem lX8_entry_f2 (X : Nat × (Nat → Int32)) (σ : XH) (v d : Int32) (p : Nat) (hp : p ≤ 97) : xExec X (xEnv (nX8_entry X)) (fun _ _ => some none) 0 [(2, [0, 1, 2, 3]), (73, [0, 1, 2, 3]), (126, [0, 1, 2, 3, 4])] tX8_entry 1000 (xPc tX8_entry 126) [(0, xR 7 0), (1, xI v), (2, xI d), (3, xI (oN p)), (4, xI 2)] [] σ 0 = some (.inr (126, [(0, xR 7 0), (1, xI v), (2, xI d), (3, xI (oN p)), (4, xI 3)], xuI σ 9 2 (p + 2) 0, 0)) := by
  have q1 : (oN (p + 2)).toNatClampNeg = p + 2 := oN_nat (by omega)
  have q2 : (0 : Int32) ≤ oN (p + 2) := oN_nn (by omega)
  have q3 : p + 2 < 102 := by omega
  have q4 : oN p + 2 = oN (p + 2) := oN_add p 2
  simp [↓pX8_entry_0, ↓pX8_entry_1, ↓pX8_entry_2, ↓pX8_entry_3, ↓pX8_entry_4, ↓pX8_entry_7, ↓pX8_entry_9, ↓pX8_entry_10, ↓pX8_entry_13, ↓pX8_entry_14, ↓pX8_entry_17, ↓pX8_entry_19, ↓pX8_entry_20, ↓pX8_entry_21, ↓pX8_entry_22, ↓pX8_entry_23, ↓pX8_entry_24, ↓pX8_entry_25, ↓pX8_entry_28, ↓pX8_entry_29, ↓pX8_entry_32, ↓pX8_entry_34, ↓pX8_entry_35, ↓pX8_entry_36, ↓pX8_entry_37, ↓pX8_entry_38, ↓pX8_entry_39, ↓pX8_entry_40, ↓pX8_entry_41, ↓pX8_entry_42, ↓pX8_entry_45, ↓pX8_entry_47, ↓pX8_entry_48, ↓pX8_entry_49, ↓pX8_entry_50, ↓pX8_entry_51, ↓pX8_entry_52, ↓pX8_entry_55, ↓pX8_entry_58, ↓pX8_entry_59, ↓pX8_entry_62, ↓pX8_entry_64, ↓pX8_entry_65, ↓pX8_entry_67, ↓pX8_entry_70, ↓pX8_entry_72, ↓pX8_entry_73, ↓pX8_entry_74, ↓pX8_entry_76, ↓pX8_entry_79, ↓pX8_entry_80, ↓pX8_entry_83, ↓pX8_entry_84, ↓pX8_entry_85, ↓pX8_entry_88, ↓pX8_entry_89, ↓pX8_entry_90, ↓pX8_entry_91, ↓pX8_entry_92, ↓pX8_entry_93, ↓pX8_entry_96, ↓pX8_entry_99, ↓pX8_entry_100, ↓pX8_entry_103, ↓pX8_entry_105, ↓pX8_entry_106, ↓pX8_entry_107, ↓pX8_entry_108, ↓pX8_entry_109, ↓pX8_entry_110, ↓pX8_entry_112, ↓pX8_entry_113, ↓pX8_entry_114, ↓pX8_entry_117, ↓pX8_entry_119, ↓pX8_entry_120, ↓pX8_entry_121, ↓pX8_entry_122, ↓pX8_entry_123, ↓pX8_entry_124, ↓pX8_entry_126, ↓pX8_entry_128, ↓pX8_entry_129, ↓pX8_entry_132, ↓pX8_entry_133, ↓pX8_entry_136, ↓pX8_entry_137, ↓pX8_entry_139, ↓pX8_entry_140, ↓pX8_entry_142, ↓pX8_entry_145, ↓pX8_entry_146, ↓pX8_entry_149, ↓pX8_entry_151, ↓pX8_entry_152, ↓pX8_entry_155, ↓pX8_entry_156, ↓pX8_entry_159, ↓pX8_entry_160, ↓pX8_entry_161, ↓pX8_entry_164, ↓pX8_entry_167, ↓pX8_entry_168, ↓pX8_entry_171, ↓pX8_entry_173, ↓pX8_entry_174, ↓pX8_entry_175, ↓pX8_entry_176, ↓pX8_entry_177, ↓pX8_entry_178, ↓pX8_entry_179, ↓xkI, ↓xkL, ↓xkA, ↓xsI, ↓xsL, ↓xsA, ↓xbI, ↓xbD, ↓xbL, ↓xc1, ↓xc2, ↓xgF, ↓xpF, ↓xgA, ↓xpA, ↓xgLA, ↓xpLA, ↓xgRA, ↓xgLen, xBnd, ↓xGoTo, ↓xRet, ↓xRetL, ↓xRetA, ↓xRetV, ↓xNew, ↓xlg, ↓xl1, ↓xl2, xk1, xk2, ↓xcat, ↓xws, ↓xStopAt, ↓xStopOut, ↓xpick, ↓xfg, ↓xfk, ↓xrho, ↓xlen, ↓xSw, ↓List.filter, q1, q2, q3, q4]
set_option maxRecDepth 100000 in
set_option maxHeartbeats 4000000 in
theorem lX8_entry_f3 (X : Nat × (Nat → Int32)) (σ : XH) (v d : Int32) (p : Nat) (hp : p ≤ 97) : xExec X (xEnv (nX8_entry X)) (fun _ _ => some none) 0 [(2, [0, 1, 2, 3]), (73, [0, 1, 2, 3]), (126, [0, 1, 2, 3, 4])] tX8_entry 1000 (xPc tX8_entry 126) [(0, xR 7 0), (1, xI v), (2, xI d), (3, xI (oN p)), (4, xI 3)] [] σ 0 = some (.inr (126, [(0, xR 7 0), (1, xI v), (2, xI d), (3, xI (oN p)), (4, xI 4)], xuI σ 9 2 (p + 3) 0, 0)) := by
  have q1 : (oN (p + 3)).toNatClampNeg = p + 3 := oN_nat (by omega)
  have q2 : (0 : Int32) ≤ oN (p + 3) := oN_nn (by omega)
  have q3 : p + 3 < 102 := by omega
  have q4 : oN p + 3 = oN (p + 3) := oN_add p 3
  simp [↓pX8_entry_0, ↓pX8_entry_1, ↓pX8_entry_2, ↓pX8_entry_3, ↓pX8_entry_4, ↓pX8_entry_7, ↓pX8_entry_9, ↓pX8_entry_10, ↓pX8_entry_13, ↓pX8_entry_14, ↓pX8_entry_17, ↓pX8_entry_19, ↓pX8_entry_20, ↓pX8_entry_21, ↓pX8_entry_22, ↓pX8_entry_23, ↓pX8_entry_24, ↓pX8_entry_25, ↓pX8_entry_28, ↓pX8_entry_29, ↓pX8_entry_32, ↓pX8_entry_34, ↓pX8_entry_35, ↓pX8_entry_36, ↓pX8_entry_37, ↓pX8_entry_38, ↓pX8_entry_39, ↓pX8_entry_40, ↓pX8_entry_41, ↓pX8_entry_42, ↓pX8_entry_45, ↓pX8_entry_47, ↓pX8_entry_48, ↓pX8_entry_49, ↓pX8_entry_50, ↓pX8_entry_51, ↓pX8_entry_52, ↓pX8_entry_55, ↓pX8_entry_58, ↓pX8_entry_59, ↓pX8_entry_62, ↓pX8_entry_64, ↓pX8_entry_65, ↓pX8_entry_67, ↓pX8_entry_70, ↓pX8_entry_72, ↓pX8_entry_73, ↓pX8_entry_74, ↓pX8_entry_76, ↓pX8_entry_79, ↓pX8_entry_80, ↓pX8_entry_83, ↓pX8_entry_84, ↓pX8_entry_85, ↓pX8_entry_88, ↓pX8_entry_89, ↓pX8_entry_90, ↓pX8_entry_91, ↓pX8_entry_92, ↓pX8_entry_93, ↓pX8_entry_96, ↓pX8_entry_99, ↓pX8_entry_100, ↓pX8_entry_103, ↓pX8_entry_105, ↓pX8_entry_106, ↓pX8_entry_107, ↓pX8_entry_108, ↓pX8_entry_109, ↓pX8_entry_110, ↓pX8_entry_112, ↓pX8_entry_113, ↓pX8_entry_114, ↓pX8_entry_117, ↓pX8_entry_119, ↓pX8_entry_120, ↓pX8_entry_121, ↓pX8_entry_122, ↓pX8_entry_123, ↓pX8_entry_124, ↓pX8_entry_126, ↓pX8_entry_128, ↓pX8_entry_129, ↓pX8_entry_132, ↓pX8_entry_133, ↓pX8_entry_136, ↓pX8_entry_137, ↓pX8_entry_139, ↓pX8_entry_140, ↓pX8_entry_142, ↓pX8_entry_145, ↓pX8_entry_146, ↓pX8_entry_149, ↓pX8_entry_151, ↓pX8_entry_152, ↓pX8_entry_155, ↓pX8_entry_156, ↓pX8_entry_159, ↓pX8_entry_160, ↓pX8_entry_161, ↓pX8_entry_164, ↓pX8_entry_167, ↓pX8_entry_168, ↓pX8_entry_171, ↓pX8_entry_173, ↓pX8_entry_174, ↓pX8_entry_175, ↓pX8_entry_176, ↓pX8_entry_177, ↓pX8_entry_178, ↓pX8_entry_179, ↓xkI, ↓xkL, ↓xkA, ↓xsI, ↓xsL, ↓xsA, ↓xbI, ↓xbD, ↓xbL, ↓xc1, ↓xc2, ↓xgF, ↓xpF, ↓xgA, ↓xpA, ↓xgLA, ↓xpLA, ↓xgRA, ↓xgLen, xBnd, ↓xGoTo, ↓xRet, ↓xRetL, ↓xRetA, ↓xRetV, ↓xNew, ↓xlg, ↓xl1, ↓xl2, xk1, xk2, ↓xcat, ↓xws, ↓xStopAt, ↓xStopOut, ↓xpick, ↓xfg, ↓xfk, ↓xrho, ↓xlen, ↓xSw, ↓List.filter, q1, q2, q3, q4]
set_option maxRecDepth 100000 in
set_option maxHeartbeats 4000000 in
theorem lX8_entry_f4 (X : Nat × (Nat → Int32)) (σ : XH) (v d : Int32) (p : Nat) (hp : p ≤ 97) : xExec X (xEnv (nX8_entry X)) (fun _ _ => some none) 0 [(2, [0, 1, 2, 3]), (73, [0, 1, 2, 3]), (126, [0, 1, 2, 3, 4])] tX8_entry 1000 (xPc tX8_entry 126) [(0, xR 7 0), (1, xI v), (2, xI d), (3, xI (oN p)), (4, xI 4)] [] σ 0 = some (.inr (126, [(0, xR 7 0), (1, xI v), (2, xI d), (3, xI (oN p)), (4, xI 5)], xuI σ 9 2 (p + 4) 0, 0)) := by
  have q1 : (oN (p + 4)).toNatClampNeg = p + 4 := oN_nat (by omega)
  have q2 : (0 : Int32) ≤ oN (p + 4) := oN_nn (by omega)
  have q3 : p + 4 < 102 := by omega
  have q4 : oN p + 4 = oN (p + 4) := oN_add p 4
  simp [↓pX8_entry_0, ↓pX8_entry_1, ↓pX8_entry_2, ↓pX8_entry_3, ↓pX8_entry_4, ↓pX8_entry_7, ↓pX8_entry_9, ↓pX8_entry_10, ↓pX8_entry_13, ↓pX8_entry_14, ↓pX8_entry_17, ↓pX8_entry_19, ↓pX8_entry_20, ↓pX8_entry_21, ↓pX8_entry_22, ↓pX8_entry_23, ↓pX8_entry_24, ↓pX8_entry_25, ↓pX8_entry_28, ↓pX8_entry_29, ↓pX8_entry_32, ↓pX8_entry_34, ↓pX8_entry_35, ↓pX8_entry_36, ↓pX8_entry_37, ↓pX8_entry_38, ↓pX8_entry_39, ↓pX8_entry_40, ↓pX8_entry_41, ↓pX8_entry_42, ↓pX8_entry_45, ↓pX8_entry_47, ↓pX8_entry_48, ↓pX8_entry_49, ↓pX8_entry_50, ↓pX8_entry_51, ↓pX8_entry_52, ↓pX8_entry_55, ↓pX8_entry_58, ↓pX8_entry_59, ↓pX8_entry_62, ↓pX8_entry_64, ↓pX8_entry_65, ↓pX8_entry_67, ↓pX8_entry_70, ↓pX8_entry_72, ↓pX8_entry_73, ↓pX8_entry_74, ↓pX8_entry_76, ↓pX8_entry_79, ↓pX8_entry_80, ↓pX8_entry_83, ↓pX8_entry_84, ↓pX8_entry_85, ↓pX8_entry_88, ↓pX8_entry_89, ↓pX8_entry_90, ↓pX8_entry_91, ↓pX8_entry_92, ↓pX8_entry_93, ↓pX8_entry_96, ↓pX8_entry_99, ↓pX8_entry_100, ↓pX8_entry_103, ↓pX8_entry_105, ↓pX8_entry_106, ↓pX8_entry_107, ↓pX8_entry_108, ↓pX8_entry_109, ↓pX8_entry_110, ↓pX8_entry_112, ↓pX8_entry_113, ↓pX8_entry_114, ↓pX8_entry_117, ↓pX8_entry_119, ↓pX8_entry_120, ↓pX8_entry_121, ↓pX8_entry_122, ↓pX8_entry_123, ↓pX8_entry_124, ↓pX8_entry_126, ↓pX8_entry_128, ↓pX8_entry_129, ↓pX8_entry_132, ↓pX8_entry_133, ↓pX8_entry_136, ↓pX8_entry_137, ↓pX8_entry_139, ↓pX8_entry_140, ↓pX8_entry_142, ↓pX8_entry_145, ↓pX8_entry_146, ↓pX8_entry_149, ↓pX8_entry_151, ↓pX8_entry_152, ↓pX8_entry_155, ↓pX8_entry_156, ↓pX8_entry_159, ↓pX8_entry_160, ↓pX8_entry_161, ↓pX8_entry_164, ↓pX8_entry_167, ↓pX8_entry_168, ↓pX8_entry_171, ↓pX8_entry_173, ↓pX8_entry_174, ↓pX8_entry_175, ↓pX8_entry_176, ↓pX8_entry_177, ↓pX8_entry_178, ↓pX8_entry_179, ↓xkI, ↓xkL, ↓xkA, ↓xsI, ↓xsL, ↓xsA, ↓xbI, ↓xbD, ↓xbL, ↓xc1, ↓xc2, ↓xgF, ↓xpF, ↓xgA, ↓xpA, ↓xgLA, ↓xpLA, ↓xgRA, ↓xgLen, xBnd, ↓xGoTo, ↓xRet, ↓xRetL, ↓xRetA, ↓xRetV, ↓xNew, ↓xlg, ↓xl1, ↓xl2, xk1, xk2, ↓xcat, ↓xws, ↓xStopAt, ↓xStopOut, ↓xpick, ↓xfg, ↓xfk, ↓xrho, ↓xlen, ↓xSw, ↓List.filter, q1, q2, q3, q4]
set_option maxRecDepth 100000 in
set_option maxHeartbeats 4000000 in
theorem lX8_entry_g (X : Nat × (Nat → Int32)) (σ : XH) (v d : Int32) (p : Nat) : xExec X (xEnv (nX8_entry X)) (fun _ _ => some none) 0 [(2, [0, 1, 2, 3]), (73, [0, 1, 2, 3]), (126, [0, 1, 2, 3, 4])] tX8_entry 1000 (xPc tX8_entry 126) [(0, xR 7 0), (1, xI v), (2, xI d), (3, xI (oN p)), (4, xI 5)] [] σ 0 = some (.inl (.inl (some (.inl (oN p))), xuI σ 9 2 9 (σ.1 9 2 9 + 1))) := by
  simp [↓pX8_entry_0, ↓pX8_entry_1, ↓pX8_entry_2, ↓pX8_entry_3, ↓pX8_entry_4, ↓pX8_entry_7, ↓pX8_entry_9, ↓pX8_entry_10, ↓pX8_entry_13, ↓pX8_entry_14, ↓pX8_entry_17, ↓pX8_entry_19, ↓pX8_entry_20, ↓pX8_entry_21, ↓pX8_entry_22, ↓pX8_entry_23, ↓pX8_entry_24, ↓pX8_entry_25, ↓pX8_entry_28, ↓pX8_entry_29, ↓pX8_entry_32, ↓pX8_entry_34, ↓pX8_entry_35, ↓pX8_entry_36, ↓pX8_entry_37, ↓pX8_entry_38, ↓pX8_entry_39, ↓pX8_entry_40, ↓pX8_entry_41, ↓pX8_entry_42, ↓pX8_entry_45, ↓pX8_entry_47, ↓pX8_entry_48, ↓pX8_entry_49, ↓pX8_entry_50, ↓pX8_entry_51, ↓pX8_entry_52, ↓pX8_entry_55, ↓pX8_entry_58, ↓pX8_entry_59, ↓pX8_entry_62, ↓pX8_entry_64, ↓pX8_entry_65, ↓pX8_entry_67, ↓pX8_entry_70, ↓pX8_entry_72, ↓pX8_entry_73, ↓pX8_entry_74, ↓pX8_entry_76, ↓pX8_entry_79, ↓pX8_entry_80, ↓pX8_entry_83, ↓pX8_entry_84, ↓pX8_entry_85, ↓pX8_entry_88, ↓pX8_entry_89, ↓pX8_entry_90, ↓pX8_entry_91, ↓pX8_entry_92, ↓pX8_entry_93, ↓pX8_entry_96, ↓pX8_entry_99, ↓pX8_entry_100, ↓pX8_entry_103, ↓pX8_entry_105, ↓pX8_entry_106, ↓pX8_entry_107, ↓pX8_entry_108, ↓pX8_entry_109, ↓pX8_entry_110, ↓pX8_entry_112, ↓pX8_entry_113, ↓pX8_entry_114, ↓pX8_entry_117, ↓pX8_entry_119, ↓pX8_entry_120, ↓pX8_entry_121, ↓pX8_entry_122, ↓pX8_entry_123, ↓pX8_entry_124, ↓pX8_entry_126, ↓pX8_entry_128, ↓pX8_entry_129, ↓pX8_entry_132, ↓pX8_entry_133, ↓pX8_entry_136, ↓pX8_entry_137, ↓pX8_entry_139, ↓pX8_entry_140, ↓pX8_entry_142, ↓pX8_entry_145, ↓pX8_entry_146, ↓pX8_entry_149, ↓pX8_entry_151, ↓pX8_entry_152, ↓pX8_entry_155, ↓pX8_entry_156, ↓pX8_entry_159, ↓pX8_entry_160, ↓pX8_entry_161, ↓pX8_entry_164, ↓pX8_entry_167, ↓pX8_entry_168, ↓pX8_entry_171, ↓pX8_entry_173, ↓pX8_entry_174, ↓pX8_entry_175, ↓pX8_entry_176, ↓pX8_entry_177, ↓pX8_entry_178, ↓pX8_entry_179, ↓xkI, ↓xkL, ↓xkA, ↓xsI, ↓xsL, ↓xsA, ↓xbI, ↓xbD, ↓xbL, ↓xc1, ↓xc2, ↓xgF, ↓xpF, ↓xgA, ↓xpA, ↓xgLA, ↓xpLA, ↓xgRA, ↓xgLen, xBnd, ↓xGoTo, ↓xRet, ↓xRetL, ↓xRetA, ↓xRetV, ↓xNew, ↓xlg, ↓xl1, ↓xl2, xk1, xk2, ↓xcat, ↓xws, ↓xStopAt, ↓xStopOut, ↓xpick, ↓xfg, ↓xfk, ↓xrho, ↓xlen, ↓xSw, ↓List.filter, xu_eq, xu_ne]
set_option maxRecDepth 100000 in
set_option maxHeartbeats 4000000 in
theorem lX8_entry_0 (X : Nat × (Nat → Int32)) (σ : XH) (v d : Int32) : xExec X (xEnv (nX8_entry X)) (fun _ _ => some none) 0 [(2, [0, 1, 2, 3]), (73, [0, 1, 2, 3]), (126, [0, 1, 2, 3, 4])] tX8_entry 1000 (xPc tX8_entry 0) [(0, xR 7 0), (1, xI v), (2, xI d)] [] σ 0 = some (.inr (2, [(0, xR 7 0), (1, xI v), (2, xI d), (3, xI (oN 0))], σ, 0)) := by
  simp [↓pX8_entry_0, ↓pX8_entry_1, ↓pX8_entry_2, ↓pX8_entry_3, ↓pX8_entry_4, ↓pX8_entry_7, ↓pX8_entry_9, ↓pX8_entry_10, ↓pX8_entry_13, ↓pX8_entry_14, ↓pX8_entry_17, ↓pX8_entry_19, ↓pX8_entry_20, ↓pX8_entry_21, ↓pX8_entry_22, ↓pX8_entry_23, ↓pX8_entry_24, ↓pX8_entry_25, ↓pX8_entry_28, ↓pX8_entry_29, ↓pX8_entry_32, ↓pX8_entry_34, ↓pX8_entry_35, ↓pX8_entry_36, ↓pX8_entry_37, ↓pX8_entry_38, ↓pX8_entry_39, ↓pX8_entry_40, ↓pX8_entry_41, ↓pX8_entry_42, ↓pX8_entry_45, ↓pX8_entry_47, ↓pX8_entry_48, ↓pX8_entry_49, ↓pX8_entry_50, ↓pX8_entry_51, ↓pX8_entry_52, ↓pX8_entry_55, ↓pX8_entry_58, ↓pX8_entry_59, ↓pX8_entry_62, ↓pX8_entry_64, ↓pX8_entry_65, ↓pX8_entry_67, ↓pX8_entry_70, ↓pX8_entry_72, ↓pX8_entry_73, ↓pX8_entry_74, ↓pX8_entry_76, ↓pX8_entry_79, ↓pX8_entry_80, ↓pX8_entry_83, ↓pX8_entry_84, ↓pX8_entry_85, ↓pX8_entry_88, ↓pX8_entry_89, ↓pX8_entry_90, ↓pX8_entry_91, ↓pX8_entry_92, ↓pX8_entry_93, ↓pX8_entry_96, ↓pX8_entry_99, ↓pX8_entry_100, ↓pX8_entry_103, ↓pX8_entry_105, ↓pX8_entry_106, ↓pX8_entry_107, ↓pX8_entry_108, ↓pX8_entry_109, ↓pX8_entry_110, ↓pX8_entry_112, ↓pX8_entry_113, ↓pX8_entry_114, ↓pX8_entry_117, ↓pX8_entry_119, ↓pX8_entry_120, ↓pX8_entry_121, ↓pX8_entry_122, ↓pX8_entry_123, ↓pX8_entry_124, ↓pX8_entry_126, ↓pX8_entry_128, ↓pX8_entry_129, ↓pX8_entry_132, ↓pX8_entry_133, ↓pX8_entry_136, ↓pX8_entry_137, ↓pX8_entry_139, ↓pX8_entry_140, ↓pX8_entry_142, ↓pX8_entry_145, ↓pX8_entry_146, ↓pX8_entry_149, ↓pX8_entry_151, ↓pX8_entry_152, ↓pX8_entry_155, ↓pX8_entry_156, ↓pX8_entry_159, ↓pX8_entry_160, ↓pX8_entry_161, ↓pX8_entry_164, ↓pX8_entry_167, ↓pX8_entry_168, ↓pX8_entry_171, ↓pX8_entry_173, ↓pX8_entry_174, ↓pX8_entry_175, ↓pX8_entry_176, ↓pX8_entry_177, ↓pX8_entry_178, ↓pX8_entry_179, ↓xkI, ↓xkL, ↓xkA, ↓xsI, ↓xsL, ↓xsA, ↓xbI, ↓xbD, ↓xbL, ↓xc1, ↓xc2, ↓xgF, ↓xpF, ↓xgA, ↓xpA, ↓xgLA, ↓xpLA, ↓xgRA, ↓xgLen, xBnd, ↓xGoTo, ↓xRet, ↓xRetL, ↓xRetA, ↓xRetV, ↓xNew, ↓xlg, ↓xl1, ↓xl2, xk1, xk2, ↓xcat, ↓xws, ↓xStopAt, ↓xStopOut, ↓xpick, ↓xfg, ↓xfk, ↓xrho, ↓xlen, ↓xSw, ↓List.filter]
  rfl
def fillS (σ : XH) (v d : Int32) (p : Nat) : XH := xuI (xuI (xuI (xuI (xuI σ 9 2 (p + 0) v) 9 2 (p + 1) d) 9 2 (p + 2) 0) 9 2 (p + 3) 0) 9 2 (p + 4) 0
def entS (σ : XH) (v d : Int32) (p : Nat) : XH := xuI (fillS σ v d p) 9 2 9 ((fillS σ v d p).1 9 2 9 + 1)
set_option maxRecDepth 100000 in
set_option maxHeartbeats 4000000 in
theorem lX8_entry_end (X : Nat × (Nat → Int32)) (σ : XH) (v d : Int32) (p N : Nat) (hp : p ≤ 97) : xIter X (xEnv (nX8_entry X)) (fun _ _ => some none) 0 [(2, [0, 1, 2, 3]), (73, [0, 1, 2, 3]), (126, [0, 1, 2, 3, 4])] tX8_entry (N + 6) (126, [(0, xR 7 0), (1, xI v), (2, xI d), (3, xI (oN p)), (4, xI 0)], σ, 0) = some (.inl (some (.inl (oN p))), entS σ v d p) := by
  exact (xNext (n := N + 5) (lX8_entry_f0 X σ v d p hp)).trans ((xNext (n := N + 4) (lX8_entry_f1 X _ v d p hp)).trans ((xNext (n := N + 3) (lX8_entry_f2 X _ v d p hp)).trans ((xNext (n := N + 2) (lX8_entry_f3 X _ v d p hp)).trans ((xNext (n := N + 1) (lX8_entry_f4 X _ v d p hp)).trans (xDone (n := N) (lX8_entry_g X _ v d p))))))
set_option maxRecDepth 100000 in
set_option maxHeartbeats 4000000 in
theorem eX8_entry (X : Nat × (Nat → Int32)) (σ : XH) (v d : Int32) (n : Nat) (hn : n ≤ 12) (he : σ.1 9 2 9 = oN n) : fX8_entry X [xR 7 0, xI v, xI d] σ = match fndL (fun i => σ.1 9 2 (42 + i)) v d 0 n with | some r => some (.inl (some (.inl (oN (42 + 5 * r)))), σ) | none => if n = 12 then some (.inl (some (.inl (oN 97))), entS (xuI (shS σ 97) 9 2 9 11) v d 97) else some (.inl (some (.inl (oN (42 + 5 * n)))), entS σ v d (42 + 5 * n)) := by
  have hl := lX8_entry_loop X σ v d n hn he n 0 (99999 - n) (by omega)
  rw [show 99999 - n + n = 99999 by omega] at hl
  refine (uX8_entry _ _ _ _ _).trans ((xNext (n := 99999) (lX8_entry_0 X σ v d)).trans (hl.trans ?_))
  cases hf : fndL (fun i => σ.1 9 2 (42 + i)) v d 0 n with
  | some r => rfl
  | none =>
    dsimp only
    by_cases h12 : n = 12
    · subst h12
      rw [if_pos rfl]
      have hs := lX8_entry_5 X σ v d 55 42 (99931) (by omega) (by omega)
      rw [shS_0] at hs
      have he2 : (shS σ 97).1 9 2 9 = 12 := he
      exact (xNext (n := 99986) (lX8_entry_3 X σ v d he)).trans (hs.trans ((xNext (n := 99930) (lX8_entry_6 X (shS σ 97) v d he2)).trans (lX8_entry_end X _ v d 97 99924 (by omega))))
    · rw [if_neg h12]
      obtain ⟨M, hM⟩ : ∃ M, 99999 - n = M + 1 + 6 := ⟨99992 - n, by omega⟩
      rw [hM]
      exact (xNext (n := M + 6) (lX8_entry_2 X σ v d n (by omega) he)).trans (lX8_entry_end X σ v d (42 + 5 * n) M (by omega))
