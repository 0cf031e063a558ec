/-! ===== texts of commands: what they mean, and how the class reads them ===== -/
def runF (P : Int32 → Bool) (b : Nat → Int32) : Nat → Nat → Nat
  | p, 0 => p
  | p, m + 1 => if P (b p) = true then runF P b (p + 1) m else p
def runP (P : Int32 → Bool) (b : Nat → Int32) (n p : Nat) : Nat := runF P b p (n - p)
def isSp (x : Int32) : Bool := decide (x = 32)
def isLt (x : Int32) : Bool := decide (97 ≤ x ∧ x ≤ 122)
def isDg (x : Int32) : Bool := decide (48 ≤ x ∧ x ≤ 57)
def digF (b : Nat → Int32) (n : Nat) : Nat → Nat → Int32 → Nat × Int32
  | p, 0, a => (p, a)
  | p, m + 1, a => if p < n ∧ isDg (b p) = true then digF b n (p + 1) m (10 * a + b p - 48) else (p, a)
def rdNum (b : Nat → Int32) (n p : Nat) : (Int32 × Nat) ⊕ Nat :=
  if runP isSp b n p = p then .inr p
  else if (digF b n (runP isSp b n p) 4 0).1 = runP isSp b n p then .inr (runP isSp b n p)
  else if (digF b n (runP isSp b n p) 4 0).1 < n ∧ isDg (b (digF b n (runP isSp b n p) 4 0).1) = true then .inr (digF b n (runP isSp b n p) 4 0).1
  else .inl ((digF b n (runP isSp b n p) 4 0).2, (digF b n (runP isSp b n p) 4 0).1)
def rdNums (b : Nat → Int32) (n : Nat) : Nat → Nat → Nat → (Nat → Int32) → ((Nat → Int32) × Nat) ⊕ Nat
  | 0, _, p, g => .inl (g, p)
  | m + 1, k, p, g => match rdNum b n p with
    | .inr f => .inr f
    | .inl (v, q) => rdNums b n m (k + 1) q (updF g k v)
def eqW (k : Nat) (b : Nat → Int32) (p len : Nat) : Bool := decide (len = (xLt k).length ∧ ∀ i, i < len → b (p + i) = (xLt k).getD i 0)
def kndF (b : Nat → Int32) (p len : Nat) : Nat → Nat → Nat
  | _, 0 => 8
  | k, m + 1 => if eqW k b p len = true then k else kndF b p len (k + 1) m
def knd (b : Nat → Int32) (p len : Nat) : Nat := kndF b p len 0 8
def many : Nat → Nat
  | 0 => 3 | 1 => 3 | 2 => 3 | 3 => 1 | 4 => 1 | 5 => 0 | 6 => 1 | _ => 1
/-- a command at a place, behind its spaces: its word, its numbers, the place behind it; or the place of its fault -/
def nxT (b : Nat → Int32) (n p : Nat) : (Nat × (Nat → Int32) × Nat) ⊕ Nat :=
  if knd b p (runP isLt b n p - p) = 8 then .inr p
  else match rdNums b n (many (knd b p (runP isLt b n p - p))) 0 (runP isLt b n p) (fun _ => 0) with
    | .inr f => .inr f
    | .inl (g, r) => if runP isSp b n r < n ∧ b (runP isSp b n r) = 59 then .inl (knd b p (runP isLt b n p - p), g, runP isSp b n r + 1) else .inr (runP isSp b n r)
theorem runP_s {P : Int32 → Bool} {b : Nat → Int32} {n p : Nat} (h : p < n) (hP : P (b p) = true) : runP P b n p = runP P b n (p + 1) := by
  unfold runP
  obtain ⟨k, hk⟩ : ∃ k, n - p = k + 1 := ⟨n - p - 1, by omega⟩
  rw [hk, show n - (p + 1) = k by omega]
  show (if P (b p) = true then _ else _) = _
  rw [if_pos hP]
theorem runP_0 {P : Int32 → Bool} {b : Nat → Int32} {n p : Nat} (h : p < n) (hP : ¬ P (b p) = true) : runP P b n p = p := by
  unfold runP
  obtain ⟨k, hk⟩ : ∃ k, n - p = k + 1 := ⟨n - p - 1, by omega⟩
  rw [hk]
  show (if P (b p) = true then _ else _) = _
  rw [if_neg hP]
theorem runP_n {P : Int32 → Bool} {b : Nat → Int32} {n p : Nat} (h : n ≤ p) : runP P b n p = p := by
  unfold runP
  rw [show n - p = 0 by omega]
  rfl
theorem runP_rng {P : Int32 → Bool} {b : Nat → Int32} {n : Nat} : ∀ (m p : Nat), p + m = n → p ≤ runP P b n p ∧ runP P b n p ≤ n
  | 0, p, h => by
    rw [runP_n (by omega)]
    omega
  | m + 1, p, h => by
    by_cases hP : P (b p) = true
    · rw [runP_s (by omega) hP]
      have := runP_rng (P := P) (b := b) (n := n) m (p + 1) (by omega)
      omega
    · rw [runP_0 (by omega) hP]
      omega
theorem runP_le {P : Int32 → Bool} {b : Nat → Int32} {n p : Nat} (h : p ≤ n) : p ≤ runP P b n p ∧ runP P b n p ≤ n := runP_rng (n - p) p (by omega)
theorem runP_end {P : Int32 → Bool} {b : Nat → Int32} {n : Nat} : ∀ (m p : Nat), p + m = n → runP P b n p < n → ¬ P (b (runP P b n p)) = true
  | 0, p, h, h2 => by
    rw [runP_n (by omega)] at h2
    omega
  | m + 1, p, h, h2 => by
    by_cases hP : P (b p) = true
    · rw [runP_s (by omega) hP] at h2 ⊢
      exact runP_end m (p + 1) (by omega) h2
    · rw [runP_0 (by omega) hP]
      exact hP
theorem runP_in {P : Int32 → Bool} {b : Nat → Int32} {n : Nat} : ∀ (m p : Nat), p + m = n → ∀ i, p ≤ i → i < runP P b n p → P (b i) = true
  | 0, p, h, i, h1, h2 => by
    rw [runP_n (by omega)] at h2
    omega
  | m + 1, p, h, i, h1, h2 => by
    by_cases hP : P (b p) = true
    · rw [runP_s (by omega) hP] at h2
      by_cases e : i = p
      · rw [e]; exact hP
      · exact runP_in m (p + 1) (by omega) i (by omega) h2
    · rw [runP_0 (by omega) hP] at h2
      omega
theorem digF_rng {b : Nat → Int32} {n : Nat} : ∀ (m p : Nat) (a : Int32), p ≤ (digF b n p m a).1 ∧ (p ≤ n → (digF b n p m a).1 ≤ n)
  | 0, p, a => ⟨Nat.le_refl _, fun h => h⟩
  | m + 1, p, a => by
    unfold digF
    split
    · rename_i h
      have := digF_rng (b := b) (n := n) m (p + 1) (10 * a + b p - 48)
      exact ⟨by omega, fun _ => this.2 (by omega)⟩
    · exact ⟨Nat.le_refl _, fun h => h⟩
/-- the text that the class holds -/
def TxC (σ : XH) (b : Nat → Int32) (n : Nat) : Prop := σ.1 2 0 2 = oN n ∧ n ≤ 150 ∧ ∀ i, i < n → σ.1 9 0 i = b i ∧ 0 ≤ b i ∧ b i ≤ 127
/-- only the place of the reader changes -/
def FA (σ σ' : XH) : Prop := (∀ c j i, ¬ (c = 2 ∧ j = 0 ∧ i = 3) → σ'.1 c j i = σ.1 c j i) ∧ σ'.2 = σ.2
/-- only the reader changes -/
def FS (σ σ' : XH) : Prop := (∀ c j i, ¬ ((c = 2 ∧ j = 0 ∧ (i = 3 ∨ i = 4)) ∨ (c = 9 ∧ j = 1)) → σ'.1 c j i = σ.1 c j i) ∧ σ'.2.1 = σ.2.1
theorem FA.rf {σ : XH} : FA σ σ := ⟨fun _ _ _ _ => rfl, rfl⟩
theorem FA.tr {a b c : XH} (h1 : FA a b) (h2 : FA b c) : FA a c := ⟨fun x y z h => (h2.1 x y z h).trans (h1.1 x y z h), h2.2.trans h1.2⟩
theorem FS.rf {σ : XH} : FS σ σ := ⟨fun _ _ _ _ => rfl, rfl⟩
theorem FS.tr {a b c : XH} (h1 : FS a b) (h2 : FS b c) : FS a c := ⟨fun x y z h => (h2.1 x y z h).trans (h1.1 x y z h), h2.2.trans h1.2⟩
theorem FA.fs {σ σ' : XH} (h : FA σ σ') : FS σ σ' := ⟨fun c j i hn => h.1 c j i (fun q => hn (Or.inl ⟨q.1, q.2.1, Or.inl q.2.2⟩)), by rw [h.2]⟩
theorem xu_i {σ : XH} {c j k c' j' i : Nat} {x : Int32} (h : ¬ (c' = c ∧ j' = j ∧ i = k)) : (xuI σ c j k x).1 c' j' i = σ.1 c' j' i := by
  unfold xuI
  dsimp only
  split
  · split
    · split
      · rename_i h1 h2 h3
        exact absurd ⟨h2, h3, h1⟩ h
      · rfl
    · rfl
  · rfl
theorem FA.u {σ : XH} {x : Int32} : FA σ (xuI σ 2 0 3 x) := ⟨fun _ _ _ h => xu_i h, rfl⟩
theorem FS.u3 {σ : XH} {x : Int32} : FS σ (xuI σ 2 0 3 x) := FA.u.fs
theorem FS.u4 {σ : XH} {x : Int32} : FS σ (xuI σ 2 0 4 x) := ⟨fun c j i h => xu_i (fun q => h (Or.inl ⟨q.1, q.2.1, Or.inr q.2.2⟩)), rfl⟩
theorem FS.u9 {σ : XH} {i : Nat} {x : Int32} : FS σ (xuI σ 9 1 i x) := ⟨fun c j k h => xu_i (fun q => h (Or.inr ⟨q.1, q.2.1⟩)), rfl⟩
theorem FS.w {σ : XH} {w : Option Nat} : FS σ (σ.1, σ.2.1, w) := ⟨fun _ _ _ _ => rfl, rfl⟩
theorem FS.tx {σ σ' : XH} {b : Nat → Int32} {n : Nat} (h : FS σ σ') (hT : TxC σ b n) : TxC σ' b n :=
  ⟨(h.1 _ _ _ (by omega)).trans hT.1, hT.2.1, fun i hi => ⟨(h.1 _ _ _ (by omega)).trans (hT.2.2 i hi).1, (hT.2.2 i hi).2⟩⟩
theorem oN_m2 {e n : Nat} (he : e < 2 ^ 31) (hn : n < 2 ^ 31) : oN e ≤ oN n - 1 ↔ e < n := by
  cases n with
  | zero =>
    have h1 : oN 0 - 1 = -1 := by decide
    rw [h1]
    have := oN_nn he
    constructor
    · intro h
      exact absurd (Int32.le_trans this h) (by decide)
    · intro h
      omega
  | succ n =>
    have h1 : oN (n + 1) - 1 = oN n := by
      rw [← oN_1]
      grind
    rw [h1, oN_le he (by omega)]
    omega
set_option maxRecDepth 100000 in
set_option maxHeartbeats 1000000 in
theorem eX3_here (X : Nat × (Nat → Int32)) (σ : XH) (b : Nat → Int32) (n p : Nat) (hT : TxC σ b n) (hp : p ≤ n) (ha : σ.1 2 0 3 = oN p) : fX3_here X [xR 2 0] σ = some (.inl (some (xI (if p < n then b p else -1))), σ) := by
  obtain ⟨h1, h2, h3⟩ := hT
  rw [uX3_here]
  refine wF_eq (wI_s (N := 99999) ?_)
  by_cases hl : p < n
  · have c1 := wn_y X σ (v := oN p) (l := 0) (m := oN n - 1) ⟨oN_nn (by omega), (oN_m2 (by omega) (by omega)).mpr hl⟩
    rw [← ha, ← h1] at c1
    have hi : (σ.1 2 0 3).toNatClampNeg = p := by rw [ha, oN_nat (by omega)]
    refine wF_of c1 ?_
    refine And.intro (fun h => absurd h (by decide)) (fun _ => ?_)
    refine And.intro (fun z => ?_) (fun _ => ?_)
    · have z : oN 150 ≤ σ.1 2 0 3 := z
      rw [ha, oN_le (by decide) (by omega)] at z
      omega
    refine And.intro ⟨by rw [ha]; exact oN_nn (by omega), by rw [hi]; show p < 150; omega⟩ ?_
    rw [if_pos hl, ← (h3 p hl).1, ← hi]
    rfl
  · have c1 := wn_n X σ (v := oN p) (l := 0) (m := oN n - 1) (fun q => hl ((oN_m2 (by omega) (by omega)).mp q.2))
    rw [← ha, ← h1] at c1
    refine wF_of c1 ?_
    refine And.intro (fun _ => ?_) (fun h => absurd rfl h)
    rw [if_neg hl]
    rfl
set_option maxRecDepth 100000 in
set_option maxHeartbeats 1000000 in
theorem lX3_skipSpaces (X : Nat × (Nat → Int32)) (b : Nat → Int32) (n : Nat) : ∀ (m p N : Nat) (σ : XH), p + m = n → TxC σ b n → σ.1 2 0 3 = oN p → wF (xIter X (xEnv (nX3_skipSpaces X)) (fun _ _ => some none) 4 [(0, [0])] tX3_skipSpaces (N + m + 1) (0, [(0, xR 2 0)], σ, 0)) (fun r => ∃ σ', r = (.inl none, σ') ∧ σ'.1 2 0 3 = oN (runP isSp b n p) ∧ FA σ σ') := by
  intro m
  induction m with
  | zero =>
    intro p N σ hk hT ha
    have : p = n := by omega
    subst this
    refine wI_s (N := N + 0) ?_
    refine And.intro (fun _ => ?_) (fun z => absurd (by show σ.1 2 0 2 ≤ σ.1 2 0 3; rw [ha, hT.1]; exact Int32.le_refl _) z)
    exact ⟨σ, rfl, by rw [ha, runP_n (Nat.le_refl _)], FA.rf⟩
  | succ m ih =>
    intro p N σ hk hT ha
    have hn := hT.2.1
    have e1 := eX3_here X σ b n p hT (by omega) ha
    rw [if_pos (by omega)] at e1
    refine wI_s (N := N + (m + 1)) ?_
    refine And.intro (fun z => ?_) (fun _ => ?_)
    · have z : σ.1 2 0 2 ≤ σ.1 2 0 3 := z
      rw [ha, hT.1, oN_le (by omega) (by omega)] at z
      omega
    refine wF_of e1 ?_
    refine And.intro (fun c => ?_) (fun c => ?_)
    · have c : b p = 32 := c
      have ha2 : (xuI σ 2 0 3 (oN (p + 1))).1 2 0 3 = oN (p + 1) := by rw [xu_eq, if_pos rfl]
      have h5 := ih (p + 1) N (xuI σ 2 0 3 (oN (p + 1))) (by omega) (FS.u3.tx hT) ha2
      rw [runP_s (by omega) (by unfold isSp; rw [decide_eq_true_eq]; exact c)]
      rw [← oN_1, ← ha] at h5
      refine wF_mono h5 ?_
      rintro r ⟨σ', rfl, h6, h7⟩
      exact ⟨σ', rfl, by rw [h6], FA.u.tr h7⟩
    · have c : ¬ b p = 32 := c
      refine ⟨σ, rfl, ?_, FA.rf⟩
      rw [runP_0 (by omega) (by unfold isSp; rw [decide_eq_true_eq]; exact c), ha]
set_option maxRecDepth 100000 in
set_option maxHeartbeats 1000000 in
theorem wX3_skipSpaces (X : Nat × (Nat → Int32)) (σ : XH) (b : Nat → Int32) (n p : Nat) (hT : TxC σ b n) (hp : p ≤ n) (ha : σ.1 2 0 3 = oN p) : wF (fX3_skipSpaces X [xR 2 0] σ) (fun r => ∃ σ', r = (.inl none, σ') ∧ σ'.1 2 0 3 = oN (runP isSp b n p) ∧ FA σ σ') := by
  have hn := hT.2.1
  have := lX3_skipSpaces X b n (n - p) p (99999 - (n - p)) σ (by omega) hT ha
  rw [show 99999 - (n - p) + (n - p) + 1 = 99999 + 1 by omega] at this
  rw [uX3_skipSpaces]
  exact this
set_option maxRecDepth 100000 in
set_option maxHeartbeats 1000000 in
theorem lX3_skipLetters (X : Nat × (Nat → Int32)) (b : Nat → Int32) (n : Nat) : ∀ (m p N : Nat) (σ : XH), p + m = n → TxC σ b n → σ.1 2 0 3 = oN p → wF (xIter X (xEnv (nX3_skipLetters X)) (fun _ _ => some none) 4 [(0, [0])] tX3_skipLetters (N + m + 1) (0, [(0, xR 2 0)], σ, 0)) (fun r => ∃ σ', r = (.inl none, σ') ∧ σ'.1 2 0 3 = oN (runP isLt b n p) ∧ FA σ σ') := by
  intro m
  induction m with
  | zero =>
    intro p N σ hk hT ha
    have : p = n := by omega
    subst this
    refine wI_s (N := N + 0) ?_
    refine And.intro (fun _ => ?_) (fun z => absurd (by show σ.1 2 0 2 ≤ σ.1 2 0 3; rw [ha, hT.1]; exact Int32.le_refl _) z)
    exact ⟨σ, rfl, by rw [ha, runP_n (Nat.le_refl _)], FA.rf⟩
  | succ m ih =>
    intro p N σ hk hT ha
    have hn := hT.2.1
    have e1 := eX3_here X σ b n p hT (by omega) ha
    rw [if_pos (by omega)] at e1
    refine wI_s (N := N + (m + 1)) ?_
    refine And.intro (fun z => ?_) (fun _ => ?_)
    · have z : σ.1 2 0 2 ≤ σ.1 2 0 3 := z
      rw [ha, hT.1, oN_le (by omega) (by omega)] at z
      omega
    refine wF_of e1 ?_
    by_cases c : 97 ≤ b p ∧ b p ≤ 122
    · refine wF_of (wn_y X σ c) ?_
      refine And.intro (fun h => absurd h (by decide)) (fun _ => ?_)
      have ha2 : (xuI σ 2 0 3 (oN (p + 1))).1 2 0 3 = oN (p + 1) := by rw [xu_eq, if_pos rfl]
      have h5 := ih (p + 1) N (xuI σ 2 0 3 (oN (p + 1))) (by omega) (FS.u3.tx hT) ha2
      rw [runP_s (by omega) (by unfold isLt; rw [decide_eq_true_eq]; exact c)]
      rw [← oN_1, ← ha] at h5
      refine wF_mono h5 ?_
      rintro r ⟨σ', rfl, h6, h7⟩
      exact ⟨σ', rfl, by rw [h6], FA.u.tr h7⟩
    · refine wF_of (wn_n X σ c) ?_
      refine And.intro (fun _ => ?_) (fun h => absurd rfl h)
      refine ⟨σ, rfl, ?_, FA.rf⟩
      rw [runP_0 (by omega) (by unfold isLt; rw [decide_eq_true_eq]; exact c), ha]
set_option maxRecDepth 100000 in
set_option maxHeartbeats 1000000 in
theorem wX3_skipLetters (X : Nat × (Nat → Int32)) (σ : XH) (b : Nat → Int32) (n p : Nat) (hT : TxC σ b n) (hp : p ≤ n) (ha : σ.1 2 0 3 = oN p) : wF (fX3_skipLetters X [xR 2 0] σ) (fun r => ∃ σ', r = (.inl none, σ') ∧ σ'.1 2 0 3 = oN (runP isLt b n p) ∧ FA σ σ') := by
  have hn := hT.2.1
  have := lX3_skipLetters X b n (n - p) p (99999 - (n - p)) σ (by omega) hT ha
  rw [show 99999 - (n - p) + (n - p) + 1 = 99999 + 1 by omega] at this
  rw [uX3_skipLetters]
  exact this
/-- what reading a number comes to: q the place behind the spaces -/
def rnR (σ : XH) (q k : Nat) (d : Nat × Int32) (r : XR × XH) : Prop := ∃ σ', r = (.inl (some (xI (if d.1 = q then 0 else 1))), σ') ∧ σ'.1 2 0 3 = oN d.1 ∧ (¬ d.1 = q → σ'.1 9 1 k = d.2) ∧ (∀ i, i ≠ k → σ'.1 9 1 i = σ.1 9 1 i) ∧ σ'.1 2 0 4 = σ.1 2 0 4 ∧ σ'.2.2 = σ.2.2 ∧ FS σ σ'
abbrev xNr (X : Nat × (Nat → Int32)) (N pc : Nat) (lv : XL) (σ : XH) : Option (XR × XH) := xIter X (xEnv (nX3_readNumber X)) (fun _ _ => some none) 1 [(24, [0, 1, 3, 4])] tX3_readNumber N (pc, lv, σ, 0)
set_option maxRecDepth 100000 in
set_option maxHeartbeats 1000000 in
theorem lX3_readNumber (X : Nat × (Nat → Int32)) (b : Nat → Int32) (n q k : Nat) (hk : k < 3) (hq : q ≤ n) : ∀ (m c N : Nat) (a : Int32) (σ : XH), c + m = 4 → q + c ≤ n → TxC σ b n → σ.1 2 0 3 = oN (q + c) → wF (xNr X (N + m + 1) 24 [(0, xR 2 0), (1, xI (oN k)), (3, xI a), (4, xI (oN c))] σ) (rnR σ q k (digF b n (q + c) m a)) := by
  have fin : ∀ (σ : XH) (c : Nat) (a : Int32), c ≤ 4 → q + c ≤ n → TxC σ b n → σ.1 2 0 3 = oN (q + c) → ∀ (N F : Nat), wExec X (xEnv (nX3_readNumber X)) (fun _ _ => some none) 1 [(24, [0, 1, 3, 4])] tX3_readNumber (wQ X (xEnv (nX3_readNumber X)) (fun _ _ => some none) 1 [(24, [0, 1, 3, 4])] tX3_readNumber N (rnR σ q k (q + c, a))) (F + 40) (xPc tX3_readNumber 73) [(0, xR 2 0), (1, xI (oN k)), (3, xI a), (4, xI (oN c))] [] σ 0 := by
    intro σ c a hc hqc hT ha N F
    refine And.intro (fun z => ?_) (fun z => ?_)
    · have z : oN c = oN 0 := z
      rw [oN_inj (by omega) (by decide)] at z
      subst z
      refine And.intro (Or.inl (by decide)) ?_
      refine ⟨σ, ?_, ha, fun h => absurd rfl h, fun _ _ => rfl, rfl, rfl, FS.rf⟩
      rw [if_pos (show (q + 0, a).1 = q from rfl)]
      rfl
    · have z : ¬ oN c = oN 0 := z
      rw [oN_inj (by omega) (by decide)] at z
      have hi : (oN k).toNatClampNeg = k := oN_nat (by omega)
      refine wF_of (wn_y X σ (oN_in (l := 0) (m := 2) (by omega) (by omega) (by decide))) ?_
      refine And.intro (fun h => absurd h (by decide)) (fun _ => ?_)
      refine And.intro ⟨oN_nn (by omega), by rw [hi]; exact hk⟩ ?_
      refine And.intro (Or.inr (by decide)) ?_
      refine ⟨xuI σ 9 1 k a, ?_, ?_, fun _ => by rw [xu_eq, if_pos rfl], fun i hi2 => by rw [xu_eq, if_neg hi2], by rw [xu_ne (by decide)], rfl, FS.u9⟩
      · rw [if_neg (show ¬ (q + c, a).1 = q from by show ¬ q + c = q; omega)]
        exact congrArg (fun i => ((.inl (some (xI 1)), xuI σ 9 1 i a) : XR × XH)) hi
      · rw [xu_ne (by decide), ha]
  intro m
  induction m with
  | zero =>
    intro c N a σ hc hqc hT ha
    refine wI_s (N := N + 0) ?_
    refine And.intro (fun _ => ?_) (fun z => absurd (by show oN 4 ≤ oN c; rw [oN_le (by decide) (by omega)]; omega) z)
    exact fin σ c a (by omega) hqc hT ha _ _
  | succ m ih =>
    intro c N a σ hc hqc hT ha
    have hn := hT.2.1
    have e1 := eX3_here X σ b n (q + c) hT hqc ha
    refine wI_s (N := N + (m + 1)) ?_
    refine And.intro (fun z => ?_) (fun _ => ?_)
    · have z : oN 4 ≤ oN c := z
      rw [oN_le (by decide) (by omega)] at z
      omega
    refine wF_of e1 ?_
    by_cases hl : q + c < n
    · rw [if_pos hl] at e1 ⊢
      by_cases hd : 48 ≤ b (q + c) ∧ b (q + c) ≤ 57
      · refine wF_of (wn_y X σ hd) ?_
        refine And.intro (fun h => absurd h (by decide)) (fun _ => ?_)
        refine wF_of e1 ?_
        have ed : digF b n (q + c) (m + 1) a = digF b n (q + (c + 1)) m (10 * a + b (q + c) - 48) := by
          show (if _ then _ else _) = _
          rw [if_pos ⟨hl, by unfold isDg; rw [decide_eq_true_eq]; exact hd⟩]
          rfl
        rw [ed]
        have h5 := ih (c + 1) N (10 * a + b (q + c) - 48) (xuI σ 2 0 3 (oN (q + (c + 1)))) (by omega) (by omega) (FS.u3.tx hT) (by rw [xu_eq, if_pos rfl])
        rw [← Nat.add_assoc, ← oN_1, ← oN_1, ← ha] at h5
        refine wF_mono h5 ?_
        rintro r ⟨σ', rfl, g1, g2, g3, g4, g5, g6⟩
        rw [← Nat.add_assoc]
        exact ⟨σ', rfl, g1, g2, fun i hi => (g3 i hi).trans (xu_ne (by decide)), g4.trans (by rw [xu_eq, if_neg (by decide)]), g5, FS.u3.tr g6⟩
      · refine wF_of (wn_n X σ hd) ?_
        refine And.intro (fun _ => ?_) (fun h => absurd rfl h)
        have ed : digF b n (q + c) (m + 1) a = (q + c, a) := by
          show (if _ then _ else _) = _
          rw [if_neg (fun h => hd (by have := h.2; unfold isDg at this; rw [decide_eq_true_eq] at this; exact this))]
        rw [ed]
        exact fin σ c a (by omega) hqc hT ha _ _
    · rw [if_neg hl]
      refine wF_of (wn_n X σ (by decide)) ?_
      refine And.intro (fun _ => ?_) (fun h => absurd rfl h)
      have ed : digF b n (q + c) (m + 1) a = (q + c, a) := by
        show (if _ then _ else _) = _
        rw [if_neg (fun h => hl h.1)]
      rw [ed]
      exact fin σ c a (by omega) hqc hT ha _ _
set_option maxRecDepth 100000 in
set_option maxHeartbeats 1000000 in
theorem wX3_readNumber_0 (X : Nat × (Nat → Int32)) (σ : XH) (b : Nat → Int32) (n p k : Nat) (hp : p ≤ n) (hT : TxC σ b n) (ha : σ.1 2 0 3 = oN p) (h0 : runP isSp b n p = p) : wF (fX3_readNumber X [xR 2 0, xI (oN k)] σ) (fun r => ∃ σ', r = (.inl (some (xI 0)), σ') ∧ σ'.1 2 0 3 = oN p ∧ FA σ σ') := by
  obtain ⟨r, a1, σ1, rfl, a2, a3⟩ := wX3_skipSpaces X σ b n p hT hp ha
  rw [h0] at a2
  rw [uX3_readNumber]
  refine wI_s (N := 99999) ?_
  refine wF_of a1 ?_
  refine And.intro (fun _ => ?_) (fun z => absurd (by show σ1.1 2 0 3 = σ.1 2 0 3; rw [a2, ha]) z)
  refine And.intro (Or.inl (by decide)) ?_
  exact ⟨σ1, rfl, a2, a3⟩
set_option maxRecDepth 100000 in
set_option maxHeartbeats 1000000 in
theorem wX3_readNumber (X : Nat × (Nat → Int32)) (σ : XH) (b : Nat → Int32) (n p k : Nat) (hk : k < 3) (hp : p ≤ n) (hT : TxC σ b n) (ha : σ.1 2 0 3 = oN p) (h0 : ¬ runP isSp b n p = p) : wF (fX3_readNumber X [xR 2 0, xI (oN k)] σ) (rnR σ (runP isSp b n p) k (digF b n (runP isSp b n p) 4 0)) := by
  have hn := hT.2.1
  have hq := (runP_le (P := isSp) (b := b) hp).2
  obtain ⟨r, a1, σ1, rfl, a2, a3⟩ := wX3_skipSpaces X σ b n p hT hp ha
  have hl := lX3_readNumber X b n (runP isSp b n p) k hk hq 4 0 99994 0 σ1 rfl hq (a3.fs.tx hT) a2
  rw [uX3_readNumber]
  refine wI_s (N := 99999) ?_
  refine wF_of a1 ?_
  refine And.intro (fun z => ?_) (fun _ => ?_)
  · have z : σ1.1 2 0 3 = σ.1 2 0 3 := z
    rw [a2, ha, oN_inj (by omega) (by omega)] at z
    exact absurd z h0
  refine wF_mono hl ?_
  rintro r ⟨σ', rfl, g1, g2, g3, g4, g5, g6⟩
  exact ⟨σ', rfl, g1, g2, fun i hi => (g3 i hi).trans (a3.1 _ _ _ (by omega)), g4.trans (a3.1 _ _ _ (by omega)), g5.trans (by rw [a3.2]), a3.fs.tr g6⟩
