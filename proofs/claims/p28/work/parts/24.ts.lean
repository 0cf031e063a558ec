/-! ===== pure words of the class (out of the proof of whole, by wip/p28/gen/prune.py) ===== -/
/-- the first k numbers of the keys of a ledger's rows are apart -/
def keyA (L : Nat → Int32) (n : Nat) : Prop := ∀ i k, i < k → k < n → ¬ (L (5 * i) = L (5 * k) ∧ L (5 * i + 1) = L (5 * k + 1))
theorem fndL_some {L : Nat → Int32} {v d : Int32} {r : Nat} : ∀ (m k : Nat), fndL L v d k m = some r → k ≤ r ∧ r < k + m ∧ L (5 * r) = v ∧ L (5 * r + 1) = d
  | 0, _, h => by cases h
  | m + 1, k, h => by
    unfold fndL at h
    split at h
    · cases h
      rename_i hc
      exact ⟨Nat.le_refl _, by omega, hc.1, hc.2⟩
    · obtain ⟨a, b, c⟩ := fndL_some m (k + 1) h
      exact ⟨by omega, by omega, c⟩
theorem fndL_none {L : Nat → Int32} {v d : Int32} : ∀ (m k : Nat), fndL L v d k m = none → ∀ i, k ≤ i → i < k + m → ¬ (L (5 * i) = v ∧ L (5 * i + 1) = d)
  | 0, _, _, i, h1, h2 => by omega
  | m + 1, k, h, i, h1, h2 => by
    unfold fndL at h
    split at h
    · cases h
    · rename_i hc
      by_cases e : i = k
      · subst e
        exact hc
      · exact fndL_none m (k + 1) h i (by omega) (by omega)
/-- where the keys are apart, any row with the key is the first -/
theorem fndL_at {L : Nat → Int32} {v d : Int32} {n r : Nat} (hA : keyA L n) (hr : r < n) (h1 : L (5 * r) = v) (h2 : L (5 * r + 1) = d) : fndL L v d 0 n = some r := by
  cases h : fndL L v d 0 n with
  | none => exact absurd ⟨h1, h2⟩ (fndL_none n 0 h r (by omega) (by omega))
  | some q =>
    obtain ⟨a, b, c, e⟩ := fndL_some n 0 h
    by_cases g : q = r
    · rw [g]
    · rcases Nat.lt_or_gt_of_ne g with g | g
      · exact absurd ⟨c.trans h1.symm, e.trans h2.symm⟩ (hA q r g hr)
      · exact absurd ⟨h1.trans c.symm, h2.trans e.symm⟩ (hA r q g (by omega))
theorem fndL_no {L : Nat → Int32} {v d : Int32} {n : Nat} (h : ∀ i, i < n → ¬ (L (5 * i) = v ∧ L (5 * i + 1) = d)) : fndL L v d 0 n = none := by
  cases h2 : fndL L v d 0 n with
  | none => rfl
  | some q =>
    obtain ⟨a, b, c, e⟩ := fndL_some n 0 h2
    exact absurd ⟨c, e⟩ (h q (by omega))
def addL (L : Nat → Int32) (r : Nat) (a b c : Int32) : Nat → Int32 := updF (updF (updF L (5 * r + 2) (L (5 * r + 2) + a)) (5 * r + 3) (L (5 * r + 3) + b)) (5 * r + 4) (L (5 * r + 4) + c)
def filL (L : Nat → Int32) (r : Nat) (v d : Int32) : Nat → Int32 := updF (updF (updF (updF (updF L (5 * r) v) (5 * r + 1) d) (5 * r + 2) 0) (5 * r + 3) 0) (5 * r + 4) 0
def shfL (L : Nat → Int32) : Nat → Int32 := fun i => if i < 55 then L (i + 5) else L i
/-- the row for a valve and a day: where it is, the ledger, how many rows -/
def rowL (L : Nat → Int32) (n : Nat) (v d : Int32) : Nat × (Nat → Int32) × Nat := match fndL L v d 0 n with
  | some r => (r, L, n)
  | none => if n = 12 then (11, filL (shfL L) 11 v d, 12) else (n, filL L n v d, n + 1)
def ledL (L : Nat → Int32) (n : Nat) (v d a b c : Int32) : (Nat → Int32) × Nat := (addL (rowL L n v d).2.1 (rowL L n v d).1 a b c, (rowL L n v d).2.2)
theorem rowL_rng {L : Nat → Int32} {n : Nat} {v d : Int32} (hn : n ≤ 12) : (rowL L n v d).1 < (rowL L n v d).2.2 ∧ (rowL L n v d).2.2 ≤ 12 := by
  unfold rowL
  cases h : fndL L v d 0 n with
  | none =>
    dsimp only
    split
    · exact ⟨(by decide : 11 < 12), (by decide : 12 ≤ 12)⟩
    · exact ⟨by dsimp only; omega, by dsimp only; omega⟩
  | some q =>
    obtain ⟨a, b, c, e⟩ := fndL_some n 0 h
    exact ⟨by dsimp only; omega, by dsimp only; omega⟩
theorem keyA_add {L : Nat → Int32} {n r : Nat} {a b c : Int32} (h : keyA L n) : keyA (addL L r a b c) n := by
  intro i k h1 h2
  have q : ∀ m, addL L r a b c (5 * m) = L (5 * m) ∧ addL L r a b c (5 * m + 1) = L (5 * m + 1) := by
    intro m
    constructor
    all_goals
      unfold addL updF
      rw [if_neg (by omega), if_neg (by omega), if_neg (by omega)]
  rw [(q i).1, (q i).2, (q k).1, (q k).2]
  exact h i k h1 h2
theorem filL_key {L : Nat → Int32} {r : Nat} {v d : Int32} (m : Nat) : filL L r v d (5 * m) = (if m = r then v else L (5 * m)) ∧ filL L r v d (5 * m + 1) = (if m = r then d else L (5 * m + 1)) := by
  constructor
  · unfold filL updF
    rw [if_neg (by omega), if_neg (by omega), if_neg (by omega), if_neg (by omega)]
    by_cases e : m = r
    · rw [if_pos (by omega), if_pos e]
    · rw [if_neg (by omega), if_neg e]
  · unfold filL updF
    rw [if_neg (by omega), if_neg (by omega), if_neg (by omega)]
    by_cases e : m = r
    · rw [if_pos (by omega), if_pos e]
    · rw [if_neg (by omega), if_neg (by omega), if_neg e]
theorem keyA_row {L : Nat → Int32} {n : Nat} {v d : Int32} (hn : n ≤ 12) (h : keyA L n) : keyA (rowL L n v d).2.1 (rowL L n v d).2.2 := by
  unfold rowL
  cases h2 : fndL L v d 0 n with
  | some q => exact h
  | none =>
    have h3 := fndL_none n 0 h2
    dsimp only
    split
    · rename_i e
      subst e
      intro i k h4 h5
      dsimp only at h5 ⊢
      rw [(filL_key i).1, (filL_key i).2, (filL_key k).1, (filL_key k).2]
      have s1 : ∀ m, m < 11 → shfL L (5 * m) = L (5 * (m + 1)) ∧ shfL L (5 * m + 1) = L (5 * (m + 1) + 1) := by
        intro m hm
        unfold shfL
        constructor
        · rw [if_pos (by omega)]
          rfl
        · rw [if_pos (by omega)]
          congr 1
      have a1 : ¬ i = 11 := by omega
      rw [if_neg a1, if_neg a1, (s1 i (by omega)).1, (s1 i (by omega)).2]
      by_cases e : k = 11
      · rw [if_pos e, if_pos e]
        exact h3 (i + 1) (by omega) (by omega)
      · rw [if_neg e, if_neg e, (s1 k (by omega)).1, (s1 k (by omega)).2]
        exact h (i + 1) (k + 1) (by omega) (by omega)
    · intro i k h4 h5
      dsimp only at h5 ⊢
      have a1 : ¬ i = n := by omega
      rw [(filL_key i).1, (filL_key i).2, (filL_key k).1, (filL_key k).2, if_neg a1, if_neg a1]
      by_cases e : k = n
      · rw [if_pos e, if_pos e]
        exact h3 i (by omega) (by omega)
      · rw [if_neg e, if_neg e]
        exact h i k h4 (by omega)
theorem keyA_led {L : Nat → Int32} {n : Nat} {v d a b c : Int32} (hn : n ≤ 12) (h : keyA L n) : keyA (ledL L n v d a b c).1 (ledL L n v d a b c).2 := keyA_add (keyA_row hn h)
theorem ledL_rng {L : Nat → Int32} {n : Nat} {v d a b c : Int32} (hn : n ≤ 12) : (ledL L n v d a b c).2 ≤ 12 := (rowL_rng hn).2
/-- the entries of a state's ledger -/
def entN (t : TS) : Nat := (t.1 9).toNatClampNeg
def okT (t : TS) : Prop := okV t.2.1 ∧ okV t.2.2.1 ∧ (0 ≤ t.1 0 ∧ t.1 0 ≤ 1000) ∧ (t.1 1 = 0 ∨ t.1 1 = 1) ∧ (1 ≤ t.1 4 ∧ t.1 4 ≤ 1000) ∧ (∃ n, n ≤ 12 ∧ t.1 9 = oN n) ∧ keyA t.2.2.2 (entN t)
theorem okT_n {t : TS} (h : okT t) : t.1 9 = oN (entN t) ∧ entN t ≤ 12 := by
  obtain ⟨-, -, -, -, -, ⟨n, h1, h2⟩, -⟩ := h
  have : entN t = n := by
    unfold entN
    rw [h2]
    exact oN_nat (by omega)
  rw [this]
  exact ⟨h2, h1⟩
/-- the controller's part of a tick -/
def ctlT (t : TS) : TS := if t.1 1 = 1 then (updF t.1 0 (ctlI t), t.2) else t
def byT (t : TS) (v : Nat) : Int32 := moveV (vT t v) (demV (vT t v) (t.1 0))
def movT (t : TS) : TS := (t.1, shiftV t.2.1 (byT t 0), shiftV t.2.2.1 (byT t 1), t.2.2.2)
def lkV (V : Nat → Int32) : Int32 := if V 8 = 0 then flowV V else 0
/-- volumes, the ledger and the time, of a state whose stems have moved by a and b, with the reversals c and d -/
def endT (t : TS) (a b c d : Int32) : TS :=
  let e0 := ledL t.2.2.2 (entN t) 0 (t.1 5 / 100) (abI a) c (lkV t.2.1)
  let e1 := ledL e0.1 e0.2 1 (t.1 5 / 100) (abI b) d (lkV t.2.2.1)
  (updF (updF (updF (updF (updF t.1 6 (t.1 6 + bothT t)) 7 (t.1 7 + abI (bothT t - idealT t (t.1 0)))) 8 (t.1 8 + lkV t.2.1 + lkV t.2.2.1)) 9 (oN e1.2)) 5 (t.1 5 + 1), t.2.1, t.2.2.1, e1.1)
def tickT (t : TS) : TS := endT (movT (ctlT t)) (byT (ctlT t) 0) (byT (ctlT t) 1) (turnV (ctlT t).2.1 (byT (ctlT t) 0)) (turnV (ctlT t).2.2.1 (byT (ctlT t) 1))
/-- whether a stem moves in the tick -/
abbrev mvT (t : TS) : Prop := ¬ (byT (ctlT t) 0 = 0 ∧ byT (ctlT t) 1 = 0)
theorem inI_rng {v l m : Int32} (h : l ≤ m) : l ≤ inI v l m ∧ inI v l m ≤ m := by
  unfold inI
  grind
theorem move_rn1 {s d m : Int32} (hs : 0 ≤ s ∧ s ≤ 1000) (hd : 0 ≤ d ∧ d ≤ 1000) (h0 : 0 ≤ m) (h : m ≤ -(d - s)) : (0 ≤ s + -1 * m ∧ s + -1 * m ≤ 1000) ∧ -1000 ≤ -1 * m ∧ -1 * m ≤ 1000 := by
  grind
theorem move_rn2 {s d m : Int32} (hs : 0 ≤ s ∧ s ≤ 1000) (hd : 0 ≤ d ∧ d ≤ 1000) (h0 : 0 ≤ m) (h : m ≤ d - s) : (0 ≤ s + 1 * m ∧ s + 1 * m ≤ 1000) ∧ -1000 ≤ 1 * m ∧ 1 * m ≤ 1000 := by
  grind
theorem move_min {e w : Int32} (he : 0 ≤ e) (hw : 0 ≤ w) : 0 ≤ (if e < w then e else w) ∧ (if e < w then e else w) ≤ e := by
  split
  · exact ⟨he, Int32.le_refl _⟩
  · exact ⟨hw, Int32.not_lt.mp ‹_›⟩
theorem move_rng {V : Nat → Int32} (h : okV V) {d : Int32} (hd : 0 ≤ d ∧ d ≤ 1000) : (0 ≤ V 8 + moveV V d ∧ V 8 + moveV V d ≤ 1000) ∧ -1000 ≤ moveV V d ∧ moveV V d ≤ 1000 := by
  obtain ⟨h0, -, -, -, h8, -⟩ := h
  have w0 : 0 ≤ V 0 := by grind
  unfold moveV
  split
  · rw [show V 8 + 0 = V 8 by grind]
    exact ⟨h8, by decide, by decide⟩
  · unfold abI wayI
    by_cases c : d - V 8 < 0
    · rw [if_pos c, if_pos c]
      have e0 : 0 ≤ -(d - V 8) := by grind
      exact move_rn1 h8 hd (move_min e0 w0).1 (move_min e0 w0).2
    · rw [if_neg c, if_neg c]
      have e0 : 0 ≤ d - V 8 := by grind
      exact move_rn2 h8 hd (move_min e0 w0).1 (move_min e0 w0).2
theorem okV_shift {V : Nat → Int32} (h : okV V) {d : Int32} (hd : 0 ≤ d ∧ d ≤ 1000) : okV (shiftV V (moveV V d)) := by
  have h1 := (move_rng h hd).1
  obtain ⟨h0, h4, h5, h7, h8, h10⟩ := h
  generalize moveV V d = b at h1
  unfold shiftV
  split
  · exact ⟨h0, h4, h5, h7, h8, Or.inl rfl⟩
  · exact ⟨h0, h4, h5, h7, h1, Or.inr rfl⟩
theorem ctlI_rng (t : TS) : 0 ≤ ctlI t ∧ ctlI t ≤ 1000 := inI_rng (by decide)
theorem okT_ctl {t : TS} (h : okT t) : okT (ctlT t) := by
  unfold ctlT
  split
  · obtain ⟨h1, h2, h3, h4, h5, h6, h7⟩ := h
    exact ⟨h1, h2, ctlI_rng t, h4, h5, h6, h7⟩
  · exact h
theorem okT_mov {t : TS} (h : okT t) : okT (movT t) := by
  obtain ⟨h1, h2, h3, h4, h5, h6, h7⟩ := h
  exact ⟨okV_shift h1 (dem_rng h1 _), okV_shift h2 (dem_rng h2 _), h3, h4, h5, h6, h7⟩
theorem endT_0 (t : TS) (a b c d : Int32) : (endT t a b c d).1 0 = t.1 0 := rfl
theorem endT_1 (t : TS) (a b c d : Int32) : (endT t a b c d).1 1 = t.1 1 := rfl
theorem endT_4 (t : TS) (a b c d : Int32) : (endT t a b c d).1 4 = t.1 4 := rfl
theorem okT_of {t t' : TS} (h : okT t) (e1 : okV t'.2.1) (e2 : okV t'.2.2.1) (e3 : t'.1 0 = t.1 0) (e4 : t'.1 1 = t.1 1) (e5 : t'.1 4 = t.1 4) {n : Nat} (hn : n ≤ 12) (e9 : t'.1 9 = oN n) (hk : keyA t'.2.2.2 n) : okT t' := by
  obtain ⟨-, -, h3, h4, h5, -, -⟩ := h
  refine ⟨e1, e2, by rw [e3]; exact h3, by rw [e4]; exact h4, by rw [e5]; exact h5, ⟨n, hn, e9⟩, ?_⟩
  have : entN t' = n := by
    unfold entN
    rw [e9]
    exact oN_nat (by omega)
  rw [this]
  exact hk
theorem okT_end {t : TS} (h : okT t) (a b c d : Int32) : okT (endT t a b c d) := by
  have hn := (okT_n h).2
  have hk := h.2.2.2.2.2.2
  have g1 := ledL_rng (L := t.2.2.2) (v := 0) (d := t.1 5 / 100) (a := abI a) (b := c) (c := lkV t.2.1) hn
  have k1 := keyA_led (v := 0) (d := t.1 5 / 100) (a := abI a) (b := c) (c := lkV t.2.1) hn hk
  have g2 := ledL_rng (L := (ledL t.2.2.2 (entN t) 0 (t.1 5 / 100) (abI a) c (lkV t.2.1)).1) (v := 1) (d := t.1 5 / 100) (a := abI b) (b := d) (c := lkV t.2.2.1) g1
  have k2 := keyA_led (v := 1) (d := t.1 5 / 100) (a := abI b) (b := d) (c := lkV t.2.2.1) g1 k1
  exact okT_of h h.1 h.2.1 (endT_0 ..) (endT_1 ..) (endT_4 ..) g2 rfl k2
theorem okT_tick {t : TS} (h : okT t) : okT (tickT t) := okT_end (okT_mov (okT_ctl h)) _ _ _ _
/-- ticks, and in how many a stem moves -/
def itT (t : TS) : Nat → TS
  | 0 => t
  | n + 1 => tickT (itT t n)
def cnT (t : TS) : Nat → Int32
  | 0 => 0
  | n + 1 => cnT t n + (if mvT (itT t n) then 1 else 0)
theorem okT_it {t : TS} (h : okT t) : ∀ n, okT (itT t n)
  | 0 => h
  | n + 1 => okT_tick (okT_it h n)

