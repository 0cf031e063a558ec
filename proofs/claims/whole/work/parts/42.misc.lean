/-! ===== typing, undo, the hash ===== -/
set_option maxRecDepth 100000 in
set_option maxHeartbeats 1000000 in
theorem eX7_type (X : Nat × (Nat → Int32)) (σ : XH) (p : Int32) (n : Nat) (hp : 0 ≤ p ∧ p ≤ 127) (hn : n < 150) (he : σ.1 2 0 2 = oN n) : fX7_type X [xR 6 0, xI p] σ = some (.inl (some (xI (oN (n + 1)))), xuI (xuI σ 9 0 n p) 2 0 2 (oN (n + 1))) := by
  have hfull : fX3_isFull X [xR 2 0] σ = some (.inl (some (xI 0)), σ) := by
    rw [uX3_isFull]
    refine wF_eq (wI_s (N := 99999) ?_)
    refine And.intro (fun _ => ?_) (fun h => absurd (by show σ.1 2 0 2 < oN 150; rw [he, oN_lt (by omega) (by decide)]; exact hn) h)
    refine And.intro (Or.inl (by decide)) ?_
    rfl
  have hi : (σ.1 2 0 2).toNatClampNeg = n := by rw [he, oN_nat (by omega)]
  have hap : fX3_append X [xR 2 0, xI p] σ = some (.inl (some (xI (oN (n + 1)))), xuI (xuI σ 9 0 n p) 2 0 2 (oN (n + 1))) := by
    rw [uX3_append]
    refine wF_eq (wI_s (N := 99999) ?_)
    refine wF_of hfull ?_
    refine And.intro (fun _ => ?_) (fun h => absurd rfl h)
    refine And.intro ?_ ?_
    · show 0 ≤ σ.1 2 0 2 ∧ (σ.1 2 0 2).toNatClampNeg < 150
      rw [hi, he]
      exact ⟨oN_nn (by omega), hn⟩
    have key : ∀ i x y, i = n → x = oN (n + 1) → y = oN (n + 1) → ((.inl (some (xI y)), xuI (xuI σ 9 0 i p) 2 0 2 x) : XR × XH) = (.inl (some (xI (oN (n + 1)))), xuI (xuI σ 9 0 n p) 2 0 2 (oN (n + 1))) := by
      rintro i x y rfl rfl rfl
      rfl
    have e1 : (xuI σ 9 0 n p).1 2 0 2 = oN n := by rw [xu_ne (by decide), he]
    refine key _ _ _ hi ?_ ?_
    · rw [hi]
      show (xuI σ 9 0 n p).1 2 0 2 + 1 = _
      rw [e1, oN_1]
    · rw [hi]
      show (xuI (xuI σ 9 0 n p) 2 0 2 ((xuI σ 9 0 n p).1 2 0 2 + 1)).1 2 0 2 = _
      rw [xu_eq, if_pos rfl, e1, oN_1]
  rw [uX7_type]
  refine wF_eq (wI_s (N := 99999) ?_)
  refine wF_of (wn_y X σ hp) ?_
  refine wF_of (eX7_refuse_y X σ) ?_
  refine wF_of hfull ?_
  refine And.intro (fun _ => ?_) (fun h => absurd rfl h)
  refine wF_of hap ?_
  rfl
set_option maxRecDepth 100000 in
set_option maxHeartbeats 1000000 in
theorem eX7_type_r (X : Nat × (Nat → Int32)) (σ : XH) (p : Int32) (hp : ¬ (0 ≤ p ∧ p ≤ 127)) : fX7_type X [xR 6 0, xI p] σ = some (.inr 1, σ) := by
  rw [uX7_type]
  refine wF_eq (wI_s (N := 99999) ?_)
  refine wF_of (wn_n X σ hp) ?_
  refine wF_of (eX7_refuse_n X σ) ?_
  rfl
set_option maxRecDepth 100000 in
set_option maxHeartbeats 1000000 in
theorem eX7_type_f (X : Nat × (Nat → Int32)) (σ : XH) (p : Int32) (hp : 0 ≤ p ∧ p ≤ 127) (he : σ.1 2 0 2 = oN 150) : fX7_type X [xR 6 0, xI p] σ = some (.inr 2, σ) := by
  have hfull : fX3_isFull X [xR 2 0] σ = some (.inl (some (xI 1)), σ) := by
    rw [uX3_isFull]
    refine wF_eq (wI_s (N := 99999) ?_)
    refine And.intro (fun h => absurd (by show oN 150 ≤ σ.1 2 0 2; rw [he]; exact Int32.le_refl _) (Int32.not_le.mpr h)) (fun _ => ?_)
    refine And.intro (Or.inr (by decide)) ?_
    rfl
  rw [uX7_type]
  refine wF_eq (wI_s (N := 99999) ?_)
  refine wF_of (wn_y X σ hp) ?_
  refine wF_of (eX7_refuse_y X σ) ?_
  refine wF_of hfull ?_
  refine And.intro (fun h => absurd h (by decide)) (fun _ => ?_)
  rfl
set_option maxRecDepth 100000 in
set_option maxHeartbeats 1000000 in
theorem eX7_clear (X : Nat × (Nat → Int32)) (σ : XH) : fX7_clearCommands X [xR 6 0] σ = some (.inl (some (xI (σ.1 2 0 2))), xuI σ 2 0 2 0) := by
  have h : fX3_empty X [xR 2 0] σ = some (.inl (some (xI (σ.1 2 0 2))), xuI σ 2 0 2 0) := by
    rw [uX3_empty]
    refine wF_eq (wI_s (N := 99999) ?_)
    rfl
  rw [uX7_clearCommands]
  refine wF_eq (wI_s (N := 99999) ?_)
  refine wF_of h ?_
  rfl
set_option maxRecDepth 100000 in
set_option maxHeartbeats 1000000 in
theorem eX8_type (X : Nat × (Nat → Int32)) (σ : XH) (p : Int32) (n : Nat) (hp : 0 ≤ p ∧ p ≤ 127) (hn : n < 150) (he : σ.1 7 0 5 = oN n) : fX8_type X [xR 7 0, xI p] σ = some (.inl (some (xI (oN (n + 1)))), xuI (xuI (xuI σ 9 5 n p) 7 0 5 (oN (n + 1))) 7 0 6 0) := by
  have hi : (σ.1 7 0 5).toNatClampNeg = n := by rw [he, oN_nat (by omega)]
  have e1 : (xuI σ 9 5 n p).1 7 0 5 = oN n := by rw [xu_ne (by decide), he]
  rw [uX8_type]
  refine wF_eq (wI_s (N := 99999) ?_)
  refine wF_of (iX8_y X σ hp) ?_
  refine And.intro (fun h => absurd h (by decide)) (fun _ => ?_)
  refine And.intro (fun q => ?_) (fun _ => ?_)
  · have q : σ.1 7 0 5 = oN 150 := q
    rw [he, oN_inj (by omega) (by decide)] at q
    omega
  refine And.intro ?_ ?_
  · show 0 ≤ σ.1 7 0 5 ∧ (σ.1 7 0 5).toNatClampNeg < 150
    rw [hi, he]
    exact ⟨oN_nn (by omega), hn⟩
  refine wF_of (eX8_tells X _ _) ?_
  have key : ∀ i x y, i = n → x = oN (n + 1) → y = oN (n + 1) → ((.inl (some (xI y)), xuI (xuI (xuI σ 9 5 i p) 7 0 5 x) 7 0 6 0) : XR × XH) = (.inl (some (xI (oN (n + 1)))), xuI (xuI (xuI σ 9 5 n p) 7 0 5 (oN (n + 1))) 7 0 6 0) := by
    rintro i x y rfl rfl rfl
    rfl
  refine key _ _ _ hi ?_ ?_
  · rw [hi]
    show (xuI σ 9 5 n p).1 7 0 5 + 1 = _
    rw [e1, oN_1]
  · rw [hi]
    show (xuI (xuI σ 9 5 n p) 7 0 5 ((xuI σ 9 5 n p).1 7 0 5 + 1)).1 7 0 5 = _
    rw [xu_eq, if_pos rfl, e1, oN_1]
set_option maxRecDepth 100000 in
set_option maxHeartbeats 1000000 in
theorem eX8_type_r (X : Nat × (Nat → Int32)) (σ : XH) (p : Int32) (hp : ¬ (0 ≤ p ∧ p ≤ 127)) : fX8_type X [xR 7 0, xI p] σ = some (.inl (some (xI 0)), xuI σ 7 0 6 1) := by
  rw [uX8_type]
  refine wF_eq (wI_s (N := 99999) ?_)
  refine wF_of (iX8_n X σ hp) ?_
  refine And.intro (fun _ => ?_) (fun h => absurd rfl h)
  refine wF_of (eX8_fails X _ _) ?_
  rfl
set_option maxRecDepth 100000 in
set_option maxHeartbeats 1000000 in
theorem eX8_type_f (X : Nat × (Nat → Int32)) (σ : XH) (p : Int32) (hp : 0 ≤ p ∧ p ≤ 127) (he : σ.1 7 0 5 = oN 150) : fX8_type X [xR 7 0, xI p] σ = some (.inl (some (xI 0)), xuI σ 7 0 6 2) := by
  rw [uX8_type]
  refine wF_eq (wI_s (N := 99999) ?_)
  refine wF_of (iX8_y X σ hp) ?_
  refine And.intro (fun h => absurd h (by decide)) (fun _ => ?_)
  refine And.intro (fun _ => ?_) (fun h => absurd he h)
  refine wF_of (eX8_fails X _ _) ?_
  rfl
set_option maxRecDepth 100000 in
set_option maxHeartbeats 1000000 in
theorem eX8_clear (X : Nat × (Nat → Int32)) (σ : XH) : fX8_clearCommands X [xR 7 0] σ = some (.inl (some (xI (σ.1 7 0 5))), xuI (xuI σ 7 0 5 0) 7 0 6 0) := by
  rw [uX8_clearCommands]
  refine wF_eq (wI_s (N := 99999) ?_)
  refine wF_of (eX8_tells X _ _) ?_
  rfl
set_option maxRecDepth 100000 in
set_option maxHeartbeats 1000000 in
theorem wX7_undo (X : Nat × (Nat → Int32)) (σ : XH) (S : Nat → TS) (m : Nat) (h : okT (S 0)) (hS : CSt σ S (m + 1)) : wF (fX7_undo X [xR 6 0] σ) (fun r => ∃ σ', r = (.inl (some (xI (oN m))), σ') ∧ CSt σ' (fun i => S (i + 1)) m ∧ cTS σ' 0 = S 0 ∧ xFr (PS 0) σ σ') := by
  have hm := hS.1
  rw [uX7_undo]
  refine wI_s (N := 99999) ?_
  refine And.intro (fun q => ?_) (fun _ => ?_)
  · have q : σ.1 1 0 2 = oN 0 := q
    rw [hS.2.1, oN_inj (by omega) (by decide)] at q
    omega
  refine wF_mono (wX2_restore X σ S m h hS) ?_
  rintro r ⟨σ', rfl, h1⟩
  exact ⟨σ', rfl, h1⟩
set_option maxRecDepth 100000 in
set_option maxHeartbeats 1000000 in
theorem eX7_undo_0 (X : Nat × (Nat → Int32)) (σ : XH) (h : σ.1 1 0 2 = 0) : fX7_undo X [xR 6 0] σ = some (.inr 2, σ) := by
  rw [uX7_undo]
  refine wF_eq (wI_s (N := 99999) ?_)
  refine And.intro (fun _ => ?_) (fun q => absurd h q)
  rfl
def mixH (h : Int64) (v : Int32) : Int64 := 31 * h + v.toInt64
def foldH (f : Nat → Int32) (h : Int64) : Nat → Int64
  | 0 => h
  | k + 1 => mixH (foldH f h k) (f k)
/-- a valve's part of the hash; the whole -/
def digV (t : TS) (h : Int64) (v : Nat) : Int64 := foldH (fun k => sumL t.2.2.2 (oN v) (2 + k) (entN t)) (foldH (valT (vT t v) (t.1 0)) h 21) 3
def digT (t : TS) (m n : Int32) : Int64 := mixH (mixH (foldH t.2.2.2 (digV t (digV t (foldH (prT t) (mixH (mixH 43183 m) n) 12) 0) 1) (5 * entN t)) (cntN (ftP t) 1000)) (fstN (flP t) 1 1000)
def DG (σ τ : XH) (h : Int64) : Prop := τ.1 = (xuI σ 7 0 6 0).1 ∧ τ.2.2 = σ.2.2 ∧ (∀ j i, τ.2.1 10 j i = σ.2.1 10 j i) ∧ τ.2.1 7 0 13 = h
theorem DG_t {σ τ : XH} {h : Int64} (hd : DG σ τ h) : mTS τ = mTS σ := by
  unfold mTS
  rw [hd.1]
  exact mTS_u7
abbrev xDg (X : Nat × (Nat → Int32)) (N pc : Nat) (lv : XL) (σ : XH) : Option (XR × XH) := xIter X (xEnv (nX8_digest X)) (fun _ _ => some none) 2 [(30, [0, 1]), (53, [0, 1]), (60, [0, 1, 2]), (84, [0, 1, 2]), (113, [0, 1])] tX8_digest N (pc, lv, σ, 0)
set_option maxRecDepth 100000 in
set_option maxHeartbeats 1000000 in
theorem wX8_mix (X : Nat × (Nat → Int32)) (σ τ : XH) (h : Int64) (v : Int32) (hd : DG σ τ h) : wF (fX8_mix X [xR 7 0, xI v] τ) (fun r => ∃ τ', r = (.inl none, τ') ∧ DG σ τ' (mixH h v)) := by
  rw [uX8_mix]
  refine wI_s (N := 99999) ?_
  refine ⟨xuL τ 7 0 13 (31 * τ.2.1 7 0 13 + v.toInt64), rfl, hd.1, hd.2.1, fun j i => ?_, ?_⟩
  · rw [← hd.2.2.1 j i]
    show (if i = 13 then (if 10 = 7 then _ else _) else _) = _
    split
    · rw [if_neg (by decide)]
    · rfl
  · show 31 * τ.2.1 7 0 13 + v.toInt64 = _
    rw [hd.2.2.2]
    rfl
set_option maxRecDepth 100000 in
set_option maxHeartbeats 1000000 in
theorem lX8_dg1 (X : Nat × (Nat → Int32)) (σ : XH) (h : okT (mTS σ))  (h0 : Int64) (R : XR × XH → Prop) (N : Nat) (cont : ∀ τ, DG σ τ (foldH (prT (mTS σ)) h0 (12)) → wF (xDg X N 53 [(0, xR 7 0), (1, xI (oN 0))] τ) R) : ∀ (m k : Nat) (τ : XH), k + m = 12 → DG σ τ (foldH (prT (mTS σ)) h0 k) → wF (xDg X (N + m + 1) 30 [(0, xR 7 0), (1, xI (oN k))] τ) R := by
  intro m
  induction m with
  | zero =>
    intro k τ hk hd
    have : k = 12 := by omega
    subst this
    refine wI_s (N := N + 0) ?_
    refine And.intro (fun _ => ?_) (fun h => absurd (by decide) h)
    exact cont τ hd
  | succ m ih =>
    intro k τ hk hd
    have ht := DG_t hd
    refine wI_s (N := N + (m + 1)) ?_
    refine And.intro (fun z => ?_) (fun _ => ?_)
    · have z : oN 12 ≤ oN k := z
      rw [oN_le (by decide) (by omega)] at z
      omega
    have e1 := eX8_pairOf X τ (by rw [ht]; exact h) k (by omega)
    rw [ht] at e1
    refine wF_of e1 ?_
    obtain ⟨r, d1, τ', rfl, d2⟩ := wX8_mix X σ τ _ (prT (mTS σ) k) hd
    refine wF_of d1 ?_
    have := ih (k + 1) τ' (by omega) d2
    first
      | (rw [← oN_1] at this; exact this)
      | (rw [show 0 = _ from rfl] at this; exact this)
set_option maxRecDepth 100000 in
set_option maxHeartbeats 1000000 in
theorem lX8_dg3 (X : Nat × (Nat → Int32)) (σ : XH) (h : okT (mTS σ)) (v : Nat) (hv : v < 2) (h0 : Int64) (R : XR × XH → Prop) (N : Nat) (cont : ∀ τ, DG σ τ (foldH (valT (vT (mTS σ) v) ((mTS σ).1 0)) h0 (21)) → wF (xDg X N 84 [(0, xR 7 0), (1, xI (oN v)), (2, xI (oN 2))] τ) R) : ∀ (m k : Nat) (τ : XH), k + m = 21 → DG σ τ (foldH (valT (vT (mTS σ) v) ((mTS σ).1 0)) h0 k) → wF (xDg X (N + m + 1) 60 [(0, xR 7 0), (1, xI (oN v)), (2, xI (oN k))] τ) R := by
  intro m
  induction m with
  | zero =>
    intro k τ hk hd
    have : k = 21 := by omega
    subst this
    refine wI_s (N := N + 0) ?_
    refine And.intro (fun _ => ?_) (fun h => absurd (by decide) h)
    exact cont τ hd
  | succ m ih =>
    intro k τ hk hd
    have ht := DG_t hd
    refine wI_s (N := N + (m + 1)) ?_
    refine And.intro (fun z => ?_) (fun _ => ?_)
    · have z : oN 21 ≤ oN k := z
      rw [oN_le (by decide) (by omega)] at z
      omega
    have e1 := eX8_valveOf X τ hv (by rw [ht]; exact h) k (by omega)
    rw [ht] at e1
    refine wF_of e1 ?_
    obtain ⟨r, d1, τ', rfl, d2⟩ := wX8_mix X σ τ _ (valT (vT (mTS σ) v) ((mTS σ).1 0) k) hd
    refine wF_of d1 ?_
    have := ih (k + 1) τ' (by omega) d2
    first
      | (rw [← oN_1] at this; exact this)
      | (rw [show 0 = _ from rfl] at this; exact this)
set_option maxRecDepth 100000 in
set_option maxHeartbeats 1000000 in
theorem lX8_dg4 (X : Nat × (Nat → Int32)) (σ : XH) (h : okT (mTS σ)) (v : Nat) (hv : v < 2) (h0 : Int64) (R : XR × XH → Prop) (N : Nat) (cont : ∀ τ, DG σ τ (foldH (fun k => sumL (mTS σ).2.2.2 (oN v) (2 + k) (entN (mTS σ))) h0 3) → wF (xDg X N 53 [(0, xR 7 0), (1, xI (oN v + 1))] τ) R) : ∀ (m k : Nat) (τ : XH), k + m = 3 → DG σ τ (foldH (fun k => sumL (mTS σ).2.2.2 (oN v) (2 + k) (entN (mTS σ))) h0 k) → wF (xDg X (N + m + 1) 84 [(0, xR 7 0), (1, xI (oN v)), (2, xI (oN (2 + k)))] τ) R := by
  intro m
  induction m with
  | zero =>
    intro k τ hk hd
    have : k = 3 := by omega
    subst this
    refine wI_s (N := N + 0) ?_
    refine And.intro (fun _ => ?_) (fun h => absurd (by decide) h)
    exact cont τ hd
  | succ m ih =>
    intro k τ hk hd
    have ht := DG_t hd
    refine wI_s (N := N + (m + 1)) ?_
    refine And.intro (fun z => ?_) (fun _ => ?_)
    · have z : oN 5 ≤ oN (2 + k) := z
      rw [oN_le (by decide) (by omega)] at z
      omega
    have e1 := eX8_sumOf X τ (oN v) (2 + k) (by omega) (by rw [ht]; exact h)
    rw [ht] at e1
    refine wF_of e1 ?_
    obtain ⟨r, d1, τ', rfl, d2⟩ := wX8_mix X σ τ _ (sumL (mTS σ).2.2.2 (oN v) (2 + k) (entN (mTS σ))) hd
    refine wF_of d1 ?_
    have := ih (k + 1) τ' (by omega) d2
    rw [← Nat.add_assoc, ← oN_1] at this
    exact this
set_option maxRecDepth 100000 in
set_option maxHeartbeats 1000000 in
theorem lX8_dg2 (X : Nat × (Nat → Int32)) (σ τ : XH) (h : okT (mTS σ)) (v : Nat) (hv : v < 2) (h0 : Int64) (R : XR × XH → Prop) (N : Nat) (hd : DG σ τ h0) (cont : ∀ τ, DG σ τ (digV (mTS σ) h0 v) → wF (xDg X N 53 [(0, xR 7 0), (1, xI (oN v + 1))] τ) R) : wF (xDg X (N + 3 + 1 + 21 + 1 + 1) 53 [(0, xR 7 0), (1, xI (oN v))] τ) R := by
  refine wI_s (N := N + 3 + 1 + 21 + 1) ?_
  refine And.intro (fun z => ?_) (fun _ => ?_)
  · have z : oN 2 ≤ oN v := z
    rw [oN_le (by decide) (by omega)] at z
    omega
  refine lX8_dg3 X σ h v hv h0 R (N + 3 + 1) (fun τ1 h1 => ?_) 21 0 τ rfl hd
  exact lX8_dg4 X σ h v hv _ R N (fun τ2 h2 => cont τ2 h2) 3 0 τ1 rfl h1
set_option maxRecDepth 100000 in
set_option maxHeartbeats 1000000 in
theorem lX8_dg5 (X : Nat × (Nat → Int32)) (σ : XH) (h : okT (mTS σ)) (h0 : Int64) (R : XR × XH → Prop) (N : Nat) (cont : ∀ τ, DG σ τ (mixH (mixH (foldH (mTS σ).2.2.2 h0 (5 * entN (mTS σ))) (cntN (ftP (mTS σ)) 1000)) (fstN (flP (mTS σ)) 1 1000)) → R (.inl (some (xL (τ.2.1 7 0 13))), τ)) : ∀ (m k : Nat) (τ : XH), k + m = 5 * entN (mTS σ) → DG σ τ (foldH (mTS σ).2.2.2 h0 k) → wF (xDg X (N + m + 1) 113 [(0, xR 7 0), (1, xI (oN k))] τ) R := by
  have hn := okT_n h
  have e9 : (5 : Int32) * (mTS σ).1 9 = oN (5 * entN (mTS σ)) := by
    rw [hn.1]
    show oN 5 * oN _ = _
    rw [oN_mul]
  intro m
  induction m with
  | zero =>
    intro k τ hk hd
    have ht := DG_t hd
    have f9 : (5 : Int32) * τ.1 9 2 9 = oN k := by
      rw [show τ.1 9 2 9 = (mTS τ).1 9 from rfl, ht, e9, ← hk]
      rfl
    refine wI_s (N := N + 0) ?_
    refine And.intro (by decide) ?_
    refine And.intro (fun _ => ?_) (fun z => absurd (by show 5 * τ.1 9 2 9 ≤ oN k; rw [f9]; exact Int32.le_refl _) z)
    have k2 : k = 5 * entN (mTS σ) := by omega
    rw [k2] at hd
    have o1 := eX8_flats X τ (by rw [ht]; exact h)
    rw [ht] at o1
    refine wF_of o1 ?_
    obtain ⟨r, d1, τ1, rfl, d2⟩ := wX8_mix X σ τ _ (cntN (ftP (mTS σ)) 1000) hd
    refine wF_of d1 ?_
    have ht1 := DG_t d2
    have o2 := eX8_falls X τ1 (by rw [ht1]; exact h)
    rw [ht1] at o2
    refine wF_of o2 ?_
    obtain ⟨r, d3, τ2, rfl, d4⟩ := wX8_mix X σ τ1 _ (fstN (flP (mTS σ)) 1 1000) d2
    refine wF_of d3 ?_
    exact cont τ2 d4
  | succ m ih =>
    intro k τ hk hd
    have ht := DG_t hd
    have f9 : (5 : Int32) * τ.1 9 2 9 = oN (5 * entN (mTS σ)) := by
      rw [show τ.1 9 2 9 = (mTS τ).1 9 from rfl, ht, e9]
    have ha : (Int32.ofInt 42 + oN k).toNatClampNeg = 42 + k := by
      show (oN 42 + oN k).toNatClampNeg = _
      rw [oN_add, oN_nat (by omega)]
    refine wI_s (N := N + (m + 1)) ?_
    refine And.intro (by decide) ?_
    refine And.intro (fun z => ?_) (fun _ => ?_)
    · have z : 5 * τ.1 9 2 9 ≤ oN k := z
      rw [f9, oN_le (by omega) (by omega)] at z
      omega
    refine And.intro ⟨?_, ?_⟩ ?_
    · show 0 ≤ oN 42 + oN k
      rw [oN_add]
      exact oN_nn (by omega)
    · rw [ha]
      show 42 + k < 102
      omega
    obtain ⟨r, d1, τ', rfl, d2⟩ := wX8_mix X σ τ _ ((mTS σ).2.2.2 k) hd
    have e : τ.1 9 2 (Int32.ofInt 42 + oN k).toNatClampNeg = (mTS σ).2.2.2 k := by
      rw [ha, mTS_Lat (by omega), ht]
    rw [← e] at d1
    refine wF_of d1 ?_
    have := ih (k + 1) τ' (by omega) d2
    rw [← oN_1] at this
    exact this
set_option maxRecDepth 100000 in
set_option maxHeartbeats 1000000 in
theorem wX8_digest (X : Nat × (Nat → Int32)) (σ : XH) (h : okT (mTS σ)) : wF (fX8_digest X [xR 7 0] σ) (fun r => ∃ τ, r = (.inl (some (xL (digT (mTS σ) (σ.1 7 0 3) (σ.1 7 0 5)))), τ) ∧ DG σ τ (digT (mTS σ) (σ.1 7 0 3) (σ.1 7 0 5))) := by
  have hn := okT_n h
  rw [uX8_digest]
  refine wI_s (N := 99999) ?_
  have d0 : DG σ (xuL (xuI σ 7 0 6 0) 7 0 13 43183) 43183 := by
    refine ⟨rfl, rfl, fun j i => ?_, rfl⟩
    show (if i = 13 then (if 10 = 7 then _ else _) else _) = _
    split
    · rw [if_neg (by decide)]
      rfl
    · rfl
  obtain ⟨r, a1, τ1, rfl, a2⟩ := wX8_mix X σ _ _ (σ.1 7 0 3) d0
  refine wF_of a1 ?_
  have e5 : τ1.1 7 0 5 = σ.1 7 0 5 := by
    rw [a2.1, xu_eq, if_neg (by decide)]
  obtain ⟨r, b1, τ2, rfl, b2⟩ := wX8_mix X σ _ _ (σ.1 7 0 5) a2
  rw [← e5] at b1
  refine wF_of b1 ?_
  have l5 := fun h0 => lX8_dg5 X σ h h0 (fun r => ∃ τ, r = (.inl (some (xL (digT (mTS σ) (σ.1 7 0 3) (σ.1 7 0 5)))), τ) ∧ DG σ τ (digT (mTS σ) (σ.1 7 0 3) (σ.1 7 0 5))) (99930 - 5 * entN (mTS σ))
  refine lX8_dg1 X σ h _ _ 99986 (fun τ3 d3 => ?_) 12 0 τ2 rfl b2
  refine lX8_dg2 X σ τ3 h 0 (by decide) _ _ 99959 d3 (fun τ4 d4 => ?_)
  refine lX8_dg2 X σ τ4 h 1 (by decide) _ _ 99932 d4 (fun τ5 d5 => ?_)
  refine wI_s (N := 99931) ?_
  refine And.intro (fun _ => ?_) (fun z => absurd (by decide) z)
  have := l5 _ (fun τ hd => ⟨τ, by rw [hd.2.2.2]; rfl, hd⟩) (5 * entN (mTS σ)) 0 τ5 (by omega) d5
  rw [show 99930 - 5 * entN (mTS σ) + 5 * entN (mTS σ) + 1 = 99931 by omega] at this
  exact this
