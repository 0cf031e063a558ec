/-! ===== the reference's reader: words, numbers, commands, the fault ===== -/
def wdI (b : Nat → Int32) (s c : Nat) : Int64 := if c ≤ 7 then Int64.ofNat (packL (txN b s) c) else 0
abbrev xIw (X : Nat × (Nat → Int32)) (N pc : Nat) (lv : XL) (σ : XH) : Option (XR × XH) := xIter X (xEnv (nX8_isWord X)) (fun _ _ => some none) 1 [(10, [0, 1])] tX8_isWord N (pc, lv, σ, 0)
def iwR (σ : XH) (b : Nat → Int32) (s e : Nat) (r : XR × XH) : Prop :=
  (knd b s (e - s) = 8 → ∃ σ', r = (.inl (some (xI 0)), σ') ∧ σ'.1 7 0 10 = oN s ∧ GS σ σ') ∧
  (∀ k, k < 8 → knd b s (e - s) = k → ∃ σ', r = (.inl (some (xI 1)), σ') ∧ σ'.1 7 0 10 = oN e ∧ σ'.2.1 7 0 11 = Int64.ofNat (wcN k) ∧ GS σ σ')
theorem iwR_tr {σ σ1 : XH} {b : Nat → Int32} {s e : Nat} {r : XR × XH} (h1 : GS σ σ1) (h : iwR σ1 b s e r) : iwR σ b s e r := by
  refine ⟨fun c => ?_, fun k hk c => ?_⟩
  · obtain ⟨σ', a, d, f⟩ := h.1 c
    exact ⟨σ', a, d, h1.tr f⟩
  · obtain ⟨σ', a, d, f, g⟩ := h.2 k hk c
    exact ⟨σ', a, d, f, h1.tr g⟩
theorem knd_pk {b : Nat → Int32} {s len : Nat} (hl : ∀ i, i < len → 97 ≤ b (s + i) ∧ b (s + i) ≤ 122) {k : Nat} (hk : k < 8) (h : knd b s len = k) : packL (txN b s) len = wcN k := (eqW_pk hk hl).mp (kndF_le 8 0 rfl h hk)
theorem knd_8n {b : Nat → Int32} {s len : Nat} (hl : ∀ i, i < len → 97 ≤ b (s + i) ∧ b (s + i) ≤ 122) (h : knd b s len = 8) {k : Nat} (hk : k < 8) : ¬ packL (txN b s) len = wcN k := fun q => kndF_8 8 0 rfl h k (by omega) hk ((eqW_pk hk hl).mpr q)
theorem knd_long {b : Nat → Int32} {s len : Nat} (h : 7 < len) : knd b s len = 8 := by
  have hle := knd_rng (b := b) (s := s) (len := len) 8 0 rfl
  by_cases c : knd b s len < 8
  · have h1 := kndF_le 8 0 rfl rfl c
    unfold eqW at h1
    rw [decide_eq_true_eq] at h1
    have := (wd_ok _ c).1
    unfold knd at this
    omega
  · unfold knd at c ⊢
    omega
theorem wc_lt : ∀ k, k < 8 → wcN k < 2 ^ 56 := by decide +kernel
theorem of_inj {x y : Nat} (hx : x < 2 ^ 63) (hy : y < 2 ^ 63) (h : Int64.ofNat x = Int64.ofNat y) : x = y := by
  have := congrArg Int64.toInt h
  rw [Int64.toInt_ofNat_of_lt hx, Int64.toInt_ofNat_of_lt hy] at this
  omega
set_option maxRecDepth 100000 in
set_option maxHeartbeats 1000000 in
theorem sX8_isWord_71 (X : Nat × (Nat → Int32)) (σ : XH) (b : Nat → Int32) (n s e N F : Nat) (hs : s ≤ e) (he : e ≤ n) (hT : TxM σ b n) (hl : ∀ i, i < e - s → 97 ≤ b (s + i) ∧ b (s + i) ≤ 122) (ha : σ.1 7 0 10 = oN e) (hw : σ.2.1 7 0 11 = wdI b s (e - s)) : wExec X (xEnv (nX8_isWord X)) (fun _ _ => some none) 1 [(10, [0, 1])] tX8_isWord (wQ X (xEnv (nX8_isWord X)) (fun _ _ => some none) 1 [(10, [0, 1])] tX8_isWord N (iwR σ b s e)) (F + 60) (xPc tX8_isWord 71) [(0, xR 7 0), (1, xI (oN s))] [] σ 0 := by
  have hn := hT.2.1
  have es : oN e - oN s = oN (e - s) := by
    obtain ⟨d, rfl⟩ : ∃ d, e = s + d := ⟨e - s, by omega⟩
    rw [Nat.add_sub_cancel_left, ← oN_add]
    grind
  have bad : knd b s (e - s) = 8 → iwR σ b s e (.inl (some (xI 0)), xuI σ 7 0 10 (oN s)) := by
    intro h
    refine ⟨fun _ => ⟨_, rfl, by rw [xu_eq, if_pos rfl], GA.u.gs⟩, fun k hk c => ?_⟩
    omega
  refine And.intro (fun z => ?_) (fun z => ?_)
  · have z : oN 7 < σ.1 7 0 10 - oN s := z
    rw [ha, es, oN_lt (by decide) (by omega)] at z
    refine And.intro (Or.inl (by decide)) ?_
    exact bad (knd_long z)
  · have z : ¬ oN 7 < σ.1 7 0 10 - oN s := z
    rw [ha, es, oN_lt (by decide) (by omega)] at z
    unfold wdI at hw
    rw [if_pos (by omega)] at hw
    have hpl : packL (txN b s) (e - s) < 2 ^ 56 := by
      have h1 := packL_lt (f := txN b s) (e - s) (fun i hi => by
        obtain ⟨a, c⟩ := hl i hi
        have a0 : 0 ≤ b (s + i) := Int32.le_trans (by decide) a
        obtain ⟨e1, e2⟩ := oN_of a0
        rw [e1] at c
        have c1 := (oN_le (b := 122) e2 (by decide)).mp c
        unfold txN
        omega)
      have h2 : 256 ^ (e - s) ≤ 256 ^ 7 := Nat.pow_le_pow_right (by decide) (by omega)
      have h3 : 256 ^ 7 = 2 ^ 56 := by decide
      omega
    by_cases h8 : knd b s (e - s) = 8
    · have nk : ∀ k, k < 8 → ¬ Int64.ofNat (packL (txN b s) (e - s)) = Int64.ofNat (wcN k) := fun k hk q => knd_8n hl h8 hk (of_inj (by omega) (by have := wc_lt k hk; omega) q)
      have n0 := nk 0 (by decide)
      have n1 := nk 1 (by decide)
      have n2 := nk 2 (by decide)
      have n3 := nk 3 (by decide)
      have n4 := nk 4 (by decide)
      have n5 := nk 5 (by decide)
      have n6 := nk 6 (by decide)
      have n7 := nk 7 (by decide)
      rw [wc_eq.1] at n0
      rw [wc_eq.2.1] at n1
      rw [wc_eq.2.2.1] at n2
      rw [wc_eq.2.2.2.1] at n3
      rw [wc_eq.2.2.2.2.1] at n4
      rw [wc_eq.2.2.2.2.2.1] at n5
      rw [wc_eq.2.2.2.2.2.2.1] at n6
      rw [wc_eq.2.2.2.2.2.2.2] at n7
      have hm := eX8_manyOf_n X σ _ n0 n1 n2 n3 n4 n5 n6 n7
      rw [← hw] at hm
      refine wF_of hm ?_
      refine And.intro (fun h => absurd h (by decide)) (fun _ => ?_)
      refine And.intro (Or.inl (by decide)) ?_
      exact bad h8
    · have hle := knd_rng (b := b) (s := s) (len := e - s) 8 0 rfl
      have hk : knd b s (e - s) < 8 := by
        unfold knd at h8 ⊢
        omega
      have hp := knd_pk hl hk rfl
      rw [hp] at hw
      have hm := eX8_manyOf X σ _ hk
      rw [← hw] at hm
      refine wF_of hm ?_
      refine And.intro (fun _ => ?_) (fun h => absurd (oN_nn (by have := many_3 (k := knd b s (e - s)); omega)) h)
      refine And.intro (Or.inr (by decide)) ?_
      refine ⟨fun h => absurd h h8, fun k hk2 c => ⟨σ, rfl, ha, ?_, GS.rf⟩⟩
      rw [hw, c]
set_option maxRecDepth 100000 in
set_option maxHeartbeats 1000000 in
theorem lX8_isWord (X : Nat × (Nat → Int32)) (b : Nat → Int32) (n s : Nat) : ∀ (m c N : Nat) (σ : XH), s + c + m = n → TxM σ b n → (∀ i, i < c → 97 ≤ b (s + i) ∧ b (s + i) ≤ 122) → σ.1 7 0 10 = oN (s + c) → σ.2.1 7 0 11 = wdI b s c → wF (xIw X (N + m + 1) 10 [(0, xR 7 0), (1, xI (oN s))] σ) (iwR σ b s (runP isLt b n (s + c))) := by
  intro m
  induction m with
  | zero =>
    intro c N σ hk hT hl ha hw
    rw [runP_n (by omega)]
    refine wI_s (N := N + 0) ?_
    refine wF_of (aX8_n X σ hT ha (by omega) (fun q => by omega)) ?_
    refine And.intro (fun _ => ?_) (fun h => absurd rfl h)
    have ec : s + c - s = c := by omega
    exact sX8_isWord_71 X σ b n s (s + c) _ _ (by omega) (by omega) hT (by rw [ec]; exact hl) ha (by rw [ec]; exact hw)
  | succ m ih =>
    intro c N σ hk hT hl ha hw
    have hn := hT.2.1
    refine wI_s (N := N + (m + 1)) ?_
    by_cases d : isLt (b (s + c)) = true
    · have d2 := lt_r.mp d
      rw [runP_s (by omega) d]
      have hi : (σ.1 7 0 10).toNatClampNeg = s + c := by rw [ha, oN_nat (by omega)]
      have hb : σ.1 9 5 (σ.1 7 0 10).toNatClampNeg = b (s + c) := by rw [hi, (hT.2.2 _ (by omega)).1]
      have es : oN (s + c) - oN s = oN c := by
        rw [← oN_add]
        grind
      have hl2 : ∀ i, i < c + 1 → 97 ≤ b (s + i) ∧ b (s + i) ≤ 122 := by
        intro i hi2
        by_cases e : i = c
        · rw [e]
          exact d2
        · exact hl i (by omega)
      have next : ∀ w, w = wdI b s (c + 1) → wF (xIw X (N + (m + 1)) 10 [(0, xR 7 0), (1, xI (oN s))] (xuI (xuL σ 7 0 11 w) 7 0 10 (σ.1 7 0 10 + 1))) (iwR σ b s (runP isLt b n (s + c + 1))) := by
        rintro w rfl
        have g1 : GS σ (xuI (xuL σ 7 0 11 (wdI b s (c + 1))) 7 0 10 (σ.1 7 0 10 + 1)) := GS.uL.tr GA.u.gs
        refine wF_mono (ih (c + 1) N _ (by omega) (g1.tx hT) hl2 (by rw [xu_eq, if_pos rfl, ha, oN_1]; rfl) rfl) (fun r hr => ?_)
        exact iwR_tr g1 hr
      refine wF_of (aX8_y X σ hT ha (by omega) d2) ?_
      refine And.intro (fun h => absurd h (by decide)) (fun _ => ?_)
      refine And.intro (fun z => ?_) (fun z => ?_)
      · have z : oN 7 ≤ σ.1 7 0 10 - oN s := z
        rw [ha, es, oN_le (by decide) (by omega)] at z
        refine next _ ?_
        unfold wdI
        rw [if_neg (by omega)]
        rfl
      · have z : ¬ oN 7 ≤ σ.1 7 0 10 - oN s := z
        rw [ha, es, oN_le (by decide) (by omega)] at z
        refine And.intro ⟨by rw [ha]; exact oN_nn (by omega), by rw [hi]; show s + c < 150; omega⟩ ?_
        refine next _ ?_
        unfold wdI at hw ⊢
        rw [if_pos (by omega)] at hw
        rw [if_pos (by omega)]
        have a0 : 0 ≤ b (s + c) := Int32.le_trans (by decide) d2.1
        show (σ.2.1 7 0 11 <<< ((Int32.ofInt 8).toInt64 &&& 63)) ||| (σ.1 9 5 (σ.1 7 0 10).toNatClampNeg).toInt64 = _
        rw [hw, hb, i64 a0]
        refine pk ?_ ?_
        · have h1 := packL_lt (f := txN b s) c (fun i hi => by
            obtain ⟨a, c⟩ := hl i hi
            have a0 : 0 ≤ b (s + i) := Int32.le_trans (by decide) a
            obtain ⟨e1, e2⟩ := oN_of a0
            rw [e1] at c
            have c1 := (oN_le (b := 122) e2 (by decide)).mp c
            unfold txN
            omega)
          have h2 : 256 ^ c ≤ 256 ^ 6 := Nat.pow_le_pow_right (by decide) (by omega)
          have h3 : 256 ^ 6 = 2 ^ 48 := by decide
          omega
        · have c0 := d2.2
          obtain ⟨e1, e2⟩ := oN_of a0
          rw [e1] at c0
          have c1 := (oN_le (b := 122) e2 (by decide)).mp c0
          omega
    · rw [runP_0 (by omega) d]
      refine wF_of (aX8_n X σ hT ha (by omega) (fun q => d (lt_r.mpr q.2))) ?_
      refine And.intro (fun _ => ?_) (fun h => absurd rfl h)
      have ec : s + c - s = c := by omega
      exact sX8_isWord_71 X σ b n s (s + c) _ _ (by omega) (by omega) hT (by rw [ec]; exact hl) ha (by rw [ec]; exact hw)
set_option maxRecDepth 100000 in
set_option maxHeartbeats 1000000 in
theorem wX8_isWord (X : Nat × (Nat → Int32)) (σ : XH) (b : Nat → Int32) (n s : Nat) (hs : s ≤ n) (hT : TxM σ b n) (ha : σ.1 7 0 10 = oN s) : wF (fX8_isWord X [xR 7 0] σ) (iwR σ b s (runP isLt b n s)) := by
  have hn := hT.2.1
  have g1 : GS σ (xuL σ 7 0 11 0) := GS.uL
  have hl := lX8_isWord X b n s (n - s) 0 (99998 - (n - s)) (xuL σ 7 0 11 0) (by omega) (g1.tx hT) (fun i hi => by omega) ha rfl
  rw [show 99998 - (n - s) + (n - s) + 1 = 99999 by omega, ← ha] at hl
  rw [uX8_isWord]
  refine wI_s (N := 99999) ?_
  refine wF_mono (show wF _ _ from hl) (fun r hr => ?_)
  exact iwR_tr g1 hr
