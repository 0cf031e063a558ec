/-! ===== the law's tick, whole (written by wip/p28/gen/tick5.py) ===== -/
theorem okU_up {T : Int32} {V : Nat → Int32} (h : okU T V) (h0 : 0 ≤ T) (hT : T < 200000) : okU (T + 1) V := by
  obtain ⟨h1, h2, h3, h4, h5, h6, h7⟩ := h
  have e : 1000 * T ≤ 1000 * (T + 1) := by
    obtain ⟨k, hk, rfl⟩ := iR (A := 200000) (by decide) ⟨h0, Int32.le_of_lt hT⟩
    show oN 1000 * oN k ≤ oN 1000 * (oN k + 1)
    rw [oN_1, oN_mul, oN_mul, oN_le (by omega) (by omega)]
    omega
  exact ⟨h1, h2, h3, h4, h5, ⟨h6.1, Int32.le_trans h6.2 e⟩, ⟨h7.1, by grind⟩⟩
theorem ab_rng {b : Int32} (h : -1000 ≤ b ∧ b ≤ 1000) : 0 ≤ abI b ∧ abI b ≤ 1000 := by
  unfold abI
  split <;> constructor <;> grind
theorem okU_shift {T : Int32} {V : Nat → Int32} (h : okU T V) (h0 : 0 ≤ T) (hT : T < 200000) {d : Int32} (hd : 0 ≤ d ∧ d ≤ 1000) : okU (T + 1) (shiftV V (moveV V d)) := by
  have k1 := okV_shift h.1 hd
  have k2 := (move_rng h.1 hd).2
  have k3 := okU_up h h0 hT
  have ha := ab_rng k2
  generalize moveV V d = b at *
  by_cases hb : b = 0
  · unfold shiftV at *
    rw [if_pos hb] at *
    exact ⟨k1, k3.2⟩
  · have e : shiftV V b = updF (updF (updF (updF (updF (updF (updF V 10 1) 8 (V 8 + b)) 9 (wayI b)) 11 (V 11 + abI b)) 13 (V 13 + abI b)) 12 (V 12 + (if V 9 = -(wayI b) then 1 else 0))) 14 (V 14 + (if V 9 = -(wayI b) then 1 else 0)) := by
      unfold shiftV
      rw [if_neg hb]
    refine ⟨k1, ?_⟩
    rw [e]
    obtain ⟨h1, h2, h3, h4, h5, h6, h7⟩ := h
    refine ⟨?_, h3, h4, h5, ?_, ?_⟩
    · show wayI b = -1 ∨ wayI b = 0 ∨ wayI b = 1
      unfold wayI
      split
      · exact Or.inl rfl
      · exact Or.inr (Or.inr rfl)
    · show 0 ≤ V 11 + abI b ∧ V 11 + abI b ≤ 1000 * (T + 1)
      obtain ⟨k, hk, rfl⟩ := iR (A := 200000) (by decide) ⟨h0, Int32.le_of_lt hT⟩
      rw [show (1000 : Int32) * oN k = oN (1000 * k) from oN_mul 1000 k] at h6
      obtain ⟨a, ha2, ea⟩ := iR (by omega) h6
      obtain ⟨c, hc, ec⟩ := iR (A := 1000) (by decide) ha
      rw [ea, ec, oN_1, oN_add, show (1000 : Int32) * oN (k + 1) = oN (1000 * (k + 1)) from oN_mul 1000 (k + 1)]
      exact iRb (by omega) (by omega)
    · show 0 ≤ V 12 + (if V 9 = -(wayI b) then 1 else 0) ∧ V 12 + (if V 9 = -(wayI b) then 1 else 0) ≤ T + 1
      split
      · constructor
        · grind
        · grind
      · constructor
        · grind
        · grind
theorem okW_ctl {t : TS} (h : okW t) : okW (ctlT t) := by
  obtain ⟨⟨h1, h2⟩, h3, h4⟩ := h
  have e : (ctlT t).2 = t.2 := by
    unfold ctlT
    split <;> rfl
  refine ⟨⟨okT_ctl h1, by rw [ctlT_5]; exact h2⟩, ?_, ?_⟩
  · rw [ctlT_5, e]
    exact h3
  · rw [ctlT_5, e]
    exact h4
theorem okW_mov {t : TS} (h : okW t) (hT : t.1 5 < 200000) : okU (t.1 5 + 1) (movT t).2.1 ∧ okU (t.1 5 + 1) (movT t).2.2.1 :=
  ⟨okU_shift h.2.1 h.1.2.1 hT (dem_rng h.2.1.1 _), okU_shift h.2.2 h.1.2.1 hT (dem_rng h.2.2.1 _)⟩
theorem endT_21 (t : TS) (a b c d : Int32) : (endT t a b c d).2.1 = t.2.1 := rfl
theorem endT_221 (t : TS) (a b c d : Int32) : (endT t a b c d).2.2.1 = t.2.2.1 := rfl
theorem tickT_21 (t : TS) : (tickT t).2.1 = (movT (ctlT t)).2.1 := by
  unfold tickT
  rw [endT_21]
theorem tickT_221 (t : TS) : (tickT t).2.2.1 = (movT (ctlT t)).2.2.1 := by
  unfold tickT
  rw [endT_221]
/-- four numbers put down are there -/
theorem upd4 (a b c d : Int32) : updF (updF (updF (updF (fun _ => 0) 0 a) 2 b) 1 c) 3 d 0 = a ∧ updF (updF (updF (updF (fun _ => 0) 0 a) 2 b) 1 c) 3 d 2 = b ∧ updF (updF (updF (updF (fun _ => 0) 0 a) 2 b) 1 c) 3 d 1 = c ∧ updF (updF (updF (updF (fun _ => 0) 0 a) 2 b) 1 c) 3 d 3 = d := ⟨rfl, rfl, rfl, rfl⟩
theorem okW_tick {t : TS} (h : okW t) (hT : t.1 5 < 200000) : okW (tickT t) := by
  have hc := okW_ctl h
  have hm := okW_mov hc (by rw [ctlT_5]; exact hT)
  rw [ctlT_5] at hm
  refine ⟨⟨okT_tick h.1.1, ?_⟩, ?_, ?_⟩
  · rw [tickT_5]
    have := h.1.2.1
    constructor <;> grind
  · rw [tickT_5, tickT_21]
    exact hm.1
  · rw [tickT_5, tickT_221]
    exact hm.2
theorem okT_vol {t : TS} (h : okT t) : okT (volT t) := by
  obtain ⟨h1, h2, h3, h4, h5, h6, h7⟩ := h
  exact ⟨h1, h2, h3, h4, h5, h6, h7⟩
theorem okT_bod {t : TS} (h : okT t) (v : Nat) (a c : Int32) : okT (bodT t v a c) := by
  have hn := (okT_n h).2
  rw [bodT_M]
  exact okT_M h (ledL_rng hn) (keyA_led hn h.2.2.2.2.2.2)
theorem by_rng {t : TS} (h : okW t) {v : Nat} (hv : v < 2) : -1000 ≤ byT t v ∧ byT t v ≤ 1000 := (move_rng (okW_v h hv).1 (dem_rng (okW_v h hv).1 _)).2
theorem lTS_newW {σ : XH} : lTS (xNewW σ) = lTS σ := lTS_cg fun j i hj => by
  show (if (9 : Nat) = 9 then (if j = 5 then (0 : Int32) else σ.1 9 j i) else σ.1 9 j i) = σ.1 9 j i
  rw [if_pos rfl, if_neg (by omega)]
theorem newW_5 {σ : XH} : (xNewW σ).1 9 5 = fun _ => 0 := by
  funext i
  show (if (9 : Nat) = 9 then (if (5 : Nat) = 5 then (0 : Int32) else σ.1 9 5 i) else σ.1 9 5 i) = 0
  rw [if_pos rfl, if_pos rfl]
theorem newW_fl {σ : XH} : xfl (xNewW σ) = 1 := by
  show (if (10 : Nat) = 10 then (1 : Int64) else σ.2.1 10 0 0) = 1
  rw [if_pos rfl]
theorem xFr_fl {P : Nat → Nat → Prop} {σ σ' : XH} (h : xFr P σ σ') (hf : xfl σ = 1) : xfl σ' = 1 := by
  show σ'.2.1 10 0 0 = 1
  rw [h.2]
  exact hf
set_option maxRecDepth 100000 in
set_option maxHeartbeats 600000 in
theorem wL_tick2 (X : Nat × (Nat → Int32)) (τ : XH) (h : okW (lTS τ)) (hT : (lTS τ).1 5 < 200000) (hf : xfl τ = 1) (h5 : τ.1 9 5 = fun _ => 0) : wF (xIter X (xEnv (nL_tick X)) (fun _ _ => some none) 1 kStp tL_tick 100000 (62, (3, xR 9 5) :: kLv0, τ, 0)) (fun r => ∃ σ', r = (.inl (some (xI (if ¬ (byT (lTS τ) 0 = 0 ∧ byT (lTS τ) 1 = 0) then 1 else 0))), σ') ∧ lTS σ' = endT (movT (lTS τ)) (byT (lTS τ) 0) (byT (lTS τ) 1) (turnV (lTS τ).2.1 (byT (lTS τ) 0)) (turnV (lTS τ).2.2.1 (byT (lTS τ) 1)) ∧ xFr PL τ σ') := by
  have hm := okW_mov h hT
  have hoT : okT (movT (lTS τ)) := okT_mov h.1.1
  have b0 := by_rng h (v := 0) (by decide)
  have b1 := by_rng h (v := 1) (by decide)
  have hT0 : tOK ((lTS τ).1 5) := h.1.2
  have hT1 : tOK ((lTS τ).1 5 + 1) := by
    have := h.1.2.1
    constructor <;> grind
  refine wI_s (N := 99999) ?_
  refine wI_s (N := 99998) ?_
  refine sL_tick_65 X _ 0 (by decide) τ ((lTS τ).1 5) h.2.1 hT0 hf (fun σ2 e2 w2 g2 => ?_)
  refine wI_s (N := 99997) ?_
  have s2 : vT (lTS σ2) 1 = (lTS τ).2.2.1 := by
    rw [e2]
    rfl
  have y2 : byT (lTS σ2) 1 = byT (lTS τ) 1 := by
    rw [e2]
    rfl
  refine sL_tick_65 X _ 1 (by decide) σ2 ((lTS τ).1 5) (by rw [s2]; exact h.2.2) hT0 (xFr_fl g2 hf) (fun σ3 e3 w3 g3 => ?_)
  have m3 : lTS σ3 = movT (lTS τ) := by
    rw [e3, y2, s2, e2]
    rfl
  have w3 : σ3.1 9 5 = updF (updF (updF (updF (fun _ => 0) 0 (abI (byT (lTS τ) 0))) 2 (turnV (lTS τ).2.1 (byT (lTS τ) 0))) 1 (abI (byT (lTS τ) 1))) 3 (turnV (lTS τ).2.2.1 (byT (lTS τ) 1)) := by
    rw [w3, y2, s2, w2, h5]
    rfl
  refine wI_s (N := 99996) ?_
  refine sL_tick_257 X _ σ3 ((lTS τ).1 5 + 1) (by rw [m3]; exact hm.1) (by rw [m3]; exact hm.2) hT1 (fun σ4 e4 w4 g4 => ?_)
  rw [m3] at e4
  rw [w3] at w4
  have f4 : xFr PL τ σ4 := (g2.tr g3).tr g4
  have o4 : okT (lTS σ4) := by
    rw [e4]
    exact okT_vol hoT
  refine wI_s (N := 99995) ?_
  refine sL_tick_318 X _ 0 (by decide) σ4 ((lTS τ).1 5 + 1) (by rw [e4]; exact hm.1) (xFr_fl f4 hf) o4 (fun σ5 e5 w5 g5 => ?_)
  have a5 : σ4.1 9 5 0 = abI (byT (lTS τ) 0) := (congrFun w4 0).trans (upd4 _ _ _ _).1
  have c5 : σ4.1 9 5 (2 + 0) = turnV (lTS τ).2.1 (byT (lTS τ) 0) := (congrFun w4 2).trans (upd4 _ _ _ _).2.1
  rw [a5, c5, e4] at e5
  have o5 : okT (lTS σ5) := by
    rw [e5]
    exact okT_bod (okT_vol hoT) _ _ _
  refine wI_s (N := 99994) ?_
  refine sL_tick_318 X _ 1 (by decide) σ5 ((lTS τ).1 5 + 1) (by rw [e5]; exact hm.2) (xFr_fl (f4.tr g5) hf) o5 (fun σ6 e6 w6 g6 => ?_)
  have a6 : σ5.1 9 5 1 = abI (byT (lTS τ) 1) := ((congrFun w5 1).trans (congrFun w4 1)).trans (upd4 _ _ _ _).2.2.1
  have c6 : σ5.1 9 5 (2 + 1) = turnV (lTS τ).2.2.1 (byT (lTS τ) 1) := ((congrFun w5 3).trans (congrFun w4 3)).trans (upd4 _ _ _ _).2.2.2
  rw [a6, c6, e5] at e6
  refine wI_s (N := 99993) ?_
  refine sL_tick_418 X _ σ6 (xFr_fl ((f4.tr g5).tr g6) hf) (fun σ7 e7 g7 => ?_)
  have p0 : σ6.1 9 5 0 = abI (byT (lTS τ) 0) := ((congrFun w6 0).trans ((congrFun w5 0).trans (congrFun w4 0))).trans (upd4 _ _ _ _).1
  have p1 : σ6.1 9 5 1 = abI (byT (lTS τ) 1) := ((congrFun w6 1).trans ((congrFun w5 1).trans (congrFun w4 1))).trans (upd4 _ _ _ _).2.2.1
  have hif : (if 0 < σ6.1 9 5 0 ∨ 0 < σ6.1 9 5 1 then (1 : Int32) else 0) = (if ¬ (byT (lTS τ) 0 = 0 ∧ byT (lTS τ) 1 = 0) then 1 else 0) := by
    rw [p0, p1]
    have q0 := ab_pos b0
    have q1 := ab_pos b1
    by_cases z0 : byT (lTS τ) 0 = 0
    · by_cases z1 : byT (lTS τ) 1 = 0
      · rw [if_neg (fun q => q.elim (fun q => (q0.mp q) z0) (fun q => (q1.mp q) z1)), if_neg (fun q => q ⟨z0, z1⟩)]
      · rw [if_pos (Or.inr (q1.mpr z1)), if_pos (fun q => z1 q.2)]
    · rw [if_pos (Or.inl (q0.mpr z0)), if_pos (fun q => z0 q.1)]
  rw [hif]
  refine ⟨σ7, rfl, ?_, ((f4.tr g5).tr g6).tr g7⟩
  rw [e7, e6]
  exact tick_eq hoT (byT (lTS τ) 0) (byT (lTS τ) 1) (turnV (lTS τ).2.1 (byT (lTS τ) 0)) (turnV (lTS τ).2.2.1 (byT (lTS τ) 1))
/-- what is kept of the run's ints -/
def xFq (P : Nat → Nat → Prop) (σ σ' : XH) : Prop := ∀ c j i, ¬ P c j → σ'.1 c j i = σ.1 c j i
theorem xFq.tr {P : Nat → Nat → Prop} {a b c : XH} (h1 : xFq P a b) (h2 : xFq P b c) : xFq P a c := fun x y z h => (h2 x y z h).trans (h1 x y z h)
theorem xFq.of {P : Nat → Nat → Prop} {a b : XH} (h : xFr P a b) : xFq P a b := h.1
theorem xFq.rf {P : Nat → Nat → Prop} {a : XH} : xFq P a a := fun _ _ _ _ => rfl
theorem newW_fq {σ : XH} : xFq PL σ (xNewW σ) := fun c j i h => by
  show (if c = 9 then (if j = 5 then (0 : Int32) else σ.1 c j i) else σ.1 c j i) = σ.1 c j i
  by_cases e : c = 9
  · rw [if_pos e, if_neg (fun q => h ⟨e, by omega⟩)]
  · rw [if_neg e]
set_option maxRecDepth 100000 in
set_option maxHeartbeats 600000 in
theorem wL_tick (X : Nat × (Nat → Int32)) (σ : XH) (h : okW (lTS σ)) (hT : (lTS σ).1 5 < 200000) : wF (fL_tick X [xR 9 2, xR 9 3, xR 9 4] σ) (fun r => ∃ σ', r = (.inl (some (xI (if mvT (lTS σ) then 1 else 0))), σ') ∧ lTS σ' = tickT (lTS σ) ∧ xFq PL σ σ') := by
  obtain ⟨out, ho, σ1, rfl, t1, f1⟩ := wExec_s 1000 (sL_tick_0 X σ h)
  have hl : lTS (xNewW σ1) = ctlT (lTS σ) := lTS_newW.trans t1
  obtain ⟨r, hr, σ2, rfl, t2, f2⟩ := wL_tick2 X (xNewW σ1) (by rw [hl]; exact okW_ctl h) (by rw [hl, ctlT_5]; exact hT) newW_fl newW_5
  rw [hl] at t2 hr
  refine ⟨(.inl (some (xI (if mvT (lTS σ) then 1 else 0))), xDropW σ2), ?_, xDropW σ2, rfl, ?_, ?_⟩
  · unfold fL_tick
    rw [if_pos rfl, ho]
    show kNext X (58, kLv0, σ1, 1) = _
    unfold kNext
    show (if kLv0 = kLv0 then _ else _) = _
    rw [if_pos rfl]
    dsimp only
    rw [hr]
  · exact (lTS_cg fun j i hj => rfl : lTS (xDropW σ2) = lTS σ2).trans t2
  · exact (xFq.of f1).tr (newW_fq.tr ((xFq.of f2).tr (fun c j i _ => rfl)))
