/-! ===== the fresh world (written by wip/p28/gen/world.py) ===== -/
def xH0 : XH := (fun c j k => match c with
  | 2 => if k = 4 then -1 else 0
  | 3 => if k = 5 then 100 else if k = 7 then 1000 else 0
  | 4 => (match k with
    | 0 => if j % 2 = 0 then 0 else 500
    | 1 => if j % 2 = 0 then 500 else 1000
    | 3 => 1000
    | 4 => 10
    | 5 => 20
    | 6 => 100
    | _ => 0)
  | _ => 0, fun _ _ _ => 0, none)
def yTb (j : Nat) : Nat := if j < 2 then 5 * j else 2 + 5 * j
/-- where the cells are, by the constructors' addresses; the tick's array, which isn't there yet, at w -/
def yAd (low : Nat → Nat → Nat) (x : Nat) (g : Nat → Nat) (h : Nat → Nat) (w : Nat) (c j : Nat) : Nat := match c with
  | 0 => g (yTb j + 3)
  | 1 => g 10
  | 2 => g 32
  | 3 => g (yTb j)
  | 4 => g (yTb (j / 2) + 1 + j % 2)
  | 5 => 0
  | 6 => x
  | 7 => 0
  | 8 => g (yTb j + 4)
  | 9 => (match j with
    | 0 => g 33
    | 1 => g 34
    | 2 => h 0
    | 3 => h 1
    | 4 => h 2
    | _ => w)
  | 10 => 0
  | 11 => g 11
  | c => low c j
theorem yAd_low {low : Nat → Nat → Nat} {x : Nat} {g : Nat → Nat} {h : Nat → Nat} {w : Nat} (c j : Nat) (hc : 12 ≤ c) : yAd low x g h w c j = low c j := by
  match c, hc with
  | c + 12, _ => rfl
/-- their places in the list -/
def yPo (c j : Nat) : Nat := match c with
  | 0 => 1 + (yTb j + 3)
  | 1 => 11
  | 2 => 33
  | 3 => 1 + yTb j
  | 4 => 1 + (yTb (j / 2) + 1 + j % 2)
  | 6 => 0
  | 8 => 1 + (yTb j + 4)
  | 9 => 34 + j
  | 11 => 12
  | _ => 0
set_option maxRecDepth 100000 in
theorem yPo_all : ((List.range 12).all fun c => (List.range (xcnt c)).all fun j => (List.range 12).all fun c' => (List.range (xcnt c')).all fun j' => decide (yPo c j = yPo c' j' → c = c' ∧ j = j')) = true := by decide +kernel
theorem yPo_inj (c : Nat) (hc : c < 12) (j : Nat) (hj : j < xcnt c) (c' : Nat) (hc' : c' < 12) (j' : Nat) (hj' : j' < xcnt c') (h : yPo c j = yPo c' j') : c = c' ∧ j = j' := by
  have h1 := List.all_eq_true.mp yPo_all c (List.mem_range.mpr hc)
  have h2 := List.all_eq_true.mp h1 j (List.mem_range.mpr hj)
  have h3 := List.all_eq_true.mp h2 c' (List.mem_range.mpr hc')
  have h4 := List.all_eq_true.mp h3 j' (List.mem_range.mpr hj')
  exact of_decide_eq_true h4 h
abbrev yWs (G : XG) (x : Nat) (g : Nat → Nat) (h : Nat → Nat) : va_W := oFace G x g ++ [(h 0, .inl (xcI G, 10, .inl (fun _ => 0))), (h 1, .inl (xcI G, 32, .inl (fun _ => 0))), (h 2, .inl (xcI G, 60, .inl (fun _ => 0)))]
theorem arrV_cg {cA : ClassId} {N : Nat} {f g : Nat → Value} (h : ∀ j, j < N → f j = g j) : arrV cA N f = arrV cA N g := by
  unfold arrV
  have : (fun j : Fin N => f j.val) = (fun j : Fin N => g j.val) := funext fun j => h j.val j.isLt
  rw [this]
theorem va_ob {D : va_G} {ws : va_W} {H : Heap} (P : va_P D xCl ws H) (i : Nat) {a k : Nat} {fs : List Value} {V : Nat → Value} (he : ws[i]? = some (a, .inr (k, fs))) (hk : k < 8) (hV : ∀ n, n < xNN k → vp_V fs n = V n) : t_OB a (D.1 k) (xNN k) (D.2 k) H V := by
  obtain ⟨r, h1, h2⟩ := P i _ he
  have hr : r = (xRR k, xTT k, xNN k) := Option.some.inj (h1.symm.trans (x_cl k hk))
  subst hr
  exact h2.to hV
section YW
variable {D : va_G} {lo : Nat} {cI cT : ClassId} {low : Nat → Nat → Nat} {x : Nat} {g : Nat → Nat} {h : Nat → Nat} {w : Nat} {ad0 : Nat → Nat → Nat} {H : Heap}
abbrev yG1 (D : va_G) (lo : Nat) (cI cT : ClassId) (low : Nat → Nat → Nat) (x : Nat) (g : Nat → Nat) (h : Nat → Nat) (w : Nat) : XG := (D, yAd low x g h w, lo, cI, cT)
set_option maxRecDepth 100000 in
set_option maxHeartbeats 4000000 in
theorem yE : ∀ c, c < 12 → ∀ j, j < xcnt c → ¬ (c = 9 ∧ j = 5) → ∃ e, (yWs (D, ad0, lo, cI, cT) x g h)[yPo c j]? = some (yAd low x g h w c j, e) := by
  intro c hc j hj hne
  rcases (show c = 0 ∨ c = 1 ∨ c = 2 ∨ c = 3 ∨ c = 4 ∨ c = 5 ∨ c = 6 ∨ c = 7 ∨ c = 8 ∨ c = 9 ∨ c = 10 ∨ c = 11 by omega) with rfl | rfl | rfl | rfl | rfl | rfl | rfl | rfl | rfl | rfl | rfl | rfl
  · have hj : j < 6 := hj
    rcases (show j = 0 ∨ j = 1 ∨ j = 2 ∨ j = 3 ∨ j = 4 ∨ j = 5 by omega) with rfl | rfl | rfl | rfl | rfl | rfl
    all_goals exact ⟨_, rfl⟩
  · have hj : j < 1 := hj
    obtain rfl : j = 0 := by omega
    exact ⟨_, rfl⟩
  · have hj : j < 1 := hj
    obtain rfl : j = 0 := by omega
    exact ⟨_, rfl⟩
  · have hj : j < 6 := hj
    rcases (show j = 0 ∨ j = 1 ∨ j = 2 ∨ j = 3 ∨ j = 4 ∨ j = 5 by omega) with rfl | rfl | rfl | rfl | rfl | rfl
    all_goals exact ⟨_, rfl⟩
  · have hj : j < 12 := hj
    rcases (show j = 0 ∨ j = 1 ∨ j = 2 ∨ j = 3 ∨ j = 4 ∨ j = 5 ∨ j = 6 ∨ j = 7 ∨ j = 8 ∨ j = 9 ∨ j = 10 ∨ j = 11 by omega) with rfl | rfl | rfl | rfl | rfl | rfl | rfl | rfl | rfl | rfl | rfl | rfl
    all_goals exact ⟨_, rfl⟩
  · exact absurd hj (Nat.not_lt_zero _)
  · have hj : j < 1 := hj
    obtain rfl : j = 0 := by omega
    exact ⟨_, rfl⟩
  · exact absurd hj (Nat.not_lt_zero _)
  · have hj : j < 6 := hj
    rcases (show j = 0 ∨ j = 1 ∨ j = 2 ∨ j = 3 ∨ j = 4 ∨ j = 5 by omega) with rfl | rfl | rfl | rfl | rfl | rfl
    all_goals exact ⟨_, rfl⟩
  · have hj : j < 6 := hj
    have hj5 : ¬ j = 5 := fun q => hne ⟨rfl, q⟩
    rcases (show j = 0 ∨ j = 1 ∨ j = 2 ∨ j = 3 ∨ j = 4 by omega) with rfl | rfl | rfl | rfl | rfl
    all_goals exact ⟨_, rfl⟩
  · exact absurd hj (Nat.not_lt_zero _)
  · have hj : j < 1 := hj
    obtain rfl : j = 0 := by omega
    exact ⟨_, rfl⟩
set_option maxRecDepth 100000 in
set_option maxHeartbeats 4000000 in
theorem yO_0 (P : va_P D xCl (yWs (D, ad0, lo, cI, cT) x g h) H) : ∀ j, j < xcnt 0 → t_OB (yAd low x g h w 0 j) (D.1 0) (xNN 0) (D.2 0) H (fun k => xcv (yG1 D lo cI cT low x g h w) (xfg xH0 0 j k)) := by
  intro j hj
  have hj : j < 6 := hj
  rcases (show j = 0 ∨ j = 1 ∨ j = 2 ∨ j = 3 ∨ j = 4 ∨ j = 5 by omega) with rfl | rfl | rfl | rfl | rfl | rfl
  · refine va_ob P (yPo 0 0) rfl (by decide) (fun n hn => ?_)
    have hn : n < 2 := hn
    rcases (show n = 0 ∨ n = 1 by omega) with rfl | rfl <;> rfl
  · refine va_ob P (yPo 0 1) rfl (by decide) (fun n hn => ?_)
    have hn : n < 2 := hn
    rcases (show n = 0 ∨ n = 1 by omega) with rfl | rfl <;> rfl
  · refine va_ob P (yPo 0 2) rfl (by decide) (fun n hn => ?_)
    have hn : n < 2 := hn
    rcases (show n = 0 ∨ n = 1 by omega) with rfl | rfl <;> rfl
  · refine va_ob P (yPo 0 3) rfl (by decide) (fun n hn => ?_)
    have hn : n < 2 := hn
    rcases (show n = 0 ∨ n = 1 by omega) with rfl | rfl <;> rfl
  · refine va_ob P (yPo 0 4) rfl (by decide) (fun n hn => ?_)
    have hn : n < 2 := hn
    rcases (show n = 0 ∨ n = 1 by omega) with rfl | rfl <;> rfl
  · refine va_ob P (yPo 0 5) rfl (by decide) (fun n hn => ?_)
    have hn : n < 2 := hn
    rcases (show n = 0 ∨ n = 1 by omega) with rfl | rfl <;> rfl
set_option maxRecDepth 100000 in
set_option maxHeartbeats 4000000 in
theorem yO_1 (P : va_P D xCl (yWs (D, ad0, lo, cI, cT) x g h) H) : ∀ j, j < xcnt 1 → t_OB (yAd low x g h w 1 j) (D.1 1) (xNN 1) (D.2 1) H (fun k => xcv (yG1 D lo cI cT low x g h w) (xfg xH0 1 j k)) := by
  intro j hj
  have hj : j < 1 := hj
  obtain rfl : j = 0 := by omega
  · refine va_ob P (yPo 1 0) rfl (by decide) (fun n hn => ?_)
    have hn : n < 3 := hn
    rcases (show n = 0 ∨ n = 1 ∨ n = 2 by omega) with rfl | rfl | rfl <;> rfl
set_option maxRecDepth 100000 in
set_option maxHeartbeats 4000000 in
theorem yO_2 (P : va_P D xCl (yWs (D, ad0, lo, cI, cT) x g h) H) : ∀ j, j < xcnt 2 → t_OB (yAd low x g h w 2 j) (D.1 2) (xNN 2) (D.2 2) H (fun k => xcv (yG1 D lo cI cT low x g h w) (xfg xH0 2 j k)) := by
  intro j hj
  have hj : j < 1 := hj
  obtain rfl : j = 0 := by omega
  · refine va_ob P (yPo 2 0) rfl (by decide) (fun n hn => ?_)
    have hn : n < 6 := hn
    rcases (show n = 0 ∨ n = 1 ∨ n = 2 ∨ n = 3 ∨ n = 4 ∨ n = 5 by omega) with rfl | rfl | rfl | rfl | rfl | rfl <;> rfl
set_option maxRecDepth 100000 in
set_option maxHeartbeats 4000000 in
theorem yO_3 (P : va_P D xCl (yWs (D, ad0, lo, cI, cT) x g h) H) : ∀ j, j < xcnt 3 → t_OB (yAd low x g h w 3 j) (D.1 3) (xNN 3) (D.2 3) H (fun k => xcv (yG1 D lo cI cT low x g h w) (xfg xH0 3 j k)) := by
  intro j hj
  have hj : j < 6 := hj
  rcases (show j = 0 ∨ j = 1 ∨ j = 2 ∨ j = 3 ∨ j = 4 ∨ j = 5 by omega) with rfl | rfl | rfl | rfl | rfl | rfl
  · refine va_ob P (yPo 3 0) rfl (by decide) (fun n hn => ?_)
    have hn : n < 12 := hn
    rcases (show n = 0 ∨ n = 1 ∨ n = 2 ∨ n = 3 ∨ n = 4 ∨ n = 5 ∨ n = 6 ∨ n = 7 ∨ n = 8 ∨ n = 9 ∨ n = 10 ∨ n = 11 by omega) with rfl | rfl | rfl | rfl | rfl | rfl | rfl | rfl | rfl | rfl | rfl | rfl <;> rfl
  · refine va_ob P (yPo 3 1) rfl (by decide) (fun n hn => ?_)
    have hn : n < 12 := hn
    rcases (show n = 0 ∨ n = 1 ∨ n = 2 ∨ n = 3 ∨ n = 4 ∨ n = 5 ∨ n = 6 ∨ n = 7 ∨ n = 8 ∨ n = 9 ∨ n = 10 ∨ n = 11 by omega) with rfl | rfl | rfl | rfl | rfl | rfl | rfl | rfl | rfl | rfl | rfl | rfl <;> rfl
  · refine va_ob P (yPo 3 2) rfl (by decide) (fun n hn => ?_)
    have hn : n < 12 := hn
    rcases (show n = 0 ∨ n = 1 ∨ n = 2 ∨ n = 3 ∨ n = 4 ∨ n = 5 ∨ n = 6 ∨ n = 7 ∨ n = 8 ∨ n = 9 ∨ n = 10 ∨ n = 11 by omega) with rfl | rfl | rfl | rfl | rfl | rfl | rfl | rfl | rfl | rfl | rfl | rfl <;> rfl
  · refine va_ob P (yPo 3 3) rfl (by decide) (fun n hn => ?_)
    have hn : n < 12 := hn
    rcases (show n = 0 ∨ n = 1 ∨ n = 2 ∨ n = 3 ∨ n = 4 ∨ n = 5 ∨ n = 6 ∨ n = 7 ∨ n = 8 ∨ n = 9 ∨ n = 10 ∨ n = 11 by omega) with rfl | rfl | rfl | rfl | rfl | rfl | rfl | rfl | rfl | rfl | rfl | rfl <;> rfl
  · refine va_ob P (yPo 3 4) rfl (by decide) (fun n hn => ?_)
    have hn : n < 12 := hn
    rcases (show n = 0 ∨ n = 1 ∨ n = 2 ∨ n = 3 ∨ n = 4 ∨ n = 5 ∨ n = 6 ∨ n = 7 ∨ n = 8 ∨ n = 9 ∨ n = 10 ∨ n = 11 by omega) with rfl | rfl | rfl | rfl | rfl | rfl | rfl | rfl | rfl | rfl | rfl | rfl <;> rfl
  · refine va_ob P (yPo 3 5) rfl (by decide) (fun n hn => ?_)
    have hn : n < 12 := hn
    rcases (show n = 0 ∨ n = 1 ∨ n = 2 ∨ n = 3 ∨ n = 4 ∨ n = 5 ∨ n = 6 ∨ n = 7 ∨ n = 8 ∨ n = 9 ∨ n = 10 ∨ n = 11 by omega) with rfl | rfl | rfl | rfl | rfl | rfl | rfl | rfl | rfl | rfl | rfl | rfl <;> rfl
set_option maxRecDepth 100000 in
set_option maxHeartbeats 4000000 in
theorem yO_4 (P : va_P D xCl (yWs (D, ad0, lo, cI, cT) x g h) H) : ∀ j, j < xcnt 4 → t_OB (yAd low x g h w 4 j) (D.1 4) (xNN 4) (D.2 4) H (fun k => xcv (yG1 D lo cI cT low x g h w) (xfg xH0 4 j k)) := by
  intro j hj
  have hj : j < 12 := hj
  rcases (show j = 0 ∨ j = 1 ∨ j = 2 ∨ j = 3 ∨ j = 4 ∨ j = 5 ∨ j = 6 ∨ j = 7 ∨ j = 8 ∨ j = 9 ∨ j = 10 ∨ j = 11 by omega) with rfl | rfl | rfl | rfl | rfl | rfl | rfl | rfl | rfl | rfl | rfl | rfl
  · refine va_ob P (yPo 4 0) rfl (by decide) (fun n hn => ?_)
    have hn : n < 16 := hn
    rcases (show n = 0 ∨ n = 1 ∨ n = 2 ∨ n = 3 ∨ n = 4 ∨ n = 5 ∨ n = 6 ∨ n = 7 ∨ n = 8 ∨ n = 9 ∨ n = 10 ∨ n = 11 ∨ n = 12 ∨ n = 13 ∨ n = 14 ∨ n = 15 by omega) with rfl | rfl | rfl | rfl | rfl | rfl | rfl | rfl | rfl | rfl | rfl | rfl | rfl | rfl | rfl | rfl <;> rfl
  · refine va_ob P (yPo 4 1) rfl (by decide) (fun n hn => ?_)
    have hn : n < 16 := hn
    rcases (show n = 0 ∨ n = 1 ∨ n = 2 ∨ n = 3 ∨ n = 4 ∨ n = 5 ∨ n = 6 ∨ n = 7 ∨ n = 8 ∨ n = 9 ∨ n = 10 ∨ n = 11 ∨ n = 12 ∨ n = 13 ∨ n = 14 ∨ n = 15 by omega) with rfl | rfl | rfl | rfl | rfl | rfl | rfl | rfl | rfl | rfl | rfl | rfl | rfl | rfl | rfl | rfl <;> rfl
  · refine va_ob P (yPo 4 2) rfl (by decide) (fun n hn => ?_)
    have hn : n < 16 := hn
    rcases (show n = 0 ∨ n = 1 ∨ n = 2 ∨ n = 3 ∨ n = 4 ∨ n = 5 ∨ n = 6 ∨ n = 7 ∨ n = 8 ∨ n = 9 ∨ n = 10 ∨ n = 11 ∨ n = 12 ∨ n = 13 ∨ n = 14 ∨ n = 15 by omega) with rfl | rfl | rfl | rfl | rfl | rfl | rfl | rfl | rfl | rfl | rfl | rfl | rfl | rfl | rfl | rfl <;> rfl
  · refine va_ob P (yPo 4 3) rfl (by decide) (fun n hn => ?_)
    have hn : n < 16 := hn
    rcases (show n = 0 ∨ n = 1 ∨ n = 2 ∨ n = 3 ∨ n = 4 ∨ n = 5 ∨ n = 6 ∨ n = 7 ∨ n = 8 ∨ n = 9 ∨ n = 10 ∨ n = 11 ∨ n = 12 ∨ n = 13 ∨ n = 14 ∨ n = 15 by omega) with rfl | rfl | rfl | rfl | rfl | rfl | rfl | rfl | rfl | rfl | rfl | rfl | rfl | rfl | rfl | rfl <;> rfl
  · refine va_ob P (yPo 4 4) rfl (by decide) (fun n hn => ?_)
    have hn : n < 16 := hn
    rcases (show n = 0 ∨ n = 1 ∨ n = 2 ∨ n = 3 ∨ n = 4 ∨ n = 5 ∨ n = 6 ∨ n = 7 ∨ n = 8 ∨ n = 9 ∨ n = 10 ∨ n = 11 ∨ n = 12 ∨ n = 13 ∨ n = 14 ∨ n = 15 by omega) with rfl | rfl | rfl | rfl | rfl | rfl | rfl | rfl | rfl | rfl | rfl | rfl | rfl | rfl | rfl | rfl <;> rfl
  · refine va_ob P (yPo 4 5) rfl (by decide) (fun n hn => ?_)
    have hn : n < 16 := hn
    rcases (show n = 0 ∨ n = 1 ∨ n = 2 ∨ n = 3 ∨ n = 4 ∨ n = 5 ∨ n = 6 ∨ n = 7 ∨ n = 8 ∨ n = 9 ∨ n = 10 ∨ n = 11 ∨ n = 12 ∨ n = 13 ∨ n = 14 ∨ n = 15 by omega) with rfl | rfl | rfl | rfl | rfl | rfl | rfl | rfl | rfl | rfl | rfl | rfl | rfl | rfl | rfl | rfl <;> rfl
  · refine va_ob P (yPo 4 6) rfl (by decide) (fun n hn => ?_)
    have hn : n < 16 := hn
    rcases (show n = 0 ∨ n = 1 ∨ n = 2 ∨ n = 3 ∨ n = 4 ∨ n = 5 ∨ n = 6 ∨ n = 7 ∨ n = 8 ∨ n = 9 ∨ n = 10 ∨ n = 11 ∨ n = 12 ∨ n = 13 ∨ n = 14 ∨ n = 15 by omega) with rfl | rfl | rfl | rfl | rfl | rfl | rfl | rfl | rfl | rfl | rfl | rfl | rfl | rfl | rfl | rfl <;> rfl
  · refine va_ob P (yPo 4 7) rfl (by decide) (fun n hn => ?_)
    have hn : n < 16 := hn
    rcases (show n = 0 ∨ n = 1 ∨ n = 2 ∨ n = 3 ∨ n = 4 ∨ n = 5 ∨ n = 6 ∨ n = 7 ∨ n = 8 ∨ n = 9 ∨ n = 10 ∨ n = 11 ∨ n = 12 ∨ n = 13 ∨ n = 14 ∨ n = 15 by omega) with rfl | rfl | rfl | rfl | rfl | rfl | rfl | rfl | rfl | rfl | rfl | rfl | rfl | rfl | rfl | rfl <;> rfl
  · refine va_ob P (yPo 4 8) rfl (by decide) (fun n hn => ?_)
    have hn : n < 16 := hn
    rcases (show n = 0 ∨ n = 1 ∨ n = 2 ∨ n = 3 ∨ n = 4 ∨ n = 5 ∨ n = 6 ∨ n = 7 ∨ n = 8 ∨ n = 9 ∨ n = 10 ∨ n = 11 ∨ n = 12 ∨ n = 13 ∨ n = 14 ∨ n = 15 by omega) with rfl | rfl | rfl | rfl | rfl | rfl | rfl | rfl | rfl | rfl | rfl | rfl | rfl | rfl | rfl | rfl <;> rfl
  · refine va_ob P (yPo 4 9) rfl (by decide) (fun n hn => ?_)
    have hn : n < 16 := hn
    rcases (show n = 0 ∨ n = 1 ∨ n = 2 ∨ n = 3 ∨ n = 4 ∨ n = 5 ∨ n = 6 ∨ n = 7 ∨ n = 8 ∨ n = 9 ∨ n = 10 ∨ n = 11 ∨ n = 12 ∨ n = 13 ∨ n = 14 ∨ n = 15 by omega) with rfl | rfl | rfl | rfl | rfl | rfl | rfl | rfl | rfl | rfl | rfl | rfl | rfl | rfl | rfl | rfl <;> rfl
  · refine va_ob P (yPo 4 10) rfl (by decide) (fun n hn => ?_)
    have hn : n < 16 := hn
    rcases (show n = 0 ∨ n = 1 ∨ n = 2 ∨ n = 3 ∨ n = 4 ∨ n = 5 ∨ n = 6 ∨ n = 7 ∨ n = 8 ∨ n = 9 ∨ n = 10 ∨ n = 11 ∨ n = 12 ∨ n = 13 ∨ n = 14 ∨ n = 15 by omega) with rfl | rfl | rfl | rfl | rfl | rfl | rfl | rfl | rfl | rfl | rfl | rfl | rfl | rfl | rfl | rfl <;> rfl
  · refine va_ob P (yPo 4 11) rfl (by decide) (fun n hn => ?_)
    have hn : n < 16 := hn
    rcases (show n = 0 ∨ n = 1 ∨ n = 2 ∨ n = 3 ∨ n = 4 ∨ n = 5 ∨ n = 6 ∨ n = 7 ∨ n = 8 ∨ n = 9 ∨ n = 10 ∨ n = 11 ∨ n = 12 ∨ n = 13 ∨ n = 14 ∨ n = 15 by omega) with rfl | rfl | rfl | rfl | rfl | rfl | rfl | rfl | rfl | rfl | rfl | rfl | rfl | rfl | rfl | rfl <;> rfl
set_option maxRecDepth 100000 in
set_option maxHeartbeats 4000000 in
theorem yO_6 (P : va_P D xCl (yWs (D, ad0, lo, cI, cT) x g h) H) : ∀ j, j < xcnt 6 → t_OB (yAd low x g h w 6 j) (D.1 6) (xNN 6) (D.2 6) H (fun k => xcv (yG1 D lo cI cT low x g h w) (xfg xH0 6 j k)) := by
  intro j hj
  have hj : j < 1 := hj
  obtain rfl : j = 0 := by omega
  · refine va_ob P (yPo 6 0) rfl (by decide) (fun n hn => ?_)
    have hn : n < 4 := hn
    rcases (show n = 0 ∨ n = 1 ∨ n = 2 ∨ n = 3 by omega) with rfl | rfl | rfl | rfl <;> rfl
set_option maxRecDepth 100000 in
set_option maxHeartbeats 4000000 in
theorem yA_8 (P : va_P D xCl (yWs (D, ad0, lo, cI, cT) x g h) H) : ∀ c j, (c = 8 ∨ c = 9) → j < xcnt c → (c = 9 → j = 5 → xfl xH0 = 1) → H[yAd low x g h w c j]? = some (vp_cell cI (xlen c j, .inl (fun i => xH0.1 c j i))) := by
  intro c j hc hj hf
  rcases hc with rfl | rfl
  · have hj : j < 6 := hj
    rcases (show j = 0 ∨ j = 1 ∨ j = 2 ∨ j = 3 ∨ j = 4 ∨ j = 5 by omega) with rfl | rfl | rfl | rfl | rfl | rfl
    · exact P (yPo 8 0) _ rfl
    · exact P (yPo 8 1) _ rfl
    · exact P (yPo 8 2) _ rfl
    · exact P (yPo 8 3) _ rfl
    · exact P (yPo 8 4) _ rfl
    · exact P (yPo 8 5) _ rfl
  · have hj : j < 6 := hj
    have hj5 : ¬ j = 5 := fun q => absurd (hf rfl q) (by decide)
    rcases (show j = 0 ∨ j = 1 ∨ j = 2 ∨ j = 3 ∨ j = 4 by omega) with rfl | rfl | rfl | rfl | rfl
    · exact P (yPo 9 0) _ rfl
    · exact P (yPo 9 1) _ rfl
    · exact P (yPo 9 2) _ rfl
    · exact P (yPo 9 3) _ rfl
    · exact P (yPo 9 4) _ rfl
set_option maxRecDepth 100000 in
set_option maxHeartbeats 4000000 in
theorem yRP (P : va_P D xCl (yWs (D, ad0, lo, cI, cT) x g h) H) : xRP (yG1 D lo cI cT low x g h w) xH0 H := by
  refine ⟨fun c j hc hj => ?_, yA_8 P, trivial, ?_, fun w hw => by cases hw⟩
  · rcases (show c = 0 ∨ c = 1 ∨ c = 2 ∨ c = 3 ∨ c = 4 ∨ c = 5 ∨ c = 6 ∨ c = 7 by omega) with rfl | rfl | rfl | rfl | rfl | rfl | rfl | rfl
    · exact yO_0 P j hj
    · exact yO_1 P j hj
    · exact yO_2 P j hj
    · exact yO_3 P j hj
    · exact yO_4 P j hj
    · exact absurd hj (Nat.not_lt_zero _)
    · exact yO_6 P j hj
    · exact absurd hj (Nat.not_lt_zero _)
  · have h1 := P 12 _ rfl
    refine h1.trans (congrArg some ?_)
    refine (vp_cell_q _ _ _).trans ((arrV_cg (fun j hj => ?_)).trans (vp_cell_q _ _ _).symm)
    rcases (show j = 0 ∨ j = 1 ∨ j = 2 ∨ j = 3 by omega) with rfl | rfl | rfl | rfl <;> rfl
theorem yAP (hP : va_P D xCl (yWs (D, ad0, lo, cI, cT) x g h) H) (hD : va_D (fun q => lo ≤ q) (yWs (D, ad0, lo, cI, cT) x g h)) (hw : lo ≤ w) (hH : H.size ≤ w) : xAP (yG1 D lo cI cT low x g h w) := by
  have yE' := fun c hc j hj hne => yE (D := D) (lo := lo) (cI := cI) (cT := cT) (low := low) (x := x) (g := g) (h := h) (w := w) (ad0 := ad0) c hc j hj hne
  have ne : ∀ c j, c < 12 → j < xcnt c → ¬ (c = 9 ∧ j = 5) → yAd low x g h w c j ≠ w := fun c j hc hj hne e => by
    obtain ⟨e1, h1⟩ := yE' c hc j hj hne
    have h2 : (yAd low x g h w c j, e1).1 < H.size := (hP _ _ h1).lt
    have h2 : yAd low x g h w c j < H.size := h2
    omega
  have e5 : yAd low x g h w 9 5 = w := rfl
  refine ⟨fun c j c' j' hc hj hc' hj' he => ?_, fun c j hc hj => ?_⟩
  · by_cases n1 : c = 9 ∧ j = 5
    · by_cases n2 : c' = 9 ∧ j' = 5
      · exact ⟨n1.1.trans n2.1.symm, n1.2.trans n2.2.symm⟩
      · obtain ⟨rfl, rfl⟩ := n1
        exact absurd he.symm (ne c' j' hc' hj' n2)
    · by_cases n2 : c' = 9 ∧ j' = 5
      · obtain ⟨rfl, rfl⟩ := n2
        exact absurd he (ne c j hc hj n1)
      · obtain ⟨e1, h1⟩ := yE' c hc j hj n1
        obtain ⟨e2, h2⟩ := yE' c' hc' j' hj' n2
        exact yPo_inj c hc j hj c' hc' j' hj' (hD.1 _ _ _ _ h1 h2 he)
  · by_cases n1 : c = 9 ∧ j = 5
    · obtain ⟨rfl, rfl⟩ := n1
      exact hw
    · obtain ⟨e1, h1⟩ := yE' c hc j hj n1
      exact hD.2 _ _ h1
end YW
