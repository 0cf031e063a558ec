/-! ===== contracts (written by wip/whole/gen/contracts.py) ===== -/
def tX7_isValve : List XE := [(0, .iload_n 0, 1, 0, 0, []), (1, .iconst 0, 1, 0, 0, []), (2, .iconst 1, 1, 0, 0, []), (3, .invokestatic 82, 3, 165, 0, []), (6, .ireturn, 1, 0, 0, [])]
theorem tX7_isValve_ok : xTblOK RX7 cX7_isValve xFX7 1 tX7_isValve = true := by decide +kernel
abbrev nX7_isValve (X : Nat × (Nat → Int32)) : List (Nat × Nat × Nat × XS) := [(165, 3, 0, fX7_within X)]
def fX7_isValve (X : Nat × (Nat → Int32)) : XS := fun as σ => match as with
  | [.inl a0] => xIter X (xEnv (nX7_isValve X)) (fun _ _ => some none) 1 [] tX7_isValve 100000 (0, [(0, .inl a0)], σ, 0)
  | _ => none
theorem mX7_isValve (l : Launch) (X : Nat × (Nat → Int32)) : xMet l X yX7_isValve cX7_isValve 1 (some .boolean) 2 0 (fX7_isValve X) :=
  xMet_of (cl := xEnv (nX7_isValve X)) (rt := 1) (stops := []) (tbl := tX7_isValve) (by decide +kernel) (by decide) tX7_isValve_ok x_FX7 rfl (xEnv_ok (L := nX7_isValve X) (List.forall_mem_cons.mpr ⟨xCS_S (i := 82) (n := 3) (mX7_within l X) (xPk_in [455, 341, 59, 342] (by decide +kernel) (by decide +kernel)) (by decide +kernel) (by decide) (by decide), (fun _ h => absurd h List.not_mem_nil)⟩))
    (xNoNew (by decide +kernel))
    (fun as σ q h => by
      unfold fX7_isValve at h
      split at h
      · exact Nat.le_of_ble_eq_true rfl
      · cases h)
    (fun as σ r σ' h => by
      unfold fX7_isValve at h
      split at h
      · exact ⟨100000, h⟩
      · cases h)
def tX7_refuseUnlessValve : List XE := [(0, .iload_n 0, 1, 0, 0, []), (1, .invokestatic 222, 3, 445, 0, []), (4, .ifCond .ne 13, 3, 17, 0, []), (7, .new 225, 3, 0, 0, []), (10, .dup, 1, 0, 0, []), (11, .ldc 227, 2, 0, 0, []), (13, .invokespecial 229, 3, 0, 0, []), (16, .athrow, 1, 0, 0, []), (17, .return_, 1, 0, 0, [])]
theorem tX7_refuseUnlessValve_ok : xTblOK RX7 cX7_refuseUnlessValve xFX7 1 tX7_refuseUnlessValve = true := by decide +kernel
abbrev nX7_refuseUnlessValve (X : Nat × (Nat → Int32)) : List (Nat × Nat × Nat × XS) := [(445, 1, 0, fX7_isValve X)]
def fX7_refuseUnlessValve (X : Nat × (Nat → Int32)) : XS := fun as σ => match as with
  | [.inl a0] => xIter X (xEnv (nX7_refuseUnlessValve X)) (fun _ _ => some none) 4 [] tX7_refuseUnlessValve 100000 (0, [(0, .inl a0)], σ, 1)
  | _ => none
theorem mX7_refuseUnlessValve (l : Launch) (X : Nat × (Nat → Int32)) (hl : l.stackTraces = false) : xMet l X yX7_refuseUnlessValve cX7_refuseUnlessValve 1 none 6 1 (fX7_refuseUnlessValve X) :=
  xMet_of (cl := xEnv (nX7_refuseUnlessValve X)) (rt := 4) (stops := []) (tbl := tX7_refuseUnlessValve) (by decide +kernel) (by decide) tX7_refuseUnlessValve_ok x_FX7 rfl (xEnv_ok (L := nX7_refuseUnlessValve X) (List.forall_mem_cons.mpr ⟨xCS_S (i := 222) (n := 1) (mX7_isValve l X) (xPk_in [452, 453, 59, 454] (by decide +kernel) (by decide +kernel)) (by decide +kernel) (by decide) (by decide), (fun _ h => absurd h List.not_mem_nil)⟩))
    (fun en hen hi => by
    intro G p e R s m args below meth c C0 h1 h2 h3 h4 ht
    intro _
    have hq : en = (7, .new 225, 3, 0, 0, []) := xOneNew (tbl := tX7_refuseUnlessValve) rfl hen hi
    subst hq
    exact xThr_S hl C0 (by decide) h1 h2 h3 h4 ht (is := 227) (ic := 229) (E := 0) (text := "no such valve") (by decide +kernel) (xPk_in [613] (ws := [.classLink RX7 225 (xXN 0)]) (by decide +kernel) (by decide +kernel) _ List.mem_cons_self) (xPk_in [69] (ws := [.initialized (xXN 0)]) (by decide +kernel) (by decide +kernel) _ List.mem_cons_self) (by decide +kernel) (by decide +kernel) (by decide +kernel) (by decide +kernel) (by decide +kernel) (by decide +kernel) (by decide +kernel) (by decide +kernel) (by decide +kernel))
    (fun as σ q h => by
      unfold fX7_refuseUnlessValve at h
      split at h
      · exact Nat.le_of_ble_eq_true rfl
      · cases h)
    (fun as σ r σ' h => by
      unfold fX7_refuseUnlessValve at h
      split at h
      · exact ⟨100000, h⟩
      · cases h)
def tX7_isRange : List XE := [(0, .iload_n 0, 1, 0, 0, []), (1, .ifCond .lt 19, 3, 20, 0, []), (4, .iload_n 0, 1, 0, 0, []), (5, .iload_n 1, 1, 0, 0, []), (6, .if_icmp .ge 14, 3, 20, 0, []), (9, .iload_n 1, 1, 0, 0, []), (10, .sipush 1000, 3, 0, 0, []), (13, .if_icmp .gt 7, 3, 20, 0, []), (16, .iconst 1, 1, 0, 0, []), (17, .goto 4, 3, 21, 0, []), (20, .iconst 0, 1, 0, 0, []), (21, .ireturn, 1, 0, 0, [])]
theorem tX7_isRange_ok : xTblOK RX7 cX7_isRange xFX7 2 tX7_isRange = true := by decide +kernel
abbrev nX7_isRange (X : Nat × (Nat → Int32)) : List (Nat × Nat × Nat × XS) := []
def fX7_isRange (X : Nat × (Nat → Int32)) : XS := fun as σ => match as with
  | [.inl a0, .inl a1] => xIter X (xEnv (nX7_isRange X)) (fun _ _ => some none) 1 [] tX7_isRange 100000 (0, [(0, .inl a0), (1, .inl a1)], σ, 0)
  | _ => none
theorem mX7_isRange (l : Launch) (X : Nat × (Nat → Int32)) : xMet l X yX7_isRange cX7_isRange 2 (some .boolean) 1 0 (fX7_isRange X) :=
  xMet_of (cl := xEnv (nX7_isRange X)) (rt := 1) (stops := []) (tbl := tX7_isRange) (by decide +kernel) (by decide) tX7_isRange_ok x_FX7 rfl (xEnv_ok (L := nX7_isRange X) (fun _ h => absurd h List.not_mem_nil))
    (xNoNew (by decide +kernel))
    (fun as σ q h => by
      unfold fX7_isRange at h
      split at h
      · exact Nat.le_of_ble_eq_true rfl
      · cases h)
    (fun as σ r σ' h => by
      unfold fX7_isRange at h
      split at h
      · exact ⟨100000, h⟩
      · cases h)
def tX7_refuseUnless : List XE := [(0, .iload_n 0, 1, 0, 0, []), (1, .ifCond .ne 13, 3, 14, 0, []), (4, .new 230, 3, 1, 0, []), (7, .dup, 1, 0, 0, []), (8, .ldc 232, 2, 0, 0, []), (10, .invokespecial 234, 3, 0, 0, []), (13, .athrow, 1, 0, 0, []), (14, .return_, 1, 0, 0, [])]
theorem tX7_refuseUnless_ok : xTblOK RX7 cX7_refuseUnless xFX7 1 tX7_refuseUnless = true := by decide +kernel
abbrev nX7_refuseUnless (X : Nat × (Nat → Int32)) : List (Nat × Nat × Nat × XS) := []
def fX7_refuseUnless (X : Nat × (Nat → Int32)) : XS := fun as σ => match as with
  | [.inl a0] => xIter X (xEnv (nX7_refuseUnless X)) (fun _ _ => some none) 4 [] tX7_refuseUnless 100000 (0, [(0, .inl a0)], σ, 1)
  | _ => none
theorem mX7_refuseUnless (l : Launch) (X : Nat × (Nat → Int32)) (hl : l.stackTraces = false) : xMet l X yX7_refuseUnless cX7_refuseUnless 1 none 6 1 (fX7_refuseUnless X) :=
  xMet_of (cl := xEnv (nX7_refuseUnless X)) (rt := 4) (stops := []) (tbl := tX7_refuseUnless) (by decide +kernel) (by decide) tX7_refuseUnless_ok x_FX7 rfl (xEnv_ok (L := nX7_refuseUnless X) (fun _ h => absurd h List.not_mem_nil))
    (fun en hen hi => by
    intro G p e R s m args below meth c C0 h1 h2 h3 h4 ht
    intro _
    have hq : en = (4, .new 230, 3, 1, 0, []) := xOneNew (tbl := tX7_refuseUnless) rfl hen hi
    subst hq
    exact xThr_S hl C0 (by decide) h1 h2 h3 h4 ht (is := 232) (ic := 234) (E := 1) (text := "out of range") (by decide +kernel) (xPk_in [684] (ws := [.classLink RX7 230 (xXN 1)]) (by decide +kernel) (by decide +kernel) _ List.mem_cons_self) (xPk_in [70] (ws := [.initialized (xXN 1)]) (by decide +kernel) (by decide +kernel) _ List.mem_cons_self) (by decide +kernel) (by decide +kernel) (by decide +kernel) (by decide +kernel) (by decide +kernel) (by decide +kernel) (by decide +kernel) (by decide +kernel) (by decide +kernel))
    (fun as σ q h => by
      unfold fX7_refuseUnless at h
      split at h
      · exact Nat.le_of_ble_eq_true rfl
      · cases h)
    (fun as σ r σ' h => by
      unfold fX7_refuseUnless at h
      split at h
      · exact ⟨100000, h⟩
      · cases h)
def tX7_setRange : List XE := [(0, .iload_n 1, 1, 0, 0, []), (1, .invokestatic 33, 3, 67, 0, []), (4, .iload_n 2, 1, 0, 0, []), (5, .iload_n 3, 1, 0, 0, []), (6, .invokestatic 37, 3, 75, 0, []), (9, .invokestatic 41, 3, 83, 0, []), (12, .aload_n 0, 1, 0, 0, []), (13, .getfield 22, 3, 6, 2, []), (16, .aload_n 0, 1, 0, 0, []), (17, .getfield 10, 3, 6, 0, []), (20, .invokevirtual 45, 3, 90, 0, []), (23, .aload_n 0, 1, 0, 0, []), (24, .getfield 10, 3, 6, 0, []), (27, .iload_n 1, 1, 0, 0, []), (28, .invokevirtual 49, 3, 98, 0, []), (31, .iload_n 2, 1, 0, 0, []), (32, .iload_n 3, 1, 0, 0, []), (33, .iload 4, 2, 0, 0, []), (35, .invokevirtual 53, 3, 106, 0, []), (38, .ireturn, 1, 0, 0, [])]
theorem tX7_setRange_ok : xTblOK RX7 cX7_setRange xFX7 5 tX7_setRange = true := by decide +kernel
abbrev nX7_setRange (X : Nat × (Nat → Int32)) : List (Nat × Nat × Nat × XS) := [(67, 1, 1, fX7_refuseUnlessValve X), (75, 2, 0, fX7_isRange X), (83, 1, 1, fX7_refuseUnless X), (90, 2, 0, fX2_save X), (98, 2, 0, fX4_at X), (106, 4, 0, fX5_changeRange X)]
def fX7_setRange (X : Nat × (Nat → Int32)) : XS := fun as σ => match as with
  | [.inr (.inr (some (6, a0))), .inl a1, .inl a2, .inl a3, .inl a4] => xIter X (xEnv (nX7_setRange X)) (fun _ _ => some none) 0 [] tX7_setRange 100000 (0, [(0, .inr (.inr (some (6, a0)))), (1, .inl a1), (2, .inl a2), (3, .inl a3), (4, .inl a4)], σ, 2)
  | _ => none
theorem rX7_setRange (X : Nat × (Nat → Int32)) : ∀ as σ q, fX7_setRange X as σ = some q → ∃ j as', as = xR 6 j :: as' := by
  intro as σ q h
  unfold fX7_setRange at h
  split at h
  · exact ⟨_, _, rfl⟩
  · cases h
theorem mX7_setRange (l : Launch) (X : Nat × (Nat → Int32)) (hl : l.stackTraces = false) : xMet l X yX7_setRange cX7_setRange 5 (some .int) 7 2 (fX7_setRange X) :=
  xMet_of (cl := xEnv (nX7_setRange X)) (rt := 0) (stops := []) (tbl := tX7_setRange) (by decide +kernel) (by decide) tX7_setRange_ok x_FX7 rfl (xEnv_ok (L := nX7_setRange X) (List.forall_mem_cons.mpr ⟨xCS_S (i := 33) (n := 1) (mX7_refuseUnlessValve l X hl) (xPk_in [610, 611, 59, 612] (by decide +kernel) (by decide +kernel)) (by decide +kernel) (by decide) (by decide), (List.forall_mem_cons.mpr ⟨xCS_S (i := 37) (n := 2) (mX7_isRange l X) (xPk_in [456, 457, 59, 458] (by decide +kernel) (by decide +kernel)) (by decide +kernel) (by decide) (by decide), (List.forall_mem_cons.mpr ⟨xCS_S (i := 41) (n := 1) (mX7_refuseUnless l X hl) (xPk_in [681, 682, 59, 683] (by decide +kernel) (by decide +kernel)) (by decide +kernel) (by decide) (by decide), (List.forall_mem_cons.mpr ⟨xCS_V (i := 45) (n := 1) (C := RX2) (k := 1) (mX2_save l X) (xPk_in [409, 410, 411, 63, 412] (by decide +kernel) (by decide +kernel)) (by decide +kernel) (by decide) rfl (by decide) (by decide) (rX2_save X), (List.forall_mem_cons.mpr ⟨xCS_V (i := 49) (n := 1) (C := RX4) (k := 3) (mX4_at l X) (xPk_in [480, 481, 482, 60, 483] (by decide +kernel) (by decide +kernel)) (by decide +kernel) (by decide) rfl (by decide) (by decide) (rX4_at X), (List.forall_mem_cons.mpr ⟨xCS_V (i := 53) (n := 3) (C := RX5) (k := 4) (mX5_changeRange l X) (xPk_in [484, 485, 486, 61, 487] (by decide +kernel) (by decide +kernel)) (by decide +kernel) (by decide) rfl (by decide) (by decide) (rX5_changeRange X), (fun _ h => absurd h List.not_mem_nil)⟩)⟩)⟩)⟩)⟩)⟩))
    (xNoNew (by decide +kernel))
    (fun as σ q h => by
      unfold fX7_setRange at h
      split at h
      · exact Nat.le_of_ble_eq_true rfl
      · cases h)
    (fun as σ r σ' h => by
      unfold fX7_setRange at h
      split at h
      · exact ⟨100000, h⟩
      · cases h)
def tX7_isValveSetting : List XE := [(0, .iload_n 0, 1, 0, 0, []), (1, .tableswitch 78 0 4 #[35, 44, 53, 62, 71], 35, 79, 0, [(0, 36), (1, 45), (2, 54), (3, 63), (4, 72)]), (36, .iload_n 1, 1, 0, 0, []), (37, .iconst 1, 1, 0, 0, []), (38, .sipush 1000, 3, 0, 0, []), (41, .invokestatic 82, 3, 165, 0, []), (44, .ireturn, 1, 0, 0, []), (45, .iload_n 1, 1, 0, 0, []), (46, .iconst 0, 1, 0, 0, []), (47, .sipush 300, 3, 0, 0, []), (50, .invokestatic 82, 3, 165, 0, []), (53, .ireturn, 1, 0, 0, []), (54, .iload_n 1, 1, 0, 0, []), (55, .iconst 0, 1, 0, 0, []), (56, .sipush 300, 3, 0, 0, []), (59, .invokestatic 82, 3, 165, 0, []), (62, .ireturn, 1, 0, 0, []), (63, .iload_n 1, 1, 0, 0, []), (64, .iconst 0, 1, 0, 0, []), (65, .sipush 1000, 3, 0, 0, []), (68, .invokestatic 82, 3, 165, 0, []), (71, .ireturn, 1, 0, 0, []), (72, .iload_n 1, 1, 0, 0, []), (73, .iconst 0, 1, 0, 0, []), (74, .iconst 2, 1, 0, 0, []), (75, .invokestatic 82, 3, 165, 0, []), (78, .ireturn, 1, 0, 0, []), (79, .iconst 0, 1, 0, 0, []), (80, .ireturn, 1, 0, 0, [])]
theorem tX7_isValveSetting_ok : xTblOK RX7 cX7_isValveSetting xFX7 2 tX7_isValveSetting = true := by decide +kernel
abbrev nX7_isValveSetting (X : Nat × (Nat → Int32)) : List (Nat × Nat × Nat × XS) := [(165, 3, 0, fX7_within X)]
def fX7_isValveSetting (X : Nat × (Nat → Int32)) : XS := fun as σ => match as with
  | [.inl a0, .inl a1] => xIter X (xEnv (nX7_isValveSetting X)) (fun _ _ => some none) 1 [] tX7_isValveSetting 100000 (0, [(0, .inl a0), (1, .inl a1)], σ, 0)
  | _ => none
theorem mX7_isValveSetting (l : Launch) (X : Nat × (Nat → Int32)) : xMet l X yX7_isValveSetting cX7_isValveSetting 2 (some .boolean) 2 0 (fX7_isValveSetting X) :=
  xMet_of (cl := xEnv (nX7_isValveSetting X)) (rt := 1) (stops := []) (tbl := tX7_isValveSetting) (by decide +kernel) (by decide) tX7_isValveSetting_ok x_FX7 rfl (xEnv_ok (L := nX7_isValveSetting X) (List.forall_mem_cons.mpr ⟨xCS_S (i := 82) (n := 3) (mX7_within l X) (xPk_in [455, 341, 59, 342] (by decide +kernel) (by decide +kernel)) (by decide +kernel) (by decide) (by decide), (fun _ h => absurd h List.not_mem_nil)⟩))
    (xNoNew (by decide +kernel))
    (fun as σ q h => by
      unfold fX7_isValveSetting at h
      split at h
      · exact Nat.le_of_ble_eq_true rfl
      · cases h)
    (fun as σ r σ' h => by
      unfold fX7_isValveSetting at h
      split at h
      · exact ⟨100000, h⟩
      · cases h)
def tX7_setValve : List XE := [(0, .iload_n 1, 1, 0, 0, []), (1, .invokestatic 33, 3, 67, 0, []), (4, .iload_n 2, 1, 0, 0, []), (5, .iload_n 3, 1, 0, 0, []), (6, .invokestatic 59, 3, 119, 0, []), (9, .invokestatic 41, 3, 83, 0, []), (12, .aload_n 0, 1, 0, 0, []), (13, .getfield 22, 3, 6, 2, []), (16, .aload_n 0, 1, 0, 0, []), (17, .getfield 10, 3, 6, 0, []), (20, .invokevirtual 45, 3, 90, 0, []), (23, .aload_n 0, 1, 0, 0, []), (24, .getfield 10, 3, 6, 0, []), (27, .iload_n 1, 1, 0, 0, []), (28, .invokevirtual 49, 3, 98, 0, []), (31, .iload_n 2, 1, 0, 0, []), (32, .iload_n 3, 1, 0, 0, []), (33, .invokevirtual 62, 3, 124, 0, []), (36, .ireturn, 1, 0, 0, [])]
theorem tX7_setValve_ok : xTblOK RX7 cX7_setValve xFX7 4 tX7_setValve = true := by decide +kernel
abbrev nX7_setValve (X : Nat × (Nat → Int32)) : List (Nat × Nat × Nat × XS) := [(67, 1, 1, fX7_refuseUnlessValve X), (119, 2, 0, fX7_isValveSetting X), (83, 1, 1, fX7_refuseUnless X), (90, 2, 0, fX2_save X), (98, 2, 0, fX4_at X), (124, 3, 0, fX5_changeSetting X)]
def fX7_setValve (X : Nat × (Nat → Int32)) : XS := fun as σ => match as with
  | [.inr (.inr (some (6, a0))), .inl a1, .inl a2, .inl a3] => xIter X (xEnv (nX7_setValve X)) (fun _ _ => some none) 0 [] tX7_setValve 100000 (0, [(0, .inr (.inr (some (6, a0)))), (1, .inl a1), (2, .inl a2), (3, .inl a3)], σ, 2)
  | _ => none
theorem rX7_setValve (X : Nat × (Nat → Int32)) : ∀ as σ q, fX7_setValve X as σ = some q → ∃ j as', as = xR 6 j :: as' := by
  intro as σ q h
  unfold fX7_setValve at h
  split at h
  · exact ⟨_, _, rfl⟩
  · cases h
theorem mX7_setValve (l : Launch) (X : Nat × (Nat → Int32)) (hl : l.stackTraces = false) : xMet l X yX7_setValve cX7_setValve 4 (some .int) 7 2 (fX7_setValve X) :=
  xMet_of (cl := xEnv (nX7_setValve X)) (rt := 0) (stops := []) (tbl := tX7_setValve) (by decide +kernel) (by decide) tX7_setValve_ok x_FX7 rfl (xEnv_ok (L := nX7_setValve X) (List.forall_mem_cons.mpr ⟨xCS_S (i := 33) (n := 1) (mX7_refuseUnlessValve l X hl) (xPk_in [610, 611, 59, 612] (by decide +kernel) (by decide +kernel)) (by decide +kernel) (by decide) (by decide), (List.forall_mem_cons.mpr ⟨xCS_S (i := 59) (n := 2) (mX7_isValveSetting l X) (xPk_in [459, 460, 59, 461] (by decide +kernel) (by decide +kernel)) (by decide +kernel) (by decide) (by decide), (List.forall_mem_cons.mpr ⟨xCS_S (i := 41) (n := 1) (mX7_refuseUnless l X hl) (xPk_in [681, 682, 59, 683] (by decide +kernel) (by decide +kernel)) (by decide +kernel) (by decide) (by decide), (List.forall_mem_cons.mpr ⟨xCS_V (i := 45) (n := 1) (C := RX2) (k := 1) (mX2_save l X) (xPk_in [409, 410, 411, 63, 412] (by decide +kernel) (by decide +kernel)) (by decide +kernel) (by decide) rfl (by decide) (by decide) (rX2_save X), (List.forall_mem_cons.mpr ⟨xCS_V (i := 49) (n := 1) (C := RX4) (k := 3) (mX4_at l X) (xPk_in [480, 481, 482, 60, 483] (by decide +kernel) (by decide +kernel)) (by decide +kernel) (by decide) rfl (by decide) (by decide) (rX4_at X), (List.forall_mem_cons.mpr ⟨xCS_V (i := 62) (n := 2) (C := RX5) (k := 4) (mX5_changeSetting l X) (xPk_in [488, 489, 490, 61, 491] (by decide +kernel) (by decide +kernel)) (by decide +kernel) (by decide) rfl (by decide) (by decide) (rX5_changeSetting X), (fun _ h => absurd h List.not_mem_nil)⟩)⟩)⟩)⟩)⟩)⟩))
    (xNoNew (by decide +kernel))
    (fun as σ q h => by
      unfold fX7_setValve at h
      split at h
      · exact Nat.le_of_ble_eq_true rfl
      · cases h)
    (fun as σ r σ' h => by
      unfold fX7_setValve at h
      split at h
      · exact ⟨100000, h⟩
      · cases h)
def tX7_isSignal : List XE := [(0, .iload_n 0, 1, 0, 0, []), (1, .iconst 0, 1, 0, 0, []), (2, .sipush 1000, 3, 0, 0, []), (5, .invokestatic 82, 3, 165, 0, []), (8, .ireturn, 1, 0, 0, [])]
theorem tX7_isSignal_ok : xTblOK RX7 cX7_isSignal xFX7 1 tX7_isSignal = true := by decide +kernel
abbrev nX7_isSignal (X : Nat × (Nat → Int32)) : List (Nat × Nat × Nat × XS) := [(165, 3, 0, fX7_within X)]
def fX7_isSignal (X : Nat × (Nat → Int32)) : XS := fun as σ => match as with
  | [.inl a0] => xIter X (xEnv (nX7_isSignal X)) (fun _ _ => some none) 1 [] tX7_isSignal 100000 (0, [(0, .inl a0)], σ, 0)
  | _ => none
theorem mX7_isSignal (l : Launch) (X : Nat × (Nat → Int32)) : xMet l X yX7_isSignal cX7_isSignal 1 (some .boolean) 2 0 (fX7_isSignal X) :=
  xMet_of (cl := xEnv (nX7_isSignal X)) (rt := 1) (stops := []) (tbl := tX7_isSignal) (by decide +kernel) (by decide) tX7_isSignal_ok x_FX7 rfl (xEnv_ok (L := nX7_isSignal X) (List.forall_mem_cons.mpr ⟨xCS_S (i := 82) (n := 3) (mX7_within l X) (xPk_in [455, 341, 59, 342] (by decide +kernel) (by decide +kernel)) (by decide +kernel) (by decide) (by decide), (fun _ h => absurd h List.not_mem_nil)⟩))
    (xNoNew (by decide +kernel))
    (fun as σ q h => by
      unfold fX7_isSignal at h
      split at h
      · exact Nat.le_of_ble_eq_true rfl
      · cases h)
    (fun as σ r σ' h => by
      unfold fX7_isSignal at h
      split at h
      · exact ⟨100000, h⟩
      · cases h)
def tX7_setSignal : List XE := [(0, .iload_n 1, 1, 0, 0, []), (1, .invokestatic 66, 3, 133, 0, []), (4, .invokestatic 41, 3, 83, 0, []), (7, .aload_n 0, 1, 0, 0, []), (8, .getfield 22, 3, 6, 2, []), (11, .aload_n 0, 1, 0, 0, []), (12, .getfield 10, 3, 6, 0, []), (15, .invokevirtual 45, 3, 90, 0, []), (18, .aload_n 0, 1, 0, 0, []), (19, .getfield 10, 3, 6, 0, []), (22, .iload_n 1, 1, 0, 0, []), (23, .invokevirtual 70, 3, 140, 0, []), (26, .ireturn, 1, 0, 0, [])]
theorem tX7_setSignal_ok : xTblOK RX7 cX7_setSignal xFX7 2 tX7_setSignal = true := by decide +kernel
abbrev nX7_setSignal (X : Nat × (Nat → Int32)) : List (Nat × Nat × Nat × XS) := [(133, 1, 0, fX7_isSignal X), (83, 1, 1, fX7_refuseUnless X), (90, 2, 0, fX2_save X), (140, 2, 0, fX4_changeSignal X)]
def fX7_setSignal (X : Nat × (Nat → Int32)) : XS := fun as σ => match as with
  | [.inr (.inr (some (6, a0))), .inl a1] => xIter X (xEnv (nX7_setSignal X)) (fun _ _ => some none) 0 [] tX7_setSignal 100000 (0, [(0, .inr (.inr (some (6, a0)))), (1, .inl a1)], σ, 1)
  | _ => none
theorem rX7_setSignal (X : Nat × (Nat → Int32)) : ∀ as σ q, fX7_setSignal X as σ = some q → ∃ j as', as = xR 6 j :: as' := by
  intro as σ q h
  unfold fX7_setSignal at h
  split at h
  · exact ⟨_, _, rfl⟩
  · cases h
theorem mX7_setSignal (l : Launch) (X : Nat × (Nat → Int32)) (hl : l.stackTraces = false) : xMet l X yX7_setSignal cX7_setSignal 2 (some .int) 7 1 (fX7_setSignal X) :=
  xMet_of (cl := xEnv (nX7_setSignal X)) (rt := 0) (stops := []) (tbl := tX7_setSignal) (by decide +kernel) (by decide) tX7_setSignal_ok x_FX7 rfl (xEnv_ok (L := nX7_setSignal X) (List.forall_mem_cons.mpr ⟨xCS_S (i := 66) (n := 1) (mX7_isSignal l X) (xPk_in [462, 463, 59, 464] (by decide +kernel) (by decide +kernel)) (by decide +kernel) (by decide) (by decide), (List.forall_mem_cons.mpr ⟨xCS_S (i := 41) (n := 1) (mX7_refuseUnless l X hl) (xPk_in [681, 682, 59, 683] (by decide +kernel) (by decide +kernel)) (by decide +kernel) (by decide) (by decide), (List.forall_mem_cons.mpr ⟨xCS_V (i := 45) (n := 1) (C := RX2) (k := 1) (mX2_save l X) (xPk_in [409, 410, 411, 63, 412] (by decide +kernel) (by decide +kernel)) (by decide +kernel) (by decide) rfl (by decide) (by decide) (rX2_save X), (List.forall_mem_cons.mpr ⟨xCS_V (i := 70) (n := 1) (C := RX4) (k := 3) (mX4_changeSignal l X) (xPk_in [509, 510, 511, 60, 512] (by decide +kernel) (by decide +kernel)) (by decide +kernel) (by decide) rfl (by decide) (by decide) (rX4_changeSignal X), (fun _ h => absurd h List.not_mem_nil)⟩)⟩)⟩)⟩))
    (xNoNew (by decide +kernel))
    (fun as σ q h => by
      unfold fX7_setSignal at h
      split at h
      · exact Nat.le_of_ble_eq_true rfl
      · cases h)
    (fun as σ r σ' h => by
      unfold fX7_setSignal at h
      split at h
      · exact ⟨100000, h⟩
      · cases h)
def tX7_isControllerSetting : List XE := [(0, .iload_n 0, 1, 0, 0, []), (1, .tableswitch 67 0 3 #[31, 38, 49, 58], 31, 68, 0, [(0, 32), (1, 39), (2, 50), (3, 59)]), (32, .iload_n 1, 1, 0, 0, []), (33, .iconst 0, 1, 0, 0, []), (34, .iconst 1, 1, 0, 0, []), (35, .invokestatic 82, 3, 165, 0, []), (38, .ireturn, 1, 0, 0, []), (39, .iload_n 1, 1, 0, 0, []), (40, .sipush (-10000), 3, 0, 0, []), (43, .sipush 10000, 3, 0, 0, []), (46, .invokestatic 82, 3, 165, 0, []), (49, .ireturn, 1, 0, 0, []), (50, .iload_n 1, 1, 0, 0, []), (51, .iconst 0, 1, 0, 0, []), (52, .sipush 2000, 3, 0, 0, []), (55, .invokestatic 82, 3, 165, 0, []), (58, .ireturn, 1, 0, 0, []), (59, .iload_n 1, 1, 0, 0, []), (60, .iconst 1, 1, 0, 0, []), (61, .sipush 1000, 3, 0, 0, []), (64, .invokestatic 82, 3, 165, 0, []), (67, .ireturn, 1, 0, 0, []), (68, .iconst 0, 1, 0, 0, []), (69, .ireturn, 1, 0, 0, [])]
theorem tX7_isControllerSetting_ok : xTblOK RX7 cX7_isControllerSetting xFX7 2 tX7_isControllerSetting = true := by decide +kernel
abbrev nX7_isControllerSetting (X : Nat × (Nat → Int32)) : List (Nat × Nat × Nat × XS) := [(165, 3, 0, fX7_within X)]
def fX7_isControllerSetting (X : Nat × (Nat → Int32)) : XS := fun as σ => match as with
  | [.inl a0, .inl a1] => xIter X (xEnv (nX7_isControllerSetting X)) (fun _ _ => some none) 1 [] tX7_isControllerSetting 100000 (0, [(0, .inl a0), (1, .inl a1)], σ, 0)
  | _ => none
theorem mX7_isControllerSetting (l : Launch) (X : Nat × (Nat → Int32)) : xMet l X yX7_isControllerSetting cX7_isControllerSetting 2 (some .boolean) 2 0 (fX7_isControllerSetting X) :=
  xMet_of (cl := xEnv (nX7_isControllerSetting X)) (rt := 1) (stops := []) (tbl := tX7_isControllerSetting) (by decide +kernel) (by decide) tX7_isControllerSetting_ok x_FX7 rfl (xEnv_ok (L := nX7_isControllerSetting X) (List.forall_mem_cons.mpr ⟨xCS_S (i := 82) (n := 3) (mX7_within l X) (xPk_in [455, 341, 59, 342] (by decide +kernel) (by decide +kernel)) (by decide +kernel) (by decide) (by decide), (fun _ h => absurd h List.not_mem_nil)⟩))
    (xNoNew (by decide +kernel))
    (fun as σ q h => by
      unfold fX7_isControllerSetting at h
      split at h
      · exact Nat.le_of_ble_eq_true rfl
      · cases h)
    (fun as σ r σ' h => by
      unfold fX7_isControllerSetting at h
      split at h
      · exact ⟨100000, h⟩
      · cases h)
def tX7_tune : List XE := [(0, .iload_n 1, 1, 0, 0, []), (1, .iload_n 2, 1, 0, 0, []), (2, .invokestatic 74, 3, 149, 0, []), (5, .invokestatic 41, 3, 83, 0, []), (8, .aload_n 0, 1, 0, 0, []), (9, .getfield 22, 3, 6, 2, []), (12, .aload_n 0, 1, 0, 0, []), (13, .getfield 10, 3, 6, 0, []), (16, .invokevirtual 45, 3, 90, 0, []), (19, .aload_n 0, 1, 0, 0, []), (20, .getfield 10, 3, 6, 0, []), (23, .iload_n 1, 1, 0, 0, []), (24, .iload_n 2, 1, 0, 0, []), (25, .invokevirtual 77, 3, 154, 0, []), (28, .ireturn, 1, 0, 0, [])]
theorem tX7_tune_ok : xTblOK RX7 cX7_tune xFX7 3 tX7_tune = true := by decide +kernel
abbrev nX7_tune (X : Nat × (Nat → Int32)) : List (Nat × Nat × Nat × XS) := [(149, 2, 0, fX7_isControllerSetting X), (83, 1, 1, fX7_refuseUnless X), (90, 2, 0, fX2_save X), (154, 3, 0, fX4_changeSetting X)]
def fX7_tune (X : Nat × (Nat → Int32)) : XS := fun as σ => match as with
  | [.inr (.inr (some (6, a0))), .inl a1, .inl a2] => xIter X (xEnv (nX7_tune X)) (fun _ _ => some none) 0 [] tX7_tune 100000 (0, [(0, .inr (.inr (some (6, a0)))), (1, .inl a1), (2, .inl a2)], σ, 1)
  | _ => none
theorem rX7_tune (X : Nat × (Nat → Int32)) : ∀ as σ q, fX7_tune X as σ = some q → ∃ j as', as = xR 6 j :: as' := by
  intro as σ q h
  unfold fX7_tune at h
  split at h
  · exact ⟨_, _, rfl⟩
  · cases h
theorem mX7_tune (l : Launch) (X : Nat × (Nat → Int32)) (hl : l.stackTraces = false) : xMet l X yX7_tune cX7_tune 3 (some .int) 7 1 (fX7_tune X) :=
  xMet_of (cl := xEnv (nX7_tune X)) (rt := 0) (stops := []) (tbl := tX7_tune) (by decide +kernel) (by decide) tX7_tune_ok x_FX7 rfl (xEnv_ok (L := nX7_tune X) (List.forall_mem_cons.mpr ⟨xCS_S (i := 74) (n := 2) (mX7_isControllerSetting l X) (xPk_in [465, 466, 59, 467] (by decide +kernel) (by decide +kernel)) (by decide +kernel) (by decide) (by decide), (List.forall_mem_cons.mpr ⟨xCS_S (i := 41) (n := 1) (mX7_refuseUnless l X hl) (xPk_in [681, 682, 59, 683] (by decide +kernel) (by decide +kernel)) (by decide +kernel) (by decide) (by decide), (List.forall_mem_cons.mpr ⟨xCS_V (i := 45) (n := 1) (C := RX2) (k := 1) (mX2_save l X) (xPk_in [409, 410, 411, 63, 412] (by decide +kernel) (by decide +kernel)) (by decide +kernel) (by decide) rfl (by decide) (by decide) (rX2_save X), (List.forall_mem_cons.mpr ⟨xCS_V (i := 77) (n := 2) (C := RX4) (k := 3) (mX4_changeSetting l X) (xPk_in [517, 518, 519, 60, 520] (by decide +kernel) (by decide +kernel)) (by decide +kernel) (by decide) rfl (by decide) (by decide) (rX4_changeSetting X), (fun _ h => absurd h List.not_mem_nil)⟩)⟩)⟩)⟩))
    (xNoNew (by decide +kernel))
    (fun as σ q h => by
      unfold fX7_tune at h
      split at h
      · exact Nat.le_of_ble_eq_true rfl
      · cases h)
    (fun as σ r σ' h => by
      unfold fX7_tune at h
      split at h
      · exact ⟨100000, h⟩
      · cases h)
def tX7_service : List XE := [(0, .iload_n 1, 1, 0, 0, []), (1, .invokestatic 33, 3, 67, 0, []), (4, .aload_n 0, 1, 0, 0, []), (5, .getfield 22, 3, 6, 2, []), (8, .aload_n 0, 1, 0, 0, []), (9, .getfield 10, 3, 6, 0, []), (12, .invokevirtual 45, 3, 90, 0, []), (15, .aload_n 0, 1, 0, 0, []), (16, .getfield 10, 3, 6, 0, []), (19, .iload_n 1, 1, 0, 0, []), (20, .invokevirtual 49, 3, 98, 0, []), (23, .invokevirtual 78, 3, 156, 0, []), (26, .ireturn, 1, 0, 0, [])]
theorem tX7_service_ok : xTblOK RX7 cX7_service xFX7 2 tX7_service = true := by decide +kernel
abbrev nX7_service (X : Nat × (Nat → Int32)) : List (Nat × Nat × Nat × XS) := [(67, 1, 1, fX7_refuseUnlessValve X), (90, 2, 0, fX2_save X), (98, 2, 0, fX4_at X), (156, 1, 0, fX5_renew X)]
def fX7_service (X : Nat × (Nat → Int32)) : XS := fun as σ => match as with
  | [.inr (.inr (some (6, a0))), .inl a1] => xIter X (xEnv (nX7_service X)) (fun _ _ => some none) 0 [] tX7_service 100000 (0, [(0, .inr (.inr (some (6, a0)))), (1, .inl a1)], σ, 1)
  | _ => none
theorem rX7_service (X : Nat × (Nat → Int32)) : ∀ as σ q, fX7_service X as σ = some q → ∃ j as', as = xR 6 j :: as' := by
  intro as σ q h
  unfold fX7_service at h
  split at h
  · exact ⟨_, _, rfl⟩
  · cases h
theorem mX7_service (l : Launch) (X : Nat × (Nat → Int32)) (hl : l.stackTraces = false) : xMet l X yX7_service cX7_service 2 (some .int) 7 1 (fX7_service X) :=
  xMet_of (cl := xEnv (nX7_service X)) (rt := 0) (stops := []) (tbl := tX7_service) (by decide +kernel) (by decide) tX7_service_ok x_FX7 rfl (xEnv_ok (L := nX7_service X) (List.forall_mem_cons.mpr ⟨xCS_S (i := 33) (n := 1) (mX7_refuseUnlessValve l X hl) (xPk_in [610, 611, 59, 612] (by decide +kernel) (by decide +kernel)) (by decide +kernel) (by decide) (by decide), (List.forall_mem_cons.mpr ⟨xCS_V (i := 45) (n := 1) (C := RX2) (k := 1) (mX2_save l X) (xPk_in [409, 410, 411, 63, 412] (by decide +kernel) (by decide +kernel)) (by decide +kernel) (by decide) rfl (by decide) (by decide) (rX2_save X), (List.forall_mem_cons.mpr ⟨xCS_V (i := 49) (n := 1) (C := RX4) (k := 3) (mX4_at l X) (xPk_in [480, 481, 482, 60, 483] (by decide +kernel) (by decide +kernel)) (by decide +kernel) (by decide) rfl (by decide) (by decide) (rX4_at X), (List.forall_mem_cons.mpr ⟨xCS_V (i := 78) (n := 0) (C := RX5) (k := 4) (mX5_renew l X) (xPk_in [530, 531, 532, 61, 533] (by decide +kernel) (by decide +kernel)) (by decide +kernel) (by decide) rfl (by decide) (by decide) (rX5_renew X), (fun _ h => absurd h List.not_mem_nil)⟩)⟩)⟩)⟩))
    (xNoNew (by decide +kernel))
    (fun as σ q h => by
      unfold fX7_service at h
      split at h
      · exact Nat.le_of_ble_eq_true rfl
      · cases h)
    (fun as σ r σ' h => by
      unfold fX7_service at h
      split at h
      · exact ⟨100000, h⟩
      · cases h)
def tX7_putStem : List XE := [(0, .iload_n 1, 1, 0, 0, []), (1, .invokestatic 33, 3, 67, 0, []), (4, .iload_n 2, 1, 0, 0, []), (5, .iconst 0, 1, 0, 0, []), (6, .sipush 1000, 3, 0, 0, []), (9, .invokestatic 82, 3, 165, 0, []), (12, .invokestatic 41, 3, 83, 0, []), (15, .aload_n 0, 1, 0, 0, []), (16, .getfield 22, 3, 6, 2, []), (19, .aload_n 0, 1, 0, 0, []), (20, .getfield 10, 3, 6, 0, []), (23, .invokevirtual 45, 3, 90, 0, []), (26, .aload_n 0, 1, 0, 0, []), (27, .getfield 10, 3, 6, 0, []), (30, .iload_n 1, 1, 0, 0, []), (31, .invokevirtual 49, 3, 98, 0, []), (34, .iload_n 2, 1, 0, 0, []), (35, .invokevirtual 86, 3, 172, 0, []), (38, .ireturn, 1, 0, 0, [])]
theorem tX7_putStem_ok : xTblOK RX7 cX7_putStem xFX7 3 tX7_putStem = true := by decide +kernel
abbrev nX7_putStem (X : Nat × (Nat → Int32)) : List (Nat × Nat × Nat × XS) := [(67, 1, 1, fX7_refuseUnlessValve X), (165, 3, 0, fX7_within X), (83, 1, 1, fX7_refuseUnless X), (90, 2, 0, fX2_save X), (98, 2, 0, fX4_at X), (172, 2, 0, fX5_putAt X)]
def fX7_putStem (X : Nat × (Nat → Int32)) : XS := fun as σ => match as with
  | [.inr (.inr (some (6, a0))), .inl a1, .inl a2] => xIter X (xEnv (nX7_putStem X)) (fun _ _ => some none) 0 [] tX7_putStem 100000 (0, [(0, .inr (.inr (some (6, a0)))), (1, .inl a1), (2, .inl a2)], σ, 2)
  | _ => none
theorem rX7_putStem (X : Nat × (Nat → Int32)) : ∀ as σ q, fX7_putStem X as σ = some q → ∃ j as', as = xR 6 j :: as' := by
  intro as σ q h
  unfold fX7_putStem at h
  split at h
  · exact ⟨_, _, rfl⟩
  · cases h
theorem mX7_putStem (l : Launch) (X : Nat × (Nat → Int32)) (hl : l.stackTraces = false) : xMet l X yX7_putStem cX7_putStem 3 (some .int) 7 2 (fX7_putStem X) :=
  xMet_of (cl := xEnv (nX7_putStem X)) (rt := 0) (stops := []) (tbl := tX7_putStem) (by decide +kernel) (by decide) tX7_putStem_ok x_FX7 rfl (xEnv_ok (L := nX7_putStem X) (List.forall_mem_cons.mpr ⟨xCS_S (i := 33) (n := 1) (mX7_refuseUnlessValve l X hl) (xPk_in [610, 611, 59, 612] (by decide +kernel) (by decide +kernel)) (by decide +kernel) (by decide) (by decide), (List.forall_mem_cons.mpr ⟨xCS_S (i := 82) (n := 3) (mX7_within l X) (xPk_in [455, 341, 59, 342] (by decide +kernel) (by decide +kernel)) (by decide +kernel) (by decide) (by decide), (List.forall_mem_cons.mpr ⟨xCS_S (i := 41) (n := 1) (mX7_refuseUnless l X hl) (xPk_in [681, 682, 59, 683] (by decide +kernel) (by decide +kernel)) (by decide +kernel) (by decide) (by decide), (List.forall_mem_cons.mpr ⟨xCS_V (i := 45) (n := 1) (C := RX2) (k := 1) (mX2_save l X) (xPk_in [409, 410, 411, 63, 412] (by decide +kernel) (by decide +kernel)) (by decide +kernel) (by decide) rfl (by decide) (by decide) (rX2_save X), (List.forall_mem_cons.mpr ⟨xCS_V (i := 49) (n := 1) (C := RX4) (k := 3) (mX4_at l X) (xPk_in [480, 481, 482, 60, 483] (by decide +kernel) (by decide +kernel)) (by decide +kernel) (by decide) rfl (by decide) (by decide) (rX4_at X), (List.forall_mem_cons.mpr ⟨xCS_V (i := 86) (n := 1) (C := RX5) (k := 4) (mX5_putAt l X) (xPk_in [735, 736, 737, 61, 738] (by decide +kernel) (by decide +kernel)) (by decide +kernel) (by decide) rfl (by decide) (by decide) (rX5_putAt X), (fun _ h => absurd h List.not_mem_nil)⟩)⟩)⟩)⟩)⟩)⟩))
    (xNoNew (by decide +kernel))
    (fun as σ q h => by
      unfold fX7_putStem at h
      split at h
      · exact Nat.le_of_ble_eq_true rfl
      · cases h)
    (fun as σ r σ' h => by
      unfold fX7_putStem at h
      split at h
      · exact ⟨100000, h⟩
      · cases h)
def tX7_isTicks : List XE := [(0, .iload_n 0, 1, 0, 0, []), (1, .iconst 1, 1, 0, 0, []), (2, .sipush 500, 3, 0, 0, []), (5, .invokestatic 82, 3, 165, 0, []), (8, .ireturn, 1, 0, 0, [])]
theorem tX7_isTicks_ok : xTblOK RX7 cX7_isTicks xFX7 1 tX7_isTicks = true := by decide +kernel
abbrev nX7_isTicks (X : Nat × (Nat → Int32)) : List (Nat × Nat × Nat × XS) := [(165, 3, 0, fX7_within X)]
def fX7_isTicks (X : Nat × (Nat → Int32)) : XS := fun as σ => match as with
  | [.inl a0] => xIter X (xEnv (nX7_isTicks X)) (fun _ _ => some none) 1 [] tX7_isTicks 100000 (0, [(0, .inl a0)], σ, 0)
  | _ => none
theorem mX7_isTicks (l : Launch) (X : Nat × (Nat → Int32)) : xMet l X yX7_isTicks cX7_isTicks 1 (some .boolean) 2 0 (fX7_isTicks X) :=
  xMet_of (cl := xEnv (nX7_isTicks X)) (rt := 1) (stops := []) (tbl := tX7_isTicks) (by decide +kernel) (by decide) tX7_isTicks_ok x_FX7 rfl (xEnv_ok (L := nX7_isTicks X) (List.forall_mem_cons.mpr ⟨xCS_S (i := 82) (n := 3) (mX7_within l X) (xPk_in [455, 341, 59, 342] (by decide +kernel) (by decide +kernel)) (by decide +kernel) (by decide) (by decide), (fun _ h => absurd h List.not_mem_nil)⟩))
    (xNoNew (by decide +kernel))
    (fun as σ q h => by
      unfold fX7_isTicks at h
      split at h
      · exact Nat.le_of_ble_eq_true rfl
      · cases h)
    (fun as σ r σ' h => by
      unfold fX7_isTicks at h
      split at h
      · exact ⟨100000, h⟩
      · cases h)
def tX7_isTimeLeft : List XE := [(0, .aload_n 0, 1, 0, 0, []), (1, .getfield 10, 3, 6, 0, []), (4, .getfield 126, 3, 3, 8, []), (7, .iload_n 1, 1, 0, 0, []), (8, .iadd, 1, 0, 0, []), (9, .ldc 235, 2, 0, 0, [(200000, 0)]), (11, .if_icmp .gt 7, 3, 18, 0, []), (14, .iconst 1, 1, 0, 0, []), (15, .goto 4, 3, 19, 0, []), (18, .iconst 0, 1, 0, 0, []), (19, .ireturn, 1, 0, 0, [])]
theorem tX7_isTimeLeft_ok : xTblOK RX7 cX7_isTimeLeft xFX7 2 tX7_isTimeLeft = true := by decide +kernel
abbrev nX7_isTimeLeft (X : Nat × (Nat → Int32)) : List (Nat × Nat × Nat × XS) := []
def fX7_isTimeLeft (X : Nat × (Nat → Int32)) : XS := fun as σ => match as with
  | [.inr (.inr (some (6, a0))), .inl a1] => xIter X (xEnv (nX7_isTimeLeft X)) (fun _ _ => some none) 1 [] tX7_isTimeLeft 100000 (0, [(0, .inr (.inr (some (6, a0)))), (1, .inl a1)], σ, 0)
  | _ => none
theorem rX7_isTimeLeft (X : Nat × (Nat → Int32)) : ∀ as σ q, fX7_isTimeLeft X as σ = some q → ∃ j as', as = xR 6 j :: as' := by
  intro as σ q h
  unfold fX7_isTimeLeft at h
  split at h
  · exact ⟨_, _, rfl⟩
  · cases h
theorem mX7_isTimeLeft (l : Launch) (X : Nat × (Nat → Int32)) : xMet l X yX7_isTimeLeft cX7_isTimeLeft 2 (some .boolean) 1 0 (fX7_isTimeLeft X) :=
  xMet_of (cl := xEnv (nX7_isTimeLeft X)) (rt := 1) (stops := []) (tbl := tX7_isTimeLeft) (by decide +kernel) (by decide) tX7_isTimeLeft_ok x_FX7 rfl (xEnv_ok (L := nX7_isTimeLeft X) (fun _ h => absurd h List.not_mem_nil))
    (xNoNew (by decide +kernel))
    (fun as σ q h => by
      unfold fX7_isTimeLeft at h
      split at h
      · exact Nat.le_of_ble_eq_true rfl
      · cases h)
    (fun as σ r σ' h => by
      unfold fX7_isTimeLeft at h
      split at h
      · exact ⟨100000, h⟩
      · cases h)
def tX7_run : List XE := [(0, .iload_n 1, 1, 0, 0, []), (1, .invokestatic 89, 3, 179, 0, []), (4, .invokestatic 41, 3, 83, 0, []), (7, .aload_n 0, 1, 0, 0, []), (8, .iload_n 1, 1, 0, 0, []), (9, .invokevirtual 92, 3, 184, 0, []), (12, .ifCond .ne 13, 3, 25, 0, []), (15, .new 95, 3, 2, 0, []), (18, .dup, 1, 0, 0, []), (19, .ldc 97, 2, 0, 0, []), (21, .invokespecial 99, 3, 0, 0, []), (24, .athrow, 1, 0, 0, []), (25, .aload_n 0, 1, 0, 0, []), (26, .getfield 22, 3, 6, 2, []), (29, .aload_n 0, 1, 0, 0, []), (30, .getfield 10, 3, 6, 0, []), (33, .invokevirtual 45, 3, 90, 0, []), (36, .aload_n 0, 1, 0, 0, []), (37, .getfield 10, 3, 6, 0, []), (40, .iload_n 1, 1, 0, 0, []), (41, .invokevirtual 102, 3, 204, 0, []), (44, .ireturn, 1, 0, 0, [])]
theorem tX7_run_ok : xTblOK RX7 cX7_run xFX7 2 tX7_run = true := by decide +kernel
abbrev nX7_run (X : Nat × (Nat → Int32)) : List (Nat × Nat × Nat × XS) := [(179, 1, 0, fX7_isTicks X), (83, 1, 1, fX7_refuseUnless X), (184, 2, 0, fX7_isTimeLeft X), (90, 2, 0, fX2_save X), (204, 2, 0, fX4_pass X)]
def fX7_run (X : Nat × (Nat → Int32)) : XS := fun as σ => match as with
  | [.inr (.inr (some (6, a0))), .inl a1] => xIter X (xEnv (nX7_run X)) (fun _ _ => some none) 0 [] tX7_run 100000 (0, [(0, .inr (.inr (some (6, a0)))), (1, .inl a1)], σ, 2)
  | _ => none
theorem rX7_run (X : Nat × (Nat → Int32)) : ∀ as σ q, fX7_run X as σ = some q → ∃ j as', as = xR 6 j :: as' := by
  intro as σ q h
  unfold fX7_run at h
  split at h
  · exact ⟨_, _, rfl⟩
  · cases h
theorem mX7_run (l : Launch) (X : Nat × (Nat → Int32)) (hl : l.stackTraces = false) : xMet l X yX7_run cX7_run 2 (some .int) 7 2 (fX7_run X) :=
  xMet_of (cl := xEnv (nX7_run X)) (rt := 0) (stops := []) (tbl := tX7_run) (by decide +kernel) (by decide) tX7_run_ok x_FX7 rfl (xEnv_ok (L := nX7_run X) (List.forall_mem_cons.mpr ⟨xCS_S (i := 89) (n := 1) (mX7_isTicks l X) (xPk_in [468, 469, 59, 470] (by decide +kernel) (by decide +kernel)) (by decide +kernel) (by decide) (by decide), (List.forall_mem_cons.mpr ⟨xCS_S (i := 41) (n := 1) (mX7_refuseUnless l X hl) (xPk_in [681, 682, 59, 683] (by decide +kernel) (by decide +kernel)) (by decide +kernel) (by decide) (by decide), (List.forall_mem_cons.mpr ⟨xCS_V (i := 92) (n := 1) (C := RX7) (k := 6) (mX7_isTimeLeft l X) (xPk_in [471, 473, 7, 59, 474] (by decide +kernel) (by decide +kernel)) (by decide +kernel) (by decide) rfl (by decide) (by decide) (rX7_isTimeLeft X), (List.forall_mem_cons.mpr ⟨xCS_V (i := 45) (n := 1) (C := RX2) (k := 1) (mX2_save l X) (xPk_in [409, 410, 411, 63, 412] (by decide +kernel) (by decide +kernel)) (by decide +kernel) (by decide) rfl (by decide) (by decide) (rX2_save X), (List.forall_mem_cons.mpr ⟨xCS_V (i := 102) (n := 1) (C := RX4) (k := 3) (mX4_pass l X) (xPk_in [534, 535, 536, 60, 537] (by decide +kernel) (by decide +kernel)) (by decide +kernel) (by decide) rfl (by decide) (by decide) (rX4_pass X), (fun _ h => absurd h List.not_mem_nil)⟩)⟩)⟩)⟩)⟩))
    (fun en hen hi => by
    intro G p e R s m args below meth c C0 h1 h2 h3 h4 ht
    intro _
    have hq : en = (15, .new 95, 3, 2, 0, []) := xOneNew (tbl := tX7_run) rfl hen hi
    subst hq
    exact xThr_S hl C0 (by decide) h1 h2 h3 h4 ht (is := 97) (ic := 99) (E := 2) (text := "the time would be more than 200000") (by decide +kernel) (xPk_in [747] (ws := [.classLink RX7 95 (xXN 2)]) (by decide +kernel) (by decide +kernel) _ List.mem_cons_self) (xPk_in [73] (ws := [.initialized (xXN 2)]) (by decide +kernel) (by decide +kernel) _ List.mem_cons_self) (by decide +kernel) (by decide +kernel) (by decide +kernel) (by decide +kernel) (by decide +kernel) (by decide +kernel) (by decide +kernel) (by decide +kernel) (by decide +kernel))
    (fun as σ q h => by
      unfold fX7_run at h
      split at h
      · exact Nat.le_of_ble_eq_true rfl
      · cases h)
    (fun as σ r σ' h => by
      unfold fX7_run at h
      split at h
      · exact ⟨100000, h⟩
      · cases h)
def tX7_valve : List XE := [(0, .iload_n 1, 1, 0, 0, []), (1, .invokestatic 33, 3, 67, 0, []), (4, .iload_n 2, 1, 0, 0, []), (5, .iconst 0, 1, 0, 0, []), (6, .bipush 20, 2, 0, 0, []), (8, .invokestatic 82, 3, 165, 0, []), (11, .invokestatic 41, 3, 83, 0, []), (14, .aload_n 0, 1, 0, 0, []), (15, .getfield 10, 3, 6, 0, []), (18, .iload_n 1, 1, 0, 0, []), (19, .invokevirtual 49, 3, 98, 0, []), (22, .iload_n 2, 1, 0, 0, []), (23, .aload_n 0, 1, 0, 0, []), (24, .getfield 10, 3, 6, 0, []), (27, .getfield 105, 3, 3, 3, []), (30, .invokevirtual 109, 3, 218, 0, []), (33, .ireturn, 1, 0, 0, [])]
theorem tX7_valve_ok : xTblOK RX7 cX7_valve xFX7 3 tX7_valve = true := by decide +kernel
abbrev nX7_valve (X : Nat × (Nat → Int32)) : List (Nat × Nat × Nat × XS) := [(67, 1, 1, fX7_refuseUnlessValve X), (165, 3, 0, fX7_within X), (83, 1, 1, fX7_refuseUnless X), (98, 2, 0, fX4_at X), (218, 3, 0, fX5_value X)]
def fX7_valve (X : Nat × (Nat → Int32)) : XS := fun as σ => match as with
  | [.inr (.inr (some (6, a0))), .inl a1, .inl a2] => xIter X (xEnv (nX7_valve X)) (fun _ _ => some none) 0 [] tX7_valve 100000 (0, [(0, .inr (.inr (some (6, a0)))), (1, .inl a1), (2, .inl a2)], σ, 2)
  | _ => none
theorem rX7_valve (X : Nat × (Nat → Int32)) : ∀ as σ q, fX7_valve X as σ = some q → ∃ j as', as = xR 6 j :: as' := by
  intro as σ q h
  unfold fX7_valve at h
  split at h
  · exact ⟨_, _, rfl⟩
  · cases h
theorem mX7_valve (l : Launch) (X : Nat × (Nat → Int32)) (hl : l.stackTraces = false) : xMet l X yX7_valve cX7_valve 3 (some .int) 7 2 (fX7_valve X) :=
  xMet_of (cl := xEnv (nX7_valve X)) (rt := 0) (stops := []) (tbl := tX7_valve) (by decide +kernel) (by decide) tX7_valve_ok x_FX7 rfl (xEnv_ok (L := nX7_valve X) (List.forall_mem_cons.mpr ⟨xCS_S (i := 33) (n := 1) (mX7_refuseUnlessValve l X hl) (xPk_in [610, 611, 59, 612] (by decide +kernel) (by decide +kernel)) (by decide +kernel) (by decide) (by decide), (List.forall_mem_cons.mpr ⟨xCS_S (i := 82) (n := 3) (mX7_within l X) (xPk_in [455, 341, 59, 342] (by decide +kernel) (by decide +kernel)) (by decide +kernel) (by decide) (by decide), (List.forall_mem_cons.mpr ⟨xCS_S (i := 41) (n := 1) (mX7_refuseUnless l X hl) (xPk_in [681, 682, 59, 683] (by decide +kernel) (by decide +kernel)) (by decide +kernel) (by decide) (by decide), (List.forall_mem_cons.mpr ⟨xCS_V (i := 49) (n := 1) (C := RX4) (k := 3) (mX4_at l X) (xPk_in [480, 481, 482, 60, 483] (by decide +kernel) (by decide +kernel)) (by decide +kernel) (by decide) rfl (by decide) (by decide) (rX4_at X), (List.forall_mem_cons.mpr ⟨xCS_V (i := 109) (n := 2) (C := RX5) (k := 4) (mX5_value l X) (xPk_in [589, 493, 494, 61, 495] (by decide +kernel) (by decide +kernel)) (by decide +kernel) (by decide) rfl (by decide) (by decide) (rX5_value X), (fun _ h => absurd h List.not_mem_nil)⟩)⟩)⟩)⟩)⟩))
    (xNoNew (by decide +kernel))
    (fun as σ q h => by
      unfold fX7_valve at h
      split at h
      · exact Nat.le_of_ble_eq_true rfl
      · cases h)
    (fun as σ r σ' h => by
      unfold fX7_valve at h
      split at h
      · exact ⟨100000, h⟩
      · cases h)
def tX7_pair : List XE := [(0, .iload_n 1, 1, 0, 0, []), (1, .iconst 0, 1, 0, 0, []), (2, .bipush 11, 2, 0, 0, []), (4, .invokestatic 82, 3, 165, 0, []), (7, .invokestatic 41, 3, 83, 0, []), (10, .aload_n 0, 1, 0, 0, []), (11, .getfield 10, 3, 6, 0, []), (14, .iload_n 1, 1, 0, 0, []), (15, .invokevirtual 112, 3, 224, 0, []), (18, .ireturn, 1, 0, 0, [])]
theorem tX7_pair_ok : xTblOK RX7 cX7_pair xFX7 2 tX7_pair = true := by decide +kernel
abbrev nX7_pair (X : Nat × (Nat → Int32)) : List (Nat × Nat × Nat × XS) := [(165, 3, 0, fX7_within X), (83, 1, 1, fX7_refuseUnless X), (224, 2, 0, fX4_value X)]
def fX7_pair (X : Nat × (Nat → Int32)) : XS := fun as σ => match as with
  | [.inr (.inr (some (6, a0))), .inl a1] => xIter X (xEnv (nX7_pair X)) (fun _ _ => some none) 0 [] tX7_pair 100000 (0, [(0, .inr (.inr (some (6, a0)))), (1, .inl a1)], σ, 1)
  | _ => none
theorem rX7_pair (X : Nat × (Nat → Int32)) : ∀ as σ q, fX7_pair X as σ = some q → ∃ j as', as = xR 6 j :: as' := by
  intro as σ q h
  unfold fX7_pair at h
  split at h
  · exact ⟨_, _, rfl⟩
  · cases h
theorem mX7_pair (l : Launch) (X : Nat × (Nat → Int32)) (hl : l.stackTraces = false) : xMet l X yX7_pair cX7_pair 2 (some .int) 7 1 (fX7_pair X) :=
  xMet_of (cl := xEnv (nX7_pair X)) (rt := 0) (stops := []) (tbl := tX7_pair) (by decide +kernel) (by decide) tX7_pair_ok x_FX7 rfl (xEnv_ok (L := nX7_pair X) (List.forall_mem_cons.mpr ⟨xCS_S (i := 82) (n := 3) (mX7_within l X) (xPk_in [455, 341, 59, 342] (by decide +kernel) (by decide +kernel)) (by decide +kernel) (by decide) (by decide), (List.forall_mem_cons.mpr ⟨xCS_S (i := 41) (n := 1) (mX7_refuseUnless l X hl) (xPk_in [681, 682, 59, 683] (by decide +kernel) (by decide +kernel)) (by decide +kernel) (by decide) (by decide), (List.forall_mem_cons.mpr ⟨xCS_V (i := 112) (n := 1) (C := RX4) (k := 3) (mX4_value l X) (xPk_in [584, 522, 523, 60, 524] (by decide +kernel) (by decide +kernel)) (by decide +kernel) (by decide) rfl (by decide) (by decide) (rX4_value X), (fun _ h => absurd h List.not_mem_nil)⟩)⟩)⟩))
    (xNoNew (by decide +kernel))
    (fun as σ q h => by
      unfold fX7_pair at h
      split at h
      · exact Nat.le_of_ble_eq_true rfl
      · cases h)
    (fun as σ r σ' h => by
      unfold fX7_pair at h
      split at h
      · exact ⟨100000, h⟩
      · cases h)
def tX7_ledger : List XE := [(0, .iload_n 1, 1, 0, 0, []), (1, .ifCond .lt 16, 3, 17, 0, []), (4, .iload_n 2, 1, 0, 0, []), (5, .iconst 0, 1, 0, 0, []), (6, .iconst 4, 1, 0, 0, []), (7, .invokestatic 82, 3, 165, 0, []), (10, .ifCond .eq 7, 3, 17, 0, []), (13, .iconst 1, 1, 0, 0, []), (14, .goto 4, 3, 18, 0, []), (17, .iconst 0, 1, 0, 0, []), (18, .invokestatic 41, 3, 83, 0, []), (21, .aload_n 0, 1, 0, 0, []), (22, .getfield 10, 3, 6, 0, []), (25, .getfield 116, 3, 3, 2, []), (28, .iload_n 1, 1, 0, 0, []), (29, .iload_n 2, 1, 0, 0, []), (30, .invokevirtual 120, 3, 240, 0, []), (33, .ireturn, 1, 0, 0, [])]
theorem tX7_ledger_ok : xTblOK RX7 cX7_ledger xFX7 3 tX7_ledger = true := by decide +kernel
abbrev nX7_ledger (X : Nat × (Nat → Int32)) : List (Nat × Nat × Nat × XS) := [(165, 3, 0, fX7_within X), (83, 1, 1, fX7_refuseUnless X), (240, 3, 0, fX1_cell X)]
def fX7_ledger (X : Nat × (Nat → Int32)) : XS := fun as σ => match as with
  | [.inr (.inr (some (6, a0))), .inl a1, .inl a2] => xIter X (xEnv (nX7_ledger X)) (fun _ _ => some none) 0 [] tX7_ledger 100000 (0, [(0, .inr (.inr (some (6, a0)))), (1, .inl a1), (2, .inl a2)], σ, 1)
  | _ => none
theorem rX7_ledger (X : Nat × (Nat → Int32)) : ∀ as σ q, fX7_ledger X as σ = some q → ∃ j as', as = xR 6 j :: as' := by
  intro as σ q h
  unfold fX7_ledger at h
  split at h
  · exact ⟨_, _, rfl⟩
  · cases h
theorem mX7_ledger (l : Launch) (X : Nat × (Nat → Int32)) (hl : l.stackTraces = false) : xMet l X yX7_ledger cX7_ledger 3 (some .int) 7 1 (fX7_ledger X) :=
  xMet_of (cl := xEnv (nX7_ledger X)) (rt := 0) (stops := []) (tbl := tX7_ledger) (by decide +kernel) (by decide) tX7_ledger_ok x_FX7 rfl (xEnv_ok (L := nX7_ledger X) (List.forall_mem_cons.mpr ⟨xCS_S (i := 82) (n := 3) (mX7_within l X) (xPk_in [455, 341, 59, 342] (by decide +kernel) (by decide +kernel)) (by decide +kernel) (by decide) (by decide), (List.forall_mem_cons.mpr ⟨xCS_S (i := 41) (n := 1) (mX7_refuseUnless l X hl) (xPk_in [681, 682, 59, 683] (by decide +kernel) (by decide +kernel)) (by decide +kernel) (by decide) (by decide), (List.forall_mem_cons.mpr ⟨xCS_V (i := 120) (n := 2) (C := RX1) (k := 0) (mX1_cell l X) (xPk_in [600, 595, 596, 62, 597] (by decide +kernel) (by decide +kernel)) (by decide +kernel) (by decide) rfl (by decide) (by decide) (rX1_cell X), (fun _ h => absurd h List.not_mem_nil)⟩)⟩)⟩))
    (xNoNew (by decide +kernel))
    (fun as σ q h => by
      unfold fX7_ledger at h
      split at h
      · exact Nat.le_of_ble_eq_true rfl
      · cases h)
    (fun as σ r σ' h => by
      unfold fX7_ledger at h
      split at h
      · exact ⟨100000, h⟩
      · cases h)
def tX7_ledgerSum : List XE := [(0, .iload_n 1, 1, 0, 0, []), (1, .invokestatic 33, 3, 67, 0, []), (4, .iload_n 2, 1, 0, 0, []), (5, .iconst 2, 1, 0, 0, []), (6, .iconst 4, 1, 0, 0, []), (7, .invokestatic 82, 3, 165, 0, []), (10, .invokestatic 41, 3, 83, 0, []), (13, .aload_n 0, 1, 0, 0, []), (14, .getfield 10, 3, 6, 0, []), (17, .getfield 116, 3, 3, 2, []), (20, .iload_n 1, 1, 0, 0, []), (21, .iload_n 2, 1, 0, 0, []), (22, .invokevirtual 123, 3, 246, 0, []), (25, .ireturn, 1, 0, 0, [])]
theorem tX7_ledgerSum_ok : xTblOK RX7 cX7_ledgerSum xFX7 3 tX7_ledgerSum = true := by decide +kernel
abbrev nX7_ledgerSum (X : Nat × (Nat → Int32)) : List (Nat × Nat × Nat × XS) := [(67, 1, 1, fX7_refuseUnlessValve X), (165, 3, 0, fX7_within X), (83, 1, 1, fX7_refuseUnless X), (246, 3, 0, fX1_sum X)]
def fX7_ledgerSum (X : Nat × (Nat → Int32)) : XS := fun as σ => match as with
  | [.inr (.inr (some (6, a0))), .inl a1, .inl a2] => xIter X (xEnv (nX7_ledgerSum X)) (fun _ _ => some none) 0 [] tX7_ledgerSum 100000 (0, [(0, .inr (.inr (some (6, a0)))), (1, .inl a1), (2, .inl a2)], σ, 2)
  | _ => none
theorem rX7_ledgerSum (X : Nat × (Nat → Int32)) : ∀ as σ q, fX7_ledgerSum X as σ = some q → ∃ j as', as = xR 6 j :: as' := by
  intro as σ q h
  unfold fX7_ledgerSum at h
  split at h
  · exact ⟨_, _, rfl⟩
  · cases h
theorem mX7_ledgerSum (l : Launch) (X : Nat × (Nat → Int32)) (hl : l.stackTraces = false) : xMet l X yX7_ledgerSum cX7_ledgerSum 3 (some .int) 7 2 (fX7_ledgerSum X) :=
  xMet_of (cl := xEnv (nX7_ledgerSum X)) (rt := 0) (stops := []) (tbl := tX7_ledgerSum) (by decide +kernel) (by decide) tX7_ledgerSum_ok x_FX7 rfl (xEnv_ok (L := nX7_ledgerSum X) (List.forall_mem_cons.mpr ⟨xCS_S (i := 33) (n := 1) (mX7_refuseUnlessValve l X hl) (xPk_in [610, 611, 59, 612] (by decide +kernel) (by decide +kernel)) (by decide +kernel) (by decide) (by decide), (List.forall_mem_cons.mpr ⟨xCS_S (i := 82) (n := 3) (mX7_within l X) (xPk_in [455, 341, 59, 342] (by decide +kernel) (by decide +kernel)) (by decide +kernel) (by decide) (by decide), (List.forall_mem_cons.mpr ⟨xCS_S (i := 41) (n := 1) (mX7_refuseUnless l X hl) (xPk_in [681, 682, 59, 683] (by decide +kernel) (by decide +kernel)) (by decide +kernel) (by decide) (by decide), (List.forall_mem_cons.mpr ⟨xCS_V (i := 123) (n := 2) (C := RX1) (k := 0) (mX1_sum l X) (xPk_in [590, 591, 592, 62, 593] (by decide +kernel) (by decide +kernel)) (by decide +kernel) (by decide) rfl (by decide) (by decide) (rX1_sum X), (fun _ h => absurd h List.not_mem_nil)⟩)⟩)⟩)⟩))
    (xNoNew (by decide +kernel))
    (fun as σ q h => by
      unfold fX7_ledgerSum at h
      split at h
      · exact Nat.le_of_ble_eq_true rfl
      · cases h)
    (fun as σ r σ' h => by
      unfold fX7_ledgerSum at h
      split at h
      · exact ⟨100000, h⟩
      · cases h)
def tX7_idealFlow : List XE := [(0, .iload_n 1, 1, 0, 0, []), (1, .invokestatic 66, 3, 133, 0, []), (4, .invokestatic 41, 3, 83, 0, []), (7, .aload_n 0, 1, 0, 0, []), (8, .getfield 10, 3, 6, 0, []), (11, .iload_n 1, 1, 0, 0, []), (12, .invokevirtual 134, 3, 268, 0, []), (15, .ireturn, 1, 0, 0, [])]
theorem tX7_idealFlow_ok : xTblOK RX7 cX7_idealFlow xFX7 2 tX7_idealFlow = true := by decide +kernel
abbrev nX7_idealFlow (X : Nat × (Nat → Int32)) : List (Nat × Nat × Nat × XS) := [(133, 1, 0, fX7_isSignal X), (83, 1, 1, fX7_refuseUnless X), (268, 2, 0, fX4_idealFor X)]
def fX7_idealFlow (X : Nat × (Nat → Int32)) : XS := fun as σ => match as with
  | [.inr (.inr (some (6, a0))), .inl a1] => xIter X (xEnv (nX7_idealFlow X)) (fun _ _ => some none) 0 [] tX7_idealFlow 100000 (0, [(0, .inr (.inr (some (6, a0)))), (1, .inl a1)], σ, 1)
  | _ => none
theorem rX7_idealFlow (X : Nat × (Nat → Int32)) : ∀ as σ q, fX7_idealFlow X as σ = some q → ∃ j as', as = xR 6 j :: as' := by
  intro as σ q h
  unfold fX7_idealFlow at h
  split at h
  · exact ⟨_, _, rfl⟩
  · cases h
theorem mX7_idealFlow (l : Launch) (X : Nat × (Nat → Int32)) (hl : l.stackTraces = false) : xMet l X yX7_idealFlow cX7_idealFlow 2 (some .int) 7 1 (fX7_idealFlow X) :=
  xMet_of (cl := xEnv (nX7_idealFlow X)) (rt := 0) (stops := []) (tbl := tX7_idealFlow) (by decide +kernel) (by decide) tX7_idealFlow_ok x_FX7 rfl (xEnv_ok (L := nX7_idealFlow X) (List.forall_mem_cons.mpr ⟨xCS_S (i := 66) (n := 1) (mX7_isSignal l X) (xPk_in [462, 463, 59, 464] (by decide +kernel) (by decide +kernel)) (by decide +kernel) (by decide) (by decide), (List.forall_mem_cons.mpr ⟨xCS_S (i := 41) (n := 1) (mX7_refuseUnless l X hl) (xPk_in [681, 682, 59, 683] (by decide +kernel) (by decide +kernel)) (by decide +kernel) (by decide) (by decide), (List.forall_mem_cons.mpr ⟨xCS_V (i := 134) (n := 1) (C := RX4) (k := 3) (mX4_idealFor l X) (xPk_in [798, 295, 296, 60, 297] (by decide +kernel) (by decide +kernel)) (by decide +kernel) (by decide) rfl (by decide) (by decide) (rX4_idealFor X), (fun _ h => absurd h List.not_mem_nil)⟩)⟩)⟩))
    (xNoNew (by decide +kernel))
    (fun as σ q h => by
      unfold fX7_idealFlow at h
      split at h
      · exact Nat.le_of_ble_eq_true rfl
      · cases h)
    (fun as σ r σ' h => by
      unfold fX7_idealFlow at h
      split at h
      · exact ⟨100000, h⟩
      · cases h)
def tX7_signalFor : List XE := [(0, .iload_n 1, 1, 0, 0, []), (1, .iconst 0, 1, 0, 0, []), (2, .sipush 2000, 3, 0, 0, []), (5, .invokestatic 82, 3, 165, 0, []), (8, .invokestatic 41, 3, 83, 0, []), (11, .aload_n 0, 1, 0, 0, []), (12, .getfield 10, 3, 6, 0, []), (15, .iload_n 1, 1, 0, 0, []), (16, .invokevirtual 137, 3, 274, 0, []), (19, .ireturn, 1, 0, 0, [])]
theorem tX7_signalFor_ok : xTblOK RX7 cX7_signalFor xFX7 2 tX7_signalFor = true := by decide +kernel
abbrev nX7_signalFor (X : Nat × (Nat → Int32)) : List (Nat × Nat × Nat × XS) := [(165, 3, 0, fX7_within X), (83, 1, 1, fX7_refuseUnless X), (274, 2, 0, fX4_leastSignal X)]
def fX7_signalFor (X : Nat × (Nat → Int32)) : XS := fun as σ => match as with
  | [.inr (.inr (some (6, a0))), .inl a1] => xIter X (xEnv (nX7_signalFor X)) (fun _ _ => some none) 0 [] tX7_signalFor 100000 (0, [(0, .inr (.inr (some (6, a0)))), (1, .inl a1)], σ, 1)
  | _ => none
theorem rX7_signalFor (X : Nat × (Nat → Int32)) : ∀ as σ q, fX7_signalFor X as σ = some q → ∃ j as', as = xR 6 j :: as' := by
  intro as σ q h
  unfold fX7_signalFor at h
  split at h
  · exact ⟨_, _, rfl⟩
  · cases h
theorem mX7_signalFor (l : Launch) (X : Nat × (Nat → Int32)) (hl : l.stackTraces = false) : xMet l X yX7_signalFor cX7_signalFor 2 (some .int) 7 1 (fX7_signalFor X) :=
  xMet_of (cl := xEnv (nX7_signalFor X)) (rt := 0) (stops := []) (tbl := tX7_signalFor) (by decide +kernel) (by decide) tX7_signalFor_ok x_FX7 rfl (xEnv_ok (L := nX7_signalFor X) (List.forall_mem_cons.mpr ⟨xCS_S (i := 82) (n := 3) (mX7_within l X) (xPk_in [455, 341, 59, 342] (by decide +kernel) (by decide +kernel)) (by decide +kernel) (by decide) (by decide), (List.forall_mem_cons.mpr ⟨xCS_S (i := 41) (n := 1) (mX7_refuseUnless l X hl) (xPk_in [681, 682, 59, 683] (by decide +kernel) (by decide +kernel)) (by decide +kernel) (by decide) (by decide), (List.forall_mem_cons.mpr ⟨xCS_V (i := 137) (n := 1) (C := RX4) (k := 3) (mX4_leastSignal l X) (xPk_in [806, 807, 808, 60, 809] (by decide +kernel) (by decide +kernel)) (by decide +kernel) (by decide) rfl (by decide) (by decide) (rX4_leastSignal X), (fun _ h => absurd h List.not_mem_nil)⟩)⟩)⟩))
    (xNoNew (by decide +kernel))
    (fun as σ q h => by
      unfold fX7_signalFor at h
      split at h
      · exact Nat.le_of_ble_eq_true rfl
      · cases h)
    (fun as σ r σ' h => by
      unfold fX7_signalFor at h
      split at h
      · exact ⟨100000, h⟩
      · cases h)
def tX7_flatSignals : List XE := [(0, .aload_n 0, 1, 0, 0, []), (1, .getfield 10, 3, 6, 0, []), (4, .invokevirtual 140, 3, 280, 0, []), (7, .ireturn, 1, 0, 0, [])]
theorem tX7_flatSignals_ok : xTblOK RX7 cX7_flatSignals xFX7 1 tX7_flatSignals = true := by decide +kernel
abbrev nX7_flatSignals (X : Nat × (Nat → Int32)) : List (Nat × Nat × Nat × XS) := [(280, 1, 0, fX4_countFlat X)]
def fX7_flatSignals (X : Nat × (Nat → Int32)) : XS := fun as σ => match as with
  | [.inr (.inr (some (6, a0)))] => xIter X (xEnv (nX7_flatSignals X)) (fun _ _ => some none) 0 [] tX7_flatSignals 100000 (0, [(0, .inr (.inr (some (6, a0))))], σ, 0)
  | _ => none
theorem rX7_flatSignals (X : Nat × (Nat → Int32)) : ∀ as σ q, fX7_flatSignals X as σ = some q → ∃ j as', as = xR 6 j :: as' := by
  intro as σ q h
  unfold fX7_flatSignals at h
  split at h
  · exact ⟨_, _, rfl⟩
  · cases h
theorem mX7_flatSignals (l : Launch) (X : Nat × (Nat → Int32)) : xMet l X yX7_flatSignals cX7_flatSignals 1 (some .int) 3 0 (fX7_flatSignals X) :=
  xMet_of (cl := xEnv (nX7_flatSignals X)) (rt := 0) (stops := []) (tbl := tX7_flatSignals) (by decide +kernel) (by decide) tX7_flatSignals_ok x_FX7 rfl (xEnv_ok (L := nX7_flatSignals X) (List.forall_mem_cons.mpr ⟨xCS_V (i := 140) (n := 0) (C := RX4) (k := 3) (mX4_countFlat l X) (xPk_in [278, 279, 280, 60, 281] (by decide +kernel) (by decide +kernel)) (by decide +kernel) (by decide) rfl (by decide) (by decide) (rX4_countFlat X), (fun _ h => absurd h List.not_mem_nil)⟩))
    (xNoNew (by decide +kernel))
    (fun as σ q h => by
      unfold fX7_flatSignals at h
      split at h
      · exact Nat.le_of_ble_eq_true rfl
      · cases h)
    (fun as σ r σ' h => by
      unfold fX7_flatSignals at h
      split at h
      · exact ⟨100000, h⟩
      · cases h)
def tX7_firstFall : List XE := [(0, .aload_n 0, 1, 0, 0, []), (1, .getfield 10, 3, 6, 0, []), (4, .invokevirtual 143, 3, 286, 0, []), (7, .ireturn, 1, 0, 0, [])]
theorem tX7_firstFall_ok : xTblOK RX7 cX7_firstFall xFX7 1 tX7_firstFall = true := by decide +kernel
abbrev nX7_firstFall (X : Nat × (Nat → Int32)) : List (Nat × Nat × Nat × XS) := [(286, 1, 0, fX4_findFall X)]
def fX7_firstFall (X : Nat × (Nat → Int32)) : XS := fun as σ => match as with
  | [.inr (.inr (some (6, a0)))] => xIter X (xEnv (nX7_firstFall X)) (fun _ _ => some none) 0 [] tX7_firstFall 100000 (0, [(0, .inr (.inr (some (6, a0))))], σ, 0)
  | _ => none
theorem rX7_firstFall (X : Nat × (Nat → Int32)) : ∀ as σ q, fX7_firstFall X as σ = some q → ∃ j as', as = xR 6 j :: as' := by
  intro as σ q h
  unfold fX7_firstFall at h
  split at h
  · exact ⟨_, _, rfl⟩
  · cases h
theorem mX7_firstFall (l : Launch) (X : Nat × (Nat → Int32)) : xMet l X yX7_firstFall cX7_firstFall 1 (some .int) 5 0 (fX7_firstFall X) :=
  xMet_of (cl := xEnv (nX7_firstFall X)) (rt := 0) (stops := []) (tbl := tX7_firstFall) (by decide +kernel) (by decide) tX7_firstFall_ok x_FX7 rfl (xEnv_ok (L := nX7_firstFall X) (List.forall_mem_cons.mpr ⟨xCS_V (i := 143) (n := 0) (C := RX4) (k := 3) (mX4_findFall l X) (xPk_in [290, 291, 292, 60, 293] (by decide +kernel) (by decide +kernel)) (by decide +kernel) (by decide) rfl (by decide) (by decide) (rX4_findFall X), (fun _ h => absurd h List.not_mem_nil)⟩))
    (xNoNew (by decide +kernel))
    (fun as σ q h => by
      unfold fX7_firstFall at h
      split at h
      · exact Nat.le_of_ble_eq_true rfl
      · cases h)
    (fun as σ r σ' h => by
      unfold fX7_firstFall at h
      split at h
      · exact ⟨100000, h⟩
      · cases h)
def tX7_moveFor : List XE := [(0, .iload_n 1, 1, 0, 0, []), (1, .invokestatic 33, 3, 67, 0, []), (4, .iload_n 2, 1, 0, 0, []), (5, .invokestatic 66, 3, 133, 0, []), (8, .invokestatic 41, 3, 83, 0, []), (11, .aload_n 0, 1, 0, 0, []), (12, .getfield 10, 3, 6, 0, []), (15, .iload_n 1, 1, 0, 0, []), (16, .invokevirtual 49, 3, 98, 0, []), (19, .astore_n 3, 1, 0, 0, []), (20, .aload_n 3, 1, 0, 0, []), (21, .aload_n 3, 1, 0, 0, []), (22, .iload_n 2, 1, 0, 0, []), (23, .invokevirtual 146, 3, 292, 0, []), (26, .invokevirtual 149, 3, 298, 0, []), (29, .ireturn, 1, 0, 0, [])]
theorem tX7_moveFor_ok : xTblOK RX7 cX7_moveFor xFX7 4 tX7_moveFor = true := by decide +kernel
abbrev nX7_moveFor (X : Nat × (Nat → Int32)) : List (Nat × Nat × Nat × XS) := [(67, 1, 1, fX7_refuseUnlessValve X), (133, 1, 0, fX7_isSignal X), (83, 1, 1, fX7_refuseUnless X), (98, 2, 0, fX4_at X), (292, 2, 0, fX5_demandFor X), (298, 2, 0, fX5_moveTowards X)]
def fX7_moveFor (X : Nat × (Nat → Int32)) : XS := fun as σ => match as with
  | [.inr (.inr (some (6, a0))), .inl a1, .inl a2] => xIter X (xEnv (nX7_moveFor X)) (fun _ _ => some none) 0 [] tX7_moveFor 100000 (0, [(0, .inr (.inr (some (6, a0)))), (1, .inl a1), (2, .inl a2)], σ, 2)
  | _ => none
theorem rX7_moveFor (X : Nat × (Nat → Int32)) : ∀ as σ q, fX7_moveFor X as σ = some q → ∃ j as', as = xR 6 j :: as' := by
  intro as σ q h
  unfold fX7_moveFor at h
  split at h
  · exact ⟨_, _, rfl⟩
  · cases h
theorem mX7_moveFor (l : Launch) (X : Nat × (Nat → Int32)) (hl : l.stackTraces = false) : xMet l X yX7_moveFor cX7_moveFor 4 (some .int) 7 2 (fX7_moveFor X) :=
  xMet_of (cl := xEnv (nX7_moveFor X)) (rt := 0) (stops := []) (tbl := tX7_moveFor) (by decide +kernel) (by decide) tX7_moveFor_ok x_FX7 rfl (xEnv_ok (L := nX7_moveFor X) (List.forall_mem_cons.mpr ⟨xCS_S (i := 33) (n := 1) (mX7_refuseUnlessValve l X hl) (xPk_in [610, 611, 59, 612] (by decide +kernel) (by decide +kernel)) (by decide +kernel) (by decide) (by decide), (List.forall_mem_cons.mpr ⟨xCS_S (i := 66) (n := 1) (mX7_isSignal l X) (xPk_in [462, 463, 59, 464] (by decide +kernel) (by decide +kernel)) (by decide +kernel) (by decide) (by decide), (List.forall_mem_cons.mpr ⟨xCS_S (i := 41) (n := 1) (mX7_refuseUnless l X hl) (xPk_in [681, 682, 59, 683] (by decide +kernel) (by decide +kernel)) (by decide +kernel) (by decide) (by decide), (List.forall_mem_cons.mpr ⟨xCS_V (i := 49) (n := 1) (C := RX4) (k := 3) (mX4_at l X) (xPk_in [480, 481, 482, 60, 483] (by decide +kernel) (by decide +kernel)) (by decide +kernel) (by decide) rfl (by decide) (by decide) (rX4_at X), (List.forall_mem_cons.mpr ⟨xCS_V (i := 146) (n := 1) (C := RX5) (k := 4) (mX5_demandFor l X) (xPk_in [817, 283, 284, 61, 285] (by decide +kernel) (by decide +kernel)) (by decide +kernel) (by decide) rfl (by decide) (by decide) (rX5_demandFor X), (List.forall_mem_cons.mpr ⟨xCS_V (i := 149) (n := 1) (C := RX5) (k := 4) (mX5_moveTowards l X) (xPk_in [818, 555, 556, 61, 557] (by decide +kernel) (by decide +kernel)) (by decide +kernel) (by decide) rfl (by decide) (by decide) (rX5_moveTowards X), (fun _ h => absurd h List.not_mem_nil)⟩)⟩)⟩)⟩)⟩)⟩))
    (xNoNew (by decide +kernel))
    (fun as σ q h => by
      unfold fX7_moveFor at h
      split at h
      · exact Nat.le_of_ble_eq_true rfl
      · cases h)
    (fun as σ r σ' h => by
      unfold fX7_moveFor at h
      split at h
      · exact ⟨100000, h⟩
      · cases h)
def tX7_restAfter : List XE := [(0, .iload_n 1, 1, 0, 0, []), (1, .invokestatic 89, 3, 179, 0, []), (4, .invokestatic 41, 3, 83, 0, []), (7, .aload_n 0, 1, 0, 0, []), (8, .getfield 16, 3, 6, 1, []), (11, .aload_n 0, 1, 0, 0, []), (12, .getfield 10, 3, 6, 0, []), (15, .invokevirtual 152, 3, 304, 0, []), (18, .iconst 1, 1, 0, 0, []), (19, .istore_n 2, 1, 0, 0, []), (20, .iload_n 2, 1, 0, 0, []), (21, .iload_n 1, 1, 0, 0, []), (22, .if_icmp .gt 21, 3, 43, 0, []), (25, .aload_n 0, 1, 0, 0, []), (26, .getfield 16, 3, 6, 1, []), (29, .invokevirtual 155, 3, 310, 0, []), (32, .ifCond .ne 5, 3, 37, 0, []), (35, .iload_n 2, 1, 0, 0, []), (36, .ireturn, 1, 0, 0, []), (37, .iinc 2 1, 3, 0, 0, []), (40, .goto (-20), 3, 20, 0, []), (43, .ldc 159, 2, 0, 0, [((-1000000), 0)]), (45, .ireturn, 1, 0, 0, [])]
theorem tX7_restAfter_ok : xTblOK RX7 cX7_restAfter xFX7 3 tX7_restAfter = true := by decide +kernel
abbrev nX7_restAfter (X : Nat × (Nat → Int32)) : List (Nat × Nat × Nat × XS) := [(179, 1, 0, fX7_isTicks X), (83, 1, 1, fX7_refuseUnless X), (304, 2, 0, fX4_copy X), (310, 1, 0, fX4_tick X)]
def fX7_restAfter (X : Nat × (Nat → Int32)) : XS := fun as σ => match as with
  | [.inr (.inr (some (6, a0))), .inl a1] => xIter X (xEnv (nX7_restAfter X)) (fun _ _ => some none) 0 [(20, [0, 1, 2])] tX7_restAfter 100000 (0, [(0, .inr (.inr (some (6, a0)))), (1, .inl a1)], σ, 1)
  | _ => none
theorem rX7_restAfter (X : Nat × (Nat → Int32)) : ∀ as σ q, fX7_restAfter X as σ = some q → ∃ j as', as = xR 6 j :: as' := by
  intro as σ q h
  unfold fX7_restAfter at h
  split at h
  · exact ⟨_, _, rfl⟩
  · cases h
theorem mX7_restAfter (l : Launch) (X : Nat × (Nat → Int32)) (hl : l.stackTraces = false) : xMet l X yX7_restAfter cX7_restAfter 3 (some .int) 7 1 (fX7_restAfter X) :=
  xMet_of (cl := xEnv (nX7_restAfter X)) (rt := 0) (stops := [(20, [0, 1, 2])]) (tbl := tX7_restAfter) (by decide +kernel) (by decide) tX7_restAfter_ok x_FX7 rfl (xEnv_ok (L := nX7_restAfter X) (List.forall_mem_cons.mpr ⟨xCS_S (i := 89) (n := 1) (mX7_isTicks l X) (xPk_in [468, 469, 59, 470] (by decide +kernel) (by decide +kernel)) (by decide +kernel) (by decide) (by decide), (List.forall_mem_cons.mpr ⟨xCS_S (i := 41) (n := 1) (mX7_refuseUnless l X hl) (xPk_in [681, 682, 59, 683] (by decide +kernel) (by decide +kernel)) (by decide +kernel) (by decide) (by decide), (List.forall_mem_cons.mpr ⟨xCS_V (i := 152) (n := 1) (C := RX4) (k := 3) (mX4_copy l X) (xPk_in [826, 417, 418, 60, 419] (by decide +kernel) (by decide +kernel)) (by decide +kernel) (by decide) rfl (by decide) (by decide) (rX4_copy X), (List.forall_mem_cons.mpr ⟨xCS_V (i := 155) (n := 0) (C := RX4) (k := 3) (mX4_tick l X) (xPk_in [827, 539, 540, 60, 541] (by decide +kernel) (by decide +kernel)) (by decide +kernel) (by decide) rfl (by decide) (by decide) (rX4_tick X), (fun _ h => absurd h List.not_mem_nil)⟩)⟩)⟩)⟩))
    (xNoNew (by decide +kernel))
    (fun as σ q h => by
      unfold fX7_restAfter at h
      split at h
      · exact Nat.le_of_ble_eq_true rfl
      · cases h)
    (fun as σ r σ' h => by
      unfold fX7_restAfter at h
      split at h
      · exact ⟨100000, h⟩
      · cases h)
def tX7_wornAfter : List XE := [(0, .iload_n 1, 1, 0, 0, []), (1, .invokestatic 33, 3, 67, 0, []), (4, .iload_n 2, 1, 0, 0, []), (5, .iconst 0, 1, 0, 0, []), (6, .ldc 160, 2, 0, 0, [(100000, 0)]), (8, .invokestatic 82, 3, 165, 0, []), (11, .ifCond .eq 18, 3, 29, 0, []), (14, .iload_n 3, 1, 0, 0, []), (15, .iconst 0, 1, 0, 0, []), (16, .sipush 500, 3, 0, 0, []), (19, .invokestatic 82, 3, 165, 0, []), (22, .ifCond .eq 7, 3, 29, 0, []), (25, .iconst 1, 1, 0, 0, []), (26, .goto 4, 3, 30, 0, []), (29, .iconst 0, 1, 0, 0, []), (30, .invokestatic 41, 3, 83, 0, []), (33, .aload_n 0, 1, 0, 0, []), (34, .getfield 16, 3, 6, 1, []), (37, .aload_n 0, 1, 0, 0, []), (38, .getfield 10, 3, 6, 0, []), (41, .invokevirtual 152, 3, 304, 0, []), (44, .aload_n 0, 1, 0, 0, []), (45, .getfield 16, 3, 6, 1, []), (48, .iload_n 1, 1, 0, 0, []), (49, .invokevirtual 49, 3, 98, 0, []), (52, .astore 4, 2, 0, 0, []), (54, .iconst 0, 1, 0, 0, []), (55, .istore 5, 2, 0, 0, []), (57, .iload 5, 2, 0, 0, []), (59, .iload_n 3, 1, 0, 0, []), (60, .if_icmp .gt 29, 3, 89, 0, []), (63, .aload 4, 2, 0, 0, []), (65, .invokevirtual 161, 3, 322, 0, []), (68, .iload_n 2, 1, 0, 0, []), (69, .if_icmp .lt 6, 3, 75, 0, []), (72, .iload 5, 2, 0, 0, []), (74, .ireturn, 1, 0, 0, []), (75, .aload_n 0, 1, 0, 0, []), (76, .getfield 16, 3, 6, 1, []), (79, .invokevirtual 155, 3, 310, 0, []), (82, .pop, 1, 0, 0, []), (83, .iinc 5 1, 3, 0, 0, []), (86, .goto (-29), 3, 57, 0, []), (89, .ldc 159, 2, 0, 0, [((-1000000), 0)]), (91, .ireturn, 1, 0, 0, [])]
theorem tX7_wornAfter_ok : xTblOK RX7 cX7_wornAfter xFX7 6 tX7_wornAfter = true := by decide +kernel
abbrev nX7_wornAfter (X : Nat × (Nat → Int32)) : List (Nat × Nat × Nat × XS) := [(67, 1, 1, fX7_refuseUnlessValve X), (165, 3, 0, fX7_within X), (83, 1, 1, fX7_refuseUnless X), (304, 2, 0, fX4_copy X), (98, 2, 0, fX4_at X), (322, 1, 0, fX5_wear X), (310, 1, 0, fX4_tick X)]
def fX7_wornAfter (X : Nat × (Nat → Int32)) : XS := fun as σ => match as with
  | [.inr (.inr (some (6, a0))), .inl a1, .inl a2, .inl a3] => xIter X (xEnv (nX7_wornAfter X)) (fun _ _ => some none) 0 [(57, [0, 2, 3, 4, 5])] tX7_wornAfter 100000 (0, [(0, .inr (.inr (some (6, a0)))), (1, .inl a1), (2, .inl a2), (3, .inl a3)], σ, 2)
  | _ => none
theorem rX7_wornAfter (X : Nat × (Nat → Int32)) : ∀ as σ q, fX7_wornAfter X as σ = some q → ∃ j as', as = xR 6 j :: as' := by
  intro as σ q h
  unfold fX7_wornAfter at h
  split at h
  · exact ⟨_, _, rfl⟩
  · cases h
theorem mX7_wornAfter (l : Launch) (X : Nat × (Nat → Int32)) (hl : l.stackTraces = false) : xMet l X yX7_wornAfter cX7_wornAfter 6 (some .int) 7 2 (fX7_wornAfter X) :=
  xMet_of (cl := xEnv (nX7_wornAfter X)) (rt := 0) (stops := [(57, [0, 2, 3, 4, 5])]) (tbl := tX7_wornAfter) (by decide +kernel) (by decide) tX7_wornAfter_ok x_FX7 rfl (xEnv_ok (L := nX7_wornAfter X) (List.forall_mem_cons.mpr ⟨xCS_S (i := 33) (n := 1) (mX7_refuseUnlessValve l X hl) (xPk_in [610, 611, 59, 612] (by decide +kernel) (by decide +kernel)) (by decide +kernel) (by decide) (by decide), (List.forall_mem_cons.mpr ⟨xCS_S (i := 82) (n := 3) (mX7_within l X) (xPk_in [455, 341, 59, 342] (by decide +kernel) (by decide +kernel)) (by decide +kernel) (by decide) (by decide), (List.forall_mem_cons.mpr ⟨xCS_S (i := 41) (n := 1) (mX7_refuseUnless l X hl) (xPk_in [681, 682, 59, 683] (by decide +kernel) (by decide +kernel)) (by decide +kernel) (by decide) (by decide), (List.forall_mem_cons.mpr ⟨xCS_V (i := 152) (n := 1) (C := RX4) (k := 3) (mX4_copy l X) (xPk_in [826, 417, 418, 60, 419] (by decide +kernel) (by decide +kernel)) (by decide +kernel) (by decide) rfl (by decide) (by decide) (rX4_copy X), (List.forall_mem_cons.mpr ⟨xCS_V (i := 49) (n := 1) (C := RX4) (k := 3) (mX4_at l X) (xPk_in [480, 481, 482, 60, 483] (by decide +kernel) (by decide +kernel)) (by decide +kernel) (by decide) rfl (by decide) (by decide) (rX4_at X), (List.forall_mem_cons.mpr ⟨xCS_V (i := 161) (n := 0) (C := RX5) (k := 4) (mX5_wear l X) (xPk_in [837, 497, 498, 61, 499] (by decide +kernel) (by decide +kernel)) (by decide +kernel) (by decide) rfl (by decide) (by decide) (rX5_wear X), (List.forall_mem_cons.mpr ⟨xCS_V (i := 155) (n := 0) (C := RX4) (k := 3) (mX4_tick l X) (xPk_in [827, 539, 540, 60, 541] (by decide +kernel) (by decide +kernel)) (by decide +kernel) (by decide) rfl (by decide) (by decide) (rX4_tick X), (fun _ h => absurd h List.not_mem_nil)⟩)⟩)⟩)⟩)⟩)⟩)⟩))
    (xNoNew (by decide +kernel))
    (fun as σ q h => by
      unfold fX7_wornAfter at h
      split at h
      · exact Nat.le_of_ble_eq_true rfl
      · cases h)
    (fun as σ r σ' h => by
      unfold fX7_wornAfter at h
      split at h
      · exact ⟨100000, h⟩
      · cases h)
def tX7_missedWithin : List XE := [(0, .iload_n 1, 1, 0, 0, []), (1, .invokestatic 89, 3, 179, 0, []), (4, .invokestatic 41, 3, 83, 0, []), (7, .aload_n 0, 1, 0, 0, []), (8, .getfield 16, 3, 6, 1, []), (11, .aload_n 0, 1, 0, 0, []), (12, .getfield 10, 3, 6, 0, []), (15, .invokevirtual 152, 3, 304, 0, []), (18, .aload_n 0, 1, 0, 0, []), (19, .getfield 16, 3, 6, 1, []), (22, .iload_n 1, 1, 0, 0, []), (23, .invokevirtual 102, 3, 204, 0, []), (26, .pop, 1, 0, 0, []), (27, .aload_n 0, 1, 0, 0, []), (28, .getfield 16, 3, 6, 1, []), (31, .getfield 164, 3, 3, 10, []), (34, .aload_n 0, 1, 0, 0, []), (35, .getfield 10, 3, 6, 0, []), (38, .getfield 164, 3, 3, 10, []), (41, .isub, 1, 0, 0, []), (42, .ireturn, 1, 0, 0, [])]
theorem tX7_missedWithin_ok : xTblOK RX7 cX7_missedWithin xFX7 2 tX7_missedWithin = true := by decide +kernel
abbrev nX7_missedWithin (X : Nat × (Nat → Int32)) : List (Nat × Nat × Nat × XS) := [(179, 1, 0, fX7_isTicks X), (83, 1, 1, fX7_refuseUnless X), (304, 2, 0, fX4_copy X), (204, 2, 0, fX4_pass X)]
def fX7_missedWithin (X : Nat × (Nat → Int32)) : XS := fun as σ => match as with
  | [.inr (.inr (some (6, a0))), .inl a1] => xIter X (xEnv (nX7_missedWithin X)) (fun _ _ => some none) 0 [] tX7_missedWithin 100000 (0, [(0, .inr (.inr (some (6, a0)))), (1, .inl a1)], σ, 1)
  | _ => none
theorem rX7_missedWithin (X : Nat × (Nat → Int32)) : ∀ as σ q, fX7_missedWithin X as σ = some q → ∃ j as', as = xR 6 j :: as' := by
  intro as σ q h
  unfold fX7_missedWithin at h
  split at h
  · exact ⟨_, _, rfl⟩
  · cases h
theorem mX7_missedWithin (l : Launch) (X : Nat × (Nat → Int32)) (hl : l.stackTraces = false) : xMet l X yX7_missedWithin cX7_missedWithin 2 (some .int) 7 1 (fX7_missedWithin X) :=
  xMet_of (cl := xEnv (nX7_missedWithin X)) (rt := 0) (stops := []) (tbl := tX7_missedWithin) (by decide +kernel) (by decide) tX7_missedWithin_ok x_FX7 rfl (xEnv_ok (L := nX7_missedWithin X) (List.forall_mem_cons.mpr ⟨xCS_S (i := 89) (n := 1) (mX7_isTicks l X) (xPk_in [468, 469, 59, 470] (by decide +kernel) (by decide +kernel)) (by decide +kernel) (by decide) (by decide), (List.forall_mem_cons.mpr ⟨xCS_S (i := 41) (n := 1) (mX7_refuseUnless l X hl) (xPk_in [681, 682, 59, 683] (by decide +kernel) (by decide +kernel)) (by decide +kernel) (by decide) (by decide), (List.forall_mem_cons.mpr ⟨xCS_V (i := 152) (n := 1) (C := RX4) (k := 3) (mX4_copy l X) (xPk_in [826, 417, 418, 60, 419] (by decide +kernel) (by decide +kernel)) (by decide +kernel) (by decide) rfl (by decide) (by decide) (rX4_copy X), (List.forall_mem_cons.mpr ⟨xCS_V (i := 102) (n := 1) (C := RX4) (k := 3) (mX4_pass l X) (xPk_in [534, 535, 536, 60, 537] (by decide +kernel) (by decide +kernel)) (by decide +kernel) (by decide) rfl (by decide) (by decide) (rX4_pass X), (fun _ h => absurd h List.not_mem_nil)⟩)⟩)⟩)⟩))
    (xNoNew (by decide +kernel))
    (fun as σ q h => by
      unfold fX7_missedWithin at h
      split at h
      · exact Nat.le_of_ble_eq_true rfl
      · cases h)
    (fun as σ r σ' h => by
      unfold fX7_missedWithin at h
      split at h
      · exact ⟨100000, h⟩
      · cases h)
def tX7_type : List XE := [(0, .iload_n 1, 1, 0, 0, []), (1, .iconst 0, 1, 0, 0, []), (2, .bipush 127, 2, 0, 0, []), (4, .invokestatic 82, 3, 165, 0, []), (7, .invokestatic 41, 3, 83, 0, []), (10, .aload_n 0, 1, 0, 0, []), (11, .getfield 29, 3, 6, 3, []), (14, .invokevirtual 167, 3, 334, 0, []), (17, .ifCond .eq 13, 3, 30, 0, []), (20, .new 95, 3, 2, 0, []), (23, .dup, 1, 0, 0, []), (24, .ldc 170, 2, 0, 0, []), (26, .invokespecial 99, 3, 0, 0, []), (29, .athrow, 1, 0, 0, []), (30, .aload_n 0, 1, 0, 0, []), (31, .getfield 29, 3, 6, 3, []), (34, .iload_n 1, 1, 0, 0, []), (35, .invokevirtual 172, 3, 344, 0, []), (38, .ireturn, 1, 0, 0, [])]
theorem tX7_type_ok : xTblOK RX7 cX7_type xFX7 2 tX7_type = true := by decide +kernel
abbrev nX7_type (X : Nat × (Nat → Int32)) : List (Nat × Nat × Nat × XS) := [(165, 3, 0, fX7_within X), (83, 1, 1, fX7_refuseUnless X), (334, 1, 0, fX3_isFull X), (344, 2, 0, fX3_append X)]
def fX7_type (X : Nat × (Nat → Int32)) : XS := fun as σ => match as with
  | [.inr (.inr (some (6, a0))), .inl a1] => xIter X (xEnv (nX7_type X)) (fun _ _ => some none) 0 [] tX7_type 100000 (0, [(0, .inr (.inr (some (6, a0)))), (1, .inl a1)], σ, 2)
  | _ => none
theorem rX7_type (X : Nat × (Nat → Int32)) : ∀ as σ q, fX7_type X as σ = some q → ∃ j as', as = xR 6 j :: as' := by
  intro as σ q h
  unfold fX7_type at h
  split at h
  · exact ⟨_, _, rfl⟩
  · cases h
theorem mX7_type (l : Launch) (X : Nat × (Nat → Int32)) (hl : l.stackTraces = false) : xMet l X yX7_type cX7_type 2 (some .int) 7 2 (fX7_type X) :=
  xMet_of (cl := xEnv (nX7_type X)) (rt := 0) (stops := []) (tbl := tX7_type) (by decide +kernel) (by decide) tX7_type_ok x_FX7 rfl (xEnv_ok (L := nX7_type X) (List.forall_mem_cons.mpr ⟨xCS_S (i := 82) (n := 3) (mX7_within l X) (xPk_in [455, 341, 59, 342] (by decide +kernel) (by decide +kernel)) (by decide +kernel) (by decide) (by decide), (List.forall_mem_cons.mpr ⟨xCS_S (i := 41) (n := 1) (mX7_refuseUnless l X hl) (xPk_in [681, 682, 59, 683] (by decide +kernel) (by decide +kernel)) (by decide +kernel) (by decide) (by decide), (List.forall_mem_cons.mpr ⟨xCS_V (i := 167) (n := 0) (C := RX3) (k := 2) (mX3_isFull l X) (xPk_in [852, 853, 854, 64, 855] (by decide +kernel) (by decide +kernel)) (by decide +kernel) (by decide) rfl (by decide) (by decide) (rX3_isFull X), (List.forall_mem_cons.mpr ⟨xCS_V (i := 172) (n := 1) (C := RX3) (k := 2) (mX3_append l X) (xPk_in [857, 858, 859, 64, 860] (by decide +kernel) (by decide +kernel)) (by decide +kernel) (by decide) rfl (by decide) (by decide) (rX3_append X), (fun _ h => absurd h List.not_mem_nil)⟩)⟩)⟩)⟩))
    (fun en hen hi => by
    intro G p e R s m args below meth c C0 h1 h2 h3 h4 ht
    intro _
    have hq : en = (20, .new 95, 3, 2, 0, []) := xOneNew (tbl := tX7_type) rfl hen hi
    subst hq
    exact xThr_S hl C0 (by decide) h1 h2 h3 h4 ht (is := 170) (ic := 99) (E := 2) (text := "the text has 150 bytes") (by decide +kernel) (xPk_in [747] (ws := [.classLink RX7 95 (xXN 2)]) (by decide +kernel) (by decide +kernel) _ List.mem_cons_self) (xPk_in [73] (ws := [.initialized (xXN 2)]) (by decide +kernel) (by decide +kernel) _ List.mem_cons_self) (by decide +kernel) (by decide +kernel) (by decide +kernel) (by decide +kernel) (by decide +kernel) (by decide +kernel) (by decide +kernel) (by decide +kernel) (by decide +kernel))
    (fun as σ q h => by
      unfold fX7_type at h
      split at h
      · exact Nat.le_of_ble_eq_true rfl
      · cases h)
    (fun as σ r σ' h => by
      unfold fX7_type at h
      split at h
      · exact ⟨100000, h⟩
      · cases h)
def tX7_clearCommands : List XE := [(0, .aload_n 0, 1, 0, 0, []), (1, .getfield 29, 3, 6, 3, []), (4, .invokevirtual 175, 3, 350, 0, []), (7, .ireturn, 1, 0, 0, [])]
theorem tX7_clearCommands_ok : xTblOK RX7 cX7_clearCommands xFX7 1 tX7_clearCommands = true := by decide +kernel
abbrev nX7_clearCommands (X : Nat × (Nat → Int32)) : List (Nat × Nat × Nat × XS) := [(350, 1, 0, fX3_empty X)]
def fX7_clearCommands (X : Nat × (Nat → Int32)) : XS := fun as σ => match as with
  | [.inr (.inr (some (6, a0)))] => xIter X (xEnv (nX7_clearCommands X)) (fun _ _ => some none) 0 [] tX7_clearCommands 100000 (0, [(0, .inr (.inr (some (6, a0))))], σ, 0)
  | _ => none
theorem rX7_clearCommands (X : Nat × (Nat → Int32)) : ∀ as σ q, fX7_clearCommands X as σ = some q → ∃ j as', as = xR 6 j :: as' := by
  intro as σ q h
  unfold fX7_clearCommands at h
  split at h
  · exact ⟨_, _, rfl⟩
  · cases h
theorem mX7_clearCommands (l : Launch) (X : Nat × (Nat → Int32)) : xMet l X yX7_clearCommands cX7_clearCommands 1 (some .int) 2 0 (fX7_clearCommands X) :=
  xMet_of (cl := xEnv (nX7_clearCommands X)) (rt := 0) (stops := []) (tbl := tX7_clearCommands) (by decide +kernel) (by decide) tX7_clearCommands_ok x_FX7 rfl (xEnv_ok (L := nX7_clearCommands X) (List.forall_mem_cons.mpr ⟨xCS_V (i := 175) (n := 0) (C := RX3) (k := 2) (mX3_empty l X) (xPk_in [312, 313, 314, 64, 315] (by decide +kernel) (by decide +kernel)) (by decide +kernel) (by decide) rfl (by decide) (by decide) (rX3_empty X), (fun _ h => absurd h List.not_mem_nil)⟩))
    (xNoNew (by decide +kernel))
    (fun as σ q h => by
      unfold fX7_clearCommands at h
      split at h
      · exact Nat.le_of_ble_eq_true rfl
      · cases h)
    (fun as σ r σ' h => by
      unfold fX7_clearCommands at h
      split at h
      · exact ⟨100000, h⟩
      · cases h)
def tX7_isAllowed : List XE := [(0, .aload_n 0, 1, 0, 0, []), (1, .getfield 29, 3, 6, 3, []), (4, .iconst 0, 1, 0, 0, []), (5, .invokevirtual 236, 3, 472, 0, []), (8, .istore_n 2, 1, 0, 0, []), (9, .getstatic 239, 3, 14, 0, []), (12, .aload_n 1, 1, 0, 0, []), (13, .invokevirtual 245, 3, 490, 0, []), (16, .iaload, 1, 0, 0, []), (17, .tableswitch 156 1 8 #[47, 47, 82, 117, 122, 128, 130, 135], 47, 173, 0, [(1, 64), (2, 64), (3, 99), (4, 134), (5, 139), (6, 145), (7, 147), (8, 152)]), (64, .iload_n 2, 1, 0, 0, []), (65, .invokestatic 222, 3, 445, 0, []), (68, .ifCond .eq 29, 3, 97, 0, []), (71, .aload_n 0, 1, 0, 0, []), (72, .getfield 29, 3, 6, 3, []), (75, .iconst 1, 1, 0, 0, []), (76, .invokevirtual 236, 3, 472, 0, []), (79, .aload_n 0, 1, 0, 0, []), (80, .getfield 29, 3, 6, 3, []), (83, .iconst 2, 1, 0, 0, []), (84, .invokevirtual 236, 3, 472, 0, []), (87, .invokestatic 37, 3, 75, 0, []), (90, .ifCond .eq 7, 3, 97, 0, []), (93, .iconst 1, 1, 0, 0, []), (94, .goto 4, 3, 98, 0, []), (97, .iconst 0, 1, 0, 0, []), (98, .ireturn, 1, 0, 0, []), (99, .iload_n 2, 1, 0, 0, []), (100, .invokestatic 222, 3, 445, 0, []), (103, .ifCond .eq 29, 3, 132, 0, []), (106, .aload_n 0, 1, 0, 0, []), (107, .getfield 29, 3, 6, 3, []), (110, .iconst 1, 1, 0, 0, []), (111, .invokevirtual 236, 3, 472, 0, []), (114, .aload_n 0, 1, 0, 0, []), (115, .getfield 29, 3, 6, 3, []), (118, .iconst 2, 1, 0, 0, []), (119, .invokevirtual 236, 3, 472, 0, []), (122, .invokestatic 59, 3, 119, 0, []), (125, .ifCond .eq 7, 3, 132, 0, []), (128, .iconst 1, 1, 0, 0, []), (129, .goto 4, 3, 133, 0, []), (132, .iconst 0, 1, 0, 0, []), (133, .ireturn, 1, 0, 0, []), (134, .iload_n 2, 1, 0, 0, []), (135, .invokestatic 66, 3, 133, 0, []), (138, .ireturn, 1, 0, 0, []), (139, .iconst 2, 1, 0, 0, []), (140, .iload_n 2, 1, 0, 0, []), (141, .invokestatic 74, 3, 149, 0, []), (144, .ireturn, 1, 0, 0, []), (145, .iconst 1, 1, 0, 0, []), (146, .ireturn, 1, 0, 0, []), (147, .iload_n 2, 1, 0, 0, []), (148, .invokestatic 222, 3, 445, 0, []), (151, .ireturn, 1, 0, 0, []), (152, .iload_n 2, 1, 0, 0, []), (153, .invokestatic 89, 3, 179, 0, []), (156, .ifCond .eq 15, 3, 171, 0, []), (159, .aload_n 0, 1, 0, 0, []), (160, .iload_n 2, 1, 0, 0, []), (161, .invokevirtual 92, 3, 184, 0, []), (164, .ifCond .eq 7, 3, 171, 0, []), (167, .iconst 1, 1, 0, 0, []), (168, .goto 4, 3, 172, 0, []), (171, .iconst 0, 1, 0, 0, []), (172, .ireturn, 1, 0, 0, []), (173, .iconst 0, 1, 0, 0, []), (174, .ireturn, 1, 0, 0, [])]
theorem tX7_isAllowed_ok : xTblOK RX7 cX7_isAllowed xFX7 3 tX7_isAllowed = true := by decide +kernel
abbrev nX7_isAllowed (X : Nat × (Nat → Int32)) : List (Nat × Nat × Nat × XS) := [(472, 2, 0, fX3_number X), (490, 1, 0, fOrd), (445, 1, 0, fX7_isValve X), (75, 2, 0, fX7_isRange X), (119, 2, 0, fX7_isValveSetting X), (133, 1, 0, fX7_isSignal X), (149, 2, 0, fX7_isControllerSetting X), (179, 1, 0, fX7_isTicks X), (184, 2, 0, fX7_isTimeLeft X)]
def fX7_isAllowed (X : Nat × (Nat → Int32)) : XS := fun as σ => match as with
  | [.inr (.inr (some (6, a0))), .inr (.inr (some (12, a1)))] => xIter X (xEnv (nX7_isAllowed X)) (fun _ _ => some none) 1 [] tX7_isAllowed 100000 (0, [(0, .inr (.inr (some (6, a0)))), (1, .inr (.inr (some (12, a1))))], σ, 0)
  | _ => none
theorem rX7_isAllowed (X : Nat × (Nat → Int32)) : ∀ as σ q, fX7_isAllowed X as σ = some q → ∃ j as', as = xR 6 j :: as' := by
  intro as σ q h
  unfold fX7_isAllowed at h
  split at h
  · exact ⟨_, _, rfl⟩
  · cases h
theorem mX7_isAllowed (l : Launch) (X : Nat × (Nat → Int32)) : xMet l X yX7_isAllowed cX7_isAllowed 3 (some .boolean) 4 0 (fX7_isAllowed X) :=
  xMet_of (cl := xEnv (nX7_isAllowed X)) (rt := 1) (stops := []) (tbl := tX7_isAllowed) (by decide +kernel) (by decide) tX7_isAllowed_ok x_FX7 rfl (xEnv_ok (L := nX7_isAllowed X) (List.forall_mem_cons.mpr ⟨xCS_V (i := 236) (n := 1) (C := RX3) (k := 2) (mX3_number l X) (xPk_in [440, 441, 442, 64, 443] (by decide +kernel) (by decide +kernel)) (by decide +kernel) (by decide) rfl (by decide) (by decide) (rX3_number X), (List.forall_mem_cons.mpr ⟨csOrd_X7_245 l X (by decide), (List.forall_mem_cons.mpr ⟨xCS_S (i := 222) (n := 1) (mX7_isValve l X) (xPk_in [452, 453, 59, 454] (by decide +kernel) (by decide +kernel)) (by decide +kernel) (by decide) (by decide), (List.forall_mem_cons.mpr ⟨xCS_S (i := 37) (n := 2) (mX7_isRange l X) (xPk_in [456, 457, 59, 458] (by decide +kernel) (by decide +kernel)) (by decide +kernel) (by decide) (by decide), (List.forall_mem_cons.mpr ⟨xCS_S (i := 59) (n := 2) (mX7_isValveSetting l X) (xPk_in [459, 460, 59, 461] (by decide +kernel) (by decide +kernel)) (by decide +kernel) (by decide) (by decide), (List.forall_mem_cons.mpr ⟨xCS_S (i := 66) (n := 1) (mX7_isSignal l X) (xPk_in [462, 463, 59, 464] (by decide +kernel) (by decide +kernel)) (by decide +kernel) (by decide) (by decide), (List.forall_mem_cons.mpr ⟨xCS_S (i := 74) (n := 2) (mX7_isControllerSetting l X) (xPk_in [465, 466, 59, 467] (by decide +kernel) (by decide +kernel)) (by decide +kernel) (by decide) (by decide), (List.forall_mem_cons.mpr ⟨xCS_S (i := 89) (n := 1) (mX7_isTicks l X) (xPk_in [468, 469, 59, 470] (by decide +kernel) (by decide +kernel)) (by decide +kernel) (by decide) (by decide), (List.forall_mem_cons.mpr ⟨xCS_V (i := 92) (n := 1) (C := RX7) (k := 6) (mX7_isTimeLeft l X) (xPk_in [471, 473, 7, 59, 474] (by decide +kernel) (by decide +kernel)) (by decide +kernel) (by decide) rfl (by decide) (by decide) (rX7_isTimeLeft X), (fun _ h => absurd h List.not_mem_nil)⟩)⟩)⟩)⟩)⟩)⟩)⟩)⟩)⟩))
    (xNoNew (by decide +kernel))
    (fun as σ q h => by
      unfold fX7_isAllowed at h
      split at h
      · exact Nat.le_of_ble_eq_true rfl
      · cases h)
    (fun as σ r σ' h => by
      unfold fX7_isAllowed at h
      split at h
      · exact ⟨100000, h⟩
      · cases h)
def tX7_hold : List XE := [(0, .aload_n 0, 1, 0, 0, []), (1, .getfield 10, 3, 6, 0, []), (4, .iconst 2, 1, 0, 0, []), (5, .iload_n 1, 1, 0, 0, []), (6, .invokevirtual 77, 3, 154, 0, []), (9, .pop, 1, 0, 0, []), (10, .aload_n 0, 1, 0, 0, []), (11, .getfield 10, 3, 6, 0, []), (14, .iconst 0, 1, 0, 0, []), (15, .iconst 1, 1, 0, 0, []), (16, .invokevirtual 77, 3, 154, 0, []), (19, .pop, 1, 0, 0, []), (20, .return_, 1, 0, 0, [])]
theorem tX7_hold_ok : xTblOK RX7 cX7_hold xFX7 2 tX7_hold = true := by decide +kernel
abbrev nX7_hold (X : Nat × (Nat → Int32)) : List (Nat × Nat × Nat × XS) := [(154, 3, 0, fX4_changeSetting X)]
def fX7_hold (X : Nat × (Nat → Int32)) : XS := fun as σ => match as with
  | [.inr (.inr (some (6, a0))), .inl a1] => xIter X (xEnv (nX7_hold X)) (fun _ _ => some none) 4 [] tX7_hold 100000 (0, [(0, .inr (.inr (some (6, a0)))), (1, .inl a1)], σ, 0)
  | _ => none
theorem rX7_hold (X : Nat × (Nat → Int32)) : ∀ as σ q, fX7_hold X as σ = some q → ∃ j as', as = xR 6 j :: as' := by
  intro as σ q h
  unfold fX7_hold at h
  split at h
  · exact ⟨_, _, rfl⟩
  · cases h
theorem mX7_hold (l : Launch) (X : Nat × (Nat → Int32)) : xMet l X yX7_hold cX7_hold 2 none 6 0 (fX7_hold X) :=
  xMet_of (cl := xEnv (nX7_hold X)) (rt := 4) (stops := []) (tbl := tX7_hold) (by decide +kernel) (by decide) tX7_hold_ok x_FX7 rfl (xEnv_ok (L := nX7_hold X) (List.forall_mem_cons.mpr ⟨xCS_V (i := 77) (n := 2) (C := RX4) (k := 3) (mX4_changeSetting l X) (xPk_in [517, 518, 519, 60, 520] (by decide +kernel) (by decide +kernel)) (by decide +kernel) (by decide) rfl (by decide) (by decide) (rX4_changeSetting X), (fun _ h => absurd h List.not_mem_nil)⟩))
    (xNoNew (by decide +kernel))
    (fun as σ q h => by
      unfold fX7_hold at h
      split at h
      · exact Nat.le_of_ble_eq_true rfl
      · cases h)
    (fun as σ r σ' h => by
      unfold fX7_hold at h
      split at h
      · exact ⟨100000, h⟩
      · cases h)
def tX7_carryOut : List XE := [(0, .aload_n 0, 1, 0, 0, []), (1, .getfield 29, 3, 6, 3, []), (4, .iconst 0, 1, 0, 0, []), (5, .invokevirtual 236, 3, 472, 0, []), (8, .istore_n 2, 1, 0, 0, []), (9, .getstatic 239, 3, 14, 0, []), (12, .aload_n 1, 1, 0, 0, []), (13, .invokevirtual 245, 3, 490, 0, []), (16, .iaload, 1, 0, 0, []), (17, .tableswitch 202 1 8 #[47, 79, 111, 142, 154, 162, 175, 190], 47, 219, 0, [(1, 64), (2, 96), (3, 128), (4, 159), (5, 171), (6, 179), (7, 192), (8, 207)]), (64, .aload_n 0, 1, 0, 0, []), (65, .getfield 10, 3, 6, 0, []), (68, .iload_n 2, 1, 0, 0, []), (69, .invokevirtual 49, 3, 98, 0, []), (72, .aload_n 0, 1, 0, 0, []), (73, .getfield 29, 3, 6, 3, []), (76, .iconst 1, 1, 0, 0, []), (77, .invokevirtual 236, 3, 472, 0, []), (80, .aload_n 0, 1, 0, 0, []), (81, .getfield 29, 3, 6, 3, []), (84, .iconst 2, 1, 0, 0, []), (85, .invokevirtual 236, 3, 472, 0, []), (88, .iconst 0, 1, 0, 0, []), (89, .invokevirtual 53, 3, 106, 0, []), (92, .pop, 1, 0, 0, []), (93, .goto 126, 3, 219, 0, []), (96, .aload_n 0, 1, 0, 0, []), (97, .getfield 10, 3, 6, 0, []), (100, .iload_n 2, 1, 0, 0, []), (101, .invokevirtual 49, 3, 98, 0, []), (104, .aload_n 0, 1, 0, 0, []), (105, .getfield 29, 3, 6, 3, []), (108, .iconst 1, 1, 0, 0, []), (109, .invokevirtual 236, 3, 472, 0, []), (112, .aload_n 0, 1, 0, 0, []), (113, .getfield 29, 3, 6, 3, []), (116, .iconst 2, 1, 0, 0, []), (117, .invokevirtual 236, 3, 472, 0, []), (120, .iconst 1, 1, 0, 0, []), (121, .invokevirtual 53, 3, 106, 0, []), (124, .pop, 1, 0, 0, []), (125, .goto 94, 3, 219, 0, []), (128, .aload_n 0, 1, 0, 0, []), (129, .getfield 10, 3, 6, 0, []), (132, .iload_n 2, 1, 0, 0, []), (133, .invokevirtual 49, 3, 98, 0, []), (136, .aload_n 0, 1, 0, 0, []), (137, .getfield 29, 3, 6, 3, []), (140, .iconst 1, 1, 0, 0, []), (141, .invokevirtual 236, 3, 472, 0, []), (144, .aload_n 0, 1, 0, 0, []), (145, .getfield 29, 3, 6, 3, []), (148, .iconst 2, 1, 0, 0, []), (149, .invokevirtual 236, 3, 472, 0, []), (152, .invokevirtual 62, 3, 124, 0, []), (155, .pop, 1, 0, 0, []), (156, .goto 63, 3, 219, 0, []), (159, .aload_n 0, 1, 0, 0, []), (160, .getfield 10, 3, 6, 0, []), (163, .iload_n 2, 1, 0, 0, []), (164, .invokevirtual 70, 3, 140, 0, []), (167, .pop, 1, 0, 0, []), (168, .goto 51, 3, 219, 0, []), (171, .aload_n 0, 1, 0, 0, []), (172, .iload_n 2, 1, 0, 0, []), (173, .invokevirtual 250, 3, 500, 0, []), (176, .goto 43, 3, 219, 0, []), (179, .aload_n 0, 1, 0, 0, []), (180, .getfield 10, 3, 6, 0, []), (183, .iconst 0, 1, 0, 0, []), (184, .iconst 0, 1, 0, 0, []), (185, .invokevirtual 77, 3, 154, 0, []), (188, .pop, 1, 0, 0, []), (189, .goto 30, 3, 219, 0, []), (192, .aload_n 0, 1, 0, 0, []), (193, .getfield 10, 3, 6, 0, []), (196, .iload_n 2, 1, 0, 0, []), (197, .invokevirtual 49, 3, 98, 0, []), (200, .invokevirtual 78, 3, 156, 0, []), (203, .pop, 1, 0, 0, []), (204, .goto 15, 3, 219, 0, []), (207, .aload_n 0, 1, 0, 0, []), (208, .getfield 10, 3, 6, 0, []), (211, .iload_n 2, 1, 0, 0, []), (212, .invokevirtual 102, 3, 204, 0, []), (215, .pop, 1, 0, 0, []), (216, .goto 3, 3, 219, 0, []), (219, .return_, 1, 0, 0, [])]
theorem tX7_carryOut_ok : xTblOK RX7 cX7_carryOut xFX7 3 tX7_carryOut = true := by decide +kernel
abbrev nX7_carryOut (X : Nat × (Nat → Int32)) : List (Nat × Nat × Nat × XS) := [(472, 2, 0, fX3_number X), (490, 1, 0, fOrd), (98, 2, 0, fX4_at X), (106, 4, 0, fX5_changeRange X), (124, 3, 0, fX5_changeSetting X), (140, 2, 0, fX4_changeSignal X), (500, 2, 0, fX7_hold X), (154, 3, 0, fX4_changeSetting X), (156, 1, 0, fX5_renew X), (204, 2, 0, fX4_pass X)]
def fX7_carryOut (X : Nat × (Nat → Int32)) : XS := fun as σ => match as with
  | [.inr (.inr (some (6, a0))), .inr (.inr (some (12, a1)))] => xIter X (xEnv (nX7_carryOut X)) (fun _ _ => some none) 4 [] tX7_carryOut 100000 (0, [(0, .inr (.inr (some (6, a0)))), (1, .inr (.inr (some (12, a1))))], σ, 0)
  | _ => none
theorem rX7_carryOut (X : Nat × (Nat → Int32)) : ∀ as σ q, fX7_carryOut X as σ = some q → ∃ j as', as = xR 6 j :: as' := by
  intro as σ q h
  unfold fX7_carryOut at h
  split at h
  · exact ⟨_, _, rfl⟩
  · cases h
theorem mX7_carryOut (l : Launch) (X : Nat × (Nat → Int32)) : xMet l X yX7_carryOut cX7_carryOut 3 none 7 0 (fX7_carryOut X) :=
  xMet_of (cl := xEnv (nX7_carryOut X)) (rt := 4) (stops := []) (tbl := tX7_carryOut) (by decide +kernel) (by decide) tX7_carryOut_ok x_FX7 rfl (xEnv_ok (L := nX7_carryOut X) (List.forall_mem_cons.mpr ⟨xCS_V (i := 236) (n := 1) (C := RX3) (k := 2) (mX3_number l X) (xPk_in [440, 441, 442, 64, 443] (by decide +kernel) (by decide +kernel)) (by decide +kernel) (by decide) rfl (by decide) (by decide) (rX3_number X), (List.forall_mem_cons.mpr ⟨csOrd_X7_245 l X (by decide), (List.forall_mem_cons.mpr ⟨xCS_V (i := 49) (n := 1) (C := RX4) (k := 3) (mX4_at l X) (xPk_in [480, 481, 482, 60, 483] (by decide +kernel) (by decide +kernel)) (by decide +kernel) (by decide) rfl (by decide) (by decide) (rX4_at X), (List.forall_mem_cons.mpr ⟨xCS_V (i := 53) (n := 3) (C := RX5) (k := 4) (mX5_changeRange l X) (xPk_in [484, 485, 486, 61, 487] (by decide +kernel) (by decide +kernel)) (by decide +kernel) (by decide) rfl (by decide) (by decide) (rX5_changeRange X), (List.forall_mem_cons.mpr ⟨xCS_V (i := 62) (n := 2) (C := RX5) (k := 4) (mX5_changeSetting l X) (xPk_in [488, 489, 490, 61, 491] (by decide +kernel) (by decide +kernel)) (by decide +kernel) (by decide) rfl (by decide) (by decide) (rX5_changeSetting X), (List.forall_mem_cons.mpr ⟨xCS_V (i := 70) (n := 1) (C := RX4) (k := 3) (mX4_changeSignal l X) (xPk_in [509, 510, 511, 60, 512] (by decide +kernel) (by decide +kernel)) (by decide +kernel) (by decide) rfl (by decide) (by decide) (rX4_changeSignal X), (List.forall_mem_cons.mpr ⟨xCS_V (i := 250) (n := 1) (C := RX7) (k := 6) (mX7_hold l X) (xPk_in [513, 515, 9, 59, 516] (by decide +kernel) (by decide +kernel)) (by decide +kernel) (by decide) rfl (by decide) (by decide) (rX7_hold X), (List.forall_mem_cons.mpr ⟨xCS_V (i := 77) (n := 2) (C := RX4) (k := 3) (mX4_changeSetting l X) (xPk_in [517, 518, 519, 60, 520] (by decide +kernel) (by decide +kernel)) (by decide +kernel) (by decide) rfl (by decide) (by decide) (rX4_changeSetting X), (List.forall_mem_cons.mpr ⟨xCS_V (i := 78) (n := 0) (C := RX5) (k := 4) (mX5_renew l X) (xPk_in [530, 531, 532, 61, 533] (by decide +kernel) (by decide +kernel)) (by decide +kernel) (by decide) rfl (by decide) (by decide) (rX5_renew X), (List.forall_mem_cons.mpr ⟨xCS_V (i := 102) (n := 1) (C := RX4) (k := 3) (mX4_pass l X) (xPk_in [534, 535, 536, 60, 537] (by decide +kernel) (by decide +kernel)) (by decide +kernel) (by decide) rfl (by decide) (by decide) (rX4_pass X), (fun _ h => absurd h List.not_mem_nil)⟩)⟩)⟩)⟩)⟩)⟩)⟩)⟩)⟩)⟩))
    (xNoNew (by decide +kernel))
    (fun as σ q h => by
      unfold fX7_carryOut at h
      split at h
      · exact Nat.le_of_ble_eq_true rfl
      · cases h)
    (fun as σ r σ' h => by
      unfold fX7_carryOut at h
      split at h
      · exact ⟨100000, h⟩
      · cases h)
def tX7_runCommands : List XE := [(0, .aload_n 0, 1, 0, 0, []), (1, .getfield 29, 3, 6, 3, []), (4, .invokevirtual 178, 3, 356, 0, []), (7, .istore_n 1, 1, 0, 0, []), (8, .iload_n 1, 1, 0, 0, []), (9, .iconst (-1), 1, 0, 0, []), (10, .if_icmp .eq 8, 3, 18, 0, []), (13, .bipush (-10), 2, 0, 0, []), (15, .iload_n 1, 1, 0, 0, []), (16, .isub, 1, 0, 0, []), (17, .ireturn, 1, 0, 0, []), (18, .aload_n 0, 1, 0, 0, []), (19, .getfield 22, 3, 6, 2, []), (22, .aload_n 0, 1, 0, 0, []), (23, .getfield 10, 3, 6, 0, []), (26, .invokevirtual 45, 3, 90, 0, []), (29, .aload_n 0, 1, 0, 0, []), (30, .getfield 29, 3, 6, 3, []), (33, .invokevirtual 181, 3, 362, 0, []), (36, .iconst 0, 1, 0, 0, []), (37, .istore_n 2, 1, 0, 0, []), (38, .iload_n 2, 1, 0, 0, []), (39, .sipush 150, 3, 0, 0, []), (42, .if_icmp .ge 47, 3, 89, 0, []), (45, .aload_n 0, 1, 0, 0, []), (46, .getfield 29, 3, 6, 3, []), (49, .invokevirtual 184, 3, 368, 0, []), (52, .ifCond .eq 37, 3, 89, 0, []), (55, .aload_n 0, 1, 0, 0, []), (56, .getfield 29, 3, 6, 3, []), (59, .getfield 187, 3, 2, 5, []), (62, .astore_n 3, 1, 0, 0, []), (63, .aload_n 3, 1, 0, 0, []), (64, .ifnull 25, 3, 89, 0, []), (67, .aload_n 0, 1, 0, 0, []), (68, .aload_n 3, 1, 0, 0, []), (69, .invokevirtual 191, 3, 382, 0, []), (72, .ifCond .ne 6, 3, 78, 0, []), (75, .goto 14, 3, 89, 0, []), (78, .aload_n 0, 1, 0, 0, []), (79, .aload_n 3, 1, 0, 0, []), (80, .invokevirtual 195, 3, 390, 0, []), (83, .iinc 2 1, 3, 0, 0, []), (86, .goto (-48), 3, 38, 0, []), (89, .iload_n 2, 1, 0, 0, []), (90, .ireturn, 1, 0, 0, [])]
theorem tX7_runCommands_ok : xTblOK RX7 cX7_runCommands xFX7 4 tX7_runCommands = true := by decide +kernel
abbrev nX7_runCommands (X : Nat × (Nat → Int32)) : List (Nat × Nat × Nat × XS) := [(356, 1, 0, fX3_findFault X), (90, 2, 0, fX2_save X), (362, 1, 0, fX3_rewind X), (368, 1, 0, fX3_next X), (382, 2, 0, fX7_isAllowed X), (390, 2, 0, fX7_carryOut X)]
def fX7_runCommands (X : Nat × (Nat → Int32)) : XS := fun as σ => match as with
  | [.inr (.inr (some (6, a0)))] => xIter X (xEnv (nX7_runCommands X)) (fun _ _ => some none) 0 [(38, [0, 2])] tX7_runCommands 100000 (0, [(0, .inr (.inr (some (6, a0))))], σ, 0)
  | _ => none
theorem rX7_runCommands (X : Nat × (Nat → Int32)) : ∀ as σ q, fX7_runCommands X as σ = some q → ∃ j as', as = xR 6 j :: as' := by
  intro as σ q h
  unfold fX7_runCommands at h
  split at h
  · exact ⟨_, _, rfl⟩
  · cases h
theorem mX7_runCommands (l : Launch) (X : Nat × (Nat → Int32)) : xMet l X yX7_runCommands cX7_runCommands 4 (some .int) 8 0 (fX7_runCommands X) :=
  xMet_of (cl := xEnv (nX7_runCommands X)) (rt := 0) (stops := [(38, [0, 2])]) (tbl := tX7_runCommands) (by decide +kernel) (by decide) tX7_runCommands_ok x_FX7 rfl (xEnv_ok (L := nX7_runCommands X) (List.forall_mem_cons.mpr ⟨xCS_V (i := 178) (n := 0) (C := RX3) (k := 2) (mX3_findFault l X) (xPk_in [320, 321, 322, 64, 323] (by decide +kernel) (by decide +kernel)) (by decide +kernel) (by decide) rfl (by decide) (by decide) (rX3_findFault X), (List.forall_mem_cons.mpr ⟨xCS_V (i := 45) (n := 1) (C := RX2) (k := 1) (mX2_save l X) (xPk_in [409, 410, 411, 63, 412] (by decide +kernel) (by decide +kernel)) (by decide +kernel) (by decide) rfl (by decide) (by decide) (rX2_save X), (List.forall_mem_cons.mpr ⟨xCS_V (i := 181) (n := 0) (C := RX3) (k := 2) (mX3_rewind l X) (xPk_in [434, 325, 326, 64, 327] (by decide +kernel) (by decide +kernel)) (by decide +kernel) (by decide) rfl (by decide) (by decide) (rX3_rewind X), (List.forall_mem_cons.mpr ⟨xCS_V (i := 184) (n := 0) (C := RX3) (k := 2) (mX3_next l X) (xPk_in [435, 329, 330, 64, 331] (by decide +kernel) (by decide +kernel)) (by decide +kernel) (by decide) rfl (by decide) (by decide) (rX3_next X), (List.forall_mem_cons.mpr ⟨xCS_V (i := 191) (n := 1) (C := RX7) (k := 6) (mX7_isAllowed l X) (xPk_in [436, 438, 6, 59, 439] (by decide +kernel) (by decide +kernel)) (by decide +kernel) (by decide) rfl (by decide) (by decide) (rX7_isAllowed X), (List.forall_mem_cons.mpr ⟨xCS_V (i := 195) (n := 1) (C := RX7) (k := 6) (mX7_carryOut l X) (xPk_in [476, 478, 8, 59, 479] (by decide +kernel) (by decide +kernel)) (by decide +kernel) (by decide) rfl (by decide) (by decide) (rX7_carryOut X), (fun _ h => absurd h List.not_mem_nil)⟩)⟩)⟩)⟩)⟩)⟩))
    (xNoNew (by decide +kernel))
    (fun as σ q h => by
      unfold fX7_runCommands at h
      split at h
      · exact Nat.le_of_ble_eq_true rfl
      · cases h)
    (fun as σ r σ' h => by
      unfold fX7_runCommands at h
      split at h
      · exact ⟨100000, h⟩
      · cases h)
def tX7_undo : List XE := [(0, .aload_n 0, 1, 0, 0, []), (1, .getfield 22, 3, 6, 2, []), (4, .getfield 199, 3, 1, 2, []), (7, .ifCond .ne 13, 3, 20, 0, []), (10, .new 95, 3, 2, 0, []), (13, .dup, 1, 0, 0, []), (14, .ldc 202, 2, 0, 0, []), (16, .invokespecial 99, 3, 0, 0, []), (19, .athrow, 1, 0, 0, []), (20, .aload_n 0, 1, 0, 0, []), (21, .getfield 22, 3, 6, 2, []), (24, .aload_n 0, 1, 0, 0, []), (25, .getfield 10, 3, 6, 0, []), (28, .invokevirtual 204, 3, 408, 0, []), (31, .ireturn, 1, 0, 0, [])]
theorem tX7_undo_ok : xTblOK RX7 cX7_undo xFX7 1 tX7_undo = true := by decide +kernel
abbrev nX7_undo (X : Nat × (Nat → Int32)) : List (Nat × Nat × Nat × XS) := [(408, 2, 0, fX2_restore X)]
def fX7_undo (X : Nat × (Nat → Int32)) : XS := fun as σ => match as with
  | [.inr (.inr (some (6, a0)))] => xIter X (xEnv (nX7_undo X)) (fun _ _ => some none) 0 [] tX7_undo 100000 (0, [(0, .inr (.inr (some (6, a0))))], σ, 1)
  | _ => none
theorem rX7_undo (X : Nat × (Nat → Int32)) : ∀ as σ q, fX7_undo X as σ = some q → ∃ j as', as = xR 6 j :: as' := by
  intro as σ q h
  unfold fX7_undo at h
  split at h
  · exact ⟨_, _, rfl⟩
  · cases h
theorem mX7_undo (l : Launch) (X : Nat × (Nat → Int32)) (hl : l.stackTraces = false) : xMet l X yX7_undo cX7_undo 1 (some .int) 6 1 (fX7_undo X) :=
  xMet_of (cl := xEnv (nX7_undo X)) (rt := 0) (stops := []) (tbl := tX7_undo) (by decide +kernel) (by decide) tX7_undo_ok x_FX7 rfl (xEnv_ok (L := nX7_undo X) (List.forall_mem_cons.mpr ⟨xCS_V (i := 204) (n := 1) (C := RX2) (k := 1) (mX2_restore l X) (xPk_in [870, 871, 872, 63, 873] (by decide +kernel) (by decide +kernel)) (by decide +kernel) (by decide) rfl (by decide) (by decide) (rX2_restore X), (fun _ h => absurd h List.not_mem_nil)⟩))
    (fun en hen hi => by
    intro G p e R s m args below meth c C0 h1 h2 h3 h4 ht
    intro _
    have hq : en = (10, .new 95, 3, 2, 0, []) := xOneNew (tbl := tX7_undo) rfl hen hi
    subst hq
    exact xThr_S hl C0 (by decide) h1 h2 h3 h4 ht (is := 202) (ic := 99) (E := 2) (text := "no state is saved") (by decide +kernel) (xPk_in [747] (ws := [.classLink RX7 95 (xXN 2)]) (by decide +kernel) (by decide +kernel) _ List.mem_cons_self) (xPk_in [73] (ws := [.initialized (xXN 2)]) (by decide +kernel) (by decide +kernel) _ List.mem_cons_self) (by decide +kernel) (by decide +kernel) (by decide +kernel) (by decide +kernel) (by decide +kernel) (by decide +kernel) (by decide +kernel) (by decide +kernel) (by decide +kernel))
    (fun as σ q h => by
      unfold fX7_undo at h
      split at h
      · exact Nat.le_of_ble_eq_true rfl
      · cases h)
    (fun as σ r σ' h => by
      unfold fX7_undo at h
      split at h
      · exact ⟨100000, h⟩
      · cases h)
def tX7_digestValve : List XE := [(0, .lload_n 1, 1, 0, 0, []), (1, .lstore 4, 2, 0, 0, []), (3, .iconst 0, 1, 0, 0, []), (4, .istore 6, 2, 0, 0, []), (6, .iload 6, 2, 0, 0, []), (8, .bipush 21, 2, 0, 0, []), (10, .if_icmp .ge 39, 3, 49, 0, []), (13, .ldc2_w 210, 3, 31, 0, []), (16, .lload 4, 2, 0, 0, []), (18, .lmul, 1, 0, 0, []), (19, .aload_n 0, 1, 0, 0, []), (20, .getfield 10, 3, 6, 0, []), (23, .iload_n 3, 1, 0, 0, []), (24, .invokevirtual 49, 3, 98, 0, []), (27, .iload 6, 2, 0, 0, []), (29, .aload_n 0, 1, 0, 0, []), (30, .getfield 10, 3, 6, 0, []), (33, .getfield 105, 3, 3, 3, []), (36, .invokevirtual 109, 3, 218, 0, []), (39, .i2l, 1, 0, 0, []), (40, .ladd, 1, 0, 0, []), (41, .lstore 4, 2, 0, 0, []), (43, .iinc 6 1, 3, 0, 0, []), (46, .goto (-40), 3, 6, 0, []), (49, .iconst 2, 1, 0, 0, []), (50, .istore 6, 2, 0, 0, []), (52, .iload 6, 2, 0, 0, []), (54, .iconst 4, 1, 0, 0, []), (55, .if_icmp .gt 32, 3, 87, 0, []), (58, .ldc2_w 210, 3, 31, 0, []), (61, .lload 4, 2, 0, 0, []), (63, .lmul, 1, 0, 0, []), (64, .aload_n 0, 1, 0, 0, []), (65, .getfield 10, 3, 6, 0, []), (68, .getfield 116, 3, 3, 2, []), (71, .iload_n 3, 1, 0, 0, []), (72, .iload 6, 2, 0, 0, []), (74, .invokevirtual 123, 3, 246, 0, []), (77, .i2l, 1, 0, 0, []), (78, .ladd, 1, 0, 0, []), (79, .lstore 4, 2, 0, 0, []), (81, .iinc 6 1, 3, 0, 0, []), (84, .goto (-32), 3, 52, 0, []), (87, .lload 4, 2, 0, 0, []), (89, .lreturn, 1, 0, 0, [])]
theorem tX7_digestValve_ok : xTblOK RX7 cX7_digestValve xFX7 7 tX7_digestValve = true := by decide +kernel
abbrev nX7_digestValve (X : Nat × (Nat → Int32)) : List (Nat × Nat × Nat × XS) := [(98, 2, 0, fX4_at X), (218, 3, 0, fX5_value X), (246, 3, 0, fX1_sum X)]
def fX7_digestValve (X : Nat × (Nat → Int32)) : XS := fun as σ => match as with
  | [.inr (.inr (some (6, a0))), .inr (.inl a1), .inl a2] => xIter X (xEnv (nX7_digestValve X)) (fun _ _ => some none) 2 [(6, [0, 3, 4, 6]), (52, [0, 3, 4, 6])] tX7_digestValve 100000 (0, [(0, .inr (.inr (some (6, a0)))), (1, .inr (.inl a1)), (3, .inl a2)], σ, 0)
  | _ => none
theorem rX7_digestValve (X : Nat × (Nat → Int32)) : ∀ as σ q, fX7_digestValve X as σ = some q → ∃ j as', as = xR 6 j :: as' := by
  intro as σ q h
  unfold fX7_digestValve at h
  split at h
  · exact ⟨_, _, rfl⟩
  · cases h
theorem mX7_digestValve (l : Launch) (X : Nat × (Nat → Int32)) : xMet l X yX7_digestValve cX7_digestValve 7 (some .long) 4 0 (fX7_digestValve X) :=
  xMet_of (cl := xEnv (nX7_digestValve X)) (rt := 2) (stops := [(6, [0, 3, 4, 6]), (52, [0, 3, 4, 6])]) (tbl := tX7_digestValve) (by decide +kernel) (by decide) tX7_digestValve_ok x_FX7 rfl (xEnv_ok (L := nX7_digestValve X) (List.forall_mem_cons.mpr ⟨xCS_V (i := 49) (n := 1) (C := RX4) (k := 3) (mX4_at l X) (xPk_in [480, 481, 482, 60, 483] (by decide +kernel) (by decide +kernel)) (by decide +kernel) (by decide) rfl (by decide) (by decide) (rX4_at X), (List.forall_mem_cons.mpr ⟨xCS_V (i := 109) (n := 2) (C := RX5) (k := 4) (mX5_value l X) (xPk_in [589, 493, 494, 61, 495] (by decide +kernel) (by decide +kernel)) (by decide +kernel) (by decide) rfl (by decide) (by decide) (rX5_value X), (List.forall_mem_cons.mpr ⟨xCS_V (i := 123) (n := 2) (C := RX1) (k := 0) (mX1_sum l X) (xPk_in [590, 591, 592, 62, 593] (by decide +kernel) (by decide +kernel)) (by decide +kernel) (by decide) rfl (by decide) (by decide) (rX1_sum X), (fun _ h => absurd h List.not_mem_nil)⟩)⟩)⟩))
    (xNoNew (by decide +kernel))
    (fun as σ q h => by
      unfold fX7_digestValve at h
      split at h
      · exact Nat.le_of_ble_eq_true rfl
      · cases h)
    (fun as σ r σ' h => by
      unfold fX7_digestValve at h
      split at h
      · exact ⟨100000, h⟩
      · cases h)
def tX7_digest : List XE := [(0, .ldc2_w 208, 3, 43183, 0, []), (3, .lstore_n 1, 1, 0, 0, []), (4, .ldc2_w 210, 3, 31, 0, []), (7, .lload_n 1, 1, 0, 0, []), (8, .lmul, 1, 0, 0, []), (9, .aload_n 0, 1, 0, 0, []), (10, .getfield 22, 3, 6, 2, []), (13, .getfield 199, 3, 1, 2, []), (16, .i2l, 1, 0, 0, []), (17, .ladd, 1, 0, 0, []), (18, .lstore_n 1, 1, 0, 0, []), (19, .ldc2_w 210, 3, 31, 0, []), (22, .lload_n 1, 1, 0, 0, []), (23, .lmul, 1, 0, 0, []), (24, .aload_n 0, 1, 0, 0, []), (25, .getfield 29, 3, 6, 3, []), (28, .getfield 212, 3, 2, 2, []), (31, .i2l, 1, 0, 0, []), (32, .ladd, 1, 0, 0, []), (33, .lstore_n 1, 1, 0, 0, []), (34, .iconst 0, 1, 0, 0, []), (35, .istore_n 3, 1, 0, 0, []), (36, .iload_n 3, 1, 0, 0, []), (37, .bipush 12, 2, 0, 0, []), (39, .if_icmp .ge 25, 3, 64, 0, []), (42, .ldc2_w 210, 3, 31, 0, []), (45, .lload_n 1, 1, 0, 0, []), (46, .lmul, 1, 0, 0, []), (47, .aload_n 0, 1, 0, 0, []), (48, .getfield 10, 3, 6, 0, []), (51, .iload_n 3, 1, 0, 0, []), (52, .invokevirtual 112, 3, 224, 0, []), (55, .i2l, 1, 0, 0, []), (56, .ladd, 1, 0, 0, []), (57, .lstore_n 1, 1, 0, 0, []), (58, .iinc 3 1, 3, 0, 0, []), (61, .goto (-25), 3, 36, 0, []), (64, .iconst 0, 1, 0, 0, []), (65, .istore_n 3, 1, 0, 0, []), (66, .iload_n 3, 1, 0, 0, []), (67, .iconst 2, 1, 0, 0, []), (68, .if_icmp .ge 16, 3, 84, 0, []), (71, .aload_n 0, 1, 0, 0, []), (72, .lload_n 1, 1, 0, 0, []), (73, .iload_n 3, 1, 0, 0, []), (74, .invokevirtual 215, 3, 430, 0, []), (77, .lstore_n 1, 1, 0, 0, []), (78, .iinc 3 1, 3, 0, 0, []), (81, .goto (-15), 3, 66, 0, []), (84, .iconst 0, 1, 0, 0, []), (85, .istore_n 3, 1, 0, 0, []), (86, .iload_n 3, 1, 0, 0, []), (87, .aload_n 0, 1, 0, 0, []), (88, .getfield 10, 3, 6, 0, []), (91, .getfield 116, 3, 3, 2, []), (94, .getfield 219, 3, 0, 1, []), (97, .if_icmp .ge 45, 3, 142, 0, []), (100, .iconst 0, 1, 0, 0, []), (101, .istore 4, 2, 0, 0, []), (103, .iload 4, 2, 0, 0, []), (105, .iconst 4, 1, 0, 0, []), (106, .if_icmp .gt 30, 3, 136, 0, []), (109, .ldc2_w 210, 3, 31, 0, []), (112, .lload_n 1, 1, 0, 0, []), (113, .lmul, 1, 0, 0, []), (114, .aload_n 0, 1, 0, 0, []), (115, .getfield 10, 3, 6, 0, []), (118, .getfield 116, 3, 3, 2, []), (121, .iload_n 3, 1, 0, 0, []), (122, .iload 4, 2, 0, 0, []), (124, .invokevirtual 120, 3, 240, 0, []), (127, .i2l, 1, 0, 0, []), (128, .ladd, 1, 0, 0, []), (129, .lstore_n 1, 1, 0, 0, []), (130, .iinc 4 1, 3, 0, 0, []), (133, .goto (-30), 3, 103, 0, []), (136, .iinc 3 1, 3, 0, 0, []), (139, .goto (-53), 3, 86, 0, []), (142, .ldc2_w 210, 3, 31, 0, []), (145, .lload_n 1, 1, 0, 0, []), (146, .lmul, 1, 0, 0, []), (147, .aload_n 0, 1, 0, 0, []), (148, .getfield 10, 3, 6, 0, []), (151, .invokevirtual 140, 3, 280, 0, []), (154, .i2l, 1, 0, 0, []), (155, .ladd, 1, 0, 0, []), (156, .lstore_n 1, 1, 0, 0, []), (157, .ldc2_w 210, 3, 31, 0, []), (160, .lload_n 1, 1, 0, 0, []), (161, .lmul, 1, 0, 0, []), (162, .aload_n 0, 1, 0, 0, []), (163, .getfield 10, 3, 6, 0, []), (166, .invokevirtual 143, 3, 286, 0, []), (169, .i2l, 1, 0, 0, []), (170, .ladd, 1, 0, 0, []), (171, .lreturn, 1, 0, 0, [])]
theorem tX7_digest_ok : xTblOK RX7 cX7_digest xFX7 5 tX7_digest = true := by decide +kernel
abbrev nX7_digest (X : Nat × (Nat → Int32)) : List (Nat × Nat × Nat × XS) := [(224, 2, 0, fX4_value X), (430, 3, 0, fX7_digestValve X), (240, 3, 0, fX1_cell X), (280, 1, 0, fX4_countFlat X), (286, 1, 0, fX4_findFall X)]
def fX7_digest (X : Nat × (Nat → Int32)) : XS := fun as σ => match as with
  | [.inr (.inr (some (6, a0)))] => xIter X (xEnv (nX7_digest X)) (fun _ _ => some none) 2 [(36, [0, 1, 3]), (66, [0, 1, 3]), (86, [0, 1, 3]), (103, [0, 1, 3, 4])] tX7_digest 100000 (0, [(0, .inr (.inr (some (6, a0))))], σ, 0)
  | _ => none
theorem rX7_digest (X : Nat × (Nat → Int32)) : ∀ as σ q, fX7_digest X as σ = some q → ∃ j as', as = xR 6 j :: as' := by
  intro as σ q h
  unfold fX7_digest at h
  split at h
  · exact ⟨_, _, rfl⟩
  · cases h
theorem mX7_digest (l : Launch) (X : Nat × (Nat → Int32)) : xMet l X yX7_digest cX7_digest 5 (some .long) 5 0 (fX7_digest X) :=
  xMet_of (cl := xEnv (nX7_digest X)) (rt := 2) (stops := [(36, [0, 1, 3]), (66, [0, 1, 3]), (86, [0, 1, 3]), (103, [0, 1, 3, 4])]) (tbl := tX7_digest) (by decide +kernel) (by decide) tX7_digest_ok x_FX7 rfl (xEnv_ok (L := nX7_digest X) (List.forall_mem_cons.mpr ⟨xCS_V (i := 112) (n := 1) (C := RX4) (k := 3) (mX4_value l X) (xPk_in [584, 522, 523, 60, 524] (by decide +kernel) (by decide +kernel)) (by decide +kernel) (by decide) rfl (by decide) (by decide) (rX4_value X), (List.forall_mem_cons.mpr ⟨xCS_V (i := 215) (n := 2) (C := RX7) (k := 6) (mX7_digestValve l X) (xPk_in [585, 587, 13, 59, 588] (by decide +kernel) (by decide +kernel)) (by decide +kernel) (by decide) rfl (by decide) (by decide) (rX7_digestValve X), (List.forall_mem_cons.mpr ⟨xCS_V (i := 120) (n := 2) (C := RX1) (k := 0) (mX1_cell l X) (xPk_in [600, 595, 596, 62, 597] (by decide +kernel) (by decide +kernel)) (by decide +kernel) (by decide) rfl (by decide) (by decide) (rX1_cell X), (List.forall_mem_cons.mpr ⟨xCS_V (i := 140) (n := 0) (C := RX4) (k := 3) (mX4_countFlat l X) (xPk_in [278, 279, 280, 60, 281] (by decide +kernel) (by decide +kernel)) (by decide +kernel) (by decide) rfl (by decide) (by decide) (rX4_countFlat X), (List.forall_mem_cons.mpr ⟨xCS_V (i := 143) (n := 0) (C := RX4) (k := 3) (mX4_findFall l X) (xPk_in [290, 291, 292, 60, 293] (by decide +kernel) (by decide +kernel)) (by decide +kernel) (by decide) rfl (by decide) (by decide) (rX4_findFall X), (fun _ h => absurd h List.not_mem_nil)⟩)⟩)⟩)⟩)⟩))
    (xNoNew (by decide +kernel))
    (fun as σ q h => by
      unfold fX7_digest at h
      split at h
      · exact Nat.le_of_ble_eq_true rfl
      · cases h)
    (fun as σ r σ' h => by
      unfold fX7_digest at h
      split at h
      · exact ⟨100000, h⟩
      · cases h)
