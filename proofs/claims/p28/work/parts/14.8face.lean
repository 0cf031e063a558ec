/-! ===== contracts (written by wip/whole/gen/contracts.py) ===== -/
def tX7_isValve : List XE := [(0, .iload_n 0, 1, 0, 0, []), (1, .iconst 0, 1, 0, 0, []), (2, .iconst 1, 1, 0, 0, []), (3, .invokestatic 82, 3, 165, 0, []), (6, .ireturn, 1, 0, 0, [])]
theorem tX7_isValve_ok : xTblOK RX7 cX7_isValve xFX7 1 tX7_isValve = true := by decide +kernel
abbrev nX7_isValve (X : Nat × (Nat → Int32)) : List (Nat × Nat × Nat × XS) := [(165, 3, 0, fX7_within X)]
def fX7_isValve (X : Nat × (Nat → Int32)) : XS := fun as σ => match as with
  | [.inl a0] => xIter X (xEnv (nX7_isValve X)) (fun _ _ => some none) 1 [] tX7_isValve 100000 (0, [(0, .inl a0)], σ, 0)
  | _ => none
theorem mX7_isValve (l : Launch) (X : Nat × (Nat → Int32)) : xMet l X yX7_isValve cX7_isValve 1 (some .boolean) 2 0 (fX7_isValve X) :=
  xMet_of (cl := xEnv (nX7_isValve X)) (rt := 1) (stops := []) (tbl := tX7_isValve) (by decide +kernel) (by decide) tX7_isValve_ok x_FX7 rfl (xEnv_ok (L := nX7_isValve X) (List.forall_mem_cons.mpr ⟨xCS_S (i := 82) (n := 3) (mX7_within l X) (xPk_in [228, 229, 7, 230] (by decide +kernel) (by decide +kernel)) (by decide +kernel) (by decide) (by decide), (fun _ h => absurd h List.not_mem_nil)⟩))
    (xNoNew (by decide +kernel))
    (fun as σ q h => by
      unfold fX7_isValve at h
      split at h
      · exact Nat.le_of_ble_eq_true rfl
      · cases h)
    (fun as σ r σ' h => by
      unfold fX7_isValve at h
      split at h
      · exact ⟨100000, h⟩
      · cases h)
def tX7_refuseUnlessValve : List XE := [(0, .iload_n 0, 1, 0, 0, []), (1, .invokestatic 222, 3, 445, 0, []), (4, .ifCond .ne 13, 3, 17, 0, []), (7, .new 225, 3, 0, 0, []), (10, .dup, 1, 0, 0, []), (11, .ldc 227, 2, 0, 0, []), (13, .invokespecial 229, 3, 0, 0, []), (16, .athrow, 1, 0, 0, []), (17, .return_, 1, 0, 0, [])]
theorem tX7_refuseUnlessValve_ok : xTblOK RX7 cX7_refuseUnlessValve xFX7 1 tX7_refuseUnlessValve = true := by decide +kernel
abbrev nX7_refuseUnlessValve (X : Nat × (Nat → Int32)) : List (Nat × Nat × Nat × XS) := [(445, 1, 0, fX7_isValve X)]
def fX7_refuseUnlessValve (X : Nat × (Nat → Int32)) : XS := fun as σ => match as with
  | [.inl a0] => xIter X (xEnv (nX7_refuseUnlessValve X)) (fun _ _ => some none) 4 [] tX7_refuseUnlessValve 100000 (0, [(0, .inl a0)], σ, 1)
  | _ => none
theorem mX7_refuseUnlessValve (l : Launch) (X : Nat × (Nat → Int32)) (hl : l.stackTraces = false) : xMet l X yX7_refuseUnlessValve cX7_refuseUnlessValve 1 none 6 1 (fX7_refuseUnlessValve X) :=
  xMet_of (cl := xEnv (nX7_refuseUnlessValve X)) (rt := 4) (stops := []) (tbl := tX7_refuseUnlessValve) (by decide +kernel) (by decide) tX7_refuseUnlessValve_ok x_FX7 rfl (xEnv_ok (L := nX7_refuseUnlessValve X) (List.forall_mem_cons.mpr ⟨xCS_S (i := 222) (n := 1) (mX7_isValve l X) (xPk_in [225, 226, 7, 227] (by decide +kernel) (by decide +kernel)) (by decide +kernel) (by decide) (by decide), (fun _ h => absurd h List.not_mem_nil)⟩))
    (fun en hen hi => by
    intro G p e R s m args below meth c C0 h1 h2 h3 h4 ht
    intro _
    have hq : en = (7, .new 225, 3, 0, 0, []) := xOneNew (tbl := tX7_refuseUnlessValve) rfl hen hi
    subst hq
    exact xThr_S hl C0 (by decide) h1 h2 h3 h4 ht (is := 227) (ic := 229) (E := 0) (text := "no such valve") (by decide +kernel) (xPk_in [231] (ws := [.classLink RX7 225 (xXN 0)]) (by decide +kernel) (by decide +kernel) _ List.mem_cons_self) (xPk_in [18] (ws := [.initialized (xXN 0)]) (by decide +kernel) (by decide +kernel) _ List.mem_cons_self) (by decide +kernel) (by decide +kernel) (by decide +kernel) (by decide +kernel) (by decide +kernel) (by decide +kernel) (by decide +kernel) (by decide +kernel) (by decide +kernel))
    (fun as σ q h => by
      unfold fX7_refuseUnlessValve at h
      split at h
      · exact Nat.le_of_ble_eq_true rfl
      · cases h)
    (fun as σ r σ' h => by
      unfold fX7_refuseUnlessValve at h
      split at h
      · exact ⟨100000, h⟩
      · cases h)
def tX7_isRange : List XE := [(0, .iload_n 0, 1, 0, 0, []), (1, .ifCond .lt 19, 3, 20, 0, []), (4, .iload_n 0, 1, 0, 0, []), (5, .iload_n 1, 1, 0, 0, []), (6, .if_icmp .ge 14, 3, 20, 0, []), (9, .iload_n 1, 1, 0, 0, []), (10, .sipush 1000, 3, 0, 0, []), (13, .if_icmp .gt 7, 3, 20, 0, []), (16, .iconst 1, 1, 0, 0, []), (17, .goto 4, 3, 21, 0, []), (20, .iconst 0, 1, 0, 0, []), (21, .ireturn, 1, 0, 0, [])]
theorem tX7_isRange_ok : xTblOK RX7 cX7_isRange xFX7 2 tX7_isRange = true := by decide +kernel
abbrev nX7_isRange (X : Nat × (Nat → Int32)) : List (Nat × Nat × Nat × XS) := []
def fX7_isRange (X : Nat × (Nat → Int32)) : XS := fun as σ => match as with
  | [.inl a0, .inl a1] => xIter X (xEnv (nX7_isRange X)) (fun _ _ => some none) 1 [] tX7_isRange 100000 (0, [(0, .inl a0), (1, .inl a1)], σ, 0)
  | _ => none
theorem mX7_isRange (l : Launch) (X : Nat × (Nat → Int32)) : xMet l X yX7_isRange cX7_isRange 2 (some .boolean) 1 0 (fX7_isRange X) :=
  xMet_of (cl := xEnv (nX7_isRange X)) (rt := 1) (stops := []) (tbl := tX7_isRange) (by decide +kernel) (by decide) tX7_isRange_ok x_FX7 rfl (xEnv_ok (L := nX7_isRange X) (fun _ h => absurd h List.not_mem_nil))
    (xNoNew (by decide +kernel))
    (fun as σ q h => by
      unfold fX7_isRange at h
      split at h
      · exact Nat.le_of_ble_eq_true rfl
      · cases h)
    (fun as σ r σ' h => by
      unfold fX7_isRange at h
      split at h
      · exact ⟨100000, h⟩
      · cases h)
def tX7_refuseUnless : List XE := [(0, .iload_n 0, 1, 0, 0, []), (1, .ifCond .ne 13, 3, 14, 0, []), (4, .new 230, 3, 1, 0, []), (7, .dup, 1, 0, 0, []), (8, .ldc 232, 2, 0, 0, []), (10, .invokespecial 234, 3, 0, 0, []), (13, .athrow, 1, 0, 0, []), (14, .return_, 1, 0, 0, [])]
theorem tX7_refuseUnless_ok : xTblOK RX7 cX7_refuseUnless xFX7 1 tX7_refuseUnless = true := by decide +kernel
abbrev nX7_refuseUnless (X : Nat × (Nat → Int32)) : List (Nat × Nat × Nat × XS) := []
def fX7_refuseUnless (X : Nat × (Nat → Int32)) : XS := fun as σ => match as with
  | [.inl a0] => xIter X (xEnv (nX7_refuseUnless X)) (fun _ _ => some none) 4 [] tX7_refuseUnless 100000 (0, [(0, .inl a0)], σ, 1)
  | _ => none
theorem mX7_refuseUnless (l : Launch) (X : Nat × (Nat → Int32)) (hl : l.stackTraces = false) : xMet l X yX7_refuseUnless cX7_refuseUnless 1 none 6 1 (fX7_refuseUnless X) :=
  xMet_of (cl := xEnv (nX7_refuseUnless X)) (rt := 4) (stops := []) (tbl := tX7_refuseUnless) (by decide +kernel) (by decide) tX7_refuseUnless_ok x_FX7 rfl (xEnv_ok (L := nX7_refuseUnless X) (fun _ h => absurd h List.not_mem_nil))
    (fun en hen hi => by
    intro G p e R s m args below meth c C0 h1 h2 h3 h4 ht
    intro _
    have hq : en = (4, .new 230, 3, 1, 0, []) := xOneNew (tbl := tX7_refuseUnless) rfl hen hi
    subst hq
    exact xThr_S hl C0 (by decide) h1 h2 h3 h4 ht (is := 232) (ic := 234) (E := 1) (text := "out of range") (by decide +kernel) (xPk_in [305] (ws := [.classLink RX7 230 (xXN 1)]) (by decide +kernel) (by decide +kernel) _ List.mem_cons_self) (xPk_in [16] (ws := [.initialized (xXN 1)]) (by decide +kernel) (by decide +kernel) _ List.mem_cons_self) (by decide +kernel) (by decide +kernel) (by decide +kernel) (by decide +kernel) (by decide +kernel) (by decide +kernel) (by decide +kernel) (by decide +kernel) (by decide +kernel))
    (fun as σ q h => by
      unfold fX7_refuseUnless at h
      split at h
      · exact Nat.le_of_ble_eq_true rfl
      · cases h)
    (fun as σ r σ' h => by
      unfold fX7_refuseUnless at h
      split at h
      · exact ⟨100000, h⟩
      · cases h)
def tX7_setRange : List XE := [(0, .iload_n 1, 1, 0, 0, []), (1, .invokestatic 33, 3, 67, 0, []), (4, .iload_n 2, 1, 0, 0, []), (5, .iload_n 3, 1, 0, 0, []), (6, .invokestatic 37, 3, 75, 0, []), (9, .invokestatic 41, 3, 83, 0, []), (12, .aload_n 0, 1, 0, 0, []), (13, .getfield 22, 3, 6, 2, []), (16, .aload_n 0, 1, 0, 0, []), (17, .getfield 10, 3, 6, 0, []), (20, .invokevirtual 45, 3, 90, 0, []), (23, .aload_n 0, 1, 0, 0, []), (24, .getfield 10, 3, 6, 0, []), (27, .iload_n 1, 1, 0, 0, []), (28, .invokevirtual 49, 3, 98, 0, []), (31, .iload_n 2, 1, 0, 0, []), (32, .iload_n 3, 1, 0, 0, []), (33, .iload 4, 2, 0, 0, []), (35, .invokevirtual 53, 3, 106, 0, []), (38, .ireturn, 1, 0, 0, [])]
theorem tX7_setRange_ok : xTblOK RX7 cX7_setRange xFX7 5 tX7_setRange = true := by decide +kernel
abbrev nX7_setRange (X : Nat × (Nat → Int32)) : List (Nat × Nat × Nat × XS) := [(67, 1, 1, fX7_refuseUnlessValve X), (75, 2, 0, fX7_isRange X), (83, 1, 1, fX7_refuseUnless X), (90, 2, 0, fX2_save X), (98, 2, 0, fX4_at X), (106, 4, 0, fX5_changeRange X)]
def fX7_setRange (X : Nat × (Nat → Int32)) : XS := fun as σ => match as with
  | [.inr (.inr (some (6, a0))), .inl a1, .inl a2, .inl a3, .inl a4] => xIter X (xEnv (nX7_setRange X)) (fun _ _ => some none) 0 [] tX7_setRange 100000 (0, [(0, .inr (.inr (some (6, a0)))), (1, .inl a1), (2, .inl a2), (3, .inl a3), (4, .inl a4)], σ, 2)
  | _ => none
theorem rX7_setRange (X : Nat × (Nat → Int32)) : ∀ as σ q, fX7_setRange X as σ = some q → ∃ j as', as = xR 6 j :: as' := by
  intro as σ q h
  unfold fX7_setRange at h
  split at h
  · exact ⟨_, _, rfl⟩
  · cases h
theorem mX7_setRange (l : Launch) (X : Nat × (Nat → Int32)) (hl : l.stackTraces = false) : xMet l X yX7_setRange cX7_setRange 5 (some .int) 7 2 (fX7_setRange X) :=
  xMet_of (cl := xEnv (nX7_setRange X)) (rt := 0) (stops := []) (tbl := tX7_setRange) (by decide +kernel) (by decide) tX7_setRange_ok x_FX7 rfl (xEnv_ok (L := nX7_setRange X) (List.forall_mem_cons.mpr ⟨xCS_S (i := 33) (n := 1) (mX7_refuseUnlessValve l X hl) (xPk_in [222, 223, 7, 224] (by decide +kernel) (by decide +kernel)) (by decide +kernel) (by decide) (by decide), (List.forall_mem_cons.mpr ⟨xCS_S (i := 37) (n := 2) (mX7_isRange l X) (xPk_in [299, 300, 7, 301] (by decide +kernel) (by decide +kernel)) (by decide +kernel) (by decide) (by decide), (List.forall_mem_cons.mpr ⟨xCS_S (i := 41) (n := 1) (mX7_refuseUnless l X hl) (xPk_in [302, 303, 7, 304] (by decide +kernel) (by decide +kernel)) (by decide +kernel) (by decide) (by decide), (List.forall_mem_cons.mpr ⟨xCS_V (i := 45) (n := 1) (C := RX2) (k := 1) (mX2_save l X) (xPk_in [321, 322, 323, 11, 324] (by decide +kernel) (by decide +kernel)) (by decide +kernel) (by decide) rfl (by decide) (by decide) (rX2_save X), (List.forall_mem_cons.mpr ⟨xCS_V (i := 49) (n := 1) (C := RX4) (k := 3) (mX4_at l X) (xPk_in [346, 347, 348, 8, 349] (by decide +kernel) (by decide +kernel)) (by decide +kernel) (by decide) rfl (by decide) (by decide) (rX4_at X), (List.forall_mem_cons.mpr ⟨xCS_V (i := 53) (n := 3) (C := RX5) (k := 4) (mX5_changeRange l X) (xPk_in [350, 351, 352, 9, 353] (by decide +kernel) (by decide +kernel)) (by decide +kernel) (by decide) rfl (by decide) (by decide) (rX5_changeRange X), (fun _ h => absurd h List.not_mem_nil)⟩)⟩)⟩)⟩)⟩)⟩))
    (xNoNew (by decide +kernel))
    (fun as σ q h => by
      unfold fX7_setRange at h
      split at h
      · exact Nat.le_of_ble_eq_true rfl
      · cases h)
    (fun as σ r σ' h => by
      unfold fX7_setRange at h
      split at h
      · exact ⟨100000, h⟩
      · cases h)
def tX7_isValveSetting : List XE := [(0, .iload_n 0, 1, 0, 0, []), (1, .tableswitch 78 0 4 #[35, 44, 53, 62, 71], 35, 79, 0, [(0, 36), (1, 45), (2, 54), (3, 63), (4, 72)]), (36, .iload_n 1, 1, 0, 0, []), (37, .iconst 1, 1, 0, 0, []), (38, .sipush 1000, 3, 0, 0, []), (41, .invokestatic 82, 3, 165, 0, []), (44, .ireturn, 1, 0, 0, []), (45, .iload_n 1, 1, 0, 0, []), (46, .iconst 0, 1, 0, 0, []), (47, .sipush 300, 3, 0, 0, []), (50, .invokestatic 82, 3, 165, 0, []), (53, .ireturn, 1, 0, 0, []), (54, .iload_n 1, 1, 0, 0, []), (55, .iconst 0, 1, 0, 0, []), (56, .sipush 300, 3, 0, 0, []), (59, .invokestatic 82, 3, 165, 0, []), (62, .ireturn, 1, 0, 0, []), (63, .iload_n 1, 1, 0, 0, []), (64, .iconst 0, 1, 0, 0, []), (65, .sipush 1000, 3, 0, 0, []), (68, .invokestatic 82, 3, 165, 0, []), (71, .ireturn, 1, 0, 0, []), (72, .iload_n 1, 1, 0, 0, []), (73, .iconst 0, 1, 0, 0, []), (74, .iconst 2, 1, 0, 0, []), (75, .invokestatic 82, 3, 165, 0, []), (78, .ireturn, 1, 0, 0, []), (79, .iconst 0, 1, 0, 0, []), (80, .ireturn, 1, 0, 0, [])]
theorem tX7_isValveSetting_ok : xTblOK RX7 cX7_isValveSetting xFX7 2 tX7_isValveSetting = true := by decide +kernel
abbrev nX7_isValveSetting (X : Nat × (Nat → Int32)) : List (Nat × Nat × Nat × XS) := [(165, 3, 0, fX7_within X)]
def fX7_isValveSetting (X : Nat × (Nat → Int32)) : XS := fun as σ => match as with
  | [.inl a0, .inl a1] => xIter X (xEnv (nX7_isValveSetting X)) (fun _ _ => some none) 1 [] tX7_isValveSetting 100000 (0, [(0, .inl a0), (1, .inl a1)], σ, 0)
  | _ => none
theorem mX7_isValveSetting (l : Launch) (X : Nat × (Nat → Int32)) : xMet l X yX7_isValveSetting cX7_isValveSetting 2 (some .boolean) 2 0 (fX7_isValveSetting X) :=
  xMet_of (cl := xEnv (nX7_isValveSetting X)) (rt := 1) (stops := []) (tbl := tX7_isValveSetting) (by decide +kernel) (by decide) tX7_isValveSetting_ok x_FX7 rfl (xEnv_ok (L := nX7_isValveSetting X) (List.forall_mem_cons.mpr ⟨xCS_S (i := 82) (n := 3) (mX7_within l X) (xPk_in [228, 229, 7, 230] (by decide +kernel) (by decide +kernel)) (by decide +kernel) (by decide) (by decide), (fun _ h => absurd h List.not_mem_nil)⟩))
    (xNoNew (by decide +kernel))
    (fun as σ q h => by
      unfold fX7_isValveSetting at h
      split at h
      · exact Nat.le_of_ble_eq_true rfl
      · cases h)
    (fun as σ r σ' h => by
      unfold fX7_isValveSetting at h
      split at h
      · exact ⟨100000, h⟩
      · cases h)
def tX7_setValve : List XE := [(0, .iload_n 1, 1, 0, 0, []), (1, .invokestatic 33, 3, 67, 0, []), (4, .iload_n 2, 1, 0, 0, []), (5, .iload_n 3, 1, 0, 0, []), (6, .invokestatic 59, 3, 119, 0, []), (9, .invokestatic 41, 3, 83, 0, []), (12, .aload_n 0, 1, 0, 0, []), (13, .getfield 22, 3, 6, 2, []), (16, .aload_n 0, 1, 0, 0, []), (17, .getfield 10, 3, 6, 0, []), (20, .invokevirtual 45, 3, 90, 0, []), (23, .aload_n 0, 1, 0, 0, []), (24, .getfield 10, 3, 6, 0, []), (27, .iload_n 1, 1, 0, 0, []), (28, .invokevirtual 49, 3, 98, 0, []), (31, .iload_n 2, 1, 0, 0, []), (32, .iload_n 3, 1, 0, 0, []), (33, .invokevirtual 62, 3, 124, 0, []), (36, .ireturn, 1, 0, 0, [])]
theorem tX7_setValve_ok : xTblOK RX7 cX7_setValve xFX7 4 tX7_setValve = true := by decide +kernel
abbrev nX7_setValve (X : Nat × (Nat → Int32)) : List (Nat × Nat × Nat × XS) := [(67, 1, 1, fX7_refuseUnlessValve X), (119, 2, 0, fX7_isValveSetting X), (83, 1, 1, fX7_refuseUnless X), (90, 2, 0, fX2_save X), (98, 2, 0, fX4_at X), (124, 3, 0, fX5_changeSetting X)]
def fX7_setValve (X : Nat × (Nat → Int32)) : XS := fun as σ => match as with
  | [.inr (.inr (some (6, a0))), .inl a1, .inl a2, .inl a3] => xIter X (xEnv (nX7_setValve X)) (fun _ _ => some none) 0 [] tX7_setValve 100000 (0, [(0, .inr (.inr (some (6, a0)))), (1, .inl a1), (2, .inl a2), (3, .inl a3)], σ, 2)
  | _ => none
theorem rX7_setValve (X : Nat × (Nat → Int32)) : ∀ as σ q, fX7_setValve X as σ = some q → ∃ j as', as = xR 6 j :: as' := by
  intro as σ q h
  unfold fX7_setValve at h
  split at h
  · exact ⟨_, _, rfl⟩
  · cases h
theorem mX7_setValve (l : Launch) (X : Nat × (Nat → Int32)) (hl : l.stackTraces = false) : xMet l X yX7_setValve cX7_setValve 4 (some .int) 7 2 (fX7_setValve X) :=
  xMet_of (cl := xEnv (nX7_setValve X)) (rt := 0) (stops := []) (tbl := tX7_setValve) (by decide +kernel) (by decide) tX7_setValve_ok x_FX7 rfl (xEnv_ok (L := nX7_setValve X) (List.forall_mem_cons.mpr ⟨xCS_S (i := 33) (n := 1) (mX7_refuseUnlessValve l X hl) (xPk_in [222, 223, 7, 224] (by decide +kernel) (by decide +kernel)) (by decide +kernel) (by decide) (by decide), (List.forall_mem_cons.mpr ⟨xCS_S (i := 59) (n := 2) (mX7_isValveSetting l X) (xPk_in [363, 364, 7, 365] (by decide +kernel) (by decide +kernel)) (by decide +kernel) (by decide) (by decide), (List.forall_mem_cons.mpr ⟨xCS_S (i := 41) (n := 1) (mX7_refuseUnless l X hl) (xPk_in [302, 303, 7, 304] (by decide +kernel) (by decide +kernel)) (by decide +kernel) (by decide) (by decide), (List.forall_mem_cons.mpr ⟨xCS_V (i := 45) (n := 1) (C := RX2) (k := 1) (mX2_save l X) (xPk_in [321, 322, 323, 11, 324] (by decide +kernel) (by decide +kernel)) (by decide +kernel) (by decide) rfl (by decide) (by decide) (rX2_save X), (List.forall_mem_cons.mpr ⟨xCS_V (i := 49) (n := 1) (C := RX4) (k := 3) (mX4_at l X) (xPk_in [346, 347, 348, 8, 349] (by decide +kernel) (by decide +kernel)) (by decide +kernel) (by decide) rfl (by decide) (by decide) (rX4_at X), (List.forall_mem_cons.mpr ⟨xCS_V (i := 62) (n := 2) (C := RX5) (k := 4) (mX5_changeSetting l X) (xPk_in [366, 367, 368, 9, 369] (by decide +kernel) (by decide +kernel)) (by decide +kernel) (by decide) rfl (by decide) (by decide) (rX5_changeSetting X), (fun _ h => absurd h List.not_mem_nil)⟩)⟩)⟩)⟩)⟩)⟩))
    (xNoNew (by decide +kernel))
    (fun as σ q h => by
      unfold fX7_setValve at h
      split at h
      · exact Nat.le_of_ble_eq_true rfl
      · cases h)
    (fun as σ r σ' h => by
      unfold fX7_setValve at h
      split at h
      · exact ⟨100000, h⟩
      · cases h)
def tX7_isSignal : List XE := [(0, .iload_n 0, 1, 0, 0, []), (1, .iconst 0, 1, 0, 0, []), (2, .sipush 1000, 3, 0, 0, []), (5, .invokestatic 82, 3, 165, 0, []), (8, .ireturn, 1, 0, 0, [])]
theorem tX7_isSignal_ok : xTblOK RX7 cX7_isSignal xFX7 1 tX7_isSignal = true := by decide +kernel
abbrev nX7_isSignal (X : Nat × (Nat → Int32)) : List (Nat × Nat × Nat × XS) := [(165, 3, 0, fX7_within X)]
def fX7_isSignal (X : Nat × (Nat → Int32)) : XS := fun as σ => match as with
  | [.inl a0] => xIter X (xEnv (nX7_isSignal X)) (fun _ _ => some none) 1 [] tX7_isSignal 100000 (0, [(0, .inl a0)], σ, 0)
  | _ => none
theorem mX7_isSignal (l : Launch) (X : Nat × (Nat → Int32)) : xMet l X yX7_isSignal cX7_isSignal 1 (some .boolean) 2 0 (fX7_isSignal X) :=
  xMet_of (cl := xEnv (nX7_isSignal X)) (rt := 1) (stops := []) (tbl := tX7_isSignal) (by decide +kernel) (by decide) tX7_isSignal_ok x_FX7 rfl (xEnv_ok (L := nX7_isSignal X) (List.forall_mem_cons.mpr ⟨xCS_S (i := 82) (n := 3) (mX7_within l X) (xPk_in [228, 229, 7, 230] (by decide +kernel) (by decide +kernel)) (by decide +kernel) (by decide) (by decide), (fun _ h => absurd h List.not_mem_nil)⟩))
    (xNoNew (by decide +kernel))
    (fun as σ q h => by
      unfold fX7_isSignal at h
      split at h
      · exact Nat.le_of_ble_eq_true rfl
      · cases h)
    (fun as σ r σ' h => by
      unfold fX7_isSignal at h
      split at h
      · exact ⟨100000, h⟩
      · cases h)
def tX7_setSignal : List XE := [(0, .iload_n 1, 1, 0, 0, []), (1, .invokestatic 66, 3, 133, 0, []), (4, .invokestatic 41, 3, 83, 0, []), (7, .aload_n 0, 1, 0, 0, []), (8, .getfield 22, 3, 6, 2, []), (11, .aload_n 0, 1, 0, 0, []), (12, .getfield 10, 3, 6, 0, []), (15, .invokevirtual 45, 3, 90, 0, []), (18, .aload_n 0, 1, 0, 0, []), (19, .getfield 10, 3, 6, 0, []), (22, .iload_n 1, 1, 0, 0, []), (23, .invokevirtual 70, 3, 140, 0, []), (26, .ireturn, 1, 0, 0, [])]
theorem tX7_setSignal_ok : xTblOK RX7 cX7_setSignal xFX7 2 tX7_setSignal = true := by decide +kernel
abbrev nX7_setSignal (X : Nat × (Nat → Int32)) : List (Nat × Nat × Nat × XS) := [(133, 1, 0, fX7_isSignal X), (83, 1, 1, fX7_refuseUnless X), (90, 2, 0, fX2_save X), (140, 2, 0, fX4_changeSignal X)]
def fX7_setSignal (X : Nat × (Nat → Int32)) : XS := fun as σ => match as with
  | [.inr (.inr (some (6, a0))), .inl a1] => xIter X (xEnv (nX7_setSignal X)) (fun _ _ => some none) 0 [] tX7_setSignal 100000 (0, [(0, .inr (.inr (some (6, a0)))), (1, .inl a1)], σ, 1)
  | _ => none
theorem rX7_setSignal (X : Nat × (Nat → Int32)) : ∀ as σ q, fX7_setSignal X as σ = some q → ∃ j as', as = xR 6 j :: as' := by
  intro as σ q h
  unfold fX7_setSignal at h
  split at h
  · exact ⟨_, _, rfl⟩
  · cases h
theorem mX7_setSignal (l : Launch) (X : Nat × (Nat → Int32)) (hl : l.stackTraces = false) : xMet l X yX7_setSignal cX7_setSignal 2 (some .int) 7 1 (fX7_setSignal X) :=
  xMet_of (cl := xEnv (nX7_setSignal X)) (rt := 0) (stops := []) (tbl := tX7_setSignal) (by decide +kernel) (by decide) tX7_setSignal_ok x_FX7 rfl (xEnv_ok (L := nX7_setSignal X) (List.forall_mem_cons.mpr ⟨xCS_S (i := 66) (n := 1) (mX7_isSignal l X) (xPk_in [402, 403, 7, 404] (by decide +kernel) (by decide +kernel)) (by decide +kernel) (by decide) (by decide), (List.forall_mem_cons.mpr ⟨xCS_S (i := 41) (n := 1) (mX7_refuseUnless l X hl) (xPk_in [302, 303, 7, 304] (by decide +kernel) (by decide +kernel)) (by decide +kernel) (by decide) (by decide), (List.forall_mem_cons.mpr ⟨xCS_V (i := 45) (n := 1) (C := RX2) (k := 1) (mX2_save l X) (xPk_in [321, 322, 323, 11, 324] (by decide +kernel) (by decide +kernel)) (by decide +kernel) (by decide) rfl (by decide) (by decide) (rX2_save X), (List.forall_mem_cons.mpr ⟨xCS_V (i := 70) (n := 1) (C := RX4) (k := 3) (mX4_changeSignal l X) (xPk_in [405, 406, 407, 8, 408] (by decide +kernel) (by decide +kernel)) (by decide +kernel) (by decide) rfl (by decide) (by decide) (rX4_changeSignal X), (fun _ h => absurd h List.not_mem_nil)⟩)⟩)⟩)⟩))
    (xNoNew (by decide +kernel))
    (fun as σ q h => by
      unfold fX7_setSignal at h
      split at h
      · exact Nat.le_of_ble_eq_true rfl
      · cases h)
    (fun as σ r σ' h => by
      unfold fX7_setSignal at h
      split at h
      · exact ⟨100000, h⟩
      · cases h)
def tX7_isControllerSetting : List XE := [(0, .iload_n 0, 1, 0, 0, []), (1, .tableswitch 67 0 3 #[31, 38, 49, 58], 31, 68, 0, [(0, 32), (1, 39), (2, 50), (3, 59)]), (32, .iload_n 1, 1, 0, 0, []), (33, .iconst 0, 1, 0, 0, []), (34, .iconst 1, 1, 0, 0, []), (35, .invokestatic 82, 3, 165, 0, []), (38, .ireturn, 1, 0, 0, []), (39, .iload_n 1, 1, 0, 0, []), (40, .sipush (-10000), 3, 0, 0, []), (43, .sipush 10000, 3, 0, 0, []), (46, .invokestatic 82, 3, 165, 0, []), (49, .ireturn, 1, 0, 0, []), (50, .iload_n 1, 1, 0, 0, []), (51, .iconst 0, 1, 0, 0, []), (52, .sipush 2000, 3, 0, 0, []), (55, .invokestatic 82, 3, 165, 0, []), (58, .ireturn, 1, 0, 0, []), (59, .iload_n 1, 1, 0, 0, []), (60, .iconst 1, 1, 0, 0, []), (61, .sipush 1000, 3, 0, 0, []), (64, .invokestatic 82, 3, 165, 0, []), (67, .ireturn, 1, 0, 0, []), (68, .iconst 0, 1, 0, 0, []), (69, .ireturn, 1, 0, 0, [])]
theorem tX7_isControllerSetting_ok : xTblOK RX7 cX7_isControllerSetting xFX7 2 tX7_isControllerSetting = true := by decide +kernel
abbrev nX7_isControllerSetting (X : Nat × (Nat → Int32)) : List (Nat × Nat × Nat × XS) := [(165, 3, 0, fX7_within X)]
def fX7_isControllerSetting (X : Nat × (Nat → Int32)) : XS := fun as σ => match as with
  | [.inl a0, .inl a1] => xIter X (xEnv (nX7_isControllerSetting X)) (fun _ _ => some none) 1 [] tX7_isControllerSetting 100000 (0, [(0, .inl a0), (1, .inl a1)], σ, 0)
  | _ => none
theorem mX7_isControllerSetting (l : Launch) (X : Nat × (Nat → Int32)) : xMet l X yX7_isControllerSetting cX7_isControllerSetting 2 (some .boolean) 2 0 (fX7_isControllerSetting X) :=
  xMet_of (cl := xEnv (nX7_isControllerSetting X)) (rt := 1) (stops := []) (tbl := tX7_isControllerSetting) (by decide +kernel) (by decide) tX7_isControllerSetting_ok x_FX7 rfl (xEnv_ok (L := nX7_isControllerSetting X) (List.forall_mem_cons.mpr ⟨xCS_S (i := 82) (n := 3) (mX7_within l X) (xPk_in [228, 229, 7, 230] (by decide +kernel) (by decide +kernel)) (by decide +kernel) (by decide) (by decide), (fun _ h => absurd h List.not_mem_nil)⟩))
    (xNoNew (by decide +kernel))
    (fun as σ q h => by
      unfold fX7_isControllerSetting at h
      split at h
      · exact Nat.le_of_ble_eq_true rfl
      · cases h)
    (fun as σ r σ' h => by
      unfold fX7_isControllerSetting at h
      split at h
      · exact ⟨100000, h⟩
      · cases h)
def tX7_tune : List XE := [(0, .iload_n 1, 1, 0, 0, []), (1, .iload_n 2, 1, 0, 0, []), (2, .invokestatic 74, 3, 149, 0, []), (5, .invokestatic 41, 3, 83, 0, []), (8, .aload_n 0, 1, 0, 0, []), (9, .getfield 22, 3, 6, 2, []), (12, .aload_n 0, 1, 0, 0, []), (13, .getfield 10, 3, 6, 0, []), (16, .invokevirtual 45, 3, 90, 0, []), (19, .aload_n 0, 1, 0, 0, []), (20, .getfield 10, 3, 6, 0, []), (23, .iload_n 1, 1, 0, 0, []), (24, .iload_n 2, 1, 0, 0, []), (25, .invokevirtual 77, 3, 154, 0, []), (28, .ireturn, 1, 0, 0, [])]
theorem tX7_tune_ok : xTblOK RX7 cX7_tune xFX7 3 tX7_tune = true := by decide +kernel
abbrev nX7_tune (X : Nat × (Nat → Int32)) : List (Nat × Nat × Nat × XS) := [(149, 2, 0, fX7_isControllerSetting X), (83, 1, 1, fX7_refuseUnless X), (90, 2, 0, fX2_save X), (154, 3, 0, fX4_changeSetting X)]
def fX7_tune (X : Nat × (Nat → Int32)) : XS := fun as σ => match as with
  | [.inr (.inr (some (6, a0))), .inl a1, .inl a2] => xIter X (xEnv (nX7_tune X)) (fun _ _ => some none) 0 [] tX7_tune 100000 (0, [(0, .inr (.inr (some (6, a0)))), (1, .inl a1), (2, .inl a2)], σ, 1)
  | _ => none
theorem rX7_tune (X : Nat × (Nat → Int32)) : ∀ as σ q, fX7_tune X as σ = some q → ∃ j as', as = xR 6 j :: as' := by
  intro as σ q h
  unfold fX7_tune at h
  split at h
  · exact ⟨_, _, rfl⟩
  · cases h
theorem mX7_tune (l : Launch) (X : Nat × (Nat → Int32)) (hl : l.stackTraces = false) : xMet l X yX7_tune cX7_tune 3 (some .int) 7 1 (fX7_tune X) :=
  xMet_of (cl := xEnv (nX7_tune X)) (rt := 0) (stops := []) (tbl := tX7_tune) (by decide +kernel) (by decide) tX7_tune_ok x_FX7 rfl (xEnv_ok (L := nX7_tune X) (List.forall_mem_cons.mpr ⟨xCS_S (i := 74) (n := 2) (mX7_isControllerSetting l X) (xPk_in [416, 417, 7, 418] (by decide +kernel) (by decide +kernel)) (by decide +kernel) (by decide) (by decide), (List.forall_mem_cons.mpr ⟨xCS_S (i := 41) (n := 1) (mX7_refuseUnless l X hl) (xPk_in [302, 303, 7, 304] (by decide +kernel) (by decide +kernel)) (by decide +kernel) (by decide) (by decide), (List.forall_mem_cons.mpr ⟨xCS_V (i := 45) (n := 1) (C := RX2) (k := 1) (mX2_save l X) (xPk_in [321, 322, 323, 11, 324] (by decide +kernel) (by decide +kernel)) (by decide +kernel) (by decide) rfl (by decide) (by decide) (rX2_save X), (List.forall_mem_cons.mpr ⟨xCS_V (i := 77) (n := 2) (C := RX4) (k := 3) (mX4_changeSetting l X) (xPk_in [419, 420, 421, 8, 422] (by decide +kernel) (by decide +kernel)) (by decide +kernel) (by decide) rfl (by decide) (by decide) (rX4_changeSetting X), (fun _ h => absurd h List.not_mem_nil)⟩)⟩)⟩)⟩))
    (xNoNew (by decide +kernel))
    (fun as σ q h => by
      unfold fX7_tune at h
      split at h
      · exact Nat.le_of_ble_eq_true rfl
      · cases h)
    (fun as σ r σ' h => by
      unfold fX7_tune at h
      split at h
      · exact ⟨100000, h⟩
      · cases h)
def tX7_service : List XE := [(0, .iload_n 1, 1, 0, 0, []), (1, .invokestatic 33, 3, 67, 0, []), (4, .aload_n 0, 1, 0, 0, []), (5, .getfield 22, 3, 6, 2, []), (8, .aload_n 0, 1, 0, 0, []), (9, .getfield 10, 3, 6, 0, []), (12, .invokevirtual 45, 3, 90, 0, []), (15, .aload_n 0, 1, 0, 0, []), (16, .getfield 10, 3, 6, 0, []), (19, .iload_n 1, 1, 0, 0, []), (20, .invokevirtual 49, 3, 98, 0, []), (23, .invokevirtual 78, 3, 156, 0, []), (26, .ireturn, 1, 0, 0, [])]
theorem tX7_service_ok : xTblOK RX7 cX7_service xFX7 2 tX7_service = true := by decide +kernel
abbrev nX7_service (X : Nat × (Nat → Int32)) : List (Nat × Nat × Nat × XS) := [(67, 1, 1, fX7_refuseUnlessValve X), (90, 2, 0, fX2_save X), (98, 2, 0, fX4_at X), (156, 1, 0, fX5_renew X)]
def fX7_service (X : Nat × (Nat → Int32)) : XS := fun as σ => match as with
  | [.inr (.inr (some (6, a0))), .inl a1] => xIter X (xEnv (nX7_service X)) (fun _ _ => some none) 0 [] tX7_service 100000 (0, [(0, .inr (.inr (some (6, a0)))), (1, .inl a1)], σ, 1)
  | _ => none
theorem rX7_service (X : Nat × (Nat → Int32)) : ∀ as σ q, fX7_service X as σ = some q → ∃ j as', as = xR 6 j :: as' := by
  intro as σ q h
  unfold fX7_service at h
  split at h
  · exact ⟨_, _, rfl⟩
  · cases h
theorem mX7_service (l : Launch) (X : Nat × (Nat → Int32)) (hl : l.stackTraces = false) : xMet l X yX7_service cX7_service 2 (some .int) 7 1 (fX7_service X) :=
  xMet_of (cl := xEnv (nX7_service X)) (rt := 0) (stops := []) (tbl := tX7_service) (by decide +kernel) (by decide) tX7_service_ok x_FX7 rfl (xEnv_ok (L := nX7_service X) (List.forall_mem_cons.mpr ⟨xCS_S (i := 33) (n := 1) (mX7_refuseUnlessValve l X hl) (xPk_in [222, 223, 7, 224] (by decide +kernel) (by decide +kernel)) (by decide +kernel) (by decide) (by decide), (List.forall_mem_cons.mpr ⟨xCS_V (i := 45) (n := 1) (C := RX2) (k := 1) (mX2_save l X) (xPk_in [321, 322, 323, 11, 324] (by decide +kernel) (by decide +kernel)) (by decide +kernel) (by decide) rfl (by decide) (by decide) (rX2_save X), (List.forall_mem_cons.mpr ⟨xCS_V (i := 49) (n := 1) (C := RX4) (k := 3) (mX4_at l X) (xPk_in [346, 347, 348, 8, 349] (by decide +kernel) (by decide +kernel)) (by decide +kernel) (by decide) rfl (by decide) (by decide) (rX4_at X), (List.forall_mem_cons.mpr ⟨xCS_V (i := 78) (n := 0) (C := RX5) (k := 4) (mX5_renew l X) (xPk_in [447, 448, 449, 9, 450] (by decide +kernel) (by decide +kernel)) (by decide +kernel) (by decide) rfl (by decide) (by decide) (rX5_renew X), (fun _ h => absurd h List.not_mem_nil)⟩)⟩)⟩)⟩))
    (xNoNew (by decide +kernel))
    (fun as σ q h => by
      unfold fX7_service at h
      split at h
      · exact Nat.le_of_ble_eq_true rfl
      · cases h)
    (fun as σ r σ' h => by
      unfold fX7_service at h
      split at h
      · exact ⟨100000, h⟩
      · cases h)
def tX7_putStem : List XE := [(0, .iload_n 1, 1, 0, 0, []), (1, .invokestatic 33, 3, 67, 0, []), (4, .iload_n 2, 1, 0, 0, []), (5, .iconst 0, 1, 0, 0, []), (6, .sipush 1000, 3, 0, 0, []), (9, .invokestatic 82, 3, 165, 0, []), (12, .invokestatic 41, 3, 83, 0, []), (15, .aload_n 0, 1, 0, 0, []), (16, .getfield 22, 3, 6, 2, []), (19, .aload_n 0, 1, 0, 0, []), (20, .getfield 10, 3, 6, 0, []), (23, .invokevirtual 45, 3, 90, 0, []), (26, .aload_n 0, 1, 0, 0, []), (27, .getfield 10, 3, 6, 0, []), (30, .iload_n 1, 1, 0, 0, []), (31, .invokevirtual 49, 3, 98, 0, []), (34, .iload_n 2, 1, 0, 0, []), (35, .invokevirtual 86, 3, 172, 0, []), (38, .ireturn, 1, 0, 0, [])]
theorem tX7_putStem_ok : xTblOK RX7 cX7_putStem xFX7 3 tX7_putStem = true := by decide +kernel
abbrev nX7_putStem (X : Nat × (Nat → Int32)) : List (Nat × Nat × Nat × XS) := [(67, 1, 1, fX7_refuseUnlessValve X), (165, 3, 0, fX7_within X), (83, 1, 1, fX7_refuseUnless X), (90, 2, 0, fX2_save X), (98, 2, 0, fX4_at X), (172, 2, 0, fX5_putAt X)]
def fX7_putStem (X : Nat × (Nat → Int32)) : XS := fun as σ => match as with
  | [.inr (.inr (some (6, a0))), .inl a1, .inl a2] => xIter X (xEnv (nX7_putStem X)) (fun _ _ => some none) 0 [] tX7_putStem 100000 (0, [(0, .inr (.inr (some (6, a0)))), (1, .inl a1), (2, .inl a2)], σ, 2)
  | _ => none
theorem rX7_putStem (X : Nat × (Nat → Int32)) : ∀ as σ q, fX7_putStem X as σ = some q → ∃ j as', as = xR 6 j :: as' := by
  intro as σ q h
  unfold fX7_putStem at h
  split at h
  · exact ⟨_, _, rfl⟩
  · cases h
theorem mX7_putStem (l : Launch) (X : Nat × (Nat → Int32)) (hl : l.stackTraces = false) : xMet l X yX7_putStem cX7_putStem 3 (some .int) 7 2 (fX7_putStem X) :=
  xMet_of (cl := xEnv (nX7_putStem X)) (rt := 0) (stops := []) (tbl := tX7_putStem) (by decide +kernel) (by decide) tX7_putStem_ok x_FX7 rfl (xEnv_ok (L := nX7_putStem X) (List.forall_mem_cons.mpr ⟨xCS_S (i := 33) (n := 1) (mX7_refuseUnlessValve l X hl) (xPk_in [222, 223, 7, 224] (by decide +kernel) (by decide +kernel)) (by decide +kernel) (by decide) (by decide), (List.forall_mem_cons.mpr ⟨xCS_S (i := 82) (n := 3) (mX7_within l X) (xPk_in [228, 229, 7, 230] (by decide +kernel) (by decide +kernel)) (by decide +kernel) (by decide) (by decide), (List.forall_mem_cons.mpr ⟨xCS_S (i := 41) (n := 1) (mX7_refuseUnless l X hl) (xPk_in [302, 303, 7, 304] (by decide +kernel) (by decide +kernel)) (by decide +kernel) (by decide) (by decide), (List.forall_mem_cons.mpr ⟨xCS_V (i := 45) (n := 1) (C := RX2) (k := 1) (mX2_save l X) (xPk_in [321, 322, 323, 11, 324] (by decide +kernel) (by decide +kernel)) (by decide +kernel) (by decide) rfl (by decide) (by decide) (rX2_save X), (List.forall_mem_cons.mpr ⟨xCS_V (i := 49) (n := 1) (C := RX4) (k := 3) (mX4_at l X) (xPk_in [346, 347, 348, 8, 349] (by decide +kernel) (by decide +kernel)) (by decide +kernel) (by decide) rfl (by decide) (by decide) (rX4_at X), (List.forall_mem_cons.mpr ⟨xCS_V (i := 86) (n := 1) (C := RX5) (k := 4) (mX5_putAt l X) (xPk_in [461, 462, 463, 9, 464] (by decide +kernel) (by decide +kernel)) (by decide +kernel) (by decide) rfl (by decide) (by decide) (rX5_putAt X), (fun _ h => absurd h List.not_mem_nil)⟩)⟩)⟩)⟩)⟩)⟩))
    (xNoNew (by decide +kernel))
    (fun as σ q h => by
      unfold fX7_putStem at h
      split at h
      · exact Nat.le_of_ble_eq_true rfl
      · cases h)
    (fun as σ r σ' h => by
      unfold fX7_putStem at h
      split at h
      · exact ⟨100000, h⟩
      · cases h)
def tX7_isTicks : List XE := [(0, .iload_n 0, 1, 0, 0, []), (1, .iconst 1, 1, 0, 0, []), (2, .sipush 500, 3, 0, 0, []), (5, .invokestatic 82, 3, 165, 0, []), (8, .ireturn, 1, 0, 0, [])]
theorem tX7_isTicks_ok : xTblOK RX7 cX7_isTicks xFX7 1 tX7_isTicks = true := by decide +kernel
abbrev nX7_isTicks (X : Nat × (Nat → Int32)) : List (Nat × Nat × Nat × XS) := [(165, 3, 0, fX7_within X)]
def fX7_isTicks (X : Nat × (Nat → Int32)) : XS := fun as σ => match as with
  | [.inl a0] => xIter X (xEnv (nX7_isTicks X)) (fun _ _ => some none) 1 [] tX7_isTicks 100000 (0, [(0, .inl a0)], σ, 0)
  | _ => none
theorem mX7_isTicks (l : Launch) (X : Nat × (Nat → Int32)) : xMet l X yX7_isTicks cX7_isTicks 1 (some .boolean) 2 0 (fX7_isTicks X) :=
  xMet_of (cl := xEnv (nX7_isTicks X)) (rt := 1) (stops := []) (tbl := tX7_isTicks) (by decide +kernel) (by decide) tX7_isTicks_ok x_FX7 rfl (xEnv_ok (L := nX7_isTicks X) (List.forall_mem_cons.mpr ⟨xCS_S (i := 82) (n := 3) (mX7_within l X) (xPk_in [228, 229, 7, 230] (by decide +kernel) (by decide +kernel)) (by decide +kernel) (by decide) (by decide), (fun _ h => absurd h List.not_mem_nil)⟩))
    (xNoNew (by decide +kernel))
    (fun as σ q h => by
      unfold fX7_isTicks at h
      split at h
      · exact Nat.le_of_ble_eq_true rfl
      · cases h)
    (fun as σ r σ' h => by
      unfold fX7_isTicks at h
      split at h
      · exact ⟨100000, h⟩
      · cases h)
def tX7_isTimeLeft : List XE := [(0, .aload_n 0, 1, 0, 0, []), (1, .getfield 10, 3, 6, 0, []), (4, .getfield 126, 3, 3, 8, []), (7, .iload_n 1, 1, 0, 0, []), (8, .iadd, 1, 0, 0, []), (9, .ldc 235, 2, 0, 0, [(200000, 0)]), (11, .if_icmp .gt 7, 3, 18, 0, []), (14, .iconst 1, 1, 0, 0, []), (15, .goto 4, 3, 19, 0, []), (18, .iconst 0, 1, 0, 0, []), (19, .ireturn, 1, 0, 0, [])]
theorem tX7_isTimeLeft_ok : xTblOK RX7 cX7_isTimeLeft xFX7 2 tX7_isTimeLeft = true := by decide +kernel
abbrev nX7_isTimeLeft (X : Nat × (Nat → Int32)) : List (Nat × Nat × Nat × XS) := []
def fX7_isTimeLeft (X : Nat × (Nat → Int32)) : XS := fun as σ => match as with
  | [.inr (.inr (some (6, a0))), .inl a1] => xIter X (xEnv (nX7_isTimeLeft X)) (fun _ _ => some none) 1 [] tX7_isTimeLeft 100000 (0, [(0, .inr (.inr (some (6, a0)))), (1, .inl a1)], σ, 0)
  | _ => none
theorem rX7_isTimeLeft (X : Nat × (Nat → Int32)) : ∀ as σ q, fX7_isTimeLeft X as σ = some q → ∃ j as', as = xR 6 j :: as' := by
  intro as σ q h
  unfold fX7_isTimeLeft at h
  split at h
  · exact ⟨_, _, rfl⟩
  · cases h
theorem mX7_isTimeLeft (l : Launch) (X : Nat × (Nat → Int32)) : xMet l X yX7_isTimeLeft cX7_isTimeLeft 2 (some .boolean) 1 0 (fX7_isTimeLeft X) :=
  xMet_of (cl := xEnv (nX7_isTimeLeft X)) (rt := 1) (stops := []) (tbl := tX7_isTimeLeft) (by decide +kernel) (by decide) tX7_isTimeLeft_ok x_FX7 rfl (xEnv_ok (L := nX7_isTimeLeft X) (fun _ h => absurd h List.not_mem_nil))
    (xNoNew (by decide +kernel))
    (fun as σ q h => by
      unfold fX7_isTimeLeft at h
      split at h
      · exact Nat.le_of_ble_eq_true rfl
      · cases h)
    (fun as σ r σ' h => by
      unfold fX7_isTimeLeft at h
      split at h
      · exact ⟨100000, h⟩
      · cases h)
def tX7_run : List XE := [(0, .iload_n 1, 1, 0, 0, []), (1, .invokestatic 89, 3, 179, 0, []), (4, .invokestatic 41, 3, 83, 0, []), (7, .aload_n 0, 1, 0, 0, []), (8, .iload_n 1, 1, 0, 0, []), (9, .invokevirtual 92, 3, 184, 0, []), (12, .ifCond .ne 13, 3, 25, 0, []), (15, .new 95, 3, 2, 0, []), (18, .dup, 1, 0, 0, []), (19, .ldc 97, 2, 0, 0, []), (21, .invokespecial 99, 3, 0, 0, []), (24, .athrow, 1, 0, 0, []), (25, .aload_n 0, 1, 0, 0, []), (26, .getfield 22, 3, 6, 2, []), (29, .aload_n 0, 1, 0, 0, []), (30, .getfield 10, 3, 6, 0, []), (33, .invokevirtual 45, 3, 90, 0, []), (36, .aload_n 0, 1, 0, 0, []), (37, .getfield 10, 3, 6, 0, []), (40, .iload_n 1, 1, 0, 0, []), (41, .invokevirtual 102, 3, 204, 0, []), (44, .ireturn, 1, 0, 0, [])]
theorem tX7_run_ok : xTblOK RX7 cX7_run xFX7 2 tX7_run = true := by decide +kernel
abbrev nX7_run (X : Nat × (Nat → Int32)) : List (Nat × Nat × Nat × XS) := [(179, 1, 0, fX7_isTicks X), (83, 1, 1, fX7_refuseUnless X), (184, 2, 0, fX7_isTimeLeft X), (90, 2, 0, fX2_save X), (204, 2, 0, fX4_pass X)]
def fX7_run (X : Nat × (Nat → Int32)) : XS := fun as σ => match as with
  | [.inr (.inr (some (6, a0))), .inl a1] => xIter X (xEnv (nX7_run X)) (fun _ _ => some none) 0 [] tX7_run 100000 (0, [(0, .inr (.inr (some (6, a0)))), (1, .inl a1)], σ, 2)
  | _ => none
theorem rX7_run (X : Nat × (Nat → Int32)) : ∀ as σ q, fX7_run X as σ = some q → ∃ j as', as = xR 6 j :: as' := by
  intro as σ q h
  unfold fX7_run at h
  split at h
  · exact ⟨_, _, rfl⟩
  · cases h
theorem mX7_run (l : Launch) (X : Nat × (Nat → Int32)) (hl : l.stackTraces = false) : xMet l X yX7_run cX7_run 2 (some .int) 7 2 (fX7_run X) :=
  xMet_of (cl := xEnv (nX7_run X)) (rt := 0) (stops := []) (tbl := tX7_run) (by decide +kernel) (by decide) tX7_run_ok x_FX7 rfl (xEnv_ok (L := nX7_run X) (List.forall_mem_cons.mpr ⟨xCS_S (i := 89) (n := 1) (mX7_isTicks l X) (xPk_in [503, 504, 7, 505] (by decide +kernel) (by decide +kernel)) (by decide +kernel) (by decide) (by decide), (List.forall_mem_cons.mpr ⟨xCS_S (i := 41) (n := 1) (mX7_refuseUnless l X hl) (xPk_in [302, 303, 7, 304] (by decide +kernel) (by decide +kernel)) (by decide +kernel) (by decide) (by decide), (List.forall_mem_cons.mpr ⟨xCS_V (i := 92) (n := 1) (C := RX7) (k := 6) (mX7_isTimeLeft l X) (xPk_in [506, 508, 2, 7, 509] (by decide +kernel) (by decide +kernel)) (by decide +kernel) (by decide) rfl (by decide) (by decide) (rX7_isTimeLeft X), (List.forall_mem_cons.mpr ⟨xCS_V (i := 45) (n := 1) (C := RX2) (k := 1) (mX2_save l X) (xPk_in [321, 322, 323, 11, 324] (by decide +kernel) (by decide +kernel)) (by decide +kernel) (by decide) rfl (by decide) (by decide) (rX2_save X), (List.forall_mem_cons.mpr ⟨xCS_V (i := 102) (n := 1) (C := RX4) (k := 3) (mX4_pass l X) (xPk_in [527, 528, 529, 8, 530] (by decide +kernel) (by decide +kernel)) (by decide +kernel) (by decide) rfl (by decide) (by decide) (rX4_pass X), (fun _ h => absurd h List.not_mem_nil)⟩)⟩)⟩)⟩)⟩))
    (fun en hen hi => by
    intro G p e R s m args below meth c C0 h1 h2 h3 h4 ht
    intro _
    have hq : en = (15, .new 95, 3, 2, 0, []) := xOneNew (tbl := tX7_run) rfl hen hi
    subst hq
    exact xThr_S hl C0 (by decide) h1 h2 h3 h4 ht (is := 97) (ic := 99) (E := 2) (text := "the time would be more than 200000") (by decide +kernel) (xPk_in [511] (ws := [.classLink RX7 95 (xXN 2)]) (by decide +kernel) (by decide +kernel) _ List.mem_cons_self) (xPk_in [20] (ws := [.initialized (xXN 2)]) (by decide +kernel) (by decide +kernel) _ List.mem_cons_self) (by decide +kernel) (by decide +kernel) (by decide +kernel) (by decide +kernel) (by decide +kernel) (by decide +kernel) (by decide +kernel) (by decide +kernel) (by decide +kernel))
    (fun as σ q h => by
      unfold fX7_run at h
      split at h
      · exact Nat.le_of_ble_eq_true rfl
      · cases h)
    (fun as σ r σ' h => by
      unfold fX7_run at h
      split at h
      · exact ⟨100000, h⟩
      · cases h)
def tX7_valve : List XE := [(0, .iload_n 1, 1, 0, 0, []), (1, .invokestatic 33, 3, 67, 0, []), (4, .iload_n 2, 1, 0, 0, []), (5, .iconst 0, 1, 0, 0, []), (6, .bipush 20, 2, 0, 0, []), (8, .invokestatic 82, 3, 165, 0, []), (11, .invokestatic 41, 3, 83, 0, []), (14, .aload_n 0, 1, 0, 0, []), (15, .getfield 10, 3, 6, 0, []), (18, .iload_n 1, 1, 0, 0, []), (19, .invokevirtual 49, 3, 98, 0, []), (22, .iload_n 2, 1, 0, 0, []), (23, .aload_n 0, 1, 0, 0, []), (24, .getfield 10, 3, 6, 0, []), (27, .getfield 105, 3, 3, 3, []), (30, .invokevirtual 109, 3, 218, 0, []), (33, .ireturn, 1, 0, 0, [])]
theorem tX7_valve_ok : xTblOK RX7 cX7_valve xFX7 3 tX7_valve = true := by decide +kernel
abbrev nX7_valve (X : Nat × (Nat → Int32)) : List (Nat × Nat × Nat × XS) := [(67, 1, 1, fX7_refuseUnlessValve X), (165, 3, 0, fX7_within X), (83, 1, 1, fX7_refuseUnless X), (98, 2, 0, fX4_at X), (218, 3, 0, fX5_value X)]
def fX7_valve (X : Nat × (Nat → Int32)) : XS := fun as σ => match as with
  | [.inr (.inr (some (6, a0))), .inl a1, .inl a2] => xIter X (xEnv (nX7_valve X)) (fun _ _ => some none) 0 [] tX7_valve 100000 (0, [(0, .inr (.inr (some (6, a0)))), (1, .inl a1), (2, .inl a2)], σ, 2)
  | _ => none
theorem rX7_valve (X : Nat × (Nat → Int32)) : ∀ as σ q, fX7_valve X as σ = some q → ∃ j as', as = xR 6 j :: as' := by
  intro as σ q h
  unfold fX7_valve at h
  split at h
  · exact ⟨_, _, rfl⟩
  · cases h
theorem mX7_valve (l : Launch) (X : Nat × (Nat → Int32)) (hl : l.stackTraces = false) : xMet l X yX7_valve cX7_valve 3 (some .int) 7 2 (fX7_valve X) :=
  xMet_of (cl := xEnv (nX7_valve X)) (rt := 0) (stops := []) (tbl := tX7_valve) (by decide +kernel) (by decide) tX7_valve_ok x_FX7 rfl (xEnv_ok (L := nX7_valve X) (List.forall_mem_cons.mpr ⟨xCS_S (i := 33) (n := 1) (mX7_refuseUnlessValve l X hl) (xPk_in [222, 223, 7, 224] (by decide +kernel) (by decide +kernel)) (by decide +kernel) (by decide) (by decide), (List.forall_mem_cons.mpr ⟨xCS_S (i := 82) (n := 3) (mX7_within l X) (xPk_in [228, 229, 7, 230] (by decide +kernel) (by decide +kernel)) (by decide +kernel) (by decide) (by decide), (List.forall_mem_cons.mpr ⟨xCS_S (i := 41) (n := 1) (mX7_refuseUnless l X hl) (xPk_in [302, 303, 7, 304] (by decide +kernel) (by decide +kernel)) (by decide +kernel) (by decide) (by decide), (List.forall_mem_cons.mpr ⟨xCS_V (i := 49) (n := 1) (C := RX4) (k := 3) (mX4_at l X) (xPk_in [346, 347, 348, 8, 349] (by decide +kernel) (by decide +kernel)) (by decide +kernel) (by decide) rfl (by decide) (by decide) (rX4_at X), (List.forall_mem_cons.mpr ⟨xCS_V (i := 109) (n := 2) (C := RX5) (k := 4) (mX5_value l X) (xPk_in [583, 371, 372, 9, 373] (by decide +kernel) (by decide +kernel)) (by decide +kernel) (by decide) rfl (by decide) (by decide) (rX5_value X), (fun _ h => absurd h List.not_mem_nil)⟩)⟩)⟩)⟩)⟩))
    (xNoNew (by decide +kernel))
    (fun as σ q h => by
      unfold fX7_valve at h
      split at h
      · exact Nat.le_of_ble_eq_true rfl
      · cases h)
    (fun as σ r σ' h => by
      unfold fX7_valve at h
      split at h
      · exact ⟨100000, h⟩
      · cases h)
def tX7_pair : List XE := [(0, .iload_n 1, 1, 0, 0, []), (1, .iconst 0, 1, 0, 0, []), (2, .bipush 11, 2, 0, 0, []), (4, .invokestatic 82, 3, 165, 0, []), (7, .invokestatic 41, 3, 83, 0, []), (10, .aload_n 0, 1, 0, 0, []), (11, .getfield 10, 3, 6, 0, []), (14, .iload_n 1, 1, 0, 0, []), (15, .invokevirtual 112, 3, 224, 0, []), (18, .ireturn, 1, 0, 0, [])]
theorem tX7_pair_ok : xTblOK RX7 cX7_pair xFX7 2 tX7_pair = true := by decide +kernel
abbrev nX7_pair (X : Nat × (Nat → Int32)) : List (Nat × Nat × Nat × XS) := [(165, 3, 0, fX7_within X), (83, 1, 1, fX7_refuseUnless X), (224, 2, 0, fX4_value X)]
def fX7_pair (X : Nat × (Nat → Int32)) : XS := fun as σ => match as with
  | [.inr (.inr (some (6, a0))), .inl a1] => xIter X (xEnv (nX7_pair X)) (fun _ _ => some none) 0 [] tX7_pair 100000 (0, [(0, .inr (.inr (some (6, a0)))), (1, .inl a1)], σ, 1)
  | _ => none
theorem rX7_pair (X : Nat × (Nat → Int32)) : ∀ as σ q, fX7_pair X as σ = some q → ∃ j as', as = xR 6 j :: as' := by
  intro as σ q h
  unfold fX7_pair at h
  split at h
  · exact ⟨_, _, rfl⟩
  · cases h
theorem mX7_pair (l : Launch) (X : Nat × (Nat → Int32)) (hl : l.stackTraces = false) : xMet l X yX7_pair cX7_pair 2 (some .int) 7 1 (fX7_pair X) :=
  xMet_of (cl := xEnv (nX7_pair X)) (rt := 0) (stops := []) (tbl := tX7_pair) (by decide +kernel) (by decide) tX7_pair_ok x_FX7 rfl (xEnv_ok (L := nX7_pair X) (List.forall_mem_cons.mpr ⟨xCS_S (i := 82) (n := 3) (mX7_within l X) (xPk_in [228, 229, 7, 230] (by decide +kernel) (by decide +kernel)) (by decide +kernel) (by decide) (by decide), (List.forall_mem_cons.mpr ⟨xCS_S (i := 41) (n := 1) (mX7_refuseUnless l X hl) (xPk_in [302, 303, 7, 304] (by decide +kernel) (by decide +kernel)) (by decide +kernel) (by decide) (by decide), (List.forall_mem_cons.mpr ⟨xCS_V (i := 112) (n := 1) (C := RX4) (k := 3) (mX4_value l X) (xPk_in [591, 424, 425, 8, 426] (by decide +kernel) (by decide +kernel)) (by decide +kernel) (by decide) rfl (by decide) (by decide) (rX4_value X), (fun _ h => absurd h List.not_mem_nil)⟩)⟩)⟩))
    (xNoNew (by decide +kernel))
    (fun as σ q h => by
      unfold fX7_pair at h
      split at h
      · exact Nat.le_of_ble_eq_true rfl
      · cases h)
    (fun as σ r σ' h => by
      unfold fX7_pair at h
      split at h
      · exact ⟨100000, h⟩
      · cases h)
def tX7_ledger : List XE := [(0, .iload_n 1, 1, 0, 0, []), (1, .ifCond .lt 16, 3, 17, 0, []), (4, .iload_n 2, 1, 0, 0, []), (5, .iconst 0, 1, 0, 0, []), (6, .iconst 4, 1, 0, 0, []), (7, .invokestatic 82, 3, 165, 0, []), (10, .ifCond .eq 7, 3, 17, 0, []), (13, .iconst 1, 1, 0, 0, []), (14, .goto 4, 3, 18, 0, []), (17, .iconst 0, 1, 0, 0, []), (18, .invokestatic 41, 3, 83, 0, []), (21, .aload_n 0, 1, 0, 0, []), (22, .getfield 10, 3, 6, 0, []), (25, .getfield 116, 3, 3, 2, []), (28, .iload_n 1, 1, 0, 0, []), (29, .iload_n 2, 1, 0, 0, []), (30, .invokevirtual 120, 3, 240, 0, []), (33, .ireturn, 1, 0, 0, [])]
theorem tX7_ledger_ok : xTblOK RX7 cX7_ledger xFX7 3 tX7_ledger = true := by decide +kernel
abbrev nX7_ledger (X : Nat × (Nat → Int32)) : List (Nat × Nat × Nat × XS) := [(165, 3, 0, fX7_within X), (83, 1, 1, fX7_refuseUnless X), (240, 3, 0, fX1_cell X)]
def fX7_ledger (X : Nat × (Nat → Int32)) : XS := fun as σ => match as with
  | [.inr (.inr (some (6, a0))), .inl a1, .inl a2] => xIter X (xEnv (nX7_ledger X)) (fun _ _ => some none) 0 [] tX7_ledger 100000 (0, [(0, .inr (.inr (some (6, a0)))), (1, .inl a1), (2, .inl a2)], σ, 1)
  | _ => none
theorem rX7_ledger (X : Nat × (Nat → Int32)) : ∀ as σ q, fX7_ledger X as σ = some q → ∃ j as', as = xR 6 j :: as' := by
  intro as σ q h
  unfold fX7_ledger at h
  split at h
  · exact ⟨_, _, rfl⟩
  · cases h
theorem mX7_ledger (l : Launch) (X : Nat × (Nat → Int32)) (hl : l.stackTraces = false) : xMet l X yX7_ledger cX7_ledger 3 (some .int) 7 1 (fX7_ledger X) :=
  xMet_of (cl := xEnv (nX7_ledger X)) (rt := 0) (stops := []) (tbl := tX7_ledger) (by decide +kernel) (by decide) tX7_ledger_ok x_FX7 rfl (xEnv_ok (L := nX7_ledger X) (List.forall_mem_cons.mpr ⟨xCS_S (i := 82) (n := 3) (mX7_within l X) (xPk_in [228, 229, 7, 230] (by decide +kernel) (by decide +kernel)) (by decide +kernel) (by decide) (by decide), (List.forall_mem_cons.mpr ⟨xCS_S (i := 41) (n := 1) (mX7_refuseUnless l X hl) (xPk_in [302, 303, 7, 304] (by decide +kernel) (by decide +kernel)) (by decide +kernel) (by decide) (by decide), (List.forall_mem_cons.mpr ⟨xCS_V (i := 120) (n := 2) (C := RX1) (k := 0) (mX1_cell l X) (xPk_in [625, 613, 614, 10, 615] (by decide +kernel) (by decide +kernel)) (by decide +kernel) (by decide) rfl (by decide) (by decide) (rX1_cell X), (fun _ h => absurd h List.not_mem_nil)⟩)⟩)⟩))
    (xNoNew (by decide +kernel))
    (fun as σ q h => by
      unfold fX7_ledger at h
      split at h
      · exact Nat.le_of_ble_eq_true rfl
      · cases h)
    (fun as σ r σ' h => by
      unfold fX7_ledger at h
      split at h
      · exact ⟨100000, h⟩
      · cases h)
def tX7_ledgerSum : List XE := [(0, .iload_n 1, 1, 0, 0, []), (1, .invokestatic 33, 3, 67, 0, []), (4, .iload_n 2, 1, 0, 0, []), (5, .iconst 2, 1, 0, 0, []), (6, .iconst 4, 1, 0, 0, []), (7, .invokestatic 82, 3, 165, 0, []), (10, .invokestatic 41, 3, 83, 0, []), (13, .aload_n 0, 1, 0, 0, []), (14, .getfield 10, 3, 6, 0, []), (17, .getfield 116, 3, 3, 2, []), (20, .iload_n 1, 1, 0, 0, []), (21, .iload_n 2, 1, 0, 0, []), (22, .invokevirtual 123, 3, 246, 0, []), (25, .ireturn, 1, 0, 0, [])]
theorem tX7_ledgerSum_ok : xTblOK RX7 cX7_ledgerSum xFX7 3 tX7_ledgerSum = true := by decide +kernel
abbrev nX7_ledgerSum (X : Nat × (Nat → Int32)) : List (Nat × Nat × Nat × XS) := [(67, 1, 1, fX7_refuseUnlessValve X), (165, 3, 0, fX7_within X), (83, 1, 1, fX7_refuseUnless X), (246, 3, 0, fX1_sum X)]
def fX7_ledgerSum (X : Nat × (Nat → Int32)) : XS := fun as σ => match as with
  | [.inr (.inr (some (6, a0))), .inl a1, .inl a2] => xIter X (xEnv (nX7_ledgerSum X)) (fun _ _ => some none) 0 [] tX7_ledgerSum 100000 (0, [(0, .inr (.inr (some (6, a0)))), (1, .inl a1), (2, .inl a2)], σ, 2)
  | _ => none
theorem rX7_ledgerSum (X : Nat × (Nat → Int32)) : ∀ as σ q, fX7_ledgerSum X as σ = some q → ∃ j as', as = xR 6 j :: as' := by
  intro as σ q h
  unfold fX7_ledgerSum at h
  split at h
  · exact ⟨_, _, rfl⟩
  · cases h
theorem mX7_ledgerSum (l : Launch) (X : Nat × (Nat → Int32)) (hl : l.stackTraces = false) : xMet l X yX7_ledgerSum cX7_ledgerSum 3 (some .int) 7 2 (fX7_ledgerSum X) :=
  xMet_of (cl := xEnv (nX7_ledgerSum X)) (rt := 0) (stops := []) (tbl := tX7_ledgerSum) (by decide +kernel) (by decide) tX7_ledgerSum_ok x_FX7 rfl (xEnv_ok (L := nX7_ledgerSum X) (List.forall_mem_cons.mpr ⟨xCS_S (i := 33) (n := 1) (mX7_refuseUnlessValve l X hl) (xPk_in [222, 223, 7, 224] (by decide +kernel) (by decide +kernel)) (by decide +kernel) (by decide) (by decide), (List.forall_mem_cons.mpr ⟨xCS_S (i := 82) (n := 3) (mX7_within l X) (xPk_in [228, 229, 7, 230] (by decide +kernel) (by decide +kernel)) (by decide +kernel) (by decide) (by decide), (List.forall_mem_cons.mpr ⟨xCS_S (i := 41) (n := 1) (mX7_refuseUnless l X hl) (xPk_in [302, 303, 7, 304] (by decide +kernel) (by decide +kernel)) (by decide +kernel) (by decide) (by decide), (List.forall_mem_cons.mpr ⟨xCS_V (i := 123) (n := 2) (C := RX1) (k := 0) (mX1_sum l X) (xPk_in [608, 609, 610, 10, 611] (by decide +kernel) (by decide +kernel)) (by decide +kernel) (by decide) rfl (by decide) (by decide) (rX1_sum X), (fun _ h => absurd h List.not_mem_nil)⟩)⟩)⟩)⟩))
    (xNoNew (by decide +kernel))
    (fun as σ q h => by
      unfold fX7_ledgerSum at h
      split at h
      · exact Nat.le_of_ble_eq_true rfl
      · cases h)
    (fun as σ r σ' h => by
      unfold fX7_ledgerSum at h
      split at h
      · exact ⟨100000, h⟩
      · cases h)
