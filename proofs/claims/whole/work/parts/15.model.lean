/-! ===== contracts (written by wip/whole/gen/contracts.py) ===== -/
def tX8_thrown : List XE := [(0, .aload_n 0, 1, 0, 0, []), (1, .getfield 35, 3, 7, 6, []), (4, .ireturn, 1, 0, 0, [])]
theorem tX8_thrown_ok : xTblOK RX8 cX8_thrown xFX8 1 tX8_thrown = true := by decide +kernel
abbrev nX8_thrown (X : Nat × (Nat → Int32)) : List (Nat × Nat × Nat × XS) := []
def fX8_thrown (X : Nat × (Nat → Int32)) : XS := fun as σ => match as with
  | [.inr (.inr (some (7, a0)))] => xIter X (xEnv (nX8_thrown X)) (fun _ _ => some none) 0 [] tX8_thrown 100000 (0, [(0, .inr (.inr (some (7, a0))))], σ, 0)
  | _ => none
theorem rX8_thrown (X : Nat × (Nat → Int32)) : ∀ as σ q, fX8_thrown X as σ = some q → ∃ j as', as = xR 7 j :: as' := by
  intro as σ q h
  unfold fX8_thrown at h
  split at h
  · exact ⟨_, _, rfl⟩
  · cases h
theorem mX8_thrown (l : Launch) (X : Nat × (Nat → Int32)) : xMet l X yX8_thrown cX8_thrown 1 (some .int) 1 0 (fX8_thrown X) :=
  xMet_of (cl := xEnv (nX8_thrown X)) (rt := 0) (stops := []) (tbl := tX8_thrown) (by decide +kernel) (by decide) tX8_thrown_ok x_FX8 rfl (xEnv_ok (L := nX8_thrown X) (fun _ h => absurd h List.not_mem_nil))
    (xNoNew (by decide +kernel))
    (fun as σ q h => by
      unfold fX8_thrown at h
      split at h
      · exact Nat.le_of_ble_eq_true rfl
      · cases h)
    (fun as σ r σ' h => by
      unfold fX8_thrown at h
      split at h
      · exact ⟨100000, h⟩
      · cases h)
def tX8_in : List XE := [(0, .iload_n 0, 1, 0, 0, []), (1, .iload_n 1, 1, 0, 0, []), (2, .if_icmp .lt 12, 3, 14, 0, []), (5, .iload_n 0, 1, 0, 0, []), (6, .iload_n 2, 1, 0, 0, []), (7, .if_icmp .gt 7, 3, 14, 0, []), (10, .iconst 1, 1, 0, 0, []), (11, .goto 4, 3, 15, 0, []), (14, .iconst 0, 1, 0, 0, []), (15, .ireturn, 1, 0, 0, [])]
theorem tX8_in_ok : xTblOK RX8 cX8_in xFX8 3 tX8_in = true := by decide +kernel
abbrev nX8_in (X : Nat × (Nat → Int32)) : List (Nat × Nat × Nat × XS) := []
def fX8_in (X : Nat × (Nat → Int32)) : XS := fun as σ => match as with
  | [.inl a0, .inl a1, .inl a2] => xIter X (xEnv (nX8_in X)) (fun _ _ => some none) 1 [] tX8_in 100000 (0, [(0, .inl a0), (1, .inl a1), (2, .inl a2)], σ, 0)
  | _ => none
theorem mX8_in (l : Launch) (X : Nat × (Nat → Int32)) : xMet l X yX8_in cX8_in 3 (some .boolean) 1 0 (fX8_in X) :=
  xMet_of (cl := xEnv (nX8_in X)) (rt := 1) (stops := []) (tbl := tX8_in) (by decide +kernel) (by decide) tX8_in_ok x_FX8 rfl (xEnv_ok (L := nX8_in X) (fun _ h => absurd h List.not_mem_nil))
    (xNoNew (by decide +kernel))
    (fun as σ q h => by
      unfold fX8_in at h
      split at h
      · exact Nat.le_of_ble_eq_true rfl
      · cases h)
    (fun as σ r σ' h => by
      unfold fX8_in at h
      split at h
      · exact ⟨100000, h⟩
      · cases h)
def tX8_into : List XE := [(0, .iload_n 0, 1, 0, 0, []), (1, .iload_n 1, 1, 0, 0, []), (2, .if_icmp .ge 7, 3, 9, 0, []), (5, .iload_n 1, 1, 0, 0, []), (6, .goto 13, 3, 19, 0, []), (9, .iload_n 0, 1, 0, 0, []), (10, .iload_n 2, 1, 0, 0, []), (11, .if_icmp .le 7, 3, 18, 0, []), (14, .iload_n 2, 1, 0, 0, []), (15, .goto 4, 3, 19, 0, []), (18, .iload_n 0, 1, 0, 0, []), (19, .ireturn, 1, 0, 0, [])]
theorem tX8_into_ok : xTblOK RX8 cX8_into xFX8 3 tX8_into = true := by decide +kernel
abbrev nX8_into (X : Nat × (Nat → Int32)) : List (Nat × Nat × Nat × XS) := []
def fX8_into (X : Nat × (Nat → Int32)) : XS := fun as σ => match as with
  | [.inl a0, .inl a1, .inl a2] => xIter X (xEnv (nX8_into X)) (fun _ _ => some none) 0 [] tX8_into 100000 (0, [(0, .inl a0), (1, .inl a1), (2, .inl a2)], σ, 0)
  | _ => none
theorem mX8_into (l : Launch) (X : Nat × (Nat → Int32)) : xMet l X yX8_into cX8_into 3 (some .int) 1 0 (fX8_into X) :=
  xMet_of (cl := xEnv (nX8_into X)) (rt := 0) (stops := []) (tbl := tX8_into) (by decide +kernel) (by decide) tX8_into_ok x_FX8 rfl (xEnv_ok (L := nX8_into X) (fun _ h => absurd h List.not_mem_nil))
    (xNoNew (by decide +kernel))
    (fun as σ q h => by
      unfold fX8_into at h
      split at h
      · exact Nat.le_of_ble_eq_true rfl
      · cases h)
    (fun as σ r σ' h => by
      unfold fX8_into at h
      split at h
      · exact ⟨100000, h⟩
      · cases h)
def tX8_fails : List XE := [(0, .aload_n 0, 1, 0, 0, []), (1, .iload_n 1, 1, 0, 0, []), (2, .putfield 35, 3, 7, 6, []), (5, .iconst 0, 1, 0, 0, []), (6, .ireturn, 1, 0, 0, [])]
theorem tX8_fails_ok : xTblOK RX8 cX8_fails xFX8 2 tX8_fails = true := by decide +kernel
abbrev nX8_fails (X : Nat × (Nat → Int32)) : List (Nat × Nat × Nat × XS) := []
def fX8_fails (X : Nat × (Nat → Int32)) : XS := fun as σ => match as with
  | [.inr (.inr (some (7, a0))), .inl a1] => xIter X (xEnv (nX8_fails X)) (fun _ _ => some none) 0 [] tX8_fails 100000 (0, [(0, .inr (.inr (some (7, a0)))), (1, .inl a1)], σ, 0)
  | _ => none
theorem rX8_fails (X : Nat × (Nat → Int32)) : ∀ as σ q, fX8_fails X as σ = some q → ∃ j as', as = xR 7 j :: as' := by
  intro as σ q h
  unfold fX8_fails at h
  split at h
  · exact ⟨_, _, rfl⟩
  · cases h
theorem mX8_fails (l : Launch) (X : Nat × (Nat → Int32)) : xMet l X yX8_fails cX8_fails 2 (some .int) 1 0 (fX8_fails X) :=
  xMet_of (cl := xEnv (nX8_fails X)) (rt := 0) (stops := []) (tbl := tX8_fails) (by decide +kernel) (by decide) tX8_fails_ok x_FX8 rfl (xEnv_ok (L := nX8_fails X) (fun _ h => absurd h List.not_mem_nil))
    (xNoNew (by decide +kernel))
    (fun as σ q h => by
      unfold fX8_fails at h
      split at h
      · exact Nat.le_of_ble_eq_true rfl
      · cases h)
    (fun as σ r σ' h => by
      unfold fX8_fails at h
      split at h
      · exact ⟨100000, h⟩
      · cases h)
def tX8_tells : List XE := [(0, .aload_n 0, 1, 0, 0, []), (1, .iconst 0, 1, 0, 0, []), (2, .putfield 35, 3, 7, 6, []), (5, .iload_n 1, 1, 0, 0, []), (6, .ireturn, 1, 0, 0, [])]
theorem tX8_tells_ok : xTblOK RX8 cX8_tells xFX8 2 tX8_tells = true := by decide +kernel
abbrev nX8_tells (X : Nat × (Nat → Int32)) : List (Nat × Nat × Nat × XS) := []
def fX8_tells (X : Nat × (Nat → Int32)) : XS := fun as σ => match as with
  | [.inr (.inr (some (7, a0))), .inl a1] => xIter X (xEnv (nX8_tells X)) (fun _ _ => some none) 0 [] tX8_tells 100000 (0, [(0, .inr (.inr (some (7, a0)))), (1, .inl a1)], σ, 0)
  | _ => none
theorem rX8_tells (X : Nat × (Nat → Int32)) : ∀ as σ q, fX8_tells X as σ = some q → ∃ j as', as = xR 7 j :: as' := by
  intro as σ q h
  unfold fX8_tells at h
  split at h
  · exact ⟨_, _, rfl⟩
  · cases h
theorem mX8_tells (l : Launch) (X : Nat × (Nat → Int32)) : xMet l X yX8_tells cX8_tells 2 (some .int) 1 0 (fX8_tells X) :=
  xMet_of (cl := xEnv (nX8_tells X)) (rt := 0) (stops := []) (tbl := tX8_tells) (by decide +kernel) (by decide) tX8_tells_ok x_FX8 rfl (xEnv_ok (L := nX8_tells X) (fun _ h => absurd h List.not_mem_nil))
    (xNoNew (by decide +kernel))
    (fun as σ q h => by
      unfold fX8_tells at h
      split at h
      · exact Nat.le_of_ble_eq_true rfl
      · cases h)
    (fun as σ r σ' h => by
      unfold fX8_tells at h
      split at h
      · exact ⟨100000, h⟩
      · cases h)
def tX8_hold : List XE := [(0, .iconst 0, 1, 0, 0, []), (1, .istore_n 1, 1, 0, 0, []), (2, .iload_n 1, 1, 0, 0, []), (3, .bipush 102, 2, 0, 0, []), (5, .if_icmp .ge 21, 3, 26, 0, []), (8, .aload_n 0, 1, 0, 0, []), (9, .getfield 16, 3, 7, 2, []), (12, .iload_n 1, 1, 0, 0, []), (13, .aload_n 0, 1, 0, 0, []), (14, .getfield 7, 3, 7, 0, []), (17, .iload_n 1, 1, 0, 0, []), (18, .iaload, 1, 0, 0, []), (19, .iastore, 1, 0, 0, []), (20, .iinc 1 1, 3, 0, 0, []), (23, .goto (-21), 3, 2, 0, []), (26, .return_, 1, 0, 0, [])]
theorem tX8_hold_ok : xTblOK RX8 cX8_hold xFX8 2 tX8_hold = true := by decide +kernel
abbrev nX8_hold (X : Nat × (Nat → Int32)) : List (Nat × Nat × Nat × XS) := []
def fX8_hold (X : Nat × (Nat → Int32)) : XS := fun as σ => match as with
  | [.inr (.inr (some (7, a0)))] => xIter X (xEnv (nX8_hold X)) (fun _ _ => some none) 4 [(2, [0, 1])] tX8_hold 100000 (0, [(0, .inr (.inr (some (7, a0))))], σ, 0)
  | _ => none
theorem rX8_hold (X : Nat × (Nat → Int32)) : ∀ as σ q, fX8_hold X as σ = some q → ∃ j as', as = xR 7 j :: as' := by
  intro as σ q h
  unfold fX8_hold at h
  split at h
  · exact ⟨_, _, rfl⟩
  · cases h
theorem mX8_hold (l : Launch) (X : Nat × (Nat → Int32)) : xMet l X yX8_hold cX8_hold 2 none 1 0 (fX8_hold X) :=
  xMet_of (cl := xEnv (nX8_hold X)) (rt := 4) (stops := [(2, [0, 1])]) (tbl := tX8_hold) (by decide +kernel) (by decide) tX8_hold_ok x_FX8 rfl (xEnv_ok (L := nX8_hold X) (fun _ h => absurd h List.not_mem_nil))
    (xNoNew (by decide +kernel))
    (fun as σ q h => by
      unfold fX8_hold at h
      split at h
      · exact Nat.le_of_ble_eq_true rfl
      · cases h)
    (fun as σ r σ' h => by
      unfold fX8_hold at h
      split at h
      · exact ⟨100000, h⟩
      · cases h)
def tX8_restore : List XE := [(0, .iconst 0, 1, 0, 0, []), (1, .istore_n 1, 1, 0, 0, []), (2, .iload_n 1, 1, 0, 0, []), (3, .bipush 102, 2, 0, 0, []), (5, .if_icmp .ge 21, 3, 26, 0, []), (8, .aload_n 0, 1, 0, 0, []), (9, .getfield 7, 3, 7, 0, []), (12, .iload_n 1, 1, 0, 0, []), (13, .aload_n 0, 1, 0, 0, []), (14, .getfield 16, 3, 7, 2, []), (17, .iload_n 1, 1, 0, 0, []), (18, .iaload, 1, 0, 0, []), (19, .iastore, 1, 0, 0, []), (20, .iinc 1 1, 3, 0, 0, []), (23, .goto (-21), 3, 2, 0, []), (26, .return_, 1, 0, 0, [])]
theorem tX8_restore_ok : xTblOK RX8 cX8_restore xFX8 2 tX8_restore = true := by decide +kernel
abbrev nX8_restore (X : Nat × (Nat → Int32)) : List (Nat × Nat × Nat × XS) := []
def fX8_restore (X : Nat × (Nat → Int32)) : XS := fun as σ => match as with
  | [.inr (.inr (some (7, a0)))] => xIter X (xEnv (nX8_restore X)) (fun _ _ => some none) 4 [(2, [0, 1])] tX8_restore 100000 (0, [(0, .inr (.inr (some (7, a0))))], σ, 0)
  | _ => none
theorem rX8_restore (X : Nat × (Nat → Int32)) : ∀ as σ q, fX8_restore X as σ = some q → ∃ j as', as = xR 7 j :: as' := by
  intro as σ q h
  unfold fX8_restore at h
  split at h
  · exact ⟨_, _, rfl⟩
  · cases h
theorem mX8_restore (l : Launch) (X : Nat × (Nat → Int32)) : xMet l X yX8_restore cX8_restore 2 none 1 0 (fX8_restore X) :=
  xMet_of (cl := xEnv (nX8_restore X)) (rt := 4) (stops := [(2, [0, 1])]) (tbl := tX8_restore) (by decide +kernel) (by decide) tX8_restore_ok x_FX8 rfl (xEnv_ok (L := nX8_restore X) (fun _ h => absurd h List.not_mem_nil))
    (xNoNew (by decide +kernel))
    (fun as σ q h => by
      unfold fX8_restore at h
      split at h
      · exact Nat.le_of_ble_eq_true rfl
      · cases h)
    (fun as σ r σ' h => by
      unfold fX8_restore at h
      split at h
      · exact ⟨100000, h⟩
      · cases h)
def tX8_ends : List XE := [(0, .aload_n 0, 1, 0, 0, []), (1, .getfield 39, 3, 7, 3, []), (4, .iconst 4, 1, 0, 0, []), (5, .if_icmp .ne 43, 3, 48, 0, []), (8, .iconst 0, 1, 0, 0, []), (9, .istore_n 2, 1, 0, 0, []), (10, .iload_n 2, 1, 0, 0, []), (11, .sipush 306, 3, 0, 0, []), (14, .if_icmp .ge 24, 3, 38, 0, []), (17, .aload_n 0, 1, 0, 0, []), (18, .getfield 13, 3, 7, 1, []), (21, .iload_n 2, 1, 0, 0, []), (22, .aload_n 0, 1, 0, 0, []), (23, .getfield 13, 3, 7, 1, []), (26, .iload_n 2, 1, 0, 0, []), (27, .bipush 102, 2, 0, 0, []), (29, .iadd, 1, 0, 0, []), (30, .iaload, 1, 0, 0, []), (31, .iastore, 1, 0, 0, []), (32, .iinc 2 1, 3, 0, 0, []), (35, .goto (-25), 3, 10, 0, []), (38, .aload_n 0, 1, 0, 0, []), (39, .dup, 1, 0, 0, []), (40, .getfield 39, 3, 7, 3, []), (43, .iconst 1, 1, 0, 0, []), (44, .isub, 1, 0, 0, []), (45, .putfield 39, 3, 7, 3, []), (48, .iconst 0, 1, 0, 0, []), (49, .istore_n 2, 1, 0, 0, []), (50, .iload_n 2, 1, 0, 0, []), (51, .bipush 102, 2, 0, 0, []), (53, .if_icmp .ge 29, 3, 82, 0, []), (56, .aload_n 0, 1, 0, 0, []), (57, .getfield 13, 3, 7, 1, []), (60, .bipush 102, 2, 0, 0, []), (62, .aload_n 0, 1, 0, 0, []), (63, .getfield 39, 3, 7, 3, []), (66, .imul, 1, 0, 0, []), (67, .iload_n 2, 1, 0, 0, []), (68, .iadd, 1, 0, 0, []), (69, .aload_n 0, 1, 0, 0, []), (70, .getfield 16, 3, 7, 2, []), (73, .iload_n 2, 1, 0, 0, []), (74, .iaload, 1, 0, 0, []), (75, .iastore, 1, 0, 0, []), (76, .iinc 2 1, 3, 0, 0, []), (79, .goto (-29), 3, 50, 0, []), (82, .aload_n 0, 1, 0, 0, []), (83, .dup, 1, 0, 0, []), (84, .getfield 39, 3, 7, 3, []), (87, .iconst 1, 1, 0, 0, []), (88, .iadd, 1, 0, 0, []), (89, .putfield 39, 3, 7, 3, []), (92, .aload_n 0, 1, 0, 0, []), (93, .iload_n 1, 1, 0, 0, []), (94, .invokevirtual 42, 3, 84, 0, []), (97, .ireturn, 1, 0, 0, [])]
theorem tX8_ends_ok : xTblOK RX8 cX8_ends xFX8 3 tX8_ends = true := by decide +kernel
abbrev nX8_ends (X : Nat × (Nat → Int32)) : List (Nat × Nat × Nat × XS) := [(84, 2, 0, fX8_tells X)]
def fX8_ends (X : Nat × (Nat → Int32)) : XS := fun as σ => match as with
  | [.inr (.inr (some (7, a0))), .inl a1] => xIter X (xEnv (nX8_ends X)) (fun _ _ => some none) 0 [(10, [0, 1, 2]), (50, [0, 1, 2])] tX8_ends 100000 (0, [(0, .inr (.inr (some (7, a0)))), (1, .inl a1)], σ, 0)
  | _ => none
theorem rX8_ends (X : Nat × (Nat → Int32)) : ∀ as σ q, fX8_ends X as σ = some q → ∃ j as', as = xR 7 j :: as' := by
  intro as σ q h
  unfold fX8_ends at h
  split at h
  · exact ⟨_, _, rfl⟩
  · cases h
theorem mX8_ends (l : Launch) (X : Nat × (Nat → Int32)) : xMet l X yX8_ends cX8_ends 3 (some .int) 2 0 (fX8_ends X) :=
  xMet_of (cl := xEnv (nX8_ends X)) (rt := 0) (stops := [(10, [0, 1, 2]), (50, [0, 1, 2])]) (tbl := tX8_ends) (by decide +kernel) (by decide) tX8_ends_ok x_FX8 rfl (xEnv_ok (L := nX8_ends X) (List.forall_mem_cons.mpr ⟨xCS_V (i := 42) (n := 1) (C := RX8) (k := 7) (mX8_tells l X) (xPk_in [965, 967, 22, 65, 968] (by decide +kernel) (by decide +kernel)) (by decide +kernel) (by decide) rfl (by decide) (by decide) (rX8_tells X), (fun _ h => absurd h List.not_mem_nil)⟩))
    (xNoNew (by decide +kernel))
    (fun as σ q h => by
      unfold fX8_ends at h
      split at h
      · exact Nat.le_of_ble_eq_true rfl
      · cases h)
    (fun as σ r σ' h => by
      unfold fX8_ends at h
      split at h
      · exact ⟨100000, h⟩
      · cases h)
def tX8_floor : List XE := [(0, .iload_n 0, 1, 0, 0, []), (1, .iload_n 1, 1, 0, 0, []), (2, .idiv, 1, 0, 0, []), (3, .istore_n 2, 1, 0, 0, []), (4, .iload_n 0, 1, 0, 0, []), (5, .iload_n 1, 1, 0, 0, []), (6, .irem, 1, 0, 0, []), (7, .ifCond .ge 9, 3, 16, 0, []), (10, .iload_n 2, 1, 0, 0, []), (11, .iconst 1, 1, 0, 0, []), (12, .isub, 1, 0, 0, []), (13, .goto 4, 3, 17, 0, []), (16, .iload_n 2, 1, 0, 0, []), (17, .ireturn, 1, 0, 0, [])]
theorem tX8_floor_ok : xTblOK RX8 cX8_floor xFX8 3 tX8_floor = true := by decide +kernel
abbrev nX8_floor (X : Nat × (Nat → Int32)) : List (Nat × Nat × Nat × XS) := []
def fX8_floor (X : Nat × (Nat → Int32)) : XS := fun as σ => match as with
  | [.inl a0, .inl a1] => xIter X (xEnv (nX8_floor X)) (fun _ _ => some none) 0 [] tX8_floor 100000 (0, [(0, .inl a0), (1, .inl a1)], σ, 0)
  | _ => none
theorem mX8_floor (l : Launch) (X : Nat × (Nat → Int32)) : xMet l X yX8_floor cX8_floor 3 (some .int) 1 0 (fX8_floor X) :=
  xMet_of (cl := xEnv (nX8_floor X)) (rt := 0) (stops := []) (tbl := tX8_floor) (by decide +kernel) (by decide) tX8_floor_ok x_FX8 rfl (xEnv_ok (L := nX8_floor X) (fun _ h => absurd h List.not_mem_nil))
    (xNoNew (by decide +kernel))
    (fun as σ q h => by
      unfold fX8_floor at h
      split at h
      · exact Nat.le_of_ble_eq_true rfl
      · cases h)
    (fun as σ r σ' h => by
      unfold fX8_floor at h
      split at h
      · exact ⟨100000, h⟩
      · cases h)
def tX8_isValve : List XE := [(0, .iload_n 0, 1, 0, 0, []), (1, .iconst 0, 1, 0, 0, []), (2, .iconst 1, 1, 0, 0, []), (3, .invokestatic 46, 3, 93, 0, []), (6, .ireturn, 1, 0, 0, [])]
theorem tX8_isValve_ok : xTblOK RX8 cX8_isValve xFX8 1 tX8_isValve = true := by decide +kernel
abbrev nX8_isValve (X : Nat × (Nat → Int32)) : List (Nat × Nat × Nat × XS) := [(93, 3, 0, fX8_in X)]
def fX8_isValve (X : Nat × (Nat → Int32)) : XS := fun as σ => match as with
  | [.inl a0] => xIter X (xEnv (nX8_isValve X)) (fun _ _ => some none) 1 [] tX8_isValve 100000 (0, [(0, .inl a0)], σ, 0)
  | _ => none
theorem mX8_isValve (l : Launch) (X : Nat × (Nat → Int32)) : xMet l X yX8_isValve cX8_isValve 1 (some .boolean) 2 0 (fX8_isValve X) :=
  xMet_of (cl := xEnv (nX8_isValve X)) (rt := 1) (stops := []) (tbl := tX8_isValve) (by decide +kernel) (by decide) tX8_isValve_ok x_FX8 rfl (xEnv_ok (L := nX8_isValve X) (List.forall_mem_cons.mpr ⟨xCS_S (i := 46) (n := 3) (mX8_in l X) (xPk_in [946, 947, 65, 948] (by decide +kernel) (by decide +kernel)) (by decide +kernel) (by decide) (by decide), (fun _ h => absurd h List.not_mem_nil)⟩))
    (xNoNew (by decide +kernel))
    (fun as σ q h => by
      unfold fX8_isValve at h
      split at h
      · exact Nat.le_of_ble_eq_true rfl
      · cases h)
    (fun as σ r σ' h => by
      unfold fX8_isValve at h
      split at h
      · exact ⟨100000, h⟩
      · cases h)
def tX8_of : List XE := [(0, .aload_n 0, 1, 0, 0, []), (1, .getfield 7, 3, 7, 0, []), (4, .bipush 10, 2, 0, 0, []), (6, .bipush 16, 2, 0, 0, []), (8, .iload_n 1, 1, 0, 0, []), (9, .imul, 1, 0, 0, []), (10, .iadd, 1, 0, 0, []), (11, .iload_n 2, 1, 0, 0, []), (12, .iadd, 1, 0, 0, []), (13, .iaload, 1, 0, 0, []), (14, .ireturn, 1, 0, 0, [])]
theorem tX8_of_ok : xTblOK RX8 cX8_of xFX8 3 tX8_of = true := by decide +kernel
abbrev nX8_of (X : Nat × (Nat → Int32)) : List (Nat × Nat × Nat × XS) := []
def fX8_of (X : Nat × (Nat → Int32)) : XS := fun as σ => match as with
  | [.inr (.inr (some (7, a0))), .inl a1, .inl a2] => xIter X (xEnv (nX8_of X)) (fun _ _ => some none) 0 [] tX8_of 100000 (0, [(0, .inr (.inr (some (7, a0)))), (1, .inl a1), (2, .inl a2)], σ, 0)
  | _ => none
theorem rX8_of (X : Nat × (Nat → Int32)) : ∀ as σ q, fX8_of X as σ = some q → ∃ j as', as = xR 7 j :: as' := by
  intro as σ q h
  unfold fX8_of at h
  split at h
  · exact ⟨_, _, rfl⟩
  · cases h
theorem mX8_of (l : Launch) (X : Nat × (Nat → Int32)) : xMet l X yX8_of cX8_of 3 (some .int) 1 0 (fX8_of X) :=
  xMet_of (cl := xEnv (nX8_of X)) (rt := 0) (stops := []) (tbl := tX8_of) (by decide +kernel) (by decide) tX8_of_ok x_FX8 rfl (xEnv_ok (L := nX8_of X) (fun _ h => absurd h List.not_mem_nil))
    (xNoNew (by decide +kernel))
    (fun as σ q h => by
      unfold fX8_of at h
      split at h
      · exact Nat.le_of_ble_eq_true rfl
      · cases h)
    (fun as σ r σ' h => by
      unfold fX8_of at h
      split at h
      · exact ⟨100000, h⟩
      · cases h)
def tX8_puts : List XE := [(0, .aload_n 0, 1, 0, 0, []), (1, .getfield 7, 3, 7, 0, []), (4, .bipush 10, 2, 0, 0, []), (6, .bipush 16, 2, 0, 0, []), (8, .iload_n 1, 1, 0, 0, []), (9, .imul, 1, 0, 0, []), (10, .iadd, 1, 0, 0, []), (11, .iload_n 2, 1, 0, 0, []), (12, .iadd, 1, 0, 0, []), (13, .iload_n 3, 1, 0, 0, []), (14, .iastore, 1, 0, 0, []), (15, .return_, 1, 0, 0, [])]
theorem tX8_puts_ok : xTblOK RX8 cX8_puts xFX8 4 tX8_puts = true := by decide +kernel
abbrev nX8_puts (X : Nat × (Nat → Int32)) : List (Nat × Nat × Nat × XS) := []
def fX8_puts (X : Nat × (Nat → Int32)) : XS := fun as σ => match as with
  | [.inr (.inr (some (7, a0))), .inl a1, .inl a2, .inl a3] => xIter X (xEnv (nX8_puts X)) (fun _ _ => some none) 4 [] tX8_puts 100000 (0, [(0, .inr (.inr (some (7, a0)))), (1, .inl a1), (2, .inl a2), (3, .inl a3)], σ, 0)
  | _ => none
theorem rX8_puts (X : Nat × (Nat → Int32)) : ∀ as σ q, fX8_puts X as σ = some q → ∃ j as', as = xR 7 j :: as' := by
  intro as σ q h
  unfold fX8_puts at h
  split at h
  · exact ⟨_, _, rfl⟩
  · cases h
theorem mX8_puts (l : Launch) (X : Nat × (Nat → Int32)) : xMet l X yX8_puts cX8_puts 4 none 1 0 (fX8_puts X) :=
  xMet_of (cl := xEnv (nX8_puts X)) (rt := 4) (stops := []) (tbl := tX8_puts) (by decide +kernel) (by decide) tX8_puts_ok x_FX8 rfl (xEnv_ok (L := nX8_puts X) (fun _ h => absurd h List.not_mem_nil))
    (xNoNew (by decide +kernel))
    (fun as σ q h => by
      unfold fX8_puts at h
      split at h
      · exact Nat.le_of_ble_eq_true rfl
      · cases h)
    (fun as σ r σ' h => by
      unfold fX8_puts at h
      split at h
      · exact ⟨100000, h⟩
      · cases h)
def tX8_demand : List XE := [(0, .aload_n 0, 1, 0, 0, []), (1, .iload_n 1, 1, 0, 0, []), (2, .iconst 5, 1, 0, 0, []), (3, .invokevirtual 50, 3, 100, 0, []), (6, .istore_n 3, 1, 0, 0, []), (7, .sipush 1000, 3, 0, 0, []), (10, .iload_n 2, 1, 0, 0, []), (11, .iload_n 3, 1, 0, 0, []), (12, .isub, 1, 0, 0, []), (13, .imul, 1, 0, 0, []), (14, .aload_n 0, 1, 0, 0, []), (15, .iload_n 1, 1, 0, 0, []), (16, .bipush 6, 2, 0, 0, []), (18, .invokevirtual 50, 3, 100, 0, []), (21, .iload_n 3, 1, 0, 0, []), (22, .isub, 1, 0, 0, []), (23, .invokestatic 54, 3, 109, 0, []), (26, .iconst 0, 1, 0, 0, []), (27, .sipush 1000, 3, 0, 0, []), (30, .invokestatic 57, 3, 115, 0, []), (33, .istore 4, 2, 0, 0, []), (35, .aload_n 0, 1, 0, 0, []), (36, .iload_n 1, 1, 0, 0, []), (37, .bipush 7, 2, 0, 0, []), (39, .invokevirtual 50, 3, 100, 0, []), (42, .iconst 1, 1, 0, 0, []), (43, .if_icmp .ne 12, 3, 55, 0, []), (46, .sipush 1000, 3, 0, 0, []), (49, .iload 4, 2, 0, 0, []), (51, .isub, 1, 0, 0, []), (52, .goto 5, 3, 57, 0, []), (55, .iload 4, 2, 0, 0, []), (57, .ireturn, 1, 0, 0, [])]
theorem tX8_demand_ok : xTblOK RX8 cX8_demand xFX8 5 tX8_demand = true := by decide +kernel
abbrev nX8_demand (X : Nat × (Nat → Int32)) : List (Nat × Nat × Nat × XS) := [(100, 3, 0, fX8_of X), (109, 2, 0, fX8_floor X), (115, 3, 0, fX8_into X)]
def fX8_demand (X : Nat × (Nat → Int32)) : XS := fun as σ => match as with
  | [.inr (.inr (some (7, a0))), .inl a1, .inl a2] => xIter X (xEnv (nX8_demand X)) (fun _ _ => some none) 0 [] tX8_demand 100000 (0, [(0, .inr (.inr (some (7, a0)))), (1, .inl a1), (2, .inl a2)], σ, 0)
  | _ => none
theorem rX8_demand (X : Nat × (Nat → Int32)) : ∀ as σ q, fX8_demand X as σ = some q → ∃ j as', as = xR 7 j :: as' := by
  intro as σ q h
  unfold fX8_demand at h
  split at h
  · exact ⟨_, _, rfl⟩
  · cases h
theorem mX8_demand (l : Launch) (X : Nat × (Nat → Int32)) : xMet l X yX8_demand cX8_demand 5 (some .int) 2 0 (fX8_demand X) :=
  xMet_of (cl := xEnv (nX8_demand X)) (rt := 0) (stops := []) (tbl := tX8_demand) (by decide +kernel) (by decide) tX8_demand_ok x_FX8 rfl (xEnv_ok (L := nX8_demand X) (List.forall_mem_cons.mpr ⟨xCS_V (i := 50) (n := 2) (C := RX8) (k := 7) (mX8_of l X) (xPk_in [949, 951, 18, 65, 952] (by decide +kernel) (by decide +kernel)) (by decide +kernel) (by decide) rfl (by decide) (by decide) (rX8_of X), (List.forall_mem_cons.mpr ⟨xCS_S (i := 54) (n := 2) (mX8_floor l X) (xPk_in [1056, 1057, 65, 1058] (by decide +kernel) (by decide +kernel)) (by decide +kernel) (by decide) (by decide), (List.forall_mem_cons.mpr ⟨xCS_S (i := 57) (n := 3) (mX8_into l X) (xPk_in [1059, 1060, 65, 1061] (by decide +kernel) (by decide +kernel)) (by decide +kernel) (by decide) (by decide), (fun _ h => absurd h List.not_mem_nil)⟩)⟩)⟩))
    (xNoNew (by decide +kernel))
    (fun as σ q h => by
      unfold fX8_demand at h
      split at h
      · exact Nat.le_of_ble_eq_true rfl
      · cases h)
    (fun as σ r σ' h => by
      unfold fX8_demand at h
      split at h
      · exact ⟨100000, h⟩
      · cases h)
def tX8_wear : List XE := [(0, .aload_n 0, 1, 0, 0, []), (1, .iload_n 1, 1, 0, 0, []), (2, .bipush 11, 2, 0, 0, []), (4, .invokevirtual 50, 3, 100, 0, []), (7, .bipush 100, 2, 0, 0, []), (9, .idiv, 1, 0, 0, []), (10, .iconst 3, 1, 0, 0, []), (11, .aload_n 0, 1, 0, 0, []), (12, .iload_n 1, 1, 0, 0, []), (13, .bipush 12, 2, 0, 0, []), (15, .invokevirtual 50, 3, 100, 0, []), (18, .imul, 1, 0, 0, []), (19, .iadd, 1, 0, 0, []), (20, .ireturn, 1, 0, 0, [])]
theorem tX8_wear_ok : xTblOK RX8 cX8_wear xFX8 2 tX8_wear = true := by decide +kernel
abbrev nX8_wear (X : Nat × (Nat → Int32)) : List (Nat × Nat × Nat × XS) := [(100, 3, 0, fX8_of X)]
def fX8_wear (X : Nat × (Nat → Int32)) : XS := fun as σ => match as with
  | [.inr (.inr (some (7, a0))), .inl a1] => xIter X (xEnv (nX8_wear X)) (fun _ _ => some none) 0 [] tX8_wear 100000 (0, [(0, .inr (.inr (some (7, a0)))), (1, .inl a1)], σ, 0)
  | _ => none
theorem rX8_wear (X : Nat × (Nat → Int32)) : ∀ as σ q, fX8_wear X as σ = some q → ∃ j as', as = xR 7 j :: as' := by
  intro as σ q h
  unfold fX8_wear at h
  split at h
  · exact ⟨_, _, rfl⟩
  · cases h
theorem mX8_wear (l : Launch) (X : Nat × (Nat → Int32)) : xMet l X yX8_wear cX8_wear 2 (some .int) 2 0 (fX8_wear X) :=
  xMet_of (cl := xEnv (nX8_wear X)) (rt := 0) (stops := []) (tbl := tX8_wear) (by decide +kernel) (by decide) tX8_wear_ok x_FX8 rfl (xEnv_ok (L := nX8_wear X) (List.forall_mem_cons.mpr ⟨xCS_V (i := 50) (n := 2) (C := RX8) (k := 7) (mX8_of l X) (xPk_in [949, 951, 18, 65, 952] (by decide +kernel) (by decide +kernel)) (by decide +kernel) (by decide) rfl (by decide) (by decide) (rX8_of X), (fun _ h => absurd h List.not_mem_nil)⟩))
    (xNoNew (by decide +kernel))
    (fun as σ q h => by
      unfold fX8_wear at h
      split at h
      · exact Nat.le_of_ble_eq_true rfl
      · cases h)
    (fun as σ r σ' h => by
      unfold fX8_wear at h
      split at h
      · exact ⟨100000, h⟩
      · cases h)
def tX8_threshold : List XE := [(0, .aload_n 0, 1, 0, 0, []), (1, .iload_n 1, 1, 0, 0, []), (2, .bipush 9, 2, 0, 0, []), (4, .invokevirtual 50, 3, 100, 0, []), (7, .istore_n 3, 1, 0, 0, []), (8, .aload_n 0, 1, 0, 0, []), (9, .iload_n 1, 1, 0, 0, []), (10, .bipush 10, 2, 0, 0, []), (12, .invokevirtual 50, 3, 100, 0, []), (15, .iconst 1, 1, 0, 0, []), (16, .if_icmp .ne 10, 3, 26, 0, []), (19, .iload_n 2, 1, 0, 0, []), (20, .iload_n 3, 1, 0, 0, []), (21, .if_icmp .ne 5, 3, 26, 0, []), (24, .iconst 0, 1, 0, 0, []), (25, .ireturn, 1, 0, 0, []), (26, .aload_n 0, 1, 0, 0, []), (27, .iload_n 1, 1, 0, 0, []), (28, .iconst 1, 1, 0, 0, []), (29, .invokevirtual 50, 3, 100, 0, []), (32, .aload_n 0, 1, 0, 0, []), (33, .iload_n 1, 1, 0, 0, []), (34, .invokevirtual 61, 3, 122, 0, []), (37, .bipush 50, 2, 0, 0, []), (39, .idiv, 1, 0, 0, []), (40, .iadd, 1, 0, 0, []), (41, .iload_n 3, 1, 0, 0, []), (42, .iload_n 2, 1, 0, 0, []), (43, .ineg, 1, 0, 0, []), (44, .if_icmp .ne 12, 3, 56, 0, []), (47, .aload_n 0, 1, 0, 0, []), (48, .iload_n 1, 1, 0, 0, []), (49, .iconst 2, 1, 0, 0, []), (50, .invokevirtual 50, 3, 100, 0, []), (53, .goto 4, 3, 57, 0, []), (56, .iconst 0, 1, 0, 0, []), (57, .iadd, 1, 0, 0, []), (58, .ireturn, 1, 0, 0, [])]
theorem tX8_threshold_ok : xTblOK RX8 cX8_threshold xFX8 4 tX8_threshold = true := by decide +kernel
abbrev nX8_threshold (X : Nat × (Nat → Int32)) : List (Nat × Nat × Nat × XS) := [(100, 3, 0, fX8_of X), (122, 2, 0, fX8_wear X)]
def fX8_threshold (X : Nat × (Nat → Int32)) : XS := fun as σ => match as with
  | [.inr (.inr (some (7, a0))), .inl a1, .inl a2] => xIter X (xEnv (nX8_threshold X)) (fun _ _ => some none) 0 [] tX8_threshold 100000 (0, [(0, .inr (.inr (some (7, a0)))), (1, .inl a1), (2, .inl a2)], σ, 0)
  | _ => none
theorem rX8_threshold (X : Nat × (Nat → Int32)) : ∀ as σ q, fX8_threshold X as σ = some q → ∃ j as', as = xR 7 j :: as' := by
  intro as σ q h
  unfold fX8_threshold at h
  split at h
  · exact ⟨_, _, rfl⟩
  · cases h
theorem mX8_threshold (l : Launch) (X : Nat × (Nat → Int32)) : xMet l X yX8_threshold cX8_threshold 4 (some .int) 3 0 (fX8_threshold X) :=
  xMet_of (cl := xEnv (nX8_threshold X)) (rt := 0) (stops := []) (tbl := tX8_threshold) (by decide +kernel) (by decide) tX8_threshold_ok x_FX8 rfl (xEnv_ok (L := nX8_threshold X) (List.forall_mem_cons.mpr ⟨xCS_V (i := 50) (n := 2) (C := RX8) (k := 7) (mX8_of l X) (xPk_in [949, 951, 18, 65, 952] (by decide +kernel) (by decide +kernel)) (by decide +kernel) (by decide) rfl (by decide) (by decide) (rX8_of X), (List.forall_mem_cons.mpr ⟨xCS_V (i := 61) (n := 1) (C := RX8) (k := 7) (mX8_wear l X) (xPk_in [1015, 1017, 29, 65, 1018] (by decide +kernel) (by decide +kernel)) (by decide +kernel) (by decide) rfl (by decide) (by decide) (rX8_wear X), (fun _ h => absurd h List.not_mem_nil)⟩)⟩))
    (xNoNew (by decide +kernel))
    (fun as σ q h => by
      unfold fX8_threshold at h
      split at h
      · exact Nat.le_of_ble_eq_true rfl
      · cases h)
    (fun as σ r σ' h => by
      unfold fX8_threshold at h
      split at h
      · exact ⟨100000, h⟩
      · cases h)
def tX8_move : List XE := [(0, .iload_n 2, 1, 0, 0, []), (1, .aload_n 0, 1, 0, 0, []), (2, .iload_n 1, 1, 0, 0, []), (3, .bipush 8, 2, 0, 0, []), (5, .invokevirtual 50, 3, 100, 0, []), (8, .isub, 1, 0, 0, []), (9, .istore_n 3, 1, 0, 0, []), (10, .iload_n 3, 1, 0, 0, []), (11, .ifCond .ge 8, 3, 19, 0, []), (14, .iload_n 3, 1, 0, 0, []), (15, .ineg, 1, 0, 0, []), (16, .goto 4, 3, 20, 0, []), (19, .iload_n 3, 1, 0, 0, []), (20, .istore 4, 2, 0, 0, []), (22, .iload_n 3, 1, 0, 0, []), (23, .ifCond .ge 7, 3, 30, 0, []), (26, .iconst (-1), 1, 0, 0, []), (27, .goto 4, 3, 31, 0, []), (30, .iconst 1, 1, 0, 0, []), (31, .istore 5, 2, 0, 0, []), (33, .iload 4, 2, 0, 0, []), (35, .ifCond .eq 15, 3, 50, 0, []), (38, .iload 4, 2, 0, 0, []), (40, .aload_n 0, 1, 0, 0, []), (41, .iload_n 1, 1, 0, 0, []), (42, .iload 5, 2, 0, 0, []), (44, .invokevirtual 64, 3, 128, 0, []), (47, .if_icmp .gt 5, 3, 52, 0, []), (50, .iconst 0, 1, 0, 0, []), (51, .ireturn, 1, 0, 0, []), (52, .iload 5, 2, 0, 0, []), (54, .iload 4, 2, 0, 0, []), (56, .aload_n 0, 1, 0, 0, []), (57, .iload_n 1, 1, 0, 0, []), (58, .iconst 0, 1, 0, 0, []), (59, .invokevirtual 50, 3, 100, 0, []), (62, .if_icmp .ge 8, 3, 70, 0, []), (65, .iload 4, 2, 0, 0, []), (67, .goto 9, 3, 76, 0, []), (70, .aload_n 0, 1, 0, 0, []), (71, .iload_n 1, 1, 0, 0, []), (72, .iconst 0, 1, 0, 0, []), (73, .invokevirtual 50, 3, 100, 0, []), (76, .imul, 1, 0, 0, []), (77, .ireturn, 1, 0, 0, [])]
theorem tX8_move_ok : xTblOK RX8 cX8_move xFX8 6 tX8_move = true := by decide +kernel
abbrev nX8_move (X : Nat × (Nat → Int32)) : List (Nat × Nat × Nat × XS) := [(100, 3, 0, fX8_of X), (128, 3, 0, fX8_threshold X)]
def fX8_move (X : Nat × (Nat → Int32)) : XS := fun as σ => match as with
  | [.inr (.inr (some (7, a0))), .inl a1, .inl a2] => xIter X (xEnv (nX8_move X)) (fun _ _ => some none) 0 [] tX8_move 100000 (0, [(0, .inr (.inr (some (7, a0)))), (1, .inl a1), (2, .inl a2)], σ, 0)
  | _ => none
theorem rX8_move (X : Nat × (Nat → Int32)) : ∀ as σ q, fX8_move X as σ = some q → ∃ j as', as = xR 7 j :: as' := by
  intro as σ q h
  unfold fX8_move at h
  split at h
  · exact ⟨_, _, rfl⟩
  · cases h
theorem mX8_move (l : Launch) (X : Nat × (Nat → Int32)) : xMet l X yX8_move cX8_move 6 (some .int) 4 0 (fX8_move X) :=
  xMet_of (cl := xEnv (nX8_move X)) (rt := 0) (stops := []) (tbl := tX8_move) (by decide +kernel) (by decide) tX8_move_ok x_FX8 rfl (xEnv_ok (L := nX8_move X) (List.forall_mem_cons.mpr ⟨xCS_V (i := 50) (n := 2) (C := RX8) (k := 7) (mX8_of l X) (xPk_in [949, 951, 18, 65, 952] (by decide +kernel) (by decide +kernel)) (by decide +kernel) (by decide) rfl (by decide) (by decide) (rX8_of X), (List.forall_mem_cons.mpr ⟨xCS_V (i := 64) (n := 2) (C := RX8) (k := 7) (mX8_threshold l X) (xPk_in [1074, 1076, 40, 65, 1077] (by decide +kernel) (by decide +kernel)) (by decide +kernel) (by decide) rfl (by decide) (by decide) (rX8_threshold X), (fun _ h => absurd h List.not_mem_nil)⟩)⟩))
    (xNoNew (by decide +kernel))
    (fun as σ q h => by
      unfold fX8_move at h
      split at h
      · exact Nat.le_of_ble_eq_true rfl
      · cases h)
    (fun as σ r σ' h => by
      unfold fX8_move at h
      split at h
      · exact ⟨100000, h⟩
      · cases h)
def tX8_through : List XE := [(0, .aload_n 0, 1, 0, 0, []), (1, .iload_n 1, 1, 0, 0, []), (2, .iconst 4, 1, 0, 0, []), (3, .invokevirtual 50, 3, 100, 0, []), (6, .istore_n 3, 1, 0, 0, []), (7, .sipush 1000, 3, 0, 0, []), (10, .iload_n 2, 1, 0, 0, []), (11, .isub, 1, 0, 0, []), (12, .istore 4, 2, 0, 0, []), (14, .iload_n 3, 1, 0, 0, []), (15, .ifCond .ne 7, 3, 22, 0, []), (18, .iload_n 2, 1, 0, 0, []), (19, .goto 31, 3, 50, 0, []), (22, .iload_n 3, 1, 0, 0, []), (23, .iconst 1, 1, 0, 0, []), (24, .if_icmp .ne 13, 3, 37, 0, []), (27, .iload_n 2, 1, 0, 0, []), (28, .iload_n 2, 1, 0, 0, []), (29, .imul, 1, 0, 0, []), (30, .sipush 1000, 3, 0, 0, []), (33, .idiv, 1, 0, 0, []), (34, .goto 16, 3, 50, 0, []), (37, .sipush 1000, 3, 0, 0, []), (40, .iload 4, 2, 0, 0, []), (42, .iload 4, 2, 0, 0, []), (44, .imul, 1, 0, 0, []), (45, .sipush 1000, 3, 0, 0, []), (48, .idiv, 1, 0, 0, []), (49, .isub, 1, 0, 0, []), (50, .istore 5, 2, 0, 0, []), (52, .aload_n 0, 1, 0, 0, []), (53, .iload_n 1, 1, 0, 0, []), (54, .iconst 3, 1, 0, 0, []), (55, .invokevirtual 50, 3, 100, 0, []), (58, .iload 5, 2, 0, 0, []), (60, .imul, 1, 0, 0, []), (61, .sipush 1000, 3, 0, 0, []), (64, .idiv, 1, 0, 0, []), (65, .ireturn, 1, 0, 0, [])]
theorem tX8_through_ok : xTblOK RX8 cX8_through xFX8 6 tX8_through = true := by decide +kernel
abbrev nX8_through (X : Nat × (Nat → Int32)) : List (Nat × Nat × Nat × XS) := [(100, 3, 0, fX8_of X)]
def fX8_through (X : Nat × (Nat → Int32)) : XS := fun as σ => match as with
  | [.inr (.inr (some (7, a0))), .inl a1, .inl a2] => xIter X (xEnv (nX8_through X)) (fun _ _ => some none) 0 [] tX8_through 100000 (0, [(0, .inr (.inr (some (7, a0)))), (1, .inl a1), (2, .inl a2)], σ, 0)
  | _ => none
theorem rX8_through (X : Nat × (Nat → Int32)) : ∀ as σ q, fX8_through X as σ = some q → ∃ j as', as = xR 7 j :: as' := by
  intro as σ q h
  unfold fX8_through at h
  split at h
  · exact ⟨_, _, rfl⟩
  · cases h
theorem mX8_through (l : Launch) (X : Nat × (Nat → Int32)) : xMet l X yX8_through cX8_through 6 (some .int) 2 0 (fX8_through X) :=
  xMet_of (cl := xEnv (nX8_through X)) (rt := 0) (stops := []) (tbl := tX8_through) (by decide +kernel) (by decide) tX8_through_ok x_FX8 rfl (xEnv_ok (L := nX8_through X) (List.forall_mem_cons.mpr ⟨xCS_V (i := 50) (n := 2) (C := RX8) (k := 7) (mX8_of l X) (xPk_in [949, 951, 18, 65, 952] (by decide +kernel) (by decide +kernel)) (by decide +kernel) (by decide) rfl (by decide) (by decide) (rX8_of X), (fun _ h => absurd h List.not_mem_nil)⟩))
    (xNoNew (by decide +kernel))
    (fun as σ q h => by
      unfold fX8_through at h
      split at h
      · exact Nat.le_of_ble_eq_true rfl
      · cases h)
    (fun as σ r σ' h => by
      unfold fX8_through at h
      split at h
      · exact ⟨100000, h⟩
      · cases h)
def tX8_flow : List XE := [(0, .aload_n 0, 1, 0, 0, []), (1, .iload_n 1, 1, 0, 0, []), (2, .bipush 8, 2, 0, 0, []), (4, .invokevirtual 50, 3, 100, 0, []), (7, .ifCond .le 16, 3, 23, 0, []), (10, .aload_n 0, 1, 0, 0, []), (11, .iload_n 1, 1, 0, 0, []), (12, .aload_n 0, 1, 0, 0, []), (13, .iload_n 1, 1, 0, 0, []), (14, .bipush 8, 2, 0, 0, []), (16, .invokevirtual 50, 3, 100, 0, []), (19, .invokevirtual 67, 3, 134, 0, []), (22, .ireturn, 1, 0, 0, []), (23, .aload_n 0, 1, 0, 0, []), (24, .iload_n 1, 1, 0, 0, []), (25, .invokevirtual 61, 3, 122, 0, []), (28, .bipush 20, 2, 0, 0, []), (30, .idiv, 1, 0, 0, []), (31, .istore_n 2, 1, 0, 0, []), (32, .iload_n 2, 1, 0, 0, []), (33, .aload_n 0, 1, 0, 0, []), (34, .iload_n 1, 1, 0, 0, []), (35, .iconst 3, 1, 0, 0, []), (36, .invokevirtual 50, 3, 100, 0, []), (39, .if_icmp .ge 7, 3, 46, 0, []), (42, .iload_n 2, 1, 0, 0, []), (43, .goto 9, 3, 52, 0, []), (46, .aload_n 0, 1, 0, 0, []), (47, .iload_n 1, 1, 0, 0, []), (48, .iconst 3, 1, 0, 0, []), (49, .invokevirtual 50, 3, 100, 0, []), (52, .ireturn, 1, 0, 0, [])]
theorem tX8_flow_ok : xTblOK RX8 cX8_flow xFX8 3 tX8_flow = true := by decide +kernel
abbrev nX8_flow (X : Nat × (Nat → Int32)) : List (Nat × Nat × Nat × XS) := [(100, 3, 0, fX8_of X), (134, 3, 0, fX8_through X), (122, 2, 0, fX8_wear X)]
def fX8_flow (X : Nat × (Nat → Int32)) : XS := fun as σ => match as with
  | [.inr (.inr (some (7, a0))), .inl a1] => xIter X (xEnv (nX8_flow X)) (fun _ _ => some none) 0 [] tX8_flow 100000 (0, [(0, .inr (.inr (some (7, a0)))), (1, .inl a1)], σ, 0)
  | _ => none
theorem rX8_flow (X : Nat × (Nat → Int32)) : ∀ as σ q, fX8_flow X as σ = some q → ∃ j as', as = xR 7 j :: as' := by
  intro as σ q h
  unfold fX8_flow at h
  split at h
  · exact ⟨_, _, rfl⟩
  · cases h
theorem mX8_flow (l : Launch) (X : Nat × (Nat → Int32)) : xMet l X yX8_flow cX8_flow 3 (some .int) 3 0 (fX8_flow X) :=
  xMet_of (cl := xEnv (nX8_flow X)) (rt := 0) (stops := []) (tbl := tX8_flow) (by decide +kernel) (by decide) tX8_flow_ok x_FX8 rfl (xEnv_ok (L := nX8_flow X) (List.forall_mem_cons.mpr ⟨xCS_V (i := 50) (n := 2) (C := RX8) (k := 7) (mX8_of l X) (xPk_in [949, 951, 18, 65, 952] (by decide +kernel) (by decide +kernel)) (by decide +kernel) (by decide) rfl (by decide) (by decide) (rX8_of X), (List.forall_mem_cons.mpr ⟨xCS_V (i := 67) (n := 2) (C := RX8) (k := 7) (mX8_through l X) (xPk_in [1052, 1054, 36, 65, 1055] (by decide +kernel) (by decide +kernel)) (by decide +kernel) (by decide) rfl (by decide) (by decide) (rX8_through X), (List.forall_mem_cons.mpr ⟨xCS_V (i := 61) (n := 1) (C := RX8) (k := 7) (mX8_wear l X) (xPk_in [1015, 1017, 29, 65, 1018] (by decide +kernel) (by decide +kernel)) (by decide +kernel) (by decide) rfl (by decide) (by decide) (rX8_wear X), (fun _ h => absurd h List.not_mem_nil)⟩)⟩)⟩))
    (xNoNew (by decide +kernel))
    (fun as σ q h => by
      unfold fX8_flow at h
      split at h
      · exact Nat.le_of_ble_eq_true rfl
      · cases h)
    (fun as σ r σ' h => by
      unfold fX8_flow at h
      split at h
      · exact ⟨100000, h⟩
      · cases h)
def tX8_both : List XE := [(0, .aload_n 0, 1, 0, 0, []), (1, .iconst 0, 1, 0, 0, []), (2, .invokevirtual 70, 3, 140, 0, []), (5, .aload_n 0, 1, 0, 0, []), (6, .iconst 1, 1, 0, 0, []), (7, .invokevirtual 70, 3, 140, 0, []), (10, .iadd, 1, 0, 0, []), (11, .ireturn, 1, 0, 0, [])]
theorem tX8_both_ok : xTblOK RX8 cX8_both xFX8 1 tX8_both = true := by decide +kernel
abbrev nX8_both (X : Nat × (Nat → Int32)) : List (Nat × Nat × Nat × XS) := [(140, 2, 0, fX8_flow X)]
def fX8_both (X : Nat × (Nat → Int32)) : XS := fun as σ => match as with
  | [.inr (.inr (some (7, a0)))] => xIter X (xEnv (nX8_both X)) (fun _ _ => some none) 0 [] tX8_both 100000 (0, [(0, .inr (.inr (some (7, a0))))], σ, 0)
  | _ => none
theorem rX8_both (X : Nat × (Nat → Int32)) : ∀ as σ q, fX8_both X as σ = some q → ∃ j as', as = xR 7 j :: as' := by
  intro as σ q h
  unfold fX8_both at h
  split at h
  · exact ⟨_, _, rfl⟩
  · cases h
theorem mX8_both (l : Launch) (X : Nat × (Nat → Int32)) : xMet l X yX8_both cX8_both 1 (some .int) 4 0 (fX8_both X) :=
  xMet_of (cl := xEnv (nX8_both X)) (rt := 0) (stops := []) (tbl := tX8_both) (by decide +kernel) (by decide) tX8_both_ok x_FX8 rfl (xEnv_ok (L := nX8_both X) (List.forall_mem_cons.mpr ⟨xCS_V (i := 70) (n := 1) (C := RX8) (k := 7) (mX8_flow l X) (xPk_in [1048, 1050, 35, 65, 1051] (by decide +kernel) (by decide +kernel)) (by decide +kernel) (by decide) rfl (by decide) (by decide) (rX8_flow X), (fun _ h => absurd h List.not_mem_nil)⟩))
    (xNoNew (by decide +kernel))
    (fun as σ q h => by
      unfold fX8_both at h
      split at h
      · exact Nat.le_of_ble_eq_true rfl
      · cases h)
    (fun as σ r σ' h => by
      unfold fX8_both at h
      split at h
      · exact ⟨100000, h⟩
      · cases h)
def tX8_ideal : List XE := [(0, .iconst 0, 1, 0, 0, []), (1, .istore_n 2, 1, 0, 0, []), (2, .iconst 0, 1, 0, 0, []), (3, .istore_n 3, 1, 0, 0, []), (4, .iload_n 3, 1, 0, 0, []), (5, .iconst 2, 1, 0, 0, []), (6, .if_icmp .ge 36, 3, 42, 0, []), (9, .aload_n 0, 1, 0, 0, []), (10, .iload_n 3, 1, 0, 0, []), (11, .iload_n 1, 1, 0, 0, []), (12, .invokevirtual 73, 3, 146, 0, []), (15, .istore 4, 2, 0, 0, []), (17, .iload_n 2, 1, 0, 0, []), (18, .iload 4, 2, 0, 0, []), (20, .ifCond .le 13, 3, 33, 0, []), (23, .aload_n 0, 1, 0, 0, []), (24, .iload_n 3, 1, 0, 0, []), (25, .iload 4, 2, 0, 0, []), (27, .invokevirtual 67, 3, 134, 0, []), (30, .goto 4, 3, 34, 0, []), (33, .iconst 0, 1, 0, 0, []), (34, .iadd, 1, 0, 0, []), (35, .istore_n 2, 1, 0, 0, []), (36, .iinc 3 1, 3, 0, 0, []), (39, .goto (-35), 3, 4, 0, []), (42, .iload_n 2, 1, 0, 0, []), (43, .ireturn, 1, 0, 0, [])]
theorem tX8_ideal_ok : xTblOK RX8 cX8_ideal xFX8 5 tX8_ideal = true := by decide +kernel
abbrev nX8_ideal (X : Nat × (Nat → Int32)) : List (Nat × Nat × Nat × XS) := [(146, 3, 0, fX8_demand X), (134, 3, 0, fX8_through X)]
def fX8_ideal (X : Nat × (Nat → Int32)) : XS := fun as σ => match as with
  | [.inr (.inr (some (7, a0))), .inl a1] => xIter X (xEnv (nX8_ideal X)) (fun _ _ => some none) 0 [(4, [0, 1, 2, 3])] tX8_ideal 100000 (0, [(0, .inr (.inr (some (7, a0)))), (1, .inl a1)], σ, 0)
  | _ => none
theorem rX8_ideal (X : Nat × (Nat → Int32)) : ∀ as σ q, fX8_ideal X as σ = some q → ∃ j as', as = xR 7 j :: as' := by
  intro as σ q h
  unfold fX8_ideal at h
  split at h
  · exact ⟨_, _, rfl⟩
  · cases h
theorem mX8_ideal (l : Launch) (X : Nat × (Nat → Int32)) : xMet l X yX8_ideal cX8_ideal 5 (some .int) 3 0 (fX8_ideal X) :=
  xMet_of (cl := xEnv (nX8_ideal X)) (rt := 0) (stops := [(4, [0, 1, 2, 3])]) (tbl := tX8_ideal) (by decide +kernel) (by decide) tX8_ideal_ok x_FX8 rfl (xEnv_ok (L := nX8_ideal X) (List.forall_mem_cons.mpr ⟨xCS_V (i := 73) (n := 2) (C := RX8) (k := 7) (mX8_demand l X) (xPk_in [1066, 1068, 38, 65, 1069] (by decide +kernel) (by decide +kernel)) (by decide +kernel) (by decide) rfl (by decide) (by decide) (rX8_demand X), (List.forall_mem_cons.mpr ⟨xCS_V (i := 67) (n := 2) (C := RX8) (k := 7) (mX8_through l X) (xPk_in [1052, 1054, 36, 65, 1055] (by decide +kernel) (by decide +kernel)) (by decide +kernel) (by decide) rfl (by decide) (by decide) (rX8_through X), (fun _ h => absurd h List.not_mem_nil)⟩)⟩))
    (xNoNew (by decide +kernel))
    (fun as σ q h => by
      unfold fX8_ideal at h
      split at h
      · exact Nat.le_of_ble_eq_true rfl
      · cases h)
    (fun as σ r σ' h => by
      unfold fX8_ideal at h
      split at h
      · exact ⟨100000, h⟩
      · cases h)
def tX8_entry : List XE := [(0, .iconst 0, 1, 0, 0, []), (1, .istore_n 3, 1, 0, 0, []), (2, .iload_n 3, 1, 0, 0, []), (3, .aload_n 0, 1, 0, 0, []), (4, .getfield 7, 3, 7, 0, []), (7, .bipush 9, 2, 0, 0, []), (9, .iaload, 1, 0, 0, []), (10, .if_icmp .ge 48, 3, 58, 0, []), (13, .aload_n 0, 1, 0, 0, []), (14, .getfield 7, 3, 7, 0, []), (17, .bipush 42, 2, 0, 0, []), (19, .iconst 5, 1, 0, 0, []), (20, .iload_n 3, 1, 0, 0, []), (21, .imul, 1, 0, 0, []), (22, .iadd, 1, 0, 0, []), (23, .iaload, 1, 0, 0, []), (24, .iload_n 1, 1, 0, 0, []), (25, .if_icmp .ne 27, 3, 52, 0, []), (28, .aload_n 0, 1, 0, 0, []), (29, .getfield 7, 3, 7, 0, []), (32, .bipush 42, 2, 0, 0, []), (34, .iconst 5, 1, 0, 0, []), (35, .iload_n 3, 1, 0, 0, []), (36, .imul, 1, 0, 0, []), (37, .iadd, 1, 0, 0, []), (38, .iconst 1, 1, 0, 0, []), (39, .iadd, 1, 0, 0, []), (40, .iaload, 1, 0, 0, []), (41, .iload_n 2, 1, 0, 0, []), (42, .if_icmp .ne 10, 3, 52, 0, []), (45, .bipush 42, 2, 0, 0, []), (47, .iconst 5, 1, 0, 0, []), (48, .iload_n 3, 1, 0, 0, []), (49, .imul, 1, 0, 0, []), (50, .iadd, 1, 0, 0, []), (51, .ireturn, 1, 0, 0, []), (52, .iinc 3 1, 3, 0, 0, []), (55, .goto (-53), 3, 2, 0, []), (58, .aload_n 0, 1, 0, 0, []), (59, .getfield 7, 3, 7, 0, []), (62, .bipush 9, 2, 0, 0, []), (64, .iaload, 1, 0, 0, []), (65, .bipush 12, 2, 0, 0, []), (67, .if_icmp .ne 43, 3, 110, 0, []), (70, .bipush 42, 2, 0, 0, []), (72, .istore_n 3, 1, 0, 0, []), (73, .iload_n 3, 1, 0, 0, []), (74, .bipush 97, 2, 0, 0, []), (76, .if_icmp .ge 23, 3, 99, 0, []), (79, .aload_n 0, 1, 0, 0, []), (80, .getfield 7, 3, 7, 0, []), (83, .iload_n 3, 1, 0, 0, []), (84, .aload_n 0, 1, 0, 0, []), (85, .getfield 7, 3, 7, 0, []), (88, .iload_n 3, 1, 0, 0, []), (89, .iconst 5, 1, 0, 0, []), (90, .iadd, 1, 0, 0, []), (91, .iaload, 1, 0, 0, []), (92, .iastore, 1, 0, 0, []), (93, .iinc 3 1, 3, 0, 0, []), (96, .goto (-23), 3, 73, 0, []), (99, .aload_n 0, 1, 0, 0, []), (100, .getfield 7, 3, 7, 0, []), (103, .bipush 9, 2, 0, 0, []), (105, .dup2, 1, 0, 0, []), (106, .iaload, 1, 0, 0, []), (107, .iconst 1, 1, 0, 0, []), (108, .isub, 1, 0, 0, []), (109, .iastore, 1, 0, 0, []), (110, .bipush 42, 2, 0, 0, []), (112, .iconst 5, 1, 0, 0, []), (113, .aload_n 0, 1, 0, 0, []), (114, .getfield 7, 3, 7, 0, []), (117, .bipush 9, 2, 0, 0, []), (119, .iaload, 1, 0, 0, []), (120, .imul, 1, 0, 0, []), (121, .iadd, 1, 0, 0, []), (122, .istore_n 3, 1, 0, 0, []), (123, .iconst 0, 1, 0, 0, []), (124, .istore 4, 2, 0, 0, []), (126, .iload 4, 2, 0, 0, []), (128, .iconst 5, 1, 0, 0, []), (129, .if_icmp .ge 38, 3, 167, 0, []), (132, .aload_n 0, 1, 0, 0, []), (133, .getfield 7, 3, 7, 0, []), (136, .iload_n 3, 1, 0, 0, []), (137, .iload 4, 2, 0, 0, []), (139, .iadd, 1, 0, 0, []), (140, .iload 4, 2, 0, 0, []), (142, .ifCond .ne 7, 3, 149, 0, []), (145, .iload_n 1, 1, 0, 0, []), (146, .goto 14, 3, 160, 0, []), (149, .iload 4, 2, 0, 0, []), (151, .iconst 1, 1, 0, 0, []), (152, .if_icmp .ne 7, 3, 159, 0, []), (155, .iload_n 2, 1, 0, 0, []), (156, .goto 4, 3, 160, 0, []), (159, .iconst 0, 1, 0, 0, []), (160, .iastore, 1, 0, 0, []), (161, .iinc 4 1, 3, 0, 0, []), (164, .goto (-38), 3, 126, 0, []), (167, .aload_n 0, 1, 0, 0, []), (168, .getfield 7, 3, 7, 0, []), (171, .bipush 9, 2, 0, 0, []), (173, .dup2, 1, 0, 0, []), (174, .iaload, 1, 0, 0, []), (175, .iconst 1, 1, 0, 0, []), (176, .iadd, 1, 0, 0, []), (177, .iastore, 1, 0, 0, []), (178, .iload_n 3, 1, 0, 0, []), (179, .ireturn, 1, 0, 0, [])]
theorem tX8_entry_ok : xTblOK RX8 cX8_entry xFX8 5 tX8_entry = true := by decide +kernel
abbrev nX8_entry (X : Nat × (Nat → Int32)) : List (Nat × Nat × Nat × XS) := []
def fX8_entry (X : Nat × (Nat → Int32)) : XS := fun as σ => match as with
  | [.inr (.inr (some (7, a0))), .inl a1, .inl a2] => xIter X (xEnv (nX8_entry X)) (fun _ _ => some none) 0 [(2, [0, 1, 2, 3]), (73, [0, 1, 2, 3]), (126, [0, 1, 2, 3, 4])] tX8_entry 100000 (0, [(0, .inr (.inr (some (7, a0)))), (1, .inl a1), (2, .inl a2)], σ, 0)
  | _ => none
theorem rX8_entry (X : Nat × (Nat → Int32)) : ∀ as σ q, fX8_entry X as σ = some q → ∃ j as', as = xR 7 j :: as' := by
  intro as σ q h
  unfold fX8_entry at h
  split at h
  · exact ⟨_, _, rfl⟩
  · cases h
theorem mX8_entry (l : Launch) (X : Nat × (Nat → Int32)) : xMet l X yX8_entry cX8_entry 5 (some .int) 1 0 (fX8_entry X) :=
  xMet_of (cl := xEnv (nX8_entry X)) (rt := 0) (stops := [(2, [0, 1, 2, 3]), (73, [0, 1, 2, 3]), (126, [0, 1, 2, 3, 4])]) (tbl := tX8_entry) (by decide +kernel) (by decide) tX8_entry_ok x_FX8 rfl (xEnv_ok (L := nX8_entry X) (fun _ h => absurd h List.not_mem_nil))
    (xNoNew (by decide +kernel))
    (fun as σ q h => by
      unfold fX8_entry at h
      split at h
      · exact Nat.le_of_ble_eq_true rfl
      · cases h)
    (fun as σ r σ' h => by
      unfold fX8_entry at h
      split at h
      · exact ⟨100000, h⟩
      · cases h)
def tX8_controls : List XE := [(0, .aload_n 0, 1, 0, 0, []), (1, .getfield 7, 3, 7, 0, []), (4, .iconst 2, 1, 0, 0, []), (5, .iaload, 1, 0, 0, []), (6, .aload_n 0, 1, 0, 0, []), (7, .getfield 7, 3, 7, 0, []), (10, .iconst 3, 1, 0, 0, []), (11, .iaload, 1, 0, 0, []), (12, .aload_n 0, 1, 0, 0, []), (13, .invokevirtual 76, 3, 152, 0, []), (16, .isub, 1, 0, 0, []), (17, .imul, 1, 0, 0, []), (18, .sipush 1000, 3, 0, 0, []), (21, .invokestatic 54, 3, 109, 0, []), (24, .aload_n 0, 1, 0, 0, []), (25, .getfield 7, 3, 7, 0, []), (28, .iconst 4, 1, 0, 0, []), (29, .iaload, 1, 0, 0, []), (30, .ineg, 1, 0, 0, []), (31, .aload_n 0, 1, 0, 0, []), (32, .getfield 7, 3, 7, 0, []), (35, .iconst 4, 1, 0, 0, []), (36, .iaload, 1, 0, 0, []), (37, .invokestatic 57, 3, 115, 0, []), (40, .istore_n 1, 1, 0, 0, []), (41, .aload_n 0, 1, 0, 0, []), (42, .getfield 7, 3, 7, 0, []), (45, .iconst 0, 1, 0, 0, []), (46, .aload_n 0, 1, 0, 0, []), (47, .getfield 7, 3, 7, 0, []), (50, .iconst 0, 1, 0, 0, []), (51, .iaload, 1, 0, 0, []), (52, .iload_n 1, 1, 0, 0, []), (53, .iadd, 1, 0, 0, []), (54, .iconst 0, 1, 0, 0, []), (55, .sipush 1000, 3, 0, 0, []), (58, .invokestatic 57, 3, 115, 0, []), (61, .iastore, 1, 0, 0, []), (62, .return_, 1, 0, 0, [])]
theorem tX8_controls_ok : xTblOK RX8 cX8_controls xFX8 2 tX8_controls = true := by decide +kernel
abbrev nX8_controls (X : Nat × (Nat → Int32)) : List (Nat × Nat × Nat × XS) := [(152, 1, 0, fX8_both X), (109, 2, 0, fX8_floor X), (115, 3, 0, fX8_into X)]
def fX8_controls (X : Nat × (Nat → Int32)) : XS := fun as σ => match as with
  | [.inr (.inr (some (7, a0)))] => xIter X (xEnv (nX8_controls X)) (fun _ _ => some none) 4 [] tX8_controls 100000 (0, [(0, .inr (.inr (some (7, a0))))], σ, 0)
  | _ => none
theorem rX8_controls (X : Nat × (Nat → Int32)) : ∀ as σ q, fX8_controls X as σ = some q → ∃ j as', as = xR 7 j :: as' := by
  intro as σ q h
  unfold fX8_controls at h
  split at h
  · exact ⟨_, _, rfl⟩
  · cases h
theorem mX8_controls (l : Launch) (X : Nat × (Nat → Int32)) : xMet l X yX8_controls cX8_controls 2 none 5 0 (fX8_controls X) :=
  xMet_of (cl := xEnv (nX8_controls X)) (rt := 4) (stops := []) (tbl := tX8_controls) (by decide +kernel) (by decide) tX8_controls_ok x_FX8 rfl (xEnv_ok (L := nX8_controls X) (List.forall_mem_cons.mpr ⟨xCS_V (i := 76) (n := 0) (C := RX8) (k := 7) (mX8_both l X) (xPk_in [1044, 1046, 34, 65, 1047] (by decide +kernel) (by decide +kernel)) (by decide +kernel) (by decide) rfl (by decide) (by decide) (rX8_both X), (List.forall_mem_cons.mpr ⟨xCS_S (i := 54) (n := 2) (mX8_floor l X) (xPk_in [1056, 1057, 65, 1058] (by decide +kernel) (by decide +kernel)) (by decide +kernel) (by decide) (by decide), (List.forall_mem_cons.mpr ⟨xCS_S (i := 57) (n := 3) (mX8_into l X) (xPk_in [1059, 1060, 65, 1061] (by decide +kernel) (by decide +kernel)) (by decide +kernel) (by decide) (by decide), (fun _ h => absurd h List.not_mem_nil)⟩)⟩)⟩))
    (xNoNew (by decide +kernel))
    (fun as σ q h => by
      unfold fX8_controls at h
      split at h
      · exact Nat.le_of_ble_eq_true rfl
      · cases h)
    (fun as σ r σ' h => by
      unfold fX8_controls at h
      split at h
      · exact ⟨100000, h⟩
      · cases h)
def tX8_moves : List XE := [(0, .aload_n 0, 1, 0, 0, []), (1, .iload_n 1, 1, 0, 0, []), (2, .aload_n 0, 1, 0, 0, []), (3, .iload_n 1, 1, 0, 0, []), (4, .aload_n 0, 1, 0, 0, []), (5, .getfield 7, 3, 7, 0, []), (8, .iconst 0, 1, 0, 0, []), (9, .iaload, 1, 0, 0, []), (10, .invokevirtual 73, 3, 146, 0, []), (13, .invokevirtual 80, 3, 160, 0, []), (16, .istore_n 2, 1, 0, 0, []), (17, .iload_n 2, 1, 0, 0, []), (18, .ifCond .ge 7, 3, 25, 0, []), (21, .iconst (-1), 1, 0, 0, []), (22, .goto 4, 3, 26, 0, []), (25, .iconst 1, 1, 0, 0, []), (26, .istore_n 3, 1, 0, 0, []), (27, .aload_n 0, 1, 0, 0, []), (28, .getfield 22, 3, 7, 7, []), (31, .iload_n 1, 1, 0, 0, []), (32, .iload_n 2, 1, 0, 0, []), (33, .ifCond .ge 8, 3, 41, 0, []), (36, .iload_n 2, 1, 0, 0, []), (37, .ineg, 1, 0, 0, []), (38, .goto 4, 3, 42, 0, []), (41, .iload_n 2, 1, 0, 0, []), (42, .iastore, 1, 0, 0, []), (43, .aload_n 0, 1, 0, 0, []), (44, .getfield 25, 3, 7, 8, []), (47, .iload_n 1, 1, 0, 0, []), (48, .iload_n 2, 1, 0, 0, []), (49, .ifCond .eq 19, 3, 68, 0, []), (52, .aload_n 0, 1, 0, 0, []), (53, .iload_n 1, 1, 0, 0, []), (54, .bipush 9, 2, 0, 0, []), (56, .invokevirtual 50, 3, 100, 0, []), (59, .iload_n 3, 1, 0, 0, []), (60, .ineg, 1, 0, 0, []), (61, .if_icmp .ne 7, 3, 68, 0, []), (64, .iconst 1, 1, 0, 0, []), (65, .goto 4, 3, 69, 0, []), (68, .iconst 0, 1, 0, 0, []), (69, .iastore, 1, 0, 0, []), (70, .aload_n 0, 1, 0, 0, []), (71, .iload_n 1, 1, 0, 0, []), (72, .bipush 10, 2, 0, 0, []), (74, .iload_n 2, 1, 0, 0, []), (75, .ifCond .ne 7, 3, 82, 0, []), (78, .iconst 0, 1, 0, 0, []), (79, .goto 4, 3, 83, 0, []), (82, .iconst 1, 1, 0, 0, []), (83, .invokevirtual 31, 3, 62, 0, []), (86, .iload_n 2, 1, 0, 0, []), (87, .ifCond .eq 111, 3, 198, 0, []), (90, .aload_n 0, 1, 0, 0, []), (91, .iload_n 1, 1, 0, 0, []), (92, .bipush 8, 2, 0, 0, []), (94, .aload_n 0, 1, 0, 0, []), (95, .iload_n 1, 1, 0, 0, []), (96, .bipush 8, 2, 0, 0, []), (98, .invokevirtual 50, 3, 100, 0, []), (101, .iload_n 2, 1, 0, 0, []), (102, .iadd, 1, 0, 0, []), (103, .invokevirtual 31, 3, 62, 0, []), (106, .aload_n 0, 1, 0, 0, []), (107, .iload_n 1, 1, 0, 0, []), (108, .bipush 9, 2, 0, 0, []), (110, .iload_n 3, 1, 0, 0, []), (111, .invokevirtual 31, 3, 62, 0, []), (114, .aload_n 0, 1, 0, 0, []), (115, .iload_n 1, 1, 0, 0, []), (116, .bipush 11, 2, 0, 0, []), (118, .aload_n 0, 1, 0, 0, []), (119, .iload_n 1, 1, 0, 0, []), (120, .bipush 11, 2, 0, 0, []), (122, .invokevirtual 50, 3, 100, 0, []), (125, .aload_n 0, 1, 0, 0, []), (126, .getfield 22, 3, 7, 7, []), (129, .iload_n 1, 1, 0, 0, []), (130, .iaload, 1, 0, 0, []), (131, .iadd, 1, 0, 0, []), (132, .invokevirtual 31, 3, 62, 0, []), (135, .aload_n 0, 1, 0, 0, []), (136, .iload_n 1, 1, 0, 0, []), (137, .bipush 13, 2, 0, 0, []), (139, .aload_n 0, 1, 0, 0, []), (140, .iload_n 1, 1, 0, 0, []), (141, .bipush 13, 2, 0, 0, []), (143, .invokevirtual 50, 3, 100, 0, []), (146, .aload_n 0, 1, 0, 0, []), (147, .getfield 22, 3, 7, 7, []), (150, .iload_n 1, 1, 0, 0, []), (151, .iaload, 1, 0, 0, []), (152, .iadd, 1, 0, 0, []), (153, .invokevirtual 31, 3, 62, 0, []), (156, .aload_n 0, 1, 0, 0, []), (157, .iload_n 1, 1, 0, 0, []), (158, .bipush 12, 2, 0, 0, []), (160, .aload_n 0, 1, 0, 0, []), (161, .iload_n 1, 1, 0, 0, []), (162, .bipush 12, 2, 0, 0, []), (164, .invokevirtual 50, 3, 100, 0, []), (167, .aload_n 0, 1, 0, 0, []), (168, .getfield 25, 3, 7, 8, []), (171, .iload_n 1, 1, 0, 0, []), (172, .iaload, 1, 0, 0, []), (173, .iadd, 1, 0, 0, []), (174, .invokevirtual 31, 3, 62, 0, []), (177, .aload_n 0, 1, 0, 0, []), (178, .iload_n 1, 1, 0, 0, []), (179, .bipush 14, 2, 0, 0, []), (181, .aload_n 0, 1, 0, 0, []), (182, .iload_n 1, 1, 0, 0, []), (183, .bipush 14, 2, 0, 0, []), (185, .invokevirtual 50, 3, 100, 0, []), (188, .aload_n 0, 1, 0, 0, []), (189, .getfield 25, 3, 7, 8, []), (192, .iload_n 1, 1, 0, 0, []), (193, .iaload, 1, 0, 0, []), (194, .iadd, 1, 0, 0, []), (195, .invokevirtual 31, 3, 62, 0, []), (198, .return_, 1, 0, 0, [])]
theorem tX8_moves_ok : xTblOK RX8 cX8_moves xFX8 4 tX8_moves = true := by decide +kernel
abbrev nX8_moves (X : Nat × (Nat → Int32)) : List (Nat × Nat × Nat × XS) := [(146, 3, 0, fX8_demand X), (160, 3, 0, fX8_move X), (100, 3, 0, fX8_of X), (62, 4, 0, fX8_puts X)]
def fX8_moves (X : Nat × (Nat → Int32)) : XS := fun as σ => match as with
  | [.inr (.inr (some (7, a0))), .inl a1] => xIter X (xEnv (nX8_moves X)) (fun _ _ => some none) 4 [] tX8_moves 100000 (0, [(0, .inr (.inr (some (7, a0)))), (1, .inl a1)], σ, 0)
  | _ => none
theorem rX8_moves (X : Nat × (Nat → Int32)) : ∀ as σ q, fX8_moves X as σ = some q → ∃ j as', as = xR 7 j :: as' := by
  intro as σ q h
  unfold fX8_moves at h
  split at h
  · exact ⟨_, _, rfl⟩
  · cases h
theorem mX8_moves (l : Launch) (X : Nat × (Nat → Int32)) : xMet l X yX8_moves cX8_moves 4 none 5 0 (fX8_moves X) :=
  xMet_of (cl := xEnv (nX8_moves X)) (rt := 4) (stops := []) (tbl := tX8_moves) (by decide +kernel) (by decide) tX8_moves_ok x_FX8 rfl (xEnv_ok (L := nX8_moves X) (List.forall_mem_cons.mpr ⟨xCS_V (i := 73) (n := 2) (C := RX8) (k := 7) (mX8_demand l X) (xPk_in [1066, 1068, 38, 65, 1069] (by decide +kernel) (by decide +kernel)) (by decide +kernel) (by decide) rfl (by decide) (by decide) (rX8_demand X), (List.forall_mem_cons.mpr ⟨xCS_V (i := 80) (n := 2) (C := RX8) (k := 7) (mX8_move l X) (xPk_in [1070, 1072, 39, 65, 1073] (by decide +kernel) (by decide +kernel)) (by decide +kernel) (by decide) rfl (by decide) (by decide) (rX8_move X), (List.forall_mem_cons.mpr ⟨xCS_V (i := 50) (n := 2) (C := RX8) (k := 7) (mX8_of l X) (xPk_in [949, 951, 18, 65, 952] (by decide +kernel) (by decide +kernel)) (by decide +kernel) (by decide) rfl (by decide) (by decide) (rX8_of X), (List.forall_mem_cons.mpr ⟨xCS_V (i := 31) (n := 3) (C := RX8) (k := 7) (mX8_puts l X) (xPk_in [880, 882, 15, 65, 883] (by decide +kernel) (by decide +kernel)) (by decide +kernel) (by decide) rfl (by decide) (by decide) (rX8_puts X), (fun _ h => absurd h List.not_mem_nil)⟩)⟩)⟩)⟩))
    (xNoNew (by decide +kernel))
    (fun as σ q h => by
      unfold fX8_moves at h
      split at h
      · exact Nat.le_of_ble_eq_true rfl
      · cases h)
    (fun as σ r σ' h => by
      unfold fX8_moves at h
      split at h
      · exact ⟨100000, h⟩
      · cases h)
def tX8_tick : List XE := [(0, .aload_n 0, 1, 0, 0, []), (1, .getfield 7, 3, 7, 0, []), (4, .iconst 1, 1, 0, 0, []), (5, .iaload, 1, 0, 0, []), (6, .iconst 1, 1, 0, 0, []), (7, .if_icmp .ne 7, 3, 14, 0, []), (10, .aload_n 0, 1, 0, 0, []), (11, .invokevirtual 83, 3, 166, 0, []), (14, .aload_n 0, 1, 0, 0, []), (15, .iconst 0, 1, 0, 0, []), (16, .invokevirtual 86, 3, 172, 0, []), (19, .aload_n 0, 1, 0, 0, []), (20, .iconst 1, 1, 0, 0, []), (21, .invokevirtual 86, 3, 172, 0, []), (24, .aload_n 0, 1, 0, 0, []), (25, .invokevirtual 76, 3, 152, 0, []), (28, .aload_n 0, 1, 0, 0, []), (29, .aload_n 0, 1, 0, 0, []), (30, .getfield 7, 3, 7, 0, []), (33, .iconst 0, 1, 0, 0, []), (34, .iaload, 1, 0, 0, []), (35, .invokevirtual 90, 3, 180, 0, []), (38, .isub, 1, 0, 0, []), (39, .istore_n 1, 1, 0, 0, []), (40, .aload_n 0, 1, 0, 0, []), (41, .getfield 7, 3, 7, 0, []), (44, .bipush 6, 2, 0, 0, []), (46, .dup2, 1, 0, 0, []), (47, .iaload, 1, 0, 0, []), (48, .aload_n 0, 1, 0, 0, []), (49, .invokevirtual 76, 3, 152, 0, []), (52, .iadd, 1, 0, 0, []), (53, .iastore, 1, 0, 0, []), (54, .aload_n 0, 1, 0, 0, []), (55, .getfield 7, 3, 7, 0, []), (58, .bipush 7, 2, 0, 0, []), (60, .dup2, 1, 0, 0, []), (61, .iaload, 1, 0, 0, []), (62, .iload_n 1, 1, 0, 0, []), (63, .ifCond .ge 8, 3, 71, 0, []), (66, .iload_n 1, 1, 0, 0, []), (67, .ineg, 1, 0, 0, []), (68, .goto 4, 3, 72, 0, []), (71, .iload_n 1, 1, 0, 0, []), (72, .iadd, 1, 0, 0, []), (73, .iastore, 1, 0, 0, []), (74, .iconst 0, 1, 0, 0, []), (75, .istore_n 2, 1, 0, 0, []), (76, .iload_n 2, 1, 0, 0, []), (77, .iconst 2, 1, 0, 0, []), (78, .if_icmp .ge 105, 3, 183, 0, []), (81, .aload_n 0, 1, 0, 0, []), (82, .iload_n 2, 1, 0, 0, []), (83, .bipush 8, 2, 0, 0, []), (85, .invokevirtual 50, 3, 100, 0, []), (88, .ifCond .ne 11, 3, 99, 0, []), (91, .aload_n 0, 1, 0, 0, []), (92, .iload_n 2, 1, 0, 0, []), (93, .invokevirtual 70, 3, 140, 0, []), (96, .goto 4, 3, 100, 0, []), (99, .iconst 0, 1, 0, 0, []), (100, .istore_n 3, 1, 0, 0, []), (101, .aload_n 0, 1, 0, 0, []), (102, .iload_n 2, 1, 0, 0, []), (103, .aload_n 0, 1, 0, 0, []), (104, .getfield 7, 3, 7, 0, []), (107, .iconst 5, 1, 0, 0, []), (108, .iaload, 1, 0, 0, []), (109, .bipush 100, 2, 0, 0, []), (111, .idiv, 1, 0, 0, []), (112, .invokevirtual 93, 3, 186, 0, []), (115, .istore 4, 2, 0, 0, []), (117, .aload_n 0, 1, 0, 0, []), (118, .getfield 7, 3, 7, 0, []), (121, .bipush 8, 2, 0, 0, []), (123, .dup2, 1, 0, 0, []), (124, .iaload, 1, 0, 0, []), (125, .iload_n 3, 1, 0, 0, []), (126, .iadd, 1, 0, 0, []), (127, .iastore, 1, 0, 0, []), (128, .aload_n 0, 1, 0, 0, []), (129, .getfield 7, 3, 7, 0, []), (132, .iload 4, 2, 0, 0, []), (134, .iconst 2, 1, 0, 0, []), (135, .iadd, 1, 0, 0, []), (136, .dup2, 1, 0, 0, []), (137, .iaload, 1, 0, 0, []), (138, .aload_n 0, 1, 0, 0, []), (139, .getfield 22, 3, 7, 7, []), (142, .iload_n 2, 1, 0, 0, []), (143, .iaload, 1, 0, 0, []), (144, .iadd, 1, 0, 0, []), (145, .iastore, 1, 0, 0, []), (146, .aload_n 0, 1, 0, 0, []), (147, .getfield 7, 3, 7, 0, []), (150, .iload 4, 2, 0, 0, []), (152, .iconst 3, 1, 0, 0, []), (153, .iadd, 1, 0, 0, []), (154, .dup2, 1, 0, 0, []), (155, .iaload, 1, 0, 0, []), (156, .aload_n 0, 1, 0, 0, []), (157, .getfield 25, 3, 7, 8, []), (160, .iload_n 2, 1, 0, 0, []), (161, .iaload, 1, 0, 0, []), (162, .iadd, 1, 0, 0, []), (163, .iastore, 1, 0, 0, []), (164, .aload_n 0, 1, 0, 0, []), (165, .getfield 7, 3, 7, 0, []), (168, .iload 4, 2, 0, 0, []), (170, .iconst 4, 1, 0, 0, []), (171, .iadd, 1, 0, 0, []), (172, .dup2, 1, 0, 0, []), (173, .iaload, 1, 0, 0, []), (174, .iload_n 3, 1, 0, 0, []), (175, .iadd, 1, 0, 0, []), (176, .iastore, 1, 0, 0, []), (177, .iinc 2 1, 3, 0, 0, []), (180, .goto (-104), 3, 76, 0, []), (183, .aload_n 0, 1, 0, 0, []), (184, .getfield 7, 3, 7, 0, []), (187, .iconst 5, 1, 0, 0, []), (188, .dup2, 1, 0, 0, []), (189, .iaload, 1, 0, 0, []), (190, .iconst 1, 1, 0, 0, []), (191, .iadd, 1, 0, 0, []), (192, .iastore, 1, 0, 0, []), (193, .aload_n 0, 1, 0, 0, []), (194, .getfield 22, 3, 7, 7, []), (197, .iconst 0, 1, 0, 0, []), (198, .iaload, 1, 0, 0, []), (199, .aload_n 0, 1, 0, 0, []), (200, .getfield 22, 3, 7, 7, []), (203, .iconst 1, 1, 0, 0, []), (204, .iaload, 1, 0, 0, []), (205, .iadd, 1, 0, 0, []), (206, .ifCond .le 7, 3, 213, 0, []), (209, .iconst 1, 1, 0, 0, []), (210, .goto 4, 3, 214, 0, []), (213, .iconst 0, 1, 0, 0, []), (214, .ireturn, 1, 0, 0, [])]
theorem tX8_tick_ok : xTblOK RX8 cX8_tick xFX8 5 tX8_tick = true := by decide +kernel
abbrev nX8_tick (X : Nat × (Nat → Int32)) : List (Nat × Nat × Nat × XS) := [(166, 1, 0, fX8_controls X), (172, 2, 0, fX8_moves X), (152, 1, 0, fX8_both X), (180, 2, 0, fX8_ideal X), (100, 3, 0, fX8_of X), (140, 2, 0, fX8_flow X), (186, 3, 0, fX8_entry X)]
def fX8_tick (X : Nat × (Nat → Int32)) : XS := fun as σ => match as with
  | [.inr (.inr (some (7, a0)))] => xIter X (xEnv (nX8_tick X)) (fun _ _ => some none) 1 [(76, [0, 2])] tX8_tick 100000 (0, [(0, .inr (.inr (some (7, a0))))], σ, 0)
  | _ => none
theorem rX8_tick (X : Nat × (Nat → Int32)) : ∀ as σ q, fX8_tick X as σ = some q → ∃ j as', as = xR 7 j :: as' := by
  intro as σ q h
  unfold fX8_tick at h
  split at h
  · exact ⟨_, _, rfl⟩
  · cases h
theorem mX8_tick (l : Launch) (X : Nat × (Nat → Int32)) : xMet l X yX8_tick cX8_tick 5 (some .boolean) 6 0 (fX8_tick X) :=
  xMet_of (cl := xEnv (nX8_tick X)) (rt := 1) (stops := [(76, [0, 2])]) (tbl := tX8_tick) (by decide +kernel) (by decide) tX8_tick_ok x_FX8 rfl (xEnv_ok (L := nX8_tick X) (List.forall_mem_cons.mpr ⟨xCS_V (i := 83) (n := 0) (C := RX8) (k := 7) (mX8_controls l X) (xPk_in [1040, 1042, 33, 65, 1043] (by decide +kernel) (by decide +kernel)) (by decide +kernel) (by decide) rfl (by decide) (by decide) (rX8_controls X), (List.forall_mem_cons.mpr ⟨xCS_V (i := 86) (n := 1) (C := RX8) (k := 7) (mX8_moves l X) (xPk_in [1062, 1064, 37, 65, 1065] (by decide +kernel) (by decide +kernel)) (by decide +kernel) (by decide) rfl (by decide) (by decide) (rX8_moves X), (List.forall_mem_cons.mpr ⟨xCS_V (i := 76) (n := 0) (C := RX8) (k := 7) (mX8_both l X) (xPk_in [1044, 1046, 34, 65, 1047] (by decide +kernel) (by decide +kernel)) (by decide +kernel) (by decide) rfl (by decide) (by decide) (rX8_both X), (List.forall_mem_cons.mpr ⟨xCS_V (i := 90) (n := 1) (C := RX8) (k := 7) (mX8_ideal l X) (xPk_in [1078, 1080, 41, 65, 1081] (by decide +kernel) (by decide +kernel)) (by decide +kernel) (by decide) rfl (by decide) (by decide) (rX8_ideal X), (List.forall_mem_cons.mpr ⟨xCS_V (i := 50) (n := 2) (C := RX8) (k := 7) (mX8_of l X) (xPk_in [949, 951, 18, 65, 952] (by decide +kernel) (by decide +kernel)) (by decide +kernel) (by decide) rfl (by decide) (by decide) (rX8_of X), (List.forall_mem_cons.mpr ⟨xCS_V (i := 70) (n := 1) (C := RX8) (k := 7) (mX8_flow l X) (xPk_in [1048, 1050, 35, 65, 1051] (by decide +kernel) (by decide +kernel)) (by decide +kernel) (by decide) rfl (by decide) (by decide) (rX8_flow X), (List.forall_mem_cons.mpr ⟨xCS_V (i := 93) (n := 2) (C := RX8) (k := 7) (mX8_entry l X) (xPk_in [1082, 1084, 42, 65, 1085] (by decide +kernel) (by decide +kernel)) (by decide +kernel) (by decide) rfl (by decide) (by decide) (rX8_entry X), (fun _ h => absurd h List.not_mem_nil)⟩)⟩)⟩)⟩)⟩)⟩)⟩))
    (xNoNew (by decide +kernel))
    (fun as σ q h => by
      unfold fX8_tick at h
      split at h
      · exact Nat.le_of_ble_eq_true rfl
      · cases h)
    (fun as σ r σ' h => by
      unfold fX8_tick at h
      split at h
      · exact ⟨100000, h⟩
      · cases h)
def tX8_exchanges : List XE := [(0, .aload_n 0, 1, 0, 0, []), (1, .aload_n 0, 1, 0, 0, []), (2, .getfield 7, 3, 7, 0, []), (5, .iload_n 1, 1, 0, 0, []), (6, .iaload, 1, 0, 0, []), (7, .putfield 96, 3, 7, 9, []), (10, .aload_n 0, 1, 0, 0, []), (11, .getfield 7, 3, 7, 0, []), (14, .iload_n 1, 1, 0, 0, []), (15, .iload_n 2, 1, 0, 0, []), (16, .iastore, 1, 0, 0, []), (17, .iconst 0, 1, 0, 0, []), (18, .ireturn, 1, 0, 0, [])]
theorem tX8_exchanges_ok : xTblOK RX8 cX8_exchanges xFX8 3 tX8_exchanges = true := by decide +kernel
abbrev nX8_exchanges (X : Nat × (Nat → Int32)) : List (Nat × Nat × Nat × XS) := []
def fX8_exchanges (X : Nat × (Nat → Int32)) : XS := fun as σ => match as with
  | [.inr (.inr (some (7, a0))), .inl a1, .inl a2] => xIter X (xEnv (nX8_exchanges X)) (fun _ _ => some none) 0 [] tX8_exchanges 100000 (0, [(0, .inr (.inr (some (7, a0)))), (1, .inl a1), (2, .inl a2)], σ, 0)
  | _ => none
theorem rX8_exchanges (X : Nat × (Nat → Int32)) : ∀ as σ q, fX8_exchanges X as σ = some q → ∃ j as', as = xR 7 j :: as' := by
  intro as σ q h
  unfold fX8_exchanges at h
  split at h
  · exact ⟨_, _, rfl⟩
  · cases h
theorem mX8_exchanges (l : Launch) (X : Nat × (Nat → Int32)) : xMet l X yX8_exchanges cX8_exchanges 3 (some .int) 1 0 (fX8_exchanges X) :=
  xMet_of (cl := xEnv (nX8_exchanges X)) (rt := 0) (stops := []) (tbl := tX8_exchanges) (by decide +kernel) (by decide) tX8_exchanges_ok x_FX8 rfl (xEnv_ok (L := nX8_exchanges X) (fun _ h => absurd h List.not_mem_nil))
    (xNoNew (by decide +kernel))
    (fun as σ q h => by
      unfold fX8_exchanges at h
      split at h
      · exact Nat.le_of_ble_eq_true rfl
      · cases h)
    (fun as σ r σ' h => by
      unfold fX8_exchanges at h
      split at h
      · exact ⟨100000, h⟩
      · cases h)
def tX8_ranges : List XE := [(0, .iload_n 1, 1, 0, 0, []), (1, .invokestatic 99, 3, 199, 0, []), (4, .ifCond .ne 5, 3, 9, 0, []), (7, .iconst 1, 1, 0, 0, []), (8, .ireturn, 1, 0, 0, []), (9, .iload_n 2, 1, 0, 0, []), (10, .iconst 0, 1, 0, 0, []), (11, .sipush 999, 3, 0, 0, []), (14, .invokestatic 46, 3, 93, 0, []), (17, .ifCond .eq 15, 3, 32, 0, []), (20, .iload_n 3, 1, 0, 0, []), (21, .iload_n 2, 1, 0, 0, []), (22, .if_icmp .le 10, 3, 32, 0, []), (25, .iload_n 3, 1, 0, 0, []), (26, .sipush 1000, 3, 0, 0, []), (29, .if_icmp .le 5, 3, 34, 0, []), (32, .iconst 2, 1, 0, 0, []), (33, .ireturn, 1, 0, 0, []), (34, .aload_n 0, 1, 0, 0, []), (35, .sipush 10000, 3, 0, 0, []), (38, .aload_n 0, 1, 0, 0, []), (39, .iload_n 1, 1, 0, 0, []), (40, .iconst 5, 1, 0, 0, []), (41, .invokevirtual 50, 3, 100, 0, []), (44, .imul, 1, 0, 0, []), (45, .aload_n 0, 1, 0, 0, []), (46, .iload_n 1, 1, 0, 0, []), (47, .bipush 6, 2, 0, 0, []), (49, .invokevirtual 50, 3, 100, 0, []), (52, .iadd, 1, 0, 0, []), (53, .putfield 96, 3, 7, 9, []), (56, .aload_n 0, 1, 0, 0, []), (57, .iload_n 1, 1, 0, 0, []), (58, .iconst 5, 1, 0, 0, []), (59, .iload_n 2, 1, 0, 0, []), (60, .invokevirtual 31, 3, 62, 0, []), (63, .aload_n 0, 1, 0, 0, []), (64, .iload_n 1, 1, 0, 0, []), (65, .bipush 6, 2, 0, 0, []), (67, .iload_n 3, 1, 0, 0, []), (68, .invokevirtual 31, 3, 62, 0, []), (71, .aload_n 0, 1, 0, 0, []), (72, .iload_n 1, 1, 0, 0, []), (73, .bipush 7, 2, 0, 0, []), (75, .iload 4, 2, 0, 0, []), (77, .ifCond .eq 7, 3, 84, 0, []), (80, .iconst 1, 1, 0, 0, []), (81, .goto 4, 3, 85, 0, []), (84, .iconst 0, 1, 0, 0, []), (85, .invokevirtual 31, 3, 62, 0, []), (88, .iconst 0, 1, 0, 0, []), (89, .ireturn, 1, 0, 0, [])]
theorem tX8_ranges_ok : xTblOK RX8 cX8_ranges xFX8 5 tX8_ranges = true := by decide +kernel
abbrev nX8_ranges (X : Nat × (Nat → Int32)) : List (Nat × Nat × Nat × XS) := [(199, 1, 0, fX8_isValve X), (93, 3, 0, fX8_in X), (100, 3, 0, fX8_of X), (62, 4, 0, fX8_puts X)]
def fX8_ranges (X : Nat × (Nat → Int32)) : XS := fun as σ => match as with
  | [.inr (.inr (some (7, a0))), .inl a1, .inl a2, .inl a3, .inl a4] => xIter X (xEnv (nX8_ranges X)) (fun _ _ => some none) 0 [] tX8_ranges 100000 (0, [(0, .inr (.inr (some (7, a0)))), (1, .inl a1), (2, .inl a2), (3, .inl a3), (4, .inl a4)], σ, 0)
  | _ => none
theorem rX8_ranges (X : Nat × (Nat → Int32)) : ∀ as σ q, fX8_ranges X as σ = some q → ∃ j as', as = xR 7 j :: as' := by
  intro as σ q h
  unfold fX8_ranges at h
  split at h
  · exact ⟨_, _, rfl⟩
  · cases h
theorem mX8_ranges (l : Launch) (X : Nat × (Nat → Int32)) : xMet l X yX8_ranges cX8_ranges 5 (some .int) 3 0 (fX8_ranges X) :=
  xMet_of (cl := xEnv (nX8_ranges X)) (rt := 0) (stops := []) (tbl := tX8_ranges) (by decide +kernel) (by decide) tX8_ranges_ok x_FX8 rfl (xEnv_ok (L := nX8_ranges X) (List.forall_mem_cons.mpr ⟨xCS_S (i := 99) (n := 1) (mX8_isValve l X) (xPk_in [943, 944, 65, 945] (by decide +kernel) (by decide +kernel)) (by decide +kernel) (by decide) (by decide), (List.forall_mem_cons.mpr ⟨xCS_S (i := 46) (n := 3) (mX8_in l X) (xPk_in [946, 947, 65, 948] (by decide +kernel) (by decide +kernel)) (by decide +kernel) (by decide) (by decide), (List.forall_mem_cons.mpr ⟨xCS_V (i := 50) (n := 2) (C := RX8) (k := 7) (mX8_of l X) (xPk_in [949, 951, 18, 65, 952] (by decide +kernel) (by decide +kernel)) (by decide +kernel) (by decide) rfl (by decide) (by decide) (rX8_of X), (List.forall_mem_cons.mpr ⟨xCS_V (i := 31) (n := 3) (C := RX8) (k := 7) (mX8_puts l X) (xPk_in [880, 882, 15, 65, 883] (by decide +kernel) (by decide +kernel)) (by decide +kernel) (by decide) rfl (by decide) (by decide) (rX8_puts X), (fun _ h => absurd h List.not_mem_nil)⟩)⟩)⟩)⟩))
    (xNoNew (by decide +kernel))
    (fun as σ q h => by
      unfold fX8_ranges at h
      split at h
      · exact Nat.le_of_ble_eq_true rfl
      · cases h)
    (fun as σ r σ' h => by
      unfold fX8_ranges at h
      split at h
      · exact ⟨100000, h⟩
      · cases h)
def tX8_isOfValve : List XE := [(0, .iload_n 0, 1, 0, 0, []), (1, .tableswitch 69 0 4 #[35, 44, 44, 53, 62], 35, 70, 0, [(0, 36), (1, 45), (2, 45), (3, 54), (4, 63)]), (36, .iload_n 1, 1, 0, 0, []), (37, .iconst 1, 1, 0, 0, []), (38, .sipush 1000, 3, 0, 0, []), (41, .invokestatic 46, 3, 93, 0, []), (44, .ireturn, 1, 0, 0, []), (45, .iload_n 1, 1, 0, 0, []), (46, .iconst 0, 1, 0, 0, []), (47, .sipush 300, 3, 0, 0, []), (50, .invokestatic 46, 3, 93, 0, []), (53, .ireturn, 1, 0, 0, []), (54, .iload_n 1, 1, 0, 0, []), (55, .iconst 0, 1, 0, 0, []), (56, .sipush 1000, 3, 0, 0, []), (59, .invokestatic 46, 3, 93, 0, []), (62, .ireturn, 1, 0, 0, []), (63, .iload_n 1, 1, 0, 0, []), (64, .iconst 0, 1, 0, 0, []), (65, .iconst 2, 1, 0, 0, []), (66, .invokestatic 46, 3, 93, 0, []), (69, .ireturn, 1, 0, 0, []), (70, .iconst 0, 1, 0, 0, []), (71, .ireturn, 1, 0, 0, [])]
theorem tX8_isOfValve_ok : xTblOK RX8 cX8_isOfValve xFX8 2 tX8_isOfValve = true := by decide +kernel
abbrev nX8_isOfValve (X : Nat × (Nat → Int32)) : List (Nat × Nat × Nat × XS) := [(93, 3, 0, fX8_in X)]
def fX8_isOfValve (X : Nat × (Nat → Int32)) : XS := fun as σ => match as with
  | [.inl a0, .inl a1] => xIter X (xEnv (nX8_isOfValve X)) (fun _ _ => some none) 1 [] tX8_isOfValve 100000 (0, [(0, .inl a0), (1, .inl a1)], σ, 0)
  | _ => none
theorem mX8_isOfValve (l : Launch) (X : Nat × (Nat → Int32)) : xMet l X yX8_isOfValve cX8_isOfValve 2 (some .boolean) 2 0 (fX8_isOfValve X) :=
  xMet_of (cl := xEnv (nX8_isOfValve X)) (rt := 1) (stops := []) (tbl := tX8_isOfValve) (by decide +kernel) (by decide) tX8_isOfValve_ok x_FX8 rfl (xEnv_ok (L := nX8_isOfValve X) (List.forall_mem_cons.mpr ⟨xCS_S (i := 46) (n := 3) (mX8_in l X) (xPk_in [946, 947, 65, 948] (by decide +kernel) (by decide +kernel)) (by decide +kernel) (by decide) (by decide), (fun _ h => absurd h List.not_mem_nil)⟩))
    (xNoNew (by decide +kernel))
    (fun as σ q h => by
      unfold fX8_isOfValve at h
      split at h
      · exact Nat.le_of_ble_eq_true rfl
      · cases h)
    (fun as σ r σ' h => by
      unfold fX8_isOfValve at h
      split at h
      · exact ⟨100000, h⟩
      · cases h)
def tX8_sets : List XE := [(0, .iload_n 1, 1, 0, 0, []), (1, .invokestatic 99, 3, 199, 0, []), (4, .ifCond .ne 5, 3, 9, 0, []), (7, .iconst 1, 1, 0, 0, []), (8, .ireturn, 1, 0, 0, []), (9, .iload_n 2, 1, 0, 0, []), (10, .iload_n 3, 1, 0, 0, []), (11, .invokestatic 103, 3, 207, 0, []), (14, .ifCond .eq 20, 3, 34, 0, []), (17, .aload_n 0, 1, 0, 0, []), (18, .bipush 10, 2, 0, 0, []), (20, .bipush 16, 2, 0, 0, []), (22, .iload_n 1, 1, 0, 0, []), (23, .imul, 1, 0, 0, []), (24, .iadd, 1, 0, 0, []), (25, .iload_n 2, 1, 0, 0, []), (26, .iadd, 1, 0, 0, []), (27, .iload_n 3, 1, 0, 0, []), (28, .invokevirtual 107, 3, 214, 0, []), (31, .goto 4, 3, 35, 0, []), (34, .iconst 2, 1, 0, 0, []), (35, .ireturn, 1, 0, 0, [])]
theorem tX8_sets_ok : xTblOK RX8 cX8_sets xFX8 4 tX8_sets = true := by decide +kernel
abbrev nX8_sets (X : Nat × (Nat → Int32)) : List (Nat × Nat × Nat × XS) := [(199, 1, 0, fX8_isValve X), (207, 2, 0, fX8_isOfValve X), (214, 3, 0, fX8_exchanges X)]
def fX8_sets (X : Nat × (Nat → Int32)) : XS := fun as σ => match as with
  | [.inr (.inr (some (7, a0))), .inl a1, .inl a2, .inl a3] => xIter X (xEnv (nX8_sets X)) (fun _ _ => some none) 0 [] tX8_sets 100000 (0, [(0, .inr (.inr (some (7, a0)))), (1, .inl a1), (2, .inl a2), (3, .inl a3)], σ, 0)
  | _ => none
theorem rX8_sets (X : Nat × (Nat → Int32)) : ∀ as σ q, fX8_sets X as σ = some q → ∃ j as', as = xR 7 j :: as' := by
  intro as σ q h
  unfold fX8_sets at h
  split at h
  · exact ⟨_, _, rfl⟩
  · cases h
theorem mX8_sets (l : Launch) (X : Nat × (Nat → Int32)) : xMet l X yX8_sets cX8_sets 4 (some .int) 3 0 (fX8_sets X) :=
  xMet_of (cl := xEnv (nX8_sets X)) (rt := 0) (stops := []) (tbl := tX8_sets) (by decide +kernel) (by decide) tX8_sets_ok x_FX8 rfl (xEnv_ok (L := nX8_sets X) (List.forall_mem_cons.mpr ⟨xCS_S (i := 99) (n := 1) (mX8_isValve l X) (xPk_in [943, 944, 65, 945] (by decide +kernel) (by decide +kernel)) (by decide +kernel) (by decide) (by decide), (List.forall_mem_cons.mpr ⟨xCS_S (i := 103) (n := 2) (mX8_isOfValve l X) (xPk_in [977, 978, 65, 979] (by decide +kernel) (by decide +kernel)) (by decide +kernel) (by decide) (by decide), (List.forall_mem_cons.mpr ⟨xCS_V (i := 107) (n := 2) (C := RX8) (k := 7) (mX8_exchanges l X) (xPk_in [980, 982, 24, 65, 983] (by decide +kernel) (by decide +kernel)) (by decide +kernel) (by decide) rfl (by decide) (by decide) (rX8_exchanges X), (fun _ h => absurd h List.not_mem_nil)⟩)⟩)⟩))
    (xNoNew (by decide +kernel))
    (fun as σ q h => by
      unfold fX8_sets at h
      split at h
      · exact Nat.le_of_ble_eq_true rfl
      · cases h)
    (fun as σ r σ' h => by
      unfold fX8_sets at h
      split at h
      · exact ⟨100000, h⟩
      · cases h)
def tX8_signals : List XE := [(0, .iload_n 1, 1, 0, 0, []), (1, .iconst 0, 1, 0, 0, []), (2, .sipush 1000, 3, 0, 0, []), (5, .invokestatic 46, 3, 93, 0, []), (8, .ifCond .eq 12, 3, 20, 0, []), (11, .aload_n 0, 1, 0, 0, []), (12, .iconst 0, 1, 0, 0, []), (13, .iload_n 1, 1, 0, 0, []), (14, .invokevirtual 107, 3, 214, 0, []), (17, .goto 4, 3, 21, 0, []), (20, .iconst 2, 1, 0, 0, []), (21, .ireturn, 1, 0, 0, [])]
theorem tX8_signals_ok : xTblOK RX8 cX8_signals xFX8 2 tX8_signals = true := by decide +kernel
abbrev nX8_signals (X : Nat × (Nat → Int32)) : List (Nat × Nat × Nat × XS) := [(93, 3, 0, fX8_in X), (214, 3, 0, fX8_exchanges X)]
def fX8_signals (X : Nat × (Nat → Int32)) : XS := fun as σ => match as with
  | [.inr (.inr (some (7, a0))), .inl a1] => xIter X (xEnv (nX8_signals X)) (fun _ _ => some none) 0 [] tX8_signals 100000 (0, [(0, .inr (.inr (some (7, a0)))), (1, .inl a1)], σ, 0)
  | _ => none
theorem rX8_signals (X : Nat × (Nat → Int32)) : ∀ as σ q, fX8_signals X as σ = some q → ∃ j as', as = xR 7 j :: as' := by
  intro as σ q h
  unfold fX8_signals at h
  split at h
  · exact ⟨_, _, rfl⟩
  · cases h
theorem mX8_signals (l : Launch) (X : Nat × (Nat → Int32)) : xMet l X yX8_signals cX8_signals 2 (some .int) 2 0 (fX8_signals X) :=
  xMet_of (cl := xEnv (nX8_signals X)) (rt := 0) (stops := []) (tbl := tX8_signals) (by decide +kernel) (by decide) tX8_signals_ok x_FX8 rfl (xEnv_ok (L := nX8_signals X) (List.forall_mem_cons.mpr ⟨xCS_S (i := 46) (n := 3) (mX8_in l X) (xPk_in [946, 947, 65, 948] (by decide +kernel) (by decide +kernel)) (by decide +kernel) (by decide) (by decide), (List.forall_mem_cons.mpr ⟨xCS_V (i := 107) (n := 2) (C := RX8) (k := 7) (mX8_exchanges l X) (xPk_in [980, 982, 24, 65, 983] (by decide +kernel) (by decide +kernel)) (by decide +kernel) (by decide) rfl (by decide) (by decide) (rX8_exchanges X), (fun _ h => absurd h List.not_mem_nil)⟩)⟩))
    (xNoNew (by decide +kernel))
    (fun as σ q h => by
      unfold fX8_signals at h
      split at h
      · exact Nat.le_of_ble_eq_true rfl
      · cases h)
    (fun as σ r σ' h => by
      unfold fX8_signals at h
      split at h
      · exact ⟨100000, h⟩
      · cases h)
def tX8_isTuning : List XE := [(0, .iload_n 0, 1, 0, 0, []), (1, .tableswitch 67 0 3 #[31, 38, 49, 58], 31, 68, 0, [(0, 32), (1, 39), (2, 50), (3, 59)]), (32, .iload_n 1, 1, 0, 0, []), (33, .iconst 0, 1, 0, 0, []), (34, .iconst 1, 1, 0, 0, []), (35, .invokestatic 46, 3, 93, 0, []), (38, .ireturn, 1, 0, 0, []), (39, .iload_n 1, 1, 0, 0, []), (40, .sipush (-10000), 3, 0, 0, []), (43, .sipush 10000, 3, 0, 0, []), (46, .invokestatic 46, 3, 93, 0, []), (49, .ireturn, 1, 0, 0, []), (50, .iload_n 1, 1, 0, 0, []), (51, .iconst 0, 1, 0, 0, []), (52, .sipush 2000, 3, 0, 0, []), (55, .invokestatic 46, 3, 93, 0, []), (58, .ireturn, 1, 0, 0, []), (59, .iload_n 1, 1, 0, 0, []), (60, .iconst 1, 1, 0, 0, []), (61, .sipush 1000, 3, 0, 0, []), (64, .invokestatic 46, 3, 93, 0, []), (67, .ireturn, 1, 0, 0, []), (68, .iconst 0, 1, 0, 0, []), (69, .ireturn, 1, 0, 0, [])]
theorem tX8_isTuning_ok : xTblOK RX8 cX8_isTuning xFX8 2 tX8_isTuning = true := by decide +kernel
abbrev nX8_isTuning (X : Nat × (Nat → Int32)) : List (Nat × Nat × Nat × XS) := [(93, 3, 0, fX8_in X)]
def fX8_isTuning (X : Nat × (Nat → Int32)) : XS := fun as σ => match as with
  | [.inl a0, .inl a1] => xIter X (xEnv (nX8_isTuning X)) (fun _ _ => some none) 1 [] tX8_isTuning 100000 (0, [(0, .inl a0), (1, .inl a1)], σ, 0)
  | _ => none
theorem mX8_isTuning (l : Launch) (X : Nat × (Nat → Int32)) : xMet l X yX8_isTuning cX8_isTuning 2 (some .boolean) 2 0 (fX8_isTuning X) :=
  xMet_of (cl := xEnv (nX8_isTuning X)) (rt := 1) (stops := []) (tbl := tX8_isTuning) (by decide +kernel) (by decide) tX8_isTuning_ok x_FX8 rfl (xEnv_ok (L := nX8_isTuning X) (List.forall_mem_cons.mpr ⟨xCS_S (i := 46) (n := 3) (mX8_in l X) (xPk_in [946, 947, 65, 948] (by decide +kernel) (by decide +kernel)) (by decide +kernel) (by decide) (by decide), (fun _ h => absurd h List.not_mem_nil)⟩))
    (xNoNew (by decide +kernel))
    (fun as σ q h => by
      unfold fX8_isTuning at h
      split at h
      · exact Nat.le_of_ble_eq_true rfl
      · cases h)
    (fun as σ r σ' h => by
      unfold fX8_isTuning at h
      split at h
      · exact ⟨100000, h⟩
      · cases h)
def tX8_tunes : List XE := [(0, .iload_n 1, 1, 0, 0, []), (1, .iload_n 2, 1, 0, 0, []), (2, .invokestatic 110, 3, 221, 0, []), (5, .ifCond .eq 14, 3, 19, 0, []), (8, .aload_n 0, 1, 0, 0, []), (9, .iconst 1, 1, 0, 0, []), (10, .iload_n 1, 1, 0, 0, []), (11, .iadd, 1, 0, 0, []), (12, .iload_n 2, 1, 0, 0, []), (13, .invokevirtual 107, 3, 214, 0, []), (16, .goto 4, 3, 20, 0, []), (19, .iconst 2, 1, 0, 0, []), (20, .ireturn, 1, 0, 0, [])]
theorem tX8_tunes_ok : xTblOK RX8 cX8_tunes xFX8 3 tX8_tunes = true := by decide +kernel
abbrev nX8_tunes (X : Nat × (Nat → Int32)) : List (Nat × Nat × Nat × XS) := [(221, 2, 0, fX8_isTuning X), (214, 3, 0, fX8_exchanges X)]
def fX8_tunes (X : Nat × (Nat → Int32)) : XS := fun as σ => match as with
  | [.inr (.inr (some (7, a0))), .inl a1, .inl a2] => xIter X (xEnv (nX8_tunes X)) (fun _ _ => some none) 0 [] tX8_tunes 100000 (0, [(0, .inr (.inr (some (7, a0)))), (1, .inl a1), (2, .inl a2)], σ, 0)
  | _ => none
theorem rX8_tunes (X : Nat × (Nat → Int32)) : ∀ as σ q, fX8_tunes X as σ = some q → ∃ j as', as = xR 7 j :: as' := by
  intro as σ q h
  unfold fX8_tunes at h
  split at h
  · exact ⟨_, _, rfl⟩
  · cases h
theorem mX8_tunes (l : Launch) (X : Nat × (Nat → Int32)) : xMet l X yX8_tunes cX8_tunes 3 (some .int) 3 0 (fX8_tunes X) :=
  xMet_of (cl := xEnv (nX8_tunes X)) (rt := 0) (stops := []) (tbl := tX8_tunes) (by decide +kernel) (by decide) tX8_tunes_ok x_FX8 rfl (xEnv_ok (L := nX8_tunes X) (List.forall_mem_cons.mpr ⟨xCS_S (i := 110) (n := 2) (mX8_isTuning l X) (xPk_in [1004, 1005, 65, 1006] (by decide +kernel) (by decide +kernel)) (by decide +kernel) (by decide) (by decide), (List.forall_mem_cons.mpr ⟨xCS_V (i := 107) (n := 2) (C := RX8) (k := 7) (mX8_exchanges l X) (xPk_in [980, 982, 24, 65, 983] (by decide +kernel) (by decide +kernel)) (by decide +kernel) (by decide) rfl (by decide) (by decide) (rX8_exchanges X), (fun _ h => absurd h List.not_mem_nil)⟩)⟩))
    (xNoNew (by decide +kernel))
    (fun as σ q h => by
      unfold fX8_tunes at h
      split at h
      · exact Nat.le_of_ble_eq_true rfl
      · cases h)
    (fun as σ r σ' h => by
      unfold fX8_tunes at h
      split at h
      · exact ⟨100000, h⟩
      · cases h)
def tX8_holds : List XE := [(0, .aload_n 0, 1, 0, 0, []), (1, .iconst 2, 1, 0, 0, []), (2, .iload_n 1, 1, 0, 0, []), (3, .invokevirtual 113, 3, 226, 0, []), (6, .istore_n 2, 1, 0, 0, []), (7, .iload_n 2, 1, 0, 0, []), (8, .ifCond .le 7, 3, 15, 0, []), (11, .iload_n 2, 1, 0, 0, []), (12, .goto 9, 3, 21, 0, []), (15, .aload_n 0, 1, 0, 0, []), (16, .iconst 0, 1, 0, 0, []), (17, .iconst 1, 1, 0, 0, []), (18, .invokevirtual 113, 3, 226, 0, []), (21, .ireturn, 1, 0, 0, [])]
theorem tX8_holds_ok : xTblOK RX8 cX8_holds xFX8 3 tX8_holds = true := by decide +kernel
abbrev nX8_holds (X : Nat × (Nat → Int32)) : List (Nat × Nat × Nat × XS) := [(226, 3, 0, fX8_tunes X)]
def fX8_holds (X : Nat × (Nat → Int32)) : XS := fun as σ => match as with
  | [.inr (.inr (some (7, a0))), .inl a1] => xIter X (xEnv (nX8_holds X)) (fun _ _ => some none) 0 [] tX8_holds 100000 (0, [(0, .inr (.inr (some (7, a0)))), (1, .inl a1)], σ, 0)
  | _ => none
theorem rX8_holds (X : Nat × (Nat → Int32)) : ∀ as σ q, fX8_holds X as σ = some q → ∃ j as', as = xR 7 j :: as' := by
  intro as σ q h
  unfold fX8_holds at h
  split at h
  · exact ⟨_, _, rfl⟩
  · cases h
theorem mX8_holds (l : Launch) (X : Nat × (Nat → Int32)) : xMet l X yX8_holds cX8_holds 3 (some .int) 4 0 (fX8_holds X) :=
  xMet_of (cl := xEnv (nX8_holds X)) (rt := 0) (stops := []) (tbl := tX8_holds) (by decide +kernel) (by decide) tX8_holds_ok x_FX8 rfl (xEnv_ok (L := nX8_holds X) (List.forall_mem_cons.mpr ⟨xCS_V (i := 113) (n := 2) (C := RX8) (k := 7) (mX8_tunes l X) (xPk_in [1000, 1002, 27, 65, 1003] (by decide +kernel) (by decide +kernel)) (by decide +kernel) (by decide) rfl (by decide) (by decide) (rX8_tunes X), (fun _ h => absurd h List.not_mem_nil)⟩))
    (xNoNew (by decide +kernel))
    (fun as σ q h => by
      unfold fX8_holds at h
      split at h
      · exact Nat.le_of_ble_eq_true rfl
      · cases h)
    (fun as σ r σ' h => by
      unfold fX8_holds at h
      split at h
      · exact ⟨100000, h⟩
      · cases h)
def tX8_serves : List XE := [(0, .iload_n 1, 1, 0, 0, []), (1, .invokestatic 99, 3, 199, 0, []), (4, .ifCond .ne 5, 3, 9, 0, []), (7, .iconst 1, 1, 0, 0, []), (8, .ireturn, 1, 0, 0, []), (9, .aload_n 0, 1, 0, 0, []), (10, .aload_n 0, 1, 0, 0, []), (11, .iload_n 1, 1, 0, 0, []), (12, .invokevirtual 61, 3, 122, 0, []), (15, .putfield 96, 3, 7, 9, []), (18, .aload_n 0, 1, 0, 0, []), (19, .iload_n 1, 1, 0, 0, []), (20, .bipush 11, 2, 0, 0, []), (22, .iconst 0, 1, 0, 0, []), (23, .invokevirtual 31, 3, 62, 0, []), (26, .aload_n 0, 1, 0, 0, []), (27, .iload_n 1, 1, 0, 0, []), (28, .bipush 12, 2, 0, 0, []), (30, .iconst 0, 1, 0, 0, []), (31, .invokevirtual 31, 3, 62, 0, []), (34, .aload_n 0, 1, 0, 0, []), (35, .iload_n 1, 1, 0, 0, []), (36, .bipush 15, 2, 0, 0, []), (38, .aload_n 0, 1, 0, 0, []), (39, .iload_n 1, 1, 0, 0, []), (40, .bipush 15, 2, 0, 0, []), (42, .invokevirtual 50, 3, 100, 0, []), (45, .iconst 1, 1, 0, 0, []), (46, .iadd, 1, 0, 0, []), (47, .invokevirtual 31, 3, 62, 0, []), (50, .iconst 0, 1, 0, 0, []), (51, .ireturn, 1, 0, 0, [])]
theorem tX8_serves_ok : xTblOK RX8 cX8_serves xFX8 2 tX8_serves = true := by decide +kernel
abbrev nX8_serves (X : Nat × (Nat → Int32)) : List (Nat × Nat × Nat × XS) := [(199, 1, 0, fX8_isValve X), (122, 2, 0, fX8_wear X), (62, 4, 0, fX8_puts X), (100, 3, 0, fX8_of X)]
def fX8_serves (X : Nat × (Nat → Int32)) : XS := fun as σ => match as with
  | [.inr (.inr (some (7, a0))), .inl a1] => xIter X (xEnv (nX8_serves X)) (fun _ _ => some none) 0 [] tX8_serves 100000 (0, [(0, .inr (.inr (some (7, a0)))), (1, .inl a1)], σ, 0)
  | _ => none
theorem rX8_serves (X : Nat × (Nat → Int32)) : ∀ as σ q, fX8_serves X as σ = some q → ∃ j as', as = xR 7 j :: as' := by
  intro as σ q h
  unfold fX8_serves at h
  split at h
  · exact ⟨_, _, rfl⟩
  · cases h
theorem mX8_serves (l : Launch) (X : Nat × (Nat → Int32)) : xMet l X yX8_serves cX8_serves 2 (some .int) 3 0 (fX8_serves X) :=
  xMet_of (cl := xEnv (nX8_serves X)) (rt := 0) (stops := []) (tbl := tX8_serves) (by decide +kernel) (by decide) tX8_serves_ok x_FX8 rfl (xEnv_ok (L := nX8_serves X) (List.forall_mem_cons.mpr ⟨xCS_S (i := 99) (n := 1) (mX8_isValve l X) (xPk_in [943, 944, 65, 945] (by decide +kernel) (by decide +kernel)) (by decide +kernel) (by decide) (by decide), (List.forall_mem_cons.mpr ⟨xCS_V (i := 61) (n := 1) (C := RX8) (k := 7) (mX8_wear l X) (xPk_in [1015, 1017, 29, 65, 1018] (by decide +kernel) (by decide +kernel)) (by decide +kernel) (by decide) rfl (by decide) (by decide) (rX8_wear X), (List.forall_mem_cons.mpr ⟨xCS_V (i := 31) (n := 3) (C := RX8) (k := 7) (mX8_puts l X) (xPk_in [880, 882, 15, 65, 883] (by decide +kernel) (by decide +kernel)) (by decide +kernel) (by decide) rfl (by decide) (by decide) (rX8_puts X), (List.forall_mem_cons.mpr ⟨xCS_V (i := 50) (n := 2) (C := RX8) (k := 7) (mX8_of l X) (xPk_in [949, 951, 18, 65, 952] (by decide +kernel) (by decide +kernel)) (by decide +kernel) (by decide) rfl (by decide) (by decide) (rX8_of X), (fun _ h => absurd h List.not_mem_nil)⟩)⟩)⟩)⟩))
    (xNoNew (by decide +kernel))
    (fun as σ q h => by
      unfold fX8_serves at h
      split at h
      · exact Nat.le_of_ble_eq_true rfl
      · cases h)
    (fun as σ r σ' h => by
      unfold fX8_serves at h
      split at h
      · exact ⟨100000, h⟩
      · cases h)
def tX8_stems : List XE := [(0, .iload_n 1, 1, 0, 0, []), (1, .invokestatic 99, 3, 199, 0, []), (4, .ifCond .ne 5, 3, 9, 0, []), (7, .iconst 1, 1, 0, 0, []), (8, .ireturn, 1, 0, 0, []), (9, .iload_n 2, 1, 0, 0, []), (10, .iconst 0, 1, 0, 0, []), (11, .sipush 1000, 3, 0, 0, []), (14, .invokestatic 46, 3, 93, 0, []), (17, .ifCond .ne 5, 3, 22, 0, []), (20, .iconst 2, 1, 0, 0, []), (21, .ireturn, 1, 0, 0, []), (22, .aload_n 0, 1, 0, 0, []), (23, .aload_n 0, 1, 0, 0, []), (24, .iload_n 1, 1, 0, 0, []), (25, .bipush 8, 2, 0, 0, []), (27, .invokevirtual 50, 3, 100, 0, []), (30, .putfield 96, 3, 7, 9, []), (33, .aload_n 0, 1, 0, 0, []), (34, .iload_n 1, 1, 0, 0, []), (35, .bipush 8, 2, 0, 0, []), (37, .iload_n 2, 1, 0, 0, []), (38, .invokevirtual 31, 3, 62, 0, []), (41, .aload_n 0, 1, 0, 0, []), (42, .iload_n 1, 1, 0, 0, []), (43, .bipush 9, 2, 0, 0, []), (45, .iconst 0, 1, 0, 0, []), (46, .invokevirtual 31, 3, 62, 0, []), (49, .aload_n 0, 1, 0, 0, []), (50, .iload_n 1, 1, 0, 0, []), (51, .bipush 10, 2, 0, 0, []), (53, .iconst 0, 1, 0, 0, []), (54, .invokevirtual 31, 3, 62, 0, []), (57, .iconst 0, 1, 0, 0, []), (58, .ireturn, 1, 0, 0, [])]
theorem tX8_stems_ok : xTblOK RX8 cX8_stems xFX8 3 tX8_stems = true := by decide +kernel
abbrev nX8_stems (X : Nat × (Nat → Int32)) : List (Nat × Nat × Nat × XS) := [(199, 1, 0, fX8_isValve X), (93, 3, 0, fX8_in X), (100, 3, 0, fX8_of X), (62, 4, 0, fX8_puts X)]
def fX8_stems (X : Nat × (Nat → Int32)) : XS := fun as σ => match as with
  | [.inr (.inr (some (7, a0))), .inl a1, .inl a2] => xIter X (xEnv (nX8_stems X)) (fun _ _ => some none) 0 [] tX8_stems 100000 (0, [(0, .inr (.inr (some (7, a0)))), (1, .inl a1), (2, .inl a2)], σ, 0)
  | _ => none
theorem rX8_stems (X : Nat × (Nat → Int32)) : ∀ as σ q, fX8_stems X as σ = some q → ∃ j as', as = xR 7 j :: as' := by
  intro as σ q h
  unfold fX8_stems at h
  split at h
  · exact ⟨_, _, rfl⟩
  · cases h
theorem mX8_stems (l : Launch) (X : Nat × (Nat → Int32)) : xMet l X yX8_stems cX8_stems 3 (some .int) 3 0 (fX8_stems X) :=
  xMet_of (cl := xEnv (nX8_stems X)) (rt := 0) (stops := []) (tbl := tX8_stems) (by decide +kernel) (by decide) tX8_stems_ok x_FX8 rfl (xEnv_ok (L := nX8_stems X) (List.forall_mem_cons.mpr ⟨xCS_S (i := 99) (n := 1) (mX8_isValve l X) (xPk_in [943, 944, 65, 945] (by decide +kernel) (by decide +kernel)) (by decide +kernel) (by decide) (by decide), (List.forall_mem_cons.mpr ⟨xCS_S (i := 46) (n := 3) (mX8_in l X) (xPk_in [946, 947, 65, 948] (by decide +kernel) (by decide +kernel)) (by decide +kernel) (by decide) (by decide), (List.forall_mem_cons.mpr ⟨xCS_V (i := 50) (n := 2) (C := RX8) (k := 7) (mX8_of l X) (xPk_in [949, 951, 18, 65, 952] (by decide +kernel) (by decide +kernel)) (by decide +kernel) (by decide) rfl (by decide) (by decide) (rX8_of X), (List.forall_mem_cons.mpr ⟨xCS_V (i := 31) (n := 3) (C := RX8) (k := 7) (mX8_puts l X) (xPk_in [880, 882, 15, 65, 883] (by decide +kernel) (by decide +kernel)) (by decide +kernel) (by decide) rfl (by decide) (by decide) (rX8_puts X), (fun _ h => absurd h List.not_mem_nil)⟩)⟩)⟩)⟩))
    (xNoNew (by decide +kernel))
    (fun as σ q h => by
      unfold fX8_stems at h
      split at h
      · exact Nat.le_of_ble_eq_true rfl
      · cases h)
    (fun as σ r σ' h => by
      unfold fX8_stems at h
      split at h
      · exact ⟨100000, h⟩
      · cases h)
def tX8_runs : List XE := [(0, .iload_n 1, 1, 0, 0, []), (1, .iconst 1, 1, 0, 0, []), (2, .sipush 500, 3, 0, 0, []), (5, .invokestatic 46, 3, 93, 0, []), (8, .ifCond .ne 5, 3, 13, 0, []), (11, .iconst 2, 1, 0, 0, []), (12, .ireturn, 1, 0, 0, []), (13, .aload_n 0, 1, 0, 0, []), (14, .getfield 7, 3, 7, 0, []), (17, .iconst 5, 1, 0, 0, []), (18, .iaload, 1, 0, 0, []), (19, .iload_n 1, 1, 0, 0, []), (20, .iadd, 1, 0, 0, []), (21, .ldc 116, 2, 0, 0, [(200000, 0)]), (23, .if_icmp .le 5, 3, 28, 0, []), (26, .iconst 3, 1, 0, 0, []), (27, .ireturn, 1, 0, 0, []), (28, .aload_n 0, 1, 0, 0, []), (29, .iconst 0, 1, 0, 0, []), (30, .putfield 96, 3, 7, 9, []), (33, .iconst 0, 1, 0, 0, []), (34, .istore_n 2, 1, 0, 0, []), (35, .iload_n 2, 1, 0, 0, []), (36, .iload_n 1, 1, 0, 0, []), (37, .if_icmp .ge 30, 3, 67, 0, []), (40, .aload_n 0, 1, 0, 0, []), (41, .dup, 1, 0, 0, []), (42, .getfield 96, 3, 7, 9, []), (45, .aload_n 0, 1, 0, 0, []), (46, .invokevirtual 117, 3, 234, 0, []), (49, .ifCond .eq 7, 3, 56, 0, []), (52, .iconst 1, 1, 0, 0, []), (53, .goto 4, 3, 57, 0, []), (56, .iconst 0, 1, 0, 0, []), (57, .iadd, 1, 0, 0, []), (58, .putfield 96, 3, 7, 9, []), (61, .iinc 2 1, 3, 0, 0, []), (64, .goto (-29), 3, 35, 0, []), (67, .iconst 0, 1, 0, 0, []), (68, .ireturn, 1, 0, 0, [])]
theorem tX8_runs_ok : xTblOK RX8 cX8_runs xFX8 3 tX8_runs = true := by decide +kernel
abbrev nX8_runs (X : Nat × (Nat → Int32)) : List (Nat × Nat × Nat × XS) := [(93, 3, 0, fX8_in X), (234, 1, 0, fX8_tick X)]
def fX8_runs (X : Nat × (Nat → Int32)) : XS := fun as σ => match as with
  | [.inr (.inr (some (7, a0))), .inl a1] => xIter X (xEnv (nX8_runs X)) (fun _ _ => some none) 0 [(35, [0, 1, 2])] tX8_runs 100000 (0, [(0, .inr (.inr (some (7, a0)))), (1, .inl a1)], σ, 0)
  | _ => none
theorem rX8_runs (X : Nat × (Nat → Int32)) : ∀ as σ q, fX8_runs X as σ = some q → ∃ j as', as = xR 7 j :: as' := by
  intro as σ q h
  unfold fX8_runs at h
  split at h
  · exact ⟨_, _, rfl⟩
  · cases h
theorem mX8_runs (l : Launch) (X : Nat × (Nat → Int32)) : xMet l X yX8_runs cX8_runs 3 (some .int) 7 0 (fX8_runs X) :=
  xMet_of (cl := xEnv (nX8_runs X)) (rt := 0) (stops := [(35, [0, 1, 2])]) (tbl := tX8_runs) (by decide +kernel) (by decide) tX8_runs_ok x_FX8 rfl (xEnv_ok (L := nX8_runs X) (List.forall_mem_cons.mpr ⟨xCS_S (i := 46) (n := 3) (mX8_in l X) (xPk_in [946, 947, 65, 948] (by decide +kernel) (by decide +kernel)) (by decide +kernel) (by decide) (by decide), (List.forall_mem_cons.mpr ⟨xCS_V (i := 117) (n := 0) (C := RX8) (k := 7) (mX8_tick l X) (xPk_in [1036, 1038, 32, 65, 1039] (by decide +kernel) (by decide +kernel)) (by decide +kernel) (by decide) rfl (by decide) (by decide) (rX8_tick X), (fun _ h => absurd h List.not_mem_nil)⟩)⟩))
    (xNoNew (by decide +kernel))
    (fun as σ q h => by
      unfold fX8_runs at h
      split at h
      · exact Nat.le_of_ble_eq_true rfl
      · cases h)
    (fun as σ r σ' h => by
      unfold fX8_runs at h
      split at h
      · exact ⟨100000, h⟩
      · cases h)
def tX8_done : List XE := [(0, .iload_n 1, 1, 0, 0, []), (1, .ifCond .le 11, 3, 12, 0, []), (4, .aload_n 0, 1, 0, 0, []), (5, .iload_n 1, 1, 0, 0, []), (6, .invokevirtual 121, 3, 242, 0, []), (9, .goto 11, 3, 20, 0, []), (12, .aload_n 0, 1, 0, 0, []), (13, .aload_n 0, 1, 0, 0, []), (14, .getfield 96, 3, 7, 9, []), (17, .invokevirtual 124, 3, 248, 0, []), (20, .ireturn, 1, 0, 0, [])]
theorem tX8_done_ok : xTblOK RX8 cX8_done xFX8 2 tX8_done = true := by decide +kernel
abbrev nX8_done (X : Nat × (Nat → Int32)) : List (Nat × Nat × Nat × XS) := [(242, 2, 0, fX8_fails X), (248, 2, 0, fX8_ends X)]
def fX8_done (X : Nat × (Nat → Int32)) : XS := fun as σ => match as with
  | [.inr (.inr (some (7, a0))), .inl a1] => xIter X (xEnv (nX8_done X)) (fun _ _ => some none) 0 [] tX8_done 100000 (0, [(0, .inr (.inr (some (7, a0)))), (1, .inl a1)], σ, 0)
  | _ => none
theorem rX8_done (X : Nat × (Nat → Int32)) : ∀ as σ q, fX8_done X as σ = some q → ∃ j as', as = xR 7 j :: as' := by
  intro as σ q h
  unfold fX8_done at h
  split at h
  · exact ⟨_, _, rfl⟩
  · cases h
theorem mX8_done (l : Launch) (X : Nat × (Nat → Int32)) : xMet l X yX8_done cX8_done 2 (some .int) 3 0 (fX8_done X) :=
  xMet_of (cl := xEnv (nX8_done X)) (rt := 0) (stops := []) (tbl := tX8_done) (by decide +kernel) (by decide) tX8_done_ok x_FX8 rfl (xEnv_ok (L := nX8_done X) (List.forall_mem_cons.mpr ⟨xCS_V (i := 121) (n := 1) (C := RX8) (k := 7) (mX8_fails l X) (xPk_in [957, 959, 20, 65, 960] (by decide +kernel) (by decide +kernel)) (by decide +kernel) (by decide) rfl (by decide) (by decide) (rX8_fails X), (List.forall_mem_cons.mpr ⟨xCS_V (i := 124) (n := 1) (C := RX8) (k := 7) (mX8_ends l X) (xPk_in [961, 963, 21, 65, 964] (by decide +kernel) (by decide +kernel)) (by decide +kernel) (by decide) rfl (by decide) (by decide) (rX8_ends X), (fun _ h => absurd h List.not_mem_nil)⟩)⟩))
    (xNoNew (by decide +kernel))
    (fun as σ q h => by
      unfold fX8_done at h
      split at h
      · exact Nat.le_of_ble_eq_true rfl
      · cases h)
    (fun as σ r σ' h => by
      unfold fX8_done at h
      split at h
      · exact ⟨100000, h⟩
      · cases h)
def tX8_doneAlone : List XE := [(0, .iload_n 1, 1, 0, 0, []), (1, .ifCond .le 13, 3, 14, 0, []), (4, .aload_n 0, 1, 0, 0, []), (5, .iload_n 1, 1, 0, 0, []), (6, .iconst 1, 1, 0, 0, []), (7, .isub, 1, 0, 0, []), (8, .invokevirtual 121, 3, 242, 0, []), (11, .goto 11, 3, 22, 0, []), (14, .aload_n 0, 1, 0, 0, []), (15, .aload_n 0, 1, 0, 0, []), (16, .getfield 96, 3, 7, 9, []), (19, .invokevirtual 124, 3, 248, 0, []), (22, .ireturn, 1, 0, 0, [])]
theorem tX8_doneAlone_ok : xTblOK RX8 cX8_doneAlone xFX8 2 tX8_doneAlone = true := by decide +kernel
abbrev nX8_doneAlone (X : Nat × (Nat → Int32)) : List (Nat × Nat × Nat × XS) := [(242, 2, 0, fX8_fails X), (248, 2, 0, fX8_ends X)]
def fX8_doneAlone (X : Nat × (Nat → Int32)) : XS := fun as σ => match as with
  | [.inr (.inr (some (7, a0))), .inl a1] => xIter X (xEnv (nX8_doneAlone X)) (fun _ _ => some none) 0 [] tX8_doneAlone 100000 (0, [(0, .inr (.inr (some (7, a0)))), (1, .inl a1)], σ, 0)
  | _ => none
theorem rX8_doneAlone (X : Nat × (Nat → Int32)) : ∀ as σ q, fX8_doneAlone X as σ = some q → ∃ j as', as = xR 7 j :: as' := by
  intro as σ q h
  unfold fX8_doneAlone at h
  split at h
  · exact ⟨_, _, rfl⟩
  · cases h
theorem mX8_doneAlone (l : Launch) (X : Nat × (Nat → Int32)) : xMet l X yX8_doneAlone cX8_doneAlone 2 (some .int) 3 0 (fX8_doneAlone X) :=
  xMet_of (cl := xEnv (nX8_doneAlone X)) (rt := 0) (stops := []) (tbl := tX8_doneAlone) (by decide +kernel) (by decide) tX8_doneAlone_ok x_FX8 rfl (xEnv_ok (L := nX8_doneAlone X) (List.forall_mem_cons.mpr ⟨xCS_V (i := 121) (n := 1) (C := RX8) (k := 7) (mX8_fails l X) (xPk_in [957, 959, 20, 65, 960] (by decide +kernel) (by decide +kernel)) (by decide +kernel) (by decide) rfl (by decide) (by decide) (rX8_fails X), (List.forall_mem_cons.mpr ⟨xCS_V (i := 124) (n := 1) (C := RX8) (k := 7) (mX8_ends l X) (xPk_in [961, 963, 21, 65, 964] (by decide +kernel) (by decide +kernel)) (by decide +kernel) (by decide) rfl (by decide) (by decide) (rX8_ends X), (fun _ h => absurd h List.not_mem_nil)⟩)⟩))
    (xNoNew (by decide +kernel))
    (fun as σ q h => by
      unfold fX8_doneAlone at h
      split at h
      · exact Nat.le_of_ble_eq_true rfl
      · cases h)
    (fun as σ r σ' h => by
      unfold fX8_doneAlone at h
      split at h
      · exact ⟨100000, h⟩
      · cases h)
def tX8_setRange : List XE := [(0, .aload_n 0, 1, 0, 0, []), (1, .invokevirtual 127, 3, 254, 0, []), (4, .aload_n 0, 1, 0, 0, []), (5, .aload_n 0, 1, 0, 0, []), (6, .iload_n 1, 1, 0, 0, []), (7, .iload_n 2, 1, 0, 0, []), (8, .iload_n 3, 1, 0, 0, []), (9, .iload 4, 2, 0, 0, []), (11, .invokevirtual 130, 3, 260, 0, []), (14, .invokevirtual 134, 3, 268, 0, []), (17, .ireturn, 1, 0, 0, [])]
theorem tX8_setRange_ok : xTblOK RX8 cX8_setRange xFX8 5 tX8_setRange = true := by decide +kernel
abbrev nX8_setRange (X : Nat × (Nat → Int32)) : List (Nat × Nat × Nat × XS) := [(254, 1, 0, fX8_hold X), (260, 5, 0, fX8_ranges X), (268, 2, 0, fX8_done X)]
def fX8_setRange (X : Nat × (Nat → Int32)) : XS := fun as σ => match as with
  | [.inr (.inr (some (7, a0))), .inl a1, .inl a2, .inl a3, .inl a4] => xIter X (xEnv (nX8_setRange X)) (fun _ _ => some none) 0 [] tX8_setRange 100000 (0, [(0, .inr (.inr (some (7, a0)))), (1, .inl a1), (2, .inl a2), (3, .inl a3), (4, .inl a4)], σ, 0)
  | _ => none
theorem rX8_setRange (X : Nat × (Nat → Int32)) : ∀ as σ q, fX8_setRange X as σ = some q → ∃ j as', as = xR 7 j :: as' := by
  intro as σ q h
  unfold fX8_setRange at h
  split at h
  · exact ⟨_, _, rfl⟩
  · cases h
theorem mX8_setRange (l : Launch) (X : Nat × (Nat → Int32)) : xMet l X yX8_setRange cX8_setRange 5 (some .int) 4 0 (fX8_setRange X) :=
  xMet_of (cl := xEnv (nX8_setRange X)) (rt := 0) (stops := []) (tbl := tX8_setRange) (by decide +kernel) (by decide) tX8_setRange_ok x_FX8 rfl (xEnv_ok (L := nX8_setRange X) (List.forall_mem_cons.mpr ⟨xCS_V (i := 127) (n := 0) (C := RX8) (k := 7) (mX8_hold l X) (xPk_in [935, 937, 16, 65, 938] (by decide +kernel) (by decide +kernel)) (by decide +kernel) (by decide) rfl (by decide) (by decide) (rX8_hold X), (List.forall_mem_cons.mpr ⟨xCS_V (i := 130) (n := 4) (C := RX8) (k := 7) (mX8_ranges l X) (xPk_in [939, 941, 17, 65, 942] (by decide +kernel) (by decide +kernel)) (by decide +kernel) (by decide) rfl (by decide) (by decide) (rX8_ranges X), (List.forall_mem_cons.mpr ⟨xCS_V (i := 134) (n := 1) (C := RX8) (k := 7) (mX8_done l X) (xPk_in [953, 955, 19, 65, 956] (by decide +kernel) (by decide +kernel)) (by decide +kernel) (by decide) rfl (by decide) (by decide) (rX8_done X), (fun _ h => absurd h List.not_mem_nil)⟩)⟩)⟩))
    (xNoNew (by decide +kernel))
    (fun as σ q h => by
      unfold fX8_setRange at h
      split at h
      · exact Nat.le_of_ble_eq_true rfl
      · cases h)
    (fun as σ r σ' h => by
      unfold fX8_setRange at h
      split at h
      · exact ⟨100000, h⟩
      · cases h)
def tX8_setValve : List XE := [(0, .aload_n 0, 1, 0, 0, []), (1, .invokevirtual 127, 3, 254, 0, []), (4, .aload_n 0, 1, 0, 0, []), (5, .aload_n 0, 1, 0, 0, []), (6, .iload_n 1, 1, 0, 0, []), (7, .iload_n 2, 1, 0, 0, []), (8, .iload_n 3, 1, 0, 0, []), (9, .invokevirtual 137, 3, 274, 0, []), (12, .invokevirtual 134, 3, 268, 0, []), (15, .ireturn, 1, 0, 0, [])]
theorem tX8_setValve_ok : xTblOK RX8 cX8_setValve xFX8 4 tX8_setValve = true := by decide +kernel
abbrev nX8_setValve (X : Nat × (Nat → Int32)) : List (Nat × Nat × Nat × XS) := [(254, 1, 0, fX8_hold X), (274, 4, 0, fX8_sets X), (268, 2, 0, fX8_done X)]
def fX8_setValve (X : Nat × (Nat → Int32)) : XS := fun as σ => match as with
  | [.inr (.inr (some (7, a0))), .inl a1, .inl a2, .inl a3] => xIter X (xEnv (nX8_setValve X)) (fun _ _ => some none) 0 [] tX8_setValve 100000 (0, [(0, .inr (.inr (some (7, a0)))), (1, .inl a1), (2, .inl a2), (3, .inl a3)], σ, 0)
  | _ => none
theorem rX8_setValve (X : Nat × (Nat → Int32)) : ∀ as σ q, fX8_setValve X as σ = some q → ∃ j as', as = xR 7 j :: as' := by
  intro as σ q h
  unfold fX8_setValve at h
  split at h
  · exact ⟨_, _, rfl⟩
  · cases h
theorem mX8_setValve (l : Launch) (X : Nat × (Nat → Int32)) : xMet l X yX8_setValve cX8_setValve 4 (some .int) 4 0 (fX8_setValve X) :=
  xMet_of (cl := xEnv (nX8_setValve X)) (rt := 0) (stops := []) (tbl := tX8_setValve) (by decide +kernel) (by decide) tX8_setValve_ok x_FX8 rfl (xEnv_ok (L := nX8_setValve X) (List.forall_mem_cons.mpr ⟨xCS_V (i := 127) (n := 0) (C := RX8) (k := 7) (mX8_hold l X) (xPk_in [935, 937, 16, 65, 938] (by decide +kernel) (by decide +kernel)) (by decide +kernel) (by decide) rfl (by decide) (by decide) (rX8_hold X), (List.forall_mem_cons.mpr ⟨xCS_V (i := 137) (n := 3) (C := RX8) (k := 7) (mX8_sets l X) (xPk_in [973, 975, 23, 65, 976] (by decide +kernel) (by decide +kernel)) (by decide +kernel) (by decide) rfl (by decide) (by decide) (rX8_sets X), (List.forall_mem_cons.mpr ⟨xCS_V (i := 134) (n := 1) (C := RX8) (k := 7) (mX8_done l X) (xPk_in [953, 955, 19, 65, 956] (by decide +kernel) (by decide +kernel)) (by decide +kernel) (by decide) rfl (by decide) (by decide) (rX8_done X), (fun _ h => absurd h List.not_mem_nil)⟩)⟩)⟩))
    (xNoNew (by decide +kernel))
    (fun as σ q h => by
      unfold fX8_setValve at h
      split at h
      · exact Nat.le_of_ble_eq_true rfl
      · cases h)
    (fun as σ r σ' h => by
      unfold fX8_setValve at h
      split at h
      · exact ⟨100000, h⟩
      · cases h)
def tX8_setSignal : List XE := [(0, .aload_n 0, 1, 0, 0, []), (1, .invokevirtual 127, 3, 254, 0, []), (4, .aload_n 0, 1, 0, 0, []), (5, .aload_n 0, 1, 0, 0, []), (6, .iload_n 1, 1, 0, 0, []), (7, .invokevirtual 140, 3, 280, 0, []), (10, .invokevirtual 143, 3, 286, 0, []), (13, .ireturn, 1, 0, 0, [])]
theorem tX8_setSignal_ok : xTblOK RX8 cX8_setSignal xFX8 2 tX8_setSignal = true := by decide +kernel
abbrev nX8_setSignal (X : Nat × (Nat → Int32)) : List (Nat × Nat × Nat × XS) := [(254, 1, 0, fX8_hold X), (280, 2, 0, fX8_signals X), (286, 2, 0, fX8_doneAlone X)]
def fX8_setSignal (X : Nat × (Nat → Int32)) : XS := fun as σ => match as with
  | [.inr (.inr (some (7, a0))), .inl a1] => xIter X (xEnv (nX8_setSignal X)) (fun _ _ => some none) 0 [] tX8_setSignal 100000 (0, [(0, .inr (.inr (some (7, a0)))), (1, .inl a1)], σ, 0)
  | _ => none
theorem rX8_setSignal (X : Nat × (Nat → Int32)) : ∀ as σ q, fX8_setSignal X as σ = some q → ∃ j as', as = xR 7 j :: as' := by
  intro as σ q h
  unfold fX8_setSignal at h
  split at h
  · exact ⟨_, _, rfl⟩
  · cases h
theorem mX8_setSignal (l : Launch) (X : Nat × (Nat → Int32)) : xMet l X yX8_setSignal cX8_setSignal 2 (some .int) 4 0 (fX8_setSignal X) :=
  xMet_of (cl := xEnv (nX8_setSignal X)) (rt := 0) (stops := []) (tbl := tX8_setSignal) (by decide +kernel) (by decide) tX8_setSignal_ok x_FX8 rfl (xEnv_ok (L := nX8_setSignal X) (List.forall_mem_cons.mpr ⟨xCS_V (i := 127) (n := 0) (C := RX8) (k := 7) (mX8_hold l X) (xPk_in [935, 937, 16, 65, 938] (by decide +kernel) (by decide +kernel)) (by decide +kernel) (by decide) rfl (by decide) (by decide) (rX8_hold X), (List.forall_mem_cons.mpr ⟨xCS_V (i := 140) (n := 1) (C := RX8) (k := 7) (mX8_signals l X) (xPk_in [988, 990, 25, 65, 991] (by decide +kernel) (by decide +kernel)) (by decide +kernel) (by decide) rfl (by decide) (by decide) (rX8_signals X), (List.forall_mem_cons.mpr ⟨xCS_V (i := 143) (n := 1) (C := RX8) (k := 7) (mX8_doneAlone l X) (xPk_in [992, 994, 26, 65, 995] (by decide +kernel) (by decide +kernel)) (by decide +kernel) (by decide) rfl (by decide) (by decide) (rX8_doneAlone X), (fun _ h => absurd h List.not_mem_nil)⟩)⟩)⟩))
    (xNoNew (by decide +kernel))
    (fun as σ q h => by
      unfold fX8_setSignal at h
      split at h
      · exact Nat.le_of_ble_eq_true rfl
      · cases h)
    (fun as σ r σ' h => by
      unfold fX8_setSignal at h
      split at h
      · exact ⟨100000, h⟩
      · cases h)
def tX8_tune : List XE := [(0, .aload_n 0, 1, 0, 0, []), (1, .invokevirtual 127, 3, 254, 0, []), (4, .aload_n 0, 1, 0, 0, []), (5, .aload_n 0, 1, 0, 0, []), (6, .iload_n 1, 1, 0, 0, []), (7, .iload_n 2, 1, 0, 0, []), (8, .invokevirtual 113, 3, 226, 0, []), (11, .invokevirtual 143, 3, 286, 0, []), (14, .ireturn, 1, 0, 0, [])]
theorem tX8_tune_ok : xTblOK RX8 cX8_tune xFX8 3 tX8_tune = true := by decide +kernel
abbrev nX8_tune (X : Nat × (Nat → Int32)) : List (Nat × Nat × Nat × XS) := [(254, 1, 0, fX8_hold X), (226, 3, 0, fX8_tunes X), (286, 2, 0, fX8_doneAlone X)]
def fX8_tune (X : Nat × (Nat → Int32)) : XS := fun as σ => match as with
  | [.inr (.inr (some (7, a0))), .inl a1, .inl a2] => xIter X (xEnv (nX8_tune X)) (fun _ _ => some none) 0 [] tX8_tune 100000 (0, [(0, .inr (.inr (some (7, a0)))), (1, .inl a1), (2, .inl a2)], σ, 0)
  | _ => none
theorem rX8_tune (X : Nat × (Nat → Int32)) : ∀ as σ q, fX8_tune X as σ = some q → ∃ j as', as = xR 7 j :: as' := by
  intro as σ q h
  unfold fX8_tune at h
  split at h
  · exact ⟨_, _, rfl⟩
  · cases h
theorem mX8_tune (l : Launch) (X : Nat × (Nat → Int32)) : xMet l X yX8_tune cX8_tune 3 (some .int) 4 0 (fX8_tune X) :=
  xMet_of (cl := xEnv (nX8_tune X)) (rt := 0) (stops := []) (tbl := tX8_tune) (by decide +kernel) (by decide) tX8_tune_ok x_FX8 rfl (xEnv_ok (L := nX8_tune X) (List.forall_mem_cons.mpr ⟨xCS_V (i := 127) (n := 0) (C := RX8) (k := 7) (mX8_hold l X) (xPk_in [935, 937, 16, 65, 938] (by decide +kernel) (by decide +kernel)) (by decide +kernel) (by decide) rfl (by decide) (by decide) (rX8_hold X), (List.forall_mem_cons.mpr ⟨xCS_V (i := 113) (n := 2) (C := RX8) (k := 7) (mX8_tunes l X) (xPk_in [1000, 1002, 27, 65, 1003] (by decide +kernel) (by decide +kernel)) (by decide +kernel) (by decide) rfl (by decide) (by decide) (rX8_tunes X), (List.forall_mem_cons.mpr ⟨xCS_V (i := 143) (n := 1) (C := RX8) (k := 7) (mX8_doneAlone l X) (xPk_in [992, 994, 26, 65, 995] (by decide +kernel) (by decide +kernel)) (by decide +kernel) (by decide) rfl (by decide) (by decide) (rX8_doneAlone X), (fun _ h => absurd h List.not_mem_nil)⟩)⟩)⟩))
    (xNoNew (by decide +kernel))
    (fun as σ q h => by
      unfold fX8_tune at h
      split at h
      · exact Nat.le_of_ble_eq_true rfl
      · cases h)
    (fun as σ r σ' h => by
      unfold fX8_tune at h
      split at h
      · exact ⟨100000, h⟩
      · cases h)
def tX8_service : List XE := [(0, .aload_n 0, 1, 0, 0, []), (1, .invokevirtual 127, 3, 254, 0, []), (4, .aload_n 0, 1, 0, 0, []), (5, .aload_n 0, 1, 0, 0, []), (6, .iload_n 1, 1, 0, 0, []), (7, .invokevirtual 146, 3, 292, 0, []), (10, .invokevirtual 134, 3, 268, 0, []), (13, .ireturn, 1, 0, 0, [])]
theorem tX8_service_ok : xTblOK RX8 cX8_service xFX8 2 tX8_service = true := by decide +kernel
abbrev nX8_service (X : Nat × (Nat → Int32)) : List (Nat × Nat × Nat × XS) := [(254, 1, 0, fX8_hold X), (292, 2, 0, fX8_serves X), (268, 2, 0, fX8_done X)]
def fX8_service (X : Nat × (Nat → Int32)) : XS := fun as σ => match as with
  | [.inr (.inr (some (7, a0))), .inl a1] => xIter X (xEnv (nX8_service X)) (fun _ _ => some none) 0 [] tX8_service 100000 (0, [(0, .inr (.inr (some (7, a0)))), (1, .inl a1)], σ, 0)
  | _ => none
theorem rX8_service (X : Nat × (Nat → Int32)) : ∀ as σ q, fX8_service X as σ = some q → ∃ j as', as = xR 7 j :: as' := by
  intro as σ q h
  unfold fX8_service at h
  split at h
  · exact ⟨_, _, rfl⟩
  · cases h
theorem mX8_service (l : Launch) (X : Nat × (Nat → Int32)) : xMet l X yX8_service cX8_service 2 (some .int) 4 0 (fX8_service X) :=
  xMet_of (cl := xEnv (nX8_service X)) (rt := 0) (stops := []) (tbl := tX8_service) (by decide +kernel) (by decide) tX8_service_ok x_FX8 rfl (xEnv_ok (L := nX8_service X) (List.forall_mem_cons.mpr ⟨xCS_V (i := 127) (n := 0) (C := RX8) (k := 7) (mX8_hold l X) (xPk_in [935, 937, 16, 65, 938] (by decide +kernel) (by decide +kernel)) (by decide +kernel) (by decide) rfl (by decide) (by decide) (rX8_hold X), (List.forall_mem_cons.mpr ⟨xCS_V (i := 146) (n := 1) (C := RX8) (k := 7) (mX8_serves l X) (xPk_in [1011, 1013, 28, 65, 1014] (by decide +kernel) (by decide +kernel)) (by decide +kernel) (by decide) rfl (by decide) (by decide) (rX8_serves X), (List.forall_mem_cons.mpr ⟨xCS_V (i := 134) (n := 1) (C := RX8) (k := 7) (mX8_done l X) (xPk_in [953, 955, 19, 65, 956] (by decide +kernel) (by decide +kernel)) (by decide +kernel) (by decide) rfl (by decide) (by decide) (rX8_done X), (fun _ h => absurd h List.not_mem_nil)⟩)⟩)⟩))
    (xNoNew (by decide +kernel))
    (fun as σ q h => by
      unfold fX8_service at h
      split at h
      · exact Nat.le_of_ble_eq_true rfl
      · cases h)
    (fun as σ r σ' h => by
      unfold fX8_service at h
      split at h
      · exact ⟨100000, h⟩
      · cases h)
def tX8_putStem : List XE := [(0, .aload_n 0, 1, 0, 0, []), (1, .invokevirtual 127, 3, 254, 0, []), (4, .aload_n 0, 1, 0, 0, []), (5, .aload_n 0, 1, 0, 0, []), (6, .iload_n 1, 1, 0, 0, []), (7, .iload_n 2, 1, 0, 0, []), (8, .invokevirtual 149, 3, 298, 0, []), (11, .invokevirtual 134, 3, 268, 0, []), (14, .ireturn, 1, 0, 0, [])]
theorem tX8_putStem_ok : xTblOK RX8 cX8_putStem xFX8 3 tX8_putStem = true := by decide +kernel
abbrev nX8_putStem (X : Nat × (Nat → Int32)) : List (Nat × Nat × Nat × XS) := [(254, 1, 0, fX8_hold X), (298, 3, 0, fX8_stems X), (268, 2, 0, fX8_done X)]
def fX8_putStem (X : Nat × (Nat → Int32)) : XS := fun as σ => match as with
  | [.inr (.inr (some (7, a0))), .inl a1, .inl a2] => xIter X (xEnv (nX8_putStem X)) (fun _ _ => some none) 0 [] tX8_putStem 100000 (0, [(0, .inr (.inr (some (7, a0)))), (1, .inl a1), (2, .inl a2)], σ, 0)
  | _ => none
theorem rX8_putStem (X : Nat × (Nat → Int32)) : ∀ as σ q, fX8_putStem X as σ = some q → ∃ j as', as = xR 7 j :: as' := by
  intro as σ q h
  unfold fX8_putStem at h
  split at h
  · exact ⟨_, _, rfl⟩
  · cases h
theorem mX8_putStem (l : Launch) (X : Nat × (Nat → Int32)) : xMet l X yX8_putStem cX8_putStem 3 (some .int) 4 0 (fX8_putStem X) :=
  xMet_of (cl := xEnv (nX8_putStem X)) (rt := 0) (stops := []) (tbl := tX8_putStem) (by decide +kernel) (by decide) tX8_putStem_ok x_FX8 rfl (xEnv_ok (L := nX8_putStem X) (List.forall_mem_cons.mpr ⟨xCS_V (i := 127) (n := 0) (C := RX8) (k := 7) (mX8_hold l X) (xPk_in [935, 937, 16, 65, 938] (by decide +kernel) (by decide +kernel)) (by decide +kernel) (by decide) rfl (by decide) (by decide) (rX8_hold X), (List.forall_mem_cons.mpr ⟨xCS_V (i := 149) (n := 2) (C := RX8) (k := 7) (mX8_stems l X) (xPk_in [1023, 1025, 30, 65, 1026] (by decide +kernel) (by decide +kernel)) (by decide +kernel) (by decide) rfl (by decide) (by decide) (rX8_stems X), (List.forall_mem_cons.mpr ⟨xCS_V (i := 134) (n := 1) (C := RX8) (k := 7) (mX8_done l X) (xPk_in [953, 955, 19, 65, 956] (by decide +kernel) (by decide +kernel)) (by decide +kernel) (by decide) rfl (by decide) (by decide) (rX8_done X), (fun _ h => absurd h List.not_mem_nil)⟩)⟩)⟩))
    (xNoNew (by decide +kernel))
    (fun as σ q h => by
      unfold fX8_putStem at h
      split at h
      · exact Nat.le_of_ble_eq_true rfl
      · cases h)
    (fun as σ r σ' h => by
      unfold fX8_putStem at h
      split at h
      · exact ⟨100000, h⟩
      · cases h)
def tX8_run : List XE := [(0, .aload_n 0, 1, 0, 0, []), (1, .invokevirtual 127, 3, 254, 0, []), (4, .aload_n 0, 1, 0, 0, []), (5, .aload_n 0, 1, 0, 0, []), (6, .iload_n 1, 1, 0, 0, []), (7, .invokevirtual 152, 3, 304, 0, []), (10, .invokevirtual 143, 3, 286, 0, []), (13, .ireturn, 1, 0, 0, [])]
theorem tX8_run_ok : xTblOK RX8 cX8_run xFX8 2 tX8_run = true := by decide +kernel
abbrev nX8_run (X : Nat × (Nat → Int32)) : List (Nat × Nat × Nat × XS) := [(254, 1, 0, fX8_hold X), (304, 2, 0, fX8_runs X), (286, 2, 0, fX8_doneAlone X)]
def fX8_run (X : Nat × (Nat → Int32)) : XS := fun as σ => match as with
  | [.inr (.inr (some (7, a0))), .inl a1] => xIter X (xEnv (nX8_run X)) (fun _ _ => some none) 0 [] tX8_run 100000 (0, [(0, .inr (.inr (some (7, a0)))), (1, .inl a1)], σ, 0)
  | _ => none
theorem rX8_run (X : Nat × (Nat → Int32)) : ∀ as σ q, fX8_run X as σ = some q → ∃ j as', as = xR 7 j :: as' := by
  intro as σ q h
  unfold fX8_run at h
  split at h
  · exact ⟨_, _, rfl⟩
  · cases h
theorem mX8_run (l : Launch) (X : Nat × (Nat → Int32)) : xMet l X yX8_run cX8_run 2 (some .int) 8 0 (fX8_run X) :=
  xMet_of (cl := xEnv (nX8_run X)) (rt := 0) (stops := []) (tbl := tX8_run) (by decide +kernel) (by decide) tX8_run_ok x_FX8 rfl (xEnv_ok (L := nX8_run X) (List.forall_mem_cons.mpr ⟨xCS_V (i := 127) (n := 0) (C := RX8) (k := 7) (mX8_hold l X) (xPk_in [935, 937, 16, 65, 938] (by decide +kernel) (by decide +kernel)) (by decide +kernel) (by decide) rfl (by decide) (by decide) (rX8_hold X), (List.forall_mem_cons.mpr ⟨xCS_V (i := 152) (n := 1) (C := RX8) (k := 7) (mX8_runs l X) (xPk_in [1031, 1033, 31, 65, 1034] (by decide +kernel) (by decide +kernel)) (by decide +kernel) (by decide) rfl (by decide) (by decide) (rX8_runs X), (List.forall_mem_cons.mpr ⟨xCS_V (i := 143) (n := 1) (C := RX8) (k := 7) (mX8_doneAlone l X) (xPk_in [992, 994, 26, 65, 995] (by decide +kernel) (by decide +kernel)) (by decide +kernel) (by decide) rfl (by decide) (by decide) (rX8_doneAlone X), (fun _ h => absurd h List.not_mem_nil)⟩)⟩)⟩))
    (xNoNew (by decide +kernel))
    (fun as σ q h => by
      unfold fX8_run at h
      split at h
      · exact Nat.le_of_ble_eq_true rfl
      · cases h)
    (fun as σ r σ' h => by
      unfold fX8_run at h
      split at h
      · exact ⟨100000, h⟩
      · cases h)
def tX8_valveOf : List XE := [(0, .iload_n 2, 1, 0, 0, []), (1, .tableswitch 113 8 20 #[67, 113, 113, 113, 113, 113, 113, 113, 79, 85, 92, 99, 105], 67, 114, 0, [(8, 68), (9, 114), (10, 114), (11, 114), (12, 114), (13, 114), (14, 114), (15, 114), (16, 80), (17, 86), (18, 93), (19, 100), (20, 106)]), (68, .aload_n 0, 1, 0, 0, []), (69, .iload_n 1, 1, 0, 0, []), (70, .aload_n 0, 1, 0, 0, []), (71, .getfield 7, 3, 7, 0, []), (74, .iconst 0, 1, 0, 0, []), (75, .iaload, 1, 0, 0, []), (76, .invokevirtual 73, 3, 146, 0, []), (79, .ireturn, 1, 0, 0, []), (80, .aload_n 0, 1, 0, 0, []), (81, .iload_n 1, 1, 0, 0, []), (82, .invokevirtual 61, 3, 122, 0, []), (85, .ireturn, 1, 0, 0, []), (86, .aload_n 0, 1, 0, 0, []), (87, .iload_n 1, 1, 0, 0, []), (88, .iconst 1, 1, 0, 0, []), (89, .invokevirtual 64, 3, 128, 0, []), (92, .ireturn, 1, 0, 0, []), (93, .aload_n 0, 1, 0, 0, []), (94, .iload_n 1, 1, 0, 0, []), (95, .iconst (-1), 1, 0, 0, []), (96, .invokevirtual 64, 3, 128, 0, []), (99, .ireturn, 1, 0, 0, []), (100, .aload_n 0, 1, 0, 0, []), (101, .iload_n 1, 1, 0, 0, []), (102, .invokevirtual 70, 3, 140, 0, []), (105, .ireturn, 1, 0, 0, []), (106, .aload_n 0, 1, 0, 0, []), (107, .iload_n 1, 1, 0, 0, []), (108, .bipush 15, 2, 0, 0, []), (110, .invokevirtual 50, 3, 100, 0, []), (113, .ireturn, 1, 0, 0, []), (114, .aload_n 0, 1, 0, 0, []), (115, .iload_n 1, 1, 0, 0, []), (116, .iload_n 2, 1, 0, 0, []), (117, .bipush 8, 2, 0, 0, []), (119, .if_icmp .ge 7, 3, 126, 0, []), (122, .iload_n 2, 1, 0, 0, []), (123, .goto 6, 3, 129, 0, []), (126, .iload_n 2, 1, 0, 0, []), (127, .iconst 1, 1, 0, 0, []), (128, .isub, 1, 0, 0, []), (129, .invokevirtual 50, 3, 100, 0, []), (132, .ireturn, 1, 0, 0, [])]
theorem tX8_valveOf_ok : xTblOK RX8 cX8_valveOf xFX8 3 tX8_valveOf = true := by decide +kernel
abbrev nX8_valveOf (X : Nat × (Nat → Int32)) : List (Nat × Nat × Nat × XS) := [(146, 3, 0, fX8_demand X), (122, 2, 0, fX8_wear X), (128, 3, 0, fX8_threshold X), (140, 2, 0, fX8_flow X), (100, 3, 0, fX8_of X)]
def fX8_valveOf (X : Nat × (Nat → Int32)) : XS := fun as σ => match as with
  | [.inr (.inr (some (7, a0))), .inl a1, .inl a2] => xIter X (xEnv (nX8_valveOf X)) (fun _ _ => some none) 0 [] tX8_valveOf 100000 (0, [(0, .inr (.inr (some (7, a0)))), (1, .inl a1), (2, .inl a2)], σ, 0)
  | _ => none
theorem rX8_valveOf (X : Nat × (Nat → Int32)) : ∀ as σ q, fX8_valveOf X as σ = some q → ∃ j as', as = xR 7 j :: as' := by
  intro as σ q h
  unfold fX8_valveOf at h
  split at h
  · exact ⟨_, _, rfl⟩
  · cases h
theorem mX8_valveOf (l : Launch) (X : Nat × (Nat → Int32)) : xMet l X yX8_valveOf cX8_valveOf 3 (some .int) 4 0 (fX8_valveOf X) :=
  xMet_of (cl := xEnv (nX8_valveOf X)) (rt := 0) (stops := []) (tbl := tX8_valveOf) (by decide +kernel) (by decide) tX8_valveOf_ok x_FX8 rfl (xEnv_ok (L := nX8_valveOf X) (List.forall_mem_cons.mpr ⟨xCS_V (i := 73) (n := 2) (C := RX8) (k := 7) (mX8_demand l X) (xPk_in [1066, 1068, 38, 65, 1069] (by decide +kernel) (by decide +kernel)) (by decide +kernel) (by decide) rfl (by decide) (by decide) (rX8_demand X), (List.forall_mem_cons.mpr ⟨xCS_V (i := 61) (n := 1) (C := RX8) (k := 7) (mX8_wear l X) (xPk_in [1015, 1017, 29, 65, 1018] (by decide +kernel) (by decide +kernel)) (by decide +kernel) (by decide) rfl (by decide) (by decide) (rX8_wear X), (List.forall_mem_cons.mpr ⟨xCS_V (i := 64) (n := 2) (C := RX8) (k := 7) (mX8_threshold l X) (xPk_in [1074, 1076, 40, 65, 1077] (by decide +kernel) (by decide +kernel)) (by decide +kernel) (by decide) rfl (by decide) (by decide) (rX8_threshold X), (List.forall_mem_cons.mpr ⟨xCS_V (i := 70) (n := 1) (C := RX8) (k := 7) (mX8_flow l X) (xPk_in [1048, 1050, 35, 65, 1051] (by decide +kernel) (by decide +kernel)) (by decide +kernel) (by decide) rfl (by decide) (by decide) (rX8_flow X), (List.forall_mem_cons.mpr ⟨xCS_V (i := 50) (n := 2) (C := RX8) (k := 7) (mX8_of l X) (xPk_in [949, 951, 18, 65, 952] (by decide +kernel) (by decide +kernel)) (by decide +kernel) (by decide) rfl (by decide) (by decide) (rX8_of X), (fun _ h => absurd h List.not_mem_nil)⟩)⟩)⟩)⟩)⟩))
    (xNoNew (by decide +kernel))
    (fun as σ q h => by
      unfold fX8_valveOf at h
      split at h
      · exact Nat.le_of_ble_eq_true rfl
      · cases h)
    (fun as σ r σ' h => by
      unfold fX8_valveOf at h
      split at h
      · exact ⟨100000, h⟩
      · cases h)
def tX8_valve : List XE := [(0, .iload_n 1, 1, 0, 0, []), (1, .invokestatic 99, 3, 199, 0, []), (4, .ifCond .ne 9, 3, 13, 0, []), (7, .aload_n 0, 1, 0, 0, []), (8, .iconst 1, 1, 0, 0, []), (9, .invokevirtual 121, 3, 242, 0, []), (12, .ireturn, 1, 0, 0, []), (13, .iload_n 2, 1, 0, 0, []), (14, .iconst 0, 1, 0, 0, []), (15, .bipush 20, 2, 0, 0, []), (17, .invokestatic 46, 3, 93, 0, []), (20, .ifCond .eq 16, 3, 36, 0, []), (23, .aload_n 0, 1, 0, 0, []), (24, .aload_n 0, 1, 0, 0, []), (25, .iload_n 1, 1, 0, 0, []), (26, .iload_n 2, 1, 0, 0, []), (27, .invokevirtual 155, 3, 310, 0, []), (30, .invokevirtual 42, 3, 84, 0, []), (33, .goto 8, 3, 41, 0, []), (36, .aload_n 0, 1, 0, 0, []), (37, .iconst 2, 1, 0, 0, []), (38, .invokevirtual 121, 3, 242, 0, []), (41, .ireturn, 1, 0, 0, [])]
theorem tX8_valve_ok : xTblOK RX8 cX8_valve xFX8 3 tX8_valve = true := by decide +kernel
abbrev nX8_valve (X : Nat × (Nat → Int32)) : List (Nat × Nat × Nat × XS) := [(199, 1, 0, fX8_isValve X), (242, 2, 0, fX8_fails X), (93, 3, 0, fX8_in X), (310, 3, 0, fX8_valveOf X), (84, 2, 0, fX8_tells X)]
def fX8_valve (X : Nat × (Nat → Int32)) : XS := fun as σ => match as with
  | [.inr (.inr (some (7, a0))), .inl a1, .inl a2] => xIter X (xEnv (nX8_valve X)) (fun _ _ => some none) 0 [] tX8_valve 100000 (0, [(0, .inr (.inr (some (7, a0)))), (1, .inl a1), (2, .inl a2)], σ, 0)
  | _ => none
theorem rX8_valve (X : Nat × (Nat → Int32)) : ∀ as σ q, fX8_valve X as σ = some q → ∃ j as', as = xR 7 j :: as' := by
  intro as σ q h
  unfold fX8_valve at h
  split at h
  · exact ⟨_, _, rfl⟩
  · cases h
theorem mX8_valve (l : Launch) (X : Nat × (Nat → Int32)) : xMet l X yX8_valve cX8_valve 3 (some .int) 5 0 (fX8_valve X) :=
  xMet_of (cl := xEnv (nX8_valve X)) (rt := 0) (stops := []) (tbl := tX8_valve) (by decide +kernel) (by decide) tX8_valve_ok x_FX8 rfl (xEnv_ok (L := nX8_valve X) (List.forall_mem_cons.mpr ⟨xCS_S (i := 99) (n := 1) (mX8_isValve l X) (xPk_in [943, 944, 65, 945] (by decide +kernel) (by decide +kernel)) (by decide +kernel) (by decide) (by decide), (List.forall_mem_cons.mpr ⟨xCS_V (i := 121) (n := 1) (C := RX8) (k := 7) (mX8_fails l X) (xPk_in [957, 959, 20, 65, 960] (by decide +kernel) (by decide +kernel)) (by decide +kernel) (by decide) rfl (by decide) (by decide) (rX8_fails X), (List.forall_mem_cons.mpr ⟨xCS_S (i := 46) (n := 3) (mX8_in l X) (xPk_in [946, 947, 65, 948] (by decide +kernel) (by decide +kernel)) (by decide +kernel) (by decide) (by decide), (List.forall_mem_cons.mpr ⟨xCS_V (i := 155) (n := 2) (C := RX8) (k := 7) (mX8_valveOf l X) (xPk_in [1090, 1092, 43, 65, 1093] (by decide +kernel) (by decide +kernel)) (by decide +kernel) (by decide) rfl (by decide) (by decide) (rX8_valveOf X), (List.forall_mem_cons.mpr ⟨xCS_V (i := 42) (n := 1) (C := RX8) (k := 7) (mX8_tells l X) (xPk_in [965, 967, 22, 65, 968] (by decide +kernel) (by decide +kernel)) (by decide +kernel) (by decide) rfl (by decide) (by decide) (rX8_tells X), (fun _ h => absurd h List.not_mem_nil)⟩)⟩)⟩)⟩)⟩))
    (xNoNew (by decide +kernel))
    (fun as σ q h => by
      unfold fX8_valve at h
      split at h
      · exact Nat.le_of_ble_eq_true rfl
      · cases h)
    (fun as σ r σ' h => by
      unfold fX8_valve at h
      split at h
      · exact ⟨100000, h⟩
      · cases h)
def tX8_pairOf : List XE := [(0, .iload_n 1, 1, 0, 0, []), (1, .lookupswitch 43 #[(6, 27), (7, 32)], 27, 44, 0, [(6, 28), (7, 33)]), (28, .aload_n 0, 1, 0, 0, []), (29, .invokevirtual 76, 3, 152, 0, []), (32, .ireturn, 1, 0, 0, []), (33, .aload_n 0, 1, 0, 0, []), (34, .aload_n 0, 1, 0, 0, []), (35, .getfield 7, 3, 7, 0, []), (38, .iconst 0, 1, 0, 0, []), (39, .iaload, 1, 0, 0, []), (40, .invokevirtual 90, 3, 180, 0, []), (43, .ireturn, 1, 0, 0, []), (44, .iload_n 1, 1, 0, 0, []), (45, .bipush 6, 2, 0, 0, []), (47, .if_icmp .ge 12, 3, 59, 0, []), (50, .aload_n 0, 1, 0, 0, []), (51, .getfield 7, 3, 7, 0, []), (54, .iload_n 1, 1, 0, 0, []), (55, .iaload, 1, 0, 0, []), (56, .goto 11, 3, 67, 0, []), (59, .aload_n 0, 1, 0, 0, []), (60, .getfield 7, 3, 7, 0, []), (63, .iload_n 1, 1, 0, 0, []), (64, .iconst 2, 1, 0, 0, []), (65, .isub, 1, 0, 0, []), (66, .iaload, 1, 0, 0, []), (67, .ireturn, 1, 0, 0, [])]
theorem tX8_pairOf_ok : xTblOK RX8 cX8_pairOf xFX8 2 tX8_pairOf = true := by decide +kernel
abbrev nX8_pairOf (X : Nat × (Nat → Int32)) : List (Nat × Nat × Nat × XS) := [(152, 1, 0, fX8_both X), (180, 2, 0, fX8_ideal X)]
def fX8_pairOf (X : Nat × (Nat → Int32)) : XS := fun as σ => match as with
  | [.inr (.inr (some (7, a0))), .inl a1] => xIter X (xEnv (nX8_pairOf X)) (fun _ _ => some none) 0 [] tX8_pairOf 100000 (0, [(0, .inr (.inr (some (7, a0)))), (1, .inl a1)], σ, 0)
  | _ => none
theorem rX8_pairOf (X : Nat × (Nat → Int32)) : ∀ as σ q, fX8_pairOf X as σ = some q → ∃ j as', as = xR 7 j :: as' := by
  intro as σ q h
  unfold fX8_pairOf at h
  split at h
  · exact ⟨_, _, rfl⟩
  · cases h
theorem mX8_pairOf (l : Launch) (X : Nat × (Nat → Int32)) : xMet l X yX8_pairOf cX8_pairOf 2 (some .int) 5 0 (fX8_pairOf X) :=
  xMet_of (cl := xEnv (nX8_pairOf X)) (rt := 0) (stops := []) (tbl := tX8_pairOf) (by decide +kernel) (by decide) tX8_pairOf_ok x_FX8 rfl (xEnv_ok (L := nX8_pairOf X) (List.forall_mem_cons.mpr ⟨xCS_V (i := 76) (n := 0) (C := RX8) (k := 7) (mX8_both l X) (xPk_in [1044, 1046, 34, 65, 1047] (by decide +kernel) (by decide +kernel)) (by decide +kernel) (by decide) rfl (by decide) (by decide) (rX8_both X), (List.forall_mem_cons.mpr ⟨xCS_V (i := 90) (n := 1) (C := RX8) (k := 7) (mX8_ideal l X) (xPk_in [1078, 1080, 41, 65, 1081] (by decide +kernel) (by decide +kernel)) (by decide +kernel) (by decide) rfl (by decide) (by decide) (rX8_ideal X), (fun _ h => absurd h List.not_mem_nil)⟩)⟩))
    (xNoNew (by decide +kernel))
    (fun as σ q h => by
      unfold fX8_pairOf at h
      split at h
      · exact Nat.le_of_ble_eq_true rfl
      · cases h)
    (fun as σ r σ' h => by
      unfold fX8_pairOf at h
      split at h
      · exact ⟨100000, h⟩
      · cases h)
def tX8_pair : List XE := [(0, .iload_n 1, 1, 0, 0, []), (1, .iconst 0, 1, 0, 0, []), (2, .bipush 11, 2, 0, 0, []), (4, .invokestatic 46, 3, 93, 0, []), (7, .ifCond .eq 15, 3, 22, 0, []), (10, .aload_n 0, 1, 0, 0, []), (11, .aload_n 0, 1, 0, 0, []), (12, .iload_n 1, 1, 0, 0, []), (13, .invokevirtual 158, 3, 316, 0, []), (16, .invokevirtual 42, 3, 84, 0, []), (19, .goto 8, 3, 27, 0, []), (22, .aload_n 0, 1, 0, 0, []), (23, .iconst 1, 1, 0, 0, []), (24, .invokevirtual 121, 3, 242, 0, []), (27, .ireturn, 1, 0, 0, [])]
theorem tX8_pair_ok : xTblOK RX8 cX8_pair xFX8 2 tX8_pair = true := by decide +kernel
abbrev nX8_pair (X : Nat × (Nat → Int32)) : List (Nat × Nat × Nat × XS) := [(93, 3, 0, fX8_in X), (316, 2, 0, fX8_pairOf X), (84, 2, 0, fX8_tells X), (242, 2, 0, fX8_fails X)]
def fX8_pair (X : Nat × (Nat → Int32)) : XS := fun as σ => match as with
  | [.inr (.inr (some (7, a0))), .inl a1] => xIter X (xEnv (nX8_pair X)) (fun _ _ => some none) 0 [] tX8_pair 100000 (0, [(0, .inr (.inr (some (7, a0)))), (1, .inl a1)], σ, 0)
  | _ => none
theorem rX8_pair (X : Nat × (Nat → Int32)) : ∀ as σ q, fX8_pair X as σ = some q → ∃ j as', as = xR 7 j :: as' := by
  intro as σ q h
  unfold fX8_pair at h
  split at h
  · exact ⟨_, _, rfl⟩
  · cases h
theorem mX8_pair (l : Launch) (X : Nat × (Nat → Int32)) : xMet l X yX8_pair cX8_pair 2 (some .int) 6 0 (fX8_pair X) :=
  xMet_of (cl := xEnv (nX8_pair X)) (rt := 0) (stops := []) (tbl := tX8_pair) (by decide +kernel) (by decide) tX8_pair_ok x_FX8 rfl (xEnv_ok (L := nX8_pair X) (List.forall_mem_cons.mpr ⟨xCS_S (i := 46) (n := 3) (mX8_in l X) (xPk_in [946, 947, 65, 948] (by decide +kernel) (by decide +kernel)) (by decide +kernel) (by decide) (by decide), (List.forall_mem_cons.mpr ⟨xCS_V (i := 158) (n := 1) (C := RX8) (k := 7) (mX8_pairOf l X) (xPk_in [1098, 1100, 44, 65, 1101] (by decide +kernel) (by decide +kernel)) (by decide +kernel) (by decide) rfl (by decide) (by decide) (rX8_pairOf X), (List.forall_mem_cons.mpr ⟨xCS_V (i := 42) (n := 1) (C := RX8) (k := 7) (mX8_tells l X) (xPk_in [965, 967, 22, 65, 968] (by decide +kernel) (by decide +kernel)) (by decide +kernel) (by decide) rfl (by decide) (by decide) (rX8_tells X), (List.forall_mem_cons.mpr ⟨xCS_V (i := 121) (n := 1) (C := RX8) (k := 7) (mX8_fails l X) (xPk_in [957, 959, 20, 65, 960] (by decide +kernel) (by decide +kernel)) (by decide +kernel) (by decide) rfl (by decide) (by decide) (rX8_fails X), (fun _ h => absurd h List.not_mem_nil)⟩)⟩)⟩)⟩))
    (xNoNew (by decide +kernel))
    (fun as σ q h => by
      unfold fX8_pair at h
      split at h
      · exact Nat.le_of_ble_eq_true rfl
      · cases h)
    (fun as σ r σ' h => by
      unfold fX8_pair at h
      split at h
      · exact ⟨100000, h⟩
      · cases h)
def tX8_ledger : List XE := [(0, .iload_n 1, 1, 0, 0, []), (1, .ifCond .lt 12, 3, 13, 0, []), (4, .iload_n 2, 1, 0, 0, []), (5, .iconst 0, 1, 0, 0, []), (6, .iconst 4, 1, 0, 0, []), (7, .invokestatic 46, 3, 93, 0, []), (10, .ifCond .ne 9, 3, 19, 0, []), (13, .aload_n 0, 1, 0, 0, []), (14, .iconst 1, 1, 0, 0, []), (15, .invokevirtual 121, 3, 242, 0, []), (18, .ireturn, 1, 0, 0, []), (19, .aload_n 0, 1, 0, 0, []), (20, .iload_n 1, 1, 0, 0, []), (21, .aload_n 0, 1, 0, 0, []), (22, .getfield 7, 3, 7, 0, []), (25, .bipush 9, 2, 0, 0, []), (27, .iaload, 1, 0, 0, []), (28, .if_icmp .ge 19, 3, 47, 0, []), (31, .aload_n 0, 1, 0, 0, []), (32, .getfield 7, 3, 7, 0, []), (35, .bipush 42, 2, 0, 0, []), (37, .iconst 5, 1, 0, 0, []), (38, .iload_n 1, 1, 0, 0, []), (39, .imul, 1, 0, 0, []), (40, .iadd, 1, 0, 0, []), (41, .iload_n 2, 1, 0, 0, []), (42, .iadd, 1, 0, 0, []), (43, .iaload, 1, 0, 0, []), (44, .goto 5, 3, 49, 0, []), (47, .ldc 161, 2, 0, 0, [((-1000000), 0)]), (49, .invokevirtual 42, 3, 84, 0, []), (52, .ireturn, 1, 0, 0, [])]
theorem tX8_ledger_ok : xTblOK RX8 cX8_ledger xFX8 3 tX8_ledger = true := by decide +kernel
abbrev nX8_ledger (X : Nat × (Nat → Int32)) : List (Nat × Nat × Nat × XS) := [(93, 3, 0, fX8_in X), (242, 2, 0, fX8_fails X), (84, 2, 0, fX8_tells X)]
def fX8_ledger (X : Nat × (Nat → Int32)) : XS := fun as σ => match as with
  | [.inr (.inr (some (7, a0))), .inl a1, .inl a2] => xIter X (xEnv (nX8_ledger X)) (fun _ _ => some none) 0 [] tX8_ledger 100000 (0, [(0, .inr (.inr (some (7, a0)))), (1, .inl a1), (2, .inl a2)], σ, 0)
  | _ => none
theorem rX8_ledger (X : Nat × (Nat → Int32)) : ∀ as σ q, fX8_ledger X as σ = some q → ∃ j as', as = xR 7 j :: as' := by
  intro as σ q h
  unfold fX8_ledger at h
  split at h
  · exact ⟨_, _, rfl⟩
  · cases h
theorem mX8_ledger (l : Launch) (X : Nat × (Nat → Int32)) : xMet l X yX8_ledger cX8_ledger 3 (some .int) 2 0 (fX8_ledger X) :=
  xMet_of (cl := xEnv (nX8_ledger X)) (rt := 0) (stops := []) (tbl := tX8_ledger) (by decide +kernel) (by decide) tX8_ledger_ok x_FX8 rfl (xEnv_ok (L := nX8_ledger X) (List.forall_mem_cons.mpr ⟨xCS_S (i := 46) (n := 3) (mX8_in l X) (xPk_in [946, 947, 65, 948] (by decide +kernel) (by decide +kernel)) (by decide +kernel) (by decide) (by decide), (List.forall_mem_cons.mpr ⟨xCS_V (i := 121) (n := 1) (C := RX8) (k := 7) (mX8_fails l X) (xPk_in [957, 959, 20, 65, 960] (by decide +kernel) (by decide +kernel)) (by decide +kernel) (by decide) rfl (by decide) (by decide) (rX8_fails X), (List.forall_mem_cons.mpr ⟨xCS_V (i := 42) (n := 1) (C := RX8) (k := 7) (mX8_tells l X) (xPk_in [965, 967, 22, 65, 968] (by decide +kernel) (by decide +kernel)) (by decide +kernel) (by decide) rfl (by decide) (by decide) (rX8_tells X), (fun _ h => absurd h List.not_mem_nil)⟩)⟩)⟩))
    (xNoNew (by decide +kernel))
    (fun as σ q h => by
      unfold fX8_ledger at h
      split at h
      · exact Nat.le_of_ble_eq_true rfl
      · cases h)
    (fun as σ r σ' h => by
      unfold fX8_ledger at h
      split at h
      · exact ⟨100000, h⟩
      · cases h)
def tX8_sumOf : List XE := [(0, .iconst 0, 1, 0, 0, []), (1, .istore_n 3, 1, 0, 0, []), (2, .iconst 0, 1, 0, 0, []), (3, .istore 4, 2, 0, 0, []), (5, .iload 4, 2, 0, 0, []), (7, .aload_n 0, 1, 0, 0, []), (8, .getfield 7, 3, 7, 0, []), (11, .bipush 9, 2, 0, 0, []), (13, .iaload, 1, 0, 0, []), (14, .if_icmp .ge 46, 3, 60, 0, []), (17, .iload_n 3, 1, 0, 0, []), (18, .aload_n 0, 1, 0, 0, []), (19, .getfield 7, 3, 7, 0, []), (22, .bipush 42, 2, 0, 0, []), (24, .iconst 5, 1, 0, 0, []), (25, .iload 4, 2, 0, 0, []), (27, .imul, 1, 0, 0, []), (28, .iadd, 1, 0, 0, []), (29, .iaload, 1, 0, 0, []), (30, .iload_n 1, 1, 0, 0, []), (31, .if_icmp .ne 20, 3, 51, 0, []), (34, .aload_n 0, 1, 0, 0, []), (35, .getfield 7, 3, 7, 0, []), (38, .bipush 42, 2, 0, 0, []), (40, .iconst 5, 1, 0, 0, []), (41, .iload 4, 2, 0, 0, []), (43, .imul, 1, 0, 0, []), (44, .iadd, 1, 0, 0, []), (45, .iload_n 2, 1, 0, 0, []), (46, .iadd, 1, 0, 0, []), (47, .iaload, 1, 0, 0, []), (48, .goto 4, 3, 52, 0, []), (51, .iconst 0, 1, 0, 0, []), (52, .iadd, 1, 0, 0, []), (53, .istore_n 3, 1, 0, 0, []), (54, .iinc 4 1, 3, 0, 0, []), (57, .goto (-52), 3, 5, 0, []), (60, .iload_n 3, 1, 0, 0, []), (61, .ireturn, 1, 0, 0, [])]
theorem tX8_sumOf_ok : xTblOK RX8 cX8_sumOf xFX8 5 tX8_sumOf = true := by decide +kernel
abbrev nX8_sumOf (X : Nat × (Nat → Int32)) : List (Nat × Nat × Nat × XS) := []
def fX8_sumOf (X : Nat × (Nat → Int32)) : XS := fun as σ => match as with
  | [.inr (.inr (some (7, a0))), .inl a1, .inl a2] => xIter X (xEnv (nX8_sumOf X)) (fun _ _ => some none) 0 [(5, [0, 1, 2, 3, 4])] tX8_sumOf 100000 (0, [(0, .inr (.inr (some (7, a0)))), (1, .inl a1), (2, .inl a2)], σ, 0)
  | _ => none
theorem rX8_sumOf (X : Nat × (Nat → Int32)) : ∀ as σ q, fX8_sumOf X as σ = some q → ∃ j as', as = xR 7 j :: as' := by
  intro as σ q h
  unfold fX8_sumOf at h
  split at h
  · exact ⟨_, _, rfl⟩
  · cases h
theorem mX8_sumOf (l : Launch) (X : Nat × (Nat → Int32)) : xMet l X yX8_sumOf cX8_sumOf 5 (some .int) 1 0 (fX8_sumOf X) :=
  xMet_of (cl := xEnv (nX8_sumOf X)) (rt := 0) (stops := [(5, [0, 1, 2, 3, 4])]) (tbl := tX8_sumOf) (by decide +kernel) (by decide) tX8_sumOf_ok x_FX8 rfl (xEnv_ok (L := nX8_sumOf X) (fun _ h => absurd h List.not_mem_nil))
    (xNoNew (by decide +kernel))
    (fun as σ q h => by
      unfold fX8_sumOf at h
      split at h
      · exact Nat.le_of_ble_eq_true rfl
      · cases h)
    (fun as σ r σ' h => by
      unfold fX8_sumOf at h
      split at h
      · exact ⟨100000, h⟩
      · cases h)
def tX8_ledgerSum : List XE := [(0, .iload_n 1, 1, 0, 0, []), (1, .invokestatic 99, 3, 199, 0, []), (4, .ifCond .ne 9, 3, 13, 0, []), (7, .aload_n 0, 1, 0, 0, []), (8, .iconst 1, 1, 0, 0, []), (9, .invokevirtual 121, 3, 242, 0, []), (12, .ireturn, 1, 0, 0, []), (13, .iload_n 2, 1, 0, 0, []), (14, .iconst 2, 1, 0, 0, []), (15, .iconst 4, 1, 0, 0, []), (16, .invokestatic 46, 3, 93, 0, []), (19, .ifCond .eq 16, 3, 35, 0, []), (22, .aload_n 0, 1, 0, 0, []), (23, .aload_n 0, 1, 0, 0, []), (24, .iload_n 1, 1, 0, 0, []), (25, .iload_n 2, 1, 0, 0, []), (26, .invokevirtual 162, 3, 324, 0, []), (29, .invokevirtual 42, 3, 84, 0, []), (32, .goto 8, 3, 40, 0, []), (35, .aload_n 0, 1, 0, 0, []), (36, .iconst 2, 1, 0, 0, []), (37, .invokevirtual 121, 3, 242, 0, []), (40, .ireturn, 1, 0, 0, [])]
theorem tX8_ledgerSum_ok : xTblOK RX8 cX8_ledgerSum xFX8 3 tX8_ledgerSum = true := by decide +kernel
abbrev nX8_ledgerSum (X : Nat × (Nat → Int32)) : List (Nat × Nat × Nat × XS) := [(199, 1, 0, fX8_isValve X), (242, 2, 0, fX8_fails X), (93, 3, 0, fX8_in X), (324, 3, 0, fX8_sumOf X), (84, 2, 0, fX8_tells X)]
def fX8_ledgerSum (X : Nat × (Nat → Int32)) : XS := fun as σ => match as with
  | [.inr (.inr (some (7, a0))), .inl a1, .inl a2] => xIter X (xEnv (nX8_ledgerSum X)) (fun _ _ => some none) 0 [] tX8_ledgerSum 100000 (0, [(0, .inr (.inr (some (7, a0)))), (1, .inl a1), (2, .inl a2)], σ, 0)
  | _ => none
theorem rX8_ledgerSum (X : Nat × (Nat → Int32)) : ∀ as σ q, fX8_ledgerSum X as σ = some q → ∃ j as', as = xR 7 j :: as' := by
  intro as σ q h
  unfold fX8_ledgerSum at h
  split at h
  · exact ⟨_, _, rfl⟩
  · cases h
theorem mX8_ledgerSum (l : Launch) (X : Nat × (Nat → Int32)) : xMet l X yX8_ledgerSum cX8_ledgerSum 3 (some .int) 3 0 (fX8_ledgerSum X) :=
  xMet_of (cl := xEnv (nX8_ledgerSum X)) (rt := 0) (stops := []) (tbl := tX8_ledgerSum) (by decide +kernel) (by decide) tX8_ledgerSum_ok x_FX8 rfl (xEnv_ok (L := nX8_ledgerSum X) (List.forall_mem_cons.mpr ⟨xCS_S (i := 99) (n := 1) (mX8_isValve l X) (xPk_in [943, 944, 65, 945] (by decide +kernel) (by decide +kernel)) (by decide +kernel) (by decide) (by decide), (List.forall_mem_cons.mpr ⟨xCS_V (i := 121) (n := 1) (C := RX8) (k := 7) (mX8_fails l X) (xPk_in [957, 959, 20, 65, 960] (by decide +kernel) (by decide +kernel)) (by decide +kernel) (by decide) rfl (by decide) (by decide) (rX8_fails X), (List.forall_mem_cons.mpr ⟨xCS_S (i := 46) (n := 3) (mX8_in l X) (xPk_in [946, 947, 65, 948] (by decide +kernel) (by decide +kernel)) (by decide +kernel) (by decide) (by decide), (List.forall_mem_cons.mpr ⟨xCS_V (i := 162) (n := 2) (C := RX8) (k := 7) (mX8_sumOf l X) (xPk_in [1111, 1113, 45, 65, 1114] (by decide +kernel) (by decide +kernel)) (by decide +kernel) (by decide) rfl (by decide) (by decide) (rX8_sumOf X), (List.forall_mem_cons.mpr ⟨xCS_V (i := 42) (n := 1) (C := RX8) (k := 7) (mX8_tells l X) (xPk_in [965, 967, 22, 65, 968] (by decide +kernel) (by decide +kernel)) (by decide +kernel) (by decide) rfl (by decide) (by decide) (rX8_tells X), (fun _ h => absurd h List.not_mem_nil)⟩)⟩)⟩)⟩)⟩))
    (xNoNew (by decide +kernel))
    (fun as σ q h => by
      unfold fX8_ledgerSum at h
      split at h
      · exact Nat.le_of_ble_eq_true rfl
      · cases h)
    (fun as σ r σ' h => by
      unfold fX8_ledgerSum at h
      split at h
      · exact ⟨100000, h⟩
      · cases h)
def tX8_idealFlow : List XE := [(0, .iload_n 1, 1, 0, 0, []), (1, .iconst 0, 1, 0, 0, []), (2, .sipush 1000, 3, 0, 0, []), (5, .invokestatic 46, 3, 93, 0, []), (8, .ifCond .eq 15, 3, 23, 0, []), (11, .aload_n 0, 1, 0, 0, []), (12, .aload_n 0, 1, 0, 0, []), (13, .iload_n 1, 1, 0, 0, []), (14, .invokevirtual 90, 3, 180, 0, []), (17, .invokevirtual 42, 3, 84, 0, []), (20, .goto 8, 3, 28, 0, []), (23, .aload_n 0, 1, 0, 0, []), (24, .iconst 1, 1, 0, 0, []), (25, .invokevirtual 121, 3, 242, 0, []), (28, .ireturn, 1, 0, 0, [])]
theorem tX8_idealFlow_ok : xTblOK RX8 cX8_idealFlow xFX8 2 tX8_idealFlow = true := by decide +kernel
abbrev nX8_idealFlow (X : Nat × (Nat → Int32)) : List (Nat × Nat × Nat × XS) := [(93, 3, 0, fX8_in X), (180, 2, 0, fX8_ideal X), (84, 2, 0, fX8_tells X), (242, 2, 0, fX8_fails X)]
def fX8_idealFlow (X : Nat × (Nat → Int32)) : XS := fun as σ => match as with
  | [.inr (.inr (some (7, a0))), .inl a1] => xIter X (xEnv (nX8_idealFlow X)) (fun _ _ => some none) 0 [] tX8_idealFlow 100000 (0, [(0, .inr (.inr (some (7, a0)))), (1, .inl a1)], σ, 0)
  | _ => none
theorem rX8_idealFlow (X : Nat × (Nat → Int32)) : ∀ as σ q, fX8_idealFlow X as σ = some q → ∃ j as', as = xR 7 j :: as' := by
  intro as σ q h
  unfold fX8_idealFlow at h
  split at h
  · exact ⟨_, _, rfl⟩
  · cases h
theorem mX8_idealFlow (l : Launch) (X : Nat × (Nat → Int32)) : xMet l X yX8_idealFlow cX8_idealFlow 2 (some .int) 4 0 (fX8_idealFlow X) :=
  xMet_of (cl := xEnv (nX8_idealFlow X)) (rt := 0) (stops := []) (tbl := tX8_idealFlow) (by decide +kernel) (by decide) tX8_idealFlow_ok x_FX8 rfl (xEnv_ok (L := nX8_idealFlow X) (List.forall_mem_cons.mpr ⟨xCS_S (i := 46) (n := 3) (mX8_in l X) (xPk_in [946, 947, 65, 948] (by decide +kernel) (by decide +kernel)) (by decide +kernel) (by decide) (by decide), (List.forall_mem_cons.mpr ⟨xCS_V (i := 90) (n := 1) (C := RX8) (k := 7) (mX8_ideal l X) (xPk_in [1078, 1080, 41, 65, 1081] (by decide +kernel) (by decide +kernel)) (by decide +kernel) (by decide) rfl (by decide) (by decide) (rX8_ideal X), (List.forall_mem_cons.mpr ⟨xCS_V (i := 42) (n := 1) (C := RX8) (k := 7) (mX8_tells l X) (xPk_in [965, 967, 22, 65, 968] (by decide +kernel) (by decide +kernel)) (by decide +kernel) (by decide) rfl (by decide) (by decide) (rX8_tells X), (List.forall_mem_cons.mpr ⟨xCS_V (i := 121) (n := 1) (C := RX8) (k := 7) (mX8_fails l X) (xPk_in [957, 959, 20, 65, 960] (by decide +kernel) (by decide +kernel)) (by decide +kernel) (by decide) rfl (by decide) (by decide) (rX8_fails X), (fun _ h => absurd h List.not_mem_nil)⟩)⟩)⟩)⟩))
    (xNoNew (by decide +kernel))
    (fun as σ q h => by
      unfold fX8_idealFlow at h
      split at h
      · exact Nat.le_of_ble_eq_true rfl
      · cases h)
    (fun as σ r σ' h => by
      unfold fX8_idealFlow at h
      split at h
      · exact ⟨100000, h⟩
      · cases h)
def tX8_signalFor : List XE := [(0, .iload_n 1, 1, 0, 0, []), (1, .iconst 0, 1, 0, 0, []), (2, .sipush 2000, 3, 0, 0, []), (5, .invokestatic 46, 3, 93, 0, []), (8, .ifCond .ne 9, 3, 17, 0, []), (11, .aload_n 0, 1, 0, 0, []), (12, .iconst 1, 1, 0, 0, []), (13, .invokevirtual 121, 3, 242, 0, []), (16, .ireturn, 1, 0, 0, []), (17, .iconst 0, 1, 0, 0, []), (18, .istore_n 2, 1, 0, 0, []), (19, .iload_n 2, 1, 0, 0, []), (20, .sipush 1000, 3, 0, 0, []), (23, .if_icmp .gt 24, 3, 47, 0, []), (26, .aload_n 0, 1, 0, 0, []), (27, .iload_n 2, 1, 0, 0, []), (28, .invokevirtual 90, 3, 180, 0, []), (31, .iload_n 1, 1, 0, 0, []), (32, .if_icmp .lt 9, 3, 41, 0, []), (35, .aload_n 0, 1, 0, 0, []), (36, .iload_n 2, 1, 0, 0, []), (37, .invokevirtual 42, 3, 84, 0, []), (40, .ireturn, 1, 0, 0, []), (41, .iinc 2 1, 3, 0, 0, []), (44, .goto (-25), 3, 19, 0, []), (47, .aload_n 0, 1, 0, 0, []), (48, .ldc 161, 2, 0, 0, [((-1000000), 0)]), (50, .invokevirtual 42, 3, 84, 0, []), (53, .ireturn, 1, 0, 0, [])]
theorem tX8_signalFor_ok : xTblOK RX8 cX8_signalFor xFX8 3 tX8_signalFor = true := by decide +kernel
abbrev nX8_signalFor (X : Nat × (Nat → Int32)) : List (Nat × Nat × Nat × XS) := [(93, 3, 0, fX8_in X), (242, 2, 0, fX8_fails X), (180, 2, 0, fX8_ideal X), (84, 2, 0, fX8_tells X)]
def fX8_signalFor (X : Nat × (Nat → Int32)) : XS := fun as σ => match as with
  | [.inr (.inr (some (7, a0))), .inl a1] => xIter X (xEnv (nX8_signalFor X)) (fun _ _ => some none) 0 [(19, [0, 1, 2])] tX8_signalFor 100000 (0, [(0, .inr (.inr (some (7, a0)))), (1, .inl a1)], σ, 0)
  | _ => none
theorem rX8_signalFor (X : Nat × (Nat → Int32)) : ∀ as σ q, fX8_signalFor X as σ = some q → ∃ j as', as = xR 7 j :: as' := by
  intro as σ q h
  unfold fX8_signalFor at h
  split at h
  · exact ⟨_, _, rfl⟩
  · cases h
theorem mX8_signalFor (l : Launch) (X : Nat × (Nat → Int32)) : xMet l X yX8_signalFor cX8_signalFor 3 (some .int) 4 0 (fX8_signalFor X) :=
  xMet_of (cl := xEnv (nX8_signalFor X)) (rt := 0) (stops := [(19, [0, 1, 2])]) (tbl := tX8_signalFor) (by decide +kernel) (by decide) tX8_signalFor_ok x_FX8 rfl (xEnv_ok (L := nX8_signalFor X) (List.forall_mem_cons.mpr ⟨xCS_S (i := 46) (n := 3) (mX8_in l X) (xPk_in [946, 947, 65, 948] (by decide +kernel) (by decide +kernel)) (by decide +kernel) (by decide) (by decide), (List.forall_mem_cons.mpr ⟨xCS_V (i := 121) (n := 1) (C := RX8) (k := 7) (mX8_fails l X) (xPk_in [957, 959, 20, 65, 960] (by decide +kernel) (by decide +kernel)) (by decide +kernel) (by decide) rfl (by decide) (by decide) (rX8_fails X), (List.forall_mem_cons.mpr ⟨xCS_V (i := 90) (n := 1) (C := RX8) (k := 7) (mX8_ideal l X) (xPk_in [1078, 1080, 41, 65, 1081] (by decide +kernel) (by decide +kernel)) (by decide +kernel) (by decide) rfl (by decide) (by decide) (rX8_ideal X), (List.forall_mem_cons.mpr ⟨xCS_V (i := 42) (n := 1) (C := RX8) (k := 7) (mX8_tells l X) (xPk_in [965, 967, 22, 65, 968] (by decide +kernel) (by decide +kernel)) (by decide +kernel) (by decide) rfl (by decide) (by decide) (rX8_tells X), (fun _ h => absurd h List.not_mem_nil)⟩)⟩)⟩)⟩))
    (xNoNew (by decide +kernel))
    (fun as σ q h => by
      unfold fX8_signalFor at h
      split at h
      · exact Nat.le_of_ble_eq_true rfl
      · cases h)
    (fun as σ r σ' h => by
      unfold fX8_signalFor at h
      split at h
      · exact ⟨100000, h⟩
      · cases h)
def tX8_flats : List XE := [(0, .iconst 0, 1, 0, 0, []), (1, .istore_n 1, 1, 0, 0, []), (2, .iconst 1, 1, 0, 0, []), (3, .istore_n 2, 1, 0, 0, []), (4, .iload_n 2, 1, 0, 0, []), (5, .sipush 1000, 3, 0, 0, []), (8, .if_icmp .gt 51, 3, 59, 0, []), (11, .iload_n 1, 1, 0, 0, []), (12, .aload_n 0, 1, 0, 0, []), (13, .iconst 0, 1, 0, 0, []), (14, .iload_n 2, 1, 0, 0, []), (15, .invokevirtual 73, 3, 146, 0, []), (18, .aload_n 0, 1, 0, 0, []), (19, .iconst 0, 1, 0, 0, []), (20, .iload_n 2, 1, 0, 0, []), (21, .iconst 1, 1, 0, 0, []), (22, .isub, 1, 0, 0, []), (23, .invokevirtual 73, 3, 146, 0, []), (26, .if_icmp .ne 24, 3, 50, 0, []), (29, .aload_n 0, 1, 0, 0, []), (30, .iconst 1, 1, 0, 0, []), (31, .iload_n 2, 1, 0, 0, []), (32, .invokevirtual 73, 3, 146, 0, []), (35, .aload_n 0, 1, 0, 0, []), (36, .iconst 1, 1, 0, 0, []), (37, .iload_n 2, 1, 0, 0, []), (38, .iconst 1, 1, 0, 0, []), (39, .isub, 1, 0, 0, []), (40, .invokevirtual 73, 3, 146, 0, []), (43, .if_icmp .ne 7, 3, 50, 0, []), (46, .iconst 1, 1, 0, 0, []), (47, .goto 4, 3, 51, 0, []), (50, .iconst 0, 1, 0, 0, []), (51, .iadd, 1, 0, 0, []), (52, .istore_n 1, 1, 0, 0, []), (53, .iinc 2 1, 3, 0, 0, []), (56, .goto (-52), 3, 4, 0, []), (59, .iload_n 1, 1, 0, 0, []), (60, .ireturn, 1, 0, 0, [])]
theorem tX8_flats_ok : xTblOK RX8 cX8_flats xFX8 3 tX8_flats = true := by decide +kernel
abbrev nX8_flats (X : Nat × (Nat → Int32)) : List (Nat × Nat × Nat × XS) := [(146, 3, 0, fX8_demand X)]
def fX8_flats (X : Nat × (Nat → Int32)) : XS := fun as σ => match as with
  | [.inr (.inr (some (7, a0)))] => xIter X (xEnv (nX8_flats X)) (fun _ _ => some none) 0 [(4, [0, 1, 2])] tX8_flats 100000 (0, [(0, .inr (.inr (some (7, a0))))], σ, 0)
  | _ => none
theorem rX8_flats (X : Nat × (Nat → Int32)) : ∀ as σ q, fX8_flats X as σ = some q → ∃ j as', as = xR 7 j :: as' := by
  intro as σ q h
  unfold fX8_flats at h
  split at h
  · exact ⟨_, _, rfl⟩
  · cases h
theorem mX8_flats (l : Launch) (X : Nat × (Nat → Int32)) : xMet l X yX8_flats cX8_flats 3 (some .int) 3 0 (fX8_flats X) :=
  xMet_of (cl := xEnv (nX8_flats X)) (rt := 0) (stops := [(4, [0, 1, 2])]) (tbl := tX8_flats) (by decide +kernel) (by decide) tX8_flats_ok x_FX8 rfl (xEnv_ok (L := nX8_flats X) (List.forall_mem_cons.mpr ⟨xCS_V (i := 73) (n := 2) (C := RX8) (k := 7) (mX8_demand l X) (xPk_in [1066, 1068, 38, 65, 1069] (by decide +kernel) (by decide +kernel)) (by decide +kernel) (by decide) rfl (by decide) (by decide) (rX8_demand X), (fun _ h => absurd h List.not_mem_nil)⟩))
    (xNoNew (by decide +kernel))
    (fun as σ q h => by
      unfold fX8_flats at h
      split at h
      · exact Nat.le_of_ble_eq_true rfl
      · cases h)
    (fun as σ r σ' h => by
      unfold fX8_flats at h
      split at h
      · exact ⟨100000, h⟩
      · cases h)
def tX8_flatSignals : List XE := [(0, .aload_n 0, 1, 0, 0, []), (1, .aload_n 0, 1, 0, 0, []), (2, .invokevirtual 167, 3, 334, 0, []), (5, .invokevirtual 42, 3, 84, 0, []), (8, .ireturn, 1, 0, 0, [])]
theorem tX8_flatSignals_ok : xTblOK RX8 cX8_flatSignals xFX8 1 tX8_flatSignals = true := by decide +kernel
abbrev nX8_flatSignals (X : Nat × (Nat → Int32)) : List (Nat × Nat × Nat × XS) := [(334, 1, 0, fX8_flats X), (84, 2, 0, fX8_tells X)]
def fX8_flatSignals (X : Nat × (Nat → Int32)) : XS := fun as σ => match as with
  | [.inr (.inr (some (7, a0)))] => xIter X (xEnv (nX8_flatSignals X)) (fun _ _ => some none) 0 [] tX8_flatSignals 100000 (0, [(0, .inr (.inr (some (7, a0))))], σ, 0)
  | _ => none
theorem rX8_flatSignals (X : Nat × (Nat → Int32)) : ∀ as σ q, fX8_flatSignals X as σ = some q → ∃ j as', as = xR 7 j :: as' := by
  intro as σ q h
  unfold fX8_flatSignals at h
  split at h
  · exact ⟨_, _, rfl⟩
  · cases h
theorem mX8_flatSignals (l : Launch) (X : Nat × (Nat → Int32)) : xMet l X yX8_flatSignals cX8_flatSignals 1 (some .int) 4 0 (fX8_flatSignals X) :=
  xMet_of (cl := xEnv (nX8_flatSignals X)) (rt := 0) (stops := []) (tbl := tX8_flatSignals) (by decide +kernel) (by decide) tX8_flatSignals_ok x_FX8 rfl (xEnv_ok (L := nX8_flatSignals X) (List.forall_mem_cons.mpr ⟨xCS_V (i := 167) (n := 0) (C := RX8) (k := 7) (mX8_flats l X) (xPk_in [1132, 1134, 46, 65, 1135] (by decide +kernel) (by decide +kernel)) (by decide +kernel) (by decide) rfl (by decide) (by decide) (rX8_flats X), (List.forall_mem_cons.mpr ⟨xCS_V (i := 42) (n := 1) (C := RX8) (k := 7) (mX8_tells l X) (xPk_in [965, 967, 22, 65, 968] (by decide +kernel) (by decide +kernel)) (by decide +kernel) (by decide) rfl (by decide) (by decide) (rX8_tells X), (fun _ h => absurd h List.not_mem_nil)⟩)⟩))
    (xNoNew (by decide +kernel))
    (fun as σ q h => by
      unfold fX8_flatSignals at h
      split at h
      · exact Nat.le_of_ble_eq_true rfl
      · cases h)
    (fun as σ r σ' h => by
      unfold fX8_flatSignals at h
      split at h
      · exact ⟨100000, h⟩
      · cases h)
def tX8_falls : List XE := [(0, .aload_n 0, 1, 0, 0, []), (1, .iconst 0, 1, 0, 0, []), (2, .invokevirtual 90, 3, 180, 0, []), (5, .istore_n 1, 1, 0, 0, []), (6, .iconst 1, 1, 0, 0, []), (7, .istore_n 2, 1, 0, 0, []), (8, .iload_n 2, 1, 0, 0, []), (9, .sipush 1000, 3, 0, 0, []), (12, .if_icmp .gt 24, 3, 36, 0, []), (15, .aload_n 0, 1, 0, 0, []), (16, .iload_n 2, 1, 0, 0, []), (17, .invokevirtual 90, 3, 180, 0, []), (20, .istore_n 3, 1, 0, 0, []), (21, .iload_n 3, 1, 0, 0, []), (22, .iload_n 1, 1, 0, 0, []), (23, .if_icmp .ge 5, 3, 28, 0, []), (26, .iload_n 2, 1, 0, 0, []), (27, .ireturn, 1, 0, 0, []), (28, .iload_n 3, 1, 0, 0, []), (29, .istore_n 1, 1, 0, 0, []), (30, .iinc 2 1, 3, 0, 0, []), (33, .goto (-25), 3, 8, 0, []), (36, .ldc 161, 2, 0, 0, [((-1000000), 0)]), (38, .ireturn, 1, 0, 0, [])]
theorem tX8_falls_ok : xTblOK RX8 cX8_falls xFX8 4 tX8_falls = true := by decide +kernel
abbrev nX8_falls (X : Nat × (Nat → Int32)) : List (Nat × Nat × Nat × XS) := [(180, 2, 0, fX8_ideal X)]
def fX8_falls (X : Nat × (Nat → Int32)) : XS := fun as σ => match as with
  | [.inr (.inr (some (7, a0)))] => xIter X (xEnv (nX8_falls X)) (fun _ _ => some none) 0 [(8, [0, 1, 2])] tX8_falls 100000 (0, [(0, .inr (.inr (some (7, a0))))], σ, 0)
  | _ => none
theorem rX8_falls (X : Nat × (Nat → Int32)) : ∀ as σ q, fX8_falls X as σ = some q → ∃ j as', as = xR 7 j :: as' := by
  intro as σ q h
  unfold fX8_falls at h
  split at h
  · exact ⟨_, _, rfl⟩
  · cases h
theorem mX8_falls (l : Launch) (X : Nat × (Nat → Int32)) : xMet l X yX8_falls cX8_falls 4 (some .int) 4 0 (fX8_falls X) :=
  xMet_of (cl := xEnv (nX8_falls X)) (rt := 0) (stops := [(8, [0, 1, 2])]) (tbl := tX8_falls) (by decide +kernel) (by decide) tX8_falls_ok x_FX8 rfl (xEnv_ok (L := nX8_falls X) (List.forall_mem_cons.mpr ⟨xCS_V (i := 90) (n := 1) (C := RX8) (k := 7) (mX8_ideal l X) (xPk_in [1078, 1080, 41, 65, 1081] (by decide +kernel) (by decide +kernel)) (by decide +kernel) (by decide) rfl (by decide) (by decide) (rX8_ideal X), (fun _ h => absurd h List.not_mem_nil)⟩))
    (xNoNew (by decide +kernel))
    (fun as σ q h => by
      unfold fX8_falls at h
      split at h
      · exact Nat.le_of_ble_eq_true rfl
      · cases h)
    (fun as σ r σ' h => by
      unfold fX8_falls at h
      split at h
      · exact ⟨100000, h⟩
      · cases h)
def tX8_firstFall : List XE := [(0, .aload_n 0, 1, 0, 0, []), (1, .aload_n 0, 1, 0, 0, []), (2, .invokevirtual 170, 3, 340, 0, []), (5, .invokevirtual 42, 3, 84, 0, []), (8, .ireturn, 1, 0, 0, [])]
theorem tX8_firstFall_ok : xTblOK RX8 cX8_firstFall xFX8 1 tX8_firstFall = true := by decide +kernel
abbrev nX8_firstFall (X : Nat × (Nat → Int32)) : List (Nat × Nat × Nat × XS) := [(340, 1, 0, fX8_falls X), (84, 2, 0, fX8_tells X)]
def fX8_firstFall (X : Nat × (Nat → Int32)) : XS := fun as σ => match as with
  | [.inr (.inr (some (7, a0)))] => xIter X (xEnv (nX8_firstFall X)) (fun _ _ => some none) 0 [] tX8_firstFall 100000 (0, [(0, .inr (.inr (some (7, a0))))], σ, 0)
  | _ => none
theorem rX8_firstFall (X : Nat × (Nat → Int32)) : ∀ as σ q, fX8_firstFall X as σ = some q → ∃ j as', as = xR 7 j :: as' := by
  intro as σ q h
  unfold fX8_firstFall at h
  split at h
  · exact ⟨_, _, rfl⟩
  · cases h
theorem mX8_firstFall (l : Launch) (X : Nat × (Nat → Int32)) : xMet l X yX8_firstFall cX8_firstFall 1 (some .int) 5 0 (fX8_firstFall X) :=
  xMet_of (cl := xEnv (nX8_firstFall X)) (rt := 0) (stops := []) (tbl := tX8_firstFall) (by decide +kernel) (by decide) tX8_firstFall_ok x_FX8 rfl (xEnv_ok (L := nX8_firstFall X) (List.forall_mem_cons.mpr ⟨xCS_V (i := 170) (n := 0) (C := RX8) (k := 7) (mX8_falls l X) (xPk_in [1140, 1142, 47, 65, 1143] (by decide +kernel) (by decide +kernel)) (by decide +kernel) (by decide) rfl (by decide) (by decide) (rX8_falls X), (List.forall_mem_cons.mpr ⟨xCS_V (i := 42) (n := 1) (C := RX8) (k := 7) (mX8_tells l X) (xPk_in [965, 967, 22, 65, 968] (by decide +kernel) (by decide +kernel)) (by decide +kernel) (by decide) rfl (by decide) (by decide) (rX8_tells X), (fun _ h => absurd h List.not_mem_nil)⟩)⟩))
    (xNoNew (by decide +kernel))
    (fun as σ q h => by
      unfold fX8_firstFall at h
      split at h
      · exact Nat.le_of_ble_eq_true rfl
      · cases h)
    (fun as σ r σ' h => by
      unfold fX8_firstFall at h
      split at h
      · exact ⟨100000, h⟩
      · cases h)
def tX8_moveFor : List XE := [(0, .iload_n 1, 1, 0, 0, []), (1, .invokestatic 99, 3, 199, 0, []), (4, .ifCond .ne 9, 3, 13, 0, []), (7, .aload_n 0, 1, 0, 0, []), (8, .iconst 1, 1, 0, 0, []), (9, .invokevirtual 121, 3, 242, 0, []), (12, .ireturn, 1, 0, 0, []), (13, .iload_n 2, 1, 0, 0, []), (14, .iconst 0, 1, 0, 0, []), (15, .sipush 1000, 3, 0, 0, []), (18, .invokestatic 46, 3, 93, 0, []), (21, .ifCond .eq 21, 3, 42, 0, []), (24, .aload_n 0, 1, 0, 0, []), (25, .aload_n 0, 1, 0, 0, []), (26, .iload_n 1, 1, 0, 0, []), (27, .aload_n 0, 1, 0, 0, []), (28, .iload_n 1, 1, 0, 0, []), (29, .iload_n 2, 1, 0, 0, []), (30, .invokevirtual 73, 3, 146, 0, []), (33, .invokevirtual 80, 3, 160, 0, []), (36, .invokevirtual 42, 3, 84, 0, []), (39, .goto 8, 3, 47, 0, []), (42, .aload_n 0, 1, 0, 0, []), (43, .iconst 2, 1, 0, 0, []), (44, .invokevirtual 121, 3, 242, 0, []), (47, .ireturn, 1, 0, 0, [])]
theorem tX8_moveFor_ok : xTblOK RX8 cX8_moveFor xFX8 3 tX8_moveFor = true := by decide +kernel
abbrev nX8_moveFor (X : Nat × (Nat → Int32)) : List (Nat × Nat × Nat × XS) := [(199, 1, 0, fX8_isValve X), (242, 2, 0, fX8_fails X), (93, 3, 0, fX8_in X), (146, 3, 0, fX8_demand X), (160, 3, 0, fX8_move X), (84, 2, 0, fX8_tells X)]
def fX8_moveFor (X : Nat × (Nat → Int32)) : XS := fun as σ => match as with
  | [.inr (.inr (some (7, a0))), .inl a1, .inl a2] => xIter X (xEnv (nX8_moveFor X)) (fun _ _ => some none) 0 [] tX8_moveFor 100000 (0, [(0, .inr (.inr (some (7, a0)))), (1, .inl a1), (2, .inl a2)], σ, 0)
  | _ => none
theorem rX8_moveFor (X : Nat × (Nat → Int32)) : ∀ as σ q, fX8_moveFor X as σ = some q → ∃ j as', as = xR 7 j :: as' := by
  intro as σ q h
  unfold fX8_moveFor at h
  split at h
  · exact ⟨_, _, rfl⟩
  · cases h
theorem mX8_moveFor (l : Launch) (X : Nat × (Nat → Int32)) : xMet l X yX8_moveFor cX8_moveFor 3 (some .int) 5 0 (fX8_moveFor X) :=
  xMet_of (cl := xEnv (nX8_moveFor X)) (rt := 0) (stops := []) (tbl := tX8_moveFor) (by decide +kernel) (by decide) tX8_moveFor_ok x_FX8 rfl (xEnv_ok (L := nX8_moveFor X) (List.forall_mem_cons.mpr ⟨xCS_S (i := 99) (n := 1) (mX8_isValve l X) (xPk_in [943, 944, 65, 945] (by decide +kernel) (by decide +kernel)) (by decide +kernel) (by decide) (by decide), (List.forall_mem_cons.mpr ⟨xCS_V (i := 121) (n := 1) (C := RX8) (k := 7) (mX8_fails l X) (xPk_in [957, 959, 20, 65, 960] (by decide +kernel) (by decide +kernel)) (by decide +kernel) (by decide) rfl (by decide) (by decide) (rX8_fails X), (List.forall_mem_cons.mpr ⟨xCS_S (i := 46) (n := 3) (mX8_in l X) (xPk_in [946, 947, 65, 948] (by decide +kernel) (by decide +kernel)) (by decide +kernel) (by decide) (by decide), (List.forall_mem_cons.mpr ⟨xCS_V (i := 73) (n := 2) (C := RX8) (k := 7) (mX8_demand l X) (xPk_in [1066, 1068, 38, 65, 1069] (by decide +kernel) (by decide +kernel)) (by decide +kernel) (by decide) rfl (by decide) (by decide) (rX8_demand X), (List.forall_mem_cons.mpr ⟨xCS_V (i := 80) (n := 2) (C := RX8) (k := 7) (mX8_move l X) (xPk_in [1070, 1072, 39, 65, 1073] (by decide +kernel) (by decide +kernel)) (by decide +kernel) (by decide) rfl (by decide) (by decide) (rX8_move X), (List.forall_mem_cons.mpr ⟨xCS_V (i := 42) (n := 1) (C := RX8) (k := 7) (mX8_tells l X) (xPk_in [965, 967, 22, 65, 968] (by decide +kernel) (by decide +kernel)) (by decide +kernel) (by decide) rfl (by decide) (by decide) (rX8_tells X), (fun _ h => absurd h List.not_mem_nil)⟩)⟩)⟩)⟩)⟩)⟩))
    (xNoNew (by decide +kernel))
    (fun as σ q h => by
      unfold fX8_moveFor at h
      split at h
      · exact Nat.le_of_ble_eq_true rfl
      · cases h)
    (fun as σ r σ' h => by
      unfold fX8_moveFor at h
      split at h
      · exact ⟨100000, h⟩
      · cases h)
def tX8_restAfter : List XE := [(0, .iload_n 1, 1, 0, 0, []), (1, .iconst 1, 1, 0, 0, []), (2, .sipush 500, 3, 0, 0, []), (5, .invokestatic 46, 3, 93, 0, []), (8, .ifCond .ne 9, 3, 17, 0, []), (11, .aload_n 0, 1, 0, 0, []), (12, .iconst 1, 1, 0, 0, []), (13, .invokevirtual 121, 3, 242, 0, []), (16, .ireturn, 1, 0, 0, []), (17, .aload_n 0, 1, 0, 0, []), (18, .invokevirtual 127, 3, 254, 0, []), (21, .ldc 161, 2, 0, 0, [((-1000000), 0)]), (23, .istore_n 2, 1, 0, 0, []), (24, .iconst 1, 1, 0, 0, []), (25, .istore_n 3, 1, 0, 0, []), (26, .iload_n 3, 1, 0, 0, []), (27, .iload_n 1, 1, 0, 0, []), (28, .if_icmp .gt 29, 3, 57, 0, []), (31, .iload_n 2, 1, 0, 0, []), (32, .ldc 161, 2, 0, 0, [((-1000000), 0)]), (34, .if_icmp .ne 23, 3, 57, 0, []), (37, .aload_n 0, 1, 0, 0, []), (38, .invokevirtual 117, 3, 234, 0, []), (41, .ifCond .eq 8, 3, 49, 0, []), (44, .ldc 161, 2, 0, 0, [((-1000000), 0)]), (46, .goto 4, 3, 50, 0, []), (49, .iload_n 3, 1, 0, 0, []), (50, .istore_n 2, 1, 0, 0, []), (51, .iinc 3 1, 3, 0, 0, []), (54, .goto (-28), 3, 26, 0, []), (57, .aload_n 0, 1, 0, 0, []), (58, .invokevirtual 173, 3, 346, 0, []), (61, .aload_n 0, 1, 0, 0, []), (62, .iload_n 2, 1, 0, 0, []), (63, .invokevirtual 42, 3, 84, 0, []), (66, .ireturn, 1, 0, 0, [])]
theorem tX8_restAfter_ok : xTblOK RX8 cX8_restAfter xFX8 4 tX8_restAfter = true := by decide +kernel
abbrev nX8_restAfter (X : Nat × (Nat → Int32)) : List (Nat × Nat × Nat × XS) := [(93, 3, 0, fX8_in X), (242, 2, 0, fX8_fails X), (254, 1, 0, fX8_hold X), (234, 1, 0, fX8_tick X), (346, 1, 0, fX8_restore X), (84, 2, 0, fX8_tells X)]
def fX8_restAfter (X : Nat × (Nat → Int32)) : XS := fun as σ => match as with
  | [.inr (.inr (some (7, a0))), .inl a1] => xIter X (xEnv (nX8_restAfter X)) (fun _ _ => some none) 0 [(26, [0, 1, 2, 3])] tX8_restAfter 100000 (0, [(0, .inr (.inr (some (7, a0)))), (1, .inl a1)], σ, 0)
  | _ => none
theorem rX8_restAfter (X : Nat × (Nat → Int32)) : ∀ as σ q, fX8_restAfter X as σ = some q → ∃ j as', as = xR 7 j :: as' := by
  intro as σ q h
  unfold fX8_restAfter at h
  split at h
  · exact ⟨_, _, rfl⟩
  · cases h
theorem mX8_restAfter (l : Launch) (X : Nat × (Nat → Int32)) : xMet l X yX8_restAfter cX8_restAfter 4 (some .int) 7 0 (fX8_restAfter X) :=
  xMet_of (cl := xEnv (nX8_restAfter X)) (rt := 0) (stops := [(26, [0, 1, 2, 3])]) (tbl := tX8_restAfter) (by decide +kernel) (by decide) tX8_restAfter_ok x_FX8 rfl (xEnv_ok (L := nX8_restAfter X) (List.forall_mem_cons.mpr ⟨xCS_S (i := 46) (n := 3) (mX8_in l X) (xPk_in [946, 947, 65, 948] (by decide +kernel) (by decide +kernel)) (by decide +kernel) (by decide) (by decide), (List.forall_mem_cons.mpr ⟨xCS_V (i := 121) (n := 1) (C := RX8) (k := 7) (mX8_fails l X) (xPk_in [957, 959, 20, 65, 960] (by decide +kernel) (by decide +kernel)) (by decide +kernel) (by decide) rfl (by decide) (by decide) (rX8_fails X), (List.forall_mem_cons.mpr ⟨xCS_V (i := 127) (n := 0) (C := RX8) (k := 7) (mX8_hold l X) (xPk_in [935, 937, 16, 65, 938] (by decide +kernel) (by decide +kernel)) (by decide +kernel) (by decide) rfl (by decide) (by decide) (rX8_hold X), (List.forall_mem_cons.mpr ⟨xCS_V (i := 117) (n := 0) (C := RX8) (k := 7) (mX8_tick l X) (xPk_in [1036, 1038, 32, 65, 1039] (by decide +kernel) (by decide +kernel)) (by decide +kernel) (by decide) rfl (by decide) (by decide) (rX8_tick X), (List.forall_mem_cons.mpr ⟨xCS_V (i := 173) (n := 0) (C := RX8) (k := 7) (mX8_restore l X) (xPk_in [1152, 1154, 48, 65, 1155] (by decide +kernel) (by decide +kernel)) (by decide +kernel) (by decide) rfl (by decide) (by decide) (rX8_restore X), (List.forall_mem_cons.mpr ⟨xCS_V (i := 42) (n := 1) (C := RX8) (k := 7) (mX8_tells l X) (xPk_in [965, 967, 22, 65, 968] (by decide +kernel) (by decide +kernel)) (by decide +kernel) (by decide) rfl (by decide) (by decide) (rX8_tells X), (fun _ h => absurd h List.not_mem_nil)⟩)⟩)⟩)⟩)⟩)⟩))
    (xNoNew (by decide +kernel))
    (fun as σ q h => by
      unfold fX8_restAfter at h
      split at h
      · exact Nat.le_of_ble_eq_true rfl
      · cases h)
    (fun as σ r σ' h => by
      unfold fX8_restAfter at h
      split at h
      · exact ⟨100000, h⟩
      · cases h)
def tX8_wornAfter : List XE := [(0, .iload_n 1, 1, 0, 0, []), (1, .invokestatic 99, 3, 199, 0, []), (4, .ifCond .ne 9, 3, 13, 0, []), (7, .aload_n 0, 1, 0, 0, []), (8, .iconst 1, 1, 0, 0, []), (9, .invokevirtual 121, 3, 242, 0, []), (12, .ireturn, 1, 0, 0, []), (13, .iload_n 2, 1, 0, 0, []), (14, .iconst 0, 1, 0, 0, []), (15, .ldc 176, 2, 0, 0, [(100000, 0)]), (17, .invokestatic 46, 3, 93, 0, []), (20, .ifCond .eq 14, 3, 34, 0, []), (23, .iload_n 3, 1, 0, 0, []), (24, .iconst 0, 1, 0, 0, []), (25, .sipush 500, 3, 0, 0, []), (28, .invokestatic 46, 3, 93, 0, []), (31, .ifCond .ne 9, 3, 40, 0, []), (34, .aload_n 0, 1, 0, 0, []), (35, .iconst 2, 1, 0, 0, []), (36, .invokevirtual 121, 3, 242, 0, []), (39, .ireturn, 1, 0, 0, []), (40, .aload_n 0, 1, 0, 0, []), (41, .invokevirtual 127, 3, 254, 0, []), (44, .iconst 0, 1, 0, 0, []), (45, .istore 4, 2, 0, 0, []), (47, .aload_n 0, 1, 0, 0, []), (48, .iload_n 1, 1, 0, 0, []), (49, .invokevirtual 61, 3, 122, 0, []), (52, .iload_n 2, 1, 0, 0, []), (53, .if_icmp .ge 20, 3, 73, 0, []), (56, .iload 4, 2, 0, 0, []), (58, .iload_n 3, 1, 0, 0, []), (59, .if_icmp .ge 14, 3, 73, 0, []), (62, .aload_n 0, 1, 0, 0, []), (63, .invokevirtual 117, 3, 234, 0, []), (66, .pop, 1, 0, 0, []), (67, .iinc 4 1, 3, 0, 0, []), (70, .goto (-23), 3, 47, 0, []), (73, .aload_n 0, 1, 0, 0, []), (74, .iload_n 1, 1, 0, 0, []), (75, .invokevirtual 61, 3, 122, 0, []), (78, .iload_n 2, 1, 0, 0, []), (79, .if_icmp .lt 7, 3, 86, 0, []), (82, .iconst 1, 1, 0, 0, []), (83, .goto 4, 3, 87, 0, []), (86, .iconst 0, 1, 0, 0, []), (87, .istore 5, 2, 0, 0, []), (89, .aload_n 0, 1, 0, 0, []), (90, .invokevirtual 173, 3, 346, 0, []), (93, .aload_n 0, 1, 0, 0, []), (94, .iload 5, 2, 0, 0, []), (96, .ifCond .eq 8, 3, 104, 0, []), (99, .iload 4, 2, 0, 0, []), (101, .goto 5, 3, 106, 0, []), (104, .ldc 161, 2, 0, 0, [((-1000000), 0)]), (106, .invokevirtual 42, 3, 84, 0, []), (109, .ireturn, 1, 0, 0, [])]
theorem tX8_wornAfter_ok : xTblOK RX8 cX8_wornAfter xFX8 6 tX8_wornAfter = true := by decide +kernel
abbrev nX8_wornAfter (X : Nat × (Nat → Int32)) : List (Nat × Nat × Nat × XS) := [(199, 1, 0, fX8_isValve X), (242, 2, 0, fX8_fails X), (93, 3, 0, fX8_in X), (254, 1, 0, fX8_hold X), (122, 2, 0, fX8_wear X), (234, 1, 0, fX8_tick X), (346, 1, 0, fX8_restore X), (84, 2, 0, fX8_tells X)]
def fX8_wornAfter (X : Nat × (Nat → Int32)) : XS := fun as σ => match as with
  | [.inr (.inr (some (7, a0))), .inl a1, .inl a2, .inl a3] => xIter X (xEnv (nX8_wornAfter X)) (fun _ _ => some none) 0 [(47, [0, 1, 2, 3, 4])] tX8_wornAfter 100000 (0, [(0, .inr (.inr (some (7, a0)))), (1, .inl a1), (2, .inl a2), (3, .inl a3)], σ, 0)
  | _ => none
theorem rX8_wornAfter (X : Nat × (Nat → Int32)) : ∀ as σ q, fX8_wornAfter X as σ = some q → ∃ j as', as = xR 7 j :: as' := by
  intro as σ q h
  unfold fX8_wornAfter at h
  split at h
  · exact ⟨_, _, rfl⟩
  · cases h
theorem mX8_wornAfter (l : Launch) (X : Nat × (Nat → Int32)) : xMet l X yX8_wornAfter cX8_wornAfter 6 (some .int) 7 0 (fX8_wornAfter X) :=
  xMet_of (cl := xEnv (nX8_wornAfter X)) (rt := 0) (stops := [(47, [0, 1, 2, 3, 4])]) (tbl := tX8_wornAfter) (by decide +kernel) (by decide) tX8_wornAfter_ok x_FX8 rfl (xEnv_ok (L := nX8_wornAfter X) (List.forall_mem_cons.mpr ⟨xCS_S (i := 99) (n := 1) (mX8_isValve l X) (xPk_in [943, 944, 65, 945] (by decide +kernel) (by decide +kernel)) (by decide +kernel) (by decide) (by decide), (List.forall_mem_cons.mpr ⟨xCS_V (i := 121) (n := 1) (C := RX8) (k := 7) (mX8_fails l X) (xPk_in [957, 959, 20, 65, 960] (by decide +kernel) (by decide +kernel)) (by decide +kernel) (by decide) rfl (by decide) (by decide) (rX8_fails X), (List.forall_mem_cons.mpr ⟨xCS_S (i := 46) (n := 3) (mX8_in l X) (xPk_in [946, 947, 65, 948] (by decide +kernel) (by decide +kernel)) (by decide +kernel) (by decide) (by decide), (List.forall_mem_cons.mpr ⟨xCS_V (i := 127) (n := 0) (C := RX8) (k := 7) (mX8_hold l X) (xPk_in [935, 937, 16, 65, 938] (by decide +kernel) (by decide +kernel)) (by decide +kernel) (by decide) rfl (by decide) (by decide) (rX8_hold X), (List.forall_mem_cons.mpr ⟨xCS_V (i := 61) (n := 1) (C := RX8) (k := 7) (mX8_wear l X) (xPk_in [1015, 1017, 29, 65, 1018] (by decide +kernel) (by decide +kernel)) (by decide +kernel) (by decide) rfl (by decide) (by decide) (rX8_wear X), (List.forall_mem_cons.mpr ⟨xCS_V (i := 117) (n := 0) (C := RX8) (k := 7) (mX8_tick l X) (xPk_in [1036, 1038, 32, 65, 1039] (by decide +kernel) (by decide +kernel)) (by decide +kernel) (by decide) rfl (by decide) (by decide) (rX8_tick X), (List.forall_mem_cons.mpr ⟨xCS_V (i := 173) (n := 0) (C := RX8) (k := 7) (mX8_restore l X) (xPk_in [1152, 1154, 48, 65, 1155] (by decide +kernel) (by decide +kernel)) (by decide +kernel) (by decide) rfl (by decide) (by decide) (rX8_restore X), (List.forall_mem_cons.mpr ⟨xCS_V (i := 42) (n := 1) (C := RX8) (k := 7) (mX8_tells l X) (xPk_in [965, 967, 22, 65, 968] (by decide +kernel) (by decide +kernel)) (by decide +kernel) (by decide) rfl (by decide) (by decide) (rX8_tells X), (fun _ h => absurd h List.not_mem_nil)⟩)⟩)⟩)⟩)⟩)⟩)⟩)⟩))
    (xNoNew (by decide +kernel))
    (fun as σ q h => by
      unfold fX8_wornAfter at h
      split at h
      · exact Nat.le_of_ble_eq_true rfl
      · cases h)
    (fun as σ r σ' h => by
      unfold fX8_wornAfter at h
      split at h
      · exact ⟨100000, h⟩
      · cases h)
def tX8_missedWithin : List XE := [(0, .iload_n 1, 1, 0, 0, []), (1, .iconst 1, 1, 0, 0, []), (2, .sipush 500, 3, 0, 0, []), (5, .invokestatic 46, 3, 93, 0, []), (8, .ifCond .ne 9, 3, 17, 0, []), (11, .aload_n 0, 1, 0, 0, []), (12, .iconst 1, 1, 0, 0, []), (13, .invokevirtual 121, 3, 242, 0, []), (16, .ireturn, 1, 0, 0, []), (17, .aload_n 0, 1, 0, 0, []), (18, .invokevirtual 127, 3, 254, 0, []), (21, .aload_n 0, 1, 0, 0, []), (22, .getfield 7, 3, 7, 0, []), (25, .bipush 7, 2, 0, 0, []), (27, .iaload, 1, 0, 0, []), (28, .istore_n 2, 1, 0, 0, []), (29, .iconst 0, 1, 0, 0, []), (30, .istore_n 3, 1, 0, 0, []), (31, .iload_n 3, 1, 0, 0, []), (32, .iload_n 1, 1, 0, 0, []), (33, .if_icmp .ge 14, 3, 47, 0, []), (36, .aload_n 0, 1, 0, 0, []), (37, .invokevirtual 117, 3, 234, 0, []), (40, .pop, 1, 0, 0, []), (41, .iinc 3 1, 3, 0, 0, []), (44, .goto (-13), 3, 31, 0, []), (47, .aload_n 0, 1, 0, 0, []), (48, .getfield 7, 3, 7, 0, []), (51, .bipush 7, 2, 0, 0, []), (53, .iaload, 1, 0, 0, []), (54, .iload_n 2, 1, 0, 0, []), (55, .isub, 1, 0, 0, []), (56, .istore_n 3, 1, 0, 0, []), (57, .aload_n 0, 1, 0, 0, []), (58, .invokevirtual 173, 3, 346, 0, []), (61, .aload_n 0, 1, 0, 0, []), (62, .iload_n 3, 1, 0, 0, []), (63, .invokevirtual 42, 3, 84, 0, []), (66, .ireturn, 1, 0, 0, [])]
theorem tX8_missedWithin_ok : xTblOK RX8 cX8_missedWithin xFX8 4 tX8_missedWithin = true := by decide +kernel
abbrev nX8_missedWithin (X : Nat × (Nat → Int32)) : List (Nat × Nat × Nat × XS) := [(93, 3, 0, fX8_in X), (242, 2, 0, fX8_fails X), (254, 1, 0, fX8_hold X), (234, 1, 0, fX8_tick X), (346, 1, 0, fX8_restore X), (84, 2, 0, fX8_tells X)]
def fX8_missedWithin (X : Nat × (Nat → Int32)) : XS := fun as σ => match as with
  | [.inr (.inr (some (7, a0))), .inl a1] => xIter X (xEnv (nX8_missedWithin X)) (fun _ _ => some none) 0 [(31, [0, 1, 2, 3])] tX8_missedWithin 100000 (0, [(0, .inr (.inr (some (7, a0)))), (1, .inl a1)], σ, 0)
  | _ => none
theorem rX8_missedWithin (X : Nat × (Nat → Int32)) : ∀ as σ q, fX8_missedWithin X as σ = some q → ∃ j as', as = xR 7 j :: as' := by
  intro as σ q h
  unfold fX8_missedWithin at h
  split at h
  · exact ⟨_, _, rfl⟩
  · cases h
theorem mX8_missedWithin (l : Launch) (X : Nat × (Nat → Int32)) : xMet l X yX8_missedWithin cX8_missedWithin 4 (some .int) 7 0 (fX8_missedWithin X) :=
  xMet_of (cl := xEnv (nX8_missedWithin X)) (rt := 0) (stops := [(31, [0, 1, 2, 3])]) (tbl := tX8_missedWithin) (by decide +kernel) (by decide) tX8_missedWithin_ok x_FX8 rfl (xEnv_ok (L := nX8_missedWithin X) (List.forall_mem_cons.mpr ⟨xCS_S (i := 46) (n := 3) (mX8_in l X) (xPk_in [946, 947, 65, 948] (by decide +kernel) (by decide +kernel)) (by decide +kernel) (by decide) (by decide), (List.forall_mem_cons.mpr ⟨xCS_V (i := 121) (n := 1) (C := RX8) (k := 7) (mX8_fails l X) (xPk_in [957, 959, 20, 65, 960] (by decide +kernel) (by decide +kernel)) (by decide +kernel) (by decide) rfl (by decide) (by decide) (rX8_fails X), (List.forall_mem_cons.mpr ⟨xCS_V (i := 127) (n := 0) (C := RX8) (k := 7) (mX8_hold l X) (xPk_in [935, 937, 16, 65, 938] (by decide +kernel) (by decide +kernel)) (by decide +kernel) (by decide) rfl (by decide) (by decide) (rX8_hold X), (List.forall_mem_cons.mpr ⟨xCS_V (i := 117) (n := 0) (C := RX8) (k := 7) (mX8_tick l X) (xPk_in [1036, 1038, 32, 65, 1039] (by decide +kernel) (by decide +kernel)) (by decide +kernel) (by decide) rfl (by decide) (by decide) (rX8_tick X), (List.forall_mem_cons.mpr ⟨xCS_V (i := 173) (n := 0) (C := RX8) (k := 7) (mX8_restore l X) (xPk_in [1152, 1154, 48, 65, 1155] (by decide +kernel) (by decide +kernel)) (by decide +kernel) (by decide) rfl (by decide) (by decide) (rX8_restore X), (List.forall_mem_cons.mpr ⟨xCS_V (i := 42) (n := 1) (C := RX8) (k := 7) (mX8_tells l X) (xPk_in [965, 967, 22, 65, 968] (by decide +kernel) (by decide +kernel)) (by decide +kernel) (by decide) rfl (by decide) (by decide) (rX8_tells X), (fun _ h => absurd h List.not_mem_nil)⟩)⟩)⟩)⟩)⟩)⟩))
    (xNoNew (by decide +kernel))
    (fun as σ q h => by
      unfold fX8_missedWithin at h
      split at h
      · exact Nat.le_of_ble_eq_true rfl
      · cases h)
    (fun as σ r σ' h => by
      unfold fX8_missedWithin at h
      split at h
      · exact ⟨100000, h⟩
      · cases h)
def tX8_type : List XE := [(0, .iload_n 1, 1, 0, 0, []), (1, .iconst 0, 1, 0, 0, []), (2, .bipush 127, 2, 0, 0, []), (4, .invokestatic 46, 3, 93, 0, []), (7, .ifCond .ne 9, 3, 16, 0, []), (10, .aload_n 0, 1, 0, 0, []), (11, .iconst 1, 1, 0, 0, []), (12, .invokevirtual 121, 3, 242, 0, []), (15, .ireturn, 1, 0, 0, []), (16, .aload_n 0, 1, 0, 0, []), (17, .getfield 177, 3, 7, 5, []), (20, .sipush 150, 3, 0, 0, []), (23, .if_icmp .ne 9, 3, 32, 0, []), (26, .aload_n 0, 1, 0, 0, []), (27, .iconst 2, 1, 0, 0, []), (28, .invokevirtual 121, 3, 242, 0, []), (31, .ireturn, 1, 0, 0, []), (32, .aload_n 0, 1, 0, 0, []), (33, .getfield 19, 3, 7, 4, []), (36, .aload_n 0, 1, 0, 0, []), (37, .getfield 177, 3, 7, 5, []), (40, .iload_n 1, 1, 0, 0, []), (41, .iastore, 1, 0, 0, []), (42, .aload_n 0, 1, 0, 0, []), (43, .dup, 1, 0, 0, []), (44, .getfield 177, 3, 7, 5, []), (47, .iconst 1, 1, 0, 0, []), (48, .iadd, 1, 0, 0, []), (49, .putfield 177, 3, 7, 5, []), (52, .aload_n 0, 1, 0, 0, []), (53, .aload_n 0, 1, 0, 0, []), (54, .getfield 177, 3, 7, 5, []), (57, .invokevirtual 42, 3, 84, 0, []), (60, .ireturn, 1, 0, 0, [])]
theorem tX8_type_ok : xTblOK RX8 cX8_type xFX8 2 tX8_type = true := by decide +kernel
abbrev nX8_type (X : Nat × (Nat → Int32)) : List (Nat × Nat × Nat × XS) := [(93, 3, 0, fX8_in X), (242, 2, 0, fX8_fails X), (84, 2, 0, fX8_tells X)]
def fX8_type (X : Nat × (Nat → Int32)) : XS := fun as σ => match as with
  | [.inr (.inr (some (7, a0))), .inl a1] => xIter X (xEnv (nX8_type X)) (fun _ _ => some none) 0 [] tX8_type 100000 (0, [(0, .inr (.inr (some (7, a0)))), (1, .inl a1)], σ, 0)
  | _ => none
theorem rX8_type (X : Nat × (Nat → Int32)) : ∀ as σ q, fX8_type X as σ = some q → ∃ j as', as = xR 7 j :: as' := by
  intro as σ q h
  unfold fX8_type at h
  split at h
  · exact ⟨_, _, rfl⟩
  · cases h
theorem mX8_type (l : Launch) (X : Nat × (Nat → Int32)) : xMet l X yX8_type cX8_type 2 (some .int) 2 0 (fX8_type X) :=
  xMet_of (cl := xEnv (nX8_type X)) (rt := 0) (stops := []) (tbl := tX8_type) (by decide +kernel) (by decide) tX8_type_ok x_FX8 rfl (xEnv_ok (L := nX8_type X) (List.forall_mem_cons.mpr ⟨xCS_S (i := 46) (n := 3) (mX8_in l X) (xPk_in [946, 947, 65, 948] (by decide +kernel) (by decide +kernel)) (by decide +kernel) (by decide) (by decide), (List.forall_mem_cons.mpr ⟨xCS_V (i := 121) (n := 1) (C := RX8) (k := 7) (mX8_fails l X) (xPk_in [957, 959, 20, 65, 960] (by decide +kernel) (by decide +kernel)) (by decide +kernel) (by decide) rfl (by decide) (by decide) (rX8_fails X), (List.forall_mem_cons.mpr ⟨xCS_V (i := 42) (n := 1) (C := RX8) (k := 7) (mX8_tells l X) (xPk_in [965, 967, 22, 65, 968] (by decide +kernel) (by decide +kernel)) (by decide +kernel) (by decide) rfl (by decide) (by decide) (rX8_tells X), (fun _ h => absurd h List.not_mem_nil)⟩)⟩)⟩))
    (xNoNew (by decide +kernel))
    (fun as σ q h => by
      unfold fX8_type at h
      split at h
      · exact Nat.le_of_ble_eq_true rfl
      · cases h)
    (fun as σ r σ' h => by
      unfold fX8_type at h
      split at h
      · exact ⟨100000, h⟩
      · cases h)
def tX8_clearCommands : List XE := [(0, .aload_n 0, 1, 0, 0, []), (1, .getfield 177, 3, 7, 5, []), (4, .istore_n 1, 1, 0, 0, []), (5, .aload_n 0, 1, 0, 0, []), (6, .iconst 0, 1, 0, 0, []), (7, .putfield 177, 3, 7, 5, []), (10, .aload_n 0, 1, 0, 0, []), (11, .iload_n 1, 1, 0, 0, []), (12, .invokevirtual 42, 3, 84, 0, []), (15, .ireturn, 1, 0, 0, [])]
theorem tX8_clearCommands_ok : xTblOK RX8 cX8_clearCommands xFX8 2 tX8_clearCommands = true := by decide +kernel
abbrev nX8_clearCommands (X : Nat × (Nat → Int32)) : List (Nat × Nat × Nat × XS) := [(84, 2, 0, fX8_tells X)]
def fX8_clearCommands (X : Nat × (Nat → Int32)) : XS := fun as σ => match as with
  | [.inr (.inr (some (7, a0)))] => xIter X (xEnv (nX8_clearCommands X)) (fun _ _ => some none) 0 [] tX8_clearCommands 100000 (0, [(0, .inr (.inr (some (7, a0))))], σ, 0)
  | _ => none
theorem rX8_clearCommands (X : Nat × (Nat → Int32)) : ∀ as σ q, fX8_clearCommands X as σ = some q → ∃ j as', as = xR 7 j :: as' := by
  intro as σ q h
  unfold fX8_clearCommands at h
  split at h
  · exact ⟨_, _, rfl⟩
  · cases h
theorem mX8_clearCommands (l : Launch) (X : Nat × (Nat → Int32)) : xMet l X yX8_clearCommands cX8_clearCommands 2 (some .int) 2 0 (fX8_clearCommands X) :=
  xMet_of (cl := xEnv (nX8_clearCommands X)) (rt := 0) (stops := []) (tbl := tX8_clearCommands) (by decide +kernel) (by decide) tX8_clearCommands_ok x_FX8 rfl (xEnv_ok (L := nX8_clearCommands X) (List.forall_mem_cons.mpr ⟨xCS_V (i := 42) (n := 1) (C := RX8) (k := 7) (mX8_tells l X) (xPk_in [965, 967, 22, 65, 968] (by decide +kernel) (by decide +kernel)) (by decide +kernel) (by decide) rfl (by decide) (by decide) (rX8_tells X), (fun _ h => absurd h List.not_mem_nil)⟩))
    (xNoNew (by decide +kernel))
    (fun as σ q h => by
      unfold fX8_clearCommands at h
      split at h
      · exact Nat.le_of_ble_eq_true rfl
      · cases h)
    (fun as σ r σ' h => by
      unfold fX8_clearCommands at h
      split at h
      · exact ⟨100000, h⟩
      · cases h)
def tX8_isAt : List XE := [(0, .aload_n 0, 1, 0, 0, []), (1, .getfield 180, 3, 7, 10, []), (4, .aload_n 0, 1, 0, 0, []), (5, .getfield 177, 3, 7, 5, []), (8, .if_icmp .ge 24, 3, 32, 0, []), (11, .aload_n 0, 1, 0, 0, []), (12, .getfield 19, 3, 7, 4, []), (15, .aload_n 0, 1, 0, 0, []), (16, .getfield 180, 3, 7, 10, []), (19, .iaload, 1, 0, 0, []), (20, .iload_n 1, 1, 0, 0, []), (21, .iload_n 2, 1, 0, 0, []), (22, .invokestatic 46, 3, 93, 0, []), (25, .ifCond .eq 7, 3, 32, 0, []), (28, .iconst 1, 1, 0, 0, []), (29, .goto 4, 3, 33, 0, []), (32, .iconst 0, 1, 0, 0, []), (33, .ireturn, 1, 0, 0, [])]
theorem tX8_isAt_ok : xTblOK RX8 cX8_isAt xFX8 3 tX8_isAt = true := by decide +kernel
abbrev nX8_isAt (X : Nat × (Nat → Int32)) : List (Nat × Nat × Nat × XS) := [(93, 3, 0, fX8_in X)]
def fX8_isAt (X : Nat × (Nat → Int32)) : XS := fun as σ => match as with
  | [.inr (.inr (some (7, a0))), .inl a1, .inl a2] => xIter X (xEnv (nX8_isAt X)) (fun _ _ => some none) 1 [] tX8_isAt 100000 (0, [(0, .inr (.inr (some (7, a0)))), (1, .inl a1), (2, .inl a2)], σ, 0)
  | _ => none
theorem rX8_isAt (X : Nat × (Nat → Int32)) : ∀ as σ q, fX8_isAt X as σ = some q → ∃ j as', as = xR 7 j :: as' := by
  intro as σ q h
  unfold fX8_isAt at h
  split at h
  · exact ⟨_, _, rfl⟩
  · cases h
theorem mX8_isAt (l : Launch) (X : Nat × (Nat → Int32)) : xMet l X yX8_isAt cX8_isAt 3 (some .boolean) 2 0 (fX8_isAt X) :=
  xMet_of (cl := xEnv (nX8_isAt X)) (rt := 1) (stops := []) (tbl := tX8_isAt) (by decide +kernel) (by decide) tX8_isAt_ok x_FX8 rfl (xEnv_ok (L := nX8_isAt X) (List.forall_mem_cons.mpr ⟨xCS_S (i := 46) (n := 3) (mX8_in l X) (xPk_in [946, 947, 65, 948] (by decide +kernel) (by decide +kernel)) (by decide +kernel) (by decide) (by decide), (fun _ h => absurd h List.not_mem_nil)⟩))
    (xNoNew (by decide +kernel))
    (fun as σ q h => by
      unfold fX8_isAt at h
      split at h
      · exact Nat.le_of_ble_eq_true rfl
      · cases h)
    (fun as σ r σ' h => by
      unfold fX8_isAt at h
      split at h
      · exact ⟨100000, h⟩
      · cases h)
def tX8_skips : List XE := [(0, .aload_n 0, 1, 0, 0, []), (1, .bipush 32, 2, 0, 0, []), (3, .bipush 32, 2, 0, 0, []), (5, .invokevirtual 183, 3, 366, 0, []), (8, .ifCond .eq 16, 3, 24, 0, []), (11, .aload_n 0, 1, 0, 0, []), (12, .dup, 1, 0, 0, []), (13, .getfield 180, 3, 7, 10, []), (16, .iconst 1, 1, 0, 0, []), (17, .iadd, 1, 0, 0, []), (18, .putfield 180, 3, 7, 10, []), (21, .goto (-21), 3, 0, 0, []), (24, .return_, 1, 0, 0, [])]
theorem tX8_skips_ok : xTblOK RX8 cX8_skips xFX8 1 tX8_skips = true := by decide +kernel
abbrev nX8_skips (X : Nat × (Nat → Int32)) : List (Nat × Nat × Nat × XS) := [(366, 3, 0, fX8_isAt X)]
def fX8_skips (X : Nat × (Nat → Int32)) : XS := fun as σ => match as with
  | [.inr (.inr (some (7, a0)))] => xIter X (xEnv (nX8_skips X)) (fun _ _ => some none) 4 [(0, [0])] tX8_skips 100000 (0, [(0, .inr (.inr (some (7, a0))))], σ, 0)
  | _ => none
theorem rX8_skips (X : Nat × (Nat → Int32)) : ∀ as σ q, fX8_skips X as σ = some q → ∃ j as', as = xR 7 j :: as' := by
  intro as σ q h
  unfold fX8_skips at h
  split at h
  · exact ⟨_, _, rfl⟩
  · cases h
theorem mX8_skips (l : Launch) (X : Nat × (Nat → Int32)) : xMet l X yX8_skips cX8_skips 1 none 3 0 (fX8_skips X) :=
  xMet_of (cl := xEnv (nX8_skips X)) (rt := 4) (stops := [(0, [0])]) (tbl := tX8_skips) (by decide +kernel) (by decide) tX8_skips_ok x_FX8 rfl (xEnv_ok (L := nX8_skips X) (List.forall_mem_cons.mpr ⟨xCS_V (i := 183) (n := 2) (C := RX8) (k := 7) (mX8_isAt l X) (xPk_in [1185, 1187, 51, 65, 1188] (by decide +kernel) (by decide +kernel)) (by decide +kernel) (by decide) rfl (by decide) (by decide) (rX8_isAt X), (fun _ h => absurd h List.not_mem_nil)⟩))
    (xNoNew (by decide +kernel))
    (fun as σ q h => by
      unfold fX8_skips at h
      split at h
      · exact Nat.le_of_ble_eq_true rfl
      · cases h)
    (fun as σ r σ' h => by
      unfold fX8_skips at h
      split at h
      · exact ⟨100000, h⟩
      · cases h)
def tX8_manyOf : List XE := [(0, .lload_n 0, 1, 0, 0, []), (1, .ldc2_w 186, 3, 1919513445, 0, []), (4, .lcmp, 1, 0, 0, []), (5, .ifCond .eq 19, 3, 24, 0, []), (8, .lload_n 0, 1, 0, 0, []), (9, .ldc2_w 188, 3, 1717660780, 0, []), (12, .lcmp, 1, 0, 0, []), (13, .ifCond .eq 11, 3, 24, 0, []), (16, .lload_n 0, 1, 0, 0, []), (17, .ldc2_w 190, 3, 7562612, 0, []), (20, .lcmp, 1, 0, 0, []), (21, .ifCond .ne 5, 3, 26, 0, []), (24, .iconst 3, 1, 0, 0, []), (25, .ireturn, 1, 0, 0, []), (26, .lload_n 0, 1, 0, 0, []), (27, .ldc2_w 192, 3, 126896544047468, 0, []), (30, .lcmp, 1, 0, 0, []), (31, .ifCond .eq 27, 3, 58, 0, []), (34, .lload_n 0, 1, 0, 0, []), (35, .ldc2_w 194, 3, 1752132708, 0, []), (38, .lcmp, 1, 0, 0, []), (39, .ifCond .eq 19, 3, 58, 0, []), (42, .lload_n 0, 1, 0, 0, []), (43, .ldc2_w 196, 3, 32481164609020773, 0, []), (46, .lcmp, 1, 0, 0, []), (47, .ifCond .eq 11, 3, 58, 0, []), (50, .lload_n 0, 1, 0, 0, []), (51, .ldc2_w 198, 3, 7501166, 0, []), (54, .lcmp, 1, 0, 0, []), (55, .ifCond .ne 5, 3, 60, 0, []), (58, .iconst 1, 1, 0, 0, []), (59, .ireturn, 1, 0, 0, []), (60, .lload_n 0, 1, 0, 0, []), (61, .ldc2_w 200, 3, 1718773093, 0, []), (64, .lcmp, 1, 0, 0, []), (65, .ifCond .ne 7, 3, 72, 0, []), (68, .iconst 0, 1, 0, 0, []), (69, .goto 4, 3, 73, 0, []), (72, .iconst (-1), 1, 0, 0, []), (73, .ireturn, 1, 0, 0, [])]
theorem tX8_manyOf_ok : xTblOK RX8 cX8_manyOf xFX8 2 tX8_manyOf = true := by decide +kernel
abbrev nX8_manyOf (X : Nat × (Nat → Int32)) : List (Nat × Nat × Nat × XS) := []
def fX8_manyOf (X : Nat × (Nat → Int32)) : XS := fun as σ => match as with
  | [.inr (.inl a0)] => xIter X (xEnv (nX8_manyOf X)) (fun _ _ => some none) 0 [] tX8_manyOf 100000 (0, [(0, .inr (.inl a0))], σ, 0)
  | _ => none
theorem mX8_manyOf (l : Launch) (X : Nat × (Nat → Int32)) : xMet l X yX8_manyOf cX8_manyOf 2 (some .int) 1 0 (fX8_manyOf X) :=
  xMet_of (cl := xEnv (nX8_manyOf X)) (rt := 0) (stops := []) (tbl := tX8_manyOf) (by decide +kernel) (by decide) tX8_manyOf_ok x_FX8 rfl (xEnv_ok (L := nX8_manyOf X) (fun _ h => absurd h List.not_mem_nil))
    (xNoNew (by decide +kernel))
    (fun as σ q h => by
      unfold fX8_manyOf at h
      split at h
      · exact Nat.le_of_ble_eq_true rfl
      · cases h)
    (fun as σ r σ' h => by
      unfold fX8_manyOf at h
      split at h
      · exact ⟨100000, h⟩
      · cases h)
def tX8_isWord : List XE := [(0, .aload_n 0, 1, 0, 0, []), (1, .getfield 180, 3, 7, 10, []), (4, .istore_n 1, 1, 0, 0, []), (5, .aload_n 0, 1, 0, 0, []), (6, .lconst 0, 1, 0, 0, []), (7, .putfield 202, 3, 7, 11, []), (10, .aload_n 0, 1, 0, 0, []), (11, .bipush 97, 2, 0, 0, []), (13, .bipush 122, 2, 0, 0, []), (15, .invokevirtual 183, 3, 366, 0, []), (18, .ifCond .eq 53, 3, 71, 0, []), (21, .aload_n 0, 1, 0, 0, []), (22, .aload_n 0, 1, 0, 0, []), (23, .getfield 180, 3, 7, 10, []), (26, .iload_n 1, 1, 0, 0, []), (27, .isub, 1, 0, 0, []), (28, .bipush 7, 2, 0, 0, []), (30, .if_icmp .ge 24, 3, 54, 0, []), (33, .aload_n 0, 1, 0, 0, []), (34, .getfield 202, 3, 7, 11, []), (37, .bipush 8, 2, 0, 0, []), (39, .lshl, 1, 0, 0, []), (40, .aload_n 0, 1, 0, 0, []), (41, .getfield 19, 3, 7, 4, []), (44, .aload_n 0, 1, 0, 0, []), (45, .getfield 180, 3, 7, 10, []), (48, .iaload, 1, 0, 0, []), (49, .i2l, 1, 0, 0, []), (50, .lor, 1, 0, 0, []), (51, .goto 4, 3, 55, 0, []), (54, .lconst 0, 1, 0, 0, []), (55, .putfield 202, 3, 7, 11, []), (58, .aload_n 0, 1, 0, 0, []), (59, .dup, 1, 0, 0, []), (60, .getfield 180, 3, 7, 10, []), (63, .iconst 1, 1, 0, 0, []), (64, .iadd, 1, 0, 0, []), (65, .putfield 180, 3, 7, 10, []), (68, .goto (-58), 3, 10, 0, []), (71, .aload_n 0, 1, 0, 0, []), (72, .getfield 180, 3, 7, 10, []), (75, .iload_n 1, 1, 0, 0, []), (76, .isub, 1, 0, 0, []), (77, .bipush 7, 2, 0, 0, []), (79, .if_icmp .gt 13, 3, 92, 0, []), (82, .aload_n 0, 1, 0, 0, []), (83, .getfield 202, 3, 7, 11, []), (86, .invokestatic 206, 3, 413, 0, []), (89, .ifCond .ge 10, 3, 99, 0, []), (92, .aload_n 0, 1, 0, 0, []), (93, .iload_n 1, 1, 0, 0, []), (94, .putfield 180, 3, 7, 10, []), (97, .iconst 0, 1, 0, 0, []), (98, .ireturn, 1, 0, 0, []), (99, .iconst 1, 1, 0, 0, []), (100, .ireturn, 1, 0, 0, [])]
theorem tX8_isWord_ok : xTblOK RX8 cX8_isWord xFX8 2 tX8_isWord = true := by decide +kernel
abbrev nX8_isWord (X : Nat × (Nat → Int32)) : List (Nat × Nat × Nat × XS) := [(366, 3, 0, fX8_isAt X), (413, 1, 0, fX8_manyOf X)]
def fX8_isWord (X : Nat × (Nat → Int32)) : XS := fun as σ => match as with
  | [.inr (.inr (some (7, a0)))] => xIter X (xEnv (nX8_isWord X)) (fun _ _ => some none) 1 [(10, [0, 1])] tX8_isWord 100000 (0, [(0, .inr (.inr (some (7, a0))))], σ, 0)
  | _ => none
theorem rX8_isWord (X : Nat × (Nat → Int32)) : ∀ as σ q, fX8_isWord X as σ = some q → ∃ j as', as = xR 7 j :: as' := by
  intro as σ q h
  unfold fX8_isWord at h
  split at h
  · exact ⟨_, _, rfl⟩
  · cases h
theorem mX8_isWord (l : Launch) (X : Nat × (Nat → Int32)) : xMet l X yX8_isWord cX8_isWord 2 (some .boolean) 3 0 (fX8_isWord X) :=
  xMet_of (cl := xEnv (nX8_isWord X)) (rt := 1) (stops := [(10, [0, 1])]) (tbl := tX8_isWord) (by decide +kernel) (by decide) tX8_isWord_ok x_FX8 rfl (xEnv_ok (L := nX8_isWord X) (List.forall_mem_cons.mpr ⟨xCS_V (i := 183) (n := 2) (C := RX8) (k := 7) (mX8_isAt l X) (xPk_in [1185, 1187, 51, 65, 1188] (by decide +kernel) (by decide +kernel)) (by decide +kernel) (by decide) rfl (by decide) (by decide) (rX8_isAt X), (List.forall_mem_cons.mpr ⟨xCS_S (i := 206) (n := 1) (mX8_manyOf l X) (xPk_in [1197, 1198, 65, 1199] (by decide +kernel) (by decide +kernel)) (by decide +kernel) (by decide) (by decide), (fun _ h => absurd h List.not_mem_nil)⟩)⟩))
    (xNoNew (by decide +kernel))
    (fun as σ q h => by
      unfold fX8_isWord at h
      split at h
      · exact Nat.le_of_ble_eq_true rfl
      · cases h)
    (fun as σ r σ' h => by
      unfold fX8_isWord at h
      split at h
      · exact ⟨100000, h⟩
      · cases h)
def tX8_isNumber : List XE := [(0, .aload_n 0, 1, 0, 0, []), (1, .bipush 32, 2, 0, 0, []), (3, .bipush 32, 2, 0, 0, []), (5, .invokevirtual 183, 3, 366, 0, []), (8, .ifCond .ne 5, 3, 13, 0, []), (11, .iconst 0, 1, 0, 0, []), (12, .ireturn, 1, 0, 0, []), (13, .aload_n 0, 1, 0, 0, []), (14, .invokevirtual 210, 3, 420, 0, []), (17, .aload_n 0, 1, 0, 0, []), (18, .getfield 180, 3, 7, 10, []), (21, .istore_n 2, 1, 0, 0, []), (22, .aload_n 0, 1, 0, 0, []), (23, .getfield 28, 3, 7, 12, []), (26, .iload_n 1, 1, 0, 0, []), (27, .iconst 0, 1, 0, 0, []), (28, .iastore, 1, 0, 0, []), (29, .aload_n 0, 1, 0, 0, []), (30, .getfield 180, 3, 7, 10, []), (33, .iload_n 2, 1, 0, 0, []), (34, .isub, 1, 0, 0, []), (35, .iconst 4, 1, 0, 0, []), (36, .if_icmp .ge 55, 3, 91, 0, []), (39, .aload_n 0, 1, 0, 0, []), (40, .bipush 48, 2, 0, 0, []), (42, .bipush 57, 2, 0, 0, []), (44, .invokevirtual 183, 3, 366, 0, []), (47, .ifCond .eq 44, 3, 91, 0, []), (50, .aload_n 0, 1, 0, 0, []), (51, .getfield 28, 3, 7, 12, []), (54, .iload_n 1, 1, 0, 0, []), (55, .bipush 10, 2, 0, 0, []), (57, .aload_n 0, 1, 0, 0, []), (58, .getfield 28, 3, 7, 12, []), (61, .iload_n 1, 1, 0, 0, []), (62, .iaload, 1, 0, 0, []), (63, .imul, 1, 0, 0, []), (64, .aload_n 0, 1, 0, 0, []), (65, .getfield 19, 3, 7, 4, []), (68, .aload_n 0, 1, 0, 0, []), (69, .getfield 180, 3, 7, 10, []), (72, .iaload, 1, 0, 0, []), (73, .iadd, 1, 0, 0, []), (74, .bipush 48, 2, 0, 0, []), (76, .isub, 1, 0, 0, []), (77, .iastore, 1, 0, 0, []), (78, .aload_n 0, 1, 0, 0, []), (79, .dup, 1, 0, 0, []), (80, .getfield 180, 3, 7, 10, []), (83, .iconst 1, 1, 0, 0, []), (84, .iadd, 1, 0, 0, []), (85, .putfield 180, 3, 7, 10, []), (88, .goto (-59), 3, 29, 0, []), (91, .aload_n 0, 1, 0, 0, []), (92, .getfield 180, 3, 7, 10, []), (95, .iload_n 2, 1, 0, 0, []), (96, .if_icmp .le 18, 3, 114, 0, []), (99, .aload_n 0, 1, 0, 0, []), (100, .bipush 48, 2, 0, 0, []), (102, .bipush 57, 2, 0, 0, []), (104, .invokevirtual 183, 3, 366, 0, []), (107, .ifCond .ne 7, 3, 114, 0, []), (110, .iconst 1, 1, 0, 0, []), (111, .goto 4, 3, 115, 0, []), (114, .iconst 0, 1, 0, 0, []), (115, .ireturn, 1, 0, 0, [])]
theorem tX8_isNumber_ok : xTblOK RX8 cX8_isNumber xFX8 3 tX8_isNumber = true := by decide +kernel
abbrev nX8_isNumber (X : Nat × (Nat → Int32)) : List (Nat × Nat × Nat × XS) := [(366, 3, 0, fX8_isAt X), (420, 1, 0, fX8_skips X)]
def fX8_isNumber (X : Nat × (Nat → Int32)) : XS := fun as σ => match as with
  | [.inr (.inr (some (7, a0))), .inl a1] => xIter X (xEnv (nX8_isNumber X)) (fun _ _ => some none) 1 [(29, [0, 1, 2])] tX8_isNumber 100000 (0, [(0, .inr (.inr (some (7, a0)))), (1, .inl a1)], σ, 0)
  | _ => none
theorem rX8_isNumber (X : Nat × (Nat → Int32)) : ∀ as σ q, fX8_isNumber X as σ = some q → ∃ j as', as = xR 7 j :: as' := by
  intro as σ q h
  unfold fX8_isNumber at h
  split at h
  · exact ⟨_, _, rfl⟩
  · cases h
theorem mX8_isNumber (l : Launch) (X : Nat × (Nat → Int32)) : xMet l X yX8_isNumber cX8_isNumber 3 (some .boolean) 4 0 (fX8_isNumber X) :=
  xMet_of (cl := xEnv (nX8_isNumber X)) (rt := 1) (stops := [(29, [0, 1, 2])]) (tbl := tX8_isNumber) (by decide +kernel) (by decide) tX8_isNumber_ok x_FX8 rfl (xEnv_ok (L := nX8_isNumber X) (List.forall_mem_cons.mpr ⟨xCS_V (i := 183) (n := 2) (C := RX8) (k := 7) (mX8_isAt l X) (xPk_in [1185, 1187, 51, 65, 1188] (by decide +kernel) (by decide +kernel)) (by decide +kernel) (by decide) rfl (by decide) (by decide) (rX8_isAt X), (List.forall_mem_cons.mpr ⟨xCS_V (i := 210) (n := 0) (C := RX8) (k := 7) (mX8_skips l X) (xPk_in [1181, 1183, 50, 65, 1184] (by decide +kernel) (by decide +kernel)) (by decide +kernel) (by decide) rfl (by decide) (by decide) (rX8_skips X), (fun _ h => absurd h List.not_mem_nil)⟩)⟩))
    (xNoNew (by decide +kernel))
    (fun as σ q h => by
      unfold fX8_isNumber at h
      split at h
      · exact Nat.le_of_ble_eq_true rfl
      · cases h)
    (fun as σ r σ' h => by
      unfold fX8_isNumber at h
      split at h
      · exact ⟨100000, h⟩
      · cases h)
def tX8_isCommand : List XE := [(0, .aload_n 0, 1, 0, 0, []), (1, .invokevirtual 213, 3, 426, 0, []), (4, .ifCond .ne 5, 3, 9, 0, []), (7, .iconst 0, 1, 0, 0, []), (8, .ireturn, 1, 0, 0, []), (9, .aload_n 0, 1, 0, 0, []), (10, .getfield 202, 3, 7, 11, []), (13, .invokestatic 206, 3, 413, 0, []), (16, .istore_n 1, 1, 0, 0, []), (17, .iconst 0, 1, 0, 0, []), (18, .istore_n 2, 1, 0, 0, []), (19, .iload_n 2, 1, 0, 0, []), (20, .iload_n 1, 1, 0, 0, []), (21, .if_icmp .ge 19, 3, 40, 0, []), (24, .aload_n 0, 1, 0, 0, []), (25, .iload_n 2, 1, 0, 0, []), (26, .invokevirtual 216, 3, 432, 0, []), (29, .ifCond .ne 5, 3, 34, 0, []), (32, .iconst 0, 1, 0, 0, []), (33, .ireturn, 1, 0, 0, []), (34, .iinc 2 1, 3, 0, 0, []), (37, .goto (-18), 3, 19, 0, []), (40, .aload_n 0, 1, 0, 0, []), (41, .invokevirtual 210, 3, 420, 0, []), (44, .aload_n 0, 1, 0, 0, []), (45, .bipush 59, 2, 0, 0, []), (47, .bipush 59, 2, 0, 0, []), (49, .invokevirtual 183, 3, 366, 0, []), (52, .ifCond .ne 5, 3, 57, 0, []), (55, .iconst 0, 1, 0, 0, []), (56, .ireturn, 1, 0, 0, []), (57, .aload_n 0, 1, 0, 0, []), (58, .dup, 1, 0, 0, []), (59, .getfield 180, 3, 7, 10, []), (62, .iconst 1, 1, 0, 0, []), (63, .iadd, 1, 0, 0, []), (64, .putfield 180, 3, 7, 10, []), (67, .aload_n 0, 1, 0, 0, []), (68, .invokevirtual 210, 3, 420, 0, []), (71, .iconst 1, 1, 0, 0, []), (72, .ireturn, 1, 0, 0, [])]
theorem tX8_isCommand_ok : xTblOK RX8 cX8_isCommand xFX8 3 tX8_isCommand = true := by decide +kernel
abbrev nX8_isCommand (X : Nat × (Nat → Int32)) : List (Nat × Nat × Nat × XS) := [(426, 1, 0, fX8_isWord X), (413, 1, 0, fX8_manyOf X), (432, 2, 0, fX8_isNumber X), (420, 1, 0, fX8_skips X), (366, 3, 0, fX8_isAt X)]
def fX8_isCommand (X : Nat × (Nat → Int32)) : XS := fun as σ => match as with
  | [.inr (.inr (some (7, a0)))] => xIter X (xEnv (nX8_isCommand X)) (fun _ _ => some none) 1 [(19, [0, 1, 2])] tX8_isCommand 100000 (0, [(0, .inr (.inr (some (7, a0))))], σ, 0)
  | _ => none
theorem rX8_isCommand (X : Nat × (Nat → Int32)) : ∀ as σ q, fX8_isCommand X as σ = some q → ∃ j as', as = xR 7 j :: as' := by
  intro as σ q h
  unfold fX8_isCommand at h
  split at h
  · exact ⟨_, _, rfl⟩
  · cases h
theorem mX8_isCommand (l : Launch) (X : Nat × (Nat → Int32)) : xMet l X yX8_isCommand cX8_isCommand 3 (some .boolean) 5 0 (fX8_isCommand X) :=
  xMet_of (cl := xEnv (nX8_isCommand X)) (rt := 1) (stops := [(19, [0, 1, 2])]) (tbl := tX8_isCommand) (by decide +kernel) (by decide) tX8_isCommand_ok x_FX8 rfl (xEnv_ok (L := nX8_isCommand X) (List.forall_mem_cons.mpr ⟨xCS_V (i := 213) (n := 0) (C := RX8) (k := 7) (mX8_isWord l X) (xPk_in [1193, 1195, 53, 65, 1196] (by decide +kernel) (by decide +kernel)) (by decide +kernel) (by decide) rfl (by decide) (by decide) (rX8_isWord X), (List.forall_mem_cons.mpr ⟨xCS_S (i := 206) (n := 1) (mX8_manyOf l X) (xPk_in [1197, 1198, 65, 1199] (by decide +kernel) (by decide +kernel)) (by decide +kernel) (by decide) (by decide), (List.forall_mem_cons.mpr ⟨xCS_V (i := 216) (n := 1) (C := RX8) (k := 7) (mX8_isNumber l X) (xPk_in [1208, 1210, 54, 65, 1211] (by decide +kernel) (by decide +kernel)) (by decide +kernel) (by decide) rfl (by decide) (by decide) (rX8_isNumber X), (List.forall_mem_cons.mpr ⟨xCS_V (i := 210) (n := 0) (C := RX8) (k := 7) (mX8_skips l X) (xPk_in [1181, 1183, 50, 65, 1184] (by decide +kernel) (by decide +kernel)) (by decide +kernel) (by decide) rfl (by decide) (by decide) (rX8_skips X), (List.forall_mem_cons.mpr ⟨xCS_V (i := 183) (n := 2) (C := RX8) (k := 7) (mX8_isAt l X) (xPk_in [1185, 1187, 51, 65, 1188] (by decide +kernel) (by decide +kernel)) (by decide +kernel) (by decide) rfl (by decide) (by decide) (rX8_isAt X), (fun _ h => absurd h List.not_mem_nil)⟩)⟩)⟩)⟩)⟩))
    (xNoNew (by decide +kernel))
    (fun as σ q h => by
      unfold fX8_isCommand at h
      split at h
      · exact Nat.le_of_ble_eq_true rfl
      · cases h)
    (fun as σ r σ' h => by
      unfold fX8_isCommand at h
      split at h
      · exact ⟨100000, h⟩
      · cases h)
def tX8_faultAt : List XE := [(0, .aload_n 0, 1, 0, 0, []), (1, .iconst 0, 1, 0, 0, []), (2, .putfield 180, 3, 7, 10, []), (5, .aload_n 0, 1, 0, 0, []), (6, .invokevirtual 210, 3, 420, 0, []), (9, .aload_n 0, 1, 0, 0, []), (10, .getfield 180, 3, 7, 10, []), (13, .aload_n 0, 1, 0, 0, []), (14, .getfield 177, 3, 7, 5, []), (17, .if_icmp .ge 15, 3, 32, 0, []), (20, .aload_n 0, 1, 0, 0, []), (21, .invokevirtual 219, 3, 438, 0, []), (24, .ifCond .ne (-15), 3, 9, 0, []), (27, .aload_n 0, 1, 0, 0, []), (28, .getfield 180, 3, 7, 10, []), (31, .ireturn, 1, 0, 0, []), (32, .ldc 161, 2, 0, 0, [((-1000000), 0)]), (34, .ireturn, 1, 0, 0, [])]
theorem tX8_faultAt_ok : xTblOK RX8 cX8_faultAt xFX8 1 tX8_faultAt = true := by decide +kernel
abbrev nX8_faultAt (X : Nat × (Nat → Int32)) : List (Nat × Nat × Nat × XS) := [(420, 1, 0, fX8_skips X), (438, 1, 0, fX8_isCommand X)]
def fX8_faultAt (X : Nat × (Nat → Int32)) : XS := fun as σ => match as with
  | [.inr (.inr (some (7, a0)))] => xIter X (xEnv (nX8_faultAt X)) (fun _ _ => some none) 0 [(9, [0])] tX8_faultAt 100000 (0, [(0, .inr (.inr (some (7, a0))))], σ, 0)
  | _ => none
theorem rX8_faultAt (X : Nat × (Nat → Int32)) : ∀ as σ q, fX8_faultAt X as σ = some q → ∃ j as', as = xR 7 j :: as' := by
  intro as σ q h
  unfold fX8_faultAt at h
  split at h
  · exact ⟨_, _, rfl⟩
  · cases h
theorem mX8_faultAt (l : Launch) (X : Nat × (Nat → Int32)) : xMet l X yX8_faultAt cX8_faultAt 1 (some .int) 6 0 (fX8_faultAt X) :=
  xMet_of (cl := xEnv (nX8_faultAt X)) (rt := 0) (stops := [(9, [0])]) (tbl := tX8_faultAt) (by decide +kernel) (by decide) tX8_faultAt_ok x_FX8 rfl (xEnv_ok (L := nX8_faultAt X) (List.forall_mem_cons.mpr ⟨xCS_V (i := 210) (n := 0) (C := RX8) (k := 7) (mX8_skips l X) (xPk_in [1181, 1183, 50, 65, 1184] (by decide +kernel) (by decide +kernel)) (by decide +kernel) (by decide) rfl (by decide) (by decide) (rX8_skips X), (List.forall_mem_cons.mpr ⟨xCS_V (i := 219) (n := 0) (C := RX8) (k := 7) (mX8_isCommand l X) (xPk_in [1189, 1191, 52, 65, 1192] (by decide +kernel) (by decide +kernel)) (by decide +kernel) (by decide) rfl (by decide) (by decide) (rX8_isCommand X), (fun _ h => absurd h List.not_mem_nil)⟩)⟩))
    (xNoNew (by decide +kernel))
    (fun as σ q h => by
      unfold fX8_faultAt at h
      split at h
      · exact Nat.le_of_ble_eq_true rfl
      · cases h)
    (fun as σ r σ' h => by
      unfold fX8_faultAt at h
      split at h
      · exact ⟨100000, h⟩
      · cases h)
def tX8_does : List XE := [(0, .aload_n 0, 1, 0, 0, []), (1, .getfield 28, 3, 7, 12, []), (4, .iconst 0, 1, 0, 0, []), (5, .iaload, 1, 0, 0, []), (6, .istore_n 1, 1, 0, 0, []), (7, .aload_n 0, 1, 0, 0, []), (8, .getfield 202, 3, 7, 11, []), (11, .ldc2_w 186, 3, 1919513445, 0, []), (14, .lcmp, 1, 0, 0, []), (15, .ifCond .eq 14, 3, 29, 0, []), (18, .aload_n 0, 1, 0, 0, []), (19, .getfield 202, 3, 7, 11, []), (22, .ldc2_w 188, 3, 1717660780, 0, []), (25, .lcmp, 1, 0, 0, []), (26, .ifCond .ne 37, 3, 63, 0, []), (29, .aload_n 0, 1, 0, 0, []), (30, .iload_n 1, 1, 0, 0, []), (31, .aload_n 0, 1, 0, 0, []), (32, .getfield 28, 3, 7, 12, []), (35, .iconst 1, 1, 0, 0, []), (36, .iaload, 1, 0, 0, []), (37, .aload_n 0, 1, 0, 0, []), (38, .getfield 28, 3, 7, 12, []), (41, .iconst 2, 1, 0, 0, []), (42, .iaload, 1, 0, 0, []), (43, .aload_n 0, 1, 0, 0, []), (44, .getfield 202, 3, 7, 11, []), (47, .ldc2_w 188, 3, 1717660780, 0, []), (50, .lcmp, 1, 0, 0, []), (51, .ifCond .ne 7, 3, 58, 0, []), (54, .iconst 1, 1, 0, 0, []), (55, .goto 4, 3, 59, 0, []), (58, .iconst 0, 1, 0, 0, []), (59, .invokevirtual 130, 3, 260, 0, []), (62, .ireturn, 1, 0, 0, []), (63, .aload_n 0, 1, 0, 0, []), (64, .getfield 202, 3, 7, 11, []), (67, .ldc2_w 190, 3, 7562612, 0, []), (70, .lcmp, 1, 0, 0, []), (71, .ifCond .ne 21, 3, 92, 0, []), (74, .aload_n 0, 1, 0, 0, []), (75, .iload_n 1, 1, 0, 0, []), (76, .aload_n 0, 1, 0, 0, []), (77, .getfield 28, 3, 7, 12, []), (80, .iconst 1, 1, 0, 0, []), (81, .iaload, 1, 0, 0, []), (82, .aload_n 0, 1, 0, 0, []), (83, .getfield 28, 3, 7, 12, []), (86, .iconst 2, 1, 0, 0, []), (87, .iaload, 1, 0, 0, []), (88, .invokevirtual 137, 3, 274, 0, []), (91, .ireturn, 1, 0, 0, []), (92, .aload_n 0, 1, 0, 0, []), (93, .getfield 202, 3, 7, 11, []), (96, .ldc2_w 192, 3, 126896544047468, 0, []), (99, .lcmp, 1, 0, 0, []), (100, .ifCond .ne 9, 3, 109, 0, []), (103, .aload_n 0, 1, 0, 0, []), (104, .iload_n 1, 1, 0, 0, []), (105, .invokevirtual 140, 3, 280, 0, []), (108, .ireturn, 1, 0, 0, []), (109, .aload_n 0, 1, 0, 0, []), (110, .getfield 202, 3, 7, 11, []), (113, .ldc2_w 194, 3, 1752132708, 0, []), (116, .lcmp, 1, 0, 0, []), (117, .ifCond .ne 9, 3, 126, 0, []), (120, .aload_n 0, 1, 0, 0, []), (121, .iload_n 1, 1, 0, 0, []), (122, .invokevirtual 222, 3, 444, 0, []), (125, .ireturn, 1, 0, 0, []), (126, .aload_n 0, 1, 0, 0, []), (127, .getfield 202, 3, 7, 11, []), (130, .ldc2_w 200, 3, 1718773093, 0, []), (133, .lcmp, 1, 0, 0, []), (134, .ifCond .ne 10, 3, 144, 0, []), (137, .aload_n 0, 1, 0, 0, []), (138, .iconst 0, 1, 0, 0, []), (139, .iconst 0, 1, 0, 0, []), (140, .invokevirtual 113, 3, 226, 0, []), (143, .ireturn, 1, 0, 0, []), (144, .aload_n 0, 1, 0, 0, []), (145, .getfield 202, 3, 7, 11, []), (148, .ldc2_w 196, 3, 32481164609020773, 0, []), (151, .lcmp, 1, 0, 0, []), (152, .ifCond .ne 11, 3, 163, 0, []), (155, .aload_n 0, 1, 0, 0, []), (156, .iload_n 1, 1, 0, 0, []), (157, .invokevirtual 146, 3, 292, 0, []), (160, .goto 8, 3, 168, 0, []), (163, .aload_n 0, 1, 0, 0, []), (164, .iload_n 1, 1, 0, 0, []), (165, .invokevirtual 152, 3, 304, 0, []), (168, .ireturn, 1, 0, 0, [])]
theorem tX8_does_ok : xTblOK RX8 cX8_does xFX8 2 tX8_does = true := by decide +kernel
abbrev nX8_does (X : Nat × (Nat → Int32)) : List (Nat × Nat × Nat × XS) := [(260, 5, 0, fX8_ranges X), (274, 4, 0, fX8_sets X), (280, 2, 0, fX8_signals X), (444, 2, 0, fX8_holds X), (226, 3, 0, fX8_tunes X), (292, 2, 0, fX8_serves X), (304, 2, 0, fX8_runs X)]
def fX8_does (X : Nat × (Nat → Int32)) : XS := fun as σ => match as with
  | [.inr (.inr (some (7, a0)))] => xIter X (xEnv (nX8_does X)) (fun _ _ => some none) 0 [] tX8_does 100000 (0, [(0, .inr (.inr (some (7, a0))))], σ, 0)
  | _ => none
theorem rX8_does (X : Nat × (Nat → Int32)) : ∀ as σ q, fX8_does X as σ = some q → ∃ j as', as = xR 7 j :: as' := by
  intro as σ q h
  unfold fX8_does at h
  split at h
  · exact ⟨_, _, rfl⟩
  · cases h
theorem mX8_does (l : Launch) (X : Nat × (Nat → Int32)) : xMet l X yX8_does cX8_does 2 (some .int) 8 0 (fX8_does X) :=
  xMet_of (cl := xEnv (nX8_does X)) (rt := 0) (stops := []) (tbl := tX8_does) (by decide +kernel) (by decide) tX8_does_ok x_FX8 rfl (xEnv_ok (L := nX8_does X) (List.forall_mem_cons.mpr ⟨xCS_V (i := 130) (n := 4) (C := RX8) (k := 7) (mX8_ranges l X) (xPk_in [939, 941, 17, 65, 942] (by decide +kernel) (by decide +kernel)) (by decide +kernel) (by decide) rfl (by decide) (by decide) (rX8_ranges X), (List.forall_mem_cons.mpr ⟨xCS_V (i := 137) (n := 3) (C := RX8) (k := 7) (mX8_sets l X) (xPk_in [973, 975, 23, 65, 976] (by decide +kernel) (by decide +kernel)) (by decide +kernel) (by decide) rfl (by decide) (by decide) (rX8_sets X), (List.forall_mem_cons.mpr ⟨xCS_V (i := 140) (n := 1) (C := RX8) (k := 7) (mX8_signals l X) (xPk_in [988, 990, 25, 65, 991] (by decide +kernel) (by decide +kernel)) (by decide +kernel) (by decide) rfl (by decide) (by decide) (rX8_signals X), (List.forall_mem_cons.mpr ⟨xCS_V (i := 222) (n := 1) (C := RX8) (k := 7) (mX8_holds l X) (xPk_in [1216, 1218, 56, 65, 1219] (by decide +kernel) (by decide +kernel)) (by decide +kernel) (by decide) rfl (by decide) (by decide) (rX8_holds X), (List.forall_mem_cons.mpr ⟨xCS_V (i := 113) (n := 2) (C := RX8) (k := 7) (mX8_tunes l X) (xPk_in [1000, 1002, 27, 65, 1003] (by decide +kernel) (by decide +kernel)) (by decide +kernel) (by decide) rfl (by decide) (by decide) (rX8_tunes X), (List.forall_mem_cons.mpr ⟨xCS_V (i := 146) (n := 1) (C := RX8) (k := 7) (mX8_serves l X) (xPk_in [1011, 1013, 28, 65, 1014] (by decide +kernel) (by decide +kernel)) (by decide +kernel) (by decide) rfl (by decide) (by decide) (rX8_serves X), (List.forall_mem_cons.mpr ⟨xCS_V (i := 152) (n := 1) (C := RX8) (k := 7) (mX8_runs l X) (xPk_in [1031, 1033, 31, 65, 1034] (by decide +kernel) (by decide +kernel)) (by decide +kernel) (by decide) rfl (by decide) (by decide) (rX8_runs X), (fun _ h => absurd h List.not_mem_nil)⟩)⟩)⟩)⟩)⟩)⟩)⟩))
    (xNoNew (by decide +kernel))
    (fun as σ q h => by
      unfold fX8_does at h
      split at h
      · exact Nat.le_of_ble_eq_true rfl
      · cases h)
    (fun as σ r σ' h => by
      unfold fX8_does at h
      split at h
      · exact ⟨100000, h⟩
      · cases h)
def tX8_runCommands : List XE := [(0, .aload_n 0, 1, 0, 0, []), (1, .invokevirtual 225, 3, 450, 0, []), (4, .istore_n 1, 1, 0, 0, []), (5, .iload_n 1, 1, 0, 0, []), (6, .ldc 161, 2, 0, 0, [((-1000000), 0)]), (8, .if_icmp .eq 12, 3, 20, 0, []), (11, .aload_n 0, 1, 0, 0, []), (12, .bipush (-10), 2, 0, 0, []), (14, .iload_n 1, 1, 0, 0, []), (15, .isub, 1, 0, 0, []), (16, .invokevirtual 42, 3, 84, 0, []), (19, .ireturn, 1, 0, 0, []), (20, .aload_n 0, 1, 0, 0, []), (21, .invokevirtual 127, 3, 254, 0, []), (24, .aload_n 0, 1, 0, 0, []), (25, .iconst 0, 1, 0, 0, []), (26, .putfield 180, 3, 7, 10, []), (29, .aload_n 0, 1, 0, 0, []), (30, .invokevirtual 210, 3, 420, 0, []), (33, .iconst 0, 1, 0, 0, []), (34, .istore_n 2, 1, 0, 0, []), (35, .iconst 0, 1, 0, 0, []), (36, .istore_n 3, 1, 0, 0, []), (37, .aload_n 0, 1, 0, 0, []), (38, .getfield 180, 3, 7, 10, []), (41, .aload_n 0, 1, 0, 0, []), (42, .getfield 177, 3, 7, 5, []), (45, .if_icmp .ge 42, 3, 87, 0, []), (48, .iload_n 3, 1, 0, 0, []), (49, .ifCond .ne 38, 3, 87, 0, []), (52, .aload_n 0, 1, 0, 0, []), (53, .invokevirtual 219, 3, 438, 0, []), (56, .ifCond .eq 14, 3, 70, 0, []), (59, .aload_n 0, 1, 0, 0, []), (60, .invokevirtual 228, 3, 456, 0, []), (63, .ifCond .le 7, 3, 70, 0, []), (66, .iconst 1, 1, 0, 0, []), (67, .goto 4, 3, 71, 0, []), (70, .iconst 0, 1, 0, 0, []), (71, .istore_n 3, 1, 0, 0, []), (72, .iload_n 2, 1, 0, 0, []), (73, .iload_n 3, 1, 0, 0, []), (74, .ifCond .eq 7, 3, 81, 0, []), (77, .iconst 0, 1, 0, 0, []), (78, .goto 4, 3, 82, 0, []), (81, .iconst 1, 1, 0, 0, []), (82, .iadd, 1, 0, 0, []), (83, .istore_n 2, 1, 0, 0, []), (84, .goto (-47), 3, 37, 0, []), (87, .aload_n 0, 1, 0, 0, []), (88, .iload_n 2, 1, 0, 0, []), (89, .invokevirtual 124, 3, 248, 0, []), (92, .ireturn, 1, 0, 0, [])]
theorem tX8_runCommands_ok : xTblOK RX8 cX8_runCommands xFX8 4 tX8_runCommands = true := by decide +kernel
abbrev nX8_runCommands (X : Nat × (Nat → Int32)) : List (Nat × Nat × Nat × XS) := [(450, 1, 0, fX8_faultAt X), (84, 2, 0, fX8_tells X), (254, 1, 0, fX8_hold X), (420, 1, 0, fX8_skips X), (438, 1, 0, fX8_isCommand X), (456, 1, 0, fX8_does X), (248, 2, 0, fX8_ends X)]
def fX8_runCommands (X : Nat × (Nat → Int32)) : XS := fun as σ => match as with
  | [.inr (.inr (some (7, a0)))] => xIter X (xEnv (nX8_runCommands X)) (fun _ _ => some none) 0 [(37, [0, 2, 3])] tX8_runCommands 100000 (0, [(0, .inr (.inr (some (7, a0))))], σ, 0)
  | _ => none
theorem rX8_runCommands (X : Nat × (Nat → Int32)) : ∀ as σ q, fX8_runCommands X as σ = some q → ∃ j as', as = xR 7 j :: as' := by
  intro as σ q h
  unfold fX8_runCommands at h
  split at h
  · exact ⟨_, _, rfl⟩
  · cases h
theorem mX8_runCommands (l : Launch) (X : Nat × (Nat → Int32)) : xMet l X yX8_runCommands cX8_runCommands 4 (some .int) 9 0 (fX8_runCommands X) :=
  xMet_of (cl := xEnv (nX8_runCommands X)) (rt := 0) (stops := [(37, [0, 2, 3])]) (tbl := tX8_runCommands) (by decide +kernel) (by decide) tX8_runCommands_ok x_FX8 rfl (xEnv_ok (L := nX8_runCommands X) (List.forall_mem_cons.mpr ⟨xCS_V (i := 225) (n := 0) (C := RX8) (k := 7) (mX8_faultAt l X) (xPk_in [1177, 1179, 49, 65, 1180] (by decide +kernel) (by decide +kernel)) (by decide +kernel) (by decide) rfl (by decide) (by decide) (rX8_faultAt X), (List.forall_mem_cons.mpr ⟨xCS_V (i := 42) (n := 1) (C := RX8) (k := 7) (mX8_tells l X) (xPk_in [965, 967, 22, 65, 968] (by decide +kernel) (by decide +kernel)) (by decide +kernel) (by decide) rfl (by decide) (by decide) (rX8_tells X), (List.forall_mem_cons.mpr ⟨xCS_V (i := 127) (n := 0) (C := RX8) (k := 7) (mX8_hold l X) (xPk_in [935, 937, 16, 65, 938] (by decide +kernel) (by decide +kernel)) (by decide +kernel) (by decide) rfl (by decide) (by decide) (rX8_hold X), (List.forall_mem_cons.mpr ⟨xCS_V (i := 210) (n := 0) (C := RX8) (k := 7) (mX8_skips l X) (xPk_in [1181, 1183, 50, 65, 1184] (by decide +kernel) (by decide +kernel)) (by decide +kernel) (by decide) rfl (by decide) (by decide) (rX8_skips X), (List.forall_mem_cons.mpr ⟨xCS_V (i := 219) (n := 0) (C := RX8) (k := 7) (mX8_isCommand l X) (xPk_in [1189, 1191, 52, 65, 1192] (by decide +kernel) (by decide +kernel)) (by decide +kernel) (by decide) rfl (by decide) (by decide) (rX8_isCommand X), (List.forall_mem_cons.mpr ⟨xCS_V (i := 228) (n := 0) (C := RX8) (k := 7) (mX8_does l X) (xPk_in [1212, 1214, 55, 65, 1215] (by decide +kernel) (by decide +kernel)) (by decide +kernel) (by decide) rfl (by decide) (by decide) (rX8_does X), (List.forall_mem_cons.mpr ⟨xCS_V (i := 124) (n := 1) (C := RX8) (k := 7) (mX8_ends l X) (xPk_in [961, 963, 21, 65, 964] (by decide +kernel) (by decide +kernel)) (by decide +kernel) (by decide) rfl (by decide) (by decide) (rX8_ends X), (fun _ h => absurd h List.not_mem_nil)⟩)⟩)⟩)⟩)⟩)⟩)⟩))
    (xNoNew (by decide +kernel))
    (fun as σ q h => by
      unfold fX8_runCommands at h
      split at h
      · exact Nat.le_of_ble_eq_true rfl
      · cases h)
    (fun as σ r σ' h => by
      unfold fX8_runCommands at h
      split at h
      · exact ⟨100000, h⟩
      · cases h)
def tX8_undo : List XE := [(0, .aload_n 0, 1, 0, 0, []), (1, .getfield 39, 3, 7, 3, []), (4, .ifCond .ne 9, 3, 13, 0, []), (7, .aload_n 0, 1, 0, 0, []), (8, .iconst 1, 1, 0, 0, []), (9, .invokevirtual 121, 3, 242, 0, []), (12, .ireturn, 1, 0, 0, []), (13, .aload_n 0, 1, 0, 0, []), (14, .dup, 1, 0, 0, []), (15, .getfield 39, 3, 7, 3, []), (18, .iconst 1, 1, 0, 0, []), (19, .isub, 1, 0, 0, []), (20, .putfield 39, 3, 7, 3, []), (23, .iconst 0, 1, 0, 0, []), (24, .istore_n 1, 1, 0, 0, []), (25, .iload_n 1, 1, 0, 0, []), (26, .bipush 102, 2, 0, 0, []), (28, .if_icmp .ge 29, 3, 57, 0, []), (31, .aload_n 0, 1, 0, 0, []), (32, .getfield 7, 3, 7, 0, []), (35, .iload_n 1, 1, 0, 0, []), (36, .aload_n 0, 1, 0, 0, []), (37, .getfield 13, 3, 7, 1, []), (40, .bipush 102, 2, 0, 0, []), (42, .aload_n 0, 1, 0, 0, []), (43, .getfield 39, 3, 7, 3, []), (46, .imul, 1, 0, 0, []), (47, .iload_n 1, 1, 0, 0, []), (48, .iadd, 1, 0, 0, []), (49, .iaload, 1, 0, 0, []), (50, .iastore, 1, 0, 0, []), (51, .iinc 1 1, 3, 0, 0, []), (54, .goto (-29), 3, 25, 0, []), (57, .aload_n 0, 1, 0, 0, []), (58, .aload_n 0, 1, 0, 0, []), (59, .getfield 39, 3, 7, 3, []), (62, .invokevirtual 42, 3, 84, 0, []), (65, .ireturn, 1, 0, 0, [])]
theorem tX8_undo_ok : xTblOK RX8 cX8_undo xFX8 2 tX8_undo = true := by decide +kernel
abbrev nX8_undo (X : Nat × (Nat → Int32)) : List (Nat × Nat × Nat × XS) := [(242, 2, 0, fX8_fails X), (84, 2, 0, fX8_tells X)]
def fX8_undo (X : Nat × (Nat → Int32)) : XS := fun as σ => match as with
  | [.inr (.inr (some (7, a0)))] => xIter X (xEnv (nX8_undo X)) (fun _ _ => some none) 0 [(25, [0, 1])] tX8_undo 100000 (0, [(0, .inr (.inr (some (7, a0))))], σ, 0)
  | _ => none
theorem rX8_undo (X : Nat × (Nat → Int32)) : ∀ as σ q, fX8_undo X as σ = some q → ∃ j as', as = xR 7 j :: as' := by
  intro as σ q h
  unfold fX8_undo at h
  split at h
  · exact ⟨_, _, rfl⟩
  · cases h
theorem mX8_undo (l : Launch) (X : Nat × (Nat → Int32)) : xMet l X yX8_undo cX8_undo 2 (some .int) 2 0 (fX8_undo X) :=
  xMet_of (cl := xEnv (nX8_undo X)) (rt := 0) (stops := [(25, [0, 1])]) (tbl := tX8_undo) (by decide +kernel) (by decide) tX8_undo_ok x_FX8 rfl (xEnv_ok (L := nX8_undo X) (List.forall_mem_cons.mpr ⟨xCS_V (i := 121) (n := 1) (C := RX8) (k := 7) (mX8_fails l X) (xPk_in [957, 959, 20, 65, 960] (by decide +kernel) (by decide +kernel)) (by decide +kernel) (by decide) rfl (by decide) (by decide) (rX8_fails X), (List.forall_mem_cons.mpr ⟨xCS_V (i := 42) (n := 1) (C := RX8) (k := 7) (mX8_tells l X) (xPk_in [965, 967, 22, 65, 968] (by decide +kernel) (by decide +kernel)) (by decide +kernel) (by decide) rfl (by decide) (by decide) (rX8_tells X), (fun _ h => absurd h List.not_mem_nil)⟩)⟩))
    (xNoNew (by decide +kernel))
    (fun as σ q h => by
      unfold fX8_undo at h
      split at h
      · exact Nat.le_of_ble_eq_true rfl
      · cases h)
    (fun as σ r σ' h => by
      unfold fX8_undo at h
      split at h
      · exact ⟨100000, h⟩
      · cases h)
def tX8_mix : List XE := [(0, .aload_n 0, 1, 0, 0, []), (1, .ldc2_w 231, 3, 31, 0, []), (4, .aload_n 0, 1, 0, 0, []), (5, .getfield 233, 3, 7, 13, []), (8, .lmul, 1, 0, 0, []), (9, .iload_n 1, 1, 0, 0, []), (10, .i2l, 1, 0, 0, []), (11, .ladd, 1, 0, 0, []), (12, .putfield 233, 3, 7, 13, []), (15, .return_, 1, 0, 0, [])]
theorem tX8_mix_ok : xTblOK RX8 cX8_mix xFX8 2 tX8_mix = true := by decide +kernel
abbrev nX8_mix (X : Nat × (Nat → Int32)) : List (Nat × Nat × Nat × XS) := []
def fX8_mix (X : Nat × (Nat → Int32)) : XS := fun as σ => match as with
  | [.inr (.inr (some (7, a0))), .inl a1] => xIter X (xEnv (nX8_mix X)) (fun _ _ => some none) 4 [] tX8_mix 100000 (0, [(0, .inr (.inr (some (7, a0)))), (1, .inl a1)], σ, 0)
  | _ => none
theorem rX8_mix (X : Nat × (Nat → Int32)) : ∀ as σ q, fX8_mix X as σ = some q → ∃ j as', as = xR 7 j :: as' := by
  intro as σ q h
  unfold fX8_mix at h
  split at h
  · exact ⟨_, _, rfl⟩
  · cases h
theorem mX8_mix (l : Launch) (X : Nat × (Nat → Int32)) : xMet l X yX8_mix cX8_mix 2 none 1 0 (fX8_mix X) :=
  xMet_of (cl := xEnv (nX8_mix X)) (rt := 4) (stops := []) (tbl := tX8_mix) (by decide +kernel) (by decide) tX8_mix_ok x_FX8 rfl (xEnv_ok (L := nX8_mix X) (fun _ h => absurd h List.not_mem_nil))
    (xNoNew (by decide +kernel))
    (fun as σ q h => by
      unfold fX8_mix at h
      split at h
      · exact Nat.le_of_ble_eq_true rfl
      · cases h)
    (fun as σ r σ' h => by
      unfold fX8_mix at h
      split at h
      · exact ⟨100000, h⟩
      · cases h)
def tX8_digest : List XE := [(0, .aload_n 0, 1, 0, 0, []), (1, .iconst 0, 1, 0, 0, []), (2, .putfield 35, 3, 7, 6, []), (5, .aload_n 0, 1, 0, 0, []), (6, .ldc2_w 236, 3, 43183, 0, []), (9, .putfield 233, 3, 7, 13, []), (12, .aload_n 0, 1, 0, 0, []), (13, .aload_n 0, 1, 0, 0, []), (14, .getfield 39, 3, 7, 3, []), (17, .invokevirtual 238, 3, 476, 0, []), (20, .aload_n 0, 1, 0, 0, []), (21, .aload_n 0, 1, 0, 0, []), (22, .getfield 177, 3, 7, 5, []), (25, .invokevirtual 238, 3, 476, 0, []), (28, .iconst 0, 1, 0, 0, []), (29, .istore_n 1, 1, 0, 0, []), (30, .iload_n 1, 1, 0, 0, []), (31, .bipush 12, 2, 0, 0, []), (33, .if_icmp .ge 18, 3, 51, 0, []), (36, .aload_n 0, 1, 0, 0, []), (37, .aload_n 0, 1, 0, 0, []), (38, .iload_n 1, 1, 0, 0, []), (39, .invokevirtual 158, 3, 316, 0, []), (42, .invokevirtual 238, 3, 476, 0, []), (45, .iinc 1 1, 3, 0, 0, []), (48, .goto (-18), 3, 30, 0, []), (51, .iconst 0, 1, 0, 0, []), (52, .istore_n 1, 1, 0, 0, []), (53, .iload_n 1, 1, 0, 0, []), (54, .iconst 2, 1, 0, 0, []), (55, .if_icmp .ge 56, 3, 111, 0, []), (58, .iconst 0, 1, 0, 0, []), (59, .istore_n 2, 1, 0, 0, []), (60, .iload_n 2, 1, 0, 0, []), (61, .bipush 21, 2, 0, 0, []), (63, .if_icmp .ge 19, 3, 82, 0, []), (66, .aload_n 0, 1, 0, 0, []), (67, .aload_n 0, 1, 0, 0, []), (68, .iload_n 1, 1, 0, 0, []), (69, .iload_n 2, 1, 0, 0, []), (70, .invokevirtual 155, 3, 310, 0, []), (73, .invokevirtual 238, 3, 476, 0, []), (76, .iinc 2 1, 3, 0, 0, []), (79, .goto (-19), 3, 60, 0, []), (82, .iconst 2, 1, 0, 0, []), (83, .istore_n 2, 1, 0, 0, []), (84, .iload_n 2, 1, 0, 0, []), (85, .iconst 5, 1, 0, 0, []), (86, .if_icmp .ge 19, 3, 105, 0, []), (89, .aload_n 0, 1, 0, 0, []), (90, .aload_n 0, 1, 0, 0, []), (91, .iload_n 1, 1, 0, 0, []), (92, .iload_n 2, 1, 0, 0, []), (93, .invokevirtual 162, 3, 324, 0, []), (96, .invokevirtual 238, 3, 476, 0, []), (99, .iinc 2 1, 3, 0, 0, []), (102, .goto (-18), 3, 84, 0, []), (105, .iinc 1 1, 3, 0, 0, []), (108, .goto (-55), 3, 53, 0, []), (111, .iconst 0, 1, 0, 0, []), (112, .istore_n 1, 1, 0, 0, []), (113, .iload_n 1, 1, 0, 0, []), (114, .iconst 5, 1, 0, 0, []), (115, .aload_n 0, 1, 0, 0, []), (116, .getfield 7, 3, 7, 0, []), (119, .bipush 9, 2, 0, 0, []), (121, .iaload, 1, 0, 0, []), (122, .imul, 1, 0, 0, []), (123, .if_icmp .ge 22, 3, 145, 0, []), (126, .aload_n 0, 1, 0, 0, []), (127, .aload_n 0, 1, 0, 0, []), (128, .getfield 7, 3, 7, 0, []), (131, .bipush 42, 2, 0, 0, []), (133, .iload_n 1, 1, 0, 0, []), (134, .iadd, 1, 0, 0, []), (135, .iaload, 1, 0, 0, []), (136, .invokevirtual 238, 3, 476, 0, []), (139, .iinc 1 1, 3, 0, 0, []), (142, .goto (-29), 3, 113, 0, []), (145, .aload_n 0, 1, 0, 0, []), (146, .aload_n 0, 1, 0, 0, []), (147, .invokevirtual 167, 3, 334, 0, []), (150, .invokevirtual 238, 3, 476, 0, []), (153, .aload_n 0, 1, 0, 0, []), (154, .aload_n 0, 1, 0, 0, []), (155, .invokevirtual 170, 3, 340, 0, []), (158, .invokevirtual 238, 3, 476, 0, []), (161, .aload_n 0, 1, 0, 0, []), (162, .getfield 233, 3, 7, 13, []), (165, .lreturn, 1, 0, 0, [])]
theorem tX8_digest_ok : xTblOK RX8 cX8_digest xFX8 3 tX8_digest = true := by decide +kernel
abbrev nX8_digest (X : Nat × (Nat → Int32)) : List (Nat × Nat × Nat × XS) := [(476, 2, 0, fX8_mix X), (316, 2, 0, fX8_pairOf X), (310, 3, 0, fX8_valveOf X), (324, 3, 0, fX8_sumOf X), (334, 1, 0, fX8_flats X), (340, 1, 0, fX8_falls X)]
def fX8_digest (X : Nat × (Nat → Int32)) : XS := fun as σ => match as with
  | [.inr (.inr (some (7, a0)))] => xIter X (xEnv (nX8_digest X)) (fun _ _ => some none) 2 [(30, [0, 1]), (53, [0, 1]), (60, [0, 1, 2]), (84, [0, 1, 2]), (113, [0, 1])] tX8_digest 100000 (0, [(0, .inr (.inr (some (7, a0))))], σ, 0)
  | _ => none
theorem rX8_digest (X : Nat × (Nat → Int32)) : ∀ as σ q, fX8_digest X as σ = some q → ∃ j as', as = xR 7 j :: as' := by
  intro as σ q h
  unfold fX8_digest at h
  split at h
  · exact ⟨_, _, rfl⟩
  · cases h
theorem mX8_digest (l : Launch) (X : Nat × (Nat → Int32)) : xMet l X yX8_digest cX8_digest 3 (some .long) 6 0 (fX8_digest X) :=
  xMet_of (cl := xEnv (nX8_digest X)) (rt := 2) (stops := [(30, [0, 1]), (53, [0, 1]), (60, [0, 1, 2]), (84, [0, 1, 2]), (113, [0, 1])]) (tbl := tX8_digest) (by decide +kernel) (by decide) tX8_digest_ok x_FX8 rfl (xEnv_ok (L := nX8_digest X) (List.forall_mem_cons.mpr ⟨xCS_V (i := 238) (n := 1) (C := RX8) (k := 7) (mX8_mix l X) (xPk_in [1229, 1231, 57, 65, 1232] (by decide +kernel) (by decide +kernel)) (by decide +kernel) (by decide) rfl (by decide) (by decide) (rX8_mix X), (List.forall_mem_cons.mpr ⟨xCS_V (i := 158) (n := 1) (C := RX8) (k := 7) (mX8_pairOf l X) (xPk_in [1098, 1100, 44, 65, 1101] (by decide +kernel) (by decide +kernel)) (by decide +kernel) (by decide) rfl (by decide) (by decide) (rX8_pairOf X), (List.forall_mem_cons.mpr ⟨xCS_V (i := 155) (n := 2) (C := RX8) (k := 7) (mX8_valveOf l X) (xPk_in [1090, 1092, 43, 65, 1093] (by decide +kernel) (by decide +kernel)) (by decide +kernel) (by decide) rfl (by decide) (by decide) (rX8_valveOf X), (List.forall_mem_cons.mpr ⟨xCS_V (i := 162) (n := 2) (C := RX8) (k := 7) (mX8_sumOf l X) (xPk_in [1111, 1113, 45, 65, 1114] (by decide +kernel) (by decide +kernel)) (by decide +kernel) (by decide) rfl (by decide) (by decide) (rX8_sumOf X), (List.forall_mem_cons.mpr ⟨xCS_V (i := 167) (n := 0) (C := RX8) (k := 7) (mX8_flats l X) (xPk_in [1132, 1134, 46, 65, 1135] (by decide +kernel) (by decide +kernel)) (by decide +kernel) (by decide) rfl (by decide) (by decide) (rX8_flats X), (List.forall_mem_cons.mpr ⟨xCS_V (i := 170) (n := 0) (C := RX8) (k := 7) (mX8_falls l X) (xPk_in [1140, 1142, 47, 65, 1143] (by decide +kernel) (by decide +kernel)) (by decide +kernel) (by decide) rfl (by decide) (by decide) (rX8_falls X), (fun _ h => absurd h List.not_mem_nil)⟩)⟩)⟩)⟩)⟩)⟩))
    (xNoNew (by decide +kernel))
    (fun as σ q h => by
      unfold fX8_digest at h
      split at h
      · exact Nat.le_of_ble_eq_true rfl
      · cases h)
    (fun as σ r σ' h => by
      unfold fX8_digest at h
      split at h
      · exact ⟨100000, h⟩
      · cases h)
