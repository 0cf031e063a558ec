/-! ===== contracts (written by wip/whole/gen/contracts.py) ===== -/
def tX4_copy : List XE := [(0, .aload_n 0, 1, 0, 0, []), (1, .getfield 14, 3, 3, 0, []), (4, .aload_n 1, 1, 0, 0, []), (5, .getfield 14, 3, 3, 0, []), (8, .invokevirtual 37, 3, 74, 0, []), (11, .aload_n 0, 1, 0, 0, []), (12, .getfield 20, 3, 3, 1, []), (15, .aload_n 1, 1, 0, 0, []), (16, .getfield 20, 3, 3, 1, []), (19, .invokevirtual 37, 3, 74, 0, []), (22, .aload_n 0, 1, 0, 0, []), (23, .getfield 26, 3, 3, 2, []), (26, .aload_n 1, 1, 0, 0, []), (27, .getfield 26, 3, 3, 2, []), (30, .invokevirtual 41, 3, 82, 0, []), (33, .aload_n 0, 1, 0, 0, []), (34, .aload_n 1, 1, 0, 0, []), (35, .getfield 44, 3, 3, 3, []), (38, .putfield 44, 3, 3, 3, []), (41, .aload_n 0, 1, 0, 0, []), (42, .aload_n 1, 1, 0, 0, []), (43, .getfield 47, 3, 3, 4, []), (46, .putfield 47, 3, 3, 4, []), (49, .aload_n 0, 1, 0, 0, []), (50, .aload_n 1, 1, 0, 0, []), (51, .getfield 30, 3, 3, 5, []), (54, .putfield 30, 3, 3, 5, []), (57, .aload_n 0, 1, 0, 0, []), (58, .aload_n 1, 1, 0, 0, []), (59, .getfield 50, 3, 3, 6, []), (62, .putfield 50, 3, 3, 6, []), (65, .aload_n 0, 1, 0, 0, []), (66, .aload_n 1, 1, 0, 0, []), (67, .getfield 34, 3, 3, 7, []), (70, .putfield 34, 3, 3, 7, []), (73, .aload_n 0, 1, 0, 0, []), (74, .aload_n 1, 1, 0, 0, []), (75, .getfield 53, 3, 3, 8, []), (78, .putfield 53, 3, 3, 8, []), (81, .aload_n 0, 1, 0, 0, []), (82, .aload_n 1, 1, 0, 0, []), (83, .getfield 56, 3, 3, 9, []), (86, .putfield 56, 3, 3, 9, []), (89, .aload_n 0, 1, 0, 0, []), (90, .aload_n 1, 1, 0, 0, []), (91, .getfield 59, 3, 3, 10, []), (94, .putfield 59, 3, 3, 10, []), (97, .aload_n 0, 1, 0, 0, []), (98, .aload_n 1, 1, 0, 0, []), (99, .getfield 62, 3, 3, 11, []), (102, .putfield 62, 3, 3, 11, []), (105, .return_, 1, 0, 0, [])]
theorem tX4_copy_ok : xTblOK RX4 cX4_copy xFX4 2 tX4_copy = true := by decide +kernel
abbrev nX4_copy (X : Nat × (Nat → Int32)) : List (Nat × Nat × Nat × XS) := [(74, 2, 0, fX5_copy X), (82, 2, 0, fX1_copy X)]
def fX4_copy (X : Nat × (Nat → Int32)) : XS := fun as σ => match as with
  | [.inr (.inr (some (3, a0))), .inr (.inr (some (3, a1)))] => xIter X (xEnv (nX4_copy X)) (fun _ _ => some none) 4 [] tX4_copy 100000 (0, [(0, .inr (.inr (some (3, a0)))), (1, .inr (.inr (some (3, a1))))], σ, 0)
  | _ => none
theorem rX4_copy (X : Nat × (Nat → Int32)) : ∀ as σ q, fX4_copy X as σ = some q → ∃ j as', as = xR 3 j :: as' := by
  intro as σ q h
  unfold fX4_copy at h
  split at h
  · exact ⟨_, _, rfl⟩
  · cases h
theorem mX4_copy (l : Launch) (X : Nat × (Nat → Int32)) : xMet l X yX4_copy cX4_copy 2 none 2 0 (fX4_copy X) :=
  xMet_of (cl := xEnv (nX4_copy X)) (rt := 4) (stops := []) (tbl := tX4_copy) (by decide +kernel) (by decide) tX4_copy_ok x_FX4 rfl (xEnv_ok (L := nX4_copy X) (List.forall_mem_cons.mpr ⟨xCS_V (i := 37) (n := 1) (C := RX5) (k := 4) (mX5_copy l X) (xPk_in [332, 333, 334, 9, 335] (by decide +kernel) (by decide +kernel)) (by decide +kernel) (by decide) rfl (by decide) (by decide) (rX5_copy X), (List.forall_mem_cons.mpr ⟨xCS_V (i := 41) (n := 1) (C := RX1) (k := 0) (mX1_copy l X) (xPk_in [336, 337, 338, 10, 339] (by decide +kernel) (by decide +kernel)) (by decide +kernel) (by decide) rfl (by decide) (by decide) (rX1_copy X), (fun _ h => absurd h List.not_mem_nil)⟩)⟩))
    (xNoNew (by decide +kernel))
    (fun as σ q h => by
      unfold fX4_copy at h
      split at h
      · exact Nat.le_of_ble_eq_true rfl
      · cases h)
    (fun as σ r σ' h => by
      unfold fX4_copy at h
      split at h
      · exact ⟨100000, h⟩
      · cases h)
def tX4_at : List XE := [(0, .iload_n 1, 1, 0, 0, []), (1, .ifCond .ne 10, 3, 11, 0, []), (4, .aload_n 0, 1, 0, 0, []), (5, .getfield 14, 3, 3, 0, []), (8, .goto 7, 3, 15, 0, []), (11, .aload_n 0, 1, 0, 0, []), (12, .getfield 20, 3, 3, 1, []), (15, .areturn, 1, 0, 0, [])]
theorem tX4_at_ok : xTblOK RX4 cX4_at xFX4 2 tX4_at = true := by decide +kernel
abbrev nX4_at (X : Nat × (Nat → Int32)) : List (Nat × Nat × Nat × XS) := []
def fX4_at (X : Nat × (Nat → Int32)) : XS := fun as σ => match as with
  | [.inr (.inr (some (3, a0))), .inl a1] => xIter X (xEnv (nX4_at X)) (fun _ _ => some none) 3 [] tX4_at 100000 (0, [(0, .inr (.inr (some (3, a0)))), (1, .inl a1)], σ, 0)
  | _ => none
theorem rX4_at (X : Nat × (Nat → Int32)) : ∀ as σ q, fX4_at X as σ = some q → ∃ j as', as = xR 3 j :: as' := by
  intro as σ q h
  unfold fX4_at at h
  split at h
  · exact ⟨_, _, rfl⟩
  · cases h
theorem mX4_at (l : Launch) (X : Nat × (Nat → Int32)) : xMet l X yX4_at cX4_at 2 (some (.object "ValveTwins$Valve")) 1 0 (fX4_at X) :=
  xMet_of (cl := xEnv (nX4_at X)) (rt := 3) (stops := []) (tbl := tX4_at) (by decide +kernel) (by decide) tX4_at_ok x_FX4 ⟨_, rfl⟩ (xEnv_ok (L := nX4_at X) (fun _ h => absurd h List.not_mem_nil))
    (xNoNew (by decide +kernel))
    (fun as σ q h => by
      unfold fX4_at at h
      split at h
      · exact Nat.le_of_ble_eq_true rfl
      · cases h)
    (fun as σ r σ' h => by
      unfold fX4_at at h
      split at h
      · exact ⟨100000, h⟩
      · cases h)
def tX4_flow : List XE := [(0, .aload_n 0, 1, 0, 0, []), (1, .getfield 14, 3, 3, 0, []), (4, .invokevirtual 79, 3, 158, 0, []), (7, .aload_n 0, 1, 0, 0, []), (8, .getfield 20, 3, 3, 1, []), (11, .invokevirtual 79, 3, 158, 0, []), (14, .iadd, 1, 0, 0, []), (15, .ireturn, 1, 0, 0, [])]
theorem tX4_flow_ok : xTblOK RX4 cX4_flow xFX4 1 tX4_flow = true := by decide +kernel
abbrev nX4_flow (X : Nat × (Nat → Int32)) : List (Nat × Nat × Nat × XS) := [(158, 1, 0, fX5_flow X)]
def fX4_flow (X : Nat × (Nat → Int32)) : XS := fun as σ => match as with
  | [.inr (.inr (some (3, a0)))] => xIter X (xEnv (nX4_flow X)) (fun _ _ => some none) 0 [] tX4_flow 100000 (0, [(0, .inr (.inr (some (3, a0))))], σ, 0)
  | _ => none
theorem rX4_flow (X : Nat × (Nat → Int32)) : ∀ as σ q, fX4_flow X as σ = some q → ∃ j as', as = xR 3 j :: as' := by
  intro as σ q h
  unfold fX4_flow at h
  split at h
  · exact ⟨_, _, rfl⟩
  · cases h
theorem mX4_flow (l : Launch) (X : Nat × (Nat → Int32)) : xMet l X yX4_flow cX4_flow 1 (some .int) 3 0 (fX4_flow X) :=
  xMet_of (cl := xEnv (nX4_flow X)) (rt := 0) (stops := []) (tbl := tX4_flow) (by decide +kernel) (by decide) tX4_flow_ok x_FX4 rfl (xEnv_ok (L := nX4_flow X) (List.forall_mem_cons.mpr ⟨xCS_V (i := 79) (n := 0) (C := RX5) (k := 4) (mX5_flow l X) (xPk_in [431, 387, 388, 9, 389] (by decide +kernel) (by decide +kernel)) (by decide +kernel) (by decide) rfl (by decide) (by decide) (rX5_flow X), (fun _ h => absurd h List.not_mem_nil)⟩))
    (xNoNew (by decide +kernel))
    (fun as σ q h => by
      unfold fX4_flow at h
      split at h
      · exact Nat.le_of_ble_eq_true rfl
      · cases h)
    (fun as σ r σ' h => by
      unfold fX4_flow at h
      split at h
      · exact ⟨100000, h⟩
      · cases h)
def tX4_idealFor : List XE := [(0, .aload_n 0, 1, 0, 0, []), (1, .getfield 14, 3, 3, 0, []), (4, .iload_n 1, 1, 0, 0, []), (5, .invokevirtual 80, 3, 160, 0, []), (8, .aload_n 0, 1, 0, 0, []), (9, .getfield 20, 3, 3, 1, []), (12, .iload_n 1, 1, 0, 0, []), (13, .invokevirtual 80, 3, 160, 0, []), (16, .iadd, 1, 0, 0, []), (17, .ireturn, 1, 0, 0, [])]
theorem tX4_idealFor_ok : xTblOK RX4 cX4_idealFor xFX4 2 tX4_idealFor = true := by decide +kernel
abbrev nX4_idealFor (X : Nat × (Nat → Int32)) : List (Nat × Nat × Nat × XS) := [(160, 2, 0, fX5_idealFor X)]
def fX4_idealFor (X : Nat × (Nat → Int32)) : XS := fun as σ => match as with
  | [.inr (.inr (some (3, a0))), .inl a1] => xIter X (xEnv (nX4_idealFor X)) (fun _ _ => some none) 0 [] tX4_idealFor 100000 (0, [(0, .inr (.inr (some (3, a0)))), (1, .inl a1)], σ, 0)
  | _ => none
theorem rX4_idealFor (X : Nat × (Nat → Int32)) : ∀ as σ q, fX4_idealFor X as σ = some q → ∃ j as', as = xR 3 j :: as' := by
  intro as σ q h
  unfold fX4_idealFor at h
  split at h
  · exact ⟨_, _, rfl⟩
  · cases h
theorem mX4_idealFor (l : Launch) (X : Nat × (Nat → Int32)) : xMet l X yX4_idealFor cX4_idealFor 2 (some .int) 3 0 (fX4_idealFor X) :=
  xMet_of (cl := xEnv (nX4_idealFor X)) (rt := 0) (stops := []) (tbl := tX4_idealFor) (by decide +kernel) (by decide) tX4_idealFor_ok x_FX4 rfl (xEnv_ok (L := nX4_idealFor X) (List.forall_mem_cons.mpr ⟨xCS_V (i := 80) (n := 1) (C := RX5) (k := 4) (mX5_idealFor l X) (xPk_in [436, 437, 438, 9, 439] (by decide +kernel) (by decide +kernel)) (by decide +kernel) (by decide) rfl (by decide) (by decide) (rX5_idealFor X), (fun _ h => absurd h List.not_mem_nil)⟩))
    (xNoNew (by decide +kernel))
    (fun as σ q h => by
      unfold fX4_idealFor at h
      split at h
      · exact Nat.le_of_ble_eq_true rfl
      · cases h)
    (fun as σ r σ' h => by
      unfold fX4_idealFor at h
      split at h
      · exact ⟨100000, h⟩
      · cases h)
def tX4_value : List XE := [(0, .iload_n 1, 1, 0, 0, []), (1, .tableswitch 118 0 10 #[59, 64, 69, 74, 79, 84, 89, 94, 103, 108, 113], 59, 119, 0, [(0, 60), (1, 65), (2, 70), (3, 75), (4, 80), (5, 85), (6, 90), (7, 95), (8, 104), (9, 109), (10, 114)]), (60, .aload_n 0, 1, 0, 0, []), (61, .getfield 44, 3, 3, 3, []), (64, .ireturn, 1, 0, 0, []), (65, .aload_n 0, 1, 0, 0, []), (66, .getfield 47, 3, 3, 4, []), (69, .ireturn, 1, 0, 0, []), (70, .aload_n 0, 1, 0, 0, []), (71, .getfield 30, 3, 3, 5, []), (74, .ireturn, 1, 0, 0, []), (75, .aload_n 0, 1, 0, 0, []), (76, .getfield 50, 3, 3, 6, []), (79, .ireturn, 1, 0, 0, []), (80, .aload_n 0, 1, 0, 0, []), (81, .getfield 34, 3, 3, 7, []), (84, .ireturn, 1, 0, 0, []), (85, .aload_n 0, 1, 0, 0, []), (86, .getfield 53, 3, 3, 8, []), (89, .ireturn, 1, 0, 0, []), (90, .aload_n 0, 1, 0, 0, []), (91, .invokevirtual 65, 3, 130, 0, []), (94, .ireturn, 1, 0, 0, []), (95, .aload_n 0, 1, 0, 0, []), (96, .aload_n 0, 1, 0, 0, []), (97, .getfield 44, 3, 3, 3, []), (100, .invokevirtual 69, 3, 138, 0, []), (103, .ireturn, 1, 0, 0, []), (104, .aload_n 0, 1, 0, 0, []), (105, .getfield 56, 3, 3, 9, []), (108, .ireturn, 1, 0, 0, []), (109, .aload_n 0, 1, 0, 0, []), (110, .getfield 59, 3, 3, 10, []), (113, .ireturn, 1, 0, 0, []), (114, .aload_n 0, 1, 0, 0, []), (115, .getfield 62, 3, 3, 11, []), (118, .ireturn, 1, 0, 0, []), (119, .aload_n 0, 1, 0, 0, []), (120, .getfield 26, 3, 3, 2, []), (123, .getfield 73, 3, 0, 1, []), (126, .ireturn, 1, 0, 0, [])]
theorem tX4_value_ok : xTblOK RX4 cX4_value xFX4 2 tX4_value = true := by decide +kernel
abbrev nX4_value (X : Nat × (Nat → Int32)) : List (Nat × Nat × Nat × XS) := [(130, 1, 0, fX4_flow X), (138, 2, 0, fX4_idealFor X)]
def fX4_value (X : Nat × (Nat → Int32)) : XS := fun as σ => match as with
  | [.inr (.inr (some (3, a0))), .inl a1] => xIter X (xEnv (nX4_value X)) (fun _ _ => some none) 0 [] tX4_value 100000 (0, [(0, .inr (.inr (some (3, a0)))), (1, .inl a1)], σ, 0)
  | _ => none
theorem rX4_value (X : Nat × (Nat → Int32)) : ∀ as σ q, fX4_value X as σ = some q → ∃ j as', as = xR 3 j :: as' := by
  intro as σ q h
  unfold fX4_value at h
  split at h
  · exact ⟨_, _, rfl⟩
  · cases h
theorem mX4_value (l : Launch) (X : Nat × (Nat → Int32)) : xMet l X yX4_value cX4_value 2 (some .int) 4 0 (fX4_value X) :=
  xMet_of (cl := xEnv (nX4_value X)) (rt := 0) (stops := []) (tbl := tX4_value) (by decide +kernel) (by decide) tX4_value_ok x_FX4 rfl (xEnv_ok (L := nX4_value X) (List.forall_mem_cons.mpr ⟨xCS_V (i := 65) (n := 0) (C := RX4) (k := 3) (mX4_flow l X) (xPk_in [427, 428, 429, 8, 430] (by decide +kernel) (by decide +kernel)) (by decide +kernel) (by decide) rfl (by decide) (by decide) (rX4_flow X), (List.forall_mem_cons.mpr ⟨xCS_V (i := 69) (n := 1) (C := RX4) (k := 3) (mX4_idealFor l X) (xPk_in [432, 433, 434, 8, 435] (by decide +kernel) (by decide +kernel)) (by decide +kernel) (by decide) rfl (by decide) (by decide) (rX4_idealFor X), (fun _ h => absurd h List.not_mem_nil)⟩)⟩))
    (xNoNew (by decide +kernel))
    (fun as σ q h => by
      unfold fX4_value at h
      split at h
      · exact Nat.le_of_ble_eq_true rfl
      · cases h)
    (fun as σ r σ' h => by
      unfold fX4_value at h
      split at h
      · exact ⟨100000, h⟩
      · cases h)
def tX4_changeSignal : List XE := [(0, .aload_n 0, 1, 0, 0, []), (1, .getfield 44, 3, 3, 3, []), (4, .istore_n 2, 1, 0, 0, []), (5, .aload_n 0, 1, 0, 0, []), (6, .iload_n 1, 1, 0, 0, []), (7, .putfield 44, 3, 3, 3, []), (10, .iload_n 2, 1, 0, 0, []), (11, .ireturn, 1, 0, 0, [])]
theorem tX4_changeSignal_ok : xTblOK RX4 cX4_changeSignal xFX4 3 tX4_changeSignal = true := by decide +kernel
abbrev nX4_changeSignal (X : Nat × (Nat → Int32)) : List (Nat × Nat × Nat × XS) := []
def fX4_changeSignal (X : Nat × (Nat → Int32)) : XS := fun as σ => match as with
  | [.inr (.inr (some (3, a0))), .inl a1] => xIter X (xEnv (nX4_changeSignal X)) (fun _ _ => some none) 0 [] tX4_changeSignal 100000 (0, [(0, .inr (.inr (some (3, a0)))), (1, .inl a1)], σ, 0)
  | _ => none
theorem rX4_changeSignal (X : Nat × (Nat → Int32)) : ∀ as σ q, fX4_changeSignal X as σ = some q → ∃ j as', as = xR 3 j :: as' := by
  intro as σ q h
  unfold fX4_changeSignal at h
  split at h
  · exact ⟨_, _, rfl⟩
  · cases h
theorem mX4_changeSignal (l : Launch) (X : Nat × (Nat → Int32)) : xMet l X yX4_changeSignal cX4_changeSignal 3 (some .int) 1 0 (fX4_changeSignal X) :=
  xMet_of (cl := xEnv (nX4_changeSignal X)) (rt := 0) (stops := []) (tbl := tX4_changeSignal) (by decide +kernel) (by decide) tX4_changeSignal_ok x_FX4 rfl (xEnv_ok (L := nX4_changeSignal X) (fun _ h => absurd h List.not_mem_nil))
    (xNoNew (by decide +kernel))
    (fun as σ q h => by
      unfold fX4_changeSignal at h
      split at h
      · exact Nat.le_of_ble_eq_true rfl
      · cases h)
    (fun as σ r σ' h => by
      unfold fX4_changeSignal at h
      split at h
      · exact ⟨100000, h⟩
      · cases h)
def tX4_changeSetting : List XE := [(0, .aload_n 0, 1, 0, 0, []), (1, .iconst 1, 1, 0, 0, []), (2, .iload_n 1, 1, 0, 0, []), (3, .iadd, 1, 0, 0, []), (4, .invokevirtual 76, 3, 152, 0, []), (7, .istore_n 3, 1, 0, 0, []), (8, .iload_n 1, 1, 0, 0, []), (9, .tableswitch 51 0 2 #[27, 35, 43], 27, 60, 0, [(0, 36), (1, 44), (2, 52)]), (36, .aload_n 0, 1, 0, 0, []), (37, .iload_n 2, 1, 0, 0, []), (38, .putfield 47, 3, 3, 4, []), (41, .goto 24, 3, 65, 0, []), (44, .aload_n 0, 1, 0, 0, []), (45, .iload_n 2, 1, 0, 0, []), (46, .putfield 30, 3, 3, 5, []), (49, .goto 16, 3, 65, 0, []), (52, .aload_n 0, 1, 0, 0, []), (53, .iload_n 2, 1, 0, 0, []), (54, .putfield 50, 3, 3, 6, []), (57, .goto 8, 3, 65, 0, []), (60, .aload_n 0, 1, 0, 0, []), (61, .iload_n 2, 1, 0, 0, []), (62, .putfield 34, 3, 3, 7, []), (65, .iload_n 3, 1, 0, 0, []), (66, .ireturn, 1, 0, 0, [])]
theorem tX4_changeSetting_ok : xTblOK RX4 cX4_changeSetting xFX4 4 tX4_changeSetting = true := by decide +kernel
abbrev nX4_changeSetting (X : Nat × (Nat → Int32)) : List (Nat × Nat × Nat × XS) := [(152, 2, 0, fX4_value X)]
def fX4_changeSetting (X : Nat × (Nat → Int32)) : XS := fun as σ => match as with
  | [.inr (.inr (some (3, a0))), .inl a1, .inl a2] => xIter X (xEnv (nX4_changeSetting X)) (fun _ _ => some none) 0 [] tX4_changeSetting 100000 (0, [(0, .inr (.inr (some (3, a0)))), (1, .inl a1), (2, .inl a2)], σ, 0)
  | _ => none
theorem rX4_changeSetting (X : Nat × (Nat → Int32)) : ∀ as σ q, fX4_changeSetting X as σ = some q → ∃ j as', as = xR 3 j :: as' := by
  intro as σ q h
  unfold fX4_changeSetting at h
  split at h
  · exact ⟨_, _, rfl⟩
  · cases h
theorem mX4_changeSetting (l : Launch) (X : Nat × (Nat → Int32)) : xMet l X yX4_changeSetting cX4_changeSetting 4 (some .int) 5 0 (fX4_changeSetting X) :=
  xMet_of (cl := xEnv (nX4_changeSetting X)) (rt := 0) (stops := []) (tbl := tX4_changeSetting) (by decide +kernel) (by decide) tX4_changeSetting_ok x_FX4 rfl (xEnv_ok (L := nX4_changeSetting X) (List.forall_mem_cons.mpr ⟨xCS_V (i := 76) (n := 1) (C := RX4) (k := 3) (mX4_value l X) (xPk_in [423, 424, 425, 8, 426] (by decide +kernel) (by decide +kernel)) (by decide +kernel) (by decide) rfl (by decide) (by decide) (rX4_value X), (fun _ h => absurd h List.not_mem_nil)⟩))
    (xNoNew (by decide +kernel))
    (fun as σ q h => by
      unfold fX4_changeSetting at h
      split at h
      · exact Nat.le_of_ble_eq_true rfl
      · cases h)
    (fun as σ r σ' h => by
      unfold fX4_changeSetting at h
      split at h
      · exact ⟨100000, h⟩
      · cases h)
def tX4_steer : List XE := [(0, .aload_n 0, 1, 0, 0, []), (1, .getfield 30, 3, 3, 5, []), (4, .aload_n 0, 1, 0, 0, []), (5, .getfield 50, 3, 3, 6, []), (8, .iload_n 1, 1, 0, 0, []), (9, .isub, 1, 0, 0, []), (10, .imul, 1, 0, 0, []), (11, .sipush 1000, 3, 0, 0, []), (14, .invokestatic 115, 3, 231, 0, []), (17, .istore_n 2, 1, 0, 0, []), (18, .aload_n 0, 1, 0, 0, []), (19, .getfield 34, 3, 3, 7, []), (22, .ineg, 1, 0, 0, []), (23, .aload_n 0, 1, 0, 0, []), (24, .getfield 34, 3, 3, 7, []), (27, .iload_n 2, 1, 0, 0, []), (28, .invokestatic 119, 3, 239, 0, []), (31, .invokestatic 122, 3, 245, 0, []), (34, .istore_n 3, 1, 0, 0, []), (35, .aload_n 0, 1, 0, 0, []), (36, .iconst 0, 1, 0, 0, []), (37, .sipush 1000, 3, 0, 0, []), (40, .aload_n 0, 1, 0, 0, []), (41, .getfield 44, 3, 3, 3, []), (44, .iload_n 3, 1, 0, 0, []), (45, .iadd, 1, 0, 0, []), (46, .invokestatic 119, 3, 239, 0, []), (49, .invokestatic 122, 3, 245, 0, []), (52, .putfield 44, 3, 3, 3, []), (55, .return_, 1, 0, 0, [])]
theorem tX4_steer_ok : xTblOK RX4 cX4_steer xFX4 4 tX4_steer = true := by decide +kernel
abbrev nX4_steer (X : Nat × (Nat → Int32)) : List (Nat × Nat × Nat × XS) := [(231, 2, 0, fJ9_floorDiv_7cf53 X), (239, 2, 0, fJ9_min_7cf53 X), (245, 2, 0, fJ9_max_7cf53 X)]
def fX4_steer (X : Nat × (Nat → Int32)) : XS := fun as σ => match as with
  | [.inr (.inr (some (3, a0))), .inl a1] => xIter X (xEnv (nX4_steer X)) (fun _ _ => some none) 4 [] tX4_steer 100000 (0, [(0, .inr (.inr (some (3, a0)))), (1, .inl a1)], σ, 0)
  | _ => none
theorem rX4_steer (X : Nat × (Nat → Int32)) : ∀ as σ q, fX4_steer X as σ = some q → ∃ j as', as = xR 3 j :: as' := by
  intro as σ q h
  unfold fX4_steer at h
  split at h
  · exact ⟨_, _, rfl⟩
  · cases h
theorem mX4_steer (l : Launch) (X : Nat × (Nat → Int32)) : xMet l X yX4_steer cX4_steer 4 none 2 0 (fX4_steer X) :=
  xMet_of (cl := xEnv (nX4_steer X)) (rt := 4) (stops := []) (tbl := tX4_steer) (by decide +kernel) (by decide) tX4_steer_ok x_FX4 rfl (xEnv_ok (L := nX4_steer X) (List.forall_mem_cons.mpr ⟨xCS_S (i := 115) (n := 2) (mJ9_floorDiv_7cf53 l X) (xPk_in [539, 540, 17, 541] (by decide +kernel) (by decide +kernel)) (by decide +kernel) (by decide) (by decide), (List.forall_mem_cons.mpr ⟨xCS_S (i := 119) (n := 2) (mJ9_min_7cf53 l X) (xPk_in [542, 344, 17, 345] (by decide +kernel) (by decide +kernel)) (by decide +kernel) (by decide) (by decide), (List.forall_mem_cons.mpr ⟨xCS_S (i := 122) (n := 2) (mJ9_max_7cf53 l X) (xPk_in [543, 544, 17, 545] (by decide +kernel) (by decide +kernel)) (by decide +kernel) (by decide) (by decide), (fun _ h => absurd h List.not_mem_nil)⟩)⟩)⟩))
    (xNoNew (by decide +kernel))
    (fun as σ q h => by
      unfold fX4_steer at h
      split at h
      · exact Nat.le_of_ble_eq_true rfl
      · cases h)
    (fun as σ r σ' h => by
      unfold fX4_steer at h
      split at h
      · exact ⟨100000, h⟩
      · cases h)
def tX4_tick : List XE := [(0, .aload_n 0, 1, 0, 0, []), (1, .getfield 47, 3, 3, 4, []), (4, .iconst 1, 1, 0, 0, []), (5, .if_icmp .ne 11, 3, 16, 0, []), (8, .aload_n 0, 1, 0, 0, []), (9, .aload_n 0, 1, 0, 0, []), (10, .invokevirtual 65, 3, 130, 0, []), (13, .invokevirtual 89, 3, 178, 0, []), (16, .iconst 0, 1, 0, 0, []), (17, .istore_n 1, 1, 0, 0, []), (18, .iconst 0, 1, 0, 0, []), (19, .istore_n 2, 1, 0, 0, []), (20, .iload_n 2, 1, 0, 0, []), (21, .iconst 2, 1, 0, 0, []), (22, .if_icmp .ge 104, 3, 126, 0, []), (25, .aload_n 0, 1, 0, 0, []), (26, .iload_n 2, 1, 0, 0, []), (27, .invokevirtual 93, 3, 186, 0, []), (30, .astore_n 3, 1, 0, 0, []), (31, .aload_n 3, 1, 0, 0, []), (32, .aload_n 3, 1, 0, 0, []), (33, .aload_n 0, 1, 0, 0, []), (34, .getfield 44, 3, 3, 3, []), (37, .invokevirtual 82, 3, 164, 0, []), (40, .invokevirtual 97, 3, 194, 0, []), (43, .istore 4, 2, 0, 0, []), (45, .aload_n 3, 1, 0, 0, []), (46, .iload 4, 2, 0, 0, []), (48, .invokevirtual 100, 3, 200, 0, []), (51, .istore 5, 2, 0, 0, []), (53, .aload_n 3, 1, 0, 0, []), (54, .getfield 103, 3, 4, 8, []), (57, .ifCond .ne 10, 3, 67, 0, []), (60, .aload_n 3, 1, 0, 0, []), (61, .invokevirtual 79, 3, 158, 0, []), (64, .goto 4, 3, 68, 0, []), (67, .iconst 0, 1, 0, 0, []), (68, .istore 6, 2, 0, 0, []), (70, .aload_n 0, 1, 0, 0, []), (71, .dup, 1, 0, 0, []), (72, .getfield 62, 3, 3, 11, []), (75, .iload 6, 2, 0, 0, []), (77, .iadd, 1, 0, 0, []), (78, .putfield 62, 3, 3, 11, []), (81, .aload_n 0, 1, 0, 0, []), (82, .getfield 26, 3, 3, 2, []), (85, .iload_n 2, 1, 0, 0, []), (86, .aload_n 0, 1, 0, 0, []), (87, .getfield 53, 3, 3, 8, []), (90, .bipush 100, 2, 0, 0, []), (92, .idiv, 1, 0, 0, []), (93, .iload 4, 2, 0, 0, []), (95, .invokestatic 106, 3, 213, 0, []), (98, .iload 5, 2, 0, 0, []), (100, .iload 6, 2, 0, 0, []), (102, .invokevirtual 111, 3, 222, 0, []), (105, .iload_n 1, 1, 0, 0, []), (106, .ifCond .ne 8, 3, 114, 0, []), (109, .iload 4, 2, 0, 0, []), (111, .ifCond .eq 7, 3, 118, 0, []), (114, .iconst 1, 1, 0, 0, []), (115, .goto 4, 3, 119, 0, []), (118, .iconst 0, 1, 0, 0, []), (119, .istore_n 1, 1, 0, 0, []), (120, .iinc 2 1, 3, 0, 0, []), (123, .goto (-103), 3, 20, 0, []), (126, .aload_n 0, 1, 0, 0, []), (127, .invokevirtual 65, 3, 130, 0, []), (130, .istore_n 2, 1, 0, 0, []), (131, .aload_n 0, 1, 0, 0, []), (132, .dup, 1, 0, 0, []), (133, .getfield 56, 3, 3, 9, []), (136, .iload_n 2, 1, 0, 0, []), (137, .iadd, 1, 0, 0, []), (138, .putfield 56, 3, 3, 9, []), (141, .aload_n 0, 1, 0, 0, []), (142, .dup, 1, 0, 0, []), (143, .getfield 59, 3, 3, 10, []), (146, .iload_n 2, 1, 0, 0, []), (147, .aload_n 0, 1, 0, 0, []), (148, .aload_n 0, 1, 0, 0, []), (149, .getfield 44, 3, 3, 3, []), (152, .invokevirtual 69, 3, 138, 0, []), (155, .isub, 1, 0, 0, []), (156, .invokestatic 106, 3, 213, 0, []), (159, .iadd, 1, 0, 0, []), (160, .putfield 59, 3, 3, 10, []), (163, .aload_n 0, 1, 0, 0, []), (164, .dup, 1, 0, 0, []), (165, .getfield 53, 3, 3, 8, []), (168, .iconst 1, 1, 0, 0, []), (169, .iadd, 1, 0, 0, []), (170, .putfield 53, 3, 3, 8, []), (173, .iload_n 1, 1, 0, 0, []), (174, .ireturn, 1, 0, 0, [])]
theorem tX4_tick_ok : xTblOK RX4 cX4_tick xFX4 7 tX4_tick = true := by decide +kernel
abbrev nX4_tick (X : Nat × (Nat → Int32)) : List (Nat × Nat × Nat × XS) := [(130, 1, 0, fX4_flow X), (178, 2, 0, fX4_steer X), (186, 2, 0, fX4_at X), (164, 2, 0, fX5_demandFor X), (194, 2, 0, fX5_moveTowards X), (200, 2, 0, fX5_shift X), (158, 1, 0, fX5_flow X), (213, 1, 0, fJ9_abs_0f7a4 X), (222, 6, 0, fX1_add X), (138, 2, 0, fX4_idealFor X)]
def fX4_tick (X : Nat × (Nat → Int32)) : XS := fun as σ => match as with
  | [.inr (.inr (some (3, a0)))] => xIter X (xEnv (nX4_tick X)) (fun _ _ => some none) 1 [(20, [0, 1, 2])] tX4_tick 100000 (0, [(0, .inr (.inr (some (3, a0))))], σ, 0)
  | _ => none
theorem rX4_tick (X : Nat × (Nat → Int32)) : ∀ as σ q, fX4_tick X as σ = some q → ∃ j as', as = xR 3 j :: as' := by
  intro as σ q h
  unfold fX4_tick at h
  split at h
  · exact ⟨_, _, rfl⟩
  · cases h
theorem mX4_tick (l : Launch) (X : Nat × (Nat → Int32)) : xMet l X yX4_tick cX4_tick 7 (some .boolean) 4 0 (fX4_tick X) :=
  xMet_of (cl := xEnv (nX4_tick X)) (rt := 1) (stops := [(20, [0, 1, 2])]) (tbl := tX4_tick) (by decide +kernel) (by decide) tX4_tick_ok x_FX4 rfl (xEnv_ok (L := nX4_tick X) (List.forall_mem_cons.mpr ⟨xCS_V (i := 65) (n := 0) (C := RX4) (k := 3) (mX4_flow l X) (xPk_in [427, 428, 429, 8, 430] (by decide +kernel) (by decide +kernel)) (by decide +kernel) (by decide) rfl (by decide) (by decide) (rX4_flow X), (List.forall_mem_cons.mpr ⟨xCS_V (i := 89) (n := 1) (C := RX4) (k := 3) (mX4_steer l X) (xPk_in [535, 537, 3, 8, 538] (by decide +kernel) (by decide +kernel)) (by decide +kernel) (by decide) rfl (by decide) (by decide) (rX4_steer X), (List.forall_mem_cons.mpr ⟨xCS_V (i := 93) (n := 1) (C := RX4) (k := 3) (mX4_at l X) (xPk_in [546, 347, 348, 8, 349] (by decide +kernel) (by decide +kernel)) (by decide +kernel) (by decide) rfl (by decide) (by decide) (rX4_at X), (List.forall_mem_cons.mpr ⟨xCS_V (i := 82) (n := 1) (C := RX5) (k := 4) (mX5_demandFor l X) (xPk_in [547, 375, 376, 9, 377] (by decide +kernel) (by decide +kernel)) (by decide +kernel) (by decide) rfl (by decide) (by decide) (rX5_demandFor X), (List.forall_mem_cons.mpr ⟨xCS_V (i := 97) (n := 1) (C := RX5) (k := 4) (mX5_moveTowards l X) (xPk_in [548, 549, 550, 9, 551] (by decide +kernel) (by decide +kernel)) (by decide +kernel) (by decide) rfl (by decide) (by decide) (rX5_moveTowards X), (List.forall_mem_cons.mpr ⟨xCS_V (i := 100) (n := 1) (C := RX5) (k := 4) (mX5_shift l X) (xPk_in [555, 556, 557, 9, 558] (by decide +kernel) (by decide +kernel)) (by decide +kernel) (by decide) rfl (by decide) (by decide) (rX5_shift X), (List.forall_mem_cons.mpr ⟨xCS_V (i := 79) (n := 0) (C := RX5) (k := 4) (mX5_flow l X) (xPk_in [431, 387, 388, 9, 389] (by decide +kernel) (by decide +kernel)) (by decide +kernel) (by decide) rfl (by decide) (by decide) (rX5_flow X), (List.forall_mem_cons.mpr ⟨xCS_S (i := 106) (n := 1) (mJ9_abs_0f7a4 l X) (xPk_in [559, 553, 17, 554] (by decide +kernel) (by decide +kernel)) (by decide +kernel) (by decide) (by decide), (List.forall_mem_cons.mpr ⟨xCS_V (i := 111) (n := 5) (C := RX1) (k := 0) (mX1_add l X) (xPk_in [560, 561, 562, 10, 563] (by decide +kernel) (by decide +kernel)) (by decide +kernel) (by decide) rfl (by decide) (by decide) (rX1_add X), (List.forall_mem_cons.mpr ⟨xCS_V (i := 69) (n := 1) (C := RX4) (k := 3) (mX4_idealFor l X) (xPk_in [432, 433, 434, 8, 435] (by decide +kernel) (by decide +kernel)) (by decide +kernel) (by decide) rfl (by decide) (by decide) (rX4_idealFor X), (fun _ h => absurd h List.not_mem_nil)⟩)⟩)⟩)⟩)⟩)⟩)⟩)⟩)⟩)⟩))
    (xNoNew (by decide +kernel))
    (fun as σ q h => by
      unfold fX4_tick at h
      split at h
      · exact Nat.le_of_ble_eq_true rfl
      · cases h)
    (fun as σ r σ' h => by
      unfold fX4_tick at h
      split at h
      · exact ⟨100000, h⟩
      · cases h)
def tX4_pass : List XE := [(0, .iconst 0, 1, 0, 0, []), (1, .istore_n 2, 1, 0, 0, []), (2, .iconst 0, 1, 0, 0, []), (3, .istore_n 3, 1, 0, 0, []), (4, .iload_n 3, 1, 0, 0, []), (5, .iload_n 1, 1, 0, 0, []), (6, .if_icmp .ge 19, 3, 25, 0, []), (9, .aload_n 0, 1, 0, 0, []), (10, .invokevirtual 85, 3, 170, 0, []), (13, .ifCond .eq 6, 3, 19, 0, []), (16, .iinc 2 1, 3, 0, 0, []), (19, .iinc 3 1, 3, 0, 0, []), (22, .goto (-18), 3, 4, 0, []), (25, .iload_n 2, 1, 0, 0, []), (26, .ireturn, 1, 0, 0, [])]
theorem tX4_pass_ok : xTblOK RX4 cX4_pass xFX4 4 tX4_pass = true := by decide +kernel
abbrev nX4_pass (X : Nat × (Nat → Int32)) : List (Nat × Nat × Nat × XS) := [(170, 1, 0, fX4_tick X)]
def fX4_pass (X : Nat × (Nat → Int32)) : XS := fun as σ => match as with
  | [.inr (.inr (some (3, a0))), .inl a1] => xIter X (xEnv (nX4_pass X)) (fun _ _ => some none) 0 [(4, [0, 1, 2, 3])] tX4_pass 100000 (0, [(0, .inr (.inr (some (3, a0)))), (1, .inl a1)], σ, 0)
  | _ => none
theorem rX4_pass (X : Nat × (Nat → Int32)) : ∀ as σ q, fX4_pass X as σ = some q → ∃ j as', as = xR 3 j :: as' := by
  intro as σ q h
  unfold fX4_pass at h
  split at h
  · exact ⟨_, _, rfl⟩
  · cases h
theorem mX4_pass (l : Launch) (X : Nat × (Nat → Int32)) : xMet l X yX4_pass cX4_pass 4 (some .int) 5 0 (fX4_pass X) :=
  xMet_of (cl := xEnv (nX4_pass X)) (rt := 0) (stops := [(4, [0, 1, 2, 3])]) (tbl := tX4_pass) (by decide +kernel) (by decide) tX4_pass_ok x_FX4 rfl (xEnv_ok (L := nX4_pass X) (List.forall_mem_cons.mpr ⟨xCS_V (i := 85) (n := 0) (C := RX4) (k := 3) (mX4_tick l X) (xPk_in [531, 532, 533, 8, 534] (by decide +kernel) (by decide +kernel)) (by decide +kernel) (by decide) rfl (by decide) (by decide) (rX4_tick X), (fun _ h => absurd h List.not_mem_nil)⟩))
    (xNoNew (by decide +kernel))
    (fun as σ q h => by
      unfold fX4_pass at h
      split at h
      · exact Nat.le_of_ble_eq_true rfl
      · cases h)
    (fun as σ r σ' h => by
      unfold fX4_pass at h
      split at h
      · exact ⟨100000, h⟩
      · cases h)
