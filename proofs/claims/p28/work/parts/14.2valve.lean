/-! ===== contracts (written by wip/whole/gen/contracts.py) ===== -/
def tX5_copy : List XE := [(0, .aload_n 0, 1, 0, 0, []), (1, .aload_n 1, 1, 0, 0, []), (2, .getfield 24, 3, 4, 0, []), (5, .putfield 24, 3, 4, 0, []), (8, .aload_n 0, 1, 0, 0, []), (9, .aload_n 1, 1, 0, 0, []), (10, .getfield 27, 3, 4, 1, []), (13, .putfield 27, 3, 4, 1, []), (16, .aload_n 0, 1, 0, 0, []), (17, .aload_n 1, 1, 0, 0, []), (18, .getfield 30, 3, 4, 2, []), (21, .putfield 30, 3, 4, 2, []), (24, .aload_n 0, 1, 0, 0, []), (25, .aload_n 1, 1, 0, 0, []), (26, .getfield 9, 3, 4, 3, []), (29, .putfield 9, 3, 4, 3, []), (32, .aload_n 0, 1, 0, 0, []), (33, .aload_n 1, 1, 0, 0, []), (34, .getfield 15, 3, 4, 4, []), (37, .putfield 15, 3, 4, 4, []), (40, .aload_n 0, 1, 0, 0, []), (41, .aload_n 1, 1, 0, 0, []), (42, .getfield 18, 3, 4, 5, []), (45, .putfield 18, 3, 4, 5, []), (48, .aload_n 0, 1, 0, 0, []), (49, .aload_n 1, 1, 0, 0, []), (50, .getfield 21, 3, 4, 6, []), (53, .putfield 21, 3, 4, 6, []), (56, .aload_n 0, 1, 0, 0, []), (57, .aload_n 1, 1, 0, 0, []), (58, .getfield 34, 3, 4, 7, []), (61, .putfield 34, 3, 4, 7, []), (64, .aload_n 0, 1, 0, 0, []), (65, .aload_n 1, 1, 0, 0, []), (66, .getfield 37, 3, 4, 8, []), (69, .putfield 37, 3, 4, 8, []), (72, .aload_n 0, 1, 0, 0, []), (73, .aload_n 1, 1, 0, 0, []), (74, .getfield 40, 3, 4, 9, []), (77, .putfield 40, 3, 4, 9, []), (80, .aload_n 0, 1, 0, 0, []), (81, .aload_n 1, 1, 0, 0, []), (82, .getfield 43, 3, 4, 10, []), (85, .putfield 43, 3, 4, 10, []), (88, .aload_n 0, 1, 0, 0, []), (89, .aload_n 1, 1, 0, 0, []), (90, .getfield 46, 3, 4, 11, []), (93, .putfield 46, 3, 4, 11, []), (96, .aload_n 0, 1, 0, 0, []), (97, .aload_n 1, 1, 0, 0, []), (98, .getfield 49, 3, 4, 12, []), (101, .putfield 49, 3, 4, 12, []), (104, .aload_n 0, 1, 0, 0, []), (105, .aload_n 1, 1, 0, 0, []), (106, .getfield 52, 3, 4, 13, []), (109, .putfield 52, 3, 4, 13, []), (112, .aload_n 0, 1, 0, 0, []), (113, .aload_n 1, 1, 0, 0, []), (114, .getfield 55, 3, 4, 14, []), (117, .putfield 55, 3, 4, 14, []), (120, .aload_n 0, 1, 0, 0, []), (121, .aload_n 1, 1, 0, 0, []), (122, .getfield 58, 3, 4, 15, []), (125, .putfield 58, 3, 4, 15, []), (128, .return_, 1, 0, 0, [])]
theorem tX5_copy_ok : xTblOK RX5 cX5_copy xFX5 2 tX5_copy = true := by decide +kernel
abbrev nX5_copy (X : Nat × (Nat → Int32)) : List (Nat × Nat × Nat × XS) := []
def fX5_copy (X : Nat × (Nat → Int32)) : XS := fun as σ => match as with
  | [.inr (.inr (some (4, a0))), .inr (.inr (some (4, a1)))] => xIter X (xEnv (nX5_copy X)) (fun _ _ => some none) 4 [] tX5_copy 100000 (0, [(0, .inr (.inr (some (4, a0)))), (1, .inr (.inr (some (4, a1))))], σ, 0)
  | _ => none
theorem rX5_copy (X : Nat × (Nat → Int32)) : ∀ as σ q, fX5_copy X as σ = some q → ∃ j as', as = xR 4 j :: as' := by
  intro as σ q h
  unfold fX5_copy at h
  split at h
  · exact ⟨_, _, rfl⟩
  · cases h
theorem mX5_copy (l : Launch) (X : Nat × (Nat → Int32)) : xMet l X yX5_copy cX5_copy 2 none 1 0 (fX5_copy X) :=
  xMet_of (cl := xEnv (nX5_copy X)) (rt := 4) (stops := []) (tbl := tX5_copy) (by decide +kernel) (by decide) tX5_copy_ok x_FX5 rfl (xEnv_ok (L := nX5_copy X) (fun _ h => absurd h List.not_mem_nil))
    (xNoNew (by decide +kernel))
    (fun as σ q h => by
      unfold fX5_copy at h
      split at h
      · exact Nat.le_of_ble_eq_true rfl
      · cases h)
    (fun as σ r σ' h => by
      unfold fX5_copy at h
      split at h
      · exact ⟨100000, h⟩
      · cases h)
def tX5_demandFor : List XE := [(0, .aload_n 0, 1, 0, 0, []), (1, .getfield 27, 3, 4, 1, []), (4, .aload_n 0, 1, 0, 0, []), (5, .getfield 24, 3, 4, 0, []), (8, .isub, 1, 0, 0, []), (9, .istore_n 2, 1, 0, 0, []), (10, .iconst 0, 1, 0, 0, []), (11, .istore_n 3, 1, 0, 0, []), (12, .iload_n 1, 1, 0, 0, []), (13, .aload_n 0, 1, 0, 0, []), (14, .getfield 27, 3, 4, 1, []), (17, .if_icmp .lt 10, 3, 27, 0, []), (20, .sipush 1000, 3, 0, 0, []), (23, .istore_n 3, 1, 0, 0, []), (24, .goto 28, 3, 52, 0, []), (27, .iload_n 1, 1, 0, 0, []), (28, .aload_n 0, 1, 0, 0, []), (29, .getfield 24, 3, 4, 0, []), (32, .if_icmp .le 20, 3, 52, 0, []), (35, .iload_n 2, 1, 0, 0, []), (36, .ifCond .le 16, 3, 52, 0, []), (39, .sipush 1000, 3, 0, 0, []), (42, .iload_n 1, 1, 0, 0, []), (43, .aload_n 0, 1, 0, 0, []), (44, .getfield 24, 3, 4, 0, []), (47, .isub, 1, 0, 0, []), (48, .imul, 1, 0, 0, []), (49, .iload_n 2, 1, 0, 0, []), (50, .idiv, 1, 0, 0, []), (51, .istore_n 3, 1, 0, 0, []), (52, .aload_n 0, 1, 0, 0, []), (53, .getfield 30, 3, 4, 2, []), (56, .ifCond .eq 11, 3, 67, 0, []), (59, .sipush 1000, 3, 0, 0, []), (62, .iload_n 3, 1, 0, 0, []), (63, .isub, 1, 0, 0, []), (64, .goto 4, 3, 68, 0, []), (67, .iload_n 3, 1, 0, 0, []), (68, .ireturn, 1, 0, 0, [])]
theorem tX5_demandFor_ok : xTblOK RX5 cX5_demandFor xFX5 4 tX5_demandFor = true := by decide +kernel
abbrev nX5_demandFor (X : Nat × (Nat → Int32)) : List (Nat × Nat × Nat × XS) := []
def fX5_demandFor (X : Nat × (Nat → Int32)) : XS := fun as σ => match as with
  | [.inr (.inr (some (4, a0))), .inl a1] => xIter X (xEnv (nX5_demandFor X)) (fun _ _ => some none) 0 [] tX5_demandFor 100000 (0, [(0, .inr (.inr (some (4, a0)))), (1, .inl a1)], σ, 0)
  | _ => none
theorem rX5_demandFor (X : Nat × (Nat → Int32)) : ∀ as σ q, fX5_demandFor X as σ = some q → ∃ j as', as = xR 4 j :: as' := by
  intro as σ q h
  unfold fX5_demandFor at h
  split at h
  · exact ⟨_, _, rfl⟩
  · cases h
theorem mX5_demandFor (l : Launch) (X : Nat × (Nat → Int32)) : xMet l X yX5_demandFor cX5_demandFor 4 (some .int) 1 0 (fX5_demandFor X) :=
  xMet_of (cl := xEnv (nX5_demandFor X)) (rt := 0) (stops := []) (tbl := tX5_demandFor) (by decide +kernel) (by decide) tX5_demandFor_ok x_FX5 rfl (xEnv_ok (L := nX5_demandFor X) (fun _ h => absurd h List.not_mem_nil))
    (xNoNew (by decide +kernel))
    (fun as σ q h => by
      unfold fX5_demandFor at h
      split at h
      · exact Nat.le_of_ble_eq_true rfl
      · cases h)
    (fun as σ r σ' h => by
      unfold fX5_demandFor at h
      split at h
      · exact ⟨100000, h⟩
      · cases h)
def tX5_wear : List XE := [(0, .aload_n 0, 1, 0, 0, []), (1, .getfield 46, 3, 4, 11, []), (4, .bipush 100, 2, 0, 0, []), (6, .idiv, 1, 0, 0, []), (7, .iconst 3, 1, 0, 0, []), (8, .aload_n 0, 1, 0, 0, []), (9, .getfield 49, 3, 4, 12, []), (12, .imul, 1, 0, 0, []), (13, .iadd, 1, 0, 0, []), (14, .ireturn, 1, 0, 0, [])]
theorem tX5_wear_ok : xTblOK RX5 cX5_wear xFX5 1 tX5_wear = true := by decide +kernel
abbrev nX5_wear (X : Nat × (Nat → Int32)) : List (Nat × Nat × Nat × XS) := []
def fX5_wear (X : Nat × (Nat → Int32)) : XS := fun as σ => match as with
  | [.inr (.inr (some (4, a0)))] => xIter X (xEnv (nX5_wear X)) (fun _ _ => some none) 0 [] tX5_wear 100000 (0, [(0, .inr (.inr (some (4, a0))))], σ, 0)
  | _ => none
theorem rX5_wear (X : Nat × (Nat → Int32)) : ∀ as σ q, fX5_wear X as σ = some q → ∃ j as', as = xR 4 j :: as' := by
  intro as σ q h
  unfold fX5_wear at h
  split at h
  · exact ⟨_, _, rfl⟩
  · cases h
theorem mX5_wear (l : Launch) (X : Nat × (Nat → Int32)) : xMet l X yX5_wear cX5_wear 1 (some .int) 1 0 (fX5_wear X) :=
  xMet_of (cl := xEnv (nX5_wear X)) (rt := 0) (stops := []) (tbl := tX5_wear) (by decide +kernel) (by decide) tX5_wear_ok x_FX5 rfl (xEnv_ok (L := nX5_wear X) (fun _ h => absurd h List.not_mem_nil))
    (xNoNew (by decide +kernel))
    (fun as σ q h => by
      unfold fX5_wear at h
      split at h
      · exact Nat.le_of_ble_eq_true rfl
      · cases h)
    (fun as σ r σ' h => by
      unfold fX5_wear at h
      split at h
      · exact ⟨100000, h⟩
      · cases h)
def tX5_threshold : List XE := [(0, .aload_n 0, 1, 0, 0, []), (1, .getfield 43, 3, 4, 10, []), (4, .ifCond .eq 13, 3, 17, 0, []), (7, .aload_n 0, 1, 0, 0, []), (8, .getfield 40, 3, 4, 9, []), (11, .iload_n 1, 1, 0, 0, []), (12, .if_icmp .ne 5, 3, 17, 0, []), (15, .iconst 0, 1, 0, 0, []), (16, .ireturn, 1, 0, 0, []), (17, .aload_n 0, 1, 0, 0, []), (18, .getfield 15, 3, 4, 4, []), (21, .aload_n 0, 1, 0, 0, []), (22, .invokevirtual 65, 3, 130, 0, []), (25, .bipush 50, 2, 0, 0, []), (27, .idiv, 1, 0, 0, []), (28, .iadd, 1, 0, 0, []), (29, .istore_n 2, 1, 0, 0, []), (30, .aload_n 0, 1, 0, 0, []), (31, .getfield 40, 3, 4, 9, []), (34, .iload_n 1, 1, 0, 0, []), (35, .ineg, 1, 0, 0, []), (36, .if_icmp .ne 12, 3, 48, 0, []), (39, .iload_n 2, 1, 0, 0, []), (40, .aload_n 0, 1, 0, 0, []), (41, .getfield 18, 3, 4, 5, []), (44, .iadd, 1, 0, 0, []), (45, .goto 4, 3, 49, 0, []), (48, .iload_n 2, 1, 0, 0, []), (49, .ireturn, 1, 0, 0, [])]
theorem tX5_threshold_ok : xTblOK RX5 cX5_threshold xFX5 3 tX5_threshold = true := by decide +kernel
abbrev nX5_threshold (X : Nat × (Nat → Int32)) : List (Nat × Nat × Nat × XS) := [(130, 1, 0, fX5_wear X)]
def fX5_threshold (X : Nat × (Nat → Int32)) : XS := fun as σ => match as with
  | [.inr (.inr (some (4, a0))), .inl a1] => xIter X (xEnv (nX5_threshold X)) (fun _ _ => some none) 0 [] tX5_threshold 100000 (0, [(0, .inr (.inr (some (4, a0)))), (1, .inl a1)], σ, 0)
  | _ => none
theorem rX5_threshold (X : Nat × (Nat → Int32)) : ∀ as σ q, fX5_threshold X as σ = some q → ∃ j as', as = xR 4 j :: as' := by
  intro as σ q h
  unfold fX5_threshold at h
  split at h
  · exact ⟨_, _, rfl⟩
  · cases h
theorem mX5_threshold (l : Launch) (X : Nat × (Nat → Int32)) : xMet l X yX5_threshold cX5_threshold 3 (some .int) 2 0 (fX5_threshold X) :=
  xMet_of (cl := xEnv (nX5_threshold X)) (rt := 0) (stops := []) (tbl := tX5_threshold) (by decide +kernel) (by decide) tX5_threshold_ok x_FX5 rfl (xEnv_ok (L := nX5_threshold X) (List.forall_mem_cons.mpr ⟨xCS_V (i := 65) (n := 0) (C := RX5) (k := 4) (mX5_wear l X) (xPk_in [378, 379, 380, 9, 381] (by decide +kernel) (by decide +kernel)) (by decide +kernel) (by decide) rfl (by decide) (by decide) (rX5_wear X), (fun _ h => absurd h List.not_mem_nil)⟩))
    (xNoNew (by decide +kernel))
    (fun as σ q h => by
      unfold fX5_threshold at h
      split at h
      · exact Nat.le_of_ble_eq_true rfl
      · cases h)
    (fun as σ r σ' h => by
      unfold fX5_threshold at h
      split at h
      · exact ⟨100000, h⟩
      · cases h)
def tX5_through : List XE := [(0, .iload_n 1, 1, 0, 0, []), (1, .istore_n 2, 1, 0, 0, []), (2, .aload_n 0, 1, 0, 0, []), (3, .getfield 34, 3, 4, 7, []), (6, .iconst 1, 1, 0, 0, []), (7, .if_icmp .ne 14, 3, 21, 0, []), (10, .iload_n 1, 1, 0, 0, []), (11, .iload_n 1, 1, 0, 0, []), (12, .imul, 1, 0, 0, []), (13, .sipush 1000, 3, 0, 0, []), (16, .idiv, 1, 0, 0, []), (17, .istore_n 2, 1, 0, 0, []), (18, .goto 31, 3, 49, 0, []), (21, .aload_n 0, 1, 0, 0, []), (22, .getfield 34, 3, 4, 7, []), (25, .iconst 2, 1, 0, 0, []), (26, .if_icmp .ne 23, 3, 49, 0, []), (29, .sipush 1000, 3, 0, 0, []), (32, .sipush 1000, 3, 0, 0, []), (35, .iload_n 1, 1, 0, 0, []), (36, .isub, 1, 0, 0, []), (37, .sipush 1000, 3, 0, 0, []), (40, .iload_n 1, 1, 0, 0, []), (41, .isub, 1, 0, 0, []), (42, .imul, 1, 0, 0, []), (43, .sipush 1000, 3, 0, 0, []), (46, .idiv, 1, 0, 0, []), (47, .isub, 1, 0, 0, []), (48, .istore_n 2, 1, 0, 0, []), (49, .aload_n 0, 1, 0, 0, []), (50, .getfield 21, 3, 4, 6, []), (53, .iload_n 2, 1, 0, 0, []), (54, .imul, 1, 0, 0, []), (55, .sipush 1000, 3, 0, 0, []), (58, .idiv, 1, 0, 0, []), (59, .ireturn, 1, 0, 0, [])]
theorem tX5_through_ok : xTblOK RX5 cX5_through xFX5 3 tX5_through = true := by decide +kernel
abbrev nX5_through (X : Nat × (Nat → Int32)) : List (Nat × Nat × Nat × XS) := []
def fX5_through (X : Nat × (Nat → Int32)) : XS := fun as σ => match as with
  | [.inr (.inr (some (4, a0))), .inl a1] => xIter X (xEnv (nX5_through X)) (fun _ _ => some none) 0 [] tX5_through 100000 (0, [(0, .inr (.inr (some (4, a0)))), (1, .inl a1)], σ, 0)
  | _ => none
theorem rX5_through (X : Nat × (Nat → Int32)) : ∀ as σ q, fX5_through X as σ = some q → ∃ j as', as = xR 4 j :: as' := by
  intro as σ q h
  unfold fX5_through at h
  split at h
  · exact ⟨_, _, rfl⟩
  · cases h
theorem mX5_through (l : Launch) (X : Nat × (Nat → Int32)) : xMet l X yX5_through cX5_through 3 (some .int) 1 0 (fX5_through X) :=
  xMet_of (cl := xEnv (nX5_through X)) (rt := 0) (stops := []) (tbl := tX5_through) (by decide +kernel) (by decide) tX5_through_ok x_FX5 rfl (xEnv_ok (L := nX5_through X) (fun _ h => absurd h List.not_mem_nil))
    (xNoNew (by decide +kernel))
    (fun as σ q h => by
      unfold fX5_through at h
      split at h
      · exact Nat.le_of_ble_eq_true rfl
      · cases h)
    (fun as σ r σ' h => by
      unfold fX5_through at h
      split at h
      · exact ⟨100000, h⟩
      · cases h)
def tX5_flow : List XE := [(0, .aload_n 0, 1, 0, 0, []), (1, .getfield 37, 3, 4, 8, []), (4, .ifCond .le 14, 3, 18, 0, []), (7, .aload_n 0, 1, 0, 0, []), (8, .aload_n 0, 1, 0, 0, []), (9, .getfield 37, 3, 4, 8, []), (12, .invokevirtual 87, 3, 174, 0, []), (15, .goto 17, 3, 32, 0, []), (18, .aload_n 0, 1, 0, 0, []), (19, .getfield 21, 3, 4, 6, []), (22, .aload_n 0, 1, 0, 0, []), (23, .invokevirtual 65, 3, 130, 0, []), (26, .bipush 20, 2, 0, 0, []), (28, .idiv, 1, 0, 0, []), (29, .invokestatic 84, 3, 169, 0, []), (32, .ireturn, 1, 0, 0, [])]
theorem tX5_flow_ok : xTblOK RX5 cX5_flow xFX5 1 tX5_flow = true := by decide +kernel
abbrev nX5_flow (X : Nat × (Nat → Int32)) : List (Nat × Nat × Nat × XS) := [(174, 2, 0, fX5_through X), (130, 1, 0, fX5_wear X), (169, 2, 0, fJ9_min_7cf53 X)]
def fX5_flow (X : Nat × (Nat → Int32)) : XS := fun as σ => match as with
  | [.inr (.inr (some (4, a0)))] => xIter X (xEnv (nX5_flow X)) (fun _ _ => some none) 0 [] tX5_flow 100000 (0, [(0, .inr (.inr (some (4, a0))))], σ, 0)
  | _ => none
theorem rX5_flow (X : Nat × (Nat → Int32)) : ∀ as σ q, fX5_flow X as σ = some q → ∃ j as', as = xR 4 j :: as' := by
  intro as σ q h
  unfold fX5_flow at h
  split at h
  · exact ⟨_, _, rfl⟩
  · cases h
theorem mX5_flow (l : Launch) (X : Nat × (Nat → Int32)) : xMet l X yX5_flow cX5_flow 1 (some .int) 2 0 (fX5_flow X) :=
  xMet_of (cl := xEnv (nX5_flow X)) (rt := 0) (stops := []) (tbl := tX5_flow) (by decide +kernel) (by decide) tX5_flow_ok x_FX5 rfl (xEnv_ok (L := nX5_flow X) (List.forall_mem_cons.mpr ⟨xCS_V (i := 87) (n := 1) (C := RX5) (k := 4) (mX5_through l X) (xPk_in [390, 392, 1, 9, 393] (by decide +kernel) (by decide +kernel)) (by decide +kernel) (by decide) rfl (by decide) (by decide) (rX5_through X), (List.forall_mem_cons.mpr ⟨xCS_V (i := 65) (n := 0) (C := RX5) (k := 4) (mX5_wear l X) (xPk_in [378, 379, 380, 9, 381] (by decide +kernel) (by decide +kernel)) (by decide +kernel) (by decide) rfl (by decide) (by decide) (rX5_wear X), (List.forall_mem_cons.mpr ⟨xCS_S (i := 84) (n := 2) (mJ9_min_7cf53 l X) (xPk_in [394, 344, 17, 345] (by decide +kernel) (by decide +kernel)) (by decide +kernel) (by decide) (by decide), (fun _ h => absurd h List.not_mem_nil)⟩)⟩)⟩))
    (xNoNew (by decide +kernel))
    (fun as σ q h => by
      unfold fX5_flow at h
      split at h
      · exact Nat.le_of_ble_eq_true rfl
      · cases h)
    (fun as σ r σ' h => by
      unfold fX5_flow at h
      split at h
      · exact ⟨100000, h⟩
      · cases h)
def tX5_value : List XE := [(0, .iload_n 1, 1, 0, 0, []), (1, .tableswitch 214 0 19 #[95, 100, 105, 110, 115, 120, 125, 130, 143, 149, 154, 159, 172, 177, 182, 187, 192, 197, 203, 209], 95, 215, 0, [(0, 96), (1, 101), (2, 106), (3, 111), (4, 116), (5, 121), (6, 126), (7, 131), (8, 144), (9, 150), (10, 155), (11, 160), (12, 173), (13, 178), (14, 183), (15, 188), (16, 193), (17, 198), (18, 204), (19, 210)]), (96, .aload_n 0, 1, 0, 0, []), (97, .getfield 9, 3, 4, 3, []), (100, .ireturn, 1, 0, 0, []), (101, .aload_n 0, 1, 0, 0, []), (102, .getfield 15, 3, 4, 4, []), (105, .ireturn, 1, 0, 0, []), (106, .aload_n 0, 1, 0, 0, []), (107, .getfield 18, 3, 4, 5, []), (110, .ireturn, 1, 0, 0, []), (111, .aload_n 0, 1, 0, 0, []), (112, .getfield 21, 3, 4, 6, []), (115, .ireturn, 1, 0, 0, []), (116, .aload_n 0, 1, 0, 0, []), (117, .getfield 34, 3, 4, 7, []), (120, .ireturn, 1, 0, 0, []), (121, .aload_n 0, 1, 0, 0, []), (122, .getfield 24, 3, 4, 0, []), (125, .ireturn, 1, 0, 0, []), (126, .aload_n 0, 1, 0, 0, []), (127, .getfield 27, 3, 4, 1, []), (130, .ireturn, 1, 0, 0, []), (131, .aload_n 0, 1, 0, 0, []), (132, .getfield 30, 3, 4, 2, []), (135, .ifCond .eq 7, 3, 142, 0, []), (138, .iconst 1, 1, 0, 0, []), (139, .goto 4, 3, 143, 0, []), (142, .iconst 0, 1, 0, 0, []), (143, .ireturn, 1, 0, 0, []), (144, .aload_n 0, 1, 0, 0, []), (145, .iload_n 2, 1, 0, 0, []), (146, .invokevirtual 61, 3, 122, 0, []), (149, .ireturn, 1, 0, 0, []), (150, .aload_n 0, 1, 0, 0, []), (151, .getfield 37, 3, 4, 8, []), (154, .ireturn, 1, 0, 0, []), (155, .aload_n 0, 1, 0, 0, []), (156, .getfield 40, 3, 4, 9, []), (159, .ireturn, 1, 0, 0, []), (160, .aload_n 0, 1, 0, 0, []), (161, .getfield 43, 3, 4, 10, []), (164, .ifCond .eq 7, 3, 171, 0, []), (167, .iconst 1, 1, 0, 0, []), (168, .goto 4, 3, 172, 0, []), (171, .iconst 0, 1, 0, 0, []), (172, .ireturn, 1, 0, 0, []), (173, .aload_n 0, 1, 0, 0, []), (174, .getfield 46, 3, 4, 11, []), (177, .ireturn, 1, 0, 0, []), (178, .aload_n 0, 1, 0, 0, []), (179, .getfield 49, 3, 4, 12, []), (182, .ireturn, 1, 0, 0, []), (183, .aload_n 0, 1, 0, 0, []), (184, .getfield 52, 3, 4, 13, []), (187, .ireturn, 1, 0, 0, []), (188, .aload_n 0, 1, 0, 0, []), (189, .getfield 55, 3, 4, 14, []), (192, .ireturn, 1, 0, 0, []), (193, .aload_n 0, 1, 0, 0, []), (194, .invokevirtual 65, 3, 130, 0, []), (197, .ireturn, 1, 0, 0, []), (198, .aload_n 0, 1, 0, 0, []), (199, .iconst 1, 1, 0, 0, []), (200, .invokevirtual 69, 3, 138, 0, []), (203, .ireturn, 1, 0, 0, []), (204, .aload_n 0, 1, 0, 0, []), (205, .iconst (-1), 1, 0, 0, []), (206, .invokevirtual 69, 3, 138, 0, []), (209, .ireturn, 1, 0, 0, []), (210, .aload_n 0, 1, 0, 0, []), (211, .invokevirtual 72, 3, 144, 0, []), (214, .ireturn, 1, 0, 0, []), (215, .aload_n 0, 1, 0, 0, []), (216, .getfield 58, 3, 4, 15, []), (219, .ireturn, 1, 0, 0, [])]
theorem tX5_value_ok : xTblOK RX5 cX5_value xFX5 3 tX5_value = true := by decide +kernel
abbrev nX5_value (X : Nat × (Nat → Int32)) : List (Nat × Nat × Nat × XS) := [(122, 2, 0, fX5_demandFor X), (130, 1, 0, fX5_wear X), (138, 2, 0, fX5_threshold X), (144, 1, 0, fX5_flow X)]
def fX5_value (X : Nat × (Nat → Int32)) : XS := fun as σ => match as with
  | [.inr (.inr (some (4, a0))), .inl a1, .inl a2] => xIter X (xEnv (nX5_value X)) (fun _ _ => some none) 0 [] tX5_value 100000 (0, [(0, .inr (.inr (some (4, a0)))), (1, .inl a1), (2, .inl a2)], σ, 0)
  | _ => none
theorem rX5_value (X : Nat × (Nat → Int32)) : ∀ as σ q, fX5_value X as σ = some q → ∃ j as', as = xR 4 j :: as' := by
  intro as σ q h
  unfold fX5_value at h
  split at h
  · exact ⟨_, _, rfl⟩
  · cases h
theorem mX5_value (l : Launch) (X : Nat × (Nat → Int32)) : xMet l X yX5_value cX5_value 3 (some .int) 3 0 (fX5_value X) :=
  xMet_of (cl := xEnv (nX5_value X)) (rt := 0) (stops := []) (tbl := tX5_value) (by decide +kernel) (by decide) tX5_value_ok x_FX5 rfl (xEnv_ok (L := nX5_value X) (List.forall_mem_cons.mpr ⟨xCS_V (i := 61) (n := 1) (C := RX5) (k := 4) (mX5_demandFor l X) (xPk_in [374, 375, 376, 9, 377] (by decide +kernel) (by decide +kernel)) (by decide +kernel) (by decide) rfl (by decide) (by decide) (rX5_demandFor X), (List.forall_mem_cons.mpr ⟨xCS_V (i := 65) (n := 0) (C := RX5) (k := 4) (mX5_wear l X) (xPk_in [378, 379, 380, 9, 381] (by decide +kernel) (by decide +kernel)) (by decide +kernel) (by decide) rfl (by decide) (by decide) (rX5_wear X), (List.forall_mem_cons.mpr ⟨xCS_V (i := 69) (n := 1) (C := RX5) (k := 4) (mX5_threshold l X) (xPk_in [382, 383, 384, 9, 385] (by decide +kernel) (by decide +kernel)) (by decide +kernel) (by decide) rfl (by decide) (by decide) (rX5_threshold X), (List.forall_mem_cons.mpr ⟨xCS_V (i := 72) (n := 0) (C := RX5) (k := 4) (mX5_flow l X) (xPk_in [386, 387, 388, 9, 389] (by decide +kernel) (by decide +kernel)) (by decide +kernel) (by decide) rfl (by decide) (by decide) (rX5_flow X), (fun _ h => absurd h List.not_mem_nil)⟩)⟩)⟩)⟩))
    (xNoNew (by decide +kernel))
    (fun as σ q h => by
      unfold fX5_value at h
      split at h
      · exact Nat.le_of_ble_eq_true rfl
      · cases h)
    (fun as σ r σ' h => by
      unfold fX5_value at h
      split at h
      · exact ⟨100000, h⟩
      · cases h)
def tX5_changeSetting : List XE := [(0, .aload_n 0, 1, 0, 0, []), (1, .iload_n 1, 1, 0, 0, []), (2, .iconst 0, 1, 0, 0, []), (3, .invokevirtual 75, 3, 150, 0, []), (6, .istore_n 3, 1, 0, 0, []), (7, .iload_n 1, 1, 0, 0, []), (8, .tableswitch 64 0 3 #[32, 40, 48, 56], 32, 72, 0, [(0, 40), (1, 48), (2, 56), (3, 64)]), (40, .aload_n 0, 1, 0, 0, []), (41, .iload_n 2, 1, 0, 0, []), (42, .putfield 9, 3, 4, 3, []), (45, .goto 32, 3, 77, 0, []), (48, .aload_n 0, 1, 0, 0, []), (49, .iload_n 2, 1, 0, 0, []), (50, .putfield 15, 3, 4, 4, []), (53, .goto 24, 3, 77, 0, []), (56, .aload_n 0, 1, 0, 0, []), (57, .iload_n 2, 1, 0, 0, []), (58, .putfield 18, 3, 4, 5, []), (61, .goto 16, 3, 77, 0, []), (64, .aload_n 0, 1, 0, 0, []), (65, .iload_n 2, 1, 0, 0, []), (66, .putfield 21, 3, 4, 6, []), (69, .goto 8, 3, 77, 0, []), (72, .aload_n 0, 1, 0, 0, []), (73, .iload_n 2, 1, 0, 0, []), (74, .putfield 34, 3, 4, 7, []), (77, .iload_n 3, 1, 0, 0, []), (78, .ireturn, 1, 0, 0, [])]
theorem tX5_changeSetting_ok : xTblOK RX5 cX5_changeSetting xFX5 4 tX5_changeSetting = true := by decide +kernel
abbrev nX5_changeSetting (X : Nat × (Nat → Int32)) : List (Nat × Nat × Nat × XS) := [(150, 3, 0, fX5_value X)]
def fX5_changeSetting (X : Nat × (Nat → Int32)) : XS := fun as σ => match as with
  | [.inr (.inr (some (4, a0))), .inl a1, .inl a2] => xIter X (xEnv (nX5_changeSetting X)) (fun _ _ => some none) 0 [] tX5_changeSetting 100000 (0, [(0, .inr (.inr (some (4, a0)))), (1, .inl a1), (2, .inl a2)], σ, 0)
  | _ => none
theorem rX5_changeSetting (X : Nat × (Nat → Int32)) : ∀ as σ q, fX5_changeSetting X as σ = some q → ∃ j as', as = xR 4 j :: as' := by
  intro as σ q h
  unfold fX5_changeSetting at h
  split at h
  · exact ⟨_, _, rfl⟩
  · cases h
theorem mX5_changeSetting (l : Launch) (X : Nat × (Nat → Int32)) : xMet l X yX5_changeSetting cX5_changeSetting 4 (some .int) 4 0 (fX5_changeSetting X) :=
  xMet_of (cl := xEnv (nX5_changeSetting X)) (rt := 0) (stops := []) (tbl := tX5_changeSetting) (by decide +kernel) (by decide) tX5_changeSetting_ok x_FX5 rfl (xEnv_ok (L := nX5_changeSetting X) (List.forall_mem_cons.mpr ⟨xCS_V (i := 75) (n := 2) (C := RX5) (k := 4) (mX5_value l X) (xPk_in [370, 371, 372, 9, 373] (by decide +kernel) (by decide +kernel)) (by decide +kernel) (by decide) rfl (by decide) (by decide) (rX5_value X), (fun _ h => absurd h List.not_mem_nil)⟩))
    (xNoNew (by decide +kernel))
    (fun as σ q h => by
      unfold fX5_changeSetting at h
      split at h
      · exact Nat.le_of_ble_eq_true rfl
      · cases h)
    (fun as σ r σ' h => by
      unfold fX5_changeSetting at h
      split at h
      · exact ⟨100000, h⟩
      · cases h)
def tX5_changeRange : List XE := [(0, .sipush 10000, 3, 0, 0, []), (3, .aload_n 0, 1, 0, 0, []), (4, .getfield 24, 3, 4, 0, []), (7, .imul, 1, 0, 0, []), (8, .aload_n 0, 1, 0, 0, []), (9, .getfield 27, 3, 4, 1, []), (12, .iadd, 1, 0, 0, []), (13, .istore 4, 2, 0, 0, []), (15, .aload_n 0, 1, 0, 0, []), (16, .iload_n 1, 1, 0, 0, []), (17, .putfield 24, 3, 4, 0, []), (20, .aload_n 0, 1, 0, 0, []), (21, .iload_n 2, 1, 0, 0, []), (22, .putfield 27, 3, 4, 1, []), (25, .aload_n 0, 1, 0, 0, []), (26, .iload_n 3, 1, 0, 0, []), (27, .putfield 30, 3, 4, 2, []), (30, .iload 4, 2, 0, 0, []), (32, .ireturn, 1, 0, 0, [])]
theorem tX5_changeRange_ok : xTblOK RX5 cX5_changeRange xFX5 5 tX5_changeRange = true := by decide +kernel
abbrev nX5_changeRange (X : Nat × (Nat → Int32)) : List (Nat × Nat × Nat × XS) := []
def fX5_changeRange (X : Nat × (Nat → Int32)) : XS := fun as σ => match as with
  | [.inr (.inr (some (4, a0))), .inl a1, .inl a2, .inl a3] => xIter X (xEnv (nX5_changeRange X)) (fun _ _ => some none) 0 [] tX5_changeRange 100000 (0, [(0, .inr (.inr (some (4, a0)))), (1, .inl a1), (2, .inl a2), (3, .inl a3)], σ, 0)
  | _ => none
theorem rX5_changeRange (X : Nat × (Nat → Int32)) : ∀ as σ q, fX5_changeRange X as σ = some q → ∃ j as', as = xR 4 j :: as' := by
  intro as σ q h
  unfold fX5_changeRange at h
  split at h
  · exact ⟨_, _, rfl⟩
  · cases h
theorem mX5_changeRange (l : Launch) (X : Nat × (Nat → Int32)) : xMet l X yX5_changeRange cX5_changeRange 5 (some .int) 1 0 (fX5_changeRange X) :=
  xMet_of (cl := xEnv (nX5_changeRange X)) (rt := 0) (stops := []) (tbl := tX5_changeRange) (by decide +kernel) (by decide) tX5_changeRange_ok x_FX5 rfl (xEnv_ok (L := nX5_changeRange X) (fun _ h => absurd h List.not_mem_nil))
    (xNoNew (by decide +kernel))
    (fun as σ q h => by
      unfold fX5_changeRange at h
      split at h
      · exact Nat.le_of_ble_eq_true rfl
      · cases h)
    (fun as σ r σ' h => by
      unfold fX5_changeRange at h
      split at h
      · exact ⟨100000, h⟩
      · cases h)
def tX5_renew : List XE := [(0, .aload_n 0, 1, 0, 0, []), (1, .invokevirtual 65, 3, 130, 0, []), (4, .istore_n 1, 1, 0, 0, []), (5, .aload_n 0, 1, 0, 0, []), (6, .iconst 0, 1, 0, 0, []), (7, .putfield 46, 3, 4, 11, []), (10, .aload_n 0, 1, 0, 0, []), (11, .iconst 0, 1, 0, 0, []), (12, .putfield 49, 3, 4, 12, []), (15, .aload_n 0, 1, 0, 0, []), (16, .dup, 1, 0, 0, []), (17, .getfield 58, 3, 4, 15, []), (20, .iconst 1, 1, 0, 0, []), (21, .iadd, 1, 0, 0, []), (22, .putfield 58, 3, 4, 15, []), (25, .iload_n 1, 1, 0, 0, []), (26, .ireturn, 1, 0, 0, [])]
theorem tX5_renew_ok : xTblOK RX5 cX5_renew xFX5 2 tX5_renew = true := by decide +kernel
abbrev nX5_renew (X : Nat × (Nat → Int32)) : List (Nat × Nat × Nat × XS) := [(130, 1, 0, fX5_wear X)]
def fX5_renew (X : Nat × (Nat → Int32)) : XS := fun as σ => match as with
  | [.inr (.inr (some (4, a0)))] => xIter X (xEnv (nX5_renew X)) (fun _ _ => some none) 0 [] tX5_renew 100000 (0, [(0, .inr (.inr (some (4, a0))))], σ, 0)
  | _ => none
theorem rX5_renew (X : Nat × (Nat → Int32)) : ∀ as σ q, fX5_renew X as σ = some q → ∃ j as', as = xR 4 j :: as' := by
  intro as σ q h
  unfold fX5_renew at h
  split at h
  · exact ⟨_, _, rfl⟩
  · cases h
theorem mX5_renew (l : Launch) (X : Nat × (Nat → Int32)) : xMet l X yX5_renew cX5_renew 2 (some .int) 2 0 (fX5_renew X) :=
  xMet_of (cl := xEnv (nX5_renew X)) (rt := 0) (stops := []) (tbl := tX5_renew) (by decide +kernel) (by decide) tX5_renew_ok x_FX5 rfl (xEnv_ok (L := nX5_renew X) (List.forall_mem_cons.mpr ⟨xCS_V (i := 65) (n := 0) (C := RX5) (k := 4) (mX5_wear l X) (xPk_in [378, 379, 380, 9, 381] (by decide +kernel) (by decide +kernel)) (by decide +kernel) (by decide) rfl (by decide) (by decide) (rX5_wear X), (fun _ h => absurd h List.not_mem_nil)⟩))
    (xNoNew (by decide +kernel))
    (fun as σ q h => by
      unfold fX5_renew at h
      split at h
      · exact Nat.le_of_ble_eq_true rfl
      · cases h)
    (fun as σ r σ' h => by
      unfold fX5_renew at h
      split at h
      · exact ⟨100000, h⟩
      · cases h)
def tX5_putAt : List XE := [(0, .aload_n 0, 1, 0, 0, []), (1, .getfield 37, 3, 4, 8, []), (4, .istore_n 2, 1, 0, 0, []), (5, .aload_n 0, 1, 0, 0, []), (6, .iload_n 1, 1, 0, 0, []), (7, .putfield 37, 3, 4, 8, []), (10, .aload_n 0, 1, 0, 0, []), (11, .iconst 0, 1, 0, 0, []), (12, .putfield 43, 3, 4, 10, []), (15, .aload_n 0, 1, 0, 0, []), (16, .iconst 0, 1, 0, 0, []), (17, .putfield 40, 3, 4, 9, []), (20, .iload_n 2, 1, 0, 0, []), (21, .ireturn, 1, 0, 0, [])]
theorem tX5_putAt_ok : xTblOK RX5 cX5_putAt xFX5 3 tX5_putAt = true := by decide +kernel
abbrev nX5_putAt (X : Nat × (Nat → Int32)) : List (Nat × Nat × Nat × XS) := []
def fX5_putAt (X : Nat × (Nat → Int32)) : XS := fun as σ => match as with
  | [.inr (.inr (some (4, a0))), .inl a1] => xIter X (xEnv (nX5_putAt X)) (fun _ _ => some none) 0 [] tX5_putAt 100000 (0, [(0, .inr (.inr (some (4, a0)))), (1, .inl a1)], σ, 0)
  | _ => none
theorem rX5_putAt (X : Nat × (Nat → Int32)) : ∀ as σ q, fX5_putAt X as σ = some q → ∃ j as', as = xR 4 j :: as' := by
  intro as σ q h
  unfold fX5_putAt at h
  split at h
  · exact ⟨_, _, rfl⟩
  · cases h
theorem mX5_putAt (l : Launch) (X : Nat × (Nat → Int32)) : xMet l X yX5_putAt cX5_putAt 3 (some .int) 1 0 (fX5_putAt X) :=
  xMet_of (cl := xEnv (nX5_putAt X)) (rt := 0) (stops := []) (tbl := tX5_putAt) (by decide +kernel) (by decide) tX5_putAt_ok x_FX5 rfl (xEnv_ok (L := nX5_putAt X) (fun _ h => absurd h List.not_mem_nil))
    (xNoNew (by decide +kernel))
    (fun as σ q h => by
      unfold fX5_putAt at h
      split at h
      · exact Nat.le_of_ble_eq_true rfl
      · cases h)
    (fun as σ r σ' h => by
      unfold fX5_putAt at h
      split at h
      · exact ⟨100000, h⟩
      · cases h)
def tX5_moveTowards : List XE := [(0, .iload_n 1, 1, 0, 0, []), (1, .aload_n 0, 1, 0, 0, []), (2, .getfield 37, 3, 4, 8, []), (5, .if_icmp .le 7, 3, 12, 0, []), (8, .iconst 1, 1, 0, 0, []), (9, .goto 4, 3, 13, 0, []), (12, .iconst (-1), 1, 0, 0, []), (13, .istore_n 2, 1, 0, 0, []), (14, .iload_n 1, 1, 0, 0, []), (15, .aload_n 0, 1, 0, 0, []), (16, .getfield 37, 3, 4, 8, []), (19, .isub, 1, 0, 0, []), (20, .invokestatic 79, 3, 159, 0, []), (23, .istore_n 3, 1, 0, 0, []), (24, .iload_n 3, 1, 0, 0, []), (25, .ifCond .eq 12, 3, 37, 0, []), (28, .iload_n 3, 1, 0, 0, []), (29, .aload_n 0, 1, 0, 0, []), (30, .iload_n 2, 1, 0, 0, []), (31, .invokevirtual 69, 3, 138, 0, []), (34, .if_icmp .gt 5, 3, 39, 0, []), (37, .iconst 0, 1, 0, 0, []), (38, .ireturn, 1, 0, 0, []), (39, .iload_n 2, 1, 0, 0, []), (40, .iload_n 3, 1, 0, 0, []), (41, .aload_n 0, 1, 0, 0, []), (42, .getfield 9, 3, 4, 3, []), (45, .invokestatic 84, 3, 169, 0, []), (48, .imul, 1, 0, 0, []), (49, .ireturn, 1, 0, 0, [])]
theorem tX5_moveTowards_ok : xTblOK RX5 cX5_moveTowards xFX5 4 tX5_moveTowards = true := by decide +kernel
abbrev nX5_moveTowards (X : Nat × (Nat → Int32)) : List (Nat × Nat × Nat × XS) := [(159, 1, 0, fJ9_abs_0f7a4 X), (138, 2, 0, fX5_threshold X), (169, 2, 0, fJ9_min_7cf53 X)]
def fX5_moveTowards (X : Nat × (Nat → Int32)) : XS := fun as σ => match as with
  | [.inr (.inr (some (4, a0))), .inl a1] => xIter X (xEnv (nX5_moveTowards X)) (fun _ _ => some none) 0 [] tX5_moveTowards 100000 (0, [(0, .inr (.inr (some (4, a0)))), (1, .inl a1)], σ, 0)
  | _ => none
theorem rX5_moveTowards (X : Nat × (Nat → Int32)) : ∀ as σ q, fX5_moveTowards X as σ = some q → ∃ j as', as = xR 4 j :: as' := by
  intro as σ q h
  unfold fX5_moveTowards at h
  split at h
  · exact ⟨_, _, rfl⟩
  · cases h
theorem mX5_moveTowards (l : Launch) (X : Nat × (Nat → Int32)) : xMet l X yX5_moveTowards cX5_moveTowards 4 (some .int) 3 0 (fX5_moveTowards X) :=
  xMet_of (cl := xEnv (nX5_moveTowards X)) (rt := 0) (stops := []) (tbl := tX5_moveTowards) (by decide +kernel) (by decide) tX5_moveTowards_ok x_FX5 rfl (xEnv_ok (L := nX5_moveTowards X) (List.forall_mem_cons.mpr ⟨xCS_S (i := 79) (n := 1) (mJ9_abs_0f7a4 l X) (xPk_in [552, 553, 17, 554] (by decide +kernel) (by decide +kernel)) (by decide +kernel) (by decide) (by decide), (List.forall_mem_cons.mpr ⟨xCS_V (i := 69) (n := 1) (C := RX5) (k := 4) (mX5_threshold l X) (xPk_in [382, 383, 384, 9, 385] (by decide +kernel) (by decide +kernel)) (by decide +kernel) (by decide) rfl (by decide) (by decide) (rX5_threshold X), (List.forall_mem_cons.mpr ⟨xCS_S (i := 84) (n := 2) (mJ9_min_7cf53 l X) (xPk_in [394, 344, 17, 345] (by decide +kernel) (by decide +kernel)) (by decide +kernel) (by decide) (by decide), (fun _ h => absurd h List.not_mem_nil)⟩)⟩)⟩))
    (xNoNew (by decide +kernel))
    (fun as σ q h => by
      unfold fX5_moveTowards at h
      split at h
      · exact Nat.le_of_ble_eq_true rfl
      · cases h)
    (fun as σ r σ' h => by
      unfold fX5_moveTowards at h
      split at h
      · exact ⟨100000, h⟩
      · cases h)
def tX5_shift : List XE := [(0, .aload_n 0, 1, 0, 0, []), (1, .iload_n 1, 1, 0, 0, []), (2, .ifCond .eq 7, 3, 9, 0, []), (5, .iconst 1, 1, 0, 0, []), (6, .goto 4, 3, 10, 0, []), (9, .iconst 0, 1, 0, 0, []), (10, .putfield 43, 3, 4, 10, []), (13, .iload_n 1, 1, 0, 0, []), (14, .ifCond .ne 5, 3, 19, 0, []), (17, .iconst 0, 1, 0, 0, []), (18, .ireturn, 1, 0, 0, []), (19, .iload_n 1, 1, 0, 0, []), (20, .ifCond .le 7, 3, 27, 0, []), (23, .iconst 1, 1, 0, 0, []), (24, .goto 4, 3, 28, 0, []), (27, .iconst (-1), 1, 0, 0, []), (28, .istore_n 2, 1, 0, 0, []), (29, .aload_n 0, 1, 0, 0, []), (30, .getfield 40, 3, 4, 9, []), (33, .iload_n 2, 1, 0, 0, []), (34, .ineg, 1, 0, 0, []), (35, .if_icmp .ne 7, 3, 42, 0, []), (38, .iconst 1, 1, 0, 0, []), (39, .goto 4, 3, 43, 0, []), (42, .iconst 0, 1, 0, 0, []), (43, .istore_n 3, 1, 0, 0, []), (44, .aload_n 0, 1, 0, 0, []), (45, .dup, 1, 0, 0, []), (46, .getfield 37, 3, 4, 8, []), (49, .iload_n 1, 1, 0, 0, []), (50, .iadd, 1, 0, 0, []), (51, .putfield 37, 3, 4, 8, []), (54, .aload_n 0, 1, 0, 0, []), (55, .dup, 1, 0, 0, []), (56, .getfield 46, 3, 4, 11, []), (59, .iload_n 1, 1, 0, 0, []), (60, .invokestatic 79, 3, 159, 0, []), (63, .iadd, 1, 0, 0, []), (64, .putfield 46, 3, 4, 11, []), (67, .aload_n 0, 1, 0, 0, []), (68, .dup, 1, 0, 0, []), (69, .getfield 52, 3, 4, 13, []), (72, .iload_n 1, 1, 0, 0, []), (73, .invokestatic 79, 3, 159, 0, []), (76, .iadd, 1, 0, 0, []), (77, .putfield 52, 3, 4, 13, []), (80, .aload_n 0, 1, 0, 0, []), (81, .dup, 1, 0, 0, []), (82, .getfield 49, 3, 4, 12, []), (85, .iload_n 3, 1, 0, 0, []), (86, .iadd, 1, 0, 0, []), (87, .putfield 49, 3, 4, 12, []), (90, .aload_n 0, 1, 0, 0, []), (91, .dup, 1, 0, 0, []), (92, .getfield 55, 3, 4, 14, []), (95, .iload_n 3, 1, 0, 0, []), (96, .iadd, 1, 0, 0, []), (97, .putfield 55, 3, 4, 14, []), (100, .aload_n 0, 1, 0, 0, []), (101, .iload_n 2, 1, 0, 0, []), (102, .putfield 40, 3, 4, 9, []), (105, .iload_n 3, 1, 0, 0, []), (106, .ireturn, 1, 0, 0, [])]
theorem tX5_shift_ok : xTblOK RX5 cX5_shift xFX5 4 tX5_shift = true := by decide +kernel
abbrev nX5_shift (X : Nat × (Nat → Int32)) : List (Nat × Nat × Nat × XS) := [(159, 1, 0, fJ9_abs_0f7a4 X)]
def fX5_shift (X : Nat × (Nat → Int32)) : XS := fun as σ => match as with
  | [.inr (.inr (some (4, a0))), .inl a1] => xIter X (xEnv (nX5_shift X)) (fun _ _ => some none) 0 [] tX5_shift 100000 (0, [(0, .inr (.inr (some (4, a0)))), (1, .inl a1)], σ, 0)
  | _ => none
theorem rX5_shift (X : Nat × (Nat → Int32)) : ∀ as σ q, fX5_shift X as σ = some q → ∃ j as', as = xR 4 j :: as' := by
  intro as σ q h
  unfold fX5_shift at h
  split at h
  · exact ⟨_, _, rfl⟩
  · cases h
theorem mX5_shift (l : Launch) (X : Nat × (Nat → Int32)) : xMet l X yX5_shift cX5_shift 4 (some .int) 2 0 (fX5_shift X) :=
  xMet_of (cl := xEnv (nX5_shift X)) (rt := 0) (stops := []) (tbl := tX5_shift) (by decide +kernel) (by decide) tX5_shift_ok x_FX5 rfl (xEnv_ok (L := nX5_shift X) (List.forall_mem_cons.mpr ⟨xCS_S (i := 79) (n := 1) (mJ9_abs_0f7a4 l X) (xPk_in [552, 553, 17, 554] (by decide +kernel) (by decide +kernel)) (by decide +kernel) (by decide) (by decide), (fun _ h => absurd h List.not_mem_nil)⟩))
    (xNoNew (by decide +kernel))
    (fun as σ q h => by
      unfold fX5_shift at h
      split at h
      · exact Nat.le_of_ble_eq_true rfl
      · cases h)
    (fun as σ r σ' h => by
      unfold fX5_shift at h
      split at h
      · exact ⟨100000, h⟩
      · cases h)
def tX5_idealFor : List XE := [(0, .aload_n 0, 1, 0, 0, []), (1, .aload_n 0, 1, 0, 0, []), (2, .iload_n 1, 1, 0, 0, []), (3, .invokevirtual 61, 3, 122, 0, []), (6, .invokevirtual 87, 3, 174, 0, []), (9, .ireturn, 1, 0, 0, [])]
theorem tX5_idealFor_ok : xTblOK RX5 cX5_idealFor xFX5 2 tX5_idealFor = true := by decide +kernel
abbrev nX5_idealFor (X : Nat × (Nat → Int32)) : List (Nat × Nat × Nat × XS) := [(122, 2, 0, fX5_demandFor X), (174, 2, 0, fX5_through X)]
def fX5_idealFor (X : Nat × (Nat → Int32)) : XS := fun as σ => match as with
  | [.inr (.inr (some (4, a0))), .inl a1] => xIter X (xEnv (nX5_idealFor X)) (fun _ _ => some none) 0 [] tX5_idealFor 100000 (0, [(0, .inr (.inr (some (4, a0)))), (1, .inl a1)], σ, 0)
  | _ => none
theorem rX5_idealFor (X : Nat × (Nat → Int32)) : ∀ as σ q, fX5_idealFor X as σ = some q → ∃ j as', as = xR 4 j :: as' := by
  intro as σ q h
  unfold fX5_idealFor at h
  split at h
  · exact ⟨_, _, rfl⟩
  · cases h
theorem mX5_idealFor (l : Launch) (X : Nat × (Nat → Int32)) : xMet l X yX5_idealFor cX5_idealFor 2 (some .int) 2 0 (fX5_idealFor X) :=
  xMet_of (cl := xEnv (nX5_idealFor X)) (rt := 0) (stops := []) (tbl := tX5_idealFor) (by decide +kernel) (by decide) tX5_idealFor_ok x_FX5 rfl (xEnv_ok (L := nX5_idealFor X) (List.forall_mem_cons.mpr ⟨xCS_V (i := 61) (n := 1) (C := RX5) (k := 4) (mX5_demandFor l X) (xPk_in [374, 375, 376, 9, 377] (by decide +kernel) (by decide +kernel)) (by decide +kernel) (by decide) rfl (by decide) (by decide) (rX5_demandFor X), (List.forall_mem_cons.mpr ⟨xCS_V (i := 87) (n := 1) (C := RX5) (k := 4) (mX5_through l X) (xPk_in [390, 392, 1, 9, 393] (by decide +kernel) (by decide +kernel)) (by decide +kernel) (by decide) rfl (by decide) (by decide) (rX5_through X), (fun _ h => absurd h List.not_mem_nil)⟩)⟩))
    (xNoNew (by decide +kernel))
    (fun as σ q h => by
      unfold fX5_idealFor at h
      split at h
      · exact Nat.le_of_ble_eq_true rfl
      · cases h)
    (fun as σ r σ' h => by
      unfold fX5_idealFor at h
      split at h
      · exact ⟨100000, h⟩
      · cases h)
