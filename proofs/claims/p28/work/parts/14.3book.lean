/-! ===== contracts (written by wip/whole/gen/contracts.py) ===== -/
def tX1_copy : List XE := [(0, .aload_n 1, 1, 0, 0, []), (1, .getfield 11, 3, 0, 0, []), (4, .iconst 0, 1, 0, 0, []), (5, .aload_n 0, 1, 0, 0, []), (6, .getfield 11, 3, 0, 0, []), (9, .iconst 0, 1, 0, 0, []), (10, .bipush 60, 2, 0, 0, []), (12, .invokestatic 15, 3, 31, 1, []), (15, .aload_n 0, 1, 0, 0, []), (16, .aload_n 1, 1, 0, 0, []), (17, .getfield 21, 3, 0, 1, []), (20, .putfield 21, 3, 0, 1, []), (23, .return_, 1, 0, 0, [])]
theorem tX1_copy_ok : xTblOK RX1 cX1_copy xFX1 2 tX1_copy = true := by decide +kernel
abbrev nX1_copy (X : Nat × (Nat → Int32)) : List (Nat × Nat × Nat × XS) := []
def fX1_copy (X : Nat × (Nat → Int32)) : XS := fun as σ => match as with
  | [.inr (.inr (some (0, a0))), .inr (.inr (some (0, a1)))] => xIter X (xEnv (nX1_copy X)) (fun _ _ => some none) 4 [] tX1_copy 100000 (0, [(0, .inr (.inr (some (0, a0)))), (1, .inr (.inr (some (0, a1))))], σ, 0)
  | _ => none
theorem rX1_copy (X : Nat × (Nat → Int32)) : ∀ as σ q, fX1_copy X as σ = some q → ∃ j as', as = xR 0 j :: as' := by
  intro as σ q h
  unfold fX1_copy at h
  split at h
  · exact ⟨_, _, rfl⟩
  · cases h
theorem mX1_copy (l : Launch) (X : Nat × (Nat → Int32)) : xMet l X yX1_copy cX1_copy 2 none 1 0 (fX1_copy X) :=
  xMet_of (cl := xEnv (nX1_copy X)) (rt := 4) (stops := []) (tbl := tX1_copy) (by decide +kernel) (by decide) tX1_copy_ok x_FX1 rfl (xEnv_ok (L := nX1_copy X) (fun _ h => absurd h List.not_mem_nil))
    (xNoNew (by decide +kernel))
    (fun as σ q h => by
      unfold fX1_copy at h
      split at h
      · exact Nat.le_of_ble_eq_true rfl
      · cases h)
    (fun as σ r σ' h => by
      unfold fX1_copy at h
      split at h
      · exact ⟨100000, h⟩
      · cases h)
def tX7_within : List XE := [(0, .iload_n 0, 1, 0, 0, []), (1, .iload_n 1, 1, 0, 0, []), (2, .if_icmp .lt 12, 3, 14, 0, []), (5, .iload_n 0, 1, 0, 0, []), (6, .iload_n 2, 1, 0, 0, []), (7, .if_icmp .gt 7, 3, 14, 0, []), (10, .iconst 1, 1, 0, 0, []), (11, .goto 4, 3, 15, 0, []), (14, .iconst 0, 1, 0, 0, []), (15, .ireturn, 1, 0, 0, [])]
theorem tX7_within_ok : xTblOK RX7 cX7_within xFX7 3 tX7_within = true := by decide +kernel
abbrev nX7_within (X : Nat × (Nat → Int32)) : List (Nat × Nat × Nat × XS) := []
def fX7_within (X : Nat × (Nat → Int32)) : XS := fun as σ => match as with
  | [.inl a0, .inl a1, .inl a2] => xIter X (xEnv (nX7_within X)) (fun _ _ => some none) 1 [] tX7_within 100000 (0, [(0, .inl a0), (1, .inl a1), (2, .inl a2)], σ, 0)
  | _ => none
theorem mX7_within (l : Launch) (X : Nat × (Nat → Int32)) : xMet l X yX7_within cX7_within 3 (some .boolean) 1 0 (fX7_within X) :=
  xMet_of (cl := xEnv (nX7_within X)) (rt := 1) (stops := []) (tbl := tX7_within) (by decide +kernel) (by decide) tX7_within_ok x_FX7 rfl (xEnv_ok (L := nX7_within X) (fun _ h => absurd h List.not_mem_nil))
    (xNoNew (by decide +kernel))
    (fun as σ q h => by
      unfold fX7_within at h
      split at h
      · exact Nat.le_of_ble_eq_true rfl
      · cases h)
    (fun as σ r σ' h => by
      unfold fX7_within at h
      split at h
      · exact ⟨100000, h⟩
      · cases h)
def tX1_cell : List XE := [(0, .iload_n 1, 1, 0, 0, []), (1, .iconst 0, 1, 0, 0, []), (2, .aload_n 0, 1, 0, 0, []), (3, .getfield 21, 3, 0, 1, []), (6, .iconst 1, 1, 0, 0, []), (7, .isub, 1, 0, 0, []), (8, .invokestatic 25, 3, 51, 0, []), (11, .ifCond .eq 12, 3, 23, 0, []), (14, .iload_n 2, 1, 0, 0, []), (15, .iconst 0, 1, 0, 0, []), (16, .iconst 4, 1, 0, 0, []), (17, .invokestatic 25, 3, 51, 0, []), (20, .ifCond .ne 6, 3, 26, 0, []), (23, .ldc 29, 2, 0, 0, [((-1000000), 0)]), (25, .ireturn, 1, 0, 0, []), (26, .aload_n 0, 1, 0, 0, []), (27, .getfield 11, 3, 0, 0, []), (30, .iload_n 1, 1, 0, 0, []), (31, .iconst 5, 1, 0, 0, []), (32, .imul, 1, 0, 0, []), (33, .iload_n 2, 1, 0, 0, []), (34, .iadd, 1, 0, 0, []), (35, .iaload, 1, 0, 0, []), (36, .ireturn, 1, 0, 0, [])]
theorem tX1_cell_ok : xTblOK RX1 cX1_cell xFX1 3 tX1_cell = true := by decide +kernel
abbrev nX1_cell (X : Nat × (Nat → Int32)) : List (Nat × Nat × Nat × XS) := [(51, 3, 0, fX7_within X)]
def fX1_cell (X : Nat × (Nat → Int32)) : XS := fun as σ => match as with
  | [.inr (.inr (some (0, a0))), .inl a1, .inl a2] => xIter X (xEnv (nX1_cell X)) (fun _ _ => some none) 0 [] tX1_cell 100000 (0, [(0, .inr (.inr (some (0, a0)))), (1, .inl a1), (2, .inl a2)], σ, 0)
  | _ => none
theorem rX1_cell (X : Nat × (Nat → Int32)) : ∀ as σ q, fX1_cell X as σ = some q → ∃ j as', as = xR 0 j :: as' := by
  intro as σ q h
  unfold fX1_cell at h
  split at h
  · exact ⟨_, _, rfl⟩
  · cases h
theorem mX1_cell (l : Launch) (X : Nat × (Nat → Int32)) : xMet l X yX1_cell cX1_cell 3 (some .int) 2 0 (fX1_cell X) :=
  xMet_of (cl := xEnv (nX1_cell X)) (rt := 0) (stops := []) (tbl := tX1_cell) (by decide +kernel) (by decide) tX1_cell_ok x_FX1 rfl (xEnv_ok (L := nX1_cell X) (List.forall_mem_cons.mpr ⟨xCS_N (i := 25) (n := 3) (host := "ValveTwins") (mX7_within l X) (xPk_in [229, 7, 230] (by decide +kernel) (by decide +kernel)) (by decide +kernel) (by decide +kernel) (by decide) (by decide), (fun _ h => absurd h List.not_mem_nil)⟩))
    (xNoNew (by decide +kernel))
    (fun as σ q h => by
      unfold fX1_cell at h
      split at h
      · exact Nat.le_of_ble_eq_true rfl
      · cases h)
    (fun as σ r σ' h => by
      unfold fX1_cell at h
      split at h
      · exact ⟨100000, h⟩
      · cases h)
def tX1_sum : List XE := [(0, .iconst 0, 1, 0, 0, []), (1, .istore_n 3, 1, 0, 0, []), (2, .iconst 0, 1, 0, 0, []), (3, .istore 4, 2, 0, 0, []), (5, .iload 4, 2, 0, 0, []), (7, .aload_n 0, 1, 0, 0, []), (8, .getfield 21, 3, 0, 1, []), (11, .if_icmp .ge 30, 3, 41, 0, []), (14, .aload_n 0, 1, 0, 0, []), (15, .iload 4, 2, 0, 0, []), (17, .iconst 0, 1, 0, 0, []), (18, .invokevirtual 30, 3, 60, 0, []), (21, .iload_n 1, 1, 0, 0, []), (22, .if_icmp .ne 13, 3, 35, 0, []), (25, .iload_n 3, 1, 0, 0, []), (26, .aload_n 0, 1, 0, 0, []), (27, .iload 4, 2, 0, 0, []), (29, .iload_n 2, 1, 0, 0, []), (30, .invokevirtual 30, 3, 60, 0, []), (33, .iadd, 1, 0, 0, []), (34, .istore_n 3, 1, 0, 0, []), (35, .iinc 4 1, 3, 0, 0, []), (38, .goto (-33), 3, 5, 0, []), (41, .iload_n 3, 1, 0, 0, []), (42, .ireturn, 1, 0, 0, [])]
theorem tX1_sum_ok : xTblOK RX1 cX1_sum xFX1 5 tX1_sum = true := by decide +kernel
abbrev nX1_sum (X : Nat × (Nat → Int32)) : List (Nat × Nat × Nat × XS) := [(60, 3, 0, fX1_cell X)]
def fX1_sum (X : Nat × (Nat → Int32)) : XS := fun as σ => match as with
  | [.inr (.inr (some (0, a0))), .inl a1, .inl a2] => xIter X (xEnv (nX1_sum X)) (fun _ _ => some none) 0 [(5, [0, 1, 2, 3, 4])] tX1_sum 100000 (0, [(0, .inr (.inr (some (0, a0)))), (1, .inl a1), (2, .inl a2)], σ, 0)
  | _ => none
theorem rX1_sum (X : Nat × (Nat → Int32)) : ∀ as σ q, fX1_sum X as σ = some q → ∃ j as', as = xR 0 j :: as' := by
  intro as σ q h
  unfold fX1_sum at h
  split at h
  · exact ⟨_, _, rfl⟩
  · cases h
theorem mX1_sum (l : Launch) (X : Nat × (Nat → Int32)) : xMet l X yX1_sum cX1_sum 5 (some .int) 3 0 (fX1_sum X) :=
  xMet_of (cl := xEnv (nX1_sum X)) (rt := 0) (stops := [(5, [0, 1, 2, 3, 4])]) (tbl := tX1_sum) (by decide +kernel) (by decide) tX1_sum_ok x_FX1 rfl (xEnv_ok (L := nX1_sum X) (List.forall_mem_cons.mpr ⟨xCS_V (i := 30) (n := 2) (C := RX1) (k := 0) (mX1_cell l X) (xPk_in [612, 613, 614, 10, 615] (by decide +kernel) (by decide +kernel)) (by decide +kernel) (by decide) rfl (by decide) (by decide) (rX1_cell X), (fun _ h => absurd h List.not_mem_nil)⟩))
    (xNoNew (by decide +kernel))
    (fun as σ q h => by
      unfold fX1_sum at h
      split at h
      · exact Nat.le_of_ble_eq_true rfl
      · cases h)
    (fun as σ r σ' h => by
      unfold fX1_sum at h
      split at h
      · exact ⟨100000, h⟩
      · cases h)
def tX1_find : List XE := [(0, .aload_n 0, 1, 0, 0, []), (1, .getfield 21, 3, 0, 1, []), (4, .iconst 1, 1, 0, 0, []), (5, .isub, 1, 0, 0, []), (6, .istore_n 3, 1, 0, 0, []), (7, .iload_n 3, 1, 0, 0, []), (8, .ifCond .lt 42, 3, 50, 0, []), (11, .iload_n 3, 1, 0, 0, []), (12, .iconst 5, 1, 0, 0, []), (13, .imul, 1, 0, 0, []), (14, .istore 4, 2, 0, 0, []), (16, .aload_n 0, 1, 0, 0, []), (17, .getfield 11, 3, 0, 0, []), (20, .iload 4, 2, 0, 0, []), (22, .iconst 1, 1, 0, 0, []), (23, .iadd, 1, 0, 0, []), (24, .iaload, 1, 0, 0, []), (25, .iload_n 2, 1, 0, 0, []), (26, .if_icmp .ne 18, 3, 44, 0, []), (29, .aload_n 0, 1, 0, 0, []), (30, .getfield 11, 3, 0, 0, []), (33, .iload 4, 2, 0, 0, []), (35, .iconst 0, 1, 0, 0, []), (36, .iadd, 1, 0, 0, []), (37, .iaload, 1, 0, 0, []), (38, .iload_n 1, 1, 0, 0, []), (39, .if_icmp .ne 5, 3, 44, 0, []), (42, .iload_n 3, 1, 0, 0, []), (43, .ireturn, 1, 0, 0, []), (44, .iinc 3 (-1), 3, 0, 0, []), (47, .goto (-40), 3, 7, 0, []), (50, .iconst (-1), 1, 0, 0, []), (51, .ireturn, 1, 0, 0, [])]
theorem tX1_find_ok : xTblOK RX1 cX1_find xFX1 5 tX1_find = true := by decide +kernel
abbrev nX1_find (X : Nat × (Nat → Int32)) : List (Nat × Nat × Nat × XS) := []
def fX1_find (X : Nat × (Nat → Int32)) : XS := fun as σ => match as with
  | [.inr (.inr (some (0, a0))), .inl a1, .inl a2] => xIter X (xEnv (nX1_find X)) (fun _ _ => some none) 0 [(7, [0, 1, 2, 3])] tX1_find 100000 (0, [(0, .inr (.inr (some (0, a0)))), (1, .inl a1), (2, .inl a2)], σ, 0)
  | _ => none
theorem rX1_find (X : Nat × (Nat → Int32)) : ∀ as σ q, fX1_find X as σ = some q → ∃ j as', as = xR 0 j :: as' := by
  intro as σ q h
  unfold fX1_find at h
  split at h
  · exact ⟨_, _, rfl⟩
  · cases h
theorem mX1_find (l : Launch) (X : Nat × (Nat → Int32)) : xMet l X yX1_find cX1_find 5 (some .int) 1 0 (fX1_find X) :=
  xMet_of (cl := xEnv (nX1_find X)) (rt := 0) (stops := [(7, [0, 1, 2, 3])]) (tbl := tX1_find) (by decide +kernel) (by decide) tX1_find_ok x_FX1 rfl (xEnv_ok (L := nX1_find X) (fun _ h => absurd h List.not_mem_nil))
    (xNoNew (by decide +kernel))
    (fun as σ q h => by
      unfold fX1_find at h
      split at h
      · exact Nat.le_of_ble_eq_true rfl
      · cases h)
    (fun as σ r σ' h => by
      unfold fX1_find at h
      split at h
      · exact ⟨100000, h⟩
      · cases h)
def tX1_make : List XE := [(0, .aload_n 0, 1, 0, 0, []), (1, .getfield 21, 3, 0, 1, []), (4, .bipush 12, 2, 0, 0, []), (6, .if_icmp .lt 24, 3, 30, 0, []), (9, .aload_n 0, 1, 0, 0, []), (10, .getfield 11, 3, 0, 0, []), (13, .iconst 5, 1, 0, 0, []), (14, .aload_n 0, 1, 0, 0, []), (15, .getfield 11, 3, 0, 0, []), (18, .iconst 0, 1, 0, 0, []), (19, .bipush 55, 2, 0, 0, []), (21, .invokestatic 15, 3, 31, 1, []), (24, .aload_n 0, 1, 0, 0, []), (25, .bipush 11, 2, 0, 0, []), (27, .putfield 21, 3, 0, 1, []), (30, .aload_n 0, 1, 0, 0, []), (31, .getfield 21, 3, 0, 1, []), (34, .iconst 5, 1, 0, 0, []), (35, .imul, 1, 0, 0, []), (36, .istore_n 3, 1, 0, 0, []), (37, .aload_n 0, 1, 0, 0, []), (38, .getfield 11, 3, 0, 0, []), (41, .iload_n 3, 1, 0, 0, []), (42, .iconst 0, 1, 0, 0, []), (43, .iadd, 1, 0, 0, []), (44, .iload_n 1, 1, 0, 0, []), (45, .iastore, 1, 0, 0, []), (46, .aload_n 0, 1, 0, 0, []), (47, .getfield 11, 3, 0, 0, []), (50, .iload_n 3, 1, 0, 0, []), (51, .iconst 1, 1, 0, 0, []), (52, .iadd, 1, 0, 0, []), (53, .iload_n 2, 1, 0, 0, []), (54, .iastore, 1, 0, 0, []), (55, .aload_n 0, 1, 0, 0, []), (56, .getfield 11, 3, 0, 0, []), (59, .iload_n 3, 1, 0, 0, []), (60, .iconst 2, 1, 0, 0, []), (61, .iadd, 1, 0, 0, []), (62, .iconst 0, 1, 0, 0, []), (63, .iastore, 1, 0, 0, []), (64, .aload_n 0, 1, 0, 0, []), (65, .getfield 11, 3, 0, 0, []), (68, .iload_n 3, 1, 0, 0, []), (69, .iconst 3, 1, 0, 0, []), (70, .iadd, 1, 0, 0, []), (71, .iconst 0, 1, 0, 0, []), (72, .iastore, 1, 0, 0, []), (73, .aload_n 0, 1, 0, 0, []), (74, .getfield 11, 3, 0, 0, []), (77, .iload_n 3, 1, 0, 0, []), (78, .iconst 4, 1, 0, 0, []), (79, .iadd, 1, 0, 0, []), (80, .iconst 0, 1, 0, 0, []), (81, .iastore, 1, 0, 0, []), (82, .aload_n 0, 1, 0, 0, []), (83, .dup, 1, 0, 0, []), (84, .getfield 21, 3, 0, 1, []), (87, .iconst 1, 1, 0, 0, []), (88, .iadd, 1, 0, 0, []), (89, .putfield 21, 3, 0, 1, []), (92, .aload_n 0, 1, 0, 0, []), (93, .getfield 21, 3, 0, 1, []), (96, .iconst 1, 1, 0, 0, []), (97, .isub, 1, 0, 0, []), (98, .ireturn, 1, 0, 0, [])]
theorem tX1_make_ok : xTblOK RX1 cX1_make xFX1 4 tX1_make = true := by decide +kernel
abbrev nX1_make (X : Nat × (Nat → Int32)) : List (Nat × Nat × Nat × XS) := []
def fX1_make (X : Nat × (Nat → Int32)) : XS := fun as σ => match as with
  | [.inr (.inr (some (0, a0))), .inl a1, .inl a2] => xIter X (xEnv (nX1_make X)) (fun _ _ => some none) 0 [] tX1_make 100000 (0, [(0, .inr (.inr (some (0, a0)))), (1, .inl a1), (2, .inl a2)], σ, 0)
  | _ => none
theorem rX1_make (X : Nat × (Nat → Int32)) : ∀ as σ q, fX1_make X as σ = some q → ∃ j as', as = xR 0 j :: as' := by
  intro as σ q h
  unfold fX1_make at h
  split at h
  · exact ⟨_, _, rfl⟩
  · cases h
theorem mX1_make (l : Launch) (X : Nat × (Nat → Int32)) : xMet l X yX1_make cX1_make 4 (some .int) 1 0 (fX1_make X) :=
  xMet_of (cl := xEnv (nX1_make X)) (rt := 0) (stops := []) (tbl := tX1_make) (by decide +kernel) (by decide) tX1_make_ok x_FX1 rfl (xEnv_ok (L := nX1_make X) (fun _ h => absurd h List.not_mem_nil))
    (xNoNew (by decide +kernel))
    (fun as σ q h => by
      unfold fX1_make at h
      split at h
      · exact Nat.le_of_ble_eq_true rfl
      · cases h)
    (fun as σ r σ' h => by
      unfold fX1_make at h
      split at h
      · exact ⟨100000, h⟩
      · cases h)
def tX1_add : List XE := [(0, .aload_n 0, 1, 0, 0, []), (1, .iload_n 1, 1, 0, 0, []), (2, .iload_n 2, 1, 0, 0, []), (3, .invokevirtual 34, 3, 68, 0, []), (6, .istore 6, 2, 0, 0, []), (8, .iload 6, 2, 0, 0, []), (10, .ifCond .ge 11, 3, 21, 0, []), (13, .aload_n 0, 1, 0, 0, []), (14, .iload_n 1, 1, 0, 0, []), (15, .iload_n 2, 1, 0, 0, []), (16, .invokevirtual 37, 3, 74, 0, []), (19, .istore 6, 2, 0, 0, []), (21, .iload 6, 2, 0, 0, []), (23, .iconst 5, 1, 0, 0, []), (24, .imul, 1, 0, 0, []), (25, .istore 7, 2, 0, 0, []), (27, .aload_n 0, 1, 0, 0, []), (28, .getfield 11, 3, 0, 0, []), (31, .iload 7, 2, 0, 0, []), (33, .iconst 2, 1, 0, 0, []), (34, .iadd, 1, 0, 0, []), (35, .dup2, 1, 0, 0, []), (36, .iaload, 1, 0, 0, []), (37, .iload_n 3, 1, 0, 0, []), (38, .iadd, 1, 0, 0, []), (39, .iastore, 1, 0, 0, []), (40, .aload_n 0, 1, 0, 0, []), (41, .getfield 11, 3, 0, 0, []), (44, .iload 7, 2, 0, 0, []), (46, .iconst 3, 1, 0, 0, []), (47, .iadd, 1, 0, 0, []), (48, .dup2, 1, 0, 0, []), (49, .iaload, 1, 0, 0, []), (50, .iload 4, 2, 0, 0, []), (52, .iadd, 1, 0, 0, []), (53, .iastore, 1, 0, 0, []), (54, .aload_n 0, 1, 0, 0, []), (55, .getfield 11, 3, 0, 0, []), (58, .iload 7, 2, 0, 0, []), (60, .iconst 4, 1, 0, 0, []), (61, .iadd, 1, 0, 0, []), (62, .dup2, 1, 0, 0, []), (63, .iaload, 1, 0, 0, []), (64, .iload 5, 2, 0, 0, []), (66, .iadd, 1, 0, 0, []), (67, .iastore, 1, 0, 0, []), (68, .return_, 1, 0, 0, [])]
theorem tX1_add_ok : xTblOK RX1 cX1_add xFX1 8 tX1_add = true := by decide +kernel
abbrev nX1_add (X : Nat × (Nat → Int32)) : List (Nat × Nat × Nat × XS) := [(68, 3, 0, fX1_find X), (74, 3, 0, fX1_make X)]
def fX1_add (X : Nat × (Nat → Int32)) : XS := fun as σ => match as with
  | [.inr (.inr (some (0, a0))), .inl a1, .inl a2, .inl a3, .inl a4, .inl a5] => xIter X (xEnv (nX1_add X)) (fun _ _ => some none) 4 [] tX1_add 100000 (0, [(0, .inr (.inr (some (0, a0)))), (1, .inl a1), (2, .inl a2), (3, .inl a3), (4, .inl a4), (5, .inl a5)], σ, 0)
  | _ => none
theorem rX1_add (X : Nat × (Nat → Int32)) : ∀ as σ q, fX1_add X as σ = some q → ∃ j as', as = xR 0 j :: as' := by
  intro as σ q h
  unfold fX1_add at h
  split at h
  · exact ⟨_, _, rfl⟩
  · cases h
theorem mX1_add (l : Launch) (X : Nat × (Nat → Int32)) : xMet l X yX1_add cX1_add 8 none 2 0 (fX1_add X) :=
  xMet_of (cl := xEnv (nX1_add X)) (rt := 4) (stops := []) (tbl := tX1_add) (by decide +kernel) (by decide) tX1_add_ok x_FX1 rfl (xEnv_ok (L := nX1_add X) (List.forall_mem_cons.mpr ⟨xCS_V (i := 34) (n := 2) (C := RX1) (k := 0) (mX1_find l X) (xPk_in [564, 566, 4, 10, 567] (by decide +kernel) (by decide +kernel)) (by decide +kernel) (by decide) rfl (by decide) (by decide) (rX1_find X), (List.forall_mem_cons.mpr ⟨xCS_V (i := 37) (n := 2) (C := RX1) (k := 0) (mX1_make l X) (xPk_in [568, 570, 5, 10, 571] (by decide +kernel) (by decide +kernel)) (by decide +kernel) (by decide) rfl (by decide) (by decide) (rX1_make X), (fun _ h => absurd h List.not_mem_nil)⟩)⟩))
    (xNoNew (by decide +kernel))
    (fun as σ q h => by
      unfold fX1_add at h
      split at h
      · exact Nat.le_of_ble_eq_true rfl
      · cases h)
    (fun as σ r σ' h => by
      unfold fX1_add at h
      split at h
      · exact ⟨100000, h⟩
      · cases h)
