/-! ===== contracts of the law's plain methods (written by wip/p28/gen/law1.py) ===== -/
def tL_cell : List XE := [(0, .iload_n 1, 1, 0, 0, []), (1, .aload_n 0, 1, 0, 0, []), (2, .arraylength, 1, 0, 0, []), (3, .if_icmp .ge 9, 3, 12, 0, []), (6, .aload_n 0, 1, 0, 0, []), (7, .iload_n 1, 1, 0, 0, []), (8, .iaload, 1, 0, 0, []), (9, .goto 9, 3, 18, 0, []), (12, .ldc 7, 2, 0, 0, [(40503, 0)]), (14, .iload_n 1, 1, 0, 0, []), (15, .iconst 3, 1, 0, 0, []), (16, .iadd, 1, 0, 0, []), (17, .imul, 1, 0, 0, []), (18, .ireturn, 1, 0, 0, [])]
theorem tL_cell_ok : xTblOK RL cL_cell xFL 2 tL_cell = true := by decide +kernel
abbrev nL_cell (X : Nat × (Nat → Int32)) : List (Nat × Nat × Nat × XS) := []
def fL_cell (X : Nat × (Nat → Int32)) : XS := fun as σ => match as with
  | [.inr (.inr (some (15, a0))), .inl a1] => xIter X (xEnv (nL_cell X)) (fun _ _ => some none) 0 [] tL_cell 100000 (0, [(0, .inr (.inr (some (15, a0)))), (1, .inl a1)], σ, 0)
  | _ => none
theorem mL_cell (l : Launch) (X : Nat × (Nat → Int32)) : xMet l X yL_cell cL_cell 2 (some .int) 1 0 (fL_cell X) :=
  xMet_of (cl := xEnv (nL_cell X)) (rt := 0) (stops := []) (tbl := tL_cell) (by decide +kernel) (by decide) tL_cell_ok x_FL rfl (xEnv_ok (L := nL_cell X) (fun _ h => absurd h List.not_mem_nil))
    (xNoNew (by decide +kernel))
    (fun as σ q h => by
      unfold fL_cell at h
      split at h
      · exact Nat.le_of_ble_eq_true rfl
      · cases h)
    (fun as σ r σ' h => by
      unfold fL_cell at h
      split at h
      · exact ⟨100000, h⟩
      · cases h)
def tL_low : List XE := [(0, .iload_n 0, 1, 0, 0, []), (1, .ldc 8, 2, 0, 0, [(2147483647, 0)]), (3, .iand, 1, 0, 0, []), (4, .iload_n 1, 1, 0, 0, []), (5, .irem, 1, 0, 0, []), (6, .ireturn, 1, 0, 0, [])]
theorem tL_low_ok : xTblOK RL cL_low xFL 2 tL_low = true := by decide +kernel
abbrev nL_low (X : Nat × (Nat → Int32)) : List (Nat × Nat × Nat × XS) := []
def fL_low (X : Nat × (Nat → Int32)) : XS := fun as σ => match as with
  | [.inl a0, .inl a1] => xIter X (xEnv (nL_low X)) (fun _ _ => some none) 0 [] tL_low 100000 (0, [(0, .inl a0), (1, .inl a1)], σ, 0)
  | _ => none
theorem mL_low (l : Launch) (X : Nat × (Nat → Int32)) : xMet l X yL_low cL_low 2 (some .int) 1 0 (fL_low X) :=
  xMet_of (cl := xEnv (nL_low X)) (rt := 0) (stops := []) (tbl := tL_low) (by decide +kernel) (by decide) tL_low_ok x_FL rfl (xEnv_ok (L := nL_low X) (fun _ h => absurd h List.not_mem_nil))
    (xNoNew (by decide +kernel))
    (fun as σ q h => by
      unfold fL_low at h
      split at h
      · exact Nat.le_of_ble_eq_true rfl
      · cases h)
    (fun as σ r σ' h => by
      unfold fL_low at h
      split at h
      · exact ⟨100000, h⟩
      · cases h)
def tL_down : List XE := [(0, .iload_n 0, 1, 0, 0, []), (1, .iload_n 1, 1, 0, 0, []), (2, .idiv, 1, 0, 0, []), (3, .istore_n 2, 1, 0, 0, []), (4, .iload_n 2, 1, 0, 0, []), (5, .iload_n 1, 1, 0, 0, []), (6, .imul, 1, 0, 0, []), (7, .iload_n 0, 1, 0, 0, []), (8, .if_icmp .le 9, 3, 17, 0, []), (11, .iload_n 2, 1, 0, 0, []), (12, .iconst 1, 1, 0, 0, []), (13, .isub, 1, 0, 0, []), (14, .goto 4, 3, 18, 0, []), (17, .iload_n 2, 1, 0, 0, []), (18, .ireturn, 1, 0, 0, [])]
theorem tL_down_ok : xTblOK RL cL_down xFL 3 tL_down = true := by decide +kernel
abbrev nL_down (X : Nat × (Nat → Int32)) : List (Nat × Nat × Nat × XS) := []
def fL_down (X : Nat × (Nat → Int32)) : XS := fun as σ => match as with
  | [.inl a0, .inl a1] => xIter X (xEnv (nL_down X)) (fun _ _ => some none) 0 [] tL_down 100000 (0, [(0, .inl a0), (1, .inl a1)], σ, 0)
  | _ => none
theorem mL_down (l : Launch) (X : Nat × (Nat → Int32)) : xMet l X yL_down cL_down 3 (some .int) 1 0 (fL_down X) :=
  xMet_of (cl := xEnv (nL_down X)) (rt := 0) (stops := []) (tbl := tL_down) (by decide +kernel) (by decide) tL_down_ok x_FL rfl (xEnv_ok (L := nL_down X) (fun _ h => absurd h List.not_mem_nil))
    (xNoNew (by decide +kernel))
    (fun as σ q h => by
      unfold fL_down at h
      split at h
      · exact Nat.le_of_ble_eq_true rfl
      · cases h)
    (fun as σ r σ' h => by
      unfold fL_down at h
      split at h
      · exact ⟨100000, h⟩
      · cases h)
def tL_near : List XE := [(0, .iload_n 0, 1, 0, 0, []), (1, .iload_n 1, 1, 0, 0, []), (2, .if_icmp .le 7, 3, 9, 0, []), (5, .iload_n 0, 1, 0, 0, []), (6, .goto 4, 3, 10, 0, []), (9, .iload_n 1, 1, 0, 0, []), (10, .istore_n 3, 1, 0, 0, []), (11, .iload_n 3, 1, 0, 0, []), (12, .iload_n 2, 1, 0, 0, []), (13, .if_icmp .ge 7, 3, 20, 0, []), (16, .iload_n 3, 1, 0, 0, []), (17, .goto 4, 3, 21, 0, []), (20, .iload_n 2, 1, 0, 0, []), (21, .ireturn, 1, 0, 0, [])]
theorem tL_near_ok : xTblOK RL cL_near xFL 4 tL_near = true := by decide +kernel
abbrev nL_near (X : Nat × (Nat → Int32)) : List (Nat × Nat × Nat × XS) := []
def fL_near (X : Nat × (Nat → Int32)) : XS := fun as σ => match as with
  | [.inl a0, .inl a1, .inl a2] => xIter X (xEnv (nL_near X)) (fun _ _ => some none) 0 [] tL_near 100000 (0, [(0, .inl a0), (1, .inl a1), (2, .inl a2)], σ, 0)
  | _ => none
theorem mL_near (l : Launch) (X : Nat × (Nat → Int32)) : xMet l X yL_near cL_near 4 (some .int) 1 0 (fL_near X) :=
  xMet_of (cl := xEnv (nL_near X)) (rt := 0) (stops := []) (tbl := tL_near) (by decide +kernel) (by decide) tL_near_ok x_FL rfl (xEnv_ok (L := nL_near X) (fun _ h => absurd h List.not_mem_nil))
    (xNoNew (by decide +kernel))
    (fun as σ q h => by
      unfold fL_near at h
      split at h
      · exact Nat.le_of_ble_eq_true rfl
      · cases h)
    (fun as σ r σ' h => by
      unfold fL_near at h
      split at h
      · exact ⟨100000, h⟩
      · cases h)
def tL_demand : List XE := [(0, .aload_n 0, 1, 0, 0, []), (1, .bipush 16, 2, 0, 0, []), (3, .iload_n 1, 1, 0, 0, []), (4, .imul, 1, 0, 0, []), (5, .iconst 5, 1, 0, 0, []), (6, .iadd, 1, 0, 0, []), (7, .iaload, 1, 0, 0, []), (8, .istore_n 3, 1, 0, 0, []), (9, .sipush 1000, 3, 0, 0, []), (12, .iload_n 2, 1, 0, 0, []), (13, .iload_n 3, 1, 0, 0, []), (14, .isub, 1, 0, 0, []), (15, .imul, 1, 0, 0, []), (16, .aload_n 0, 1, 0, 0, []), (17, .bipush 16, 2, 0, 0, []), (19, .iload_n 1, 1, 0, 0, []), (20, .imul, 1, 0, 0, []), (21, .bipush 6, 2, 0, 0, []), (23, .iadd, 1, 0, 0, []), (24, .iaload, 1, 0, 0, []), (25, .iload_n 3, 1, 0, 0, []), (26, .isub, 1, 0, 0, []), (27, .invokestatic 9, 3, 19, 0, []), (30, .iconst 0, 1, 0, 0, []), (31, .sipush 1000, 3, 0, 0, []), (34, .invokestatic 15, 3, 31, 0, []), (37, .istore 4, 2, 0, 0, []), (39, .aload_n 0, 1, 0, 0, []), (40, .bipush 16, 2, 0, 0, []), (42, .iload_n 1, 1, 0, 0, []), (43, .imul, 1, 0, 0, []), (44, .bipush 7, 2, 0, 0, []), (46, .iadd, 1, 0, 0, []), (47, .iaload, 1, 0, 0, []), (48, .ifCond .ne 8, 3, 56, 0, []), (51, .iload 4, 2, 0, 0, []), (53, .goto 9, 3, 62, 0, []), (56, .sipush 1000, 3, 0, 0, []), (59, .iload 4, 2, 0, 0, []), (61, .isub, 1, 0, 0, []), (62, .ireturn, 1, 0, 0, [])]
theorem tL_demand_ok : xTblOK RL cL_demand xFL 5 tL_demand = true := by decide +kernel
abbrev nL_demand (X : Nat × (Nat → Int32)) : List (Nat × Nat × Nat × XS) := [(19, 2, 0, fL_down X), (31, 3, 0, fL_near X)]
def fL_demand (X : Nat × (Nat → Int32)) : XS := fun as σ => match as with
  | [.inr (.inr (some (9, a0))), .inl a1, .inl a2] => xIter X (xEnv (nL_demand X)) (fun _ _ => some none) 0 [] tL_demand 100000 (0, [(0, .inr (.inr (some (9, a0)))), (1, .inl a1), (2, .inl a2)], σ, 0)
  | _ => none
theorem mL_demand (l : Launch) (X : Nat × (Nat → Int32)) : xMet l X yL_demand cL_demand 5 (some .int) 2 0 (fL_demand X) :=
  xMet_of (cl := xEnv (nL_demand X)) (rt := 0) (stops := []) (tbl := tL_demand) (by decide +kernel) (by decide) tL_demand_ok x_FL rfl (xEnv_ok (L := nL_demand X) (List.forall_mem_cons.mpr ⟨xCS_S (i := 9) (n := 2) (mL_down l X) (xPk_in [474, 475, 6, 476] (by decide +kernel) (by decide +kernel)) (by decide +kernel) (by decide) (by decide), (List.forall_mem_cons.mpr ⟨xCS_S (i := 15) (n := 3) (mL_near l X) (xPk_in [477, 478, 6, 479] (by decide +kernel) (by decide +kernel)) (by decide +kernel) (by decide) (by decide), (fun _ h => absurd h List.not_mem_nil)⟩)⟩))
    (xNoNew (by decide +kernel))
    (fun as σ q h => by
      unfold fL_demand at h
      split at h
      · exact Nat.le_of_ble_eq_true rfl
      · cases h)
    (fun as σ r σ' h => by
      unfold fL_demand at h
      split at h
      · exact ⟨100000, h⟩
      · cases h)
def tL_wear : List XE := [(0, .aload_n 0, 1, 0, 0, []), (1, .bipush 16, 2, 0, 0, []), (3, .iload_n 1, 1, 0, 0, []), (4, .imul, 1, 0, 0, []), (5, .bipush 11, 2, 0, 0, []), (7, .iadd, 1, 0, 0, []), (8, .iaload, 1, 0, 0, []), (9, .bipush 100, 2, 0, 0, []), (11, .idiv, 1, 0, 0, []), (12, .iconst 3, 1, 0, 0, []), (13, .aload_n 0, 1, 0, 0, []), (14, .bipush 16, 2, 0, 0, []), (16, .iload_n 1, 1, 0, 0, []), (17, .imul, 1, 0, 0, []), (18, .bipush 12, 2, 0, 0, []), (20, .iadd, 1, 0, 0, []), (21, .iaload, 1, 0, 0, []), (22, .imul, 1, 0, 0, []), (23, .iadd, 1, 0, 0, []), (24, .ireturn, 1, 0, 0, [])]
theorem tL_wear_ok : xTblOK RL cL_wear xFL 2 tL_wear = true := by decide +kernel
abbrev nL_wear (X : Nat × (Nat → Int32)) : List (Nat × Nat × Nat × XS) := []
def fL_wear (X : Nat × (Nat → Int32)) : XS := fun as σ => match as with
  | [.inr (.inr (some (9, a0))), .inl a1] => xIter X (xEnv (nL_wear X)) (fun _ _ => some none) 0 [] tL_wear 100000 (0, [(0, .inr (.inr (some (9, a0)))), (1, .inl a1)], σ, 0)
  | _ => none
theorem mL_wear (l : Launch) (X : Nat × (Nat → Int32)) : xMet l X yL_wear cL_wear 2 (some .int) 1 0 (fL_wear X) :=
  xMet_of (cl := xEnv (nL_wear X)) (rt := 0) (stops := []) (tbl := tL_wear) (by decide +kernel) (by decide) tL_wear_ok x_FL rfl (xEnv_ok (L := nL_wear X) (fun _ h => absurd h List.not_mem_nil))
    (xNoNew (by decide +kernel))
    (fun as σ q h => by
      unfold fL_wear at h
      split at h
      · exact Nat.le_of_ble_eq_true rfl
      · cases h)
    (fun as σ r σ' h => by
      unfold fL_wear at h
      split at h
      · exact ⟨100000, h⟩
      · cases h)
def tL_hurdle : List XE := [(0, .aload_n 0, 1, 0, 0, []), (1, .bipush 16, 2, 0, 0, []), (3, .iload_n 1, 1, 0, 0, []), (4, .imul, 1, 0, 0, []), (5, .bipush 9, 2, 0, 0, []), (7, .iadd, 1, 0, 0, []), (8, .iaload, 1, 0, 0, []), (9, .istore_n 3, 1, 0, 0, []), (10, .aload_n 0, 1, 0, 0, []), (11, .bipush 16, 2, 0, 0, []), (13, .iload_n 1, 1, 0, 0, []), (14, .imul, 1, 0, 0, []), (15, .iconst 1, 1, 0, 0, []), (16, .iadd, 1, 0, 0, []), (17, .iaload, 1, 0, 0, []), (18, .aload_n 0, 1, 0, 0, []), (19, .iload_n 1, 1, 0, 0, []), (20, .invokestatic 19, 3, 39, 0, []), (23, .bipush 50, 2, 0, 0, []), (25, .idiv, 1, 0, 0, []), (26, .iadd, 1, 0, 0, []), (27, .istore 4, 2, 0, 0, []), (29, .iload 4, 2, 0, 0, []), (31, .iload_n 2, 1, 0, 0, []), (32, .iload_n 3, 1, 0, 0, []), (33, .imul, 1, 0, 0, []), (34, .ifCond .ge 14, 3, 48, 0, []), (37, .aload_n 0, 1, 0, 0, []), (38, .bipush 16, 2, 0, 0, []), (40, .iload_n 1, 1, 0, 0, []), (41, .imul, 1, 0, 0, []), (42, .iconst 2, 1, 0, 0, []), (43, .iadd, 1, 0, 0, []), (44, .iaload, 1, 0, 0, []), (45, .goto 4, 3, 49, 0, []), (48, .iconst 0, 1, 0, 0, []), (49, .iadd, 1, 0, 0, []), (50, .istore 4, 2, 0, 0, []), (52, .aload_n 0, 1, 0, 0, []), (53, .bipush 16, 2, 0, 0, []), (55, .iload_n 1, 1, 0, 0, []), (56, .imul, 1, 0, 0, []), (57, .bipush 10, 2, 0, 0, []), (59, .iadd, 1, 0, 0, []), (60, .iaload, 1, 0, 0, []), (61, .iconst 1, 1, 0, 0, []), (62, .if_icmp .ne 12, 3, 74, 0, []), (65, .iload_n 3, 1, 0, 0, []), (66, .iload_n 2, 1, 0, 0, []), (67, .if_icmp .ne 7, 3, 74, 0, []), (70, .iconst 0, 1, 0, 0, []), (71, .goto 5, 3, 76, 0, []), (74, .iload 4, 2, 0, 0, []), (76, .ireturn, 1, 0, 0, [])]
theorem tL_hurdle_ok : xTblOK RL cL_hurdle xFL 5 tL_hurdle = true := by decide +kernel
abbrev nL_hurdle (X : Nat × (Nat → Int32)) : List (Nat × Nat × Nat × XS) := [(39, 2, 0, fL_wear X)]
def fL_hurdle (X : Nat × (Nat → Int32)) : XS := fun as σ => match as with
  | [.inr (.inr (some (9, a0))), .inl a1, .inl a2] => xIter X (xEnv (nL_hurdle X)) (fun _ _ => some none) 0 [] tL_hurdle 100000 (0, [(0, .inr (.inr (some (9, a0)))), (1, .inl a1), (2, .inl a2)], σ, 0)
  | _ => none
theorem mL_hurdle (l : Launch) (X : Nat × (Nat → Int32)) : xMet l X yL_hurdle cL_hurdle 5 (some .int) 2 0 (fL_hurdle X) :=
  xMet_of (cl := xEnv (nL_hurdle X)) (rt := 0) (stops := []) (tbl := tL_hurdle) (by decide +kernel) (by decide) tL_hurdle_ok x_FL rfl (xEnv_ok (L := nL_hurdle X) (List.forall_mem_cons.mpr ⟨xCS_S (i := 19) (n := 2) (mL_wear l X) (xPk_in [451, 452, 6, 453] (by decide +kernel) (by decide +kernel)) (by decide +kernel) (by decide) (by decide), (fun _ h => absurd h List.not_mem_nil)⟩))
    (xNoNew (by decide +kernel))
    (fun as σ q h => by
      unfold fL_hurdle at h
      split at h
      · exact Nat.le_of_ble_eq_true rfl
      · cases h)
    (fun as σ r σ' h => by
      unfold fL_hurdle at h
      split at h
      · exact ⟨100000, h⟩
      · cases h)
def tL_step : List XE := [(0, .aload_n 0, 1, 0, 0, []), (1, .iload_n 1, 1, 0, 0, []), (2, .iload_n 2, 1, 0, 0, []), (3, .invokestatic 23, 3, 47, 0, []), (6, .aload_n 0, 1, 0, 0, []), (7, .bipush 16, 2, 0, 0, []), (9, .iload_n 1, 1, 0, 0, []), (10, .imul, 1, 0, 0, []), (11, .bipush 8, 2, 0, 0, []), (13, .iadd, 1, 0, 0, []), (14, .iaload, 1, 0, 0, []), (15, .isub, 1, 0, 0, []), (16, .istore_n 3, 1, 0, 0, []), (17, .aload_n 0, 1, 0, 0, []), (18, .bipush 16, 2, 0, 0, []), (20, .iload_n 1, 1, 0, 0, []), (21, .imul, 1, 0, 0, []), (22, .iaload, 1, 0, 0, []), (23, .istore 4, 2, 0, 0, []), (25, .iload_n 3, 1, 0, 0, []), (26, .aload_n 0, 1, 0, 0, []), (27, .iload_n 1, 1, 0, 0, []), (28, .iconst 1, 1, 0, 0, []), (29, .invokestatic 27, 3, 55, 0, []), (32, .if_icmp .le 16, 3, 48, 0, []), (35, .iload_n 3, 1, 0, 0, []), (36, .iload 4, 2, 0, 0, []), (38, .if_icmp .le 8, 3, 46, 0, []), (41, .iload 4, 2, 0, 0, []), (43, .goto 4, 3, 47, 0, []), (46, .iload_n 3, 1, 0, 0, []), (47, .ireturn, 1, 0, 0, []), (48, .iload_n 3, 1, 0, 0, []), (49, .ifCond .ge 31, 3, 80, 0, []), (52, .iload_n 3, 1, 0, 0, []), (53, .ineg, 1, 0, 0, []), (54, .aload_n 0, 1, 0, 0, []), (55, .iload_n 1, 1, 0, 0, []), (56, .iconst (-1), 1, 0, 0, []), (57, .invokestatic 27, 3, 55, 0, []), (60, .if_icmp .le 20, 3, 80, 0, []), (63, .iload_n 3, 1, 0, 0, []), (64, .iload 4, 2, 0, 0, []), (66, .ineg, 1, 0, 0, []), (67, .if_icmp .ge 9, 3, 76, 0, []), (70, .iload 4, 2, 0, 0, []), (72, .ineg, 1, 0, 0, []), (73, .goto 8, 3, 81, 0, []), (76, .iload_n 3, 1, 0, 0, []), (77, .goto 4, 3, 81, 0, []), (80, .iconst 0, 1, 0, 0, []), (81, .ireturn, 1, 0, 0, [])]
theorem tL_step_ok : xTblOK RL cL_step xFL 5 tL_step = true := by decide +kernel
abbrev nL_step (X : Nat × (Nat → Int32)) : List (Nat × Nat × Nat × XS) := [(47, 3, 0, fL_demand X), (55, 3, 0, fL_hurdle X)]
def fL_step (X : Nat × (Nat → Int32)) : XS := fun as σ => match as with
  | [.inr (.inr (some (9, a0))), .inl a1, .inl a2] => xIter X (xEnv (nL_step X)) (fun _ _ => some none) 0 [] tL_step 100000 (0, [(0, .inr (.inr (some (9, a0)))), (1, .inl a1), (2, .inl a2)], σ, 0)
  | _ => none
theorem mL_step (l : Launch) (X : Nat × (Nat → Int32)) : xMet l X yL_step cL_step 5 (some .int) 3 0 (fL_step X) :=
  xMet_of (cl := xEnv (nL_step X)) (rt := 0) (stops := []) (tbl := tL_step) (by decide +kernel) (by decide) tL_step_ok x_FL rfl (xEnv_ok (L := nL_step X) (List.forall_mem_cons.mpr ⟨xCS_S (i := 23) (n := 3) (mL_demand l X) (xPk_in [483, 484, 6, 485] (by decide +kernel) (by decide +kernel)) (by decide +kernel) (by decide) (by decide), (List.forall_mem_cons.mpr ⟨xCS_S (i := 27) (n := 3) (mL_hurdle l X) (xPk_in [486, 487, 6, 488] (by decide +kernel) (by decide +kernel)) (by decide +kernel) (by decide) (by decide), (fun _ h => absurd h List.not_mem_nil)⟩)⟩))
    (xNoNew (by decide +kernel))
    (fun as σ q h => by
      unfold fL_step at h
      split at h
      · exact Nat.le_of_ble_eq_true rfl
      · cases h)
    (fun as σ r σ' h => by
      unfold fL_step at h
      split at h
      · exact ⟨100000, h⟩
      · cases h)
def tL_open : List XE := [(0, .aload_n 0, 1, 0, 0, []), (1, .bipush 16, 2, 0, 0, []), (3, .iload_n 1, 1, 0, 0, []), (4, .imul, 1, 0, 0, []), (5, .iconst 4, 1, 0, 0, []), (6, .iadd, 1, 0, 0, []), (7, .iaload, 1, 0, 0, []), (8, .istore_n 3, 1, 0, 0, []), (9, .iload_n 3, 1, 0, 0, []), (10, .iconst 1, 1, 0, 0, []), (11, .if_icmp .ne 13, 3, 24, 0, []), (14, .iload_n 2, 1, 0, 0, []), (15, .iload_n 2, 1, 0, 0, []), (16, .imul, 1, 0, 0, []), (17, .sipush 1000, 3, 0, 0, []), (20, .idiv, 1, 0, 0, []), (21, .goto 31, 3, 52, 0, []), (24, .iload_n 3, 1, 0, 0, []), (25, .iconst 2, 1, 0, 0, []), (26, .if_icmp .ne 25, 3, 51, 0, []), (29, .sipush 1000, 3, 0, 0, []), (32, .sipush 1000, 3, 0, 0, []), (35, .iload_n 2, 1, 0, 0, []), (36, .isub, 1, 0, 0, []), (37, .sipush 1000, 3, 0, 0, []), (40, .iload_n 2, 1, 0, 0, []), (41, .isub, 1, 0, 0, []), (42, .imul, 1, 0, 0, []), (43, .sipush 1000, 3, 0, 0, []), (46, .idiv, 1, 0, 0, []), (47, .isub, 1, 0, 0, []), (48, .goto 4, 3, 52, 0, []), (51, .iload_n 2, 1, 0, 0, []), (52, .istore 4, 2, 0, 0, []), (54, .aload_n 0, 1, 0, 0, []), (55, .bipush 16, 2, 0, 0, []), (57, .iload_n 1, 1, 0, 0, []), (58, .imul, 1, 0, 0, []), (59, .iconst 3, 1, 0, 0, []), (60, .iadd, 1, 0, 0, []), (61, .iaload, 1, 0, 0, []), (62, .iload 4, 2, 0, 0, []), (64, .imul, 1, 0, 0, []), (65, .sipush 1000, 3, 0, 0, []), (68, .idiv, 1, 0, 0, []), (69, .ireturn, 1, 0, 0, [])]
theorem tL_open_ok : xTblOK RL cL_open xFL 5 tL_open = true := by decide +kernel
abbrev nL_open (X : Nat × (Nat → Int32)) : List (Nat × Nat × Nat × XS) := []
def fL_open (X : Nat × (Nat → Int32)) : XS := fun as σ => match as with
  | [.inr (.inr (some (9, a0))), .inl a1, .inl a2] => xIter X (xEnv (nL_open X)) (fun _ _ => some none) 0 [] tL_open 100000 (0, [(0, .inr (.inr (some (9, a0)))), (1, .inl a1), (2, .inl a2)], σ, 0)
  | _ => none
theorem mL_open (l : Launch) (X : Nat × (Nat → Int32)) : xMet l X yL_open cL_open 5 (some .int) 1 0 (fL_open X) :=
  xMet_of (cl := xEnv (nL_open X)) (rt := 0) (stops := []) (tbl := tL_open) (by decide +kernel) (by decide) tL_open_ok x_FL rfl (xEnv_ok (L := nL_open X) (fun _ h => absurd h List.not_mem_nil))
    (xNoNew (by decide +kernel))
    (fun as σ q h => by
      unfold fL_open at h
      split at h
      · exact Nat.le_of_ble_eq_true rfl
      · cases h)
    (fun as σ r σ' h => by
      unfold fL_open at h
      split at h
      · exact ⟨100000, h⟩
      · cases h)
def tL_flow : List XE := [(0, .aload_n 0, 1, 0, 0, []), (1, .bipush 16, 2, 0, 0, []), (3, .iload_n 1, 1, 0, 0, []), (4, .imul, 1, 0, 0, []), (5, .bipush 8, 2, 0, 0, []), (7, .iadd, 1, 0, 0, []), (8, .iaload, 1, 0, 0, []), (9, .istore_n 2, 1, 0, 0, []), (10, .aload_n 0, 1, 0, 0, []), (11, .iload_n 1, 1, 0, 0, []), (12, .invokestatic 19, 3, 39, 0, []), (15, .bipush 20, 2, 0, 0, []), (17, .idiv, 1, 0, 0, []), (18, .istore_n 3, 1, 0, 0, []), (19, .iload_n 2, 1, 0, 0, []), (20, .ifCond .le 12, 3, 32, 0, []), (23, .aload_n 0, 1, 0, 0, []), (24, .iload_n 1, 1, 0, 0, []), (25, .iload_n 2, 1, 0, 0, []), (26, .invokestatic 30, 3, 61, 0, []), (29, .goto 27, 3, 56, 0, []), (32, .iload_n 3, 1, 0, 0, []), (33, .aload_n 0, 1, 0, 0, []), (34, .bipush 16, 2, 0, 0, []), (36, .iload_n 1, 1, 0, 0, []), (37, .imul, 1, 0, 0, []), (38, .iconst 3, 1, 0, 0, []), (39, .iadd, 1, 0, 0, []), (40, .iaload, 1, 0, 0, []), (41, .if_icmp .le 14, 3, 55, 0, []), (44, .aload_n 0, 1, 0, 0, []), (45, .bipush 16, 2, 0, 0, []), (47, .iload_n 1, 1, 0, 0, []), (48, .imul, 1, 0, 0, []), (49, .iconst 3, 1, 0, 0, []), (50, .iadd, 1, 0, 0, []), (51, .iaload, 1, 0, 0, []), (52, .goto 4, 3, 56, 0, []), (55, .iload_n 3, 1, 0, 0, []), (56, .ireturn, 1, 0, 0, [])]
theorem tL_flow_ok : xTblOK RL cL_flow xFL 4 tL_flow = true := by decide +kernel
abbrev nL_flow (X : Nat × (Nat → Int32)) : List (Nat × Nat × Nat × XS) := [(39, 2, 0, fL_wear X), (61, 3, 0, fL_open X)]
def fL_flow (X : Nat × (Nat → Int32)) : XS := fun as σ => match as with
  | [.inr (.inr (some (9, a0))), .inl a1] => xIter X (xEnv (nL_flow X)) (fun _ _ => some none) 0 [] tL_flow 100000 (0, [(0, .inr (.inr (some (9, a0)))), (1, .inl a1)], σ, 0)
  | _ => none
theorem mL_flow (l : Launch) (X : Nat × (Nat → Int32)) : xMet l X yL_flow cL_flow 4 (some .int) 2 0 (fL_flow X) :=
  xMet_of (cl := xEnv (nL_flow X)) (rt := 0) (stops := []) (tbl := tL_flow) (by decide +kernel) (by decide) tL_flow_ok x_FL rfl (xEnv_ok (L := nL_flow X) (List.forall_mem_cons.mpr ⟨xCS_S (i := 19) (n := 2) (mL_wear l X) (xPk_in [451, 452, 6, 453] (by decide +kernel) (by decide +kernel)) (by decide +kernel) (by decide) (by decide), (List.forall_mem_cons.mpr ⟨xCS_S (i := 30) (n := 3) (mL_open l X) (xPk_in [471, 472, 6, 473] (by decide +kernel) (by decide +kernel)) (by decide +kernel) (by decide) (by decide), (fun _ h => absurd h List.not_mem_nil)⟩)⟩))
    (xNoNew (by decide +kernel))
    (fun as σ q h => by
      unfold fL_flow at h
      split at h
      · exact Nat.le_of_ble_eq_true rfl
      · cases h)
    (fun as σ r σ' h => by
      unfold fL_flow at h
      split at h
      · exact ⟨100000, h⟩
      · cases h)
def tL_ideal : List XE := [(0, .aload_n 0, 1, 0, 0, []), (1, .iconst 0, 1, 0, 0, []), (2, .iload_n 1, 1, 0, 0, []), (3, .invokestatic 23, 3, 47, 0, []), (6, .istore_n 2, 1, 0, 0, []), (7, .aload_n 0, 1, 0, 0, []), (8, .iconst 1, 1, 0, 0, []), (9, .iload_n 1, 1, 0, 0, []), (10, .invokestatic 23, 3, 47, 0, []), (13, .istore_n 3, 1, 0, 0, []), (14, .iload_n 2, 1, 0, 0, []), (15, .ifCond .le 12, 3, 27, 0, []), (18, .aload_n 0, 1, 0, 0, []), (19, .iconst 0, 1, 0, 0, []), (20, .iload_n 2, 1, 0, 0, []), (21, .invokestatic 30, 3, 61, 0, []), (24, .goto 4, 3, 28, 0, []), (27, .iconst 0, 1, 0, 0, []), (28, .iload_n 3, 1, 0, 0, []), (29, .ifCond .le 12, 3, 41, 0, []), (32, .aload_n 0, 1, 0, 0, []), (33, .iconst 1, 1, 0, 0, []), (34, .iload_n 3, 1, 0, 0, []), (35, .invokestatic 30, 3, 61, 0, []), (38, .goto 4, 3, 42, 0, []), (41, .iconst 0, 1, 0, 0, []), (42, .iadd, 1, 0, 0, []), (43, .ireturn, 1, 0, 0, [])]
theorem tL_ideal_ok : xTblOK RL cL_ideal xFL 4 tL_ideal = true := by decide +kernel
abbrev nL_ideal (X : Nat × (Nat → Int32)) : List (Nat × Nat × Nat × XS) := [(47, 3, 0, fL_demand X), (61, 3, 0, fL_open X)]
def fL_ideal (X : Nat × (Nat → Int32)) : XS := fun as σ => match as with
  | [.inr (.inr (some (9, a0))), .inl a1] => xIter X (xEnv (nL_ideal X)) (fun _ _ => some none) 0 [] tL_ideal 100000 (0, [(0, .inr (.inr (some (9, a0)))), (1, .inl a1)], σ, 0)
  | _ => none
theorem mL_ideal (l : Launch) (X : Nat × (Nat → Int32)) : xMet l X yL_ideal cL_ideal 4 (some .int) 3 0 (fL_ideal X) :=
  xMet_of (cl := xEnv (nL_ideal X)) (rt := 0) (stops := []) (tbl := tL_ideal) (by decide +kernel) (by decide) tL_ideal_ok x_FL rfl (xEnv_ok (L := nL_ideal X) (List.forall_mem_cons.mpr ⟨xCS_S (i := 23) (n := 3) (mL_demand l X) (xPk_in [483, 484, 6, 485] (by decide +kernel) (by decide +kernel)) (by decide +kernel) (by decide) (by decide), (List.forall_mem_cons.mpr ⟨xCS_S (i := 30) (n := 3) (mL_open l X) (xPk_in [471, 472, 6, 473] (by decide +kernel) (by decide +kernel)) (by decide +kernel) (by decide) (by decide), (fun _ h => absurd h List.not_mem_nil)⟩)⟩))
    (xNoNew (by decide +kernel))
    (fun as σ q h => by
      unfold fL_ideal at h
      split at h
      · exact Nat.le_of_ble_eq_true rfl
      · cases h)
    (fun as σ r σ' h => by
      unfold fL_ideal at h
      split at h
      · exact ⟨100000, h⟩
      · cases h)
def tL_entry : List XE := [(0, .iconst (-1), 1, 0, 0, []), (1, .istore 4, 2, 0, 0, []), (3, .iconst 0, 1, 0, 0, []), (4, .istore 5, 2, 0, 0, []), (6, .iload 5, 2, 0, 0, []), (8, .aload_n 0, 1, 0, 0, []), (9, .bipush 9, 2, 0, 0, []), (11, .iaload, 1, 0, 0, []), (12, .if_icmp .ge 42, 3, 54, 0, []), (15, .aload_n 1, 1, 0, 0, []), (16, .iconst 5, 1, 0, 0, []), (17, .iload 5, 2, 0, 0, []), (19, .imul, 1, 0, 0, []), (20, .iaload, 1, 0, 0, []), (21, .iload_n 2, 1, 0, 0, []), (22, .if_icmp .ne 22, 3, 44, 0, []), (25, .aload_n 1, 1, 0, 0, []), (26, .iconst 5, 1, 0, 0, []), (27, .iload 5, 2, 0, 0, []), (29, .imul, 1, 0, 0, []), (30, .iconst 1, 1, 0, 0, []), (31, .iadd, 1, 0, 0, []), (32, .iaload, 1, 0, 0, []), (33, .iload_n 3, 1, 0, 0, []), (34, .if_icmp .ne 10, 3, 44, 0, []), (37, .iconst 5, 1, 0, 0, []), (38, .iload 5, 2, 0, 0, []), (40, .imul, 1, 0, 0, []), (41, .goto 5, 3, 46, 0, []), (44, .iload 4, 2, 0, 0, []), (46, .istore 4, 2, 0, 0, []), (48, .iinc 5 1, 3, 0, 0, []), (51, .goto (-45), 3, 6, 0, []), (54, .iload 4, 2, 0, 0, []), (56, .ifCond .lt 6, 3, 62, 0, []), (59, .iload 4, 2, 0, 0, []), (61, .ireturn, 1, 0, 0, []), (62, .aload_n 0, 1, 0, 0, []), (63, .bipush 9, 2, 0, 0, []), (65, .iaload, 1, 0, 0, []), (66, .bipush 12, 2, 0, 0, []), (68, .if_icmp .ne 37, 3, 105, 0, []), (71, .aload_n 0, 1, 0, 0, []), (72, .bipush 9, 2, 0, 0, []), (74, .dup2, 1, 0, 0, []), (75, .iaload, 1, 0, 0, []), (76, .iconst 1, 1, 0, 0, []), (77, .isub, 1, 0, 0, []), (78, .iastore, 1, 0, 0, []), (79, .iconst 0, 1, 0, 0, []), (80, .istore 5, 2, 0, 0, []), (82, .iload 5, 2, 0, 0, []), (84, .bipush 55, 2, 0, 0, []), (86, .if_icmp .ge 19, 3, 105, 0, []), (89, .aload_n 1, 1, 0, 0, []), (90, .iload 5, 2, 0, 0, []), (92, .aload_n 1, 1, 0, 0, []), (93, .iload 5, 2, 0, 0, []), (95, .iconst 5, 1, 0, 0, []), (96, .iadd, 1, 0, 0, []), (97, .iaload, 1, 0, 0, []), (98, .iastore, 1, 0, 0, []), (99, .iinc 5 1, 3, 0, 0, []), (102, .goto (-20), 3, 82, 0, []), (105, .iconst 5, 1, 0, 0, []), (106, .aload_n 0, 1, 0, 0, []), (107, .bipush 9, 2, 0, 0, []), (109, .iaload, 1, 0, 0, []), (110, .imul, 1, 0, 0, []), (111, .istore 4, 2, 0, 0, []), (113, .aload_n 1, 1, 0, 0, []), (114, .iload 4, 2, 0, 0, []), (116, .iload_n 2, 1, 0, 0, []), (117, .iastore, 1, 0, 0, []), (118, .aload_n 1, 1, 0, 0, []), (119, .iload 4, 2, 0, 0, []), (121, .iconst 1, 1, 0, 0, []), (122, .iadd, 1, 0, 0, []), (123, .iload_n 3, 1, 0, 0, []), (124, .iastore, 1, 0, 0, []), (125, .aload_n 1, 1, 0, 0, []), (126, .iload 4, 2, 0, 0, []), (128, .iconst 2, 1, 0, 0, []), (129, .iadd, 1, 0, 0, []), (130, .iconst 0, 1, 0, 0, []), (131, .iastore, 1, 0, 0, []), (132, .aload_n 1, 1, 0, 0, []), (133, .iload 4, 2, 0, 0, []), (135, .iconst 3, 1, 0, 0, []), (136, .iadd, 1, 0, 0, []), (137, .iconst 0, 1, 0, 0, []), (138, .iastore, 1, 0, 0, []), (139, .aload_n 1, 1, 0, 0, []), (140, .iload 4, 2, 0, 0, []), (142, .iconst 4, 1, 0, 0, []), (143, .iadd, 1, 0, 0, []), (144, .iconst 0, 1, 0, 0, []), (145, .iastore, 1, 0, 0, []), (146, .aload_n 0, 1, 0, 0, []), (147, .bipush 9, 2, 0, 0, []), (149, .dup2, 1, 0, 0, []), (150, .iaload, 1, 0, 0, []), (151, .iconst 1, 1, 0, 0, []), (152, .iadd, 1, 0, 0, []), (153, .iastore, 1, 0, 0, []), (154, .iload 4, 2, 0, 0, []), (156, .ireturn, 1, 0, 0, [])]
theorem tL_entry_ok : xTblOK RL cL_entry xFL 6 tL_entry = true := by decide +kernel
abbrev nL_entry (X : Nat × (Nat → Int32)) : List (Nat × Nat × Nat × XS) := []
def fL_entry (X : Nat × (Nat → Int32)) : XS := fun as σ => match as with
  | [.inr (.inr (some (9, a0))), .inr (.inr (some (9, a1))), .inl a2, .inl a3] => xIter X (xEnv (nL_entry X)) (fun _ _ => some none) 0 [(6, [0, 1, 2, 3, 4, 5]), (82, [0, 1, 2, 3, 5])] tL_entry 100000 (0, [(0, .inr (.inr (some (9, a0)))), (1, .inr (.inr (some (9, a1)))), (2, .inl a2), (3, .inl a3)], σ, 0)
  | _ => none
theorem mL_entry (l : Launch) (X : Nat × (Nat → Int32)) : xMet l X yL_entry cL_entry 6 (some .int) 1 0 (fL_entry X) :=
  xMet_of (cl := xEnv (nL_entry X)) (rt := 0) (stops := [(6, [0, 1, 2, 3, 4, 5]), (82, [0, 1, 2, 3, 5])]) (tbl := tL_entry) (by decide +kernel) (by decide) tL_entry_ok x_FL rfl (xEnv_ok (L := nL_entry X) (fun _ h => absurd h List.not_mem_nil))
    (xNoNew (by decide +kernel))
    (fun as σ q h => by
      unfold fL_entry at h
      split at h
      · exact Nat.le_of_ble_eq_true rfl
      · cases h)
    (fun as σ r σ' h => by
      unfold fL_entry at h
      split at h
      · exact ⟨100000, h⟩
      · cases h)
def tL_starts : List XE := [(0, .aload_n 0, 1, 0, 0, []), (1, .iconst 2, 1, 0, 0, []), (2, .bipush 100, 2, 0, 0, []), (4, .iastore, 1, 0, 0, []), (5, .aload_n 0, 1, 0, 0, []), (6, .iconst 4, 1, 0, 0, []), (7, .sipush 1000, 3, 0, 0, []), (10, .iastore, 1, 0, 0, []), (11, .iconst 0, 1, 0, 0, []), (12, .istore_n 2, 1, 0, 0, []), (13, .iload_n 2, 1, 0, 0, []), (14, .iconst 2, 1, 0, 0, []), (15, .if_icmp .ge 79, 3, 94, 0, []), (18, .aload_n 1, 1, 0, 0, []), (19, .bipush 16, 2, 0, 0, []), (21, .iload_n 2, 1, 0, 0, []), (22, .imul, 1, 0, 0, []), (23, .sipush 1000, 3, 0, 0, []), (26, .iastore, 1, 0, 0, []), (27, .aload_n 1, 1, 0, 0, []), (28, .bipush 16, 2, 0, 0, []), (30, .iload_n 2, 1, 0, 0, []), (31, .imul, 1, 0, 0, []), (32, .iconst 1, 1, 0, 0, []), (33, .iadd, 1, 0, 0, []), (34, .bipush 10, 2, 0, 0, []), (36, .iastore, 1, 0, 0, []), (37, .aload_n 1, 1, 0, 0, []), (38, .bipush 16, 2, 0, 0, []), (40, .iload_n 2, 1, 0, 0, []), (41, .imul, 1, 0, 0, []), (42, .iconst 2, 1, 0, 0, []), (43, .iadd, 1, 0, 0, []), (44, .bipush 20, 2, 0, 0, []), (46, .iastore, 1, 0, 0, []), (47, .aload_n 1, 1, 0, 0, []), (48, .bipush 16, 2, 0, 0, []), (50, .iload_n 2, 1, 0, 0, []), (51, .imul, 1, 0, 0, []), (52, .iconst 3, 1, 0, 0, []), (53, .iadd, 1, 0, 0, []), (54, .bipush 100, 2, 0, 0, []), (56, .iastore, 1, 0, 0, []), (57, .aload_n 1, 1, 0, 0, []), (58, .bipush 16, 2, 0, 0, []), (60, .iload_n 2, 1, 0, 0, []), (61, .imul, 1, 0, 0, []), (62, .iconst 5, 1, 0, 0, []), (63, .iadd, 1, 0, 0, []), (64, .sipush 500, 3, 0, 0, []), (67, .iload_n 2, 1, 0, 0, []), (68, .imul, 1, 0, 0, []), (69, .iastore, 1, 0, 0, []), (70, .aload_n 1, 1, 0, 0, []), (71, .bipush 16, 2, 0, 0, []), (73, .iload_n 2, 1, 0, 0, []), (74, .imul, 1, 0, 0, []), (75, .bipush 6, 2, 0, 0, []), (77, .iadd, 1, 0, 0, []), (78, .sipush 500, 3, 0, 0, []), (81, .sipush 500, 3, 0, 0, []), (84, .iload_n 2, 1, 0, 0, []), (85, .imul, 1, 0, 0, []), (86, .iadd, 1, 0, 0, []), (87, .iastore, 1, 0, 0, []), (88, .iinc 2 1, 3, 0, 0, []), (91, .goto (-78), 3, 13, 0, []), (94, .return_, 1, 0, 0, [])]
theorem tL_starts_ok : xTblOK RL cL_starts xFL 3 tL_starts = true := by decide +kernel
abbrev nL_starts (X : Nat × (Nat → Int32)) : List (Nat × Nat × Nat × XS) := []
def fL_starts (X : Nat × (Nat → Int32)) : XS := fun as σ => match as with
  | [.inr (.inr (some (9, a0))), .inr (.inr (some (9, a1)))] => xIter X (xEnv (nL_starts X)) (fun _ _ => some none) 4 [(13, [1, 2])] tL_starts 100000 (0, [(0, .inr (.inr (some (9, a0)))), (1, .inr (.inr (some (9, a1))))], σ, 0)
  | _ => none
theorem mL_starts (l : Launch) (X : Nat × (Nat → Int32)) : xMet l X yL_starts cL_starts 3 none 1 0 (fL_starts X) :=
  xMet_of (cl := xEnv (nL_starts X)) (rt := 4) (stops := [(13, [1, 2])]) (tbl := tL_starts) (by decide +kernel) (by decide) tL_starts_ok x_FL rfl (xEnv_ok (L := nL_starts X) (fun _ h => absurd h List.not_mem_nil))
    (xNoNew (by decide +kernel))
    (fun as σ q h => by
      unfold fL_starts at h
      split at h
      · exact Nat.le_of_ble_eq_true rfl
      · cases h)
    (fun as σ r σ' h => by
      unfold fL_starts at h
      split at h
      · exact ⟨100000, h⟩
      · cases h)
