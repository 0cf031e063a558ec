/-! ===== contracts (written by wip/whole/gen/contracts.py) ===== -/
def tJ9_floorDiv_7cf53 : List XE := [(0, .iload_n 0, 1, 0, 0, []), (1, .iload_n 1, 1, 0, 0, []), (2, .idiv, 1, 0, 0, []), (3, .istore_n 2, 1, 0, 0, []), (4, .iload_n 0, 1, 0, 0, []), (5, .iload_n 1, 1, 0, 0, []), (6, .ixor, 1, 0, 0, []), (7, .ifCond .ge 14, 3, 21, 0, []), (10, .iload_n 2, 1, 0, 0, []), (11, .iload_n 1, 1, 0, 0, []), (12, .imul, 1, 0, 0, []), (13, .iload_n 0, 1, 0, 0, []), (14, .if_icmp .eq 7, 3, 21, 0, []), (17, .iload_n 2, 1, 0, 0, []), (18, .iconst 1, 1, 0, 0, []), (19, .isub, 1, 0, 0, []), (20, .ireturn, 1, 0, 0, []), (21, .iload_n 2, 1, 0, 0, []), (22, .ireturn, 1, 0, 0, [])]
theorem tJ9_floorDiv_7cf53_ok : xTblOK RJ9 cJ9_floorDiv_7cf53 ([] : List Jvm.Cond) 3 tJ9_floorDiv_7cf53 = true := by decide +kernel
abbrev nJ9_floorDiv_7cf53 (X : Nat × (Nat → Int32)) : List (Nat × Nat × Nat × XS) := []
def fJ9_floorDiv_7cf53 (X : Nat × (Nat → Int32)) : XS := fun as σ => match as with
  | [.inl a0, .inl a1] => xIter X (xEnv (nJ9_floorDiv_7cf53 X)) (fun _ _ => some none) 0 [] tJ9_floorDiv_7cf53 100000 (0, [(0, .inl a0), (1, .inl a1)], σ, 0)
  | _ => none
theorem mJ9_floorDiv_7cf53 (l : Launch) (X : Nat × (Nat → Int32)) : xMet l X yJ9_floorDiv_7cf53 cJ9_floorDiv_7cf53 3 (some .int) 1 0 (fJ9_floorDiv_7cf53 X) :=
  xMet_of (cl := xEnv (nJ9_floorDiv_7cf53 X)) (rt := 0) (stops := []) (tbl := tJ9_floorDiv_7cf53) (by decide +kernel) (by decide) tJ9_floorDiv_7cf53_ok (fun _ h => absurd h List.not_mem_nil) rfl (xEnv_ok (L := nJ9_floorDiv_7cf53 X) (fun _ h => absurd h List.not_mem_nil))
    (xNoNew (by decide +kernel))
    (fun as σ q h => by
      unfold fJ9_floorDiv_7cf53 at h
      split at h
      · exact Nat.le_of_ble_eq_true rfl
      · cases h)
    (fun as σ r σ' h => by
      unfold fJ9_floorDiv_7cf53 at h
      split at h
      · exact ⟨100000, h⟩
      · cases h)
def tJ9_floorMod_7cf53 : List XE := [(0, .iload_n 0, 1, 0, 0, []), (1, .iload_n 1, 1, 0, 0, []), (2, .irem, 1, 0, 0, []), (3, .istore_n 2, 1, 0, 0, []), (4, .iload_n 0, 1, 0, 0, []), (5, .iload_n 1, 1, 0, 0, []), (6, .ixor, 1, 0, 0, []), (7, .ifCond .ge 11, 3, 18, 0, []), (10, .iload_n 2, 1, 0, 0, []), (11, .ifCond .eq 7, 3, 18, 0, []), (14, .iload_n 2, 1, 0, 0, []), (15, .iload_n 1, 1, 0, 0, []), (16, .iadd, 1, 0, 0, []), (17, .ireturn, 1, 0, 0, []), (18, .iload_n 2, 1, 0, 0, []), (19, .ireturn, 1, 0, 0, [])]
theorem tJ9_floorMod_7cf53_ok : xTblOK RJ9 cJ9_floorMod_7cf53 ([] : List Jvm.Cond) 3 tJ9_floorMod_7cf53 = true := by decide +kernel
abbrev nJ9_floorMod_7cf53 (X : Nat × (Nat → Int32)) : List (Nat × Nat × Nat × XS) := []
def fJ9_floorMod_7cf53 (X : Nat × (Nat → Int32)) : XS := fun as σ => match as with
  | [.inl a0, .inl a1] => xIter X (xEnv (nJ9_floorMod_7cf53 X)) (fun _ _ => some none) 0 [] tJ9_floorMod_7cf53 100000 (0, [(0, .inl a0), (1, .inl a1)], σ, 0)
  | _ => none
theorem mJ9_floorMod_7cf53 (l : Launch) (X : Nat × (Nat → Int32)) : xMet l X yJ9_floorMod_7cf53 cJ9_floorMod_7cf53 3 (some .int) 1 0 (fJ9_floorMod_7cf53 X) :=
  xMet_of (cl := xEnv (nJ9_floorMod_7cf53 X)) (rt := 0) (stops := []) (tbl := tJ9_floorMod_7cf53) (by decide +kernel) (by decide) tJ9_floorMod_7cf53_ok (fun _ h => absurd h List.not_mem_nil) rfl (xEnv_ok (L := nJ9_floorMod_7cf53 X) (fun _ h => absurd h List.not_mem_nil))
    (xNoNew (by decide +kernel))
    (fun as σ q h => by
      unfold fJ9_floorMod_7cf53 at h
      split at h
      · exact Nat.le_of_ble_eq_true rfl
      · cases h)
    (fun as σ r σ' h => by
      unfold fJ9_floorMod_7cf53 at h
      split at h
      · exact ⟨100000, h⟩
      · cases h)
def tJ9_abs_0f7a4 : List XE := [(0, .iload_n 0, 1, 0, 0, []), (1, .ifCond .ge 8, 3, 9, 0, []), (4, .iload_n 0, 1, 0, 0, []), (5, .ineg, 1, 0, 0, []), (6, .goto 4, 3, 10, 0, []), (9, .iload_n 0, 1, 0, 0, []), (10, .ireturn, 1, 0, 0, [])]
theorem tJ9_abs_0f7a4_ok : xTblOK RJ9 cJ9_abs_0f7a4 ([] : List Jvm.Cond) 1 tJ9_abs_0f7a4 = true := by decide +kernel
abbrev nJ9_abs_0f7a4 (X : Nat × (Nat → Int32)) : List (Nat × Nat × Nat × XS) := []
def fJ9_abs_0f7a4 (X : Nat × (Nat → Int32)) : XS := fun as σ => match as with
  | [.inl a0] => xIter X (xEnv (nJ9_abs_0f7a4 X)) (fun _ _ => some none) 0 [] tJ9_abs_0f7a4 100000 (0, [(0, .inl a0)], σ, 0)
  | _ => none
theorem mJ9_abs_0f7a4 (l : Launch) (X : Nat × (Nat → Int32)) : xMet l X yJ9_abs_0f7a4 cJ9_abs_0f7a4 1 (some .int) 1 0 (fJ9_abs_0f7a4 X) :=
  xMet_of (cl := xEnv (nJ9_abs_0f7a4 X)) (rt := 0) (stops := []) (tbl := tJ9_abs_0f7a4) (by decide +kernel) (by decide) tJ9_abs_0f7a4_ok (fun _ h => absurd h List.not_mem_nil) rfl (xEnv_ok (L := nJ9_abs_0f7a4 X) (fun _ h => absurd h List.not_mem_nil))
    (xNoNew (by decide +kernel))
    (fun as σ q h => by
      unfold fJ9_abs_0f7a4 at h
      split at h
      · exact Nat.le_of_ble_eq_true rfl
      · cases h)
    (fun as σ r σ' h => by
      unfold fJ9_abs_0f7a4 at h
      split at h
      · exact ⟨100000, h⟩
      · cases h)
def tJ9_max_7cf53 : List XE := [(0, .iload_n 0, 1, 0, 0, []), (1, .iload_n 1, 1, 0, 0, []), (2, .if_icmp .lt 7, 3, 9, 0, []), (5, .iload_n 0, 1, 0, 0, []), (6, .goto 4, 3, 10, 0, []), (9, .iload_n 1, 1, 0, 0, []), (10, .ireturn, 1, 0, 0, [])]
theorem tJ9_max_7cf53_ok : xTblOK RJ9 cJ9_max_7cf53 ([] : List Jvm.Cond) 2 tJ9_max_7cf53 = true := by decide +kernel
abbrev nJ9_max_7cf53 (X : Nat × (Nat → Int32)) : List (Nat × Nat × Nat × XS) := []
def fJ9_max_7cf53 (X : Nat × (Nat → Int32)) : XS := fun as σ => match as with
  | [.inl a0, .inl a1] => xIter X (xEnv (nJ9_max_7cf53 X)) (fun _ _ => some none) 0 [] tJ9_max_7cf53 100000 (0, [(0, .inl a0), (1, .inl a1)], σ, 0)
  | _ => none
theorem mJ9_max_7cf53 (l : Launch) (X : Nat × (Nat → Int32)) : xMet l X yJ9_max_7cf53 cJ9_max_7cf53 2 (some .int) 1 0 (fJ9_max_7cf53 X) :=
  xMet_of (cl := xEnv (nJ9_max_7cf53 X)) (rt := 0) (stops := []) (tbl := tJ9_max_7cf53) (by decide +kernel) (by decide) tJ9_max_7cf53_ok (fun _ h => absurd h List.not_mem_nil) rfl (xEnv_ok (L := nJ9_max_7cf53 X) (fun _ h => absurd h List.not_mem_nil))
    (xNoNew (by decide +kernel))
    (fun as σ q h => by
      unfold fJ9_max_7cf53 at h
      split at h
      · exact Nat.le_of_ble_eq_true rfl
      · cases h)
    (fun as σ r σ' h => by
      unfold fJ9_max_7cf53 at h
      split at h
      · exact ⟨100000, h⟩
      · cases h)
def tJ9_min_7cf53 : List XE := [(0, .iload_n 0, 1, 0, 0, []), (1, .iload_n 1, 1, 0, 0, []), (2, .if_icmp .gt 7, 3, 9, 0, []), (5, .iload_n 0, 1, 0, 0, []), (6, .goto 4, 3, 10, 0, []), (9, .iload_n 1, 1, 0, 0, []), (10, .ireturn, 1, 0, 0, [])]
theorem tJ9_min_7cf53_ok : xTblOK RJ9 cJ9_min_7cf53 ([] : List Jvm.Cond) 2 tJ9_min_7cf53 = true := by decide +kernel
abbrev nJ9_min_7cf53 (X : Nat × (Nat → Int32)) : List (Nat × Nat × Nat × XS) := []
def fJ9_min_7cf53 (X : Nat × (Nat → Int32)) : XS := fun as σ => match as with
  | [.inl a0, .inl a1] => xIter X (xEnv (nJ9_min_7cf53 X)) (fun _ _ => some none) 0 [] tJ9_min_7cf53 100000 (0, [(0, .inl a0), (1, .inl a1)], σ, 0)
  | _ => none
theorem mJ9_min_7cf53 (l : Launch) (X : Nat × (Nat → Int32)) : xMet l X yJ9_min_7cf53 cJ9_min_7cf53 2 (some .int) 1 0 (fJ9_min_7cf53 X) :=
  xMet_of (cl := xEnv (nJ9_min_7cf53 X)) (rt := 0) (stops := []) (tbl := tJ9_min_7cf53) (by decide +kernel) (by decide) tJ9_min_7cf53_ok (fun _ h => absurd h List.not_mem_nil) rfl (xEnv_ok (L := nJ9_min_7cf53 X) (fun _ h => absurd h List.not_mem_nil))
    (xNoNew (by decide +kernel))
    (fun as σ q h => by
      unfold fJ9_min_7cf53 at h
      split at h
      · exact Nat.le_of_ble_eq_true rfl
      · cases h)
    (fun as σ r σ' h => by
      unfold fJ9_min_7cf53 at h
      split at h
      · exact ⟨100000, h⟩
      · cases h)
