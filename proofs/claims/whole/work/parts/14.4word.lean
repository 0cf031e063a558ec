/-! ===== contracts (written by wip/whole/gen/contracts.py) ===== -/
def tX6_stands : List XE := [(0, .iload_n 2, 1, 0, 0, []), (1, .ifCond .lt 22, 3, 23, 0, []), (4, .iload_n 3, 1, 0, 0, []), (5, .aload_n 1, 1, 0, 0, []), (6, .arraylength, 1, 0, 0, []), (7, .if_icmp .gt 16, 3, 23, 0, []), (10, .iload_n 3, 1, 0, 0, []), (11, .iload_n 2, 1, 0, 0, []), (12, .isub, 1, 0, 0, []), (13, .aload_n 0, 1, 0, 0, []), (14, .getfield 47, 3, 12, 1, []), (17, .invokevirtual 62, 3, 124, 0, []), (20, .if_icmp .eq 5, 3, 25, 0, []), (23, .iconst 0, 1, 0, 0, []), (24, .ireturn, 1, 0, 0, []), (25, .iconst 0, 1, 0, 0, []), (26, .istore 4, 2, 0, 0, []), (28, .iload 4, 2, 0, 0, []), (30, .aload_n 0, 1, 0, 0, []), (31, .getfield 47, 3, 12, 1, []), (34, .invokevirtual 62, 3, 124, 0, []), (37, .if_icmp .ge 29, 3, 66, 0, []), (40, .aload_n 1, 1, 0, 0, []), (41, .iload_n 2, 1, 0, 0, []), (42, .iload 4, 2, 0, 0, []), (44, .iadd, 1, 0, 0, []), (45, .iaload, 1, 0, 0, []), (46, .aload_n 0, 1, 0, 0, []), (47, .getfield 47, 3, 12, 1, []), (50, .iload 4, 2, 0, 0, []), (52, .invokevirtual 68, 3, 136, 0, []), (55, .if_icmp .eq 5, 3, 60, 0, []), (58, .iconst 0, 1, 0, 0, []), (59, .ireturn, 1, 0, 0, []), (60, .iinc 4 1, 3, 0, 0, []), (63, .goto (-35), 3, 28, 0, []), (66, .iconst 1, 1, 0, 0, []), (67, .ireturn, 1, 0, 0, [])]
theorem tX6_stands_ok : xTblOK RX6 cX6_stands xFX6 5 tX6_stands = true := by decide +kernel
abbrev nX6_stands (X : Nat × (Nat → Int32)) : List (Nat × Nat × Nat × XS) := [(124, 1, 0, fLen), (136, 2, 0, fChr)]
def fX6_stands (X : Nat × (Nat → Int32)) : XS := fun as σ => match as with
  | [.inr (.inr (some (12, a0))), .inr (.inr (some (9, a1))), .inl a2, .inl a3] => xIter X (xEnv (nX6_stands X)) (fun _ _ => some none) 1 [(28, [0, 1, 2, 4])] tX6_stands 100000 (0, [(0, .inr (.inr (some (12, a0)))), (1, .inr (.inr (some (9, a1)))), (2, .inl a2), (3, .inl a3)], σ, 0)
  | _ => none
theorem rX6_stands (X : Nat × (Nat → Int32)) : ∀ as σ q, fX6_stands X as σ = some q → ∃ j as', as = xR 12 j :: as' := by
  intro as σ q h
  unfold fX6_stands at h
  split at h
  · exact ⟨_, _, rfl⟩
  · cases h
theorem mX6_stands (l : Launch) (X : Nat × (Nat → Int32)) : xMet l X yX6_stands cX6_stands 5 (some .boolean) 4 0 (fX6_stands X) :=
  xMet_of (cl := xEnv (nX6_stands X)) (rt := 1) (stops := [(28, [0, 1, 2, 4])]) (tbl := tX6_stands) (by decide +kernel) (by decide) tX6_stands_ok x_FX6 rfl (xEnv_ok (L := nX6_stands X) (List.forall_mem_cons.mpr ⟨csLen_X6_62 l X (by decide), (List.forall_mem_cons.mpr ⟨csChr_X6_68 l X (by decide), (fun _ h => absurd h List.not_mem_nil)⟩)⟩))
    (xNoNew (by decide +kernel))
    (fun as σ q h => by
      unfold fX6_stands at h
      split at h
      · exact Nat.le_of_ble_eq_true rfl
      · cases h)
    (fun as σ r σ' h => by
      unfold fX6_stands at h
      split at h
      · exact ⟨100000, h⟩
      · cases h)
def tX6_of : List XE := [(0, .getstatic 55, 3, 13, 0, []), (3, .astore_n 3, 1, 0, 0, []), (4, .aload_n 3, 1, 0, 0, []), (5, .arraylength, 1, 0, 0, []), (6, .istore 4, 2, 0, 0, []), (8, .iconst 0, 1, 0, 0, []), (9, .istore 5, 2, 0, 0, []), (11, .iload 5, 2, 0, 0, []), (13, .iload 4, 2, 0, 0, []), (15, .if_icmp .ge 29, 3, 44, 0, []), (18, .aload_n 3, 1, 0, 0, []), (19, .iload 5, 2, 0, 0, []), (21, .aaload, 1, 0, 0, []), (22, .astore 6, 2, 0, 0, []), (24, .aload 6, 2, 0, 0, []), (26, .aload_n 0, 1, 0, 0, []), (27, .iload_n 1, 1, 0, 0, []), (28, .iload_n 2, 1, 0, 0, []), (29, .invokevirtual 58, 3, 116, 0, []), (32, .ifCond .eq 6, 3, 38, 0, []), (35, .aload 6, 2, 0, 0, []), (37, .areturn, 1, 0, 0, []), (38, .iinc 5 1, 3, 0, 0, []), (41, .goto (-30), 3, 11, 0, []), (44, .aconst_null, 1, 0, 0, []), (45, .areturn, 1, 0, 0, [])]
theorem tX6_of_ok : xTblOK RX6 cX6_of xFX6 7 tX6_of = true := by decide +kernel
abbrev nX6_of (X : Nat × (Nat → Int32)) : List (Nat × Nat × Nat × XS) := [(116, 4, 0, fX6_stands X)]
def fX6_of (X : Nat × (Nat → Int32)) : XS := fun as σ => match as with
  | [.inr (.inr (some (9, a0))), .inl a1, .inl a2] => xIter X (xEnv (nX6_of X)) (fun _ _ => some none) 3 [(11, [0, 1, 2, 3, 4, 5])] tX6_of 100000 (0, [(0, .inr (.inr (some (9, a0)))), (1, .inl a1), (2, .inl a2)], σ, 0)
  | _ => none
theorem mX6_of (l : Launch) (X : Nat × (Nat → Int32)) : xMet l X yX6_of cX6_of 7 (some (.object "ValveTwins$Word")) 5 0 (fX6_of X) :=
  xMet_of (cl := xEnv (nX6_of X)) (rt := 3) (stops := [(11, [0, 1, 2, 3, 4, 5])]) (tbl := tX6_of) (by decide +kernel) (by decide) tX6_of_ok x_FX6 ⟨_, rfl⟩ (xEnv_ok (L := nX6_of X) (List.forall_mem_cons.mpr ⟨xCS_W (i := 58) (n := 3) (mX6_stands l X) (xPk_in [352, 354, 4, 75, 356] (by decide +kernel) (by decide +kernel)) (by decide +kernel) (by decide) (by decide) (rX6_stands X), (fun _ h => absurd h List.not_mem_nil)⟩))
    (xNoNew (by decide +kernel))
    (fun as σ q h => by
      unfold fX6_of at h
      split at h
      · exact Nat.le_of_ble_eq_true rfl
      · cases h)
    (fun as σ r σ' h => by
      unfold fX6_of at h
      split at h
      · exact ⟨100000, h⟩
      · cases h)
