/-! ===== contracts (written by wip/whole/gen/contracts.py) ===== -/
def tX2_save : List XE := [(0, .aload_n 0, 1, 0, 0, []), (1, .aload_n 0, 1, 0, 0, []), (2, .getfield 16, 3, 1, 1, []), (5, .iconst 1, 1, 0, 0, []), (6, .iadd, 1, 0, 0, []), (7, .iconst 4, 1, 0, 0, []), (8, .invokestatic 20, 3, 41, 0, []), (11, .putfield 16, 3, 1, 1, []), (14, .aload_n 0, 1, 0, 0, []), (15, .getfield 11, 3, 1, 0, []), (18, .aload_n 0, 1, 0, 0, []), (19, .getfield 16, 3, 1, 1, []), (22, .aaload, 1, 0, 0, []), (23, .aload_n 1, 1, 0, 0, []), (24, .invokevirtual 26, 3, 52, 0, []), (27, .aload_n 0, 1, 0, 0, []), (28, .aload_n 0, 1, 0, 0, []), (29, .getfield 30, 3, 1, 2, []), (32, .iconst 1, 1, 0, 0, []), (33, .iadd, 1, 0, 0, []), (34, .iconst 4, 1, 0, 0, []), (35, .invokestatic 33, 3, 67, 0, []), (38, .putfield 30, 3, 1, 2, []), (41, .return_, 1, 0, 0, [])]
theorem tX2_save_ok : xTblOK RX2 cX2_save xFX2 2 tX2_save = true := by decide +kernel
abbrev nX2_save (X : Nat × (Nat → Int32)) : List (Nat × Nat × Nat × XS) := [(41, 2, 0, fJ9_floorMod_7cf53 X), (52, 2, 0, fX4_copy X), (67, 2, 0, fJ9_min_7cf53 X)]
def fX2_save (X : Nat × (Nat → Int32)) : XS := fun as σ => match as with
  | [.inr (.inr (some (1, a0))), .inr (.inr (some (3, a1)))] => xIter X (xEnv (nX2_save X)) (fun _ _ => some none) 4 [] tX2_save 100000 (0, [(0, .inr (.inr (some (1, a0)))), (1, .inr (.inr (some (3, a1))))], σ, 0)
  | _ => none
theorem rX2_save (X : Nat × (Nat → Int32)) : ∀ as σ q, fX2_save X as σ = some q → ∃ j as', as = xR 1 j :: as' := by
  intro as σ q h
  unfold fX2_save at h
  split at h
  · exact ⟨_, _, rfl⟩
  · cases h
theorem mX2_save (l : Launch) (X : Nat × (Nat → Int32)) : xMet l X yX2_save cX2_save 2 none 3 0 (fX2_save X) :=
  xMet_of (cl := xEnv (nX2_save X)) (rt := 4) (stops := []) (tbl := tX2_save) (by decide +kernel) (by decide) tX2_save_ok x_FX2 rfl (xEnv_ok (L := nX2_save X) (List.forall_mem_cons.mpr ⟨xCS_S (i := 20) (n := 2) (mJ9_floorMod_7cf53 l X) (xPk_in [325, 326, 17, 327] (by decide +kernel) (by decide +kernel)) (by decide +kernel) (by decide) (by decide), (List.forall_mem_cons.mpr ⟨xCS_V (i := 26) (n := 1) (C := RX4) (k := 3) (mX4_copy l X) (xPk_in [328, 329, 330, 8, 331] (by decide +kernel) (by decide +kernel)) (by decide +kernel) (by decide) rfl (by decide) (by decide) (rX4_copy X), (List.forall_mem_cons.mpr ⟨xCS_S (i := 33) (n := 2) (mJ9_min_7cf53 l X) (xPk_in [343, 344, 17, 345] (by decide +kernel) (by decide +kernel)) (by decide +kernel) (by decide) (by decide), (fun _ h => absurd h List.not_mem_nil)⟩)⟩)⟩))
    (xNoNew (by decide +kernel))
    (fun as σ q h => by
      unfold fX2_save at h
      split at h
      · exact Nat.le_of_ble_eq_true rfl
      · cases h)
    (fun as σ r σ' h => by
      unfold fX2_save at h
      split at h
      · exact ⟨100000, h⟩
      · cases h)
