/-! ===== contracts (written by wip/whole/gen/contracts.py) ===== -/
def tX3_isFull : List XE := [(0, .aload_n 0, 1, 0, 0, []), (1, .getfield 20, 3, 2, 2, []), (4, .sipush 150, 3, 0, 0, []), (7, .if_icmp .lt 7, 3, 14, 0, []), (10, .iconst 1, 1, 0, 0, []), (11, .goto 4, 3, 15, 0, []), (14, .iconst 0, 1, 0, 0, []), (15, .ireturn, 1, 0, 0, [])]
theorem tX3_isFull_ok : xTblOK RX3 cX3_isFull xFX3 1 tX3_isFull = true := by decide +kernel
abbrev nX3_isFull (X : Nat × (Nat → Int32)) : List (Nat × Nat × Nat × XS) := []
def fX3_isFull (X : Nat × (Nat → Int32)) : XS := fun as σ => match as with
  | [.inr (.inr (some (2, a0)))] => xIter X (xEnv (nX3_isFull X)) (fun _ _ => some none) 1 [] tX3_isFull 100000 (0, [(0, .inr (.inr (some (2, a0))))], σ, 0)
  | _ => none
theorem rX3_isFull (X : Nat × (Nat → Int32)) : ∀ as σ q, fX3_isFull X as σ = some q → ∃ j as', as = xR 2 j :: as' := by
  intro as σ q h
  unfold fX3_isFull at h
  split at h
  · exact ⟨_, _, rfl⟩
  · cases h
theorem mX3_isFull (l : Launch) (X : Nat × (Nat → Int32)) : xMet l X yX3_isFull cX3_isFull 1 (some .boolean) 1 0 (fX3_isFull X) :=
  xMet_of (cl := xEnv (nX3_isFull X)) (rt := 1) (stops := []) (tbl := tX3_isFull) (by decide +kernel) (by decide) tX3_isFull_ok x_FX3 rfl (xEnv_ok (L := nX3_isFull X) (fun _ h => absurd h List.not_mem_nil))
    (xNoNew (by decide +kernel))
    (fun as σ q h => by
      unfold fX3_isFull at h
      split at h
      · exact Nat.le_of_ble_eq_true rfl
      · cases h)
    (fun as σ r σ' h => by
      unfold fX3_isFull at h
      split at h
      · exact ⟨100000, h⟩
      · cases h)
def tX3_append : List XE := [(0, .aload_n 0, 1, 0, 0, []), (1, .invokevirtual 23, 3, 46, 0, []), (4, .ifCond .ne 23, 3, 27, 0, []), (7, .aload_n 0, 1, 0, 0, []), (8, .getfield 9, 3, 2, 0, []), (11, .aload_n 0, 1, 0, 0, []), (12, .getfield 20, 3, 2, 2, []), (15, .iload_n 1, 1, 0, 0, []), (16, .iastore, 1, 0, 0, []), (17, .aload_n 0, 1, 0, 0, []), (18, .dup, 1, 0, 0, []), (19, .getfield 20, 3, 2, 2, []), (22, .iconst 1, 1, 0, 0, []), (23, .iadd, 1, 0, 0, []), (24, .putfield 20, 3, 2, 2, []), (27, .aload_n 0, 1, 0, 0, []), (28, .getfield 20, 3, 2, 2, []), (31, .ireturn, 1, 0, 0, [])]
theorem tX3_append_ok : xTblOK RX3 cX3_append xFX3 2 tX3_append = true := by decide +kernel
abbrev nX3_append (X : Nat × (Nat → Int32)) : List (Nat × Nat × Nat × XS) := [(46, 1, 0, fX3_isFull X)]
def fX3_append (X : Nat × (Nat → Int32)) : XS := fun as σ => match as with
  | [.inr (.inr (some (2, a0))), .inl a1] => xIter X (xEnv (nX3_append X)) (fun _ _ => some none) 0 [] tX3_append 100000 (0, [(0, .inr (.inr (some (2, a0)))), (1, .inl a1)], σ, 0)
  | _ => none
theorem rX3_append (X : Nat × (Nat → Int32)) : ∀ as σ q, fX3_append X as σ = some q → ∃ j as', as = xR 2 j :: as' := by
  intro as σ q h
  unfold fX3_append at h
  split at h
  · exact ⟨_, _, rfl⟩
  · cases h
theorem mX3_append (l : Launch) (X : Nat × (Nat → Int32)) : xMet l X yX3_append cX3_append 2 (some .int) 2 0 (fX3_append X) :=
  xMet_of (cl := xEnv (nX3_append X)) (rt := 0) (stops := []) (tbl := tX3_append) (by decide +kernel) (by decide) tX3_append_ok x_FX3 rfl (xEnv_ok (L := nX3_append X) (List.forall_mem_cons.mpr ⟨xCS_V (i := 23) (n := 0) (C := RX3) (k := 2) (mX3_isFull l X) (xPk_in [861, 853, 854, 64, 855] (by decide +kernel) (by decide +kernel)) (by decide +kernel) (by decide) rfl (by decide) (by decide) (rX3_isFull X), (fun _ h => absurd h List.not_mem_nil)⟩))
    (xNoNew (by decide +kernel))
    (fun as σ q h => by
      unfold fX3_append at h
      split at h
      · exact Nat.le_of_ble_eq_true rfl
      · cases h)
    (fun as σ r σ' h => by
      unfold fX3_append at h
      split at h
      · exact ⟨100000, h⟩
      · cases h)
def tX3_empty : List XE := [(0, .aload_n 0, 1, 0, 0, []), (1, .getfield 20, 3, 2, 2, []), (4, .istore_n 1, 1, 0, 0, []), (5, .aload_n 0, 1, 0, 0, []), (6, .iconst 0, 1, 0, 0, []), (7, .putfield 20, 3, 2, 2, []), (10, .iload_n 1, 1, 0, 0, []), (11, .ireturn, 1, 0, 0, [])]
theorem tX3_empty_ok : xTblOK RX3 cX3_empty xFX3 2 tX3_empty = true := by decide +kernel
abbrev nX3_empty (X : Nat × (Nat → Int32)) : List (Nat × Nat × Nat × XS) := []
def fX3_empty (X : Nat × (Nat → Int32)) : XS := fun as σ => match as with
  | [.inr (.inr (some (2, a0)))] => xIter X (xEnv (nX3_empty X)) (fun _ _ => some none) 0 [] tX3_empty 100000 (0, [(0, .inr (.inr (some (2, a0))))], σ, 0)
  | _ => none
theorem rX3_empty (X : Nat × (Nat → Int32)) : ∀ as σ q, fX3_empty X as σ = some q → ∃ j as', as = xR 2 j :: as' := by
  intro as σ q h
  unfold fX3_empty at h
  split at h
  · exact ⟨_, _, rfl⟩
  · cases h
theorem mX3_empty (l : Launch) (X : Nat × (Nat → Int32)) : xMet l X yX3_empty cX3_empty 2 (some .int) 1 0 (fX3_empty X) :=
  xMet_of (cl := xEnv (nX3_empty X)) (rt := 0) (stops := []) (tbl := tX3_empty) (by decide +kernel) (by decide) tX3_empty_ok x_FX3 rfl (xEnv_ok (L := nX3_empty X) (fun _ h => absurd h List.not_mem_nil))
    (xNoNew (by decide +kernel))
    (fun as σ q h => by
      unfold fX3_empty at h
      split at h
      · exact Nat.le_of_ble_eq_true rfl
      · cases h)
    (fun as σ r σ' h => by
      unfold fX3_empty at h
      split at h
      · exact ⟨100000, h⟩
      · cases h)
def tX3_number : List XE := [(0, .iload_n 1, 1, 0, 0, []), (1, .iconst 0, 1, 0, 0, []), (2, .iconst 2, 1, 0, 0, []), (3, .invokestatic 27, 3, 55, 0, []), (6, .ifCond .eq 12, 3, 18, 0, []), (9, .aload_n 0, 1, 0, 0, []), (10, .getfield 13, 3, 2, 1, []), (13, .iload_n 1, 1, 0, 0, []), (14, .iaload, 1, 0, 0, []), (15, .goto 4, 3, 19, 0, []), (18, .iconst 0, 1, 0, 0, []), (19, .ireturn, 1, 0, 0, [])]
theorem tX3_number_ok : xTblOK RX3 cX3_number xFX3 2 tX3_number = true := by decide +kernel
abbrev nX3_number (X : Nat × (Nat → Int32)) : List (Nat × Nat × Nat × XS) := [(55, 3, 0, fX7_within X)]
def fX3_number (X : Nat × (Nat → Int32)) : XS := fun as σ => match as with
  | [.inr (.inr (some (2, a0))), .inl a1] => xIter X (xEnv (nX3_number X)) (fun _ _ => some none) 0 [] tX3_number 100000 (0, [(0, .inr (.inr (some (2, a0)))), (1, .inl a1)], σ, 0)
  | _ => none
theorem rX3_number (X : Nat × (Nat → Int32)) : ∀ as σ q, fX3_number X as σ = some q → ∃ j as', as = xR 2 j :: as' := by
  intro as σ q h
  unfold fX3_number at h
  split at h
  · exact ⟨_, _, rfl⟩
  · cases h
theorem mX3_number (l : Launch) (X : Nat × (Nat → Int32)) : xMet l X yX3_number cX3_number 2 (some .int) 2 0 (fX3_number X) :=
  xMet_of (cl := xEnv (nX3_number X)) (rt := 0) (stops := []) (tbl := tX3_number) (by decide +kernel) (by decide) tX3_number_ok x_FX3 rfl (xEnv_ok (L := nX3_number X) (List.forall_mem_cons.mpr ⟨xCS_N (i := 27) (n := 3) (host := "ValveTwins") (mX7_within l X) (xPk_in [341, 59, 342] (by decide +kernel) (by decide +kernel)) (by decide +kernel) (by decide +kernel) (by decide) (by decide), (fun _ h => absurd h List.not_mem_nil)⟩))
    (xNoNew (by decide +kernel))
    (fun as σ q h => by
      unfold fX3_number at h
      split at h
      · exact Nat.le_of_ble_eq_true rfl
      · cases h)
    (fun as σ r σ' h => by
      unfold fX3_number at h
      split at h
      · exact ⟨100000, h⟩
      · cases h)
def tX3_rewind : List XE := [(0, .aload_n 0, 1, 0, 0, []), (1, .iconst 0, 1, 0, 0, []), (2, .putfield 33, 3, 2, 3, []), (5, .aload_n 0, 1, 0, 0, []), (6, .iconst (-1), 1, 0, 0, []), (7, .putfield 16, 3, 2, 4, []), (10, .return_, 1, 0, 0, [])]
theorem tX3_rewind_ok : xTblOK RX3 cX3_rewind xFX3 1 tX3_rewind = true := by decide +kernel
abbrev nX3_rewind (X : Nat × (Nat → Int32)) : List (Nat × Nat × Nat × XS) := []
def fX3_rewind (X : Nat × (Nat → Int32)) : XS := fun as σ => match as with
  | [.inr (.inr (some (2, a0)))] => xIter X (xEnv (nX3_rewind X)) (fun _ _ => some none) 4 [] tX3_rewind 100000 (0, [(0, .inr (.inr (some (2, a0))))], σ, 0)
  | _ => none
theorem rX3_rewind (X : Nat × (Nat → Int32)) : ∀ as σ q, fX3_rewind X as σ = some q → ∃ j as', as = xR 2 j :: as' := by
  intro as σ q h
  unfold fX3_rewind at h
  split at h
  · exact ⟨_, _, rfl⟩
  · cases h
theorem mX3_rewind (l : Launch) (X : Nat × (Nat → Int32)) : xMet l X yX3_rewind cX3_rewind 1 none 1 0 (fX3_rewind X) :=
  xMet_of (cl := xEnv (nX3_rewind X)) (rt := 4) (stops := []) (tbl := tX3_rewind) (by decide +kernel) (by decide) tX3_rewind_ok x_FX3 rfl (xEnv_ok (L := nX3_rewind X) (fun _ h => absurd h List.not_mem_nil))
    (xNoNew (by decide +kernel))
    (fun as σ q h => by
      unfold fX3_rewind at h
      split at h
      · exact Nat.le_of_ble_eq_true rfl
      · cases h)
    (fun as σ r σ' h => by
      unfold fX3_rewind at h
      split at h
      · exact ⟨100000, h⟩
      · cases h)
def tX3_here : List XE := [(0, .aload_n 0, 1, 0, 0, []), (1, .getfield 33, 3, 2, 3, []), (4, .iconst 0, 1, 0, 0, []), (5, .aload_n 0, 1, 0, 0, []), (6, .getfield 20, 3, 2, 2, []), (9, .iconst 1, 1, 0, 0, []), (10, .isub, 1, 0, 0, []), (11, .invokestatic 27, 3, 55, 0, []), (14, .ifCond .eq 25, 3, 39, 0, []), (17, .aload_n 0, 1, 0, 0, []), (18, .getfield 33, 3, 2, 3, []), (21, .sipush 150, 3, 0, 0, []), (24, .if_icmp .ge 15, 3, 39, 0, []), (27, .aload_n 0, 1, 0, 0, []), (28, .getfield 9, 3, 2, 0, []), (31, .aload_n 0, 1, 0, 0, []), (32, .getfield 33, 3, 2, 3, []), (35, .iaload, 1, 0, 0, []), (36, .goto 4, 3, 40, 0, []), (39, .iconst (-1), 1, 0, 0, []), (40, .ireturn, 1, 0, 0, [])]
theorem tX3_here_ok : xTblOK RX3 cX3_here xFX3 1 tX3_here = true := by decide +kernel
abbrev nX3_here (X : Nat × (Nat → Int32)) : List (Nat × Nat × Nat × XS) := [(55, 3, 0, fX7_within X)]
def fX3_here (X : Nat × (Nat → Int32)) : XS := fun as σ => match as with
  | [.inr (.inr (some (2, a0)))] => xIter X (xEnv (nX3_here X)) (fun _ _ => some none) 0 [] tX3_here 100000 (0, [(0, .inr (.inr (some (2, a0))))], σ, 0)
  | _ => none
theorem rX3_here (X : Nat × (Nat → Int32)) : ∀ as σ q, fX3_here X as σ = some q → ∃ j as', as = xR 2 j :: as' := by
  intro as σ q h
  unfold fX3_here at h
  split at h
  · exact ⟨_, _, rfl⟩
  · cases h
theorem mX3_here (l : Launch) (X : Nat × (Nat → Int32)) : xMet l X yX3_here cX3_here 1 (some .int) 2 0 (fX3_here X) :=
  xMet_of (cl := xEnv (nX3_here X)) (rt := 0) (stops := []) (tbl := tX3_here) (by decide +kernel) (by decide) tX3_here_ok x_FX3 rfl (xEnv_ok (L := nX3_here X) (List.forall_mem_cons.mpr ⟨xCS_N (i := 27) (n := 3) (host := "ValveTwins") (mX7_within l X) (xPk_in [341, 59, 342] (by decide +kernel) (by decide +kernel)) (by decide +kernel) (by decide +kernel) (by decide) (by decide), (fun _ h => absurd h List.not_mem_nil)⟩))
    (xNoNew (by decide +kernel))
    (fun as σ q h => by
      unfold fX3_here at h
      split at h
      · exact Nat.le_of_ble_eq_true rfl
      · cases h)
    (fun as σ r σ' h => by
      unfold fX3_here at h
      split at h
      · exact ⟨100000, h⟩
      · cases h)
def tX3_skipSpaces : List XE := [(0, .aload_n 0, 1, 0, 0, []), (1, .getfield 33, 3, 2, 3, []), (4, .aload_n 0, 1, 0, 0, []), (5, .getfield 20, 3, 2, 2, []), (8, .if_icmp .ge 25, 3, 33, 0, []), (11, .aload_n 0, 1, 0, 0, []), (12, .invokevirtual 45, 3, 90, 0, []), (15, .bipush 32, 2, 0, 0, []), (17, .if_icmp .ne 16, 3, 33, 0, []), (20, .aload_n 0, 1, 0, 0, []), (21, .dup, 1, 0, 0, []), (22, .getfield 33, 3, 2, 3, []), (25, .iconst 1, 1, 0, 0, []), (26, .iadd, 1, 0, 0, []), (27, .putfield 33, 3, 2, 3, []), (30, .goto (-30), 3, 0, 0, []), (33, .return_, 1, 0, 0, [])]
theorem tX3_skipSpaces_ok : xTblOK RX3 cX3_skipSpaces xFX3 1 tX3_skipSpaces = true := by decide +kernel
abbrev nX3_skipSpaces (X : Nat × (Nat → Int32)) : List (Nat × Nat × Nat × XS) := [(90, 1, 0, fX3_here X)]
def fX3_skipSpaces (X : Nat × (Nat → Int32)) : XS := fun as σ => match as with
  | [.inr (.inr (some (2, a0)))] => xIter X (xEnv (nX3_skipSpaces X)) (fun _ _ => some none) 4 [(0, [0])] tX3_skipSpaces 100000 (0, [(0, .inr (.inr (some (2, a0))))], σ, 0)
  | _ => none
theorem rX3_skipSpaces (X : Nat × (Nat → Int32)) : ∀ as σ q, fX3_skipSpaces X as σ = some q → ∃ j as', as = xR 2 j :: as' := by
  intro as σ q h
  unfold fX3_skipSpaces at h
  split at h
  · exact ⟨_, _, rfl⟩
  · cases h
theorem mX3_skipSpaces (l : Launch) (X : Nat × (Nat → Int32)) : xMet l X yX3_skipSpaces cX3_skipSpaces 1 none 3 0 (fX3_skipSpaces X) :=
  xMet_of (cl := xEnv (nX3_skipSpaces X)) (rt := 4) (stops := [(0, [0])]) (tbl := tX3_skipSpaces) (by decide +kernel) (by decide) tX3_skipSpaces_ok x_FX3 rfl (xEnv_ok (L := nX3_skipSpaces X) (List.forall_mem_cons.mpr ⟨xCS_V (i := 45) (n := 0) (C := RX3) (k := 2) (mX3_here l X) (xPk_in [336, 338, 2, 64, 339] (by decide +kernel) (by decide +kernel)) (by decide +kernel) (by decide) rfl (by decide) (by decide) (rX3_here X), (fun _ h => absurd h List.not_mem_nil)⟩))
    (xNoNew (by decide +kernel))
    (fun as σ q h => by
      unfold fX3_skipSpaces at h
      split at h
      · exact Nat.le_of_ble_eq_true rfl
      · cases h)
    (fun as σ r σ' h => by
      unfold fX3_skipSpaces at h
      split at h
      · exact ⟨100000, h⟩
      · cases h)
def tX3_skipLetters : List XE := [(0, .aload_n 0, 1, 0, 0, []), (1, .getfield 33, 3, 2, 3, []), (4, .aload_n 0, 1, 0, 0, []), (5, .getfield 20, 3, 2, 2, []), (8, .if_icmp .ge 30, 3, 38, 0, []), (11, .aload_n 0, 1, 0, 0, []), (12, .invokevirtual 45, 3, 90, 0, []), (15, .bipush 97, 2, 0, 0, []), (17, .bipush 122, 2, 0, 0, []), (19, .invokestatic 27, 3, 55, 0, []), (22, .ifCond .eq 16, 3, 38, 0, []), (25, .aload_n 0, 1, 0, 0, []), (26, .dup, 1, 0, 0, []), (27, .getfield 33, 3, 2, 3, []), (30, .iconst 1, 1, 0, 0, []), (31, .iadd, 1, 0, 0, []), (32, .putfield 33, 3, 2, 3, []), (35, .goto (-35), 3, 0, 0, []), (38, .return_, 1, 0, 0, [])]
theorem tX3_skipLetters_ok : xTblOK RX3 cX3_skipLetters xFX3 1 tX3_skipLetters = true := by decide +kernel
abbrev nX3_skipLetters (X : Nat × (Nat → Int32)) : List (Nat × Nat × Nat × XS) := [(90, 1, 0, fX3_here X), (55, 3, 0, fX7_within X)]
def fX3_skipLetters (X : Nat × (Nat → Int32)) : XS := fun as σ => match as with
  | [.inr (.inr (some (2, a0)))] => xIter X (xEnv (nX3_skipLetters X)) (fun _ _ => some none) 4 [(0, [0])] tX3_skipLetters 100000 (0, [(0, .inr (.inr (some (2, a0))))], σ, 0)
  | _ => none
theorem rX3_skipLetters (X : Nat × (Nat → Int32)) : ∀ as σ q, fX3_skipLetters X as σ = some q → ∃ j as', as = xR 2 j :: as' := by
  intro as σ q h
  unfold fX3_skipLetters at h
  split at h
  · exact ⟨_, _, rfl⟩
  · cases h
theorem mX3_skipLetters (l : Launch) (X : Nat × (Nat → Int32)) : xMet l X yX3_skipLetters cX3_skipLetters 1 none 3 0 (fX3_skipLetters X) :=
  xMet_of (cl := xEnv (nX3_skipLetters X)) (rt := 4) (stops := [(0, [0])]) (tbl := tX3_skipLetters) (by decide +kernel) (by decide) tX3_skipLetters_ok x_FX3 rfl (xEnv_ok (L := nX3_skipLetters X) (List.forall_mem_cons.mpr ⟨xCS_V (i := 45) (n := 0) (C := RX3) (k := 2) (mX3_here l X) (xPk_in [336, 338, 2, 64, 339] (by decide +kernel) (by decide +kernel)) (by decide +kernel) (by decide) rfl (by decide) (by decide) (rX3_here X), (List.forall_mem_cons.mpr ⟨xCS_N (i := 27) (n := 3) (host := "ValveTwins") (mX7_within l X) (xPk_in [341, 59, 342] (by decide +kernel) (by decide +kernel)) (by decide +kernel) (by decide +kernel) (by decide) (by decide), (fun _ h => absurd h List.not_mem_nil)⟩)⟩))
    (xNoNew (by decide +kernel))
    (fun as σ q h => by
      unfold fX3_skipLetters at h
      split at h
      · exact Nat.le_of_ble_eq_true rfl
      · cases h)
    (fun as σ r σ' h => by
      unfold fX3_skipLetters at h
      split at h
      · exact ⟨100000, h⟩
      · cases h)
def tX3_readNumber : List XE := [(0, .aload_n 0, 1, 0, 0, []), (1, .getfield 33, 3, 2, 3, []), (4, .istore_n 2, 1, 0, 0, []), (5, .aload_n 0, 1, 0, 0, []), (6, .invokevirtual 42, 3, 84, 0, []), (9, .aload_n 0, 1, 0, 0, []), (10, .getfield 33, 3, 2, 3, []), (13, .iload_n 2, 1, 0, 0, []), (14, .if_icmp .ne 5, 3, 19, 0, []), (17, .iconst 0, 1, 0, 0, []), (18, .ireturn, 1, 0, 0, []), (19, .iconst 0, 1, 0, 0, []), (20, .istore_n 3, 1, 0, 0, []), (21, .iconst 0, 1, 0, 0, []), (22, .istore 4, 2, 0, 0, []), (24, .iload 4, 2, 0, 0, []), (26, .iconst 4, 1, 0, 0, []), (27, .if_icmp .ge 46, 3, 73, 0, []), (30, .aload_n 0, 1, 0, 0, []), (31, .invokevirtual 45, 3, 90, 0, []), (34, .bipush 48, 2, 0, 0, []), (36, .bipush 57, 2, 0, 0, []), (38, .invokestatic 27, 3, 55, 0, []), (41, .ifCond .eq 32, 3, 73, 0, []), (44, .bipush 10, 2, 0, 0, []), (46, .iload_n 3, 1, 0, 0, []), (47, .imul, 1, 0, 0, []), (48, .aload_n 0, 1, 0, 0, []), (49, .invokevirtual 45, 3, 90, 0, []), (52, .iadd, 1, 0, 0, []), (53, .bipush 48, 2, 0, 0, []), (55, .isub, 1, 0, 0, []), (56, .istore_n 3, 1, 0, 0, []), (57, .aload_n 0, 1, 0, 0, []), (58, .dup, 1, 0, 0, []), (59, .getfield 33, 3, 2, 3, []), (62, .iconst 1, 1, 0, 0, []), (63, .iadd, 1, 0, 0, []), (64, .putfield 33, 3, 2, 3, []), (67, .iinc 4 1, 3, 0, 0, []), (70, .goto (-46), 3, 24, 0, []), (73, .iload 4, 2, 0, 0, []), (75, .ifCond .eq 12, 3, 87, 0, []), (78, .iload_n 1, 1, 0, 0, []), (79, .iconst 0, 1, 0, 0, []), (80, .iconst 2, 1, 0, 0, []), (81, .invokestatic 27, 3, 55, 0, []), (84, .ifCond .ne 5, 3, 89, 0, []), (87, .iconst 0, 1, 0, 0, []), (88, .ireturn, 1, 0, 0, []), (89, .aload_n 0, 1, 0, 0, []), (90, .getfield 13, 3, 2, 1, []), (93, .iload_n 1, 1, 0, 0, []), (94, .iload_n 3, 1, 0, 0, []), (95, .iastore, 1, 0, 0, []), (96, .iconst 1, 1, 0, 0, []), (97, .ireturn, 1, 0, 0, [])]
theorem tX3_readNumber_ok : xTblOK RX3 cX3_readNumber xFX3 5 tX3_readNumber = true := by decide +kernel
abbrev nX3_readNumber (X : Nat × (Nat → Int32)) : List (Nat × Nat × Nat × XS) := [(84, 1, 0, fX3_skipSpaces X), (90, 1, 0, fX3_here X), (55, 3, 0, fX7_within X)]
def fX3_readNumber (X : Nat × (Nat → Int32)) : XS := fun as σ => match as with
  | [.inr (.inr (some (2, a0))), .inl a1] => xIter X (xEnv (nX3_readNumber X)) (fun _ _ => some none) 1 [(24, [0, 1, 3, 4])] tX3_readNumber 100000 (0, [(0, .inr (.inr (some (2, a0)))), (1, .inl a1)], σ, 0)
  | _ => none
theorem rX3_readNumber (X : Nat × (Nat → Int32)) : ∀ as σ q, fX3_readNumber X as σ = some q → ∃ j as', as = xR 2 j :: as' := by
  intro as σ q h
  unfold fX3_readNumber at h
  split at h
  · exact ⟨_, _, rfl⟩
  · cases h
theorem mX3_readNumber (l : Launch) (X : Nat × (Nat → Int32)) : xMet l X yX3_readNumber cX3_readNumber 5 (some .boolean) 4 0 (fX3_readNumber X) :=
  xMet_of (cl := xEnv (nX3_readNumber X)) (rt := 1) (stops := [(24, [0, 1, 3, 4])]) (tbl := tX3_readNumber) (by decide +kernel) (by decide) tX3_readNumber_ok x_FX3 rfl (xEnv_ok (L := nX3_readNumber X) (List.forall_mem_cons.mpr ⟨xCS_V (i := 42) (n := 0) (C := RX3) (k := 2) (mX3_skipSpaces l X) (xPk_in [332, 334, 1, 64, 335] (by decide +kernel) (by decide +kernel)) (by decide +kernel) (by decide) rfl (by decide) (by decide) (rX3_skipSpaces X), (List.forall_mem_cons.mpr ⟨xCS_V (i := 45) (n := 0) (C := RX3) (k := 2) (mX3_here l X) (xPk_in [336, 338, 2, 64, 339] (by decide +kernel) (by decide +kernel)) (by decide +kernel) (by decide) rfl (by decide) (by decide) (rX3_here X), (List.forall_mem_cons.mpr ⟨xCS_N (i := 27) (n := 3) (host := "ValveTwins") (mX7_within l X) (xPk_in [341, 59, 342] (by decide +kernel) (by decide +kernel)) (by decide +kernel) (by decide +kernel) (by decide) (by decide), (fun _ h => absurd h List.not_mem_nil)⟩)⟩)⟩))
    (xNoNew (by decide +kernel))
    (fun as σ q h => by
      unfold fX3_readNumber at h
      split at h
      · exact Nat.le_of_ble_eq_true rfl
      · cases h)
    (fun as σ r σ' h => by
      unfold fX3_readNumber at h
      split at h
      · exact ⟨100000, h⟩
      · cases h)
def tX3_next : List XE := [(0, .aload_n 0, 1, 0, 0, []), (1, .invokevirtual 42, 3, 84, 0, []), (4, .aload_n 0, 1, 0, 0, []), (5, .invokevirtual 45, 3, 90, 0, []), (8, .iconst (-1), 1, 0, 0, []), (9, .if_icmp .ne 5, 3, 14, 0, []), (12, .iconst 0, 1, 0, 0, []), (13, .ireturn, 1, 0, 0, []), (14, .aload_n 0, 1, 0, 0, []), (15, .getfield 33, 3, 2, 3, []), (18, .istore_n 1, 1, 0, 0, []), (19, .aload_n 0, 1, 0, 0, []), (20, .invokevirtual 49, 3, 98, 0, []), (23, .aload_n 0, 1, 0, 0, []), (24, .aload_n 0, 1, 0, 0, []), (25, .getfield 9, 3, 2, 0, []), (28, .iload_n 1, 1, 0, 0, []), (29, .aload_n 0, 1, 0, 0, []), (30, .getfield 33, 3, 2, 3, []), (33, .invokestatic 52, 3, 105, 0, []), (36, .putfield 58, 3, 2, 5, []), (39, .aload_n 0, 1, 0, 0, []), (40, .getfield 58, 3, 2, 5, []), (43, .ifnonnull 10, 3, 53, 0, []), (46, .aload_n 0, 1, 0, 0, []), (47, .iload_n 1, 1, 0, 0, []), (48, .putfield 16, 3, 2, 4, []), (51, .iconst 0, 1, 0, 0, []), (52, .ireturn, 1, 0, 0, []), (53, .iconst 0, 1, 0, 0, []), (54, .istore_n 2, 1, 0, 0, []), (55, .iload_n 2, 1, 0, 0, []), (56, .aload_n 0, 1, 0, 0, []), (57, .getfield 58, 3, 2, 5, []), (60, .getfield 62, 3, 12, 0, []), (63, .if_icmp .ge 27, 3, 90, 0, []), (66, .aload_n 0, 1, 0, 0, []), (67, .iload_n 2, 1, 0, 0, []), (68, .invokevirtual 64, 3, 128, 0, []), (71, .ifCond .ne 13, 3, 84, 0, []), (74, .aload_n 0, 1, 0, 0, []), (75, .aload_n 0, 1, 0, 0, []), (76, .getfield 33, 3, 2, 3, []), (79, .putfield 16, 3, 2, 4, []), (82, .iconst 0, 1, 0, 0, []), (83, .ireturn, 1, 0, 0, []), (84, .iinc 2 1, 3, 0, 0, []), (87, .goto (-32), 3, 55, 0, []), (90, .aload_n 0, 1, 0, 0, []), (91, .invokevirtual 42, 3, 84, 0, []), (94, .aload_n 0, 1, 0, 0, []), (95, .invokevirtual 45, 3, 90, 0, []), (98, .bipush 59, 2, 0, 0, []), (100, .if_icmp .eq 13, 3, 113, 0, []), (103, .aload_n 0, 1, 0, 0, []), (104, .aload_n 0, 1, 0, 0, []), (105, .getfield 33, 3, 2, 3, []), (108, .putfield 16, 3, 2, 4, []), (111, .iconst 0, 1, 0, 0, []), (112, .ireturn, 1, 0, 0, []), (113, .aload_n 0, 1, 0, 0, []), (114, .dup, 1, 0, 0, []), (115, .getfield 33, 3, 2, 3, []), (118, .iconst 1, 1, 0, 0, []), (119, .iadd, 1, 0, 0, []), (120, .putfield 33, 3, 2, 3, []), (123, .iconst 1, 1, 0, 0, []), (124, .ireturn, 1, 0, 0, [])]
theorem tX3_next_ok : xTblOK RX3 cX3_next xFX3 3 tX3_next = true := by decide +kernel
abbrev nX3_next (X : Nat × (Nat → Int32)) : List (Nat × Nat × Nat × XS) := [(84, 1, 0, fX3_skipSpaces X), (90, 1, 0, fX3_here X), (98, 1, 0, fX3_skipLetters X), (105, 3, 0, fX6_of X), (128, 2, 0, fX3_readNumber X)]
def fX3_next (X : Nat × (Nat → Int32)) : XS := fun as σ => match as with
  | [.inr (.inr (some (2, a0)))] => xIter X (xEnv (nX3_next X)) (fun _ _ => some none) 1 [(55, [0, 2])] tX3_next 100000 (0, [(0, .inr (.inr (some (2, a0))))], σ, 0)
  | _ => none
theorem rX3_next (X : Nat × (Nat → Int32)) : ∀ as σ q, fX3_next X as σ = some q → ∃ j as', as = xR 2 j :: as' := by
  intro as σ q h
  unfold fX3_next at h
  split at h
  · exact ⟨_, _, rfl⟩
  · cases h
theorem mX3_next (l : Launch) (X : Nat × (Nat → Int32)) : xMet l X yX3_next cX3_next 3 (some .boolean) 6 0 (fX3_next X) :=
  xMet_of (cl := xEnv (nX3_next X)) (rt := 1) (stops := [(55, [0, 2])]) (tbl := tX3_next) (by decide +kernel) (by decide) tX3_next_ok x_FX3 rfl (xEnv_ok (L := nX3_next X) (List.forall_mem_cons.mpr ⟨xCS_V (i := 42) (n := 0) (C := RX3) (k := 2) (mX3_skipSpaces l X) (xPk_in [332, 334, 1, 64, 335] (by decide +kernel) (by decide +kernel)) (by decide +kernel) (by decide) rfl (by decide) (by decide) (rX3_skipSpaces X), (List.forall_mem_cons.mpr ⟨xCS_V (i := 45) (n := 0) (C := RX3) (k := 2) (mX3_here l X) (xPk_in [336, 338, 2, 64, 339] (by decide +kernel) (by decide +kernel)) (by decide +kernel) (by decide) rfl (by decide) (by decide) (rX3_here X), (List.forall_mem_cons.mpr ⟨xCS_V (i := 49) (n := 0) (C := RX3) (k := 2) (mX3_skipLetters l X) (xPk_in [343, 345, 3, 64, 346] (by decide +kernel) (by decide +kernel)) (by decide +kernel) (by decide) rfl (by decide) (by decide) (rX3_skipLetters X), (List.forall_mem_cons.mpr ⟨xCS_S (i := 52) (n := 3) (mX6_of l X) (xPk_in [347, 348, 75, 349] (by decide +kernel) (by decide +kernel)) (by decide +kernel) (by decide) (by decide), (List.forall_mem_cons.mpr ⟨xCS_V (i := 64) (n := 1) (C := RX3) (k := 2) (mX3_readNumber l X) (xPk_in [405, 407, 5, 64, 408] (by decide +kernel) (by decide +kernel)) (by decide +kernel) (by decide) rfl (by decide) (by decide) (rX3_readNumber X), (fun _ h => absurd h List.not_mem_nil)⟩)⟩)⟩)⟩)⟩))
    (xNoNew (by decide +kernel))
    (fun as σ q h => by
      unfold fX3_next at h
      split at h
      · exact Nat.le_of_ble_eq_true rfl
      · cases h)
    (fun as σ r σ' h => by
      unfold fX3_next at h
      split at h
      · exact ⟨100000, h⟩
      · cases h)
def tX3_findFault : List XE := [(0, .aload_n 0, 1, 0, 0, []), (1, .invokevirtual 36, 3, 72, 0, []), (4, .iconst 0, 1, 0, 0, []), (5, .istore_n 1, 1, 0, 0, []), (6, .iload_n 1, 1, 0, 0, []), (7, .sipush 150, 3, 0, 0, []), (10, .if_icmp .ge 16, 3, 26, 0, []), (13, .aload_n 0, 1, 0, 0, []), (14, .invokevirtual 39, 3, 78, 0, []), (17, .ifCond .eq 9, 3, 26, 0, []), (20, .iinc 1 1, 3, 0, 0, []), (23, .goto (-17), 3, 6, 0, []), (26, .aload_n 0, 1, 0, 0, []), (27, .getfield 16, 3, 2, 4, []), (30, .ireturn, 1, 0, 0, [])]
theorem tX3_findFault_ok : xTblOK RX3 cX3_findFault xFX3 2 tX3_findFault = true := by decide +kernel
abbrev nX3_findFault (X : Nat × (Nat → Int32)) : List (Nat × Nat × Nat × XS) := [(72, 1, 0, fX3_rewind X), (78, 1, 0, fX3_next X)]
def fX3_findFault (X : Nat × (Nat → Int32)) : XS := fun as σ => match as with
  | [.inr (.inr (some (2, a0)))] => xIter X (xEnv (nX3_findFault X)) (fun _ _ => some none) 0 [(6, [0, 1])] tX3_findFault 100000 (0, [(0, .inr (.inr (some (2, a0))))], σ, 0)
  | _ => none
theorem rX3_findFault (X : Nat × (Nat → Int32)) : ∀ as σ q, fX3_findFault X as σ = some q → ∃ j as', as = xR 2 j :: as' := by
  intro as σ q h
  unfold fX3_findFault at h
  split at h
  · exact ⟨_, _, rfl⟩
  · cases h
theorem mX3_findFault (l : Launch) (X : Nat × (Nat → Int32)) : xMet l X yX3_findFault cX3_findFault 2 (some .int) 7 0 (fX3_findFault X) :=
  xMet_of (cl := xEnv (nX3_findFault X)) (rt := 0) (stops := [(6, [0, 1])]) (tbl := tX3_findFault) (by decide +kernel) (by decide) tX3_findFault_ok x_FX3 rfl (xEnv_ok (L := nX3_findFault X) (List.forall_mem_cons.mpr ⟨xCS_V (i := 36) (n := 0) (C := RX3) (k := 2) (mX3_rewind l X) (xPk_in [324, 325, 326, 64, 327] (by decide +kernel) (by decide +kernel)) (by decide +kernel) (by decide) rfl (by decide) (by decide) (rX3_rewind X), (List.forall_mem_cons.mpr ⟨xCS_V (i := 39) (n := 0) (C := RX3) (k := 2) (mX3_next l X) (xPk_in [328, 329, 330, 64, 331] (by decide +kernel) (by decide +kernel)) (by decide +kernel) (by decide) rfl (by decide) (by decide) (rX3_next X), (fun _ h => absurd h List.not_mem_nil)⟩)⟩))
    (xNoNew (by decide +kernel))
    (fun as σ q h => by
      unfold fX3_findFault at h
      split at h
      · exact Nat.le_of_ble_eq_true rfl
      · cases h)
    (fun as σ r σ' h => by
      unfold fX3_findFault at h
      split at h
      · exact ⟨100000, h⟩
      · cases h)
