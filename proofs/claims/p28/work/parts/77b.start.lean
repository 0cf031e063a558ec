/-! ===== what the start gives: the tables, the texts (written by wip/p28/gen/start.py) ===== -/
abbrev zW : List Jvm.Cond := flatC (Jvm.Cond.and given_1 narrow_1)
set_option maxRecDepth 100000 in
theorem z_one : ∀ w ∈ ([.isRef (.static "java/lang/Throwable" "UNASSIGNED_STACK" "[Ljava/lang/StackTraceElement;"), .isRef (.static "java/lang/Throwable" "SUPPRESSED_SENTINEL" "Ljava/util/List;"), .not (.castable "java/lang/IllegalArgumentException" "java/lang/IndexOutOfBoundsException"), .not (.castable "java/lang/IllegalStateException" "java/lang/IllegalArgumentException")] : List Jvm.Cond), w ∈ zW := by decide +kernel
set_option maxRecDepth 100000 in
theorem z_tex : ∀ q ∈ xTx, Jvm.Cond.exactly (.string RX7 q.1) "java/lang/String" ∈ zW := by decide +kernel
theorem xPk_tbl {ws : List Jvm.Cond} (ps : List Nat) (h : ws = xPk ps) : ∀ w ∈ ws, w ∈ lw_tbl := by
  intro w hw
  rw [h] at hw
  obtain ⟨i, -, hi⟩ := List.mem_filterMap.mp hw
  exact List.mem_of_getElem? hi
set_option maxRecDepth 100000 in
theorem z_nest : ∀ w ∈ xNest, w ∈ lw_tbl := xPk_tbl [616] (by decide +kernel)
set_option maxRecDepth 100000 in
theorem z_tw : ∀ w ∈ xTW, w ∈ lw_tbl := xPk_tbl [233, 307, 513, 235, 237, 239] (by decide +kernel)
set_option maxRecDepth 100000 in
theorem z_tx : ∀ w ∈ xTx.map (fun q => Jvm.Cond.stringRef RX7 q.1 q.2), w ∈ lw_tbl := xPk_tbl [520, 272, 314] (by decide +kernel)
set_option maxRecDepth 100000 in
theorem z_inst : ∀ w ∈ ([.instantiable "ValveTwins$Book" 2, .instantiable "ValveTwins$History" 3, .instantiable "ValveTwins$Script" 6, .instantiable "ValveTwins$Twins" 12, .instantiable "ValveTwins$Valve" 16, .instantiable "ValveTwins" 4] : List Jvm.Cond), w ∈ lw_tbl := xPk_tbl [92, 148, 167, 30, 36, 22] (by decide +kernel)
set_option maxRecDepth 100000 in
theorem z_arr : ∀ w ∈ ([.arrayClass .int, .arrayOver (.object RX4)] : List Jvm.Cond), w ∈ lw_tbl := xPk_tbl [105, 154] (by decide +kernel)
set_option maxRecDepth 100000 in
theorem z_st : ∀ w ∈ ([.laysStatic "java/lang/Throwable" "UNASSIGNED_STACK" "[Ljava/lang/StackTraceElement;", .initialized "java/lang/Throwable", .laysStatic "java/lang/Throwable" "SUPPRESSED_SENTINEL" "Ljava/util/List;", .initialized "java/lang/Throwable"] : List Jvm.Cond), w ∈ lw_tbl := xPk_tbl [258, 13, 260, 13] (by decide +kernel)
/-- the places of what lies below the run's own cells -/
def zLow (b : Nat) : Nat → Nat → Nat
  | 15, _ => b
  | _, _ => 0
/-- the number of a class -/
theorem z_kn {s : State} {args : Array Value} (hts : ∀ w ∈ lw_tbl, w.before args s = true) (k : Nat) (hk : k < 8) : ∃ (cC : ClassId) (iS : Nat → Nat), u_Kn s (xRR k) (xTT k) (xNN k) cC iS := by
  have hx : ∀ w ∈ xW, w.before args s = true := fun w hw => hts w (xW_in hw)
  have hi := fun w hw => hts w (z_inst w hw)
  match k, hk with
  | 0, _ => exact u_known (n := 2) hx (x_in 0 (by decide)) (hi _ (by simp [xRR, RX1]))
  | 1, _ => exact u_known (n := 3) hx (x_in 1 (by decide)) (hi _ (by simp [xRR, RX2]))
  | 2, _ => exact u_known (n := 6) hx (x_in 2 (by decide)) (hi _ (by simp [xRR, RX3]))
  | 3, _ => exact u_known (n := 12) hx (x_in 3 (by decide)) (hi _ (by simp [xRR, RX4]))
  | 4, _ => exact u_known (n := 16) hx (x_in 4 (by decide)) (hi _ (by simp [xRR, RX5]))
  | 5, _ => exact u_known (n := 2) hx (x_in 5 (by decide)) (hi _ (by simp [xRR, RX1]))
  | 6, _ => exact u_known (n := 4) hx (x_in 6 (by decide)) (hi _ (by simp [xRR, RX7]))
  | 7, _ => exact u_known (n := 2) hx (x_in 7 (by decide)) (hi _ (by simp [xRR, RX1]))
theorem z_arI {s : State} {args : Array Value} {ty : FieldType} (h : (Jvm.Cond.arrayClass ty).before args s = true) (hty : ∀ n, ty ≠ .object n) : ∃ cA : ClassId, ArrOfT s cA ty ∧ va_RA s cA ty := by
  obtain ⟨cA, kA, comp, h1, h2, h3⟩ := Cond.arrayClass_spec h
  refine ⟨cA, fun n z => ⟨fun k h => (by cases h), kA, h2, comp, h3⟩, ?_⟩
  cases ty <;> first | exact h1 | exact absurd rfl (hty _)
theorem z_arT {s : State} {args : Array Value} {C : String} (h : (Jvm.Cond.arrayOver (.object C)).before args s = true) : ∃ cA : ClassId, ArrOfT s cA (.object C) ∧ va_RA s cA (.object C) := by
  obtain ⟨comp, cA, kA, h1, -, h2, h3, h4⟩ := Cond.arrayOver_spec h
  exact ⟨cA, fun n z => ⟨fun k h => (by cases h), kA, h2, comp, h3⟩, kA, comp, h2, h3, h1, h4⟩
set_option maxRecDepth 100000 in
set_option maxHeartbeats 4000000 in
theorem y_entry {p : Program} {s : State} {m : MethodId} {meth : Method} {c : Code} {b L : Nat} {xs : Nat → Int32} (C0 : lw_At p s m meth c b L xs) :
    ∃ (D : va_G) (cI cT : ClassId) (low : Nat → Nat → Nat), ∀ ad : Nat → Nat → Nat, (∀ c j, 12 ≤ c → ad c j = low c j) → ad 15 0 = b ∧ xWK (D, ad, s.heap.size, cI, cT) s ∧ xST (D, ad, s.heap.size, cI, cT) (L, xs) s s.heap := by
  obtain ⟨-, -, -, -, -, hts, hX, hbl, -, hgv⟩ := C0
  have hs := flat_of_before _ hgv
  have hA : ∀ a : Nat, a < s.heap.size → ¬ (fun q : Nat => s.heap.size ≤ q) a := fun a h => Nat.not_le.mpr h
  have kn : ∀ k, ∃ q : ClassId × (Nat → Nat), k < 8 → u_Kn s (xRR k) (xTT k) (xNN k) q.1 q.2 := fun k => by
    by_cases hk : k < 8
    · obtain ⟨cC, iS, h⟩ := z_kn hts k hk
      exact ⟨(cC, iS), fun _ => h⟩
    · exact ⟨(0, fun _ => 0), fun h => absurd h hk⟩
  obtain ⟨cI, i1, i2⟩ := z_arI (hts _ (z_arr (.arrayClass .int) (by simp))) (fun n h => by cases h)
  obtain ⟨cT, t1, t2⟩ := z_arT (hts _ (z_arr (.arrayOver (.object RX4)) (by simp)))
  refine ⟨(fun k => (Classical.choose (kn k)).1, fun k => (Classical.choose (kn k)).2), cI, cT, zLow b, fun ad had => ?_⟩
  have e15 : ad 15 0 = b := had 15 0 (by decide)
  have hst := fun w hw => hts w (z_st w hw)
  refine ⟨e15, ⟨⟨fun k q hq => ?_, fun k q hq => ?_⟩, fun w hw => word_at (State.WarmedH.refl s) (xW_good hw) (hts w (xW_in hw)), fun w hw => ?_, fun w hw => ?_, fun q hq => ?_, va_Nc.of (hs _ (z_one _ (by simp))), va_Nc.of (hs _ (z_one _ (by simp)))⟩, ?_⟩
  · have hk : k < 8 := (List.getElem?_eq_some_iff.mp hq).1
    rw [x_cl k hk] at hq
    cases hq
    exact Classical.choose_spec (kn k) hk
  · match k, hq with
    | 0, hq => cases hq; exact ⟨i1, i2⟩
    | 1, hq => cases hq; exact ⟨t1, t2⟩
    | k + 2, hq => cases hq
  · refine va_Nw.of ?_ (hts w (z_nest w hw))
    simp only [xNest, List.mem_cons, List.not_mem_nil, or_false] at hw
    rcases hw with rfl <;> rfl
  · refine va_Nw.of ?_ (hts w (z_tw w hw))
    simp only [xTW, List.mem_cons, List.not_mem_nil, or_false] at hw
    rcases hw with rfl | rfl | rfl | rfl | rfl | rfl <;> rfl
  · have h1 := hts _ (z_tx (.stringRef RX7 q.1 q.2) (List.mem_map.mpr ⟨q, hq, rfl⟩))
    obtain ⟨a, c, cA, kA, q1, -⟩ := Cond.exactly_spec (args := #[Value.ref b]) (first := s) (o := none) (s := s) (idx := []) (t := .string RX7 q.1) (cls := "java/lang/String") (hs _ (z_tex q hq))
    exact ⟨a, vk_R.of (A := #[Value.ref b]) h1 q1⟩
  · exact ⟨Nat.le_refl _, ⟨by show va_X (ad 15 0) L xs s s.heap; rw [e15]; exact hX, by show ¬ (s.heap.size ≤ ad 15 0); rw [e15]; exact Nat.not_le.mpr hbl⟩, vx_Zqof (hst _ (List.mem_of_getElem? (i := 0) rfl)) (hst _ (List.mem_of_getElem? (i := 1) rfl)) (hs _ (z_one _ (List.mem_of_getElem? (i := 0) rfl))) hA, vx_Zqof (hst _ (List.mem_of_getElem? (i := 2) rfl)) (hst _ (List.mem_of_getElem? (i := 3) rfl)) (hs _ (z_one _ (List.mem_of_getElem? (i := 1) rfl))) hA⟩
