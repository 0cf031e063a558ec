theorem va_T_cg {ty : FieldType} {t N : Nat} {f g : Nat → Value} {A : Nat → Prop} {U : State} {H : Heap} (h : va_T ty t N f A U H) (e : ∀ j, j < N → f j = g j) : va_T ty t N g A U H := by
  obtain ⟨cell, h1, h2, h3, h4, h5, h6, h7⟩ := h
  exact ⟨cell, h1, h2, h3, h4, h5, fun j hj => (h6 j hj).trans (congrArg some (e j hj)), h7⟩
/-- the places of what lies below the run's own cells -/
def zLow (b aAll aSw : Nat) (adW adK : Nat → Nat) : Nat → Nat → Nat
  | 12, j => adW j
  | 13, _ => aAll
  | 14, _ => aSw
  | 15, _ => b
  | 16, j => adK j
  | _, _ => 0
/-- the number of a class -/
theorem z_kn {s : State} {args : Array Value} (hts : ∀ w ∈ lw_tbl, w.before args s = true) (k : Nat) (hk : k < 8) : ∃ (cC : ClassId) (iS : Nat → Nat), u_Kn s (xRR k) (xTT k) (xNN k) cC iS := by
  have hx : ∀ w ∈ xW, w.before args s = true := fun w hw => hts w (xW_in hw)
  have hi := fun w hw => hts w (z_inst w hw)
  match k, hk with
  | 0, _ => exact u_known (n := 2) hx (x_in 0 (by decide)) (hi _ (by simp [xRR, RX1]))
  | 1, _ => exact u_known (n := 3) hx (x_in 1 (by decide)) (hi _ (by simp [xRR, RX2]))
  | 2, _ => exact u_known (n := 6) hx (x_in 2 (by decide)) (hi _ (by simp [xRR, RX3]))
  | 3, _ => exact u_known (n := 12) hx (x_in 3 (by decide)) (hi _ (by simp [xRR, RX4]))
  | 4, _ => exact u_known (n := 16) hx (x_in 4 (by decide)) (hi _ (by simp [xRR, RX5]))
  | 5, _ => exact u_known (n := 5) hx (x_in 5 (by decide)) (hi _ (by simp [xRR, RX6]))
  | 6, _ => exact u_known (n := 4) hx (x_in 6 (by decide)) (hi _ (by simp [xRR, RX7]))
  | 7, _ => exact u_known (n := 14) hx (x_in 7 (by decide)) (hi _ (by simp [xRR, RX8]))
theorem z_arI {s : State} {args : Array Value} {ty : FieldType} (h : (Jvm.Cond.arrayClass ty).before args s = true) (hty : ∀ n, ty ≠ .object n) : ∃ cA : ClassId, ArrOfT s cA ty ∧ va_RA s cA ty := by
  obtain ⟨cA, kA, comp, h1, h2, h3⟩ := Cond.arrayClass_spec h
  refine ⟨cA, fun n z => ⟨fun k h => (by cases h), kA, h2, comp, h3⟩, ?_⟩
  cases ty <;> first | exact h1 | exact absurd rfl (hty _)
theorem z_arT {s : State} {args : Array Value} {C : String} (h : (Jvm.Cond.arrayOver (.object C)).before args s = true) : ∃ cA : ClassId, ArrOfT s cA (.object C) ∧ va_RA s cA (.object C) := by
  obtain ⟨comp, cA, kA, h1, -, h2, h3, h4⟩ := Cond.arrayOver_spec h
  exact ⟨cA, fun n z => ⟨fun k h => (by cases h), kA, h2, comp, h3⟩, kA, comp, h2, h3, h1, h4⟩
set_option maxRecDepth 100000 in
set_option maxHeartbeats 4000000 in
theorem y_entry {p : Program} {s : State} {m : MethodId} {meth : Method} {c : Code} {b L : Nat} {xs : Nat → Int32} (C0 : lw_At p s m meth c b L xs) :
    ∃ (D : va_G) (cI cL cT : ClassId) (low : Nat → Nat → Nat), ∀ ad : Nat → Nat → Nat, (∀ c j, 12 ≤ c → ad c j = low c j) → ad 15 0 = b ∧ xWK (D, ad, s.heap.size, cI, cL, cT) s ∧ xST (D, ad, s.heap.size, cI, cL, cT) (L, xs) s s.heap := by
  obtain ⟨-, -, -, -, -, hts, hX, hbl, -, hgv⟩ := C0
  have hs := flat_of_before _ hgv
  have hA : ∀ a : Nat, a < s.heap.size → ¬ (fun q : Nat => s.heap.size ≤ q) a := fun a h => Nat.not_le.mpr h
  have kn : ∀ k, ∃ q : ClassId × (Nat → Nat), k < 8 → u_Kn s (xRR k) (xTT k) (xNN k) q.1 q.2 := fun k => by
    by_cases hk : k < 8
    · obtain ⟨cC, iS, h⟩ := z_kn hts k hk
      exact ⟨(cC, iS), fun _ => h⟩
    · exact ⟨(0, fun _ => 0), fun h => absurd h hk⟩
  obtain ⟨cI, i1, i2⟩ := z_arI (hts _ (z_arr (.arrayClass .int) (by simp))) (fun n h => by cases h)
  obtain ⟨cL, l1, l2⟩ := z_arI (hts _ (z_arr (.arrayClass .long) (by simp))) (fun n h => by cases h)
  obtain ⟨cT, t1, t2⟩ := z_arT (hts _ (z_arr (.arrayOver (.object RX4)) (by simp)))
  have hw0 : ∀ i, ∃ a : Nat, i < 8 → (zS i).eval #[Value.ref b] s none [] s = some (.ref a) := fun i => by
    by_cases hi : i < 8
    · obtain ⟨a, c, cA, kA, q1, -⟩ := Cond.exactly_spec (args := #[Value.ref b]) (first := s) (o := none) (s := s) (idx := []) (t := zS i) (cls := RX6) (hs _ (z_exW i hi))
      exact ⟨a, fun _ => q1⟩
    · exact ⟨0, fun h => absurd h hi⟩
  obtain ⟨adW, hW⟩ : ∃ adW : Nat → Nat, ∀ i, i < 8 → (zS i).eval #[Value.ref b] s none [] s = some (.ref (adW i)) := ⟨fun i => Classical.choose (hw0 i), fun i => Classical.choose_spec (hw0 i)⟩
  obtain ⟨adK, adV, hK, hKe⟩ := vk_Sof (args := #[Value.ref b]) (s := s) (N := 8) (tm := zT) (len := zL) (byt := zB) (A := fun q : Nat => s.heap.size ≤ q) (fun i hi => (z_len i hi).2) (fun i hi => hs _ (z_sex i hi)) (fun i hi => hs _ (z_sco i hi)) (fun i hi => hs _ (z_sar i hi)) (fun i hi => hs _ (z_sle i hi)) (fun i hi j hj => hs _ (z_sel i hi j hj)) (fun i j hi hj hne => (z_sne i hi j hj hne).imp (hs _) (hs _)) hA
  obtain ⟨aAll, hAll, hAT⟩ := va_Tof (args := #[Value.ref b]) (s := s) (tm := zA) (ty := .object RX6) (N := 8) (f := fun i => .ref (adW i)) (A := fun q : Nat => s.heap.size ≤ q) (by decide) (hs _ (z_one _ (by simp))) (va_eqt (hs _ (z_one (.eq (.length zA) (.int 8)) (by simp)))) (fun j hj => va_eqv (hs _ (z_elem j hj)) (hW j hj)) hA
  obtain ⟨aSw, hSw, hST⟩ := va_Tof (args := #[Value.ref b]) (s := s) (tm := zM) (ty := .int) (N := 8) (f := fun i => .int (Int32.ofNat (i + 1))) (A := fun q : Nat => s.heap.size ≤ q) (by decide) (hs _ (z_one _ (by simp))) (va_eqt (hs _ (z_one (.eq (.length zM) (.int 8)) (by simp)))) (fun j hj => va_eqt (hs _ (z_sw j hj))) hA
  refine ⟨(fun k => (Classical.choose (kn k)).1, fun k => (Classical.choose (kn k)).2), cI, cL, cT, zLow b aAll aSw adW adK, fun ad had => ?_⟩
  have e12 : ∀ j, ad 12 j = adW j := fun j => had 12 j (by decide)
  have e13 : ad 13 0 = aAll := had 13 0 (by decide)
  have e14 : ad 14 0 = aSw := had 14 0 (by decide)
  have e15 : ad 15 0 = b := had 15 0 (by decide)
  have e16 : ∀ j, ad 16 j = adK j := fun j => had 16 j (by decide)
  have hst := fun w hw => hts w (z_st w hw)
  refine ⟨e15, ⟨⟨fun k q hq => ?_, fun k q hq => ?_⟩, fun w hw => word_at (State.WarmedH.refl s) (xW_good hw) (hts w (xW_in hw)), fun w hw => ?_, fun w hw => ?_, fun q hq => ?_, va_Nc.of (hs _ (z_one _ (by simp))), va_Nc.of (hs _ (z_one _ (by simp)))⟩, ?_⟩
  · have hk : k < 8 := (List.getElem?_eq_some_iff.mp hq).1
    rw [x_cl k hk] at hq
    cases hq
    exact Classical.choose_spec (kn k) hk
  · match k, hq with
    | 0, hq => cases hq; exact ⟨i1, i2⟩
    | 1, hq => cases hq; exact ⟨l1, l2⟩
    | 2, hq => cases hq; exact ⟨t1, t2⟩
    | k + 3, hq => cases hq
  · refine va_Nw.of ?_ (hts w (z_nest w hw))
    simp only [xNest, List.mem_cons, List.not_mem_nil, or_false] at hw
    rcases hw with rfl | rfl <;> rfl
  · refine va_Nw.of ?_ (hts w (z_tw w hw))
    simp only [xTW, List.mem_cons, List.not_mem_nil, or_false] at hw
    rcases hw with rfl | rfl | rfl | rfl | rfl | rfl <;> rfl
  · have h1 := hts _ (z_tx (.stringRef RX7 q.1 q.2) (List.mem_map.mpr ⟨q, hq, rfl⟩))
    obtain ⟨a, c, cA, kA, q1, -⟩ := Cond.exactly_spec (args := #[Value.ref b]) (first := s) (o := none) (s := s) (idx := []) (t := .string RX7 q.1) (cls := "java/lang/String") (hs _ (z_tex q hq))
    exact ⟨a, vk_R.of (A := #[Value.ref b]) h1 q1⟩
  · refine ⟨Nat.le_refl _, ⟨by show va_X (ad 15 0) L xs s s.heap; rw [e15]; exact hX, by show ¬ (s.heap.size ≤ ad 15 0); rw [e15]; exact Nat.not_le.mpr hbl⟩, vx_Zqof (hst _ (List.mem_of_getElem? (i := 8) rfl)) (hst _ (List.mem_of_getElem? (i := 9) rfl)) (hs _ (z_one _ (List.mem_of_getElem? (i := 7) rfl))) hA, vx_Zqof (hst _ (List.mem_of_getElem? (i := 10) rfl)) (hst _ (List.mem_of_getElem? (i := 11) rfl)) (hs _ (z_one _ (List.mem_of_getElem? (i := 8) rfl))) hA, ?_, ?_, ?_, ?_, ?_, ?_, ?_, fun i hi => ?_, fun i hi => ?_, fun i hi => ⟨?_, adV i, ?_, ?_⟩, ?_, ?_⟩
    · show va_Z RX6 "ALL" "[LValveTwins$Word;" (.ref (ad 13 0)) _ s s.heap
      rw [e13]
      exact va_Zref (hst _ (by simp [RX6])) (hst _ (by simp [RX6])) hAll hA
    · show va_T (.object RX6) (ad 13 0) 8 (fun i => .ref (ad 12 i)) _ s s.heap
      rw [e13]
      exact va_T_cg hAT (fun j _ => by rw [e12])
    · show va_Z RX0 "$SwitchMap$ValveTwins$Word" "[I" (.ref (ad 14 0)) _ s s.heap
      rw [e14]
      exact va_Zref (hst _ (by simp [RX0])) (hst _ (by simp [RX0])) hSw hA
    · show va_T .int (ad 14 0) 8 _ _ s s.heap
      rw [e14]
      exact hST
    · exact va_Efof (nm := xWn) (tm := fun i => .int (xwn i)) (E := RX6) (d0 := "LValveTwins$Word;") (fun i hi => by show _ = some (Value.ref (ad 12 i)); rw [e12]; exact hW i hi) (fun i hi => hs _ (z_num i hi)) (fun i hi => rfl) hA
    · exact va_Efof (nm := xWn) (tm := zT) (E := RX6) (d0 := "LValveTwins$Word;") (fun i hi => by show _ = some (Value.ref (ad 12 i)); rw [e12]; exact hW i hi) (fun i hi => hs _ (z_let i hi)) (fun i hi => by show _ = some (Value.ref (ad 16 i)); rw [e16]; exact hKe i hi) hA
    · exact va_Efof (nm := xWn) (tm := fun i => .int (Int32.ofNat i)) (E := RX6) (d0 := "LValveTwins$Word;") (fun i hi => by show _ = some (Value.ref (ad 12 i)); rw [e12]; exact hW i hi) (fun i hi => hs _ (z_ord i hi)) (fun i hi => rfl) hA
    · show va_O RX6 (ad 12 i) _ s s.heap
      rw [e12]
      exact va_Oof (hs _ (z_exW i hi)) (hW i hi) hA
    · show va_O "java/lang/String" (ad 16 i) _ s s.heap
      rw [e16]
      exact (hK.1 i hi).1
    · show va_OF "java/lang/String" "coder" "B" (.int 0) (ad 16 i) _ s s.heap
      rw [e16]
      exact (hK.1 i hi).2.1
    · show va_OF "java/lang/String" "value" "[B" (.ref (adV i)) (ad 16 i) _ s s.heap
      rw [e16]
      exact (hK.1 i hi).2.2.1
    · have h1 := (hK.1 i hi).2.2.2
      rw [← (z_len i hi).1]
      exact va_T_cg h1 (fun j hj => congrArg Value.int (z_byt i hi j hj))
    · exact va_Zof (hst _ (by simp)) (hst _ (by simp)) (va_eqt (hs _ (z_one _ (by simp)))) hA
    · have h1 := vx_Zqof (C := "jdk/internal/util/Preconditions") (n := "SIOOBE_FORMATTER") (d := "Ljava/util/function/BiFunction;") (hst _ (by simp)) (hst _ (by simp)) (hs _ (z_one _ (by simp))) hA
      exact h1.1
