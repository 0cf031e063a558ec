/-! ===== what the start gives: the tables, the constants, the texts (written by wip/whole/gen2/gen63.py) ===== -/
abbrev zW : List Jvm.Cond := flatC (Jvm.Cond.and given_1 narrow_1)
abbrev zS (i : Nat) : Jvm.Term := .static RX6 (xWn.getD i "") "LValveTwins$Word;"
abbrev zA : Jvm.Term := .static RX6 "ALL" "[LValveTwins$Word;"
abbrev zM : Jvm.Term := .static RX0 "$SwitchMap$ValveTwins$Word" "[I"
abbrev zT (i : Nat) : Jvm.Term := .string RX6 (([73, 79, 82, 85, 88, 91, 94, 97] : List Nat).getD i 0)
abbrev zL : List Nat := xWt.map (fun s => s.length)
abbrev zB : List (List Int32) := xWt.map (fun s => s.toList.map (fun c => Int32.ofNat c.toNat))
set_option maxRecDepth 100000 in
theorem z_exW : ∀ i, i < 8 → Jvm.Cond.exactly (zS i) RX6 ∈ zW := by decide +kernel
set_option maxRecDepth 100000 in
theorem z_num : ∀ i, i < 8 → Jvm.Cond.eq (.field (zS i) RX6 "numbers" "I") (.int (xwn i)) ∈ zW := by decide +kernel
set_option maxRecDepth 100000 in
theorem z_let : ∀ i, i < 8 → Jvm.Cond.eq (.field (zS i) RX6 "letters" "Ljava/lang/String;") (zT i) ∈ zW := by decide +kernel
set_option maxRecDepth 100000 in
theorem z_ord : ∀ i, i < 8 → Jvm.Cond.eq (.field (zS i) "java/lang/Enum" "ordinal" "I") (.int (Int32.ofNat i)) ∈ zW := by decide +kernel
set_option maxRecDepth 100000 in
theorem z_elem : ∀ i, i < 8 → Jvm.Cond.eq (.elem zA (.int (Int32.ofNat i))) (zS i) ∈ zW := by decide +kernel
set_option maxRecDepth 100000 in
theorem z_sw : ∀ i, i < 8 → Jvm.Cond.eq (.elem zM (.int (Int32.ofNat i))) (.int (Int32.ofNat (i + 1))) ∈ zW := by decide +kernel
set_option maxRecDepth 100000 in
theorem z_one : ∀ w ∈ ([.isRef zA, .arrayOf zA (.object RX6), .eq (.length zA) (.int 8), .arrayOf zM .int, .eq (.length zM) (.int 8), .eq (.static "java/lang/String" "COMPACT_STRINGS" "Z") (.int 1), .isRef (.static "jdk/internal/util/Preconditions" "SIOOBE_FORMATTER" "Ljava/util/function/BiFunction;"), .isRef (.static "java/lang/Throwable" "UNASSIGNED_STACK" "[Ljava/lang/StackTraceElement;"), .isRef (.static "java/lang/Throwable" "SUPPRESSED_SENTINEL" "Ljava/util/List;"), .not (.castable "java/lang/IllegalArgumentException" "java/lang/IndexOutOfBoundsException"), .not (.castable "java/lang/IllegalStateException" "java/lang/IllegalArgumentException")] : List Jvm.Cond), w ∈ zW := by decide +kernel
set_option maxRecDepth 100000 in
theorem z_sex : ∀ i, i < 8 → Jvm.Cond.exactly (zT i) "java/lang/String" ∈ zW := by decide +kernel
set_option maxRecDepth 100000 in
theorem z_sco : ∀ i, i < 8 → Jvm.Cond.eq (.field (zT i) "java/lang/String" "coder" "B") (.int 0) ∈ zW := by decide +kernel
set_option maxRecDepth 100000 in
theorem z_sar : ∀ i, i < 8 → Jvm.Cond.arrayOf (.field (zT i) "java/lang/String" "value" "[B") .byte ∈ zW := by decide +kernel
set_option maxRecDepth 100000 in
theorem z_sle : ∀ i, i < 8 → Jvm.Cond.eq (.length (.field (zT i) "java/lang/String" "value" "[B")) (.int (Int32.ofNat (zL.getD i 0))) ∈ zW := by decide +kernel
set_option maxRecDepth 100000 in
theorem z_sel : ∀ i, i < 8 → ∀ j, j < zL.getD i 0 → Jvm.Cond.eq (.elem (.field (zT i) "java/lang/String" "value" "[B") (.int (Int32.ofNat j))) (.int ((zB.getD i []).getD j 0)) ∈ zW := by decide +kernel
set_option maxRecDepth 100000 in
theorem z_sne : ∀ i, i < 8 → ∀ j, j < 8 → i ≠ j → Jvm.Cond.not (.eq (zT i) (zT j)) ∈ zW ∨ Jvm.Cond.not (.eq (zT j) (zT i)) ∈ zW := by decide +kernel
set_option maxRecDepth 100000 in
theorem z_len : ∀ i, i < 8 → zL.getD i 0 = (xWt.getD i "").length ∧ zL.getD i 0 < 2 ^ 31 := by decide +kernel
set_option maxRecDepth 100000 in
theorem z_byt : ∀ i, i < 8 → ∀ j, j < zL.getD i 0 → (zB.getD i []).getD j 0 = Int32.ofNat (((xWt.getD i "").toList.getD j ' ').toNat) := by decide +kernel
set_option maxRecDepth 100000 in
theorem z_tex : ∀ q ∈ xTx, Jvm.Cond.exactly (.string RX7 q.1) "java/lang/String" ∈ zW := by decide +kernel
theorem xPk_tbl {ws : List Jvm.Cond} (ps : List Nat) (h : ws = xPk ps) : ∀ w ∈ ws, w ∈ lw_tbl := by
  intro w hw
  rw [h] at hw
  obtain ⟨i, -, hi⟩ := List.mem_filterMap.mp hw
  exact List.mem_of_getElem? hi
set_option maxRecDepth 100000 in
theorem z_nest : ∀ w ∈ xNest, w ∈ lw_tbl := xPk_tbl [598, 340] (by decide +kernel)
set_option maxRecDepth 100000 in
theorem z_tw : ∀ w ∈ xTW, w ∈ lw_tbl := xPk_tbl [615, 686, 749, 617, 619, 621] (by decide +kernel)
set_option maxRecDepth 100000 in
theorem z_tx : ∀ w ∈ xTx.map (fun q => Jvm.Cond.stringRef RX7 q.1 q.2), w ∈ lw_tbl := xPk_tbl [756, 856, 869, 654, 693] (by decide +kernel)
set_option maxRecDepth 100000 in
theorem z_inst : ∀ w ∈ ([.instantiable "ValveTwins$Book" 2, .instantiable "ValveTwins$History" 3, .instantiable "ValveTwins$Script" 6, .instantiable "ValveTwins$Twins" 12, .instantiable "ValveTwins$Valve" 16, .instantiable "ValveTwins$Word" 5, .instantiable "ValveTwins" 4, .instantiable "ValveTwinsModel" 14] : List Jvm.Cond), w ∈ lw_tbl := xPk_tbl [152, 210, 230, 90, 96, 355, 82, 875] (by decide +kernel)
set_option maxRecDepth 100000 in
theorem z_arr : ∀ w ∈ ([.arrayClass .int, .arrayClass .long, .arrayOver (.object RX4)] : List Jvm.Cond), w ∈ lw_tbl := xPk_tbl [166, 1234, 216] (by decide +kernel)
set_option maxRecDepth 100000 in
theorem z_st : ∀ w ∈ ([.laysStatic "ValveTwins$Word" "ALL" "[LValveTwins$Word;", .initialized "ValveTwins$Word", .laysStatic "ValveTwins$1" "$SwitchMap$ValveTwins$Word" "[I", .initialized "ValveTwins$1", .laysStatic "java/lang/String" "COMPACT_STRINGS" "Z", .initialized "java/lang/String", .laysStatic "jdk/internal/util/Preconditions" "SIOOBE_FORMATTER" "Ljava/util/function/BiFunction;", .initialized "jdk/internal/util/Preconditions", .laysStatic "java/lang/Throwable" "UNASSIGNED_STACK" "[Ljava/lang/StackTraceElement;", .initialized "java/lang/Throwable", .laysStatic "java/lang/Throwable" "SUPPRESSED_SENTINEL" "Ljava/util/List;", .initialized "java/lang/Throwable"] : List Jvm.Cond), w ∈ lw_tbl := xPk_tbl [351, 75, 445, 80, 366, 76, 382, 78, 640, 66, 642, 66] (by decide +kernel)
