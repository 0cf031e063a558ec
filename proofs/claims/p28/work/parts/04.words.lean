/-! ===== the good words of the tables, by their places (written by wip/whole/gen/wordsgen.py) ===== -/
def xW : List Jvm.Cond := lw_tbl.filter goodWord
def xPk (ps : List Nat) : List Jvm.Cond := ps.filterMap (fun i => lw_tbl[i]?)
theorem xPk_in {ws : List Jvm.Cond} (ps : List Nat) (h : ws = xPk ps) (g : ws.all goodWord = true) : ∀ w ∈ ws, w ∈ xW := by
  intro w hw
  refine List.mem_filter.mpr ⟨?_, List.all_eq_true.mp g w hw⟩
  rw [h] at hw
  obtain ⟨i, -, hi⟩ := List.mem_filterMap.mp hw
  exact List.mem_of_getElem? hi
theorem xW_good {w : Jvm.Cond} (h : w ∈ xW) : (w.onTables && w.keeps) = true ∨ ∃ ty, w = .arrayClass ty := good_of_word (List.mem_filter.mp h).2
theorem xW_in {w : Jvm.Cond} (h : w ∈ xW) : w ∈ lw_tbl := (List.mem_filter.mp h).1
theorem x_iX1 : ∀ w ∈ u_ws RX1 TX1 2, w ∈ xW := xPk_in [100, 102] (by decide +kernel) (by decide +kernel)
theorem x_iX2 : ∀ w ∈ u_ws RX2 TX2 3, w ∈ xW := xPk_in [159, 161, 163] (by decide +kernel) (by decide +kernel)
theorem x_iX3 : ∀ w ∈ u_ws RX3 TX3 6, w ∈ xW := xPk_in [175, 177, 179, 181, 183, 185] (by decide +kernel) (by decide +kernel)
theorem x_iX4 : ∀ w ∈ u_ws RX4 TX4 12, w ∈ xW := xPk_in [122, 124, 126, 128, 130, 132, 134, 136, 138, 140, 142, 144] (by decide +kernel) (by decide +kernel)
theorem x_iX5 : ∀ w ∈ u_ws RX5 TX5 16, w ∈ xW := xPk_in [58, 60, 62, 64, 66, 68, 70, 72, 74, 76, 78, 80, 82, 84, 86, 88] (by decide +kernel) (by decide +kernel)
theorem x_iX7 : ∀ w ∈ u_ws RX7 TX7 4, w ∈ xW := xPk_in [192, 194, 196, 198] (by decide +kernel) (by decide +kernel)
def xFX1 : List Jvm.Cond := [.initialized "java/lang/System", .fieldLink RX1 11 "ValveTwins$Book" "cells" "[I", .fieldLink RX1 21 "ValveTwins$Book" "rows" "I", .methodLink RX1 15 arraycopyName, .static arraycopyName, .native arraycopyName, .constant RX1 29 (-1000000)]
theorem x_FX1 : ∀ w ∈ xFX1, w ∈ xW := xPk_in [19, 97, 98, 340, 341, 342, 617] (by decide +kernel) (by decide +kernel)
def xFX2 : List Jvm.Cond := [.fieldLink RX2 11 "ValveTwins$History" "states" "[LValveTwins$Twins;", .fieldLink RX2 16 "ValveTwins$History" "latest" "I", .fieldLink RX2 30 "ValveTwins$History" "count" "I"]
theorem x_FX2 : ∀ w ∈ xFX2, w ∈ xW := xPk_in [156, 157, 158] (by decide +kernel) (by decide +kernel)
def xFX3 : List Jvm.Cond := [.fieldLink RX3 9 "ValveTwins$Script" "bytes" "[I", .fieldLink RX3 13 "ValveTwins$Script" "numbers" "[I", .fieldLink RX3 16 "ValveTwins$Script" "fault" "I"]
theorem x_FX3 : ∀ w ∈ xFX3, w ∈ xW := xPk_in [172, 173, 174] (by decide +kernel) (by decide +kernel)
def xFX4 : List Jvm.Cond := [.fieldLink RX4 103 "ValveTwins$Valve" "position" "I", .fieldLink RX4 73 "ValveTwins$Book" "rows" "I", .fieldLink RX4 14 "ValveTwins$Twins" "first" "LValveTwins$Valve;", .fieldLink RX4 20 "ValveTwins$Twins" "second" "LValveTwins$Valve;", .fieldLink RX4 26 "ValveTwins$Twins" "book" "LValveTwins$Book;", .fieldLink RX4 44 "ValveTwins$Twins" "signal" "I", .fieldLink RX4 47 "ValveTwins$Twins" "on" "I", .fieldLink RX4 30 "ValveTwins$Twins" "gain" "I", .fieldLink RX4 50 "ValveTwins$Twins" "wanted" "I", .fieldLink RX4 34 "ValveTwins$Twins" "rate" "I", .fieldLink RX4 53 "ValveTwins$Twins" "time" "I", .fieldLink RX4 56 "ValveTwins$Twins" "volume" "I", .fieldLink RX4 59 "ValveTwins$Twins" "missed" "I", .fieldLink RX4 62 "ValveTwins$Twins" "leaked" "I"]
theorem x_FX4 : ∀ w ∈ xFX4, w ∈ xW := xPk_in [50, 99, 106, 107, 108, 110, 112, 113, 114, 115, 116, 118, 120, 121] (by decide +kernel) (by decide +kernel)
def xFX5 : List Jvm.Cond := [.fieldLink RX5 24 "ValveTwins$Valve" "from" "I", .fieldLink RX5 27 "ValveTwins$Valve" "to" "I", .fieldLink RX5 30 "ValveTwins$Valve" "falling" "Z", .fieldLink RX5 9 "ValveTwins$Valve" "speed" "I", .fieldLink RX5 15 "ValveTwins$Valve" "stick" "I", .fieldLink RX5 18 "ValveTwins$Valve" "extraStick" "I", .fieldLink RX5 21 "ValveTwins$Valve" "size" "I", .fieldLink RX5 34 "ValveTwins$Valve" "characteristic" "I", .fieldLink RX5 37 "ValveTwins$Valve" "position" "I", .fieldLink RX5 40 "ValveTwins$Valve" "lastWay" "I", .fieldLink RX5 43 "ValveTwins$Valve" "running" "Z", .fieldLink RX5 46 "ValveTwins$Valve" "travel" "I", .fieldLink RX5 49 "ValveTwins$Valve" "reversals" "I", .fieldLink RX5 52 "ValveTwins$Valve" "travelInAll" "I", .fieldLink RX5 55 "ValveTwins$Valve" "reversalsInAll" "I", .fieldLink RX5 58 "ValveTwins$Valve" "services" "I"]
theorem x_FX5 : ∀ w ∈ xFX5, w ∈ xW := xPk_in [41, 42, 43, 44, 45, 46, 47, 48, 49, 51, 52, 53, 54, 55, 56, 57] (by decide +kernel) (by decide +kernel)
def xFX7 : List Jvm.Cond := [.fieldLink RX7 116 "ValveTwins$Twins" "book" "LValveTwins$Book;", .fieldLink RX7 105 "ValveTwins$Twins" "signal" "I", .fieldLink RX7 126 "ValveTwins$Twins" "time" "I", .fieldLink RX7 131 "ValveTwins$Twins" "volume" "I", .fieldLink RX7 10 "ValveTwins" "now" "LValveTwins$Twins;", .fieldLink RX7 16 "ValveTwins" "guess" "LValveTwins$Twins;", .fieldLink RX7 22 "ValveTwins" "history" "LValveTwins$History;", .fieldLink RX7 29 "ValveTwins" "script" "LValveTwins$Script;", .constant RX7 235 200000]
theorem x_FX7 : ∀ w ∈ xFX7, w ∈ xW := xPk_in [109, 111, 117, 119, 188, 189, 190, 191, 510] (by decide +kernel) (by decide +kernel)
def xFL : List Jvm.Cond := [.constant RL 7 40503, .constant RL 8 2147483647, .constant RL 46 10000000, .constant RL 69 (-2000000001), .constant RL 90 (-2000000002), .constant RL 112 (-2000000003), .constant RL 143 (-1000000)]
theorem x_FL : ∀ w ∈ xFL, w ∈ xW := xPk_in [204, 208, 212, 354, 355, 572, 626] (by decide +kernel) (by decide +kernel)
