section
/-! ===== the law: its table, its calls ===== -/
abbrev nL_law (X : Nat × (Nat → Int32)) : List (Nat × Nat × Nat × XS) := [(163, 6, 2, fL_setRange X), (172, 5, 0, fX8_setRange X), (174, 1, 0, fX8_thrown X), (181, 5, 2, fL_setValve X), (186, 4, 0, fX8_setValve X), (189, 3, 1, fL_setSignal X), (194, 2, 0, fX8_setSignal X), (197, 4, 1, fL_tune X), (202, 3, 0, fX8_tune X), (205, 3, 1, fL_service X), (208, 2, 0, fX8_service X), (211, 4, 2, fL_putStem X), (214, 3, 0, fX8_putStem X), (217, 3, 2, fL_run X), (220, 2, 0, fX8_run X), (223, 4, 2, fL_valve X), (226, 3, 0, fX8_valve X), (229, 3, 1, fL_pair X), (232, 2, 0, fX8_pair X), (235, 4, 1, fL_ledger X), (238, 3, 0, fX8_ledger X), (241, 4, 2, fL_ledgerSum X), (244, 3, 0, fX8_ledgerSum X), (257, 3, 1, fL_idealFlow X), (260, 2, 0, fX8_idealFlow X), (263, 3, 1, fL_signalFor X), (266, 2, 0, fX8_signalFor X), (268, 1, 0, fX7_flatSignals X), (274, 1, 0, fX8_flatSignals X), (276, 1, 0, fX7_firstFall X), (282, 1, 0, fX8_firstFall X), (285, 4, 2, fL_moveFor X), (288, 3, 0, fX8_moveFor X), (291, 3, 1, fL_restAfter X), (294, 2, 0, fX8_restAfter X), (297, 5, 2, fL_wornAfter X), (300, 4, 0, fX8_wornAfter X), (303, 3, 1, fL_missedWithin X), (306, 2, 0, fX8_missedWithin X), (309, 3, 2, fL_type X), (312, 2, 0, fX8_type X), (314, 1, 0, fX7_clearCommands X), (320, 1, 0, fX8_clearCommands X), (322, 1, 0, fX7_runCommands X), (328, 1, 0, fX8_runCommands X), (331, 2, 1, fL_undo X), (336, 1, 0, fX8_undo X), (338, 1, 0, fX7_digest X), (346, 1, 0, fX8_digest X)]
theorem nL_ok (l : Launch) (X : Nat × (Nat → Int32)) (hl : l.stackTraces = false) : ∀ a n κ f, xEnv (nL_law X) a = some (n, κ, f) → xCS l X RL 12 a n κ f :=
  xEnv_ok (L := nL_law X) (List.forall_mem_cons.mpr ⟨xCS_SH (i := 81) (n := 6) (mL_setRange l X hl) (xPk_in [601, 602, 58, 603] (by decide +kernel) (by decide +kernel)) (by decide +kernel) (by decide) (by decide), (List.forall_mem_cons.mpr ⟨xCS_V (i := 86) (n := 4) (C := RX8) (k := 7) (mX8_setRange l X) (xPk_in [931, 932, 933, 65, 934] (by decide +kernel) (by decide +kernel)) (by decide +kernel) (by decide) rfl (by decide) (by decide) (rX8_setRange X), (List.forall_mem_cons.mpr ⟨xCS_V (i := 87) (n := 0) (C := RX8) (k := 7) (mX8_thrown l X) (xPk_in [927, 928, 929, 65, 930] (by decide +kernel) (by decide +kernel)) (by decide +kernel) (by decide) rfl (by decide) (by decide) (rX8_thrown X), (List.forall_mem_cons.mpr ⟨xCS_SH (i := 90) (n := 5) (mL_setValve l X hl) (xPk_in [700, 701, 58, 702] (by decide +kernel) (by decide +kernel)) (by decide +kernel) (by decide) (by decide), (List.forall_mem_cons.mpr ⟨xCS_V (i := 93) (n := 3) (C := RX8) (k := 7) (mX8_setValve l X) (xPk_in [969, 970, 971, 65, 972] (by decide +kernel) (by decide +kernel)) (by decide +kernel) (by decide) rfl (by decide) (by decide) (rX8_setValve X), (List.forall_mem_cons.mpr ⟨xCS_SH (i := 94) (n := 3) (mL_setSignal l X hl) (xPk_in [707, 708, 58, 709] (by decide +kernel) (by decide +kernel)) (by decide +kernel) (by decide) (by decide), (List.forall_mem_cons.mpr ⟨xCS_V (i := 97) (n := 1) (C := RX8) (k := 7) (mX8_setSignal l X) (xPk_in [984, 985, 986, 65, 987] (by decide +kernel) (by decide +kernel)) (by decide +kernel) (by decide) rfl (by decide) (by decide) (rX8_setSignal X), (List.forall_mem_cons.mpr ⟨xCS_SH (i := 98) (n := 4) (mL_tune l X hl) (xPk_in [714, 715, 58, 716] (by decide +kernel) (by decide +kernel)) (by decide +kernel) (by decide) (by decide), (List.forall_mem_cons.mpr ⟨xCS_V (i := 101) (n := 2) (C := RX8) (k := 7) (mX8_tune l X) (xPk_in [996, 997, 998, 65, 999] (by decide +kernel) (by decide +kernel)) (by decide +kernel) (by decide) rfl (by decide) (by decide) (rX8_tune X), (List.forall_mem_cons.mpr ⟨xCS_SH (i := 102) (n := 3) (mL_service l X hl) (xPk_in [721, 722, 58, 723] (by decide +kernel) (by decide +kernel)) (by decide +kernel) (by decide) (by decide), (List.forall_mem_cons.mpr ⟨xCS_V (i := 104) (n := 1) (C := RX8) (k := 7) (mX8_service l X) (xPk_in [1007, 1008, 1009, 65, 1010] (by decide +kernel) (by decide +kernel)) (by decide +kernel) (by decide) rfl (by decide) (by decide) (rX8_service X), (List.forall_mem_cons.mpr ⟨xCS_SH (i := 105) (n := 4) (mL_putStem l X hl) (xPk_in [728, 729, 58, 730] (by decide +kernel) (by decide +kernel)) (by decide +kernel) (by decide) (by decide), (List.forall_mem_cons.mpr ⟨xCS_V (i := 107) (n := 2) (C := RX8) (k := 7) (mX8_putStem l X) (xPk_in [1019, 1020, 1021, 65, 1022] (by decide +kernel) (by decide +kernel)) (by decide +kernel) (by decide) rfl (by decide) (by decide) (rX8_putStem X), (List.forall_mem_cons.mpr ⟨xCS_SH (i := 108) (n := 3) (mL_run l X hl) (xPk_in [739, 740, 58, 741] (by decide +kernel) (by decide +kernel)) (by decide +kernel) (by decide) (by decide), (List.forall_mem_cons.mpr ⟨xCS_V (i := 110) (n := 1) (C := RX8) (k := 7) (mX8_run l X) (xPk_in [1027, 1028, 1029, 65, 1030] (by decide +kernel) (by decide +kernel)) (by decide +kernel) (by decide) rfl (by decide) (by decide) (rX8_run X), (List.forall_mem_cons.mpr ⟨xCS_SH (i := 111) (n := 4) (mL_valve l X hl) (xPk_in [763, 764, 58, 765] (by decide +kernel) (by decide +kernel)) (by decide +kernel) (by decide) (by decide), (List.forall_mem_cons.mpr ⟨xCS_V (i := 113) (n := 2) (C := RX8) (k := 7) (mX8_valve l X) (xPk_in [1086, 1087, 1088, 65, 1089] (by decide +kernel) (by decide +kernel)) (by decide +kernel) (by decide) rfl (by decide) (by decide) (rX8_valve X), (List.forall_mem_cons.mpr ⟨xCS_SH (i := 114) (n := 3) (mL_pair l X hl) (xPk_in [770, 771, 58, 772] (by decide +kernel) (by decide +kernel)) (by decide +kernel) (by decide) (by decide), (List.forall_mem_cons.mpr ⟨xCS_V (i := 116) (n := 1) (C := RX8) (k := 7) (mX8_pair l X) (xPk_in [1094, 1095, 1096, 65, 1097] (by decide +kernel) (by decide +kernel)) (by decide +kernel) (by decide) rfl (by decide) (by decide) (rX8_pair X), (List.forall_mem_cons.mpr ⟨xCS_SH (i := 117) (n := 4) (mL_ledger l X hl) (xPk_in [777, 778, 58, 779] (by decide +kernel) (by decide +kernel)) (by decide +kernel) (by decide) (by decide), (List.forall_mem_cons.mpr ⟨xCS_V (i := 119) (n := 2) (C := RX8) (k := 7) (mX8_ledger l X) (xPk_in [1102, 1103, 1104, 65, 1105] (by decide +kernel) (by decide +kernel)) (by decide +kernel) (by decide) rfl (by decide) (by decide) (rX8_ledger X), (List.forall_mem_cons.mpr ⟨xCS_SH (i := 120) (n := 4) (mL_ledgerSum l X hl) (xPk_in [784, 785, 58, 786] (by decide +kernel) (by decide +kernel)) (by decide +kernel) (by decide) (by decide), (List.forall_mem_cons.mpr ⟨xCS_V (i := 122) (n := 2) (C := RX8) (k := 7) (mX8_ledgerSum l X) (xPk_in [1107, 1108, 1109, 65, 1110] (by decide +kernel) (by decide +kernel)) (by decide +kernel) (by decide) rfl (by decide) (by decide) (rX8_ledgerSum X), (List.forall_mem_cons.mpr ⟨xCS_SH (i := 128) (n := 3) (mL_idealFlow l X hl) (xPk_in [791, 792, 58, 793] (by decide +kernel) (by decide +kernel)) (by decide +kernel) (by decide) (by decide), (List.forall_mem_cons.mpr ⟨xCS_V (i := 130) (n := 1) (C := RX8) (k := 7) (mX8_idealFlow l X) (xPk_in [1120, 1121, 1122, 65, 1123] (by decide +kernel) (by decide +kernel)) (by decide +kernel) (by decide) rfl (by decide) (by decide) (rX8_idealFlow X), (List.forall_mem_cons.mpr ⟨xCS_SH (i := 131) (n := 3) (mL_signalFor l X hl) (xPk_in [799, 800, 58, 801] (by decide +kernel) (by decide +kernel)) (by decide +kernel) (by decide) (by decide), (List.forall_mem_cons.mpr ⟨xCS_V (i := 133) (n := 1) (C := RX8) (k := 7) (mX8_signalFor l X) (xPk_in [1124, 1125, 1126, 65, 1127] (by decide +kernel) (by decide +kernel)) (by decide +kernel) (by decide) rfl (by decide) (by decide) (rX8_signalFor X), (List.forall_mem_cons.mpr ⟨xCS_V (i := 134) (n := 0) (C := RX7) (k := 6) (mX7_flatSignals l X) (xPk_in [274, 275, 276, 59, 277] (by decide +kernel) (by decide +kernel)) (by decide +kernel) (by decide) rfl (by decide) (by decide) (rX7_flatSignals X), (List.forall_mem_cons.mpr ⟨xCS_V (i := 137) (n := 0) (C := RX8) (k := 7) (mX8_flatSignals l X) (xPk_in [1128, 1129, 1130, 65, 1131] (by decide +kernel) (by decide +kernel)) (by decide +kernel) (by decide) rfl (by decide) (by decide) (rX8_flatSignals X), (List.forall_mem_cons.mpr ⟨xCS_V (i := 138) (n := 0) (C := RX7) (k := 6) (mX7_firstFall l X) (xPk_in [286, 287, 288, 59, 289] (by decide +kernel) (by decide +kernel)) (by decide +kernel) (by decide) rfl (by decide) (by decide) (rX7_firstFall X), (List.forall_mem_cons.mpr ⟨xCS_V (i := 141) (n := 0) (C := RX8) (k := 7) (mX8_firstFall l X) (xPk_in [1136, 1137, 1138, 65, 1139] (by decide +kernel) (by decide +kernel)) (by decide +kernel) (by decide) rfl (by decide) (by decide) (rX8_firstFall X), (List.forall_mem_cons.mpr ⟨xCS_SH (i := 142) (n := 4) (mL_moveFor l X hl) (xPk_in [810, 811, 58, 812] (by decide +kernel) (by decide +kernel)) (by decide +kernel) (by decide) (by decide), (List.forall_mem_cons.mpr ⟨xCS_V (i := 144) (n := 2) (C := RX8) (k := 7) (mX8_moveFor l X) (xPk_in [1144, 1145, 1146, 65, 1147] (by decide +kernel) (by decide +kernel)) (by decide +kernel) (by decide) rfl (by decide) (by decide) (rX8_moveFor X), (List.forall_mem_cons.mpr ⟨xCS_SH (i := 145) (n := 3) (mL_restAfter l X hl) (xPk_in [819, 820, 58, 821] (by decide +kernel) (by decide +kernel)) (by decide +kernel) (by decide) (by decide), (List.forall_mem_cons.mpr ⟨xCS_V (i := 147) (n := 1) (C := RX8) (k := 7) (mX8_restAfter l X) (xPk_in [1148, 1149, 1150, 65, 1151] (by decide +kernel) (by decide +kernel)) (by decide +kernel) (by decide) rfl (by decide) (by decide) (rX8_restAfter X), (List.forall_mem_cons.mpr ⟨xCS_SH (i := 148) (n := 5) (mL_wornAfter l X hl) (xPk_in [829, 830, 58, 831] (by decide +kernel) (by decide +kernel)) (by decide +kernel) (by decide) (by decide), (List.forall_mem_cons.mpr ⟨xCS_V (i := 150) (n := 3) (C := RX8) (k := 7) (mX8_wornAfter l X) (xPk_in [1156, 1157, 1158, 65, 1159] (by decide +kernel) (by decide +kernel)) (by decide +kernel) (by decide) rfl (by decide) (by decide) (rX8_wornAfter X), (List.forall_mem_cons.mpr ⟨xCS_SH (i := 151) (n := 3) (mL_missedWithin l X hl) (xPk_in [838, 839, 58, 840] (by decide +kernel) (by decide +kernel)) (by decide +kernel) (by decide) (by decide), (List.forall_mem_cons.mpr ⟨xCS_V (i := 153) (n := 1) (C := RX8) (k := 7) (mX8_missedWithin l X) (xPk_in [1161, 1162, 1163, 65, 1164] (by decide +kernel) (by decide +kernel)) (by decide +kernel) (by decide) rfl (by decide) (by decide) (rX8_missedWithin X), (List.forall_mem_cons.mpr ⟨xCS_SH (i := 154) (n := 3) (mL_type l X hl) (xPk_in [845, 846, 58, 847] (by decide +kernel) (by decide +kernel)) (by decide +kernel) (by decide) (by decide), (List.forall_mem_cons.mpr ⟨xCS_V (i := 156) (n := 1) (C := RX8) (k := 7) (mX8_type l X) (xPk_in [1165, 1166, 1167, 65, 1168] (by decide +kernel) (by decide +kernel)) (by decide +kernel) (by decide) rfl (by decide) (by decide) (rX8_type X), (List.forall_mem_cons.mpr ⟨xCS_V (i := 157) (n := 0) (C := RX7) (k := 6) (mX7_clearCommands l X) (xPk_in [308, 309, 310, 59, 311] (by decide +kernel) (by decide +kernel)) (by decide +kernel) (by decide) rfl (by decide) (by decide) (rX7_clearCommands X), (List.forall_mem_cons.mpr ⟨xCS_V (i := 160) (n := 0) (C := RX8) (k := 7) (mX8_clearCommands l X) (xPk_in [1169, 1170, 1171, 65, 1172] (by decide +kernel) (by decide +kernel)) (by decide +kernel) (by decide) rfl (by decide) (by decide) (rX8_clearCommands X), (List.forall_mem_cons.mpr ⟨xCS_V (i := 161) (n := 0) (C := RX7) (k := 6) (mX7_runCommands l X) (xPk_in [316, 317, 318, 59, 319] (by decide +kernel) (by decide +kernel)) (by decide +kernel) (by decide) rfl (by decide) (by decide) (rX7_runCommands X), (List.forall_mem_cons.mpr ⟨xCS_V (i := 164) (n := 0) (C := RX8) (k := 7) (mX8_runCommands l X) (xPk_in [1173, 1174, 1175, 65, 1176] (by decide +kernel) (by decide +kernel)) (by decide +kernel) (by decide) rfl (by decide) (by decide) (rX8_runCommands X), (List.forall_mem_cons.mpr ⟨xCS_SH (i := 165) (n := 2) (mL_undo l X hl) (xPk_in [862, 863, 58, 864] (by decide +kernel) (by decide +kernel)) (by decide +kernel) (by decide) (by decide), (List.forall_mem_cons.mpr ⟨xCS_V (i := 168) (n := 0) (C := RX8) (k := 7) (mX8_undo l X) (xPk_in [1220, 1221, 1222, 65, 1223] (by decide +kernel) (by decide +kernel)) (by decide +kernel) (by decide) rfl (by decide) (by decide) (rX8_undo X), (List.forall_mem_cons.mpr ⟨xCS_V (i := 169) (n := 0) (C := RX7) (k := 6) (mX7_digest l X) (xPk_in [578, 579, 580, 59, 581] (by decide +kernel) (by decide +kernel)) (by decide +kernel) (by decide) rfl (by decide) (by decide) (rX7_digest X), (List.forall_mem_cons.mpr ⟨xCS_V (i := 173) (n := 0) (C := RX8) (k := 7) (mX8_digest l X) (xPk_in [1224, 1225, 1226, 65, 1227] (by decide +kernel) (by decide +kernel)) (by decide +kernel) (by decide) rfl (by decide) (by decide) (rX8_digest X), (fun _ h => absurd h List.not_mem_nil)⟩)⟩)⟩)⟩)⟩)⟩)⟩)⟩)⟩)⟩)⟩)⟩)⟩)⟩)⟩)⟩)⟩)⟩)⟩)⟩)⟩)⟩)⟩)⟩)⟩)⟩)⟩)⟩)⟩)⟩)⟩)⟩)⟩)⟩)⟩)⟩)⟩)⟩)⟩)⟩)⟩)⟩)⟩)⟩)⟩)⟩)⟩)⟩)⟩)
abbrev sL_stops : List (Nat × List Nat) := [(23, [0, 1, 2, 3, 4]), (904, [0, 1, 2, 3, 4]), (1489, [])]
abbrev sL_lv (i : Int32) : XL := [(0, xR 15 0), (1, xR 6 0), (2, xR 7 0), (3, xR 10 0), (4, xI i)]
theorem lcmp_self {x : Int64} : lg_cmp x x = 0 := by
  unfold lg_cmp
  simp
/-- where a round of the loop comes to: the next round; meanFlow's case; the end -/
def sL_Q (i : Nat) (B : Nat) (σ : XH) (out : XO) : Prop := (∃ σ' b', out = .inr (23, sL_lv (oN (i + 5)), σ', b') ∧ J σ' ∧ B ≤ b') ∨ out = .inr (904, sL_lv (oN i), σ, B + 2) ∨ out = .inr (1489, [], σ, B + 2)
theorem sL_len {n i : Nat} (hn : n ≤ 2560) (hi : i ≤ 2565) (h : ¬ Int32.ofNat n - 5 < oN i) : i + 5 ≤ n := by
  have e1 : (oN i).toInt = (i : Int) := nI_toInt (by omega)
  have e2 : (Int32.ofNat n).toInt = (n : Int) := nI_toInt (by omega)
  rw [Int32.lt_iff_toInt_lt, Int32.toInt_sub, e1, e2, show (5 : Int32).toInt = 5 from rfl, Int.bmod_eq_of_le (by omega) (by omega)] at h
  omega
theorem sL_b {i c n : Nat} (hn : n ≤ 2560) (hi : i + 5 ≤ n) (hc : c < 5) : 0 ≤ oN i + oN c ∧ (oN i + oN c).toNatClampNeg < n := by
  rw [oN_add]
  refine ⟨oN_nn (by omega), ?_⟩
  rw [oN_nat (by omega)]
  omega
theorem sL_5 {i : Nat} : oN i + 5 = oN (i + 5) := (oN_add (a := i) (b := 5)).trans rfl
set_option maxRecDepth 100000 in
set_option maxHeartbeats 1000000 in
theorem sL_setRange (X : Nat × (Nat → Int32)) (σ : XH) (B i N : Nat) (hX : X.1 ≤ 2560) (hi : i + 5 ≤ X.1) (hJ : J σ) : wExec X (xEnv (nL_law X)) (fun _ _ => none) 1 sL_stops tL_law (sL_Q i B σ) (N + 200) (xPc tL_law 152) (sL_lv (oN i)) [] σ (B + 2) := by
  refine And.intro (sL_b (c := 1) hX hi (by decide)) ?_
  refine And.intro (sL_b (c := 2) hX hi (by decide)) ?_
  refine And.intro (sL_b (c := 3) hX hi (by decide)) ?_
  refine And.intro (sL_b (c := 4) hX hi (by decide)) ?_
  refine And.intro (fun h0 => ?_) (fun h0 => ?_)
  · obtain ⟨k, σ1, a, σ2, e1, e2, hJ2, ht, hv⟩ := st_setRange X σ (X.2 (oN i + 1).toNatClampNeg) (X.2 (oN i + 2).toNatClampNeg) (X.2 (oN i + 3).toNatClampNeg) 0 (Or.inl rfl) hJ
    refine wF_of e1 ?_
    refine And.intro (sL_b (c := 1) hX hi (by decide)) ?_
    refine And.intro (sL_b (c := 2) hX hi (by decide)) ?_
    refine And.intro (sL_b (c := 3) hX hi (by decide)) ?_
    refine And.intro (sL_b (c := 4) hX hi (by decide)) ?_
    refine And.intro (fun _ => ?_) (fun h => absurd h0 h)
    refine wF_of e2 ?_
    refine wF_of (eX8_thrown X σ2) ?_
    refine And.intro (fun _ => ?_) (fun h => absurd ht h)
    refine And.intro (fun h => ?_) (fun h => ?_)
    · refine And.intro (by decide) ?_
      refine And.intro (fun _ => ?_) (fun h2 => absurd ((congrArg (fun z => lg_cmp z _) (hv h)).trans lcmp_self) h2)
      exact Or.inl ⟨σ2, B, by rw [← sL_5]; rfl, hJ2, by omega⟩
    · exact Or.inl ⟨σ2, B, by rw [← sL_5]; rfl, hJ2, by omega⟩
  · obtain ⟨k, σ1, a, σ2, e1, e2, hJ2, ht, hv⟩ := st_setRange X σ (X.2 (oN i + 1).toNatClampNeg) (X.2 (oN i + 2).toNatClampNeg) (X.2 (oN i + 3).toNatClampNeg) 1 (Or.inr rfl) hJ
    refine wF_of e1 ?_
    refine And.intro (sL_b (c := 1) hX hi (by decide)) ?_
    refine And.intro (sL_b (c := 2) hX hi (by decide)) ?_
    refine And.intro (sL_b (c := 3) hX hi (by decide)) ?_
    refine And.intro (sL_b (c := 4) hX hi (by decide)) ?_
    refine And.intro (fun h => absurd h h0) (fun _ => ?_)
    refine wF_of e2 ?_
    refine wF_of (eX8_thrown X σ2) ?_
    refine And.intro (fun _ => ?_) (fun h => absurd ht h)
    refine And.intro (fun h => ?_) (fun h => ?_)
    · refine And.intro (by decide) ?_
      refine And.intro (fun _ => ?_) (fun h2 => absurd ((congrArg (fun z => lg_cmp z _) (hv h)).trans lcmp_self) h2)
      exact Or.inl ⟨σ2, B, by rw [← sL_5]; rfl, hJ2, by omega⟩
    · exact Or.inl ⟨σ2, B, by rw [← sL_5]; rfl, hJ2, by omega⟩
set_option maxRecDepth 100000 in
set_option maxHeartbeats 1000000 in
theorem sL_setValve (X : Nat × (Nat → Int32)) (σ : XH) (B i N : Nat) (hX : X.1 ≤ 2560) (hi : i + 5 ≤ X.1) (hJ : J σ) : wExec X (xEnv (nL_law X)) (fun _ _ => none) 1 sL_stops tL_law (sL_Q i B σ) (N + 200) (xPc tL_law 260) (sL_lv (oN i)) [] σ (B + 2) := by
  refine And.intro (sL_b (c := 1) hX hi (by decide)) ?_
  refine And.intro (sL_b (c := 2) hX hi (by decide)) ?_
  refine And.intro (sL_b (c := 3) hX hi (by decide)) ?_
  obtain ⟨k, σ1, a, σ2, e1, e2, hJ2, ht, hv⟩ := st_setValve X σ (X.2 (oN i + 1).toNatClampNeg) (X.2 (oN i + 2).toNatClampNeg) (X.2 (oN i + 3).toNatClampNeg) hJ
  refine wF_of e1 ?_
  refine And.intro (sL_b (c := 1) hX hi (by decide)) ?_
  refine And.intro (sL_b (c := 2) hX hi (by decide)) ?_
  refine And.intro (sL_b (c := 3) hX hi (by decide)) ?_
  refine wF_of e2 ?_
  refine wF_of (eX8_thrown X σ2) ?_
  refine And.intro (fun _ => ?_) (fun h => absurd ht h)
  refine And.intro (fun h => ?_) (fun h => ?_)
  · refine And.intro (by decide) ?_
    refine And.intro (fun _ => ?_) (fun h2 => absurd ((congrArg (fun z => lg_cmp z _) (hv h)).trans lcmp_self) h2)
    exact Or.inl ⟨σ2, B, by rw [← sL_5]; rfl, hJ2, by omega⟩
  · exact Or.inl ⟨σ2, B, by rw [← sL_5]; rfl, hJ2, by omega⟩
set_option maxRecDepth 100000 in
set_option maxHeartbeats 1000000 in
theorem sL_setSignal (X : Nat × (Nat → Int32)) (σ : XH) (B i N : Nat) (hX : X.1 ≤ 2560) (hi : i + 5 ≤ X.1) (hJ : J σ) : wExec X (xEnv (nL_law X)) (fun _ _ => none) 1 sL_stops tL_law (sL_Q i B σ) (N + 200) (xPc tL_law 340) (sL_lv (oN i)) [] σ (B + 2) := by
  refine And.intro (sL_b (c := 1) hX hi (by decide)) ?_
  obtain ⟨k, σ1, a, σ2, e1, e2, hJ2, ht, hv⟩ := st_setSignal X σ (X.2 (oN i + 1).toNatClampNeg) hJ
  refine wF_of e1 ?_
  refine And.intro (sL_b (c := 1) hX hi (by decide)) ?_
  refine wF_of e2 ?_
  refine wF_of (eX8_thrown X σ2) ?_
  refine And.intro (fun _ => ?_) (fun h => absurd ht h)
  refine And.intro (fun h => ?_) (fun h => ?_)
  · refine And.intro (by decide) ?_
    refine And.intro (fun _ => ?_) (fun h2 => absurd ((congrArg (fun z => lg_cmp z _) (hv h)).trans lcmp_self) h2)
    exact Or.inl ⟨σ2, (B + 1), by rw [← sL_5]; rfl, hJ2, by omega⟩
  · exact Or.inl ⟨σ2, (B + 1), by rw [← sL_5]; rfl, hJ2, by omega⟩
set_option maxRecDepth 100000 in
set_option maxHeartbeats 1000000 in
theorem sL_tune (X : Nat × (Nat → Int32)) (σ : XH) (B i N : Nat) (hX : X.1 ≤ 2560) (hi : i + 5 ≤ X.1) (hJ : J σ) : wExec X (xEnv (nL_law X)) (fun _ _ => none) 1 sL_stops tL_law (sL_Q i B σ) (N + 200) (xPc tL_law 396) (sL_lv (oN i)) [] σ (B + 2) := by
  refine And.intro (sL_b (c := 1) hX hi (by decide)) ?_
  refine And.intro (sL_b (c := 2) hX hi (by decide)) ?_
  obtain ⟨k, σ1, a, σ2, e1, e2, hJ2, ht, hv⟩ := st_tune X σ (X.2 (oN i + 1).toNatClampNeg) (X.2 (oN i + 2).toNatClampNeg) hJ
  refine wF_of e1 ?_
  refine And.intro (sL_b (c := 1) hX hi (by decide)) ?_
  refine And.intro (sL_b (c := 2) hX hi (by decide)) ?_
  refine wF_of e2 ?_
  refine wF_of (eX8_thrown X σ2) ?_
  refine And.intro (fun _ => ?_) (fun h => absurd ht h)
  refine And.intro (fun h => ?_) (fun h => ?_)
  · refine And.intro (by decide) ?_
    refine And.intro (fun _ => ?_) (fun h2 => absurd ((congrArg (fun z => lg_cmp z _) (hv h)).trans lcmp_self) h2)
    exact Or.inl ⟨σ2, (B + 1), by rw [← sL_5]; rfl, hJ2, by omega⟩
  · exact Or.inl ⟨σ2, (B + 1), by rw [← sL_5]; rfl, hJ2, by omega⟩
set_option maxRecDepth 100000 in
set_option maxHeartbeats 1000000 in
theorem sL_service (X : Nat × (Nat → Int32)) (σ : XH) (B i N : Nat) (hX : X.1 ≤ 2560) (hi : i + 5 ≤ X.1) (hJ : J σ) : wExec X (xEnv (nL_law X)) (fun _ _ => none) 1 sL_stops tL_law (sL_Q i B σ) (N + 200) (xPc tL_law 464) (sL_lv (oN i)) [] σ (B + 2) := by
  refine And.intro (sL_b (c := 1) hX hi (by decide)) ?_
  obtain ⟨k, σ1, a, σ2, e1, e2, hJ2, ht, hv⟩ := st_service X σ (X.2 (oN i + 1).toNatClampNeg) hJ
  refine wF_of e1 ?_
  refine And.intro (sL_b (c := 1) hX hi (by decide)) ?_
  refine wF_of e2 ?_
  refine wF_of (eX8_thrown X σ2) ?_
  refine And.intro (fun _ => ?_) (fun h => absurd ht h)
  refine And.intro (fun h => ?_) (fun h => ?_)
  · refine And.intro (by decide) ?_
    refine And.intro (fun _ => ?_) (fun h2 => absurd ((congrArg (fun z => lg_cmp z _) (hv h)).trans lcmp_self) h2)
    exact Or.inl ⟨σ2, (B + 1), by rw [← sL_5]; rfl, hJ2, by omega⟩
  · exact Or.inl ⟨σ2, (B + 1), by rw [← sL_5]; rfl, hJ2, by omega⟩
set_option maxRecDepth 100000 in
set_option maxHeartbeats 1000000 in
theorem sL_putStem (X : Nat × (Nat → Int32)) (σ : XH) (B i N : Nat) (hX : X.1 ≤ 2560) (hi : i + 5 ≤ X.1) (hJ : J σ) : wExec X (xEnv (nL_law X)) (fun _ _ => none) 1 sL_stops tL_law (sL_Q i B σ) (N + 200) (xPc tL_law 520) (sL_lv (oN i)) [] σ (B + 2) := by
  refine And.intro (sL_b (c := 1) hX hi (by decide)) ?_
  refine And.intro (sL_b (c := 2) hX hi (by decide)) ?_
  obtain ⟨k, σ1, a, σ2, e1, e2, hJ2, ht, hv⟩ := st_putStem X σ (X.2 (oN i + 1).toNatClampNeg) (X.2 (oN i + 2).toNatClampNeg) hJ
  refine wF_of e1 ?_
  refine And.intro (sL_b (c := 1) hX hi (by decide)) ?_
  refine And.intro (sL_b (c := 2) hX hi (by decide)) ?_
  refine wF_of e2 ?_
  refine wF_of (eX8_thrown X σ2) ?_
  refine And.intro (fun _ => ?_) (fun h => absurd ht h)
  refine And.intro (fun h => ?_) (fun h => ?_)
  · refine And.intro (by decide) ?_
    refine And.intro (fun _ => ?_) (fun h2 => absurd ((congrArg (fun z => lg_cmp z _) (hv h)).trans lcmp_self) h2)
    exact Or.inl ⟨σ2, B, by rw [← sL_5]; rfl, hJ2, by omega⟩
  · exact Or.inl ⟨σ2, B, by rw [← sL_5]; rfl, hJ2, by omega⟩
set_option maxRecDepth 100000 in
set_option maxHeartbeats 1000000 in
theorem sL_run (X : Nat × (Nat → Int32)) (σ : XH) (B i N : Nat) (hX : X.1 ≤ 2560) (hi : i + 5 ≤ X.1) (hJ : J σ) : wExec X (xEnv (nL_law X)) (fun _ _ => none) 1 sL_stops tL_law (sL_Q i B σ) (N + 200) (xPc tL_law 588) (sL_lv (oN i)) [] σ (B + 2) := by
  refine And.intro (sL_b (c := 1) hX hi (by decide)) ?_
  obtain ⟨k, σ1, a, σ2, e1, e2, hJ2, ht, hv⟩ := st_run X σ (X.2 (oN i + 1).toNatClampNeg) hJ
  refine wF_of e1 ?_
  refine And.intro (sL_b (c := 1) hX hi (by decide)) ?_
  refine wF_of e2 ?_
  refine wF_of (eX8_thrown X σ2) ?_
  refine And.intro (fun _ => ?_) (fun h => absurd ht h)
  refine And.intro (fun h => ?_) (fun h => ?_)
  · refine And.intro (by decide) ?_
    refine And.intro (fun _ => ?_) (fun h2 => absurd ((congrArg (fun z => lg_cmp z _) (hv h)).trans lcmp_self) h2)
    exact Or.inl ⟨σ2, B, by rw [← sL_5]; rfl, hJ2, by omega⟩
  · exact Or.inl ⟨σ2, B, by rw [← sL_5]; rfl, hJ2, by omega⟩
set_option maxRecDepth 100000 in
set_option maxHeartbeats 1000000 in
theorem sL_valve (X : Nat × (Nat → Int32)) (σ : XH) (B i N : Nat) (hX : X.1 ≤ 2560) (hi : i + 5 ≤ X.1) (hJ : J σ) : wExec X (xEnv (nL_law X)) (fun _ _ => none) 1 sL_stops tL_law (sL_Q i B σ) (N + 200) (xPc tL_law 644) (sL_lv (oN i)) [] σ (B + 2) := by
  refine And.intro (sL_b (c := 1) hX hi (by decide)) ?_
  refine And.intro (sL_b (c := 2) hX hi (by decide)) ?_
  obtain ⟨k, σ1, a, σ2, e1, e2, hJ2, ht, hv⟩ := st_valve X σ (X.2 (oN i + 1).toNatClampNeg) (X.2 (oN i + 2).toNatClampNeg) hJ
  refine wF_of e1 ?_
  refine And.intro (sL_b (c := 1) hX hi (by decide)) ?_
  refine And.intro (sL_b (c := 2) hX hi (by decide)) ?_
  refine wF_of e2 ?_
  refine wF_of (eX8_thrown X σ2) ?_
  refine And.intro (fun _ => ?_) (fun h => absurd ht h)
  refine And.intro (fun h => ?_) (fun h => ?_)
  · refine And.intro (by decide) ?_
    refine And.intro (fun _ => ?_) (fun h2 => absurd ((congrArg (fun z => lg_cmp z _) (hv h)).trans lcmp_self) h2)
    exact Or.inl ⟨σ2, B, by rw [← sL_5]; rfl, hJ2, by omega⟩
  · exact Or.inl ⟨σ2, B, by rw [← sL_5]; rfl, hJ2, by omega⟩
set_option maxRecDepth 100000 in
set_option maxHeartbeats 1000000 in
theorem sL_pair (X : Nat × (Nat → Int32)) (σ : XH) (B i N : Nat) (hX : X.1 ≤ 2560) (hi : i + 5 ≤ X.1) (hJ : J σ) : wExec X (xEnv (nL_law X)) (fun _ _ => none) 1 sL_stops tL_law (sL_Q i B σ) (N + 200) (xPc tL_law 712) (sL_lv (oN i)) [] σ (B + 2) := by
  refine And.intro (sL_b (c := 1) hX hi (by decide)) ?_
  obtain ⟨k, σ1, a, σ2, e1, e2, hJ2, ht, hv⟩ := st_pair X σ (X.2 (oN i + 1).toNatClampNeg) hJ
  refine wF_of e1 ?_
  refine And.intro (sL_b (c := 1) hX hi (by decide)) ?_
  refine wF_of e2 ?_
  refine wF_of (eX8_thrown X σ2) ?_
  refine And.intro (fun _ => ?_) (fun h => absurd ht h)
  refine And.intro (fun h => ?_) (fun h => ?_)
  · refine And.intro (by decide) ?_
    refine And.intro (fun _ => ?_) (fun h2 => absurd ((congrArg (fun z => lg_cmp z _) (hv h)).trans lcmp_self) h2)
    exact Or.inl ⟨σ2, (B + 1), by rw [← sL_5]; rfl, hJ2, by omega⟩
  · exact Or.inl ⟨σ2, (B + 1), by rw [← sL_5]; rfl, hJ2, by omega⟩
set_option maxRecDepth 100000 in
set_option maxHeartbeats 1000000 in
theorem sL_ledger (X : Nat × (Nat → Int32)) (σ : XH) (B i N : Nat) (hX : X.1 ≤ 2560) (hi : i + 5 ≤ X.1) (hJ : J σ) : wExec X (xEnv (nL_law X)) (fun _ _ => none) 1 sL_stops tL_law (sL_Q i B σ) (N + 200) (xPc tL_law 768) (sL_lv (oN i)) [] σ (B + 2) := by
  refine And.intro (sL_b (c := 1) hX hi (by decide)) ?_
  refine And.intro (sL_b (c := 2) hX hi (by decide)) ?_
  obtain ⟨k, σ1, a, σ2, e1, e2, hJ2, ht, hv⟩ := st_ledger X σ (X.2 (oN i + 1).toNatClampNeg) (X.2 (oN i + 2).toNatClampNeg) hJ
  refine wF_of e1 ?_
  refine And.intro (sL_b (c := 1) hX hi (by decide)) ?_
  refine And.intro (sL_b (c := 2) hX hi (by decide)) ?_
  refine wF_of e2 ?_
  refine wF_of (eX8_thrown X σ2) ?_
  refine And.intro (fun _ => ?_) (fun h => absurd ht h)
  refine And.intro (fun h => ?_) (fun h => ?_)
  · refine And.intro (by decide) ?_
    refine And.intro (fun _ => ?_) (fun h2 => absurd ((congrArg (fun z => lg_cmp z _) (hv h)).trans lcmp_self) h2)
    exact Or.inl ⟨σ2, (B + 1), by rw [← sL_5]; rfl, hJ2, by omega⟩
  · exact Or.inl ⟨σ2, (B + 1), by rw [← sL_5]; rfl, hJ2, by omega⟩
set_option maxRecDepth 100000 in
set_option maxHeartbeats 1000000 in
theorem sL_ledgerSum (X : Nat × (Nat → Int32)) (σ : XH) (B i N : Nat) (hX : X.1 ≤ 2560) (hi : i + 5 ≤ X.1) (hJ : J σ) : wExec X (xEnv (nL_law X)) (fun _ _ => none) 1 sL_stops tL_law (sL_Q i B σ) (N + 200) (xPc tL_law 836) (sL_lv (oN i)) [] σ (B + 2) := by
  refine And.intro (sL_b (c := 1) hX hi (by decide)) ?_
  refine And.intro (sL_b (c := 2) hX hi (by decide)) ?_
  obtain ⟨k, σ1, a, σ2, e1, e2, hJ2, ht, hv⟩ := st_ledgerSum X σ (X.2 (oN i + 1).toNatClampNeg) (X.2 (oN i + 2).toNatClampNeg) hJ
  refine wF_of e1 ?_
  refine And.intro (sL_b (c := 1) hX hi (by decide)) ?_
  refine And.intro (sL_b (c := 2) hX hi (by decide)) ?_
  refine wF_of e2 ?_
  refine wF_of (eX8_thrown X σ2) ?_
  refine And.intro (fun _ => ?_) (fun h => absurd ht h)
  refine And.intro (fun h => ?_) (fun h => ?_)
  · refine And.intro (by decide) ?_
    refine And.intro (fun _ => ?_) (fun h2 => absurd ((congrArg (fun z => lg_cmp z _) (hv h)).trans lcmp_self) h2)
    exact Or.inl ⟨σ2, B, by rw [← sL_5]; rfl, hJ2, by omega⟩
  · exact Or.inl ⟨σ2, B, by rw [← sL_5]; rfl, hJ2, by omega⟩
set_option maxRecDepth 100000 in
set_option maxHeartbeats 1000000 in
theorem sL_idealFlow (X : Nat × (Nat → Int32)) (σ : XH) (B i N : Nat) (hX : X.1 ≤ 2560) (hi : i + 5 ≤ X.1) (hJ : J σ) : wExec X (xEnv (nL_law X)) (fun _ _ => none) 1 sL_stops tL_law (sL_Q i B σ) (N + 200) (xPc tL_law 945) (sL_lv (oN i)) [] σ (B + 2) := by
  refine And.intro (sL_b (c := 1) hX hi (by decide)) ?_
  obtain ⟨k, σ1, a, σ2, e1, e2, hJ2, ht, hv⟩ := st_idealFlow X σ (X.2 (oN i + 1).toNatClampNeg) hJ
  refine wF_of e1 ?_
  refine And.intro (sL_b (c := 1) hX hi (by decide)) ?_
  refine wF_of e2 ?_
  refine wF_of (eX8_thrown X σ2) ?_
  refine And.intro (fun _ => ?_) (fun h => absurd ht h)
  refine And.intro (fun h => ?_) (fun h => ?_)
  · refine And.intro (by decide) ?_
    refine And.intro (fun _ => ?_) (fun h2 => absurd ((congrArg (fun z => lg_cmp z _) (hv h)).trans lcmp_self) h2)
    exact Or.inl ⟨σ2, (B + 1), by rw [← sL_5]; rfl, hJ2, by omega⟩
  · exact Or.inl ⟨σ2, (B + 1), by rw [← sL_5]; rfl, hJ2, by omega⟩
set_option maxRecDepth 100000 in
set_option maxHeartbeats 1000000 in
theorem sL_signalFor (X : Nat × (Nat → Int32)) (σ : XH) (B i N : Nat) (hX : X.1 ≤ 2560) (hi : i + 5 ≤ X.1) (hJ : J σ) : wExec X (xEnv (nL_law X)) (fun _ _ => none) 1 sL_stops tL_law (sL_Q i B σ) (N + 200) (xPc tL_law 1001) (sL_lv (oN i)) [] σ (B + 2) := by
  refine And.intro (sL_b (c := 1) hX hi (by decide)) ?_
  obtain ⟨k, σ1, a, σ2, e1, e2, hJ2, ht, hv⟩ := st_signalFor X σ (X.2 (oN i + 1).toNatClampNeg) hJ
  refine wF_of e1 ?_
  refine And.intro (sL_b (c := 1) hX hi (by decide)) ?_
  refine wF_of e2 ?_
  refine wF_of (eX8_thrown X σ2) ?_
  refine And.intro (fun _ => ?_) (fun h => absurd ht h)
  refine And.intro (fun h => ?_) (fun h => ?_)
  · refine And.intro (by decide) ?_
    refine And.intro (fun _ => ?_) (fun h2 => absurd ((congrArg (fun z => lg_cmp z _) (hv h)).trans lcmp_self) h2)
    exact Or.inl ⟨σ2, (B + 1), by rw [← sL_5]; rfl, hJ2, by omega⟩
  · exact Or.inl ⟨σ2, (B + 1), by rw [← sL_5]; rfl, hJ2, by omega⟩
set_option maxRecDepth 100000 in
set_option maxHeartbeats 1000000 in
theorem sL_moveFor (X : Nat × (Nat → Int32)) (σ : XH) (B i N : Nat) (hX : X.1 ≤ 2560) (hi : i + 5 ≤ X.1) (hJ : J σ) : wExec X (xEnv (nL_law X)) (fun _ _ => none) 1 sL_stops tL_law (sL_Q i B σ) (N + 200) (xPc tL_law 1083) (sL_lv (oN i)) [] σ (B + 2) := by
  refine And.intro (sL_b (c := 1) hX hi (by decide)) ?_
  refine And.intro (sL_b (c := 2) hX hi (by decide)) ?_
  obtain ⟨k, σ1, a, σ2, e1, e2, hJ2, ht, hv⟩ := st_moveFor X σ (X.2 (oN i + 1).toNatClampNeg) (X.2 (oN i + 2).toNatClampNeg) hJ
  refine wF_of e1 ?_
  refine And.intro (sL_b (c := 1) hX hi (by decide)) ?_
  refine And.intro (sL_b (c := 2) hX hi (by decide)) ?_
  refine wF_of e2 ?_
  refine wF_of (eX8_thrown X σ2) ?_
  refine And.intro (fun _ => ?_) (fun h => absurd ht h)
  refine And.intro (fun h => ?_) (fun h => ?_)
  · refine And.intro (by decide) ?_
    refine And.intro (fun _ => ?_) (fun h2 => absurd ((congrArg (fun z => lg_cmp z _) (hv h)).trans lcmp_self) h2)
    exact Or.inl ⟨σ2, B, by rw [← sL_5]; rfl, hJ2, by omega⟩
  · exact Or.inl ⟨σ2, B, by rw [← sL_5]; rfl, hJ2, by omega⟩
set_option maxRecDepth 100000 in
set_option maxHeartbeats 1000000 in
theorem sL_restAfter (X : Nat × (Nat → Int32)) (σ : XH) (B i N : Nat) (hX : X.1 ≤ 2560) (hi : i + 5 ≤ X.1) (hJ : J σ) : wExec X (xEnv (nL_law X)) (fun _ _ => none) 1 sL_stops tL_law (sL_Q i B σ) (N + 200) (xPc tL_law 1151) (sL_lv (oN i)) [] σ (B + 2) := by
  refine And.intro (sL_b (c := 1) hX hi (by decide)) ?_
  obtain ⟨k, σ1, a, σ2, e1, e2, hJ2, ht, hv⟩ := st_restAfter X σ (X.2 (oN i + 1).toNatClampNeg) hJ
  refine wF_of e1 ?_
  refine And.intro (sL_b (c := 1) hX hi (by decide)) ?_
  refine wF_of e2 ?_
  refine wF_of (eX8_thrown X σ2) ?_
  refine And.intro (fun _ => ?_) (fun h => absurd ht h)
  refine And.intro (fun h => ?_) (fun h => ?_)
  · refine And.intro (by decide) ?_
    refine And.intro (fun _ => ?_) (fun h2 => absurd ((congrArg (fun z => lg_cmp z _) (hv h)).trans lcmp_self) h2)
    exact Or.inl ⟨σ2, (B + 1), by rw [← sL_5]; rfl, hJ2, by omega⟩
  · exact Or.inl ⟨σ2, (B + 1), by rw [← sL_5]; rfl, hJ2, by omega⟩
set_option maxRecDepth 100000 in
set_option maxHeartbeats 1000000 in
theorem sL_wornAfter (X : Nat × (Nat → Int32)) (σ : XH) (B i N : Nat) (hX : X.1 ≤ 2560) (hi : i + 5 ≤ X.1) (hJ : J σ) : wExec X (xEnv (nL_law X)) (fun _ _ => none) 1 sL_stops tL_law (sL_Q i B σ) (N + 200) (xPc tL_law 1207) (sL_lv (oN i)) [] σ (B + 2) := by
  refine And.intro (sL_b (c := 1) hX hi (by decide)) ?_
  refine And.intro (sL_b (c := 2) hX hi (by decide)) ?_
  refine And.intro (sL_b (c := 3) hX hi (by decide)) ?_
  obtain ⟨k, σ1, a, σ2, e1, e2, hJ2, ht, hv⟩ := st_wornAfter X σ (X.2 (oN i + 1).toNatClampNeg) (X.2 (oN i + 2).toNatClampNeg) (X.2 (oN i + 3).toNatClampNeg) hJ
  refine wF_of e1 ?_
  refine And.intro (sL_b (c := 1) hX hi (by decide)) ?_
  refine And.intro (sL_b (c := 2) hX hi (by decide)) ?_
  refine And.intro (sL_b (c := 3) hX hi (by decide)) ?_
  refine wF_of e2 ?_
  refine wF_of (eX8_thrown X σ2) ?_
  refine And.intro (fun _ => ?_) (fun h => absurd ht h)
  refine And.intro (fun h => ?_) (fun h => ?_)
  · refine And.intro (by decide) ?_
    refine And.intro (fun _ => ?_) (fun h2 => absurd ((congrArg (fun z => lg_cmp z _) (hv h)).trans lcmp_self) h2)
    exact Or.inl ⟨σ2, B, by rw [← sL_5]; rfl, hJ2, by omega⟩
  · exact Or.inl ⟨σ2, B, by rw [← sL_5]; rfl, hJ2, by omega⟩
set_option maxRecDepth 100000 in
set_option maxHeartbeats 1000000 in
theorem sL_missedWithin (X : Nat × (Nat → Int32)) (σ : XH) (B i N : Nat) (hX : X.1 ≤ 2560) (hi : i + 5 ≤ X.1) (hJ : J σ) : wExec X (xEnv (nL_law X)) (fun _ _ => none) 1 sL_stops tL_law (sL_Q i B σ) (N + 200) (xPc tL_law 1287) (sL_lv (oN i)) [] σ (B + 2) := by
  refine And.intro (sL_b (c := 1) hX hi (by decide)) ?_
  obtain ⟨k, σ1, a, σ2, e1, e2, hJ2, ht, hv⟩ := st_missedWithin X σ (X.2 (oN i + 1).toNatClampNeg) hJ
  refine wF_of e1 ?_
  refine And.intro (sL_b (c := 1) hX hi (by decide)) ?_
  refine wF_of e2 ?_
  refine wF_of (eX8_thrown X σ2) ?_
  refine And.intro (fun _ => ?_) (fun h => absurd ht h)
  refine And.intro (fun h => ?_) (fun h => ?_)
  · refine And.intro (by decide) ?_
    refine And.intro (fun _ => ?_) (fun h2 => absurd ((congrArg (fun z => lg_cmp z _) (hv h)).trans lcmp_self) h2)
    exact Or.inl ⟨σ2, (B + 1), by rw [← sL_5]; rfl, hJ2, by omega⟩
  · exact Or.inl ⟨σ2, (B + 1), by rw [← sL_5]; rfl, hJ2, by omega⟩
set_option maxRecDepth 100000 in
set_option maxHeartbeats 1000000 in
theorem sL_type (X : Nat × (Nat → Int32)) (σ : XH) (B i N : Nat) (hX : X.1 ≤ 2560) (hi : i + 5 ≤ X.1) (hJ : J σ) : wExec X (xEnv (nL_law X)) (fun _ _ => none) 1 sL_stops tL_law (sL_Q i B σ) (N + 200) (xPc tL_law 1343) (sL_lv (oN i)) [] σ (B + 2) := by
  refine And.intro (sL_b (c := 1) hX hi (by decide)) ?_
  obtain ⟨k, σ1, a, σ2, e1, e2, hJ2, ht, hv⟩ := st_type X σ (X.2 (oN i + 1).toNatClampNeg) hJ
  refine wF_of e1 ?_
  refine And.intro (sL_b (c := 1) hX hi (by decide)) ?_
  refine wF_of e2 ?_
  refine wF_of (eX8_thrown X σ2) ?_
  refine And.intro (fun _ => ?_) (fun h => absurd ht h)
  refine And.intro (fun h => ?_) (fun h => ?_)
  · refine And.intro (by decide) ?_
    refine And.intro (fun _ => ?_) (fun h2 => absurd ((congrArg (fun z => lg_cmp z _) (hv h)).trans lcmp_self) h2)
    exact Or.inl ⟨σ2, B, by rw [← sL_5]; rfl, hJ2, by omega⟩
  · exact Or.inl ⟨σ2, B, by rw [← sL_5]; rfl, hJ2, by omega⟩
set_option maxRecDepth 100000 in
set_option maxHeartbeats 1000000 in
theorem sL_undo (X : Nat × (Nat → Int32)) (σ : XH) (B i N : Nat) (hX : X.1 ≤ 2560) (hi : i + 5 ≤ X.1) (hJ : J σ) : wExec X (xEnv (nL_law X)) (fun _ _ => none) 1 sL_stops tL_law (sL_Q i B σ) (N + 200) (xPc tL_law 1425) (sL_lv (oN i)) [] σ (B + 2) := by
  obtain ⟨k, σ1, a, σ2, e1, e2, hJ2, ht, hv⟩ := st_undo X σ hJ
  refine wF_of e1 ?_
  refine wF_of e2 ?_
  refine wF_of (eX8_thrown X σ2) ?_
  refine And.intro (fun _ => ?_) (fun h => absurd ht h)
  refine And.intro (fun h => ?_) (fun h => ?_)
  · refine And.intro (by decide) ?_
    refine And.intro (fun _ => ?_) (fun h2 => absurd ((congrArg (fun z => lg_cmp z _) (hv h)).trans lcmp_self) h2)
    exact Or.inl ⟨σ2, (B + 1), by rw [← sL_5]; rfl, hJ2, by omega⟩
  · exact Or.inl ⟨σ2, (B + 1), by rw [← sL_5]; rfl, hJ2, by omega⟩
set_option maxRecDepth 100000 in
set_option maxHeartbeats 1000000 in
theorem sL_flatSignals (X : Nat × (Nat → Int32)) (σ : XH) (B i N : Nat) (hJ : J σ) : wExec X (xEnv (nL_law X)) (fun _ _ => none) 1 sL_stops tL_law (sL_Q i B σ) (N + 200) (xPc tL_law 1057) (sL_lv (oN i)) [] σ (B + 2) := by
  obtain ⟨a, σ1, σ2, e1, e2, hJ2⟩ := st_flatSignals X σ hJ
  refine wF_of e1 ?_
  refine wF_of e2 ?_
  refine And.intro (fun _ => ?_) (fun h => absurd rfl h)
  exact Or.inl ⟨σ2, B + 2, by rw [← sL_5]; rfl, hJ2, by omega⟩
set_option maxRecDepth 100000 in
set_option maxHeartbeats 1000000 in
theorem sL_firstFall (X : Nat × (Nat → Int32)) (σ : XH) (B i N : Nat) (hJ : J σ) : wExec X (xEnv (nL_law X)) (fun _ _ => none) 1 sL_stops tL_law (sL_Q i B σ) (N + 200) (xPc tL_law 1070) (sL_lv (oN i)) [] σ (B + 2) := by
  obtain ⟨a, σ1, σ2, e1, e2, hJ2⟩ := st_firstFall X σ hJ
  refine wF_of e1 ?_
  refine wF_of e2 ?_
  refine And.intro (fun _ => ?_) (fun h => absurd rfl h)
  exact Or.inl ⟨σ2, B + 2, by rw [← sL_5]; rfl, hJ2, by omega⟩
set_option maxRecDepth 100000 in
set_option maxHeartbeats 1000000 in
theorem sL_clearCommands (X : Nat × (Nat → Int32)) (σ : XH) (B i N : Nat) (hJ : J σ) : wExec X (xEnv (nL_law X)) (fun _ _ => none) 1 sL_stops tL_law (sL_Q i B σ) (N + 200) (xPc tL_law 1399) (sL_lv (oN i)) [] σ (B + 2) := by
  obtain ⟨a, σ1, σ2, e1, e2, hJ2⟩ := st_clearCommands X σ hJ
  refine wF_of e1 ?_
  refine wF_of e2 ?_
  refine And.intro (fun _ => ?_) (fun h => absurd rfl h)
  exact Or.inl ⟨σ2, B + 2, by rw [← sL_5]; rfl, hJ2, by omega⟩
set_option maxRecDepth 100000 in
set_option maxHeartbeats 1000000 in
theorem sL_runCommands (X : Nat × (Nat → Int32)) (σ : XH) (B i N : Nat) (hJ : J σ) : wExec X (xEnv (nL_law X)) (fun _ _ => none) 1 sL_stops tL_law (sL_Q i B σ) (N + 200) (xPc tL_law 1412) (sL_lv (oN i)) [] σ (B + 2) := by
  obtain ⟨a, σ1, σ2, e1, e2, hJ2⟩ := st_runCommands X σ hJ
  refine wF_of e1 ?_
  refine wF_of e2 ?_
  refine And.intro (fun _ => ?_) (fun h => absurd rfl h)
  exact Or.inl ⟨σ2, B + 2, by rw [← sL_5]; rfl, hJ2, by omega⟩
set_option maxRecDepth 100000 in
set_option maxHeartbeats 1000000 in
theorem sL_digest (X : Nat × (Nat → Int32)) (σ : XH) (B i N : Nat) (hJ : J σ) : wExec X (xEnv (nL_law X)) (fun _ _ => none) 1 sL_stops tL_law (sL_Q i B σ) (N + 200) (xPc tL_law 1469) (sL_lv (oN i)) [] σ (B + 2) := by
  obtain ⟨a, σ1, σ2, e1, e2, hJ2⟩ := st_digest X σ hJ
  refine wF_of e1 ?_
  refine wF_of e2 ?_
  refine And.intro (fun _ => ?_) (fun h => absurd lcmp_self h)
  exact Or.inl ⟨σ2, B + 2, by rw [← sL_5]; rfl, hJ2, by omega⟩
set_option maxRecDepth 100000 in
set_option maxHeartbeats 1000000 in
theorem sL_head (X : Nat × (Nat → Int32)) (σ : XH) (B i : Nat) (hX : X.1 ≤ 2560) (h0 : i ≤ 2565) (hJ : J σ) : wExec X (xEnv (nL_law X)) (fun _ _ => none) 1 sL_stops tL_law (sL_Q i B σ) 1000 (xPc tL_law 23) (sL_lv (oN i)) [] σ (B + 2) := by
  refine And.intro (fun h => Or.inr (Or.inr rfl)) (fun h => ?_)
  have hi := sL_len hX h0 h
  refine And.intro ⟨oN_nn (by omega), by rw [oN_nat (by omega)]; omega⟩ ?_
  refine And.intro (fun _ => sL_setRange X σ B i _ hX hi hJ) (fun _ => ?_)
  refine And.intro (fun _ => sL_setValve X σ B i _ hX hi hJ) (fun _ => ?_)
  refine And.intro (fun _ => sL_setSignal X σ B i _ hX hi hJ) (fun _ => ?_)
  refine And.intro (fun _ => sL_tune X σ B i _ hX hi hJ) (fun _ => ?_)
  refine And.intro (fun _ => sL_service X σ B i _ hX hi hJ) (fun _ => ?_)
  refine And.intro (fun _ => sL_putStem X σ B i _ hX hi hJ) (fun _ => ?_)
  refine And.intro (fun _ => sL_run X σ B i _ hX hi hJ) (fun _ => ?_)
  refine And.intro (fun _ => sL_valve X σ B i _ hX hi hJ) (fun _ => ?_)
  refine And.intro (fun _ => sL_pair X σ B i _ hX hi hJ) (fun _ => ?_)
  refine And.intro (fun _ => sL_ledger X σ B i _ hX hi hJ) (fun _ => ?_)
  refine And.intro (fun _ => sL_ledgerSum X σ B i _ hX hi hJ) (fun _ => ?_)
  refine And.intro (fun _ => Or.inr (Or.inl rfl)) (fun _ => ?_)
  refine And.intro (fun _ => sL_idealFlow X σ B i _ hX hi hJ) (fun _ => ?_)
  refine And.intro (fun _ => sL_signalFor X σ B i _ hX hi hJ) (fun _ => ?_)
  refine And.intro (fun _ => sL_flatSignals X σ B i _ hJ) (fun _ => ?_)
  refine And.intro (fun _ => sL_firstFall X σ B i _ hJ) (fun _ => ?_)
  refine And.intro (fun _ => sL_moveFor X σ B i _ hX hi hJ) (fun _ => ?_)
  refine And.intro (fun _ => sL_restAfter X σ B i _ hX hi hJ) (fun _ => ?_)
  refine And.intro (fun _ => sL_wornAfter X σ B i _ hX hi hJ) (fun _ => ?_)
  refine And.intro (fun _ => sL_missedWithin X σ B i _ hX hi hJ) (fun _ => ?_)
  refine And.intro (fun _ => sL_type X σ B i _ hX hi hJ) (fun _ => ?_)
  refine And.intro (fun _ => sL_clearCommands X σ B i _ hJ) (fun _ => ?_)
  refine And.intro (fun _ => sL_runCommands X σ B i _ hJ) (fun _ => ?_)
  refine And.intro (fun _ => sL_undo X σ B i _ hX hi hJ) (fun _ => ?_)
  refine And.intro (fun _ => sL_digest X σ B i _ hJ) (fun _ => ?_)
  exact Or.inl ⟨σ, B + 2, by rw [← sL_5]; rfl, hJ, by omega⟩
end
