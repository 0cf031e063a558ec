/-! ===== the contract of isSo: two runs, the doubles between them by hand (written by wip/p28/gen/isso1.py) ===== -/
def tIA : List XE := [(0, .aload_n 0, 1, 0, 0, []), (1, .bipush 6, 2, 0, 0, []), (3, .invokestatic 125, 3, 251, 0, []), (6, .aload_n 2, 1, 0, 0, []), (7, .iconst 0, 1, 0, 0, []), (8, .invokestatic 33, 3, 67, 0, []), (11, .aload_n 2, 1, 0, 0, []), (12, .iconst 1, 1, 0, 0, []), (13, .invokestatic 33, 3, 67, 0, []), (16, .iadd, 1, 0, 0, []), (17, .if_icmp .ne 53, 3, 70, 0, []), (20, .aload_n 0, 1, 0, 0, []), (21, .bipush 7, 2, 0, 0, []), (23, .invokestatic 125, 3, 251, 0, []), (26, .aload_n 2, 1, 0, 0, []), (27, .aload_n 1, 1, 0, 0, []), (28, .iconst 0, 1, 0, 0, []), (29, .iaload, 1, 0, 0, []), (30, .invokestatic 39, 3, 79, 0, []), (33, .if_icmp .ne 37, 3, 70, 0, []), (36, .aload_n 0, 1, 0, 0, [])]
def tIB : List XE := [(66, .iconst 1, 1, 0, 0, []), (67, .goto 4, 3, 71, 0, []), (70, .iconst 0, 1, 0, 0, []), (71, .istore 4, 2, 0, 0, []), (73, .iconst 0, 1, 0, 0, []), (74, .istore 5, 2, 0, 0, []), (76, .iload 5, 2, 0, 0, []), (78, .bipush 10, 2, 0, 0, []), (80, .if_icmp .ge 48, 3, 128, 0, []), (83, .iload 4, 2, 0, 0, []), (85, .ifCond .eq 34, 3, 119, 0, []), (88, .aload_n 0, 1, 0, 0, []), (89, .iload 5, 2, 0, 0, []), (91, .bipush 6, 2, 0, 0, []), (93, .if_icmp .ge 8, 3, 101, 0, []), (96, .iload 5, 2, 0, 0, []), (98, .goto 7, 3, 105, 0, []), (101, .iload 5, 2, 0, 0, []), (103, .iconst 2, 1, 0, 0, []), (104, .iadd, 1, 0, 0, []), (105, .invokestatic 125, 3, 251, 0, []), (108, .aload_n 1, 1, 0, 0, []), (109, .iload 5, 2, 0, 0, []), (111, .iaload, 1, 0, 0, []), (112, .if_icmp .ne 7, 3, 119, 0, []), (115, .iconst 1, 1, 0, 0, []), (116, .goto 4, 3, 120, 0, []), (119, .iconst 0, 1, 0, 0, []), (120, .istore 4, 2, 0, 0, []), (122, .iinc 5 1, 3, 0, 0, []), (125, .goto (-49), 3, 76, 0, []), (128, .iconst 0, 1, 0, 0, []), (129, .istore 5, 2, 0, 0, []), (131, .iload 5, 2, 0, 0, []), (133, .iconst 2, 1, 0, 0, []), (134, .if_icmp .ge 290, 3, 424, 0, []), (137, .iload 4, 2, 0, 0, []), (139, .ifCond .eq 285, 3, 424, 0, []), (142, .iconst 0, 1, 0, 0, []), (143, .istore 6, 2, 0, 0, []), (145, .iload 6, 2, 0, 0, []), (147, .bipush 15, 2, 0, 0, []), (149, .if_icmp .ge 56, 3, 205, 0, []), (152, .iload 4, 2, 0, 0, []), (154, .ifCond .eq 42, 3, 196, 0, []), (157, .aload_n 0, 1, 0, 0, []), (158, .iload 5, 2, 0, 0, []), (160, .iload 6, 2, 0, 0, []), (162, .bipush 8, 2, 0, 0, []), (164, .if_icmp .ge 8, 3, 172, 0, []), (167, .iload 6, 2, 0, 0, []), (169, .goto 7, 3, 176, 0, []), (172, .iload 6, 2, 0, 0, []), (174, .iconst 1, 1, 0, 0, []), (175, .iadd, 1, 0, 0, []), (176, .invokestatic 134, 3, 269, 0, []), (179, .aload_n 2, 1, 0, 0, []), (180, .bipush 16, 2, 0, 0, []), (182, .iload 5, 2, 0, 0, []), (184, .imul, 1, 0, 0, []), (185, .iload 6, 2, 0, 0, []), (187, .iadd, 1, 0, 0, []), (188, .iaload, 1, 0, 0, []), (189, .if_icmp .ne 7, 3, 196, 0, []), (192, .iconst 1, 1, 0, 0, []), (193, .goto 4, 3, 197, 0, []), (196, .iconst 0, 1, 0, 0, []), (197, .istore 4, 2, 0, 0, []), (199, .iinc 6 1, 3, 0, 0, []), (202, .goto (-57), 3, 145, 0, []), (205, .iload 4, 2, 0, 0, []), (207, .ifCond .eq 118, 3, 325, 0, []), (210, .aload_n 0, 1, 0, 0, []), (211, .iload 5, 2, 0, 0, []), (213, .bipush 8, 2, 0, 0, []), (215, .invokestatic 134, 3, 269, 0, []), (218, .aload_n 2, 1, 0, 0, []), (219, .iload 5, 2, 0, 0, []), (221, .aload_n 1, 1, 0, 0, []), (222, .iconst 0, 1, 0, 0, []), (223, .iaload, 1, 0, 0, []), (224, .invokestatic 23, 3, 47, 0, []), (227, .if_icmp .ne 98, 3, 325, 0, []), (230, .aload_n 0, 1, 0, 0, []), (231, .iload 5, 2, 0, 0, []), (233, .bipush 16, 2, 0, 0, []), (235, .invokestatic 134, 3, 269, 0, []), (238, .aload_n 2, 1, 0, 0, []), (239, .iload 5, 2, 0, 0, []), (241, .invokestatic 19, 3, 39, 0, []), (244, .if_icmp .ne 81, 3, 325, 0, []), (247, .aload_n 0, 1, 0, 0, []), (248, .iload 5, 2, 0, 0, []), (250, .bipush 17, 2, 0, 0, []), (252, .invokestatic 134, 3, 269, 0, []), (255, .aload_n 2, 1, 0, 0, []), (256, .iload 5, 2, 0, 0, []), (258, .iconst 1, 1, 0, 0, []), (259, .invokestatic 27, 3, 55, 0, []), (262, .if_icmp .ne 63, 3, 325, 0, []), (265, .aload_n 0, 1, 0, 0, []), (266, .iload 5, 2, 0, 0, []), (268, .bipush 18, 2, 0, 0, []), (270, .invokestatic 134, 3, 269, 0, []), (273, .aload_n 2, 1, 0, 0, []), (274, .iload 5, 2, 0, 0, []), (276, .iconst (-1), 1, 0, 0, []), (277, .invokestatic 27, 3, 55, 0, []), (280, .if_icmp .ne 45, 3, 325, 0, []), (283, .aload_n 0, 1, 0, 0, []), (284, .iload 5, 2, 0, 0, []), (286, .bipush 19, 2, 0, 0, []), (288, .invokestatic 134, 3, 269, 0, []), (291, .aload_n 2, 1, 0, 0, []), (292, .iload 5, 2, 0, 0, []), (294, .invokestatic 33, 3, 67, 0, []), (297, .if_icmp .ne 28, 3, 325, 0, []), (300, .aload_n 0, 1, 0, 0, []), (301, .iload 5, 2, 0, 0, []), (303, .bipush 20, 2, 0, 0, []), (305, .invokestatic 134, 3, 269, 0, []), (308, .aload_n 2, 1, 0, 0, []), (309, .bipush 16, 2, 0, 0, []), (311, .iload 5, 2, 0, 0, []), (313, .imul, 1, 0, 0, []), (314, .bipush 15, 2, 0, 0, []), (316, .iadd, 1, 0, 0, []), (317, .iaload, 1, 0, 0, []), (318, .if_icmp .ne 7, 3, 325, 0, []), (321, .iconst 1, 1, 0, 0, []), (322, .goto 4, 3, 326, 0, []), (325, .iconst 0, 1, 0, 0, []), (326, .istore 4, 2, 0, 0, []), (328, .iconst 2, 1, 0, 0, []), (329, .istore 6, 2, 0, 0, []), (331, .iload 6, 2, 0, 0, []), (333, .iconst 5, 1, 0, 0, []), (334, .if_icmp .ge 84, 3, 418, 0, []), (337, .iconst 0, 1, 0, 0, []), (338, .istore 7, 2, 0, 0, []), (340, .iconst 0, 1, 0, 0, []), (341, .istore 8, 2, 0, 0, []), (343, .iload 8, 2, 0, 0, []), (345, .aload_n 1, 1, 0, 0, []), (346, .bipush 9, 2, 0, 0, []), (348, .iaload, 1, 0, 0, []), (349, .if_icmp .ge 38, 3, 387, 0, []), (352, .iload 7, 2, 0, 0, []), (354, .aload_n 3, 1, 0, 0, []), (355, .iconst 5, 1, 0, 0, []), (356, .iload 8, 2, 0, 0, []), (358, .imul, 1, 0, 0, []), (359, .iaload, 1, 0, 0, []), (360, .iload 5, 2, 0, 0, []), (362, .if_icmp .ne 15, 3, 377, 0, []), (365, .aload_n 3, 1, 0, 0, []), (366, .iconst 5, 1, 0, 0, []), (367, .iload 8, 2, 0, 0, []), (369, .imul, 1, 0, 0, []), (370, .iload 6, 2, 0, 0, []), (372, .iadd, 1, 0, 0, []), (373, .iaload, 1, 0, 0, []), (374, .goto 4, 3, 378, 0, []), (377, .iconst 0, 1, 0, 0, []), (378, .iadd, 1, 0, 0, []), (379, .istore 7, 2, 0, 0, []), (381, .iinc 8 1, 3, 0, 0, []), (384, .goto (-41), 3, 343, 0, []), (387, .iload 4, 2, 0, 0, []), (389, .ifCond .eq 20, 3, 409, 0, []), (392, .aload_n 0, 1, 0, 0, []), (393, .iload 5, 2, 0, 0, []), (395, .iload 6, 2, 0, 0, []), (397, .invokestatic 137, 3, 275, 0, []), (400, .iload 7, 2, 0, 0, []), (402, .if_icmp .ne 7, 3, 409, 0, []), (405, .iconst 1, 1, 0, 0, []), (406, .goto 4, 3, 410, 0, []), (409, .iconst 0, 1, 0, 0, []), (410, .istore 4, 2, 0, 0, []), (412, .iinc 6 1, 3, 0, 0, []), (415, .goto (-84), 3, 331, 0, []), (418, .iinc 5 1, 3, 0, 0, []), (421, .goto (-290), 3, 131, 0, []), (424, .iconst 0, 1, 0, 0, []), (425, .istore 5, 2, 0, 0, []), (427, .iload 5, 2, 0, 0, []), (429, .iconst 5, 1, 0, 0, []), (430, .aload_n 1, 1, 0, 0, []), (431, .bipush 9, 2, 0, 0, []), (433, .iaload, 1, 0, 0, []), (434, .imul, 1, 0, 0, []), (435, .if_icmp .ge 40, 3, 475, 0, []), (438, .iload 4, 2, 0, 0, []), (440, .ifCond .eq 35, 3, 475, 0, []), (443, .aload_n 0, 1, 0, 0, []), (444, .iload 5, 2, 0, 0, []), (446, .iconst 5, 1, 0, 0, []), (447, .idiv, 1, 0, 0, []), (448, .iload 5, 2, 0, 0, []), (450, .iconst 5, 1, 0, 0, []), (451, .irem, 1, 0, 0, []), (452, .invokestatic 140, 3, 281, 0, []), (455, .aload_n 3, 1, 0, 0, []), (456, .iload 5, 2, 0, 0, []), (458, .iaload, 1, 0, 0, []), (459, .if_icmp .ne 7, 3, 466, 0, []), (462, .iconst 1, 1, 0, 0, []), (463, .goto 4, 3, 467, 0, []), (466, .iconst 0, 1, 0, 0, []), (467, .istore 4, 2, 0, 0, []), (469, .iinc 5 1, 3, 0, 0, []), (472, .goto (-45), 3, 427, 0, []), (475, .iload 4, 2, 0, 0, []), (477, .ifCond .eq 21, 3, 498, 0, []), (480, .aload_n 0, 1, 0, 0, []), (481, .aload_n 1, 1, 0, 0, []), (482, .bipush 9, 2, 0, 0, []), (484, .iaload, 1, 0, 0, []), (485, .iconst 0, 1, 0, 0, []), (486, .invokestatic 140, 3, 281, 0, []), (489, .ldc 143, 2, 0, 0, [((-1000000), 0)]), (491, .if_icmp .ne 7, 3, 498, 0, []), (494, .iconst 1, 1, 0, 0, []), (495, .goto 4, 3, 499, 0, []), (498, .iconst 0, 1, 0, 0, []), (499, .ireturn, 1, 0, 0, [])]
theorem iA_ok : xTblOK RL cL_isSo xFL 9 tIA = true := by decide +kernel
theorem iB_ok : xTblOK RL cL_isSo xFL 9 tIB = true := by decide +kernel
theorem iA_new : tIA.all (fun e => !xIsNew e) = true := by decide +kernel
theorem iB_new : tIB.all (fun e => !xIsNew e) = true := by decide +kernel
abbrev nL_isSo (X : Nat × (Nat → Int32)) : List (Nat × Nat × Nat × XS) := [(251, 2, 1, fL_pairOf X), (67, 2, 0, fL_flow X), (79, 2, 0, fL_ideal X), (269, 3, 2, fL_valveOf X), (47, 3, 0, fL_demand X), (39, 2, 0, fL_wear X), (55, 3, 0, fL_hurdle X), (275, 3, 2, fL_sumOf X), (281, 3, 1, fL_ledgerOf X)]
abbrev iStp : List (Nat × List Nat) := [(76, [0, 1, 2, 3, 4, 5]), (131, [0, 1, 2, 3, 4, 5]), (145, [0, 1, 2, 3, 4, 5, 6]), (331, [0, 1, 2, 3, 4, 5, 6]), (343, [0, 1, 2, 3, 4, 5, 6, 7, 8]), (427, [0, 1, 3, 4, 5])]
abbrev iLv0 : XL := [(0, xR 6 0), (1, xR 9 2), (2, xR 9 3), (3, xR 9 4)]
/-- class and law have one time, not below 0, and one volume -/
def iOK (σ : XH) : Prop := 0 ≤ σ.1 3 0 8 ∧ σ.1 3 0 8 = σ.1 9 2 5 ∧ σ.1 3 0 9 = σ.1 9 2 6
def iNext (X : Nat × (Nat → Int32)) (s : Nat × XL × XH × Nat) : Option (XR × XH) := match Nat.beq s.1 36 with
  | true => if s.2.1 = iLv0 ∧ (0 ≤ s.2.2.1.1 3 0 8 ∧ s.2.2.1.1 3 0 8 = s.2.2.1.1 9 2 5 ∧ s.2.2.1.1 3 0 9 = s.2.2.1.1 9 2 6) then xIter X (xEnv (nL_isSo X)) (fun _ _ => some none) 1 iStp tIB 100000 (66, iLv0, s.2.2.1, s.2.2.2) else none
  | false => none
def fL_isSo (X : Nat × (Nat → Int32)) : XS := fun as σ => if as = [xR 6 0, xR 9 2, xR 9 3, xR 9 4] then (match xExec X (xEnv (nL_isSo X)) (fun _ _ => some none) 1 [(36, [0, 1, 2, 3])] tIA 1000 (xPc tIA 0) iLv0 [] σ 300 with
    | some (.inr s) => iNext X s
    | _ => none) else none
theorem iEnv (l : Launch) (X : Nat × (Nat → Int32)) (hl : l.stackTraces = false) : ∀ a n κ f, xEnv (nL_isSo X) a = some (n, κ, f) → xCS l X RL 9 a n κ f := xEnv_ok (L := nL_isSo X) (List.forall_mem_cons.mpr ⟨xCS_SH (i := 125) (n := 2) (mL_pairOf l X hl) (xPk_in [584, 585, 6, 586] (by decide +kernel) (by decide +kernel)) (by decide +kernel) (by decide) (by decide), (List.forall_mem_cons.mpr ⟨xCS_S (i := 33) (n := 2) (mL_flow l X) (xPk_in [468, 469, 6, 470] (by decide +kernel) (by decide +kernel)) (by decide +kernel) (by decide) (by decide), (List.forall_mem_cons.mpr ⟨xCS_S (i := 39) (n := 2) (mL_ideal l X) (xPk_in [489, 490, 6, 491] (by decide +kernel) (by decide +kernel)) (by decide +kernel) (by decide) (by decide), (List.forall_mem_cons.mpr ⟨xCS_SH (i := 134) (n := 3) (mL_valveOf l X hl) (xPk_in [576, 577, 6, 578] (by decide +kernel) (by decide +kernel)) (by decide +kernel) (by decide) (by decide), (List.forall_mem_cons.mpr ⟨xCS_S (i := 23) (n := 3) (mL_demand l X) (xPk_in [483, 484, 6, 485] (by decide +kernel) (by decide +kernel)) (by decide +kernel) (by decide) (by decide), (List.forall_mem_cons.mpr ⟨xCS_S (i := 19) (n := 2) (mL_wear l X) (xPk_in [451, 452, 6, 453] (by decide +kernel) (by decide +kernel)) (by decide +kernel) (by decide) (by decide), (List.forall_mem_cons.mpr ⟨xCS_S (i := 27) (n := 3) (mL_hurdle l X) (xPk_in [486, 487, 6, 488] (by decide +kernel) (by decide +kernel)) (by decide +kernel) (by decide) (by decide), (List.forall_mem_cons.mpr ⟨xCS_SH (i := 137) (n := 3) (mL_sumOf l X hl) (xPk_in [601, 602, 6, 603] (by decide +kernel) (by decide +kernel)) (by decide +kernel) (by decide) (by decide), (List.forall_mem_cons.mpr ⟨xCS_SH (i := 140) (n := 3) (mL_ledgerOf l X hl) (xPk_in [618, 619, 6, 620] (by decide +kernel) (by decide +kernel)) (by decide +kernel) (by decide) (by decide), (fun _ h => absurd h List.not_mem_nil)⟩)⟩)⟩)⟩)⟩)⟩)⟩)⟩)⟩)
theorem d70_X7_meanFlow_0 : decode cX7_meanFlow 0 = .ok (.aload_n 0, 1) := by decide +kernel
theorem d70_X7_meanFlow_1 : decode cX7_meanFlow 1 = .ok (.getfield 10, 3) := by decide +kernel
theorem d70_X7_meanFlow_4 : decode cX7_meanFlow 4 = .ok (.getfield 126, 3) := by decide +kernel
theorem d70_X7_meanFlow_7 : decode cX7_meanFlow 7 = .ok (.ifCond .gt 7, 3) := by decide +kernel
theorem d70_X7_meanFlow_10 : decode cX7_meanFlow 10 = .ok (.ldc2_w 129, 3) := by decide +kernel
theorem d70_X7_meanFlow_13 : decode cX7_meanFlow 13 = .ok (.dreturn, 1) := by decide +kernel
theorem d70_X7_meanFlow_14 : decode cX7_meanFlow 14 = .ok (.aload_n 0, 1) := by decide +kernel
theorem d70_X7_meanFlow_15 : decode cX7_meanFlow 15 = .ok (.getfield 10, 3) := by decide +kernel
theorem d70_X7_meanFlow_18 : decode cX7_meanFlow 18 = .ok (.getfield 131, 3) := by decide +kernel
theorem d70_X7_meanFlow_21 : decode cX7_meanFlow 21 = .ok (.i2d, 1) := by decide +kernel
theorem d70_X7_meanFlow_22 : decode cX7_meanFlow 22 = .ok (.aload_n 0, 1) := by decide +kernel
theorem d70_X7_meanFlow_23 : decode cX7_meanFlow 23 = .ok (.getfield 10, 3) := by decide +kernel
theorem d70_X7_meanFlow_26 : decode cX7_meanFlow 26 = .ok (.getfield 126, 3) := by decide +kernel
theorem d70_X7_meanFlow_29 : decode cX7_meanFlow 29 = .ok (.i2d, 1) := by decide +kernel
theorem d70_X7_meanFlow_30 : decode cX7_meanFlow 30 = .ok (.ddiv, 1) := by decide +kernel
theorem d70_X7_meanFlow_31 : decode cX7_meanFlow 31 = .ok (.dreturn, 1) := by decide +kernel
theorem d70_L_isSo_36 : decode cL_isSo 36 = .ok (.aload_n 0, 1) := by decide +kernel
theorem d70_L_isSo_37 : decode cL_isSo 37 = .ok (.invokevirtual 128, 3) := by decide +kernel
theorem d70_L_isSo_40 : decode cL_isSo 40 = .ok (.aload_n 1, 1) := by decide +kernel
theorem d70_L_isSo_41 : decode cL_isSo 41 = .ok (.iconst 5, 1) := by decide +kernel
theorem d70_L_isSo_42 : decode cL_isSo 42 = .ok (.iaload, 1) := by decide +kernel
theorem d70_L_isSo_43 : decode cL_isSo 43 = .ok (.ifCond .ne 9, 3) := by decide +kernel
theorem d70_L_isSo_46 : decode cL_isSo 46 = .ok (.ldc2_w 132, 3) := by decide +kernel
theorem d70_L_isSo_49 : decode cL_isSo 49 = .ok (.goto 13, 3) := by decide +kernel
theorem d70_L_isSo_52 : decode cL_isSo 52 = .ok (.aload_n 1, 1) := by decide +kernel
theorem d70_L_isSo_53 : decode cL_isSo 53 = .ok (.bipush 6, 2) := by decide +kernel
theorem d70_L_isSo_55 : decode cL_isSo 55 = .ok (.iaload, 1) := by decide +kernel
theorem d70_L_isSo_56 : decode cL_isSo 56 = .ok (.i2d, 1) := by decide +kernel
theorem d70_L_isSo_57 : decode cL_isSo 57 = .ok (.aload_n 1, 1) := by decide +kernel
theorem d70_L_isSo_58 : decode cL_isSo 58 = .ok (.iconst 5, 1) := by decide +kernel
theorem d70_L_isSo_59 : decode cL_isSo 59 = .ok (.iaload, 1) := by decide +kernel
theorem d70_L_isSo_60 : decode cL_isSo 60 = .ok (.i2d, 1) := by decide +kernel
theorem d70_L_isSo_61 : decode cL_isSo 61 = .ok (.ddiv, 1) := by decide +kernel
theorem d70_L_isSo_62 : decode cL_isSo 62 = .ok (.dcmp .l, 1) := by decide +kernel
theorem d70_L_isSo_63 : decode cL_isSo 63 = .ok (.ifCond .ne 7, 3) := by decide +kernel

/-- no NaN comes of a quotient by a number that isn't 0 -/
theorem nn_div (v : Int32) {t : Int32} (h : t ≠ 0) : FP.Core.dIsNaN (FP.ddiv (FP.i2d v) (FP.i2d t)) = false := by
  refine FP.Core.ddiv_out (a := FP.i2d v) (b := FP.i2d t) ?_ (FP.Core.i2d_fin t) ?_
  · have h1 := FP.Core.i2d_mag v
    cases hn : FP.Core.dIsNaN (FP.i2d v) with
    | false => rfl
    | true =>
      have h2 := (FP.Core.isNaN_bits _).mp hn
      have h3 : (FP.i2d v).toNat % 2 ^ 63 < 1056 * 2 ^ 52 := h1
      omega
  · intro hz
    have h1 := FP.Core.i2d_ne_zero h
    exact h1 ((FP.Core.zero_bits2 _).mp hz)
theorem nn_n64 {r : UInt64} (h : FP.Core.dIsNaN r = false) : vf_n64 r := by
  unfold vf_n64
  rw [UInt64.le_iff_toNat_le, UInt64.toNat_and]
  have e : r.toNat &&& (0x7fffffffffffffff : UInt64).toNat = r.toNat % 2 ^ 63 := Nat.and_two_pow_sub_one_eq_mod r.toNat 63
  rw [e]
  have h2 : ¬ 9218868437227405312 < r.toNat % 2 ^ 63 := fun q => by
    rw [(FP.Core.isNaN_bits r).mpr q] at h
    cases h
  show r.toNat % 2 ^ 63 ≤ 9218868437227405312
  omega
theorem nn_cmp {r : UInt64} (h : FP.Core.dIsNaN r = false) : Op.cmpValue (FP.dcmp r r) .l = 0 := by
  have e : FP.dcmp r r = some .eq := FP.Core.dcmp_refl h
  rw [e]
  rfl
theorem nn_m1 : FP.Core.dIsNaN 13830554455654793216 = false := by
  cases hn : FP.Core.dIsNaN 13830554455654793216 with
  | false => rfl
  | true => exact absurd ((FP.Core.isNaN_bits _).mp hn) (by decide)
/-- what the class's meanFlow answers -/
def mfV (t v : Int32) (r : UInt64) : Prop := (t ≤ 0 → r = 13830554455654793216) ∧ (0 < t → r = FP.ddiv (FP.i2d v) (FP.i2d t))
set_option maxRecDepth 100000 in
set_option maxHeartbeats 1000000 in
theorem m7_mean (l : Launch) (X : Nat × (Nat → Int32)) (G : XG) (σ : XH) (hA : xAP G) : Met l yX7_meanFlow [.code yX7_meanFlow cX7_meanFlow 1 (some .double)] ({ frames := 0, cells := 0, slots := 0, locals := 0 }) (xPc0 G X [xR 6 0] σ) (va_Qd (fun (r : UInt64) (_ : Unit) => mfV (σ.1 3 0 8) (σ.1 3 0 9) r) (fun _ t => xRP G σ t.heap) (xA G)) 0 0 (xA G) := by
  refine Met.ofW (cc := cX7_meanFlow) (maxL := 1) (ret := some .double) (by decide) rfl ?_
  intro p e s m args below meth c s₁ B hml hv
  obtain ⟨rfl, hWK, hST, hR⟩ := hv
  have hts : ∀ w ∈ xW, w.before ([xR 6 0].map (xcv G)).toArray s = true := fun w hw => word_at (State.WarmedH.refl s) (xW_good hw) (hWK.2.1 w hw)
  have C0 : xCtx G X p s m ([xR 6 0].map (xcv G)).toArray meth c cX7_meanFlow RX7 1 := ⟨B.exec, B.bytes, findClass_of_methodNamed B.named, hml, B.notSynchronized, hWK, hts, hST, hA⟩
  have hx := B.exec
  have hb := B.bytes
  have hr := B.returns
  have hlocks := B.notSynchronized
  have hl := lv_entry ([xR 6 0].map (xcv G)) (n := 1) (Nat.le_of_ble_eq_true rfl)
  rw [lg_entry_eq]
  generalize (lg_sl ([xR 6 0].map (xcv G)) ++ List.replicate (1 - (lg_sl ([xR 6 0].map (xcv G))).length) Slot.unset).toArray = ls at hl ⊢
  have hl : lv_has ls 1 [(0, .ref (xad G 6 0))] := hl
  refine lv_aload_n hx hb d70_X7_meanFlow_0 rfl (lv_at hl 0 rfl) ?_
  refine xr_get C0 hR (k := 6) (j := 0) (f := 0) (by decide) (by decide) (by decide) (x_FX7 _ (by decide +kernel)) d70_X7_meanFlow_1 ?_
  refine xr_get C0 hR (k := 3) (j := 0) (f := 8) (by decide) (by decide) (by decide) (x_FX7 _ (by decide +kernel)) d70_X7_meanFlow_4 ?_
  refine lv_if_gt (x := σ.1 3 0 8) (tgt := 14) hx hb d70_X7_meanFlow_7 (by decide) (fun h => ?_) (fun h => ?_)
  · refine lv_aload_n hx hb d70_X7_meanFlow_14 rfl (lv_at hl 0 rfl) ?_
    refine xr_get C0 hR (k := 6) (j := 0) (f := 0) (by decide) (by decide) (by decide) (x_FX7 _ (by decide +kernel)) d70_X7_meanFlow_15 ?_
    refine xr_get C0 hR (k := 3) (j := 0) (f := 9) (by decide) (by decide) (by decide) (x_FX7 _ (by decide +kernel)) d70_X7_meanFlow_18 ?_
    refine lv_i2d (x := σ.1 3 0 9) hx hb d70_X7_meanFlow_21 ?_
    refine lv_aload_n hx hb d70_X7_meanFlow_22 rfl (lv_at hl 0 rfl) ?_
    refine xr_get C0 hR (k := 6) (j := 0) (f := 0) (by decide) (by decide) (by decide) (x_FX7 _ (by decide +kernel)) d70_X7_meanFlow_23 ?_
    refine xr_get C0 hR (k := 3) (j := 0) (f := 8) (by decide) (by decide) (by decide) (x_FX7 _ (by decide +kernel)) d70_X7_meanFlow_26 ?_
    refine lv_i2d (x := σ.1 3 0 8) hx hb d70_X7_meanFlow_29 ?_
    refine lv_ddiv hx hb d70_X7_meanFlow_30 (nn_n64 (nn_div _ (fun q => absurd h (by rw [q]; decide)))) ?_
    exact W.dret hx hb hr (fun t ht hW => ⟨⟨_, (), rfl, ⟨fun q => absurd q (Int32.not_le.mpr h), fun _ => rfl⟩, by show xRP G σ t.heap; rw [ht]; exact hR⟩, (va_S.rf (A := xA G) (H0 := s.heap)).F ht⟩) (fun q hq => absurd hq List.not_mem_nil) d70_X7_meanFlow_31
  · refine lv_ldc2d (own := RX7) (v := 13830554455654793216) hx hb C0.2.2.1 (hts _ (xPk_in (ws := [.constantDouble RX7 129 13830554455654793216]) [599] (by decide +kernel) (by decide +kernel) _ List.mem_cons_self)) d70_X7_meanFlow_10 ?_
    exact W.dret hx hb hr (fun t ht hW => ⟨⟨_, (), rfl, ⟨fun _ => rfl, fun q => absurd q h⟩, by show xRP G σ t.heap; rw [ht]; exact hR⟩, (va_S.rf (A := xA G) (H0 := s.heap)).F ht⟩) (fun q hq => absurd hq List.not_mem_nil) d70_X7_meanFlow_13
theorem g7_mean : GoodIn xW (wsV RL 128 RX7 yX7_meanFlow [.code yX7_meanFlow cX7_meanFlow 1 (some .double)]) := fun w h => by
  have := xPk_in (ws := wsV RL 128 RX7 yX7_meanFlow [.code yX7_meanFlow cX7_meanFlow 1 (some .double)]) [595, 596, 597, 7, 598] (by decide +kernel) (by decide +kernel) w h
  exact ⟨this, xW_good this⟩
theorem xr_cell {G : XG} {σ : XH} {H : Heap} {s : State} (hWK : xWK G s) (hR : xRP G σ H) {k j : Nat} (hk : k < 8) (hj : j < xcnt k) : ∃ cellB : Cell, H[xad G k j]? = some cellB ∧ cellB.vm.isStatics = false ∧ s.vm.findClass (xRR k) = some cellB.cls := by
  obtain ⟨cell, q1, q2, q3, -⟩ := hR.1 k j hk hj
  refine ⟨cell, q1, by rw [q3]; rfl, ?_⟩
  rw [q2]
  exact (hWK.1.1 k _ (x_cl k hk)).2.1
set_option maxRecDepth 100000 in
set_option maxHeartbeats 1000000 in
/-- the doubles: class and law have one mean flow -/
theorem iMean {G : XG} {X : Nat × (Nat → Int32)} {p : Program} {l : Launch} {e : Env} {R : Room} {s : State} {m : MethodId} {args : Array Value} {below : List Frame} {meth : Method} {c : Code} {H : Heap} {locs : List Loc} {ls : Array Slot} {cells slots : Nat} {Q : State → Prop} {σ : XH}
    (C0 : xCtx G X p s m args meth c cL_isSo RL 9) (hRf : 1 ≤ R.frames) (hRl : 37 ≤ R.locals) (hc : cells ≤ R.cells) (hsl : slots ≤ R.slots) (hR : xRP G σ H) (hS : va_S (xA G) s.heap H locs) (hl : lv_has ls 9 (xcl G iLv0)) (h : iOK σ)
    (kk : ∀ (H1 : Heap) (locs1 : List Loc), xRP G σ H1 → va_S (xA G) s.heap H1 locs1 → W p l e R s m args below meth c H1 locs1 cells slots Q (F0 m 66 ls [])) : W p l e R s m args below meth c H locs cells slots Q (F0 m 36 ls []) := by
  obtain ⟨hx, hb, hown, hml, hlocks, hWK, hts, hST, hA⟩ := id C0
  obtain ⟨t0, t1, t2⟩ := h
  have hl : lv_has ls 9 [(0, .ref (xad G 6 0)), (1, .ref (xad G 9 2)), (2, .ref (xad G 9 3)), (3, .ref (xad G 9 4))] := hl
  refine lv_aload_n hx hb d70_L_isSo_36 rfl (lv_at hl 0 rfl) ?_
  refine va_calld (va_runV (C := RX7) (As := []) (rest := []) (nL := 9) (n := 0) (index := 128) (mc := 0) (ms := 0) ⟨hx, hb, hml, hown, hts⟩ (m7_mean l X G σ hA) (cwV 0 hts g7_mean rfl rfl rfl (by decide +kernel) ⟨by show 0 + 1 ≤ R.frames; omega, by show 8 + (1 + 11) + 0 ≤ R.locals; omega⟩) ⟨xPc0_blind _ _ _ _, xr_cell (k := 6) hWK hR (by decide) (by decide), xPc0_pre C0 hR hS⟩ rfl rfl hl.1 rfl (lv_room (Nat.le_of_ble_eq_true rfl)) d70_L_isSo_37 ⟨hc, hsl⟩) hS (fun q _ h => h) (fun q h => h) (fun r1 u1 ta H locs ht1 hvm1 hw1 hB1 hz1 hk1 hS => ?_)
  have hR : xRP G σ H := by rw [← ht1]; exact hB1
  refine lv_aload_n hx hb d70_L_isSo_40 rfl (lv_at hl 1 rfl) ?_
  refine lv_iconst (v := 5) hx hb d70_L_isSo_41 (by decide) ?_
  refine xr_iald C0 hR (k := 9) (j := 2) (i := 5) (Or.inr rfl) (by decide) (fun _ q => absurd q (by decide)) (by decide) (by decide) d70_L_isSo_42 ?_
  refine lv_if_ne (x := σ.1 9 2 5) (tgt := 52) hx hb d70_L_isSo_43 (by decide) (fun h => ?_) (fun h => ?_)
  · have hp : 0 < σ.1 3 0 8 := Int32.lt_of_le_of_ne t0 (fun q => h (t1.symm.trans q.symm))
    have e1 := hw1.2 hp
    rw [t1, t2] at e1
    refine lv_aload_n hx hb d70_L_isSo_52 rfl (lv_at hl 1 rfl) ?_
    refine lv_bipush (v := 6) hx hb d70_L_isSo_53 (by decide) ?_
    refine xr_iald C0 hR (k := 9) (j := 2) (i := 6) (Or.inr rfl) (by decide) (fun _ q => absurd q (by decide)) (by decide) (by decide) d70_L_isSo_55 ?_
    refine lv_i2d (x := σ.1 9 2 6) hx hb d70_L_isSo_56 ?_
    refine lv_aload_n hx hb d70_L_isSo_57 rfl (lv_at hl 1 rfl) ?_
    refine lv_iconst (v := 5) hx hb d70_L_isSo_58 (by decide) ?_
    refine xr_iald C0 hR (k := 9) (j := 2) (i := 5) (Or.inr rfl) (by decide) (fun _ q => absurd q (by decide)) (by decide) (by decide) d70_L_isSo_59 ?_
    refine lv_i2d (x := σ.1 9 2 5) hx hb d70_L_isSo_60 ?_
    refine lv_ddiv hx hb d70_L_isSo_61 (nn_n64 (nn_div _ h)) ?_
    refine lv_dcmp hx hb d70_L_isSo_62 ?_
    rw [e1, nn_cmp (nn_div _ h)]
    refine lv_if_ne (x := 0) (tgt := 70) hx hb d70_L_isSo_63 (by decide) (fun q => absurd rfl q) (fun _ => ?_)
    exact kk H locs hR hS
  · have hp : σ.1 3 0 8 ≤ 0 := by
      rw [t1]
      exact Int32.le_of_eq h
    have e1 := hw1.1 hp
    refine lv_ldc2d (own := RL) (v := 13830554455654793216) hx hb hown (hts _ (xPk_in (ws := [.constantDouble RL 132 13830554455654793216]) [600] (by decide +kernel) (by decide +kernel) _ List.mem_cons_self)) d70_L_isSo_46 ?_
    refine lv_goto (tgt := 62) hx hb d70_L_isSo_49 (by decide) ?_
    refine lv_dcmp hx hb d70_L_isSo_62 ?_
    rw [e1, nn_cmp nn_m1]
    refine lv_if_ne (x := 0) (tgt := 70) hx hb d70_L_isSo_63 (by decide) (fun q => absurd rfl q) (fun _ => ?_)
    exact kk H locs hR hS
set_option maxRecDepth 100000 in
set_option maxHeartbeats 1000000 in
theorem mL_isSo (l : Launch) (X : Nat × (Nat → Int32)) (hl : l.stackTraces = false) : xMet l X yL_isSo cL_isSo 9 (some .boolean) 9 300 (fL_isSo X) := by
  intro G as σ r σ' hA hok hfa
  unfold fL_isSo at hfa
  split at hfa
  case isFalse => cases hfa
  case isTrue has =>
  subst has
  refine vx_ofWF (cc := cL_isSo) (maxL := 9) (ret := some .boolean) (ws' := []) (by decide +kernel) rfl ?_
  intro p e s m args below meth c s₁ B hml ht hv
  obtain ⟨hargs, hWK, hST, hR⟩ := hv
  have hx := B.exec
  have hb := B.bytes
  have hr := B.returns
  have hown : s.vm.findClass RL = some m.cls := findClass_of_methodNamed B.named
  have hlocks := B.notSynchronized
  have hts : ∀ w ∈ xW, w.before args s = true := fun w hw => word_at (State.WarmedH.refl s) (xW_good hw) (hWK.2.1 w hw)
  have C0 : xCtx G X p s m args meth c cL_isSo RL 9 := ⟨hx, hb, hown, hml, hlocks, hWK, hts, hST, hA⟩
  have F : xFix G X p l e (xRm 9 300) s m args below meth c cL_isSo RL 9 9 300 xFL (xEnv (nL_isSo X)) (fun _ _ => some none) 1 := ⟨C0, ⟨Nat.le_refl _, Nat.le_refl _, Nat.le_refl _, Nat.le_refl _⟩, x_FL, hr, iEnv l X hl, fun pc E _ x hx => absurd hx (fun q => ht x q), fun pc E t i h => by cases h⟩
  have hlo := lv_entry ([xR 6 0, xR 9 2, xR 9 3, xR 9 4].map (xcv G)) (n := 9) (Nat.le_of_ble_eq_true rfl)
  rw [xargs_eq] at hlo
  subst hargs
  rw [lg_entry_eq]
  split at hfa
  case h_2 => cases hfa
  case h_1 s0 hs0 =>
  obtain ⟨pc0, lv0, σ1, b1⟩ := s0
  unfold iNext at hfa
  dsimp only at hfa
  split at hfa
  case h_2 => cases hfa
  case h_1 hpc =>
  have hpc := Nat.eq_of_beq_eq_true hpc
  subst hpc
  split at hfa
  case isFalse => cases hfa
  case isTrue hlv0 =>
  obtain ⟨hlv0, hio⟩ := hlv0
  subst hlv0
  have hgo := xExec_sound (e := e) (R := xRm 9 300) (below := below) (Q := xFin G below ([xR 6 0, xR 9 2, xR 9 3, xR 9 4].map (xcv G)).toArray s 300 σ' r) F (by decide) iA_ok (fun en hen hi => xNoNew (P := fun en => xNewOK G p l e (xRm 9 300) s m ([xR 6 0, xR 9 2, xR 9 3, xR 9 4].map (xcv G)).toArray below meth c 300 9 en) iA_new en hen hi hi) (fun r2 σ3 h => by cases h) (fun pc lv σ3 b3 h => ?_) 1000 [] _ _ iLv0 [] σ 300 rfl hs0
  · exact hgo (xlok_args hok 0) (fun v hv => absurd hv List.not_mem_nil) s.heap [] _ 0 0 hR va_S.rf hlo (by omega) (by omega)
  · cases h
    intro hlv hsv H locs ls cells slots hR hS hls hc1 hc2
    refine iMean C0 (by show 1 ≤ 9; omega) (by show 37 ≤ 37 * 9; omega) (by show cells ≤ 300; omega) (by show slots ≤ 6 * 300; omega) hR hS hls hio (fun H1 locs1 hR1 hS1 => ?_)
    have hgo2 := xIter_sound (e := e) (R := xRm 9 300) (below := below) F (by decide) iB_ok (fun en hen hi => xNoNew (P := fun en => xNewOK G p l e (xRm 9 300) s m ([xR 6 0, xR 9 2, xR 9 3, xR 9 4].map (xcv G)).toArray below meth c 300 9 en) iB_new en hen hi hi) 100000 66 iLv0 σ1 b1 r σ' hfa
    exact hgo2 hlv hsv H1 locs1 ls cells slots hR1 hS1 hls hc1 hc2
