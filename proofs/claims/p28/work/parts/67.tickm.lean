/-! ===== the tick's contract: two runs of the engine, a new array between them (written by wip/p28/gen/tick1.py) ===== -/
def tL_tick : List XE := [(0, .aload_n 0, 1, 0, 0, []), (1, .iconst 1, 1, 0, 0, []), (2, .iaload, 1, 0, 0, []), (3, .iconst 1, 1, 0, 0, []), (4, .if_icmp .ne 54, 3, 58, 0, []), (7, .aload_n 0, 1, 0, 0, []), (8, .iconst 2, 1, 0, 0, []), (9, .iaload, 1, 0, 0, []), (10, .aload_n 0, 1, 0, 0, []), (11, .iconst 3, 1, 0, 0, []), (12, .iaload, 1, 0, 0, []), (13, .aload_n 1, 1, 0, 0, []), (14, .iconst 0, 1, 0, 0, []), (15, .invokestatic 33, 3, 67, 0, []), (18, .isub, 1, 0, 0, []), (19, .aload_n 1, 1, 0, 0, []), (20, .iconst 1, 1, 0, 0, []), (21, .invokestatic 33, 3, 67, 0, []), (24, .isub, 1, 0, 0, []), (25, .imul, 1, 0, 0, []), (26, .sipush 1000, 3, 0, 0, []), (29, .invokestatic 9, 3, 19, 0, []), (32, .aload_n 0, 1, 0, 0, []), (33, .iconst 4, 1, 0, 0, []), (34, .iaload, 1, 0, 0, []), (35, .ineg, 1, 0, 0, []), (36, .aload_n 0, 1, 0, 0, []), (37, .iconst 4, 1, 0, 0, []), (38, .iaload, 1, 0, 0, []), (39, .invokestatic 15, 3, 31, 0, []), (42, .istore_n 3, 1, 0, 0, []), (43, .aload_n 0, 1, 0, 0, []), (44, .iconst 0, 1, 0, 0, []), (45, .aload_n 0, 1, 0, 0, []), (46, .iconst 0, 1, 0, 0, []), (47, .iaload, 1, 0, 0, []), (48, .iload_n 3, 1, 0, 0, []), (49, .iadd, 1, 0, 0, []), (50, .iconst 0, 1, 0, 0, []), (51, .sipush 1000, 3, 0, 0, []), (54, .invokestatic 15, 3, 31, 0, []), (57, .iastore, 1, 0, 0, []), (58, .iconst 4, 1, 0, 0, []), (59, .newarray .int, 2, 0, 0, []), (61, .astore_n 3, 1, 0, 0, []), (62, .iconst 0, 1, 0, 0, []), (63, .istore 4, 2, 0, 0, []), (65, .iload 4, 2, 0, 0, []), (67, .iconst 2, 1, 0, 0, []), (68, .if_icmp .ge 189, 3, 257, 0, []), (71, .bipush 16, 2, 0, 0, []), (73, .iload 4, 2, 0, 0, []), (75, .imul, 1, 0, 0, []), (76, .istore 5, 2, 0, 0, []), (78, .aload_n 1, 1, 0, 0, []), (79, .iload 4, 2, 0, 0, []), (81, .aload_n 0, 1, 0, 0, []), (82, .iconst 0, 1, 0, 0, []), (83, .iaload, 1, 0, 0, []), (84, .invokestatic 36, 3, 73, 0, []), (87, .istore 6, 2, 0, 0, []), (89, .iload 6, 2, 0, 0, []), (91, .ifCond .le 7, 3, 98, 0, []), (94, .iconst 1, 1, 0, 0, []), (95, .goto 13, 3, 108, 0, []), (98, .iload 6, 2, 0, 0, []), (100, .ifCond .ge 7, 3, 107, 0, []), (103, .iconst (-1), 1, 0, 0, []), (104, .goto 4, 3, 108, 0, []), (107, .iconst 0, 1, 0, 0, []), (108, .istore 7, 2, 0, 0, []), (110, .aload_n 3, 1, 0, 0, []), (111, .iload 4, 2, 0, 0, []), (113, .iload 6, 2, 0, 0, []), (115, .iload 7, 2, 0, 0, []), (117, .imul, 1, 0, 0, []), (118, .iastore, 1, 0, 0, []), (119, .aload_n 3, 1, 0, 0, []), (120, .iconst 2, 1, 0, 0, []), (121, .iload 4, 2, 0, 0, []), (123, .iadd, 1, 0, 0, []), (124, .iload 7, 2, 0, 0, []), (126, .aload_n 1, 1, 0, 0, []), (127, .iload 5, 2, 0, 0, []), (129, .bipush 9, 2, 0, 0, []), (131, .iadd, 1, 0, 0, []), (132, .iaload, 1, 0, 0, []), (133, .imul, 1, 0, 0, []), (134, .ifCond .ge 7, 3, 141, 0, []), (137, .iconst 1, 1, 0, 0, []), (138, .goto 4, 3, 142, 0, []), (141, .iconst 0, 1, 0, 0, []), (142, .iastore, 1, 0, 0, []), (143, .aload_n 1, 1, 0, 0, []), (144, .iload 5, 2, 0, 0, []), (146, .bipush 8, 2, 0, 0, []), (148, .iadd, 1, 0, 0, []), (149, .dup2, 1, 0, 0, []), (150, .iaload, 1, 0, 0, []), (151, .iload 6, 2, 0, 0, []), (153, .iadd, 1, 0, 0, []), (154, .iastore, 1, 0, 0, []), (155, .aload_n 1, 1, 0, 0, []), (156, .iload 5, 2, 0, 0, []), (158, .bipush 9, 2, 0, 0, []), (160, .iadd, 1, 0, 0, []), (161, .iload 7, 2, 0, 0, []), (163, .ifCond .ne 13, 3, 176, 0, []), (166, .aload_n 1, 1, 0, 0, []), (167, .iload 5, 2, 0, 0, []), (169, .bipush 9, 2, 0, 0, []), (171, .iadd, 1, 0, 0, []), (172, .iaload, 1, 0, 0, []), (173, .goto 5, 3, 178, 0, []), (176, .iload 7, 2, 0, 0, []), (178, .iastore, 1, 0, 0, []), (179, .aload_n 1, 1, 0, 0, []), (180, .iload 5, 2, 0, 0, []), (182, .bipush 10, 2, 0, 0, []), (184, .iadd, 1, 0, 0, []), (185, .iload 7, 2, 0, 0, []), (187, .iload 7, 2, 0, 0, []), (189, .imul, 1, 0, 0, []), (190, .iastore, 1, 0, 0, []), (191, .aload_n 1, 1, 0, 0, []), (192, .iload 5, 2, 0, 0, []), (194, .bipush 11, 2, 0, 0, []), (196, .iadd, 1, 0, 0, []), (197, .dup2, 1, 0, 0, []), (198, .iaload, 1, 0, 0, []), (199, .aload_n 3, 1, 0, 0, []), (200, .iload 4, 2, 0, 0, []), (202, .iaload, 1, 0, 0, []), (203, .iadd, 1, 0, 0, []), (204, .iastore, 1, 0, 0, []), (205, .aload_n 1, 1, 0, 0, []), (206, .iload 5, 2, 0, 0, []), (208, .bipush 12, 2, 0, 0, []), (210, .iadd, 1, 0, 0, []), (211, .dup2, 1, 0, 0, []), (212, .iaload, 1, 0, 0, []), (213, .aload_n 3, 1, 0, 0, []), (214, .iconst 2, 1, 0, 0, []), (215, .iload 4, 2, 0, 0, []), (217, .iadd, 1, 0, 0, []), (218, .iaload, 1, 0, 0, []), (219, .iadd, 1, 0, 0, []), (220, .iastore, 1, 0, 0, []), (221, .aload_n 1, 1, 0, 0, []), (222, .iload 5, 2, 0, 0, []), (224, .bipush 13, 2, 0, 0, []), (226, .iadd, 1, 0, 0, []), (227, .dup2, 1, 0, 0, []), (228, .iaload, 1, 0, 0, []), (229, .aload_n 3, 1, 0, 0, []), (230, .iload 4, 2, 0, 0, []), (232, .iaload, 1, 0, 0, []), (233, .iadd, 1, 0, 0, []), (234, .iastore, 1, 0, 0, []), (235, .aload_n 1, 1, 0, 0, []), (236, .iload 5, 2, 0, 0, []), (238, .bipush 14, 2, 0, 0, []), (240, .iadd, 1, 0, 0, []), (241, .dup2, 1, 0, 0, []), (242, .iaload, 1, 0, 0, []), (243, .aload_n 3, 1, 0, 0, []), (244, .iconst 2, 1, 0, 0, []), (245, .iload 4, 2, 0, 0, []), (247, .iadd, 1, 0, 0, []), (248, .iaload, 1, 0, 0, []), (249, .iadd, 1, 0, 0, []), (250, .iastore, 1, 0, 0, []), (251, .iinc 4 1, 3, 0, 0, []), (254, .goto (-189), 3, 65, 0, []), (257, .aload_n 1, 1, 0, 0, []), (258, .iconst 0, 1, 0, 0, []), (259, .invokestatic 33, 3, 67, 0, []), (262, .aload_n 1, 1, 0, 0, []), (263, .iconst 1, 1, 0, 0, []), (264, .invokestatic 33, 3, 67, 0, []), (267, .iadd, 1, 0, 0, []), (268, .istore 4, 2, 0, 0, []), (270, .aload_n 1, 1, 0, 0, []), (271, .aload_n 0, 1, 0, 0, []), (272, .iconst 0, 1, 0, 0, []), (273, .iaload, 1, 0, 0, []), (274, .invokestatic 39, 3, 79, 0, []), (277, .istore 5, 2, 0, 0, []), (279, .aload_n 0, 1, 0, 0, []), (280, .bipush 6, 2, 0, 0, []), (282, .dup2, 1, 0, 0, []), (283, .iaload, 1, 0, 0, []), (284, .iload 4, 2, 0, 0, []), (286, .iadd, 1, 0, 0, []), (287, .iastore, 1, 0, 0, []), (288, .aload_n 0, 1, 0, 0, []), (289, .bipush 7, 2, 0, 0, []), (291, .dup2, 1, 0, 0, []), (292, .iaload, 1, 0, 0, []), (293, .iload 4, 2, 0, 0, []), (295, .iload 5, 2, 0, 0, []), (297, .if_icmp .le 11, 3, 308, 0, []), (300, .iload 4, 2, 0, 0, []), (302, .iload 5, 2, 0, 0, []), (304, .isub, 1, 0, 0, []), (305, .goto 8, 3, 313, 0, []), (308, .iload 5, 2, 0, 0, []), (310, .iload 4, 2, 0, 0, []), (312, .isub, 1, 0, 0, []), (313, .iadd, 1, 0, 0, []), (314, .iastore, 1, 0, 0, []), (315, .iconst 0, 1, 0, 0, []), (316, .istore 6, 2, 0, 0, []), (318, .iload 6, 2, 0, 0, []), (320, .iconst 2, 1, 0, 0, []), (321, .if_icmp .ge 97, 3, 418, 0, []), (324, .aload_n 1, 1, 0, 0, []), (325, .bipush 16, 2, 0, 0, []), (327, .iload 6, 2, 0, 0, []), (329, .imul, 1, 0, 0, []), (330, .bipush 8, 2, 0, 0, []), (332, .iadd, 1, 0, 0, []), (333, .iaload, 1, 0, 0, []), (334, .ifCond .ne 12, 3, 346, 0, []), (337, .aload_n 1, 1, 0, 0, []), (338, .iload 6, 2, 0, 0, []), (340, .invokestatic 33, 3, 67, 0, []), (343, .goto 4, 3, 347, 0, []), (346, .iconst 0, 1, 0, 0, []), (347, .istore 7, 2, 0, 0, []), (349, .aload_n 0, 1, 0, 0, []), (350, .aload_n 2, 1, 0, 0, []), (351, .iload 6, 2, 0, 0, []), (353, .aload_n 0, 1, 0, 0, []), (354, .iconst 5, 1, 0, 0, []), (355, .iaload, 1, 0, 0, []), (356, .bipush 100, 2, 0, 0, []), (358, .idiv, 1, 0, 0, []), (359, .invokestatic 42, 3, 85, 0, []), (362, .istore 8, 2, 0, 0, []), (364, .aload_n 2, 1, 0, 0, []), (365, .iload 8, 2, 0, 0, []), (367, .iconst 2, 1, 0, 0, []), (368, .iadd, 1, 0, 0, []), (369, .dup2, 1, 0, 0, []), (370, .iaload, 1, 0, 0, []), (371, .aload_n 3, 1, 0, 0, []), (372, .iload 6, 2, 0, 0, []), (374, .iaload, 1, 0, 0, []), (375, .iadd, 1, 0, 0, []), (376, .iastore, 1, 0, 0, []), (377, .aload_n 2, 1, 0, 0, []), (378, .iload 8, 2, 0, 0, []), (380, .iconst 3, 1, 0, 0, []), (381, .iadd, 1, 0, 0, []), (382, .dup2, 1, 0, 0, []), (383, .iaload, 1, 0, 0, []), (384, .aload_n 3, 1, 0, 0, []), (385, .iconst 2, 1, 0, 0, []), (386, .iload 6, 2, 0, 0, []), (388, .iadd, 1, 0, 0, []), (389, .iaload, 1, 0, 0, []), (390, .iadd, 1, 0, 0, []), (391, .iastore, 1, 0, 0, []), (392, .aload_n 2, 1, 0, 0, []), (393, .iload 8, 2, 0, 0, []), (395, .iconst 4, 1, 0, 0, []), (396, .iadd, 1, 0, 0, []), (397, .dup2, 1, 0, 0, []), (398, .iaload, 1, 0, 0, []), (399, .iload 7, 2, 0, 0, []), (401, .iadd, 1, 0, 0, []), (402, .iastore, 1, 0, 0, []), (403, .aload_n 0, 1, 0, 0, []), (404, .bipush 8, 2, 0, 0, []), (406, .dup2, 1, 0, 0, []), (407, .iaload, 1, 0, 0, []), (408, .iload 7, 2, 0, 0, []), (410, .iadd, 1, 0, 0, []), (411, .iastore, 1, 0, 0, []), (412, .iinc 6 1, 3, 0, 0, []), (415, .goto (-97), 3, 318, 0, []), (418, .aload_n 0, 1, 0, 0, []), (419, .iconst 5, 1, 0, 0, []), (420, .dup2, 1, 0, 0, []), (421, .iaload, 1, 0, 0, []), (422, .iconst 1, 1, 0, 0, []), (423, .iadd, 1, 0, 0, []), (424, .iastore, 1, 0, 0, []), (425, .aload_n 3, 1, 0, 0, []), (426, .iconst 0, 1, 0, 0, []), (427, .iaload, 1, 0, 0, []), (428, .ifCond .gt 9, 3, 437, 0, []), (431, .aload_n 3, 1, 0, 0, []), (432, .iconst 1, 1, 0, 0, []), (433, .iaload, 1, 0, 0, []), (434, .ifCond .le 7, 3, 441, 0, []), (437, .iconst 1, 1, 0, 0, []), (438, .goto 4, 3, 442, 0, []), (441, .iconst 0, 1, 0, 0, []), (442, .ireturn, 1, 0, 0, [])]
theorem tL_tick_ok : xTblOK RL cL_tick xFL 9 tL_tick = true := by decide +kernel
abbrev nL_tick (X : Nat × (Nat → Int32)) : List (Nat × Nat × Nat × XS) := [(67, 2, 0, fL_flow X), (19, 2, 0, fL_down X), (31, 3, 0, fL_near X), (73, 3, 0, fL_step X), (79, 2, 0, fL_ideal X), (85, 4, 0, fL_entry X)]
abbrev kStp : List (Nat × List Nat) := [(65, [0, 1, 2, 3, 4]), (318, [0, 1, 2, 3, 6])]
abbrev kLv0 : XL := [(0, xR 9 2), (1, xR 9 3), (2, xR 9 4)]
/-- the run's second half, from behind the new array -/
def kNext (X : Nat × (Nat → Int32)) (s : Nat × XL × XH × Nat) : Option (XR × XH) := match Nat.beq s.1 58, s.2.2.2 with
  | true, _ + 1 => if s.2.1 = kLv0 then (match xIter X (xEnv (nL_tick X)) (fun _ _ => some none) 1 kStp tL_tick 100000 (62, (3, xR 9 5) :: kLv0, xNewW s.2.2.1, 0) with
    | some (.inl (some (.inl b)), σ') => some (.inl (some (.inl b)), xDropW σ')
    | _ => none) else none
  | _, _ => none
def fL_tick (X : Nat × (Nat → Int32)) : XS := fun as σ => if as = [xR 9 2, xR 9 3, xR 9 4] then (match xExec X (xEnv (nL_tick X)) (fun _ _ => some none) 1 [(58, [0, 1, 2])] tL_tick 1000 (xPc tL_tick 0) kLv0 [] σ 1 with
    | some (.inr s) => kNext X s
    | _ => none) else none
theorem kEnv (l : Launch) (X : Nat × (Nat → Int32)) : ∀ a n κ f, xEnv (nL_tick X) a = some (n, κ, f) → xCS l X RL 4 a n κ f := (xEnv_ok (L := nL_tick X) (List.forall_mem_cons.mpr ⟨xCS_S (i := 33) (n := 2) (mL_flow l X) (xPk_in [468, 469, 6, 470] (by decide +kernel) (by decide +kernel)) (by decide +kernel) (by decide) (by decide), (List.forall_mem_cons.mpr ⟨xCS_S (i := 9) (n := 2) (mL_down l X) (xPk_in [474, 475, 6, 476] (by decide +kernel) (by decide +kernel)) (by decide +kernel) (by decide) (by decide), (List.forall_mem_cons.mpr ⟨xCS_S (i := 15) (n := 3) (mL_near l X) (xPk_in [477, 478, 6, 479] (by decide +kernel) (by decide +kernel)) (by decide +kernel) (by decide) (by decide), (List.forall_mem_cons.mpr ⟨xCS_S (i := 36) (n := 3) (mL_step l X) (xPk_in [480, 481, 6, 482] (by decide +kernel) (by decide +kernel)) (by decide +kernel) (by decide) (by decide), (List.forall_mem_cons.mpr ⟨xCS_S (i := 39) (n := 2) (mL_ideal l X) (xPk_in [489, 490, 6, 491] (by decide +kernel) (by decide +kernel)) (by decide +kernel) (by decide) (by decide), (List.forall_mem_cons.mpr ⟨xCS_S (i := 42) (n := 4) (mL_entry l X) (xPk_in [492, 493, 6, 494] (by decide +kernel) (by decide +kernel)) (by decide +kernel) (by decide) (by decide), (fun _ h => absurd h List.not_mem_nil)⟩)⟩)⟩)⟩)⟩)⟩))
/-- the addresses with the new array's -/
def xG5 (G : XG) (a : Nat) : XG := (xD G, fun c j => if c = 9 ∧ j = 5 then a else xad G c j, xlo G, xcI G, xcT G)
theorem xG5_ne {G : XG} {a c j : Nat} (h : ¬ (c = 9 ∧ j = 5)) : xad (xG5 G a) c j = xad G c j := if_neg h
theorem xG5_eq {G : XG} {a : Nat} : xad (xG5 G a) 9 5 = a := by
  show (if 9 = 9 ∧ 5 = 5 then a else xad G 9 5) = a
  rw [if_pos ⟨rfl, rfl⟩]
theorem xG5_v {G : XG} {a : Nat} {v : XV} (h : v ≠ xR 9 5) : xcv (xG5 G a) v = xcv G v := by
  rcases v with x | x | _ | q
  · rfl
  · rfl
  · rfl
  · show Value.ref (xad (xG5 G a) q.1 q.2) = _
    rw [xG5_ne (fun e => h (by obtain ⟨q1, q2⟩ := q; obtain ⟨rfl, rfl⟩ := e; rfl))]
    rfl
theorem xG5_AP {G : XG} {a : Nat} (hA : xAP G) (h1 : xlo G ≤ a) (h2 : ∀ c j, c < 12 → j < xcnt c → ¬ (c = 9 ∧ j = 5) → xad G c j ≠ a) : xAP (xG5 G a) := by
  refine ⟨fun c j c' j' hc hj hc' hj' e => ?_, fun c j hc hj => ?_⟩
  · by_cases g : c = 9 ∧ j = 5
    · by_cases g' : c' = 9 ∧ j' = 5
      · exact ⟨g.1.trans g'.1.symm, g.2.trans g'.2.symm⟩
      · obtain ⟨rfl, rfl⟩ := g
        rw [xG5_eq, xG5_ne g'] at e
        exact absurd e.symm (h2 c' j' hc' hj' g')
    · by_cases g' : c' = 9 ∧ j' = 5
      · obtain ⟨rfl, rfl⟩ := g'
        rw [xG5_eq, xG5_ne g] at e
        exact absurd e (h2 c j hc hj g)
      · rw [xG5_ne g, xG5_ne g'] at e
        exact hA.1 c j c' j' hc hj hc' hj' e
  · by_cases g : c = 9 ∧ j = 5
    · obtain ⟨rfl, rfl⟩ := g
      rw [xG5_eq]
      exact h1
    · rw [xG5_ne g]
      exact hA.2 c j hc hj
theorem xrho_n5 (w : Option Nat) (c j k : Nat) : xrho w c j k ≠ some (9, 5) := by
  intro h
  unfold xrho at h
  repeat' (split at h)
  all_goals cases h
theorem xfk_n2 (c k : Nat) : xfk c k ≠ 2 := by
  unfold xfk
  repeat' split
  all_goals decide
theorem xfg_n5 {σ : XH} (hw : ∀ i, σ.2.2 = some i → i < 8) {c j k : Nat} (hc : c < 8) : xfg σ c j k ≠ xR 9 5 := by
  unfold xfg
  split
  · exact fun h => by cases h
  · exact fun h => by cases h
  · exact fun h => by cases h
  · intro h
    have h := congrArg (fun v : XV => match v with | .inr (.inr q) => q | _ => none) h
    have h : xrho σ.2.2 c j k = some (9, 5) := h
    exact xrho_n5 _ _ _ _ h
/-- the run's cells with the new array -/
theorem xRP_new {G : XG} {σ : XH} {H H1 : Heap} {a : Nat} (hR : xRP G σ H) (hq : ∀ q : Nat, q < H.size → H1[q]? = H[q]?) (hn : H1[a]? = some (vp_cell (xcI G) (4, .inl (fun _ => 0)))) : xRP (xG5 G a) (xNewW σ) H1 := by
  obtain ⟨r1, r2, r3, r4, r5⟩ := hR
  have lt : ∀ {q : Nat} {ce : Cell}, H[q]? = some ce → q < H.size := fun h => (Array.getElem?_eq_some_iff.mp h).1
  refine ⟨fun c j hc hj => ?_, fun c j hc hj hf => ?_, trivial, ?_, r5⟩
  · rw [xG5_ne (by omega)]
    have h1 := r1 c j hc hj
    have h2 : t_OB (xad G c j) ((xD G).1 c) (xNN c) ((xD G).2 c) H1 (fun k => xcv G (xfg σ c j k)) := by
      refine h1.kept ?_
      obtain ⟨cell, hc1, -⟩ := h1
      exact hq _ (lt hc1)
    refine t_OB.to h2 fun k _ => ?_
    rw [xG5_v]
    · congr 1
      unfold xfg xNewW
      dsimp only
      rw [if_neg (by omega)]
      rcases hx : xfk c k with _ | _ | _ | n
      · rfl
      · rfl
      · exact absurd hx (xfk_n2 c k)
      · rfl
    · exact xfg_n5 (σ := xNewW σ) r5 hc
  · by_cases g : c = 9 ∧ j = 5
    · obtain ⟨rfl, rfl⟩ := g
      rw [xG5_eq]
      exact hn
    · have h1 := r2 c j hc hj (fun e1 e2 => absurd ⟨e1, e2⟩ g)
      have hf2 : (fun i => σ.1 c j i) = (fun i => (xNewW σ).1 c j i) := by
        funext i
        show σ.1 c j i = (if c = 9 then (if j = 5 then 0 else σ.1 c j i) else σ.1 c j i)
        by_cases e1 : c = 9
        · rw [if_pos e1, if_neg (fun e2 => g ⟨e1, e2⟩)]
        · rw [if_neg e1]
      rw [xG5_ne g, hq _ (lt h1), h1, hf2]
      rfl
  · have hf3 : (fun i : Nat => some (xad G 3 (2 + i))) = (fun i => some (xad (xG5 G a) 3 (2 + i))) := funext fun i => by rw [xG5_ne (by omega)]
    show H1[xad (xG5 G a) 11 0]? = _
    rw [xG5_ne (by decide), hq _ (lt r4), r4, hf3]
    rfl
theorem xRP_lt {G : XG} {σ : XH} {H : Heap} (hR : xRP G σ H) {c j : Nat} (hc : c < 12) (hj : j < xcnt c) (hne : ¬ (c = 9 ∧ j = 5)) : xad G c j < H.size := by
  obtain ⟨r1, r2, r3, r4, r5⟩ := hR
  have lt : ∀ {q : Nat} {ce : Cell}, H[q]? = some ce → q < H.size := fun h => (Array.getElem?_eq_some_iff.mp h).1
  by_cases h8 : c < 8
  · obtain ⟨cell, hc1, -⟩ := r1 c j h8 hj
    exact lt hc1
  · by_cases h9 : c = 8 ∨ c = 9
    · exact lt (r2 c j h9 hj (fun e1 e2 => absurd ⟨e1, e2⟩ hne))
    · by_cases h10 : c = 10
      · subst h10
        exact absurd hj (Nat.not_lt_zero _)
      · have h11 : c = 11 := by omega
        subst h11
        have hj : j < 1 := hj
        have : j = 0 := by omega
        subst this
        exact lt r4
/-- and without it again -/
theorem xRP_drop {G : XG} {σ : XH} {H : Heap} {a : Nat} (hR : xRP (xG5 G a) σ H) : xRP G (xDropW σ) H := by
  obtain ⟨r1, r2, r3, r4, r5⟩ := hR
  refine ⟨fun c j hc hj => ?_, fun c j hc hj hf => ?_, trivial, ?_, r5⟩
  · have h1 := r1 c j hc hj
    rw [xG5_ne (by omega)] at h1
    refine t_OB.to h1 fun k _ => ?_
    rw [xG5_v (xfg_n5 r5 hc)]
    congr 1
    unfold xfg xDropW
    dsimp only
    rcases hx : xfk c k with _ | _ | _ | n
    · rfl
    · rfl
    · exact absurd hx (xfk_n2 c k)
    · rfl
  · have g : ¬ (c = 9 ∧ j = 5) := fun q => absurd (hf q.1 q.2) (by
    show ¬ ((if (10 : Nat) = 10 then (0 : Int64) else σ.2.1 10 0 0) = 1)
    rw [if_pos rfl]
    decide)
    have h1 := r2 c j hc hj (fun e1 e2 => absurd ⟨e1, e2⟩ g)
    rw [xG5_ne g] at h1
    exact h1
  · have h1 := r4
    have hf3 : (fun i : Nat => some (xad (xG5 G a) 3 (2 + i))) = (fun i => some (xad G 3 (2 + i))) := funext fun i => by rw [xG5_ne (by omega)]
    rw [xG5_ne (by decide), hf3] at h1
    exact h1
theorem xFin_drop {G : XG} {below : List Frame} {args : Array Value} {s : State} {κ a : Nat} {σ : XH} {r : XR} (hn : ∀ v, r = .inl (some v) → v ≠ xR 9 5) {t : State} (h : xFin (xG5 G a) below args s κ σ r t) : xFin G below args s κ (xDropW σ) r t := by
  obtain ⟨o, h1, h2, h3⟩ := h
  refine ⟨o, h1, h2, ?_⟩
  rcases h3 with ⟨⟨⟨v, e1, e2, e3⟩, hR, hF⟩, h4⟩ | ⟨E, q, ce, e1, e2, ⟨⟨k, e3, e4⟩, hR, hF⟩, h4⟩
  · refine Or.inl ⟨⟨⟨v, e1, ?_, e3⟩, xRP_drop hR, hF⟩, h4⟩
    rw [e2]
    cases v with
    | none => rfl
    | some w =>
      show Outcome.returned (some (xcv (xG5 G a) w)) = _
      rw [xG5_v (hn w e1)]
      rfl
  · exact Or.inr ⟨E, q, ce, e1, e2, ⟨⟨k, e3, e4⟩, xRP_drop hR, hF⟩, h4⟩
theorem d67_58 : decode cL_tick 58 = .ok (.iconst 4, 1) := by decide +kernel
theorem d67_59 : decode cL_tick 59 = .ok (.newarray .int, 2) := by decide +kernel
theorem d67_61 : decode cL_tick 61 = .ok (.astore_n 3, 1) := by decide +kernel
theorem k_new : tL_tick.all (fun e => !xIsNew e) = true := by decide +kernel
set_option maxRecDepth 100000 in
set_option maxHeartbeats 1000000 in
theorem mL_tick (l : Launch) (X : Nat × (Nat → Int32)) : xMet l X yL_tick cL_tick 9 (some .boolean) 4 1 (fL_tick X) := by
  intro G as σ r σ' hA hok hfa
  unfold fL_tick at hfa
  split at hfa
  case isFalse => cases hfa
  case isTrue has =>
  subst has
  refine vx_ofWF (cc := cL_tick) (maxL := 9) (ret := some .boolean) (ws' := []) (by decide +kernel) rfl ?_
  intro p e s m args below meth c s₁ B hml ht hv
  obtain ⟨hargs, hWK, hST, hR⟩ := hv
  have hx := B.exec
  have hb := B.bytes
  have hr := B.returns
  have hown : s.vm.findClass RL = some m.cls := findClass_of_methodNamed B.named
  have hlocks := B.notSynchronized
  have hts : ∀ w ∈ xW, w.before args s = true := fun w hw => word_at (State.WarmedH.refl s) (xW_good hw) (hWK.2.1 w hw)
  have C0 : xCtx G X p s m args meth c cL_tick RL 9 := ⟨hx, hb, hown, hml, hlocks, hWK, hts, hST, hA⟩
  have F : ∀ {G : XG}, xCtx G X p s m args meth c cL_tick RL 9 → xFix G X p l e (xRm 4 1) s m args below meth c cL_tick RL 9 4 1 xFL (xEnv (nL_tick X)) (fun _ _ => some none) 1 := fun C => ⟨C, ⟨Nat.le_refl _, Nat.le_refl _, Nat.le_refl _, Nat.le_refl _⟩, x_FL, hr, kEnv l X, fun pc E _ x hx => absurd hx (fun q => ht x q), fun pc E t i h => by cases h⟩
  have hl := lv_entry ([xR 9 2, xR 9 3, xR 9 4].map (xcv G)) (n := 9) (Nat.le_of_ble_eq_true rfl)
  rw [xargs_eq] at hl
  subst hargs
  rw [lg_entry_eq]
  split at hfa
  case h_2 => cases hfa
  case h_1 s0 hs0 =>
  obtain ⟨pc0, lv0, σ1, b1⟩ := s0
  unfold kNext at hfa
  dsimp only at hfa
  split at hfa
  case h_2 => cases hfa
  case h_1 b hpc =>
  have hpc := Nat.eq_of_beq_eq_true hpc
  subst hpc
  split at hfa
  case isFalse => cases hfa
  case isTrue hlv0 =>
  subst hlv0
  split at hfa
  case h_2 => cases hfa
  case h_1 b0 σ2 hit =>
  cases hfa
  have hgo := xExec_sound (e := e) (R := xRm 4 1) (below := below) (Q := xFin G below ([xR 9 2, xR 9 3, xR 9 4].map (xcv G)).toArray s 1 (xDropW σ2) (.inl (some (.inl b0)))) (F C0) (by decide) tL_tick_ok (fun en hen hi => xNoNew (P := fun en => xNewOK G p l e (xRm 4 1) s m ([xR 9 2, xR 9 3, xR 9 4].map (xcv G)).toArray below meth c 1 9 en) k_new en hen hi hi) (fun r2 σ3 h => by cases h) (fun pc lv σ3 b3 h => ?_) 1000 [] _ _ kLv0 [] σ 1 rfl hs0
  · exact hgo (xlok_args hok 0) (fun v hv => absurd hv List.not_mem_nil) s.heap [] _ 0 0 hR va_S.rf hl (by omega) (by omega)
  · cases h
    intro hlv hsv H locs ls cells slots hR hS hls hc1 hc2
    refine lv_iconst (v := 4) hx hb d67_58 (by decide) ?_
    refine va_newaK (atype := .int) (N := 4) hx hb (hts _ (xPk_in (ws := [.arrayClass .int]) [105] (by decide +kernel) (by decide +kernel) _ List.mem_cons_self)) rfl d67_59 rfl (by decide) (by decide) (Nat.le_of_ble_eq_true rfl) (by show cells + 1 ≤ 1; omega) (by show slots + 4 ≤ 6; omega) rfl (fun H1 cA e1 z1 o1 hAr hNm => ?_)
    have ec : cA = xcI G := Option.some.inj (hNm.symm.trans (hWK.1.2 0 _ rfl).2)
    rw [ec] at e1
    refine lv_astore_n (lv' := xcl (xG5 G H.size) ((3, xR 9 5) :: kLv0)) hx hb d67_61 rfl hls (by decide) rfl (fun ls' hls2 => ?_)
    have hAp : xAP (xG5 G H.size) := xG5_AP hA (Nat.le_trans hST.1 hS.1) (fun c j hc hj hne e9 => ?_)
    · have hST2 : xST (xG5 G H.size) X s s.heap := ⟨hST.1, ⟨by rw [xG5_ne (by decide)]; exact hST.2.1.1, by rw [xG5_ne (by decide)]; exact hST.2.1.2⟩, hST.2.2.1, hST.2.2.2⟩
      have C2 : xCtx (xG5 G H.size) X p s m ([xR 9 2, xR 9 3, xR 9 4].map (xcv G)).toArray meth c cL_tick RL 9 := ⟨hx, hb, hown, hml, hlocks, hWK, hts, hST2, hAp⟩
      have hgo2 := xIter_sound (e := e) (R := xRm 4 1) (below := below) (F C2) (by decide) tL_tick_ok (fun en hen hi => xNoNew (P := fun en => xNewOK (xG5 G H.size) p l e (xRm 4 1) s m ([xR 9 2, xR 9 3, xR 9 4].map (xcv G)).toArray below meth c 1 9 en) k_new en hen hi hi) 100000 62 ((3, xR 9 5) :: kLv0) (xNewW σ1) 0 _ σ2 hit
      have hR2 : xRP (xG5 G H.size) (xNewW σ1) H1 := xRP_new hR o1 e1
      have hS2 : va_S (xA (xG5 G H.size)) s.heap H1 locs := ⟨Nat.le_trans hS.1 (by omega), fun q g1 g2 => (o1 q (Nat.lt_of_lt_of_le g1 hS.1)).trans (hS.2.1 q g1 g2), hS.2.2⟩
      have K := hgo2 (xlok_c hlv (show (5 : Nat) < 6 by decide)) (fun v hv => absurd hv List.not_mem_nil) H1 locs ls' (cells + 1) (slots + 4) hR2 hS2 hls2 (by omega) (by omega)
      intro T hT X9
      obtain ⟨t, a1, b1⟩ := K T hT X9
      exact ⟨t, a1, xFin_drop (fun v hv => by cases hv; exact fun q => by cases q) b1⟩
    · exact absurd e9 (Nat.ne_of_lt (xRP_lt hR hc hj hne))
