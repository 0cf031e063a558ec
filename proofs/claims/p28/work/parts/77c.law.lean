/-! ===== the law: its table, its calls, its segments (written by wip/p28/gen/law2.py) ===== -/
def tL_law : List XE := [(24, .aload_n 2, 1, 0, 0, []), (25, .aload_n 3, 1, 0, 0, []), (26, .invokestatic 145, 3, 291, 0, []), (29, .aload_n 1, 1, 0, 0, []), (30, .aload_n 2, 1, 0, 0, []), (31, .aload_n 3, 1, 0, 0, []), (32, .aload 4, 2, 0, 0, []), (34, .invokestatic 149, 3, 299, 0, []), (37, .istore 5, 2, 0, 0, []), (39, .bipush 8, 2, 0, 0, []), (41, .aload_n 0, 1, 0, 0, []), (42, .iconst 0, 1, 0, 0, []), (43, .invokestatic 153, 3, 307, 0, []), (46, .bipush 55, 2, 0, 0, []), (48, .invokestatic 47, 3, 95, 0, []), (51, .iadd, 1, 0, 0, []), (52, .istore 6, 2, 0, 0, []), (54, .iconst 0, 1, 0, 0, []), (55, .istore 7, 2, 0, 0, []), (57, .iload 7, 2, 0, 0, []), (59, .iload 6, 2, 0, 0, []), (61, .if_icmp .ge 58, 3, 119, 0, []), (64, .iload 5, 2, 0, 0, []), (66, .ifCond .eq 53, 3, 119, 0, []), (69, .aload_n 1, 1, 0, 0, []), (70, .aload_n 2, 1, 0, 0, []), (71, .aload_n 3, 1, 0, 0, []), (72, .aload 4, 2, 0, 0, []), (74, .aload_n 0, 1, 0, 0, []), (75, .iconst 1, 1, 0, 0, []), (76, .iload 7, 2, 0, 0, []), (78, .iadd, 1, 0, 0, []), (79, .invokestatic 153, 3, 307, 0, []), (82, .sipush 7919, 3, 0, 0, []), (85, .iload 7, 2, 0, 0, []), (87, .imul, 1, 0, 0, []), (88, .ixor, 1, 0, 0, []), (89, .invokestatic 156, 3, 313, 0, []), (92, .ifCond .eq 18, 3, 110, 0, []), (95, .aload_n 1, 1, 0, 0, []), (96, .aload_n 2, 1, 0, 0, []), (97, .aload_n 3, 1, 0, 0, []), (98, .aload 4, 2, 0, 0, []), (100, .invokestatic 149, 3, 299, 0, []), (103, .ifCond .eq 7, 3, 110, 0, []), (106, .iconst 1, 1, 0, 0, []), (107, .goto 4, 3, 111, 0, []), (110, .iconst 0, 1, 0, 0, []), (111, .istore 5, 2, 0, 0, []), (113, .iinc 7 1, 3, 0, 0, []), (116, .goto (-59), 3, 57, 0, []), (119, .iload 5, 2, 0, 0, []), (121, .ifCond .eq 41, 3, 162, 0, []), (124, .aload_n 1, 1, 0, 0, []), (125, .iconst 2, 1, 0, 0, []), (126, .iconst 0, 1, 0, 0, []), (127, .invokestatic 134, 3, 269, 0, []), (130, .ldc 69, 2, 0, 0, [((-2000000001), 0)]), (132, .if_icmp .ne 30, 3, 162, 0, []), (135, .aload_n 1, 1, 0, 0, []), (136, .iconst 0, 1, 0, 0, []), (137, .bipush 21, 2, 0, 0, []), (139, .invokestatic 134, 3, 269, 0, []), (142, .ldc 90, 2, 0, 0, [((-2000000002), 0)]), (144, .if_icmp .ne 18, 3, 162, 0, []), (147, .aload_n 1, 1, 0, 0, []), (148, .bipush 12, 2, 0, 0, []), (150, .invokestatic 125, 3, 251, 0, []), (153, .ldc 90, 2, 0, 0, [((-2000000002), 0)]), (155, .if_icmp .ne 7, 3, 162, 0, []), (158, .iconst 1, 1, 0, 0, []), (159, .goto 4, 3, 163, 0, []), (162, .iconst 0, 1, 0, 0, []), (163, .ireturn, 1, 0, 0, [])]
theorem tL_law_ok : xTblOK RL code xFL 8 tL_law = true := by decide +kernel
theorem w_acts : ∀ w ∈ va_wsS RL 156 yL_acts [.code yL_acts cL_acts 24 (some .boolean)], w ∈ xW := by
  have h1 := xPk_in (ws := [.methodLink RL 156 yL_acts, .static yL_acts, .initialized RL]) [209, 210, 6] (by decide +kernel) (by decide +kernel)
  have h2 : Jvm.Cond.code yL_acts cL_acts 24 (some .boolean) ∈ xW := List.mem_filter.mpr ⟨List.mem_of_getElem? (i := 211) rfl, rfl⟩
  intro w hw
  have hw : w ∈ [Jvm.Cond.methodLink RL 156 yL_acts, .static yL_acts, .initialized RL, .code yL_acts cL_acts 24 (some .boolean)] := hw
  simp only [List.mem_cons, List.not_mem_nil, or_false] at hw
  rcases hw with rfl | rfl | rfl | rfl
  · exact h1 _ (by simp)
  · exact h1 _ (by simp)
  · exact h1 _ (by simp)
  · exact h2
abbrev nL_law (X : Nat × (Nat → Int32)) : List (Nat × Nat × Nat × XS) := [(291, 2, 0, fL_starts X), (299, 4, 300, fL_isSo X), (307, 2, 0, fL_cell X), (95, 2, 0, fL_low X), (313, 5, 410, fL_acts X), (269, 3, 2, fL_valveOf X), (251, 2, 1, fL_pairOf X)]
theorem nL_ok (l : Launch) (X : Nat × (Nat → Int32)) (hl : l.stackTraces = false) : ∀ a n κ f, xEnv (nL_law X) a = some (n, κ, f) → xCS l X RL 12 a n κ f := xEnv_ok (L := nL_law X) (List.forall_mem_cons.mpr ⟨xCS_S (i := 145) (n := 2) (mL_starts l X) (xPk_in [573, 574, 6, 575] (by decide +kernel) (by decide +kernel)) (by decide +kernel) (by decide) (by decide), (List.forall_mem_cons.mpr ⟨xCS_S (i := 149) (n := 4) (mL_isSo l X hl) (xPk_in [592, 593, 6, 594] (by decide +kernel) (by decide +kernel)) (by decide +kernel) (by decide) (by decide), (List.forall_mem_cons.mpr ⟨xCS_S (i := 153) (n := 2) (mL_cell l X) (xPk_in [201, 202, 6, 203] (by decide +kernel) (by decide +kernel)) (by decide +kernel) (by decide) (by decide), (List.forall_mem_cons.mpr ⟨xCS_S (i := 47) (n := 2) (mL_low l X) (xPk_in [205, 206, 6, 207] (by decide +kernel) (by decide +kernel)) (by decide +kernel) (by decide) (by decide), (List.forall_mem_cons.mpr ⟨xCS_S (i := 156) (n := 5) (mL_acts l X hl) w_acts (by decide +kernel) (by decide) (by decide), (List.forall_mem_cons.mpr ⟨xCS_SH (i := 134) (n := 3) (mL_valveOf l X hl) (xPk_in [576, 577, 6, 578] (by decide +kernel) (by decide +kernel)) (by decide +kernel) (by decide) (by decide), (List.forall_mem_cons.mpr ⟨xCS_SH (i := 125) (n := 2) (mL_pairOf l X hl) (xPk_in [584, 585, 6, 586] (by decide +kernel) (by decide +kernel)) (by decide +kernel) (by decide) (by decide), (fun _ h => absurd h List.not_mem_nil)⟩)⟩)⟩)⟩)⟩)⟩)⟩)
abbrev sL_stops : List (Nat × List Nat) := [(57, [0, 1, 2, 3, 4, 5, 6, 7]), (158, [])]
abbrev sLv0 : XL := [(0, xR 15 0), (1, xR 6 0), (2, xR 9 2), (3, xR 9 3), (4, xR 9 4)]
abbrev sLv (T k : Int32) : XL := [(0, xR 15 0), (1, xR 6 0), (2, xR 9 2), (3, xR 9 3), (4, xR 9 4), (5, xI 1), (6, xI T), (7, xI k)]
abbrev sEx (X : Nat × (Nat → Int32)) (Q : XO → Prop) (pc : Nat) (lv : XL) (σ : XH) : Prop := wExec X (xEnv (nL_law X)) (fun _ _ => none) 1 sL_stops tL_law Q 1000 (xPc tL_law pc) lv [] σ 1000
set_option maxRecDepth 100000 in
set_option maxHeartbeats 1000000 in
theorem sL_24 (X : Nat × (Nat → Int32)) (hX : X.1 ≤ 260) : sEx X (fun out => ∃ (m : Nat) (σ' : XH), m < 55 ∧ JJ 0 σ' ∧ out = .inr (57, sLv (oN (8 + m)) (oN 0), σ', 700)) 24 sLv0 xH0 := by
  refine wF_mono (wL_starts X) ?_
  rintro _ ⟨σ', rfl, h1, h2⟩
  have hJ := JJ_0 h1 h2
  refine wF_of (wL_isSo X σ' (JJ_HH hJ)) ?_
  obtain ⟨x, ex⟩ := eL_cell X σ' 0 (by decide) hX
  refine wF_of ex ?_
  obtain ⟨m, hm, em⟩ := low_rng x (n := 55) (by decide) (by decide)
  have e1 := eL_low X σ' x (oN 55) (by decide)
  rw [em] at e1
  refine wF_of e1 ?_
  refine ⟨m, σ', hm, hJ, ?_⟩
  rw [← oN_add]
  rfl
set_option maxRecDepth 100000 in
set_option maxHeartbeats 1000000 in
theorem sL_turn (X : Nat × (Nat → Int32)) (hX : X.1 ≤ 260) (T k : Nat) (hT : T ≤ 100) (hk : k < T) (σ : XH) (hJ : JJ (400 * k) σ) : sEx X (fun out => ∃ σ' : XH, JJ (400 * (k + 1)) σ' ∧ out = .inr (57, sLv (oN T) (oN (k + 1)), σ', 290)) 57 (sLv (oN T) (oN k)) σ := by
  refine And.intro (fun q => ?_) (fun _ => ?_)
  · have q : oN T ≤ oN k := q
    rw [oN_le (by omega) (by omega)] at q
    omega
  refine And.intro (fun q => absurd q (by decide)) (fun _ => ?_)
  obtain ⟨x, ex⟩ := eL_cell X σ (1 + k) (by omega) hX
  rw [← oN_add] at ex
  refine wF_of ex ?_
  refine wF_mono (wL_acts X σ (400 * k) (by omega) hJ _) ?_
  rintro _ ⟨σ', rfl, hJ'⟩
  refine And.intro (fun q => absurd q (by decide)) (fun _ => ?_)
  refine wF_of (wL_isSo X σ' (JJ_HH hJ')) ?_
  refine And.intro (fun q => absurd q (by decide)) (fun _ => ?_)
  refine ⟨σ', hJ', ?_⟩
  rw [← oN_1]
  rfl
set_option maxRecDepth 100000 in
set_option maxHeartbeats 1000000 in
theorem sL_last (X : Nat × (Nat → Int32)) (T : Nat) (hT : T ≤ 100) (σ : XH) : sEx X (fun out => out = .inr (158, [], σ, 995)) 57 (sLv (oN T) (oN T)) σ := by
  refine And.intro (fun _ => ?_) (fun q => absurd ((oN_le (by omega) (by omega)).mpr (Nat.le_refl T)) q)
  refine And.intro (fun q => absurd q (by decide)) (fun _ => ?_)
  refine wF_of ((wL_valveOf X σ 2 0).2.1 (wX7_valve_v X σ 2 0 (by decide))) ?_
  refine And.intro (fun _ => ?_) (fun q => absurd rfl q)
  refine wF_of ((wL_valveOf X σ (oN 0) 21).2.2 (wX7_valve_r X σ 0 21 (by decide) (by decide))) ?_
  refine And.intro (fun _ => ?_) (fun q => absurd rfl q)
  refine wF_of ((wL_pairOf X σ 12).2 (wX7_pair_r X σ 12 (by decide))) ?_
  refine And.intro (fun _ => ?_) (fun q => absurd rfl q)
  rfl
