/-! ===== the law's loop ===== -/
set_option maxRecDepth 100000 in
theorem tL_new : (tL_law.all fun en => match en.2.1 with | .new _ => false | _ => true) = true := by decide +kernel
theorem tL_no {en : XE} (h : en ∈ tL_law) : ¬ ∃ i, en.2.1 = .new i := by
  rintro ⟨i, hi⟩
  have h1 := List.all_eq_true.mp tL_new en h
  rw [hi] at h1
  cases h1
theorem g7_mean : GoodIn xW (wsV RL 123 RX7 yX7_meanFlow [.code yX7_meanFlow cX7_meanFlow 1 (some .double)]) := fun w h => by
  have := xPk_in (ws := wsV RL 123 RX7 yX7_meanFlow [.code yX7_meanFlow cX7_meanFlow 1 (some .double)]) [269, 270, 271, 59, 272] (by decide +kernel) (by decide +kernel) w h
  exact ⟨this, xW_good this⟩
theorem g8_mean : GoodIn xW (wsV RL 127 RX8 yX8_meanFlow [.code yX8_meanFlow cX8_meanFlow 1 (some .double)]) := fun w h => by
  have := xPk_in (ws := wsV RL 127 RX8 yX8_meanFlow [.code yX8_meanFlow cX8_meanFlow 1 (some .double)]) [1115, 1116, 1117, 65, 1118] (by decide +kernel) (by decide +kernel) w h
  exact ⟨this, xW_good this⟩
theorem xr_cell {G : XG} {σ : XH} {H : Heap} {s : State} (hWK : xWK G s) (hR : xRP G σ H) {k j : Nat} (hk : k < 8) (hj : j < xcnt k) : ∃ cellB : Cell, H[xad G k j]? = some cellB ∧ cellB.vm.isStatics = false ∧ s.vm.findClass (xRR k) = some cellB.cls := by
  obtain ⟨cell, q1, q2, q3, -⟩ := hR.1 k j hk hj
  refine ⟨cell, q1, by rw [q3]; rfl, ?_⟩
  rw [q2]
  exact (hWK.1.1 k _ (x_cl k hk)).2.1
set_option maxRecDepth 100000 in
set_option maxHeartbeats 4000000 in
/-- meanFlow's case: both may draw, and are alike -/
theorem lw_mean {p : Program} {l : Launch} {e : Env} {s : State} {m : MethodId} {below : List Frame} {meth : Method} {c : Code} {args : Array Value} {Q : State → Prop} {G : XG} {X : Nat × (Nat → Int32)} {σ : XH} {i : Int32} {H : Heap} {locs : List Loc} {ls : Array Slot} {cells slots : Nat} {d0 : Drawn}
    (C0 : xCtx G X p s m args meth c code RL 9) (hd0 : s.drawn.sameBut d0 lw_cs) (hJ : J σ) (hR : xRP G σ H) (hS : va_S (xA G) s.heap H locs) (hl : lv_has ls 9 (xcl G (sL_lv i))) (hc : cells ≤ room_1.cells) (hsl : slots ≤ room_1.slots)
    (kk : ∀ (d1 : Drawn) (H1 : Heap) (locs1 : List Loc) (ls1 : Array Slot), s.drawn.sameBut d1 lw_cs → xRP G (xuI σ 7 0 6 0) H1 → va_S (xA G) s.heap H1 locs1 → lv_has ls1 9 (xcl G (sL_lv (i + 5))) → W p l e room_1 (s.setDrawn d1) m args below meth c H1 locs1 cells slots Q (F0 m 23 ls1 [])) :
    W p l e room_1 (s.setDrawn d0) m args below meth c H locs cells slots Q (F0 m 904 ls []) := by
  obtain ⟨hx, hb, hown, hml, hlocks, hWK, hts, hST, hA⟩ := id C0
  obtain ⟨t1, t2, t3⟩ := yJ_t hJ
  have hl : lv_has ls 9 [(0, .ref (xad G 15 0)), (1, .ref (xad G 6 0)), (2, .ref (xad G 7 0)), (3, .ref (xad G 10 0)), (4, .int i)] := hl
  refine lv_aload_n hx hb d65_L_904 rfl (lv_at hl 1 rfl) ?_
  refine va_calldD hd0 (va_runV_D (C := RX7) (As := []) (rest := []) (nL := 9) (n := 0) (index := 123) (mc := 0) (ms := 0) ⟨hx, hb, hml, hown, dr_words hts _⟩ (mD7 l X G σ hA) (cwV 0 (dr_words hts _) g7_mean rfl rfl rfl (by decide +kernel) ⟨Nat.le_of_ble_eq_true rfl, Nat.le_of_ble_eq_true rfl⟩) ⟨xPc0_blind _ _ _ _, xr_cell (k := 6) hWK hR (by decide) (by decide), xPc0_pre (C0.dr d0) hR hS⟩ rfl rfl hl.1 rfl (lv_room (Nat.le_of_ble_eq_true rfl)) d65_L_905 ⟨hc, hsl⟩) hS (fun q _ h => h) (fun q h => h) (fun r1 u1 ta H locs ht1 hvm1 hw1 hB1 hz1 hk1 hS d1 hd1 => ?_)
  have hR : xRP G σ H := by rw [← ht1]; exact hB1
  refine lv_dstore (lv' := [(5, .double r1), (0, .ref (xad G 15 0)), (1, .ref (xad G 6 0)), (2, .ref (xad G 7 0)), (3, .ref (xad G 10 0)), (4, .int i)]) hx hb d65_L_908 hl (by decide) rfl (fun ls hl => ?_)
  refine lv_aload_n hx hb d65_L_910 rfl (lv_at hl 3 rfl) ?_
  refine va_calldD hd1 (va_runV_D (C := RX8) (As := []) (rest := []) (nL := 9) (n := 0) (index := 127) (mc := 0) (ms := 0) ⟨hx, hb, hml, hown, dr_words hts _⟩ (mD8 l X G σ hA) (cwV 0 (dr_words hts _) g8_mean rfl rfl rfl (by decide +kernel) ⟨Nat.le_of_ble_eq_true rfl, Nat.le_of_ble_eq_true rfl⟩) ⟨xPc0_blind _ _ _ _, xr_cell (k := 7) hWK hR (by decide) (by decide), xPc0_pre (C0.dr d1) hR hS⟩ rfl rfl hl.1 rfl (lv_room (Nat.le_of_ble_eq_true rfl)) d65_L_911 ⟨hc, hsl⟩) hS (fun q _ h => h) (fun q h => h) (fun r2 u2 tb H locs ht2 hvm2 hw2 hB2 hz2 hk2 hS d2 hd2 => ?_)
  have hR : xRP G (xuI σ 7 0 6 0) H := by rw [← ht2]; exact hB2
  have hal := mf_both (a := r1) (b := r2) t3 (by rw [t1, t2] at hw1; exact hw1) hw2
  refine lv_dstore (lv' := [(7, .double r2), (5, .double r1), (0, .ref (xad G 15 0)), (1, .ref (xad G 6 0)), (2, .ref (xad G 7 0)), (3, .ref (xad G 10 0)), (4, .int i)]) hx hb d65_L_914 hl (by decide) rfl (fun ls hl => ?_)
  have K : W p l e room_1 (s.setDrawn d2) m args below meth c H locs (cells + 0 + 0) (slots + 0 + 0) Q (F0 m 942 ls []) := by
    refine lv_goto (tgt := 1483) hx hb d65_L_942 (by decide) ?_
    refine lv_iinc (lv' := [(4, .int (i + 5)), (7, .double r2), (5, .double r1), (0, .ref (xad G 15 0)), (1, .ref (xad G 6 0)), (2, .ref (xad G 7 0)), (3, .ref (xad G 10 0))]) (k := 6) (v := i + 5) hx hb d65_L_1483 hl rfl rfl (by decide) rfl (fun ls hl => ?_)
    refine lv_goto (tgt := 23) hx hb d65_L_1486 (by decide) ?_
    exact kk d2 H locs ls hd2 hR hS (lv_sub hl [3, 4, 5, 6, 0] rfl)
  refine lv_dload hx hb d65_L_916 (lv_at hl 1 rfl) ?_
  refine lv_dload hx hb d65_L_918 (lv_at hl 0 rfl) ?_
  refine lv_dcmp hx hb d65_L_920 ?_
  refine lv_if_eq (tgt := 942) hx hb d65_L_921 (by decide) (fun _ => K) (fun h0 => ?_)
  obtain ⟨n1, n2⟩ := mf_go hal h0
  refine lv_dload hx hb d65_L_924 (lv_at hl 1 rfl) ?_
  refine lv_dload hx hb d65_L_926 (lv_at hl 1 rfl) ?_
  refine lv_dcmp hx hb d65_L_928 ?_
  refine lv_if_eq (tgt := 940) hx hb d65_L_929 (by decide) (fun h => absurd h n1) (fun _ => ?_)
  refine lv_dload hx hb d65_L_932 (lv_at hl 0 rfl) ?_
  refine lv_dload hx hb d65_L_934 (lv_at hl 0 rfl) ?_
  refine lv_dcmp hx hb d65_L_936 ?_
  exact lv_if_ne (tgt := 942) hx hb d65_L_937 (by decide) (fun _ => K) (fun h => absurd h n2)
set_option maxRecDepth 100000 in
/-- the loop's end: too few ints are left -/
theorem sL_end (X : Nat × (Nat → Int32)) (σ : XH) (B i : Nat) (hX : X.1 ≤ 2560) (h0 : i ≤ 2565) (hn : ¬ i + 5 ≤ X.1) : wExec X (xEnv (nL_law X)) (fun _ _ => none) 1 sL_stops tL_law (fun out => out = .inr (1489, [], σ, B)) 1000 (xPc tL_law 23) (sL_lv (oN i)) [] σ B := by
  refine And.intro (fun h => rfl) (fun h => absurd (sL_len hX h0 h) hn)
theorem sL_ok (i : Int32) : xlok (sL_lv i) := by
  intro q hq
  simp only [List.mem_cons, List.not_mem_nil, or_false] at hq
  rcases hq with rfl | rfl | rfl | rfl | rfl
  · exact Nat.zero_lt_one
  · exact Nat.zero_lt_one
  · exact Nat.zero_lt_one
  · exact Nat.zero_lt_one
  · trivial
section LWL
variable {p : Program} {l : Launch} {e : Env} {s : State} {m : MethodId} {below : List Frame} {meth : Method} {c : Code} {b L : Nat} {xs : Nat → Int32} {G : XG}
theorem lw_fin (C0 : xCtx G (L, xs) p s m #[Value.ref b] meth c code RL 9) (hr : meth.sig.returnType = ret) (hlo : xlo G = s.heap.size) {d0 : Drawn} (hd0 : s.drawn.sameBut d0 lw_cs) {H : Heap} {locs : List Loc} {ls : Array Slot} {cells slots : Nat} (hS : va_S (xA G) s.heap H locs) (hc : cells ≤ 2000) (hs : slots ≤ 12000) : W p l e room_1 (s.setDrawn d0) m #[Value.ref b] below meth c H locs cells slots (lw_Z below #[Value.ref b] s) (F0 m 1489 ls []) := by
  obtain ⟨hx, hb, hown, hml, hlocks, -⟩ := C0
  refine lv_iconst (v := 1) hx hb d65_L_1489 (by decide) ?_
  refine va_forget (fun q hq => ?_) ?_
  · have h1 : xlo G ≤ q.base := hS.2.2 q hq
    rw [hlo] at h1
    exact h1
  · refine W.widen (k := 601024) (n := 7293034) (Nat.le_trans hc (Nat.le_of_ble_eq_true rfl)) (Nat.le_trans hs (Nat.le_of_ble_eq_true rfl)) ?_
    exact lw_ret hd0 hx hb hr hlocks d65_L_1490
theorem lw_fix (hl : l.stackTraces = false) (C0 : xCtx G (L, xs) p s m #[Value.ref b] meth c code RL 9) (hr : meth.sig.returnType = ret) (d0 : Drawn) : xFix G (L, xs) p l e room_1 (s.setDrawn d0) m #[Value.ref b] below meth c code RL 9 12 2000 [] (xEnv (nL_law (L, xs))) (fun _ _ => none) 1 :=
  ⟨C0.dr d0, ⟨Nat.le_of_ble_eq_true rfl, Nat.le_of_ble_eq_true rfl, Nat.le_of_ble_eq_true rfl, Nat.le_of_ble_eq_true rfl⟩, fun w hw => absurd hw List.not_mem_nil, hr, nL_ok l (L, xs) hl, (fun pc E h => by cases h), (fun pc E t i h => by cases h)⟩
theorem lw_seg (hl : l.stackTraces = false) (C0 : xCtx G (L, xs) p s m #[Value.ref b] meth c code RL 9) (hr : meth.sig.returnType = ret) (d0 : Drawn) {σ : XH} {i : Int32} {b0 : Nat} {out : XO} {Q : State → Prop} (ho : xExec (L, xs) (xEnv (nL_law (L, xs))) (fun _ _ => none) 1 sL_stops tL_law 1000 (xPc tL_law 23) (sL_lv i) [] σ b0 = some out) (hout : ∀ r σ', out = .inl (r, σ') → False)
    (hstop : ∀ pc lv σ' b', out = .inr (pc, lv, σ', b') → xGo G p l e room_1 (s.setDrawn d0) m #[Value.ref b] below meth c 2000 9 Q pc lv [] σ' b') {H : Heap} {locs : List Loc} {ls : Array Slot} {cells slots : Nat} (hR : xRP G σ H) (hS : va_S (xA G) s.heap H locs) (hls : lv_has ls 9 (xcl G (sL_lv i))) (hc : cells + b0 ≤ 2000) (hs : slots + 6 * b0 ≤ 12000) : W p l e room_1 (s.setDrawn d0) m #[Value.ref b] below meth c H locs cells slots Q (F0 m 23 ls []) := by
  have hgo := xExec_sound (e := e) (R := room_1) (below := below) (Q := Q) (lw_fix (e := e) (below := below) hl C0 hr d0) (by decide) tL_law_ok (fun en hen hi => absurd hi (tL_no hen)) (fun r2 σ2 h => (hout r2 σ2 h).elim) hstop 1000 [] (23, .iload 4, 2, 0, 0, []) tL_law.tail (sL_lv i) [] σ b0 rfl ho
  exact hgo (sL_ok _) (fun v hv => absurd hv List.not_mem_nil) H locs ls cells slots hR hS hls hc hs
set_option maxRecDepth 100000 in
set_option maxHeartbeats 1000000 in
theorem lw_stop (hl : l.stackTraces = false) (hL : L ≤ 2560) (hr : meth.sig.returnType = ret) (hlo : xlo G = s.heap.size) (C0 : xCtx G (L, xs) p s m #[Value.ref b] meth c code RL 9) {i : Nat} {σ : XH} {d0 : Drawn} {H : Heap} {locs : List Loc} {ls : Array Slot} {cells slots b0 : Nat} (h5 : ¬ i + 5 ≤ L) (hi : i ≤ 2560) (hc : cells + b0 ≤ 2000) (hs : slots + 6 * b0 ≤ 12000) (hd0 : s.drawn.sameBut d0 lw_cs) (hR : xRP G σ H) (hS : va_S (xA G) s.heap H locs) (hls : lv_has ls 9 (xcl G (sL_lv (oN i)))) :
    W p l e room_1 (s.setDrawn d0) m #[Value.ref b] below meth c H locs cells slots (lw_Z below #[Value.ref b] s) (F0 m 23 ls []) := by
  obtain ⟨out, ho, rfl⟩ := wExec_s 1000 (sL_end (L, xs) σ b0 i hL (by omega) h5)
  refine lw_seg hl C0 hr d0 ho (fun r2 σ2 h => by cases h) (fun pc lv σ2 b2 h => ?_) hR hS hls hc hs
  cases h
  intro hlv hsv H locs ls cells slots hR hS hls hc1 hc2
  exact lw_fin C0 hr hlo hd0 hS (by omega) (by omega)
set_option maxRecDepth 100000 in
set_option maxHeartbeats 1000000 in
theorem lw_loop (hl : l.stackTraces = false) (hL : L ≤ 2560) (hr : meth.sig.returnType = ret) (hlo : xlo G = s.heap.size) (C0 : xCtx G (L, xs) p s m #[Value.ref b] meth c code RL 9) : ∀ (n i : Nat) (σ : XH) (d0 : Drawn) (H : Heap) (locs : List Loc) (ls : Array Slot) (cells slots b0 : Nat), L < i + 5 + 5 * n → i ≤ 2560 → 2 * n + 2 ≤ b0 → cells + b0 ≤ 2000 → slots + 6 * b0 ≤ 12000 → s.drawn.sameBut d0 lw_cs → J σ → xRP G σ H → va_S (xA G) s.heap H locs → lv_has ls 9 (xcl G (sL_lv (oN i))) →
    W p l e room_1 (s.setDrawn d0) m #[Value.ref b] below meth c H locs cells slots (lw_Z below #[Value.ref b] s) (F0 m 23 ls []) := by
  intro n
  induction n with
  | zero =>
    intro i σ d0 H locs ls cells slots b0 hf hi hb0 hc hs hd0 hJ hR hS hls
    exact lw_stop hl hL hr hlo C0 (by omega) hi hc hs hd0 hR hS hls
  | succ n ih =>
    intro i σ d0 H locs ls cells slots b0 hf hi hb0 hc hs hd0 hJ hR hS hls
    by_cases h5 : i + 5 ≤ L
    · obtain ⟨B, rfl⟩ : ∃ B, b0 = B + 2 := ⟨b0 - 2, by omega⟩
      obtain ⟨out, ho, hq⟩ := wExec_s 1000 (sL_head (L, xs) σ B i hL (by omega) hJ)
      refine lw_seg hl C0 hr d0 ho (fun r2 σ2 h => ?_) (fun pc lv σ2 b2 h => ?_) hR hS hls hc hs
      · rcases hq with ⟨σ', b', rfl, -⟩ | rfl | rfl <;> cases h
      · rcases hq with ⟨σ', b', rfl, hJ', hb'⟩ | rfl | rfl
        · cases h
          intro hlv hsv H locs ls cells slots hR hS hls hc1 hc2
          exact ih (i + 5) _ d0 H locs ls cells slots _ (by omega) (by omega) (by omega) hc1 hc2 hd0 hJ' hR hS hls
        · cases h
          intro hlv hsv H locs ls cells slots hR hS hls hc1 hc2
          refine lw_mean C0 hd0 hJ hR hS hls (Nat.le_trans (by omega : cells ≤ 2000) (Nat.le_of_ble_eq_true rfl)) (Nat.le_trans (by omega : slots ≤ 12000) (Nat.le_of_ble_eq_true rfl)) (fun d1 H1 locs1 ls1 hd1 hR1 hS1 hl1 => ?_)
          rw [sL_5] at hl1
          exact ih (i + 5) _ d1 H1 locs1 ls1 cells slots (B + 2) (by omega) (by omega) (by omega) hc1 hc2 hd1 (yJ_u hJ) hR1 hS1 hl1
        · cases h
          intro hlv hsv H locs ls cells slots hR hS hls hc1 hc2
          exact lw_fin C0 hr hlo hd0 hS (by omega) (by omega)
    · exact lw_stop hl hL hr hlo C0 h5 hi hc hs hd0 hR hS hls
end LWL
