/-! ===== the law, from its entry: its objects, its loop (written by wip/p28/gen/start2.py) ===== -/
theorem d78_L_0 : decode code 0 = .ok (.new 81, 3) := by decide +kernel
theorem d78_L_3 : decode code 3 = .ok (.dup, 1) := by decide +kernel
theorem d78_L_4 : decode code 4 = .ok (.invokespecial 144, 3) := by decide +kernel
theorem d78_L_7 : decode code 7 = .ok (.astore_n 1, 1) := by decide +kernel
theorem d78_L_8 : decode code 8 = .ok (.bipush 10, 2) := by decide +kernel
theorem d78_L_10 : decode code 10 = .ok (.newarray .int, 2) := by decide +kernel
theorem d78_L_12 : decode code 12 = .ok (.astore_n 2, 1) := by decide +kernel
theorem d78_L_13 : decode code 13 = .ok (.bipush 32, 2) := by decide +kernel
theorem d78_L_15 : decode code 15 = .ok (.newarray .int, 2) := by decide +kernel
theorem d78_L_17 : decode code 17 = .ok (.astore_n 3, 1) := by decide +kernel
theorem d78_L_18 : decode code 18 = .ok (.bipush 60, 2) := by decide +kernel
theorem d78_L_20 : decode code 20 = .ok (.newarray .int, 2) := by decide +kernel
theorem d78_L_22 : decode code 22 = .ok (.astore 4, 2) := by decide +kernel
theorem d78_L_158 : decode code 158 = .ok (.iconst 1, 1) := by decide +kernel
theorem d78_L_159 : decode code 159 = .ok (.goto 4, 3) := by decide +kernel
theorem d78_L_163 : decode code 163 = .ok (.ireturn, 1) := by decide +kernel
section LWL
variable {p : Program} {l : Launch} {e : Env} {s : State} {m : MethodId} {below : List Frame} {meth : Method} {c : Code} {b L : Nat} {xs : Nat → Int32} {G : XG}
theorem lw_fin (C0 : xCtx G (L, xs) p s m #[Value.ref b] meth c code RL 8) (hr : meth.sig.returnType = ret) (hlo : xlo G = s.heap.size) {H : Heap} {locs : List Loc} {ls : Array Slot} {cells slots : Nat} (hS : va_S (xA G) s.heap H locs) (hc : cells ≤ 100000) (hs : slots ≤ 600000) : W p l e room_1 s m #[Value.ref b] below meth c H locs cells slots (lw_Z below #[Value.ref b] s) (F0 m 158 ls []) := by
  obtain ⟨hx, hb, hown, hml, hlocks, -⟩ := C0
  refine lv_iconst (v := 1) hx hb d78_L_158 (by decide) ?_
  refine lv_goto (tgt := 163) hx hb d78_L_159 (by decide) ?_
  refine va_forget (fun q hq => ?_) ?_
  · have h1 : xlo G ≤ q.base := hS.2.2 q hq
    rw [hlo] at h1
    exact h1
  · refine W.widen (k := 727602) (n := 6918817) (Nat.le_trans hc (Nat.le_of_ble_eq_true rfl)) (Nat.le_trans hs (Nat.le_of_ble_eq_true rfl)) ?_
    refine W.base ?_
    exact lw_ret (Drawn.sameBut.refl s.drawn lw_cs) hx hb hr hlocks d78_L_163
theorem lw_fix (hl : l.stackTraces = false) (C0 : xCtx G (L, xs) p s m #[Value.ref b] meth c code RL 8) (hr : meth.sig.returnType = ret) {κ : Nat} (hk : κ ≤ 100000) : xFix G (L, xs) p l e room_1 s m #[Value.ref b] below meth c code RL 8 12 κ xFL (xEnv (nL_law (L, xs))) (fun _ _ => none) 1 :=
  ⟨C0, ⟨Nat.le_of_ble_eq_true rfl, Nat.le_of_ble_eq_true rfl, Nat.le_trans hk (Nat.le_of_ble_eq_true rfl), Nat.le_trans (Nat.mul_le_mul_left 6 hk) (Nat.le_of_ble_eq_true rfl)⟩, x_FL, hr, nL_ok l (L, xs) hl, (fun pc E h => by cases h), (fun pc E t i h => by cases h)⟩
theorem lw_seg (hl : l.stackTraces = false) (C0 : xCtx G (L, xs) p s m #[Value.ref b] meth c code RL 8) (hr : meth.sig.returnType = ret) {en : XE} {pre r : List XE} (htl : tL_law = pre ++ en :: r) (hpc : xPc tL_law en.1 = en :: r) {lv : XL} (hlv : xlok lv) {σ : XH} {cc : Nat} (hk : cc + 1000 ≤ 100000) {out : XO} {Q : State → Prop} (ho : xExec (L, xs) (xEnv (nL_law (L, xs))) (fun _ _ => none) 1 sL_stops tL_law 1000 (xPc tL_law en.1) lv [] σ 1000 = some out) (hout : ∀ r σ', out = .inl (r, σ') → False)
    (hstop : ∀ pc lv σ' b', out = .inr (pc, lv, σ', b') → xGo G p l e room_1 s m #[Value.ref b] below meth c (cc + 1000) 8 Q pc lv [] σ' b') {H : Heap} {locs : List Loc} {ls : Array Slot} {cells slots : Nat} (hR : xRP G σ H) (hS : va_S (xA G) s.heap H locs) (hls : lv_has ls 8 (xcl G lv)) (hc : cells ≤ cc) (hs : slots ≤ 6 * cc) : W p l e room_1 s m #[Value.ref b] below meth c H locs cells slots Q (F0 m en.1 ls []) := by
  rw [hpc] at ho
  have hgo := xExec_sound (e := e) (R := room_1) (below := below) (Q := Q) (lw_fix (e := e) (below := below) hl C0 hr hk) (by decide) tL_law_ok (xNoNew (by decide +kernel)) (fun r2 σ2 h => (hout r2 σ2 h).elim) hstop 1000 pre en r lv [] σ 1000 htl ho
  exact hgo hlv (fun v hv => absurd hv List.not_mem_nil) H locs ls cells slots hR hS hls (by omega) (by omega)
theorem sLv0_ok : xlok sLv0 := by
  intro q hq
  simp only [List.mem_cons, List.not_mem_nil, or_false] at hq
  rcases hq with rfl | rfl | rfl | rfl | rfl
  · exact (by decide : (0 : Nat) < 1)
  · exact (by decide : (0 : Nat) < 1)
  · exact (by decide : (2 : Nat) < 6)
  · exact (by decide : (3 : Nat) < 6)
  · exact (by decide : (4 : Nat) < 6)
theorem sLv_ok (T k : Int32) : xlok (sLv T k) := by
  intro q hq
  simp only [List.mem_cons, List.not_mem_nil, or_false] at hq
  rcases hq with rfl | rfl | rfl | rfl | rfl | rfl | rfl | rfl
  · exact (by decide : (0 : Nat) < 1)
  · exact (by decide : (0 : Nat) < 1)
  · exact (by decide : (2 : Nat) < 6)
  · exact (by decide : (3 : Nat) < 6)
  · exact (by decide : (4 : Nat) < 6)
  · trivial
  · trivial
  · trivial
set_option maxRecDepth 100000 in
theorem tL_57 : ∃ pre en r, tL_law = pre ++ en :: r ∧ en.1 = 57 ∧ xPc tL_law 57 = en :: r := ⟨tL_law.take 19, (57, .iload 7, 2, 0, 0, []), tL_law.drop 20, rfl, rfl, rfl⟩
set_option maxRecDepth 100000 in
theorem tL_24 : ∃ pre en r, tL_law = pre ++ en :: r ∧ en.1 = 24 ∧ xPc tL_law 24 = en :: r := ⟨[], (24, .aload_n 2, 1, 0, 0, []), tL_law.drop 1, rfl, rfl, rfl⟩
set_option maxRecDepth 100000 in
set_option maxHeartbeats 1000000 in
theorem lw_loop (hl : l.stackTraces = false) (hL : L ≤ 260) (hr : meth.sig.returnType = ret) (hlo : xlo G = s.heap.size) (C0 : xCtx G (L, xs) p s m #[Value.ref b] meth c code RL 8) {T : Nat} (hT : T ≤ 100) : ∀ (n k : Nat) (σ : XH) (H : Heap) (locs : List Loc) (ls : Array Slot) (cells slots cc : Nat), k + n = T → cc + 710 * n + 1000 ≤ 90000 → cells ≤ cc → slots ≤ 6 * cc → JJ (400 * k) σ → xRP G σ H → va_S (xA G) s.heap H locs → lv_has ls 8 (xcl G (sLv (oN T) (oN k))) →
    W p l e room_1 s m #[Value.ref b] below meth c H locs cells slots (lw_Z below #[Value.ref b] s) (F0 m 57 ls []) := by
  obtain ⟨pre, en, r, e1, e2, e3⟩ := tL_57
  intro n
  induction n with
  | zero =>
    intro k σ H locs ls cells slots cc hk hb hc hs hJ hR hS hls
    obtain rfl : k = T := by omega
    obtain ⟨out, ho, rfl⟩ := wExec_s 1000 (sL_last (L, xs) k hT σ)
    rw [← e2] at e3 ho ⊢
    refine lw_seg hl C0 hr e1 e3 (sLv_ok _ _) (cc := cc) (by omega) ho (fun r2 σ2 h => by cases h) (fun pc lv σ2 b2 h => ?_) hR hS hls hc hs
    cases h
    intro hlv hsv H locs ls cells slots hR hS hls hc1 hc2
    exact lw_fin C0 hr hlo hS (by omega) (by omega)
  | succ n ih =>
    intro k σ H locs ls cells slots cc hk hb hc hs hJ hR hS hls
    obtain ⟨out, ho, σ', hJ', rfl⟩ := wExec_s 1000 (sL_turn (L, xs) hL T k hT (by omega) σ hJ)
    rw [← e2] at e3 ho
    have key : W p l e room_1 s m #[Value.ref b] below meth c H locs cells slots (lw_Z below #[Value.ref b] s) (F0 m en.1 ls []) := by
      refine lw_seg hl C0 hr e1 e3 (sLv_ok _ _) (cc := cc) (by omega) ho (fun r2 σ2 h => by cases h) (fun pc lv σ2 b2 h => ?_) hR hS hls hc hs
      cases h
      intro hlv hsv H locs ls cells slots hR hS hls hc1 hc2
      rw [e2]
      exact ih (k + 1) σ' H locs ls cells slots (cc + 710) (by omega) (by omega) (by omega) (by omega) hJ' hR hS hls
    rw [e2] at key
    exact key
set_option maxRecDepth 100000 in
set_option maxHeartbeats 1000000 in
theorem lw_body (hl : l.stackTraces = false) (hL : L ≤ 260) (hr : meth.sig.returnType = ret) (hlo : xlo G = s.heap.size) (C0 : xCtx G (L, xs) p s m #[Value.ref b] meth c code RL 8) {H : Heap} {locs : List Loc} {ls : Array Slot} {cells slots : Nat} (hc : cells ≤ 200) (hs : slots ≤ 6 * 200) (hR : xRP G xH0 H) (hS : va_S (xA G) s.heap H locs) (hls : lv_has ls 8 (xcl G sLv0)) :
    W p l e room_1 s m #[Value.ref b] below meth c H locs cells slots (lw_Z below #[Value.ref b] s) (F0 m 24 ls []) := by
  obtain ⟨pre, en, r, e1, e2, e3⟩ := tL_24
  obtain ⟨out, ho, mm, σ', hm, hJ, rfl⟩ := wExec_s 1000 (sL_24 (L, xs) hL)
  rw [← e2] at e3 ho ⊢
  refine lw_seg hl C0 hr e1 e3 sLv0_ok (cc := 200) (by omega) ho (fun r2 σ2 h => by cases h) (fun pc lv σ2 b2 h => ?_) hR hS hls hc hs
  cases h
  intro hlv hsv H locs ls cells slots hR hS hls hc1 hc2
  exact lw_loop hl hL hr hlo C0 (by omega) (8 + mm) 0 σ' H locs ls cells slots 500 (by omega) (by omega) (by omega) (by omega) hJ hR hS hls
end LWL
set_option maxRecDepth 100000 in
set_option maxHeartbeats 4000000 in
theorem whole_start {p : Program} {e : Env} {s : State} {m : MethodId} {below : List Frame} {meth : Method} {c : Code} (l : Launch) (hflags : l.flags = flags0) {b L : Nat} {xs : Nat → Int32} (hL : L ≤ 260) (C0 : lw_At p s m meth c b L xs) : W p l e room_1 s m #[Value.ref b] below meth c s.heap [] 0 0 (lw_Z below #[Value.ref b] s) (entryFrame m ([Value.ref b] : List Value).toArray 8) := by
  obtain ⟨D, cI, cT, low, hent⟩ := y_entry C0
  obtain ⟨hx, hb, hr, hml, hown, hts0, hX, hbl, hlocks, hgv⟩ := id C0
  have hlf : l.stackTraces = false := by
    unfold Launch.stackTraces
    rw [hflags]
    decide
  obtain ⟨-, hWK, -⟩ := hent low (fun _ _ _ => rfl)
  have hAO : va_AO RX4 s := va_AO.of (hts0 _ (z_arr (.arrayOver (.object RX4)) (by simp)))
  have hts : ∀ w ∈ xW, w.before #[Value.ref b] s = true := fun w hw => hts0 w (xW_in hw)
  have C1 : yCtx (D, low, s.heap.size, cI, cT) p s m #[Value.ref b] meth c code RL 8 := ⟨hx, hb, hown, hml, hlocks, ⟨hWK, hAO⟩, hts⟩
  have P : yPs (D, low, s.heap.size, cI, cT) (fun q => s.heap.size ≤ q) s.heap [] s.heap [] := ⟨(fun k q hq => by cases hq), ⟨(fun i j x y hi _ _ => by cases hi), (fun k q hq => by cases hq)⟩, va_S.rf, fun q h => h⟩
  have hl := lv_entry ([.ref b]) (n := 8) (Nat.le_of_ble_eq_true rfl)
  rw [lg_entry_eq]
  generalize (lg_sl ([.ref b]) ++ List.replicate (8 - (lg_sl ([.ref b])).length) Slot.unset).toArray = ls at hl ⊢
  have hl : lv_has ls 8 [(0, .ref b)] := hl
  refine yr_new C1 P 6 (by decide) (xPk_in [21, 22, 7] (by decide +kernel) (by decide +kernel)) (Nat.le_of_ble_eq_true rfl) (Nat.le_of_ble_eq_true rfl) d78_L_0 (fun x H P => ?_)
  refine lv_dup hx hb d78_L_3 rfl ?_
  refine yr_call C1 P (yM_X7_init l) (n := 0) (index := 144) (wr := []) (rest := [.ref x]) 0 [] rfl rfl rfl (by decide) (xPk_in [23, 24, 7, 25] (by decide +kernel) (by decide +kernel)) rfl (by decide +kernel) (Nat.le_of_ble_eq_true rfl) (Nat.le_of_ble_eq_true rfl) (by decide) (Nat.le_of_ble_eq_true rfl) (Nat.le_of_ble_eq_true rfl) rfl hl.1 rfl (Nat.le_of_ble_eq_true rfl) d78_L_4 (fun g H locs P => ?_)
  have P : yPs (D, low, s.heap.size, cI, cT) (fun q => s.heap.size ≤ q) s.heap (oFace (D, low, s.heap.size, cI, cT) x g) H _ := P
  refine lv_astore_n (lv' := [(1, .ref x), (0, .ref b)]) hx hb d78_L_7 rfl hl (by decide) rfl (fun ls hl => ?_)
  refine lv_bipush (v := 10) hx hb d78_L_8 (by decide) ?_
  refine yr_newI C1 P 10 (by decide) (by decide) (Nat.le_of_ble_eq_true rfl) (xPk_in (ws := [.arrayClass .int]) [105] (by decide +kernel) (by decide +kernel) _ List.mem_cons_self) (Nat.le_of_ble_eq_true rfl) (Nat.le_of_ble_eq_true rfl) d78_L_10 (fun o1 H P => ?_)
  refine lv_astore_n (lv' := [(2, .ref o1), (1, .ref x), (0, .ref b)]) hx hb d78_L_12 rfl hl (by decide) rfl (fun ls hl => ?_)
  refine lv_bipush (v := 32) hx hb d78_L_13 (by decide) ?_
  refine yr_newI C1 P 32 (by decide) (by decide) (Nat.le_of_ble_eq_true rfl) (xPk_in (ws := [.arrayClass .int]) [105] (by decide +kernel) (by decide +kernel) _ List.mem_cons_self) (Nat.le_of_ble_eq_true rfl) (Nat.le_of_ble_eq_true rfl) d78_L_15 (fun o2 H P => ?_)
  refine lv_astore_n (lv' := [(3, .ref o2), (2, .ref o1), (1, .ref x), (0, .ref b)]) hx hb d78_L_17 rfl hl (by decide) rfl (fun ls hl => ?_)
  refine lv_bipush (v := 60) hx hb d78_L_18 (by decide) ?_
  refine yr_newI C1 P 60 (by decide) (by decide) (Nat.le_of_ble_eq_true rfl) (xPk_in (ws := [.arrayClass .int]) [105] (by decide +kernel) (by decide +kernel) _ List.mem_cons_self) (Nat.le_of_ble_eq_true rfl) (Nat.le_of_ble_eq_true rfl) d78_L_20 (fun o3 H P => ?_)
  refine lv_astore (lv' := [(4, .ref o3), (3, .ref o2), (2, .ref o1), (1, .ref x), (0, .ref b)]) hx hb d78_L_22 hl (by decide) rfl (fun ls hl => ?_)
  have P : yPs (D, low, s.heap.size, cI, cT) (fun q => s.heap.size ≤ q) s.heap (yWs (D, low, s.heap.size, cI, cT) x g (yg [o1, o2, o3])) H _ := P
  obtain ⟨hP, hD, hS, hA⟩ := P
  obtain ⟨e15, hWK1, hST1⟩ := hent (yAd low x g (yg [o1, o2, o3]) H.size) (fun c j hc => yAd_low c j hc)
  have C2 : xCtx (yG1 D s.heap.size cI cT low x g (yg [o1, o2, o3]) H.size) (L, xs) p s m #[Value.ref b] meth c code RL 8 := ⟨hx, hb, hown, hml, hlocks, hWK1, hts, hST1, yAP hP hD hS.1 (Nat.le_refl _)⟩
  have hl1 : lv_has ls 8 (xcl (yG1 D s.heap.size cI cT low x g (yg [o1, o2, o3]) H.size) sLv0) := by
    show lv_has ls 8 [(0, .ref (yAd low x g (yg [o1, o2, o3]) H.size 15 0)), (1, .ref x), (2, .ref o1), (3, .ref o2), (4, .ref o3)]
    rw [e15]
    exact lv_sub hl [4, 3, 2, 1, 0] rfl
  exact lw_body hlf hL hr rfl C2 (Nat.le_of_ble_eq_true rfl) (Nat.le_of_ble_eq_true rfl) (yRP hP) hS hl1
