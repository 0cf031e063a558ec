/-! ===== the law, from its entry: its objects, its loop ===== -/
set_option maxRecDepth 100000 in
set_option maxHeartbeats 4000000 in
theorem whole_start {p : Program} {e : Env} {s : State} {m : MethodId} {below : List Frame} {meth : Method} {c : Code} (l : Launch) (hflags : l.flags = flags0) {b L : Nat} {xs : Nat → Int32} (hL : L ≤ 2560) (C0 : lw_At p s m meth c b L xs) : W p l e room_1 s m #[Value.ref b] below meth c s.heap [] 0 0 (lw_Z below #[Value.ref b] s) (entryFrame m ([Value.ref b] : List Value).toArray 9) := by
  obtain ⟨D, cI, cL, cT, low, hent⟩ := y_entry C0
  obtain ⟨hx, hb, hr, hml, hown, hts0, hX, hbl, hlocks, hgv⟩ := id C0
  have hlf : l.stackTraces = false := by
    unfold Launch.stackTraces
    rw [hflags]
    decide
  obtain ⟨-, hWK, -⟩ := hent low (fun _ _ _ => rfl)
  have hAO : va_AO RX4 s := va_AO.of (hts0 _ (z_arr (.arrayOver (.object RX4)) (by simp)))
  have hts : ∀ w ∈ xW, w.before #[Value.ref b] s = true := fun w hw => hts0 w (xW_in hw)
  have C1 : yCtx (D, low, s.heap.size, cI, cL, cT) p s m #[Value.ref b] meth c code RL 9 := ⟨hx, hb, hown, hml, hlocks, ⟨hWK, hAO⟩, hts⟩
  have P : yPs (D, low, s.heap.size, cI, cL, cT) (fun q => s.heap.size ≤ q) s.heap [] s.heap [] := ⟨(fun k q hq => by cases hq), ⟨(fun i j x y hi _ _ => by cases hi), (fun k q hq => by cases hq)⟩, va_S.rf, fun q h => h⟩
  have hl := lv_entry ([.ref b]) (n := 9) (Nat.le_of_ble_eq_true rfl)
  rw [lg_entry_eq]
  generalize (lg_sl ([.ref b]) ++ List.replicate (9 - (lg_sl ([.ref b])).length) Slot.unset).toArray = ls at hl ⊢
  have hl : lv_has ls 9 [(0, .ref b)] := hl
  refine yr_new C1 P 6 (by decide) (xPk_in [81, 82, 59] (by decide +kernel) (by decide +kernel)) (Nat.le_of_ble_eq_true rfl) (Nat.le_of_ble_eq_true rfl) d65_L_0 (fun x H P => ?_)
  refine lv_dup hx hb d65_L_3 rfl ?_
  refine yr_call C1 P (yM_X7_init l) (n := 0) (index := 77) (wr := []) (rest := [.ref x]) 0 [] rfl rfl rfl (by decide) (xPk_in [83, 84, 59, 85] (by decide +kernel) (by decide +kernel)) rfl (by decide +kernel) (Nat.le_of_ble_eq_true rfl) (Nat.le_of_ble_eq_true rfl) (by decide) (Nat.le_of_ble_eq_true rfl) (Nat.le_of_ble_eq_true rfl) rfl hl.1 rfl (Nat.le_of_ble_eq_true rfl) d65_L_4 (fun g H locs P => ?_)
  have P : yPs (D, low, s.heap.size, cI, cL, cT) (fun q => s.heap.size ≤ q) s.heap (oFace (D, low, s.heap.size, cI, cL, cT) x g) H _ := P
  refine lv_astore_n (lv' := [(1, .ref x), (0, .ref b)]) hx hb d65_L_7 rfl hl (by decide) rfl (fun ls hl => ?_)
  refine yr_new C1 P 7 (by decide) (xPk_in [874, 875, 65] (by decide +kernel) (by decide +kernel)) (Nat.le_of_ble_eq_true rfl) (Nat.le_of_ble_eq_true rfl) d65_L_8 (fun y H P => ?_)
  refine lv_dup hx hb d65_L_11 rfl ?_
  refine yr_call C1 P (yM_X8_init l) (n := 0) (index := 80) (wr := oFace (D, low, s.heap.size, cI, cL, cT) x g) (rest := [.ref y]) 36 [0, 1, 2, 3, 4, 5, 6, 7, 8, 9, 10, 11, 12, 13, 14, 15, 16, 17, 18, 19, 20, 21, 22, 23, 24, 25, 26, 27, 28, 29, 30, 31, 32, 33, 34, 35] rfl rfl rfl (by decide) (xPk_in [876, 877, 65, 878] (by decide +kernel) (by decide +kernel)) rfl (by decide +kernel) (Nat.le_of_ble_eq_true rfl) (Nat.le_of_ble_eq_true rfl) (by decide) (Nat.le_of_ble_eq_true rfl) (Nat.le_of_ble_eq_true rfl) rfl hl.1 rfl (Nat.le_of_ble_eq_true rfl) d65_L_12 (fun h H locs P => ?_)
  refine lv_astore_n (lv' := [(2, .ref y), (1, .ref x), (0, .ref b)]) hx hb d65_L_15 rfl hl (by decide) rfl (fun ls hl => ?_)
  refine lv_iconst (v := 1) hx hb d65_L_16 (by decide) ?_
  refine yr_newL C1 P 1 (by decide) (by decide) (Nat.le_of_ble_eq_true rfl) (xPk_in (ws := [.arrayClass .long]) [1234] (by decide +kernel) (by decide +kernel) _ List.mem_cons_self) (Nat.le_of_ble_eq_true rfl) (Nat.le_of_ble_eq_true rfl) d65_L_17 (fun o H P => ?_)
  refine lv_astore_n (lv' := [(3, .ref o), (2, .ref y), (1, .ref x), (0, .ref b)]) hx hb d65_L_19 rfl hl (by decide) rfl (fun ls hl => ?_)
  refine lv_iconst (v := 0) hx hb d65_L_20 (by decide) ?_
  refine lv_istore (lv' := [(4, .int 0), (3, .ref o), (2, .ref y), (1, .ref x), (0, .ref b)]) hx hb d65_L_21 hl (by decide) rfl (fun ls hl => ?_)
  obtain ⟨hP, hD, hS, hA⟩ := P
  obtain ⟨e15, hWK1, hST1⟩ := hent (yAd low x g y h o) (fun c j hc => yAd_low c j hc)
  have C2 : xCtx (yG1 D s.heap.size cI cL cT low x g y h o) (L, xs) p s m #[Value.ref b] meth c code RL 9 := ⟨hx, hb, hown, hml, hlocks, hWK1, hts, hST1, yAP hD⟩
  have hl1 : lv_has ls 9 (xcl (yG1 D s.heap.size cI cL cT low x g y h o) (sL_lv (oN 0))) := by
    show lv_has ls 9 [(0, .ref (yAd low x g y h o 15 0)), (1, .ref x), (2, .ref y), (3, .ref o), (4, .int (oN 0))]
    rw [e15]
    exact lv_sub hl [4, 3, 2, 1, 0] rfl
  refine W.base ?_
  exact lw_loop hlf hL hr rfl C2 512 0 xH0 s.drawn H _ ls _ _ 1100 (by omega) (by omega) (by omega) (Nat.le_of_ble_eq_true rfl) (Nat.le_of_ble_eq_true rfl) (Drawn.sameBut.refl s.drawn lw_cs) yJ (yRP hP) hS hl1
