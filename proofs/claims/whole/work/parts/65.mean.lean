/-! ===== meanFlow of both: they may draw ===== -/
theorem xCtx.dr {G : XG} {X : Nat × (Nat → Int32)} {p : Program} {s : State} {m : MethodId} {args : Array Value} {meth : Method} {c : Code} {cc : ByteArray} {own : String} {nL : Nat} (h : xCtx G X p s m args meth c cc own nL) (d : Drawn) : xCtx G X p (s.setDrawn d) m args meth c cc own nL := by
  obtain ⟨h1, h2, h3, h4, h5, h6, h7, h8, h9⟩ := h
  have hW : s.WarmedH (s.setDrawn d).vm := State.WarmedH.refl s
  exact ⟨h1, h2, h3, h4, h5, xWK.moved hW h6, dr_words h7 d, xST.moved hW.alike h8, h9⟩
/-- what the class's meanFlow answers -/
def mfR (t v : Int32) (r : UInt64) : Prop := (t ≤ 0 → r = 13830554455654793216) ∧ (0 < t → alike64 r (FP.ddiv (FP.i2d v) (FP.i2d t)) = true)
/-- what the reference's meanFlow answers -/
def mfM (t v : Int32) (r : UInt64) : Prop := (t = 0 → r = 13830554455654793216) ∧ (t ≠ 0 → alike64 r (FP.ddiv (FP.i2d v) (FP.i2d t)) = true)
theorem d65_X7_meanFlow_0 : decode cX7_meanFlow 0 = .ok (.aload_n 0, 1) := by decide +kernel
theorem d65_X7_meanFlow_1 : decode cX7_meanFlow 1 = .ok (.getfield 10, 3) := by decide +kernel
theorem d65_X7_meanFlow_4 : decode cX7_meanFlow 4 = .ok (.getfield 126, 3) := by decide +kernel
theorem d65_X7_meanFlow_7 : decode cX7_meanFlow 7 = .ok (.ifCond .gt 7, 3) := by decide +kernel
theorem d65_X7_meanFlow_10 : decode cX7_meanFlow 10 = .ok (.ldc2_w 129, 3) := by decide +kernel
theorem d65_X7_meanFlow_13 : decode cX7_meanFlow 13 = .ok (.dreturn, 1) := by decide +kernel
theorem d65_X7_meanFlow_14 : decode cX7_meanFlow 14 = .ok (.aload_n 0, 1) := by decide +kernel
theorem d65_X7_meanFlow_15 : decode cX7_meanFlow 15 = .ok (.getfield 10, 3) := by decide +kernel
theorem d65_X7_meanFlow_18 : decode cX7_meanFlow 18 = .ok (.getfield 131, 3) := by decide +kernel
theorem d65_X7_meanFlow_21 : decode cX7_meanFlow 21 = .ok (.i2d, 1) := by decide +kernel
theorem d65_X7_meanFlow_22 : decode cX7_meanFlow 22 = .ok (.aload_n 0, 1) := by decide +kernel
theorem d65_X7_meanFlow_23 : decode cX7_meanFlow 23 = .ok (.getfield 10, 3) := by decide +kernel
theorem d65_X7_meanFlow_26 : decode cX7_meanFlow 26 = .ok (.getfield 126, 3) := by decide +kernel
theorem d65_X7_meanFlow_29 : decode cX7_meanFlow 29 = .ok (.i2d, 1) := by decide +kernel
theorem d65_X7_meanFlow_30 : decode cX7_meanFlow 30 = .ok (.ddiv, 1) := by decide +kernel
theorem d65_X7_meanFlow_31 : decode cX7_meanFlow 31 = .ok (.dreturn, 1) := by decide +kernel
theorem d65_X8_meanFlow_0 : decode cX8_meanFlow 0 = .ok (.aload_n 0, 1) := by decide +kernel
theorem d65_X8_meanFlow_1 : decode cX8_meanFlow 1 = .ok (.iconst 0, 1) := by decide +kernel
theorem d65_X8_meanFlow_2 : decode cX8_meanFlow 2 = .ok (.putfield 35, 3) := by decide +kernel
theorem d65_X8_meanFlow_5 : decode cX8_meanFlow 5 = .ok (.aload_n 0, 1) := by decide +kernel
theorem d65_X8_meanFlow_6 : decode cX8_meanFlow 6 = .ok (.getfield 7, 3) := by decide +kernel
theorem d65_X8_meanFlow_9 : decode cX8_meanFlow 9 = .ok (.iconst 5, 1) := by decide +kernel
theorem d65_X8_meanFlow_10 : decode cX8_meanFlow 10 = .ok (.iaload, 1) := by decide +kernel
theorem d65_X8_meanFlow_11 : decode cX8_meanFlow 11 = .ok (.ifCond .ne 9, 3) := by decide +kernel
theorem d65_X8_meanFlow_14 : decode cX8_meanFlow 14 = .ok (.ldc2_w 165, 3) := by decide +kernel
theorem d65_X8_meanFlow_17 : decode cX8_meanFlow 17 = .ok (.goto 19, 3) := by decide +kernel
theorem d65_X8_meanFlow_20 : decode cX8_meanFlow 20 = .ok (.aload_n 0, 1) := by decide +kernel
theorem d65_X8_meanFlow_21 : decode cX8_meanFlow 21 = .ok (.getfield 7, 3) := by decide +kernel
theorem d65_X8_meanFlow_24 : decode cX8_meanFlow 24 = .ok (.bipush 6, 2) := by decide +kernel
theorem d65_X8_meanFlow_26 : decode cX8_meanFlow 26 = .ok (.iaload, 1) := by decide +kernel
theorem d65_X8_meanFlow_27 : decode cX8_meanFlow 27 = .ok (.i2d, 1) := by decide +kernel
theorem d65_X8_meanFlow_28 : decode cX8_meanFlow 28 = .ok (.aload_n 0, 1) := by decide +kernel
theorem d65_X8_meanFlow_29 : decode cX8_meanFlow 29 = .ok (.getfield 7, 3) := by decide +kernel
theorem d65_X8_meanFlow_32 : decode cX8_meanFlow 32 = .ok (.iconst 5, 1) := by decide +kernel
theorem d65_X8_meanFlow_33 : decode cX8_meanFlow 33 = .ok (.iaload, 1) := by decide +kernel
theorem d65_X8_meanFlow_34 : decode cX8_meanFlow 34 = .ok (.i2d, 1) := by decide +kernel
theorem d65_X8_meanFlow_35 : decode cX8_meanFlow 35 = .ok (.ddiv, 1) := by decide +kernel
theorem d65_X8_meanFlow_36 : decode cX8_meanFlow 36 = .ok (.dreturn, 1) := by decide +kernel
theorem d65_L_0 : decode code 0 = .ok (.new 8, 3) := by decide +kernel
theorem d65_L_3 : decode code 3 = .ok (.dup, 1) := by decide +kernel
theorem d65_L_4 : decode code 4 = .ok (.invokespecial 77, 3) := by decide +kernel
theorem d65_L_7 : decode code 7 = .ok (.astore_n 1, 1) := by decide +kernel
theorem d65_L_8 : decode code 8 = .ok (.new 78, 3) := by decide +kernel
theorem d65_L_11 : decode code 11 = .ok (.dup, 1) := by decide +kernel
theorem d65_L_12 : decode code 12 = .ok (.invokespecial 80, 3) := by decide +kernel
theorem d65_L_15 : decode code 15 = .ok (.astore_n 2, 1) := by decide +kernel
theorem d65_L_16 : decode code 16 = .ok (.iconst 1, 1) := by decide +kernel
theorem d65_L_17 : decode code 17 = .ok (.newarray .long, 2) := by decide +kernel
theorem d65_L_19 : decode code 19 = .ok (.astore_n 3, 1) := by decide +kernel
theorem d65_L_20 : decode code 20 = .ok (.iconst 0, 1) := by decide +kernel
theorem d65_L_21 : decode code 21 = .ok (.istore 4, 2) := by decide +kernel
theorem d65_L_904 : decode code 904 = .ok (.aload_n 1, 1) := by decide +kernel
theorem d65_L_905 : decode code 905 = .ok (.invokevirtual 123, 3) := by decide +kernel
theorem d65_L_908 : decode code 908 = .ok (.dstore 5, 2) := by decide +kernel
theorem d65_L_910 : decode code 910 = .ok (.aload_n 2, 1) := by decide +kernel
theorem d65_L_911 : decode code 911 = .ok (.invokevirtual 127, 3) := by decide +kernel
theorem d65_L_914 : decode code 914 = .ok (.dstore 7, 2) := by decide +kernel
theorem d65_L_916 : decode code 916 = .ok (.dload 5, 2) := by decide +kernel
theorem d65_L_918 : decode code 918 = .ok (.dload 7, 2) := by decide +kernel
theorem d65_L_920 : decode code 920 = .ok (.dcmp .l, 1) := by decide +kernel
theorem d65_L_921 : decode code 921 = .ok (.ifCond .eq 21, 3) := by decide +kernel
theorem d65_L_924 : decode code 924 = .ok (.dload 5, 2) := by decide +kernel
theorem d65_L_926 : decode code 926 = .ok (.dload 5, 2) := by decide +kernel
theorem d65_L_928 : decode code 928 = .ok (.dcmp .l, 1) := by decide +kernel
theorem d65_L_929 : decode code 929 = .ok (.ifCond .eq 11, 3) := by decide +kernel
theorem d65_L_932 : decode code 932 = .ok (.dload 7, 2) := by decide +kernel
theorem d65_L_934 : decode code 934 = .ok (.dload 7, 2) := by decide +kernel
theorem d65_L_936 : decode code 936 = .ok (.dcmp .l, 1) := by decide +kernel
theorem d65_L_937 : decode code 937 = .ok (.ifCond .ne 5, 3) := by decide +kernel
theorem d65_L_940 : decode code 940 = .ok (.iconst 0, 1) := by decide +kernel
theorem d65_L_941 : decode code 941 = .ok (.ireturn, 1) := by decide +kernel
theorem d65_L_942 : decode code 942 = .ok (.goto 541, 3) := by decide +kernel
theorem d65_L_1483 : decode code 1483 = .ok (.iinc 4 5, 3) := by decide +kernel
theorem d65_L_1486 : decode code 1486 = .ok (.goto (-1463), 3) := by decide +kernel
theorem d65_L_1489 : decode code 1489 = .ok (.iconst 1, 1) := by decide +kernel
theorem d65_L_1490 : decode code 1490 = .ok (.ireturn, 1) := by decide +kernel
theorem mf_nan {r : UInt64} (h : isNaN64 r = true) : Op.cmpValue (FP.dcmp r r) .l ≠ 0 := by
  have h1 := isNaN64_iff.mp h
  have h2 : FP.Core.dIsNaN r = true := by
    rw [FP.Core.isNaN_bits]
    have e : r.toNat &&& 0x7fffffffffffffff = r.toNat % 2 ^ 63 := Nat.and_two_pow_sub_one_eq_mod r.toNat 63
    rw [e] at h1
    exact h1
  have h3 : FP.dcmp r r = none := (FP.Core.dcmp_none r r).mpr (Or.inl ((FP.Core.dIsNaN_iff r).mp h2))
  rw [h3]
  decide
theorem mf_alike {a b q : UInt64} (h1 : alike64 a q = true) (h2 : alike64 b q = true) : a = b ∨ (isNaN64 a = true ∧ isNaN64 b = true) := by
  simp only [alike64, Bool.or_eq_true, decide_eq_true_eq, Bool.and_eq_true] at h1 h2
  rcases h1 with rfl | ⟨h1, h3⟩
  · rcases h2 with rfl | ⟨h2, h4⟩
    · exact Or.inl rfl
    · exact Or.inr ⟨h4, h2⟩
  · rcases h2 with rfl | ⟨h2, h4⟩
    · exact Or.inr ⟨h1, h3⟩
    · exact Or.inr ⟨h1, h2⟩
theorem mf_both {t v : Int32} {a b : UInt64} (ht : 0 ≤ t) (h1 : mfR t v a) (h2 : mfM t v b) : a = b ∨ (isNaN64 a = true ∧ isNaN64 b = true) := by
  by_cases h : t = 0
  · rw [h1.1 (by rw [h]; exact Int32.le_refl _), h2.1 h]
    exact Or.inl rfl
  · have h0 : 0 < t := by
      refine Int32.lt_of_le_of_ne ht (fun e => h e.symm)
    exact mf_alike (h1.2 h0) (h2.2 h)
/-- the law's three comparisons let the loop go on -/
theorem mf_go {a b : UInt64} (h : a = b ∨ (isNaN64 a = true ∧ isNaN64 b = true)) (hn : ¬ Op.cmpValue (FP.dcmp a b) .l = 0) : ¬ Op.cmpValue (FP.dcmp a a) .l = 0 ∧ ¬ Op.cmpValue (FP.dcmp b b) .l = 0 := by
  rcases h with rfl | ⟨h1, h2⟩
  · exact ⟨hn, hn⟩
  · exact ⟨mf_nan h1, mf_nan h2⟩
set_option maxRecDepth 100000 in
set_option maxHeartbeats 1000000 in
theorem mD7 (l : Launch) (X : Nat × (Nat → Int32)) (G : XG) (σ : XH) (hA : xAP G) : MetD lw_cs l yX7_meanFlow [.code yX7_meanFlow cX7_meanFlow 1 (some .double)] ({ frames := 0, cells := 0, slots := 0, locals := 0 }) (xPc0 G X [xR 6 0] σ) (va_Qd (fun (r : UInt64) (_ : Unit) => mfR (σ.1 3 0 8) (σ.1 3 0 9) r) (fun _ t => xRP G σ t.heap) (xA G)) 0 0 (xA G) := by
  refine MetD.ofW (cc := cX7_meanFlow) (maxL := 1) (ret := some .double) (by decide) rfl ?_
  intro p e s m args below meth c s₁ B hml hv hd0
  obtain ⟨rfl, hWK, hST, hR⟩ := hv
  have hts : ∀ w ∈ xW, w.before ([xR 6 0].map (xcv G)).toArray s = true := fun w hw => word_at (State.WarmedH.refl s) (xW_good hw) (hWK.2.1 w hw)
  have C1 : xCtx G X p s m ([xR 6 0].map (xcv G)).toArray meth c cX7_meanFlow RX7 1 := ⟨B.exec, B.bytes, findClass_of_methodNamed B.named, hml, B.notSynchronized, hWK, hts, hST, hA⟩
  have C0 := C1.dr s.drawn
  have hx := B.exec
  have hb := B.bytes
  have hr := B.returns
  have hlocks := B.notSynchronized
  have hl := lv_entry ([xR 6 0].map (xcv G)) (n := 1) (Nat.le_of_ble_eq_true rfl)
  rw [lg_entry_eq]
  generalize (lg_sl ([xR 6 0].map (xcv G)) ++ List.replicate (1 - (lg_sl ([xR 6 0].map (xcv G))).length) Slot.unset).toArray = ls at hl ⊢
  have hl : lv_has ls 1 [(0, .ref (xad G 6 0))] := hl
  refine lv_aload_n hx hb d65_X7_meanFlow_0 rfl (lv_at hl 0 rfl) ?_
  refine xr_get C0 hR (k := 6) (j := 0) (f := 0) (by decide) (by decide) (by decide) (x_FX7 _ (by decide +kernel)) d65_X7_meanFlow_1 ?_
  refine xr_get C0 hR (k := 3) (j := 0) (f := 8) (by decide) (by decide) (by decide) (x_FX7 _ (by decide +kernel)) d65_X7_meanFlow_4 ?_
  refine lv_if_gt (x := σ.1 3 0 8) (tgt := 14) hx hb d65_X7_meanFlow_7 (by decide) (fun h => ?_) (fun h => ?_)
  · refine lv_aload_n hx hb d65_X7_meanFlow_14 rfl (lv_at hl 0 rfl) ?_
    refine xr_get C0 hR (k := 6) (j := 0) (f := 0) (by decide) (by decide) (by decide) (x_FX7 _ (by decide +kernel)) d65_X7_meanFlow_15 ?_
    refine xr_get C0 hR (k := 3) (j := 0) (f := 9) (by decide) (by decide) (by decide) (x_FX7 _ (by decide +kernel)) d65_X7_meanFlow_18 ?_
    refine lv_i2d (x := σ.1 3 0 9) hx hb d65_X7_meanFlow_21 ?_
    refine lv_aload_n hx hb d65_X7_meanFlow_22 rfl (lv_at hl 0 rfl) ?_
    refine xr_get C0 hR (k := 6) (j := 0) (f := 0) (by decide) (by decide) (by decide) (x_FX7 _ (by decide +kernel)) d65_X7_meanFlow_23 ?_
    refine xr_get C0 hR (k := 3) (j := 0) (f := 8) (by decide) (by decide) (by decide) (x_FX7 _ (by decide +kernel)) d65_X7_meanFlow_26 ?_
    refine lv_i2d (x := σ.1 3 0 8) hx hb d65_X7_meanFlow_29 ?_
    refine lv_ddiv_any hd0 lw_bits hx hb d65_X7_meanFlow_30 (fun r d1 hal hd1 => ?_)
    refine W.endD hd1 ?_
    exact W.dret hx hb hr (fun t ht hW => ⟨⟨r, (), rfl, ⟨fun q => absurd q (Int32.not_le.mpr h), fun _ => hal⟩, by show xRP G σ t.heap; rw [ht]; exact hR⟩, (va_S.rf (A := xA G) (H0 := s.heap)).F ht⟩) (fun q hq => absurd hq List.not_mem_nil) d65_X7_meanFlow_31
  · refine lv_ldc2d (own := RX7) (v := 13830554455654793216) hx hb C0.2.2.1 (dr_words hts _ _ (xPk_in (ws := [.constantDouble RX7 129 13830554455654793216]) [273] (by decide +kernel) (by decide +kernel) _ List.mem_cons_self)) d65_X7_meanFlow_10 ?_
    refine W.endD hd0 ?_
    exact W.dret hx hb hr (fun t ht hW => ⟨⟨_, (), rfl, ⟨fun _ => rfl, fun q => absurd q h⟩, by show xRP G σ t.heap; rw [ht]; exact hR⟩, (va_S.rf (A := xA G) (H0 := s.heap)).F ht⟩) (fun q hq => absurd hq List.not_mem_nil) d65_X7_meanFlow_13
set_option maxRecDepth 100000 in
set_option maxHeartbeats 1000000 in
theorem mD8 (l : Launch) (X : Nat × (Nat → Int32)) (G : XG) (σ : XH) (hA : xAP G) : MetD lw_cs l yX8_meanFlow [.code yX8_meanFlow cX8_meanFlow 1 (some .double)] ({ frames := 0, cells := 0, slots := 0, locals := 0 }) (xPc0 G X [xR 7 0] σ) (va_Qd (fun (r : UInt64) (_ : Unit) => mfM (σ.1 9 2 5) (σ.1 9 2 6) r) (fun _ t => xRP G (xuI σ 7 0 6 0) t.heap) (xA G)) 0 0 (xA G) := by
  refine MetD.ofW (cc := cX8_meanFlow) (maxL := 1) (ret := some .double) (by decide) rfl ?_
  intro p e s m args below meth c s₁ B hml hv hd0
  obtain ⟨rfl, hWK, hST, hR⟩ := hv
  have hts : ∀ w ∈ xW, w.before ([xR 7 0].map (xcv G)).toArray s = true := fun w hw => word_at (State.WarmedH.refl s) (xW_good hw) (hWK.2.1 w hw)
  have C1 : xCtx G X p s m ([xR 7 0].map (xcv G)).toArray meth c cX8_meanFlow RX8 1 := ⟨B.exec, B.bytes, findClass_of_methodNamed B.named, hml, B.notSynchronized, hWK, hts, hST, hA⟩
  have C0 := C1.dr s.drawn
  have hx := B.exec
  have hb := B.bytes
  have hr := B.returns
  have hlocks := B.notSynchronized
  have hl := lv_entry ([xR 7 0].map (xcv G)) (n := 1) (Nat.le_of_ble_eq_true rfl)
  rw [lg_entry_eq]
  generalize (lg_sl ([xR 7 0].map (xcv G)) ++ List.replicate (1 - (lg_sl ([xR 7 0].map (xcv G))).length) Slot.unset).toArray = ls at hl ⊢
  have hl : lv_has ls 1 [(0, .ref (xad G 7 0))] := hl
  refine lv_aload_n hx hb d65_X8_meanFlow_0 rfl (lv_at hl 0 rfl) ?_
  refine lv_iconst (v := 0) hx hb d65_X8_meanFlow_1 (by decide) ?_
  refine xr_putRaw C0 hR va_S.rf (k := 7) (j := 0) (f := 6) (by decide) (by decide) (by decide) (x_FX8 _ (by decide +kernel)) rfl (v := .int 0) rfl rfl d65_X8_meanFlow_2 (fun H locs hB oq hS => ?_)
  have hR1 : xRP G (xuI σ 7 0 6 0) H := xRP_int hA hR (by decide) (by decide) (Or.inl rfl) oq hB
  refine lv_aload_n hx hb d65_X8_meanFlow_5 rfl (lv_at hl 0 rfl) ?_
  refine xr_get C0 hR1 (k := 7) (j := 0) (f := 0) (by decide) (by decide) (by decide) (x_FX8 _ (by decide +kernel)) d65_X8_meanFlow_6 ?_
  refine lv_iconst (v := 5) hx hb d65_X8_meanFlow_9 (by decide) ?_
  refine xr_iald C0 hR1 (k := 9) (j := 2) (i := 5) (Or.inr rfl) (by decide) (by decide) (by decide) d65_X8_meanFlow_10 ?_
  refine lv_if_ne (x := σ.1 9 2 5) (tgt := 20) hx hb d65_X8_meanFlow_11 (by decide) (fun h => ?_) (fun h => ?_)
  · refine lv_aload_n hx hb d65_X8_meanFlow_20 rfl (lv_at hl 0 rfl) ?_
    refine xr_get C0 hR1 (k := 7) (j := 0) (f := 0) (by decide) (by decide) (by decide) (x_FX8 _ (by decide +kernel)) d65_X8_meanFlow_21 ?_
    refine lv_bipush (v := 6) hx hb d65_X8_meanFlow_24 (by decide) ?_
    refine xr_iald C0 hR1 (k := 9) (j := 2) (i := 6) (Or.inr rfl) (by decide) (by decide) (by decide) d65_X8_meanFlow_26 ?_
    refine lv_i2d (x := σ.1 9 2 6) hx hb d65_X8_meanFlow_27 ?_
    refine lv_aload_n hx hb d65_X8_meanFlow_28 rfl (lv_at hl 0 rfl) ?_
    refine xr_get C0 hR1 (k := 7) (j := 0) (f := 0) (by decide) (by decide) (by decide) (x_FX8 _ (by decide +kernel)) d65_X8_meanFlow_29 ?_
    refine lv_iconst (v := 5) hx hb d65_X8_meanFlow_32 (by decide) ?_
    refine xr_iald C0 hR1 (k := 9) (j := 2) (i := 5) (Or.inr rfl) (by decide) (by decide) (by decide) d65_X8_meanFlow_33 ?_
    refine lv_i2d (x := σ.1 9 2 5) hx hb d65_X8_meanFlow_34 ?_
    refine lv_ddiv_any hd0 lw_bits hx hb d65_X8_meanFlow_35 (fun r d1 hal hd1 => ?_)
    refine W.endD hd1 ?_
    exact W.dret hx hb hr (fun t ht hW => ⟨⟨r, (), rfl, ⟨fun q => absurd q h, fun _ => hal⟩, by show xRP G (xuI σ 7 0 6 0) t.heap; rw [ht]; exact hR1⟩, va_S.F (s := s) hS ht⟩) hS.2.2 d65_X8_meanFlow_36
  · refine lv_ldc2d (own := RX8) (v := 13830554455654793216) hx hb C0.2.2.1 (dr_words hts _ _ (xPk_in (ws := [.constantDouble RX8 165 13830554455654793216]) [1119] (by decide +kernel) (by decide +kernel) _ List.mem_cons_self)) d65_X8_meanFlow_14 ?_
    refine lv_goto (tgt := 36) hx hb d65_X8_meanFlow_17 (by decide) ?_
    refine W.endD hd0 ?_
    exact W.dret hx hb hr (fun t ht hW => ⟨⟨_, (), rfl, ⟨fun _ => rfl, fun q => absurd h q⟩, by show xRP G (xuI σ 7 0 6 0) t.heap; rw [ht]; exact hR1⟩, va_S.F (s := s) hS ht⟩) hS.2.2 d65_X8_meanFlow_36
