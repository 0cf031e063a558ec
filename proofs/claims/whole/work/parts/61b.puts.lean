/-! ===== the reference's own puts, before its world is whole ===== -/
abbrev yW2 (G : XG) (a sa : Nat) (fs : List Value) (F : Nat → Int32) : va_W := [(a, .inr (7, fs)), (sa, .inl (xcI G, 102, .inl F))]
theorem d61_puts_0 : decode cX8_puts 0 = .ok (.aload_n 0, 1) := by decide +kernel
theorem d61_puts_1 : decode cX8_puts 1 = .ok (.getfield 7, 3) := by decide +kernel
theorem d61_puts_4 : decode cX8_puts 4 = .ok (.bipush 10, 2) := by decide +kernel
theorem d61_puts_6 : decode cX8_puts 6 = .ok (.bipush 16, 2) := by decide +kernel
theorem d61_puts_8 : decode cX8_puts 8 = .ok (.iload_n 1, 1) := by decide +kernel
theorem d61_puts_9 : decode cX8_puts 9 = .ok (.imul, 1) := by decide +kernel
theorem d61_puts_10 : decode cX8_puts 10 = .ok (.iadd, 1) := by decide +kernel
theorem d61_puts_11 : decode cX8_puts 11 = .ok (.iload_n 2, 1) := by decide +kernel
theorem d61_puts_12 : decode cX8_puts 12 = .ok (.iadd, 1) := by decide +kernel
theorem d61_puts_13 : decode cX8_puts 13 = .ok (.iload_n 3, 1) := by decide +kernel
theorem d61_puts_14 : decode cX8_puts 14 = .ok (.iastore, 1) := by decide +kernel
theorem d61_puts_15 : decode cX8_puts 15 = .ok (.return_, 1) := by decide +kernel
set_option maxRecDepth 100000 in
set_option maxHeartbeats 4000000 in
theorem yM_puts (l : Launch) (G : XG) (a sa sz : Nat) (i f x : Int32) (fs : List Value) (F : Nat → Int32) (hfs : fs[0]? = some (.ref sa)) (hin : vp_in (10 + 16 * i + f) 102) :
    Met l yX8_puts [.code yX8_puts cX8_puts 4 none] ({ frames := 0, cells := 0, slots := 0, locals := 0 }) (va_Pc [.ref a, .int i, .int f, .int x] (fun U => U.heap.size = sz ∧ va_P (xD G) vwCl (yW2 G a sa fs F) U.heap ∧ va_D (fun _ => True) (yW2 G a sa fs F) ∧ yWK G U))
      (va_Qv (fun _ : Unit => True) (fun _ t => va_P (xD G) vwCl (yW2 G a sa fs (upd F (10 + 16 * i + f).toNatClampNeg x)) t.heap ∧ va_D (va_A (yW2 G a sa fs F) sz) (yW2 G a sa fs (upd F (10 + 16 * i + f).toNatClampNeg x))) (va_A (yW2 G a sa fs F) sz)) 0 0 (va_A (yW2 G a sa fs F) sz) := by
  refine Met.ofW (cc := cX8_puts) (maxL := 4) (ret := none) (by decide) rfl ?_
  intro p e s m args below meth c s₁ B hml hv
  obtain ⟨rfl, rfl, hP, hD0, hWK⟩ := hv
  have hts : ∀ w ∈ xW, w.before (Value.ref a :: [.int i, .int f, .int x]).toArray s = true := fun w hw => word_at (State.WarmedH.refl s) (xW_good hw) (hWK.1.2.1 w hw)
  have hl := lv_entry [.ref a, .int i, .int f, .int x] (n := 4) (Nat.le_of_ble_eq_true rfl)
  rw [lg_entry_eq]
  generalize (lg_sl ([.ref a, .int i, .int f, .int x]) ++ List.replicate (4 - (lg_sl ([.ref a, .int i, .int f, .int x])).length) Slot.unset).toArray = ls at hl ⊢
  have hl : lv_has ls 4 [(0, .ref a), (1, .int i), (2, .int f), (3, .int x)] := hl
  have C0 : yCtx G p s m _ meth c cX8_puts RX8 4 := ⟨B.exec, B.bytes, findClass_of_methodNamed B.named, hml, B.notSynchronized, hWK, hts⟩
  have P : yPs G (va_A (yW2 G a sa fs F) s.heap.size) s.heap (yW2 G a sa fs F) s.heap [] := ⟨hP, hD0.self, va_S.rf, fun q h => Or.inr h⟩
  have hx := C0.1
  have hb := C0.2.1
  refine lv_aload_n hx hb d61_puts_0 rfl (lv_at hl 0 rfl) ?_
  refine yr_get C0 P 0 7 0 rfl (by decide) (by decide) (x_FX8 _ (by decide +kernel)) hfs d61_puts_1 ?_
  refine lv_bipush (v := 10) hx hb d61_puts_4 (by decide) ?_
  refine lv_bipush (v := 16) hx hb d61_puts_6 (by decide) ?_
  refine lv_iload_n hx hb d61_puts_8 rfl (lv_at hl 1 rfl) ?_
  refine lv_imul hx hb d61_puts_9 ?_
  refine lv_iadd hx hb d61_puts_10 ?_
  refine lv_iload_n hx hb d61_puts_11 rfl (lv_at hl 2 rfl) ?_
  refine lv_iadd hx hb d61_puts_12 ?_
  refine lv_iload_n hx hb d61_puts_13 rfl (lv_at hl 3 rfl) ?_
  refine yr_iast C0 P 1 rfl hin d61_puts_14 (fun H locs P => ?_)
  obtain ⟨hP, hD, hS, hA⟩ := P
  have hlocks := B.notSynchronized
  exact W.vret hx hb B.returns (fun t ht hW => ⟨⟨(), rfl, trivial, by rw [ht]; exact hP, hD⟩, hS.F ht⟩) hS.2.2 d61_puts_15
section YPUTS
variable {p : Program} {l : Launch} {e : Env} {R : Room} {s : State} {m : MethodId} {args : Array Value} {below : List Frame} {meth : Method} {c : Code} {H : Heap} {locs : List Loc} {cells slots : Nat} {Q : State → Prop}
variable {cc : ByteArray} {pc : Nat} {ls : Array Slot} {G : XG} {nL : Nat} {A : Nat → Prop} {ws : va_W}
theorem yr_puts (C0 : yCtx G p s m args meth c cc RX8 nL) (P : yPs G A s.heap ws H locs) {index a sa : Nat} {i f x : Int32} {fs : List Value} {F : Nat → Int32} {wr : va_W} (qa qs : Nat) (isR : List Nat) (hC : [qa, qs].map (fun i => ws[i]?) = (yW2 G a sa fs F).map some) (hR : isR.map (fun i => ws[i]?) = wr.map some) (hn : va_nd isR = true) (hdis : ∀ i ∈ isR, i ∉ [qa, qs]) (hfs : fs[0]? = some (.ref sa))
    (hw : ∀ w ∈ wsV RX8 index RX8 yX8_puts [.code yX8_puts cX8_puts 4 none], w ∈ xW) (hin : vp_in (10 + 16 * i + f) 102) (hf : 1 ≤ R.frames) (hl : 23 ≤ R.locals) (hsz : ls.size = nL) (hdg : decode cc pc = .ok (.invokevirtual index, 3))
    (kk : ∀ (H1 : Heap) (locs1 : List Loc), yPs G A s.heap (wr ++ yW2 G a sa fs (upd F (10 + 16 * i + f).toNatClampNeg x)) H1 locs1 → W p l e R s m args below meth c H1 locs1 (cells + 0) (slots + 0) Q (F0 m (pc + 3) ls [])) (hroom : cells ≤ R.cells ∧ slots ≤ R.slots) : W p l e R s m args below meth c H locs cells slots Q (F0 m pc ls [.int x, .int f, .int i, .ref a]) := by
  obtain ⟨hx, hb, hown, hml, hlocks, hWK, hts⟩ := C0
  obtain ⟨hP, hD, hS, hA⟩ := P
  have hFc := va_free (wc := yW2 G a sa fs F) hD hS hA [qa, qs] hC
  simp only [List.map_cons, List.map_nil, List.cons.injEq, and_true] at hC
  have hPc : va_P (xD G) vwCl (yW2 G a sa fs F) H := fun k q hq => by
    match k, hq with
    | 0, hq => cases hq; exact hP qa _ hC.1
    | 1, hq => cases hq; exact hP qs _ hC.2
    | k + 2, hq => cases hq
  have hDc : va_D (fun _ => True) (yW2 G a sa fs F) := by
    have := hD.sub [qa, qs] (ws' := yW2 G a sa fs F) ?_ ?_
    · exact this.weaken fun _ _ _ _ => trivial
    · have : qa ≠ qs := by
        rintro rfl
        cases hC.1.symm.trans hC.2
      simp [va_nd, this]
    · simp [hC.1, hC.2]
  have hG : GoodIn xW (wsV RX8 index RX8 yX8_puts [.code yX8_puts cX8_puts 4 none]) := fun w h => ⟨hw w h, xW_good (hw w h)⟩
  refine va_callv (va_runV (C := RX8) (As := [.int i, .int f, .int x]) (rest := []) (nL := nL) (n := 3) (index := index) (mc := 0) (ms := 0) ⟨hx, hb, hml, hown, hts⟩ (yM_puts l G a sa H.size i f x fs F hfs hin) (cwV 3 hts hG rfl rfl rfl (by decide +kernel) ⟨hf, by show 8 + (4 + 11) + 0 ≤ _; omega⟩) ⟨fun a' U g mk q => ?_, va_recv hWK.1.1 hP (x_cl 7 (by decide)) hC.1, fun U hU hW => ⟨rfl, by rw [hU], by rw [hU]; exact hPc, hDc, yWK.moved hW hWK⟩⟩ rfl rfl hsz rfl (lv_room (by decide)) hdg hroom) hS (fun q _ h => hFc q h) hFc (fun g t H1 locs1 ht hvm hw2 hB hz1 hk1 hS1 => ?_)
  · obtain ⟨q0', q1, qP, qD, qK⟩ := q
    have hW : U.WarmedH (U.calling g mk a').vm := State.WarmedH.refl U
    exact ⟨q0', q1, qP, qD, yWK.moved hW qK⟩
  · obtain ⟨hP1, hD1⟩ := hB
    rw [ht] at hP1
    obtain ⟨b1, b2⟩ := va_join (wr := wr) (wc := yW2 G a sa fs F) hP hD [qa, qs] isR (by simp [hC.1, hC.2]) hR hn hdis hk1 hFc hP1 hD1
    exact kk H1 locs1 ⟨b1, b2, hS1, hA⟩
end YPUTS
