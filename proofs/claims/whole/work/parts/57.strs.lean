section
/-! ===== length and charAt of a word's letters ===== -/
theorem j_vret {l : Launch} {p : Program} {e : Env} {R : Room} {s : State} {m : MethodId} {args : Array Value} {below : List Frame} {meth : Method} {c : Code} {cc : ByteArray} {pc : Nat} {ls : Array Slot} (hx : p.tables.exec = Jvm.exec) (hb : c.code = cc) (hr : meth.sig.returnType = none) (hlocks : meth.locks = false) (hdg : decode cc pc = .ok (.return_, 1)) {H : Heap} {locs : List Loc} (hS : va_S (fun _ => False) s.heap H locs) : W p l e R s m args below meth c H locs 0 0 (vx_MQ below (fun _ => jQ none) (fun _ _ _ => False) args s 0 0 (fun _ => False)) (F0 m pc ls []) :=
  vx_ret (W.vret hx hb hr (fun t ht hW => ⟨rfl, hS.F ht⟩) hS.2.2 hdg)
theorem jT_m : ∀ (u U : State) (H : Heap), u.WarmedH U.vm → (fun (_ : State) (_ : Heap) => True) u H → (fun (_ : State) (_ : Heap) => True) U H := fun _ _ _ _ h => h
theorem mChk (l : Launch) (X : Nat × (Nat → Int32)) {G : XG} (hA : xAP G) {i n : Int32} (h0 : 0 ≤ i) (h1 : i < n) : jMet l X yJ0_checkIndex_df160 cJ0_checkIndex_df160 2 none 2 G (fun _ _ => True) [.int i, .int n] none := by
  refine jMet_of hA (by decide +kernel) (Nat.le_refl _) ?_
  intro p e s m args below meth c ls C0 hrt hJ hP hls
  obtain ⟨hx, hb, hown, hml, hlocks, hK, hts, hST, -⟩ := id C0
  have hS1 : va_S (fun _ => False) s.heap s.heap [] := va_S.rf
  have hS0 : va_S (xA G) s.heap s.heap [] := va_S.rf
  refine lv_iload_n hx hb (show decode cJ0_checkIndex_df160 0 = .ok (.iload_n 0, 1) by decide +kernel) rfl (j_l0 hls) ?_
  refine lv_iload_n hx hb (show decode cJ0_checkIndex_df160 1 = .ok (.iload_n 1, 1) by decide +kernel) rfl (j_l1 hls rfl) ?_
  obtain ⟨z, hz, hZ⟩ : ∃ z : Value, z.category = 1 ∧ va_Z "jdk/internal/util/Preconditions" "SIOOBE_FORMATTER" "Ljava/util/function/BiFunction;" z (xA G) s s.heap := by
    rcases hJ.2.2.2 with h | ⟨t, h⟩
    · exact ⟨_, rfl, h⟩
    · exact ⟨_, rfl, h⟩
  refine va_gets hx hb hZ hS0 hown (hts _ (x_FSt _ (List.mem_cons_of_mem _ (List.mem_cons_of_mem _ (List.mem_cons_of_mem _ List.mem_cons_self))))) (fun _ q => q) (by decide +kernel) ?_
  refine jCallS (As := [.int i, .int n, z]) (rest := []) (i := 1059) (n := 3) (mPre l X hA hz h0 h1) (xPk_in [383, 384, 78, 385] (by decide +kernel) (by decide +kernel)) (by decide +kernel) jT_m (fun _ _ _ => trivial) C0 hJ hS1 (fun _ h => h.elim) ⟨Nat.le_refl _, by decide⟩ ⟨Nat.le_refl _, Nat.le_refl _⟩ hls.1 rfl (by decide) (by decide +kernel) (fun H1 locs1 _ _ hS2 => ?_)
  refine lv_pop hx hb (by decide +kernel) rfl ?_
  exact j_vret hx hb hrt hlocks (by decide +kernel) hS2
theorem j_lt {i : Int32} {N : Nat} (hN : N < 2 ^ 31) (h0 : 0 ≤ i) (h1 : i.toNatClampNeg < N) : i < Int32.ofNat N := by
  have e := nI_toInt hN
  rw [Int32.lt_iff_toInt_lt]
  rw [Int32.le_iff_toInt_le, Int32.toInt_zero] at h0
  have e2 : i.toNatClampNeg = i.toInt.toNat := rfl
  have e3 : (Int32.ofNat N).toInt = (N : Int) := e
  omega
theorem mL1c (l : Launch) (X : Nat × (Nat → Int32)) {G : XG} (hA : xAP G) {i : Int32} {t N : Nat} {f : Nat → Value} {x : Int32} (hN : N < 2 ^ 31) (h0 : 0 ≤ i) (h1 : i.toNatClampNeg < N) (hf : f i.toNatClampNeg = .int x) (hx1 : x &&& 255 = x) (hx2 : (x.toUInt32 % 65536).toInt32 = x) (hx3 : narrow .char (.int x) = .int x) : jMet l X yJ1_charAt_3b067 cJ1_charAt_3b067 2 (some .char) 3 G (fun U H => va_T .byte t N f (xA G) U H) [.ref t, .int i] (some (.int x)) := by
  refine jMet_of hA (by decide +kernel) (Nat.le_refl _) ?_
  intro p e s m args below meth c ls C0 hrt hJ hP hls
  obtain ⟨hx, hb, hown, hml, hlocks, hK, hts, hST, -⟩ := id C0
  have hS1 : va_S (fun _ => False) s.heap s.heap [] := va_S.rf
  have hT : va_T .byte t N f (fun _ => False) s s.heap := va_T.narrow hP (fun _ h => h.elim)
  refine lv_iload_n hx hb (show decode cJ1_charAt_3b067 0 = .ok (.iload_n 1, 1) by decide +kernel) rfl (j_l1 hls rfl) ?_
  refine lv_aload_n hx hb (show decode cJ1_charAt_3b067 1 = .ok (.aload_n 0, 1) by decide +kernel) rfl (j_l0 hls) ?_
  refine va_tlen hx hb hT hS1 rfl (by decide +kernel) ?_
  refine jCallS (As := [.int i, .int (Int32.ofNat N)]) (rest := []) (i := 9) (n := 2) (mChk l X hA h0 (j_lt hN h0 h1)) (xPk_in [378, 379, 76, 380] (by decide +kernel) (by decide +kernel)) (by decide +kernel) jT_m (fun _ _ _ => trivial) C0 hJ hS1 (fun _ h => h.elim) ⟨Nat.le_refl _, by decide⟩ ⟨Nat.le_refl _, Nat.le_refl _⟩ hls.1 rfl (by decide) (by decide +kernel) (fun H1 locs1 _ _ hS2 => ?_)
  refine lv_aload_n hx hb (show decode cJ1_charAt_3b067 6 = .ok (.aload_n 0, 1) by decide +kernel) rfl (j_l0 hls) ?_
  refine lv_iload_n hx hb (show decode cJ1_charAt_3b067 7 = .ok (.iload_n 1, 1) by decide +kernel) rfl (j_l1 hls rfl) ?_
  refine va_tb hx hb hT hS2 (fun q => ?_) hf (by decide +kernel) ?_
  · rcases q with q | q
    · exact absurd h0 (Int32.not_le.mpr q)
    · omega
  refine lv_sipush (n := 255) (v := 255) hx hb (by decide +kernel) (by decide +kernel) ?_
  refine lv_iand hx hb (by decide +kernel) ?_
  rw [hx1]
  refine lv_i2c hx hb (by decide +kernel) hx2 ?_
  exact j_ret hx hb hrt hx3 hlocks (by decide +kernel) hS2
theorem j_val {G : XG} {X : Nat × (Nat → Int32)} {U : State} {H : Heap} (h : xST G X U H) {k : Nat} (hk : k < 8) : ∃ v, va_Ef 1 "java/lang/String" "value" "[B" (fun _ => .ref v) (fun _ => xad G 16 k) (xA G) U H ∧ va_T .byte v ((xWt.getD k "").length) (fun j => .int (Int32.ofNat (((xWt.getD k "").toList.getD j ' ').toNat))) (xA G) U H := by
  obtain ⟨-, v, h1, h2⟩ := h.2.2.2.2.2.2.2.2.2.2.2.2.2 k hk
  exact ⟨v, fun i _ => h1, h2⟩
theorem j_chr : ∀ k, k < 8 → (xWt.getD k "").length = (xLt k).length ∧ (xLt k).length < 100 ∧ Int32.ofNat (xLt k).length >>> ((0 : Int32) &&& 31) = Int32.ofNat (xLt k).length ∧ ∀ j, j < (xLt k).length → Int32.ofNat (((xWt.getD k "").toList.getD j ' ').toNat) = (xLt k).getD j 0 ∧ (xLt k).getD j 0 &&& 255 = (xLt k).getD j 0 ∧ (((xLt k).getD j 0).toUInt32 % 65536).toInt32 = (xLt k).getD j 0 ∧ narrow .char (.int ((xLt k).getD j 0)) = .int ((xLt k).getD j 0) := by decide +kernel
theorem mChr (l : Launch) (X : Nat × (Nat → Int32)) {G : XG} (hA : xAP G) {k : Nat} (hk : k < 8) {i : Int32} (h0 : 0 ≤ i) (h1 : i.toNatClampNeg < (xLt k).length) : jMet l X yJ0_charAt_5068e cJ0_charAt_5068e 2 (some .char) 4 G (fun _ _ => True) [.ref (xad G 16 k), .int i] (some (.int ((xLt k).getD i.toNatClampNeg 0))) := by
  refine jMet_of hA (by decide +kernel) (Nat.le_refl _) ?_
  intro p e s m args below meth c ls C0 hrt hJ hP hls
  obtain ⟨hx, hb, hown, hml, hlocks, hK, hts, hST, -⟩ := id C0
  have hS1 : va_S (fun _ => False) s.heap s.heap [] := va_S.rf
  obtain ⟨g1, g2, -, g3⟩ := j_chr k hk
  obtain ⟨g4, g5, g6, g7⟩ := g3 _ h1
  obtain ⟨t, hE, hT⟩ := j_val hST hk
  have hE' : va_Ef 1 "java/lang/String" "value" "[B" (fun _ => .ref t) (fun _ => xad G 16 k) (fun _ => False) s s.heap := fun i hi => va_OF.narrow (hE i hi) (fun _ h => h.elim)
  refine lv_aload_n hx hb (show decode cJ0_charAt_5068e 0 = .ok (.aload_n 0, 1) by decide +kernel) rfl (j_l0 hls) ?_
  refine jCallV (As := []) (rest := []) (i := 492) (n := 0) hk (mIsL1 l X hA hk) (xPk_in [371, 372, 373, 76, 374] (by decide +kernel) (by decide +kernel)) (by decide +kernel) jT_m (fun _ _ _ => trivial) C0 hJ hS1 (fun _ h => h.elim) ⟨by show 1 + 1 ≤ 4; decide, by decide⟩ ⟨Nat.le_refl _, Nat.le_refl _⟩ hls.1 rfl (by decide) (by decide +kernel) (fun H1 locs1 _ _ hS2 => ?_)
  refine lv_if_eq (tgt := 16) (off := 12) hx hb (by decide +kernel) (by decide) (fun h => absurd h (by decide)) (fun _ => ?_)
  refine lv_aload_n hx hb (show decode cJ0_charAt_5068e 7 = .ok (.aload_n 0, 1) by decide +kernel) rfl (j_l0 hls) ?_
  refine va_getX hx hb hE' (i := 0) (by decide) hS2 hown (hts _ (x_FSt _ List.mem_cons_self)) (fun _ q => q) (by decide +kernel) ?_
  refine lv_iload_n hx hb (show decode cJ0_charAt_5068e 11 = .ok (.iload_n 1, 1) by decide +kernel) rfl (j_l1 hls rfl) ?_
  refine jCallS (As := [.ref t, .int i]) (rest := []) (i := 495) (n := 2) (mL1c l X hA (t := t) (N := (xWt.getD k "").length) (f := fun j => .int (Int32.ofNat (((xWt.getD k "").toList.getD j ' ').toNat))) (by omega) h0 (by omega) (by rw [g4]) g5 g6 g7) (xPk_in [375, 376, 77, 377] (by decide +kernel) (by decide +kernel)) (by decide +kernel) (fun u U H hW h => va_T.moved hW.alike h) (fun U hU hW => ?_) C0 hJ hS2 (fun _ h => h.elim) ⟨Nat.le_refl _, by decide⟩ ⟨Nat.le_refl _, Nat.le_refl _⟩ hls.1 rfl (by decide) (by decide +kernel) (fun H1 locs1 _ _ hS3 => ?_)
  · rw [hU]
    exact va_T.moved hW.alike (va_T.kept hT (fun q h1 _ => hS2.2.1 q h1 (fun h => h)))
  exact j_ret hx hb hrt g7 hlocks (by decide +kernel) hS3
theorem mLen (l : Launch) (X : Nat × (Nat → Int32)) {G : XG} (hA : xAP G) {k : Nat} (hk : k < 8) : jMet l X yJ0_length_8abf5 cJ0_length_8abf5 1 (some .int) 2 G (fun _ _ => True) [.ref (xad G 16 k)] (some (.int (Int32.ofNat (xLt k).length))) := by
  refine jMet_of hA (by decide +kernel) (Nat.le_refl _) ?_
  intro p e s m args below meth c ls C0 hrt hJ hP hls
  obtain ⟨hx, hb, hown, hml, hlocks, hK, hts, hST, -⟩ := id C0
  have hS1 : va_S (fun _ => False) s.heap s.heap [] := va_S.rf
  obtain ⟨g1, g2, g3, -⟩ := j_chr k hk
  obtain ⟨t, hE, hT⟩ := j_val hST hk
  rw [g1] at hT
  have hE' : va_Ef 1 "java/lang/String" "value" "[B" (fun _ => .ref t) (fun _ => xad G 16 k) (fun _ => False) s s.heap := fun i hi => va_OF.narrow (hE i hi) (fun _ h => h.elim)
  refine lv_aload_n hx hb (show decode cJ0_length_8abf5 0 = .ok (.aload_n 0, 1) by decide +kernel) rfl (j_l0 hls) ?_
  refine va_getX hx hb hE' (i := 0) (by decide) hS1 hown (hts _ (x_FSt _ List.mem_cons_self)) (fun _ q => q) (by decide +kernel) ?_
  refine va_tlen hx hb (va_T.narrow hT (B := fun _ => False) (fun _ h => h.elim)) hS1 rfl (by decide +kernel) ?_
  refine lv_aload_n hx hb (show decode cJ0_length_8abf5 5 = .ok (.aload_n 0, 1) by decide +kernel) rfl (j_l0 hls) ?_
  refine jCallV (As := []) (i := 335) (n := 0) hk (mCoder l X hA hk) (xPk_in [361, 362, 363, 76, 364] (by decide +kernel) (by decide +kernel)) (by decide +kernel) jT_m (fun _ _ _ => trivial) C0 hJ hS1 (fun _ h => h.elim) ⟨Nat.le_refl _, by decide⟩ ⟨Nat.le_refl _, Nat.le_refl _⟩ hls.1 rfl (show 1 ≤ 8 by decide) (by decide +kernel) (fun H1 locs1 _ _ hS2 => ?_)
  refine lv_ishr hx hb (by decide +kernel) ?_
  rw [g3]
  exact j_ret hx hb hrt rfl hlocks (by decide +kernel) hS2
end
