section
/-! ===== length and charAt of a word's letters ===== -/
theorem j_vret {l : Launch} {p : Program} {e : Env} {R : Room} {s : State} {m : MethodId} {args : Array Value} {below : List Frame} {meth : Method} {c : Code} {cc : ByteArray} {pc : Nat} {ls : Array Slot} (hx : p.tables.exec = Jvm.exec) (hb : c.code = cc) (hr : meth.sig.returnType = none) (hlocks : meth.locks = false) (hdg : decode cc pc = .ok (.return_, 1)) {H : Heap} {locs : List Loc} (hS : va_S (fun _ => False) s.heap H locs) : W p l e R s m args below meth c H locs 0 0 (vx_MQ below (fun _ => jQ none) (fun _ _ _ => False) args s 0 0 (fun _ => False)) (F0 m pc ls []) :=
  vx_ret (W.vret hx hb hr (fun t ht hW => ⟨rfl, hS.F ht⟩) hS.2.2 hdg)
theorem jT_m : ∀ (u U : State) (H : Heap), u.WarmedH U.vm → (fun (_ : State) (_ : Heap) => True) u H → (fun (_ : State) (_ : Heap) => True) U H := fun _ _ _ _ h => h
theorem mChk (l : Launch) (X : Nat × (Nat → Int32)) {G : XG} (hA : xAP G) {i n : Int32} (h0 : 0 ≤ i) (h1 : i < n) : jMet l X yJ0_checkIndex_df160 cJ0_checkIndex_df160 2 none 1 G (fun _ _ => True) [.int i, .int n] none := by
  refine jMet_of hA (by decide +kernel) (Nat.le_refl _) ?_
  intro p e s m args below meth c ls C0 hrt hJ hP hls
  obtain ⟨hx, hb, hown, hml, hlocks, hK, hts, hST, -⟩ := id C0
  have hS1 : va_S (fun _ => False) s.heap s.heap [] := va_S.rf
  have hS0 : va_S (xA G) s.heap s.heap [] := va_S.rf
  refine lv_iload_n hx hb (show decode cJ0_checkIndex_df160 0 = .ok (.iload_n 0, 1) by decide +kernel) rfl (j_l0 hls) ?_
  refine lv_iload_n hx hb (show decode cJ0_checkIndex_df160 1 = .ok (.iload_n 1, 1) by decide +kernel) rfl (j_l1 hls rfl) ?_
  obtain ⟨z, hz, hZ⟩ : ∃ z : Value, z.category = 1 ∧ va_Z "jdk/internal/util/Preconditions" "SIOOBE_FORMATTER" "Ljava/util/function/BiFunction;" z (xA G) s s.heap := by
    rcases hJ.2.2.2 with h | ⟨t, h⟩
    · exact ⟨_, rfl, h⟩
    · exact ⟨_, rfl, h⟩
  refine va_gets hx hb hZ hS0 hown (hts _ (x_FSt _ (List.mem_cons_of_mem _ (List.mem_cons_of_mem _ (List.mem_cons_of_mem _ List.mem_cons_self))))) (fun _ q => q) (by decide +kernel) ?_
  refine jCallS (As := [.int i, .int n, z]) (rest := []) (i := 1059) (n := 3) (mPre l X hA hz h0 h1) (xPk_in [383, 384, 78, 385] (by decide +kernel) (by decide +kernel)) (by decide +kernel) jT_m (fun _ _ _ => trivial) C0 hJ hS1 (fun _ h => h.elim) ⟨Nat.le_refl _, by decide⟩ ⟨Nat.le_refl _, Nat.le_refl _⟩ hls.1 rfl (by decide) (by decide +kernel) (fun H1 locs1 _ _ hS2 => ?_)
  refine lv_pop hx hb (by decide +kernel) rfl ?_
  exact j_vret hx hb hrt hlocks (by decide +kernel) hS2
theorem j_lt {i : Int32} {N : Nat} (hN : N < 2 ^ 31) (h0 : 0 ≤ i) (h1 : i.toNatClampNeg < N) : i < Int32.ofNat N := by
  have e := nI_toInt hN
  rw [Int32.lt_iff_toInt_lt]
  rw [Int32.le_iff_toInt_le, Int32.toInt_zero] at h0
  have e2 : i.toNatClampNeg = i.toInt.toNat := rfl
  have e3 : (Int32.ofNat N).toInt = (N : Int) := e
  omega
theorem mL1c (l : Launch) (X : Nat × (Nat → Int32)) {G : XG} (hA : xAP G) {i : Int32} {t N : Nat} {f : Nat → Value} {x : Int32} (hN : N < 2 ^ 31) (h0 : 0 ≤ i) (h1 : i.toNatClampNeg < N) (hf : f i.toNatClampNeg = .int x) (hx1 : x &&& 255 = x) (hx2 : (x.toUInt32 % 65536).toInt32 = x) (hx3 : narrow .char (.int x) = .int x) : jMet l X yJ1_charAt_3b067 cJ1_charAt_3b067 2 (some .char) 2 G (fun U H => va_T .byte t N f (xA G) U H) [.ref t, .int i] (some (.int x)) := by
  refine jMet_of hA (by decide +kernel) (Nat.le_refl _) ?_
  intro p e s m args below meth c ls C0 hrt hJ hP hls
  obtain ⟨hx, hb, hown, hml, hlocks, hK, hts, hST, -⟩ := id C0
  have hS1 : va_S (fun _ => False) s.heap s.heap [] := va_S.rf
  have hT : va_T .byte t N f (fun _ => False) s s.heap := va_T.narrow hP (fun _ h => h.elim)
  refine lv_iload_n hx hb (show decode cJ1_charAt_3b067 0 = .ok (.iload_n 1, 1) by decide +kernel) rfl (j_l1 hls rfl) ?_
  refine lv_aload_n hx hb (show decode cJ1_charAt_3b067 1 = .ok (.aload_n 0, 1) by decide +kernel) rfl (j_l0 hls) ?_
  refine va_tlen hx hb hT hS1 rfl (by decide +kernel) ?_
  refine jCallS (As := [.int i, .int (Int32.ofNat N)]) (rest := []) (i := 9) (n := 2) (mChk l X hA h0 (j_lt hN h0 h1)) (xPk_in [378, 379, 76, 380] (by decide +kernel) (by decide +kernel)) (by decide +kernel) jT_m (fun _ _ _ => trivial) C0 hJ hS1 (fun _ h => h.elim) ⟨Nat.le_refl _, by decide⟩ ⟨Nat.le_refl _, Nat.le_refl _⟩ hls.1 rfl (by decide) (by decide +kernel) (fun H1 locs1 _ _ hS2 => ?_)
  refine lv_aload_n hx hb (show decode cJ1_charAt_3b067 6 = .ok (.aload_n 0, 1) by decide +kernel) rfl (j_l0 hls) ?_
  refine lv_iload_n hx hb (show decode cJ1_charAt_3b067 7 = .ok (.iload_n 1, 1) by decide +kernel) rfl (j_l1 hls rfl) ?_
  refine va_tb hx hb hT hS2 (fun q => ?_) hf (by decide +kernel) ?_
  · rcases q with q | q
    · exact absurd h0 (Int32.not_le.mpr q)
    · omega
  refine lv_sipush (n := 255) (v := 255) hx hb (by decide +kernel) (by decide +kernel) ?_
  refine lv_iand hx hb (by decide +kernel) ?_
  rw [hx1]
  refine lv_i2c hx hb (by decide +kernel) hx2 ?_
  exact j_ret hx hb hrt hx3 hlocks (by decide +kernel) hS2
theorem j_val {G : XG} {X : Nat × (Nat → Int32)} {U : State} {H : Heap} (h : xST G X U H) {k : Nat} (hk : k < 8) : ∃ v, va_Ef 1 "java/lang/String" "value" "[B" (fun _ => .ref v) (fun _ => xad G 16 k) (xA G) U H ∧ va_T .byte v ((xWt.getD k "").length) (fun j => .int (Int32.ofNat (((xWt.getD k "").toList.getD j ' ').toNat))) (xA G) U H := by
  obtain ⟨-, v, h1, h2⟩ := h.2.2.2.2.2.2.2.2.2.2.2.2.2.1 k hk
  exact ⟨v, fun i _ => h1, h2⟩
theorem j_chr : ∀ k, k < 8 → (xWt.getD k "").length = (xLt k).length ∧ (xLt k).length < 100 ∧ Int32.ofNat (xLt k).length >>> ((0 : Int32) &&& 31) = Int32.ofNat (xLt k).length ∧ ∀ j, j < (xLt k).length → Int32.ofNat (((xWt.getD k "").toList.getD j ' ').toNat) = (xLt k).getD j 0 ∧ (xLt k).getD j 0 &&& 255 = (xLt k).getD j 0 ∧ (((xLt k).getD j 0).toUInt32 % 65536).toInt32 = (xLt k).getD j 0 ∧ narrow .char (.int ((xLt k).getD j 0)) = .int ((xLt k).getD j 0) := by decide +kernel
theorem mChr (l : Launch) (X : Nat × (Nat → Int32)) {G : XG} (hA : xAP G) {k : Nat} (hk : k < 8) {i : Int32} (h0 : 0 ≤ i) (h1 : i.toNatClampNeg < (xLt k).length) : jMet l X yJ0_charAt_5068e cJ0_charAt_5068e 2 (some .char) 3 G (fun _ _ => True) [.ref (xad G 16 k), .int i] (some (.int ((xLt k).getD i.toNatClampNeg 0))) := by
  refine jMet_of hA (by decide +kernel) (Nat.le_refl _) ?_
  intro p e s m args below meth c ls C0 hrt hJ hP hls
  obtain ⟨hx, hb, hown, hml, hlocks, hK, hts, hST, -⟩ := id C0
  have hS1 : va_S (fun _ => False) s.heap s.heap [] := va_S.rf
  obtain ⟨g1, g2, -, g3⟩ := j_chr k hk
  obtain ⟨g4, g5, g6, g7⟩ := g3 _ h1
  obtain ⟨t, hE, hT⟩ := j_val hST hk
  have hE' : va_Ef 1 "java/lang/String" "value" "[B" (fun _ => .ref t) (fun _ => xad G 16 k) (fun _ => False) s s.heap := fun i hi => va_OF.narrow (hE i hi) (fun _ h => h.elim)
  refine lv_aload_n hx hb (show decode cJ0_charAt_5068e 0 = .ok (.aload_n 0, 1) by decide +kernel) rfl (j_l0 hls) ?_
  refine jCallV (As := []) (rest := []) (i := 492) (n := 0) hk (mIsL1 l X hA hk) (xPk_in [371, 372, 373, 76, 374] (by decide +kernel) (by decide +kernel)) (by decide +kernel) jT_m (fun _ _ _ => trivial) C0 hJ hS1 (fun _ h => h.elim) ⟨by show 0 + 1 ≤ 3; decide, by decide⟩ ⟨Nat.le_refl _, Nat.le_refl _⟩ hls.1 rfl (by decide) (by decide +kernel) (fun H1 locs1 _ _ hS2 => ?_)
  refine lv_if_eq (tgt := 16) (off := 12) hx hb (by decide +kernel) (by decide) (fun h => absurd h (by decide)) (fun _ => ?_)
  refine lv_aload_n hx hb (show decode cJ0_charAt_5068e 7 = .ok (.aload_n 0, 1) by decide +kernel) rfl (j_l0 hls) ?_
  refine va_getX hx hb hE' (i := 0) (by decide) hS2 hown (hts _ (x_FSt _ List.mem_cons_self)) (fun _ q => q) (by decide +kernel) ?_
  refine lv_iload_n hx hb (show decode cJ0_charAt_5068e 11 = .ok (.iload_n 1, 1) by decide +kernel) rfl (j_l1 hls rfl) ?_
  refine jCallS (As := [.ref t, .int i]) (rest := []) (i := 495) (n := 2) (mL1c l X hA (t := t) (N := (xWt.getD k "").length) (f := fun j => .int (Int32.ofNat (((xWt.getD k "").toList.getD j ' ').toNat))) (by omega) h0 (by omega) (by rw [g4]) g5 g6 g7) (xPk_in [375, 376, 77, 377] (by decide +kernel) (by decide +kernel)) (by decide +kernel) (fun u U H hW h => va_T.moved hW.alike h) (fun U hU hW => ?_) C0 hJ hS2 (fun _ h => h.elim) ⟨Nat.le_refl _, by decide⟩ ⟨Nat.le_refl _, Nat.le_refl _⟩ hls.1 rfl (by decide) (by decide +kernel) (fun H1 locs1 _ _ hS3 => ?_)
  · rw [hU]
    exact va_T.moved hW.alike (va_T.kept hT (fun q h1 _ => hS2.2.1 q h1 (fun h => h)))
  exact j_ret hx hb hrt g7 hlocks (by decide +kernel) hS3
theorem mLen (l : Launch) (X : Nat × (Nat → Int32)) {G : XG} (hA : xAP G) {k : Nat} (hk : k < 8) : jMet l X yJ0_length_8abf5 cJ0_length_8abf5 1 (some .int) 1 G (fun _ _ => True) [.ref (xad G 16 k)] (some (.int (Int32.ofNat (xLt k).length))) := by
  refine jMet_of hA (by decide +kernel) (Nat.le_refl _) ?_
  intro p e s m args below meth c ls C0 hrt hJ hP hls
  obtain ⟨hx, hb, hown, hml, hlocks, hK, hts, hST, -⟩ := id C0
  have hS1 : va_S (fun _ => False) s.heap s.heap [] := va_S.rf
  obtain ⟨g1, g2, g3, -⟩ := j_chr k hk
  obtain ⟨t, hE, hT⟩ := j_val hST hk
  rw [g1] at hT
  have hE' : va_Ef 1 "java/lang/String" "value" "[B" (fun _ => .ref t) (fun _ => xad G 16 k) (fun _ => False) s s.heap := fun i hi => va_OF.narrow (hE i hi) (fun _ h => h.elim)
  refine lv_aload_n hx hb (show decode cJ0_length_8abf5 0 = .ok (.aload_n 0, 1) by decide +kernel) rfl (j_l0 hls) ?_
  refine va_getX hx hb hE' (i := 0) (by decide) hS1 hown (hts _ (x_FSt _ List.mem_cons_self)) (fun _ q => q) (by decide +kernel) ?_
  refine va_tlen hx hb (va_T.narrow hT (B := fun _ => False) (fun _ h => h.elim)) hS1 rfl (by decide +kernel) ?_
  refine lv_aload_n hx hb (show decode cJ0_length_8abf5 5 = .ok (.aload_n 0, 1) by decide +kernel) rfl (j_l0 hls) ?_
  refine jCallV (As := []) (i := 335) (n := 0) hk (mCoder l X hA hk) (xPk_in [361, 362, 363, 76, 364] (by decide +kernel) (by decide +kernel)) (by decide +kernel) jT_m (fun _ _ _ => trivial) C0 hJ hS1 (fun _ h => h.elim) ⟨Nat.le_refl _, by decide⟩ ⟨Nat.le_refl _, Nat.le_refl _⟩ hls.1 rfl (show 1 ≤ 8 by decide) (by decide +kernel) (fun H1 locs1 _ _ hS2 => ?_)
  refine lv_ishr hx hb (by decide +kernel) ?_
  rw [g3]
  exact j_ret hx hb hrt rfl hlocks (by decide +kernel) hS2
theorem xRP_ge {G : XG} {σ : XH} {H H1 : Heap} (h : xRP G σ H) (hq : ∀ q, q < H.size → H1[q]? = H[q]?) : xRP G σ H1 := by
  have up : ∀ {q : Nat} {cell : Cell}, H[q]? = some cell → H1[q]? = some cell := fun {q cell} e => (hq q (Array.getElem?_eq_some_iff.mp e).1).trans e
  obtain ⟨h1, h2, h3, h4, h5⟩ := h
  refine ⟨fun c j hc hj => ?_, fun c j hc hj => up (h2 c j hc hj), up h3, up h4, h5⟩
  obtain ⟨cell, q1, q2⟩ := h1 c j hc hj
  exact ⟨cell, up q1, q2⟩
/-- a quiet answer, told as a call's row asks -/
theorem j_row {l : Launch} {p : Program} {e : Env} {R : Room} {s : State} {m : MethodId} {args : Array Value} {below : List Frame} {meth : Method} {c : Code} {H : Heap} {locs : List Loc} {cells slots : Nat} {g : JFrame} {rest : List Value} {G : XG} {σ : XH} {x : Int32} (hR : xRP G σ H) (hr : vx_Run p l e R s m args below meth c H locs cells slots 0 0 g rest (jQ (some (.int x))) (fun _ _ _ => False) (fun _ => False)) : vx_Run p l e R s m args below meth c H locs cells slots 0 (6 * 0) g rest (xQR G σ (.inl (some (xI x)))) (xXR G σ (.inl (some (xI x)))) (xA G) := by
  intro T hT X0
  rcases hr T hT X0 with ⟨v', st₀, t, T', L, h0, X', hL, e1, e2, ⟨hv, hF⟩, st⟩ | ⟨q, st₀, t, T', L, E, ce, h0, X', hL, e1, e2, hx, -⟩
  · refine Or.inl ⟨v', st₀, t, T', L, h0, X', fun q hq => (hL q hq).elim, e1, e2, ⟨⟨some (xI x), rfl, hv, fun w hw => by cases hw; trivial⟩, ?_, hF.1, fun q h1 _ => hF.2 q h1 (fun h => h)⟩, st⟩
    exact xRP_ge hR (fun q hq => by rw [← h0]; exact hF.2 q (by rw [h0]; exact hq) (fun h => h))
  · exact hx.elim
def jZ (G : XG) (U : State) (H : Heap) : Prop := va_Z "java/lang/String" "COMPACT_STRINGS" "Z" (.int 1) (xA G) U H ∧ va_Zq "jdk/internal/util/Preconditions" "SIOOBE_FORMATTER" "Ljava/util/function/BiFunction;" (xA G) U H
theorem jRowV {l : Launch} {X : Nat × (Nat → Int32)} {own : String} {lev i n lev' maxL : Nat} {y : MethodName} {cy : ByteArray} {ret : Option FieldType} {f : XS} (hz : ∀ {G : XG} {U : State} {H : Heap}, xST G X U H → jZ G U H)
    (hf : ∀ {G : XG} {as : List XV} {σ : XH} {q : XR × XH}, xAP G → xsok as → f as σ = some q → ∃ k as' x, k < 8 ∧ as = xR 16 k :: as' ∧ q = (.inl (some (xI x)), σ) ∧ jMet l X y cy maxL ret lev' G (fun _ _ => True) (as.map (xcv G)) (some (.int x)))
    (hw : ∀ w ∈ wsV own i "java/lang/String" y [.code y cy maxL ret], w ∈ xW) (hd : y.cls = "java/lang/String" ∧ y.cls ≠ "java/lang/invoke/MethodHandle" ∧ y.cls ≠ "java/lang/invoke/VarHandle" ∧ (parseMethodDescriptor y.desc).map (fun d => d.parameters.length) = some n) (hl : lev' + 1 ≤ lev) (hm : maxL ≤ 18) : xCS l X own lev (2 * i) (n + 1) 0 f := by
  intro p e R s m args below meth c H locs cells slots cc pc ls G nL σ σ' r as rest C0 hR hS hfr hlo hce hsl hsz hlen hok hws hfa hdg
  obtain ⟨hx, hb, hown, hml, hlocks, hK, hts, hST, hA⟩ := id C0
  obtain ⟨k, as', x, hk, rfl, hq, hM⟩ := hf hA hok hfa
  cases hq
  rw [xCI_V] at hdg
  have hJ : jW G X s s.heap := ⟨hK, hST, (hz hST).1, (hz hST).2⟩
  have hG : GoodIn xW (wsV own i "java/lang/String" y [.code y cy maxL ret]) := fun w h => ⟨hw w h, xW_good (hw w h)⟩
  have hcw : CallW R s args own "java/lang/String" i y cy maxL ret [.code y cy maxL ret] (xRm lev' 0) 0 0 n := cwV n hts hG rfl rfl rfl hd ⟨by show lev' + 1 ≤ R.frames; omega, by show 8 + (maxL + 11) + 37 * lev' ≤ R.locals; omega⟩
  have hrc : ∃ cellB : Cell, H[xad G 16 k]? = some cellB ∧ cellB.vm.isStatics = false ∧ s.vm.findClass "java/lang/String" = some cellB.cls := by
    obtain ⟨-, -, -, -, -, -, -, -, -, -, -, -, hO, -⟩ := hST.kept hS.1 hS.2.1
    obtain ⟨cell, q1, q2, q3, -⟩ := hO k hk
    exact ⟨cell, q1, q2, q3⟩
  exact j_row hR (vx_runV (As := as'.map (xcv G)) (rest := rest.map (xcv G)) (b := xad G 16 k) (g := F0 m pc ls (((xR 16 k :: as').reverse ++ rest).map (xcv G))) (below := below) (e := e) (cells := cells) (slots := slots) (locs := locs) (H := H) (meth := meth) ⟨hx, hb, hml, hown, hts⟩ hM hcw
    ⟨j_blind jT_m, hrc, j_pre (P := fun _ _ => True) (as := (xR 16 k :: as').map (xcv G)) hJ hS (fun _ _ _ => trivial)⟩ rfl (by rw [List.length_map]; simpa using hlen) hsz (by simp [xcv]) (lv_room (by rw [xws_cat]; exact hws)) hdg ⟨by omega, by omega⟩)
theorem csLen_X6_62 (l : Launch) (X : Nat × (Nat → Int32)) {lev : Nat} (h : 4 ≤ lev) : xCS l X RX6 lev (2 * 62) 1 0 fLen :=
  jRowV (n := 0) (fun {G U H} h => h.2.2.2.2.2.2.2.2.2.2.2.2.2.2) (fun {G as σ q} hA hok hfa => by
    unfold fLen at hfa
    split at hfa
    · rename_i k
      cases hfa
      have hk : k < 8 := hok _ List.mem_cons_self
      exact ⟨k, [], _, hk, rfl, rfl, mLen l X hA hk⟩
    · cases hfa) (xPk_in [357, 358, 359, 76, 360] (by decide +kernel) (by decide +kernel)) (by decide +kernel) (by omega) (by decide)
theorem csChr_X6_68 (l : Launch) (X : Nat × (Nat → Int32)) {lev : Nat} (h : 4 ≤ lev) : xCS l X RX6 lev (2 * 68) 2 0 fChr :=
  jRowV (n := 1) (fun {G U H} h => h.2.2.2.2.2.2.2.2.2.2.2.2.2.2) (fun {G as σ q} hA hok hfa => by
    unfold fChr at hfa
    split at hfa
    · rename_i k i
      split at hfa
      · rename_i hi
        cases hfa
        have hk : k < 8 := hok _ List.mem_cons_self
        exact ⟨k, [.inl i], _, hk, rfl, rfl, mChr l X hA hk hi.1 hi.2⟩
      · cases hfa
    · cases hfa) (xPk_in [367, 368, 369, 76, 370] (by decide +kernel) (by decide +kernel)) (by decide +kernel) (by omega) (by decide)
end
