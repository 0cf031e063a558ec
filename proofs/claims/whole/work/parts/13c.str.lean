section
/-! ===== the letters of words: quiet calls into the JDK ===== -/
def jW (G : XG) (X : Nat × (Nat → Int32)) (U : State) (H : Heap) : Prop := xWK G U ∧ xST G X U H ∧ va_Z "java/lang/String" "COMPACT_STRINGS" "Z" (.int 1) (xA G) U H ∧ va_Zq "jdk/internal/util/Preconditions" "SIOOBE_FORMATTER" "Ljava/util/function/BiFunction;" (xA G) U H
theorem jW.moved {G : XG} {X : Nat × (Nat → Int32)} {u U : State} {H : Heap} (hW : u.WarmedH U.vm) (h : jW G X u H) : jW G X U H :=
  ⟨xWK.moved hW h.1, xST.moved hW.alike h.2.1, va_Z.moved hW.alike h.2.2.1, va_Zq.moved hW.alike h.2.2.2⟩
theorem jW.kept {G : XG} {X : Nat × (Nat → Int32)} {U : State} {H H1 : Heap} (h : jW G X U H) (hz : H.size ≤ H1.size) (hq : ∀ a : Nat, a < H.size → ¬ xA G a → H1[a]? = H[a]?) : jW G X U H1 :=
  ⟨h.1, h.2.1.kept hz hq, h.2.2.1.kept hq, h.2.2.2.kept hq⟩
def jQ (v : Option Value) : State → Outcome → State → Prop := fun st oc t => oc = .returned v ∧ va_F (fun _ => False) st t
/-- a quiet method: it answers v and changes nothing -/
def jMet (l : Launch) (X : Nat × (Nat → Int32)) (y : MethodName) (cc : ByteArray) (maxL : Nat) (ret : Option FieldType) (lev : Nat) (G : XG) (P : State → Heap → Prop) (as : List Value) (v : Option Value) : Prop :=
  vx_Met l y [.code y cc maxL ret] (xRm lev 0) (va_Pc as (fun U => jW G X U U.heap ∧ P U U.heap)) (fun _ => jQ v) (fun _ _ _ => False) 0 0 (fun _ => False)
theorem jMet_of {l : Launch} {X : Nat × (Nat → Int32)} {y : MethodName} {cc : ByteArray} {maxL : Nat} {ret : Option FieldType} {lev : Nat} {G : XG} {P : State → Heap → Prop} {as : List Value} {v : Option Value} (hA : xAP G)
    (hy : plainFor y = true) (hlen : (lg_sl as).length ≤ maxL)
    (hgo : ∀ {p : Program} {e : Env} {s : State} {m : MethodId} {args : Array Value} {below : List Frame} {meth : Method} {c : Code} {ls : Array Slot}, xCtx G X p s m args meth c cc y.cls maxL → meth.sig.returnType = ret → jW G X s s.heap → P s s.heap → lv_has ls maxL (lv_args 0 as) → W p l e (xRm lev 0) s m args below meth c s.heap [] 0 0 (vx_MQ below (fun _ => jQ v) (fun _ _ _ => False) args s 0 0 (fun _ => False)) (F0 m 0 ls [])) : jMet l X y cc maxL ret lev G P as v := by
  refine vx_ofWF (cc := cc) (maxL := maxL) (ret := ret) (ws' := []) hy rfl ?_
  intro p e s m args below meth c s₁ B hml ht hv
  obtain ⟨hargs, hJ, hP⟩ := hv
  have hx := B.exec
  have hb := B.bytes
  have hr := B.returns
  have hown : s.vm.findClass y.cls = some m.cls := findClass_of_methodNamed B.named
  have hlocks := B.notSynchronized
  have hts : ∀ w ∈ xW, w.before args s = true := fun w hw => word_at (State.WarmedH.refl s) (xW_good hw) (hJ.1.2.1 w hw)
  have C0 : xCtx G X p s m args meth c cc y.cls maxL := ⟨hx, hb, hown, hml, hlocks, hJ.1, hts, hJ.2.1, hA⟩
  have hl := lv_entry as (n := maxL) hlen
  subst hargs
  rw [lg_entry_eq]
  exact hgo C0 hr hJ hP hl
theorem j_ret {l : Launch} {p : Program} {e : Env} {R : Room} {s : State} {m : MethodId} {args : Array Value} {below : List Frame} {meth : Method} {c : Code} {cc : ByteArray} {x : Int32} {ty : FieldType} {pc : Nat} {ls : Array Slot} (hx : p.tables.exec = Jvm.exec) (hb : c.code = cc) (hr : meth.sig.returnType = some ty) (hn : narrow ty (.int x) = .int x) (hlocks : meth.locks = false) (hdg : decode cc pc = .ok (.ireturn, 1)) {H : Heap} {locs : List Loc} (hS : va_S (fun _ => False) s.heap H locs) : W p l e R s m args below meth c H locs 0 0 (vx_MQ below (fun _ => jQ (some (.int x))) (fun _ _ _ => False) args s 0 0 (fun _ => False)) (F0 m pc ls [.int x]) :=
  vx_ret (W.zret hx hb hr hn (fun t ht hW => ⟨rfl, hS.F ht⟩) hS.2.2 hdg)
theorem j_l0 {ls : Array Slot} {n : Nat} {v : Value} {r : List Value} (h : lv_has ls n (lv_args 0 (v :: r))) : ls[0]? = some (.val v) := h.2.2 (0, v) List.mem_cons_self
theorem j_l1 {ls : Array Slot} {n : Nat} {v w : Value} {r : List Value} (h : lv_has ls n (lv_args 0 (v :: w :: r))) (hc : v.category = 1) : ls[1]? = some (.val w) := by
  have h1 : lv_args 0 (v :: w :: r) = (0, v) :: lv_args (if v.category = 2 then 2 else 1) (w :: r) := rfl
  rw [if_neg (by rw [hc]; decide)] at h1
  rw [h1] at h
  exact h.2.2 (1, w) (List.mem_cons_of_mem _ List.mem_cons_self)
theorem x_FSt : ∀ w ∈ ([.fieldLink "java/lang/String" 9 "java/lang/String" "value" "[B", .fieldLink "java/lang/String" 15 "java/lang/String" "coder" "B", .fieldLink "java/lang/String" 38 "java/lang/String" "COMPACT_STRINGS" "Z", .fieldLink "java/lang/String" 1053 "jdk/internal/util/Preconditions" "SIOOBE_FORMATTER" "Ljava/util/function/BiFunction;"] : List Jvm.Cond), w ∈ xW := xPk_in [1237, 1238, 365, 381] (by decide +kernel) (by decide +kernel)
theorem j_coder {G : XG} {X : Nat × (Nat → Int32)} {U : State} {H : Heap} (h : xST G X U H) : va_Ef 8 "java/lang/String" "coder" "B" (fun _ => .int 0) (fun i => xad G 16 i) (xA G) U H := fun i hi => (h.2.2.2.2.2.2.2.2.2.2.2.2.2.1 i hi).1
theorem mCoder (l : Launch) (X : Nat × (Nat → Int32)) {G : XG} (hA : xAP G) {k : Nat} (hk : k < 8) : jMet l X yJ0_coder_7d493 cJ0_coder_7d493 1 (some .byte) 0 G (fun _ _ => True) [.ref (xad G 16 k)] (some (.int 0)) := by
  refine jMet_of hA (by decide +kernel) (Nat.le_refl _) ?_
  intro p e s m args below meth c ls C0 hrt hJ hP hls
  obtain ⟨hx, hb, hown, hml, hlocks, hK, hts, hST, -⟩ := id C0
  have hS0 : va_S (xA G) s.heap s.heap [] := va_S.rf
  have hS1 : va_S (fun _ => False) s.heap s.heap [] := va_S.rf
  refine va_gets hx hb hJ.2.2.1 hS0 hown (hts _ (x_FSt _ (List.mem_cons_of_mem _ (List.mem_cons_of_mem _ List.mem_cons_self)))) (fun _ q => q) (by decide +kernel) ?_
  refine lv_if_eq (tgt := 13) (off := 10) hx hb (by decide +kernel) (by decide) (fun h => absurd h (by decide)) (fun _ => ?_)
  refine lv_aload_n hx hb (show decode cJ0_coder_7d493 6 = .ok (.aload_n 0, 1) by decide +kernel) rfl (j_l0 hls) ?_
  refine va_getX hx hb (j_coder hST) (i := k) hk hS0 hown (hts _ (x_FSt _ (List.mem_cons_of_mem _ List.mem_cons_self))) (fun _ q => q) (by decide +kernel) ?_
  refine lv_goto (tgt := 14) (off := 4) hx hb (by decide +kernel) (by decide) ?_
  exact j_ret hx hb hrt (by decide) hlocks (by decide +kernel) hS1
theorem mIsL1 (l : Launch) (X : Nat × (Nat → Int32)) {G : XG} (hA : xAP G) {k : Nat} (hk : k < 8) : jMet l X yJ0_isLatin1_aae02 cJ0_isLatin1_aae02 1 (some .boolean) 0 G (fun _ _ => True) [.ref (xad G 16 k)] (some (.int 1)) := by
  refine jMet_of hA (by decide +kernel) (Nat.le_refl _) ?_
  intro p e s m args below meth c ls C0 hrt hJ hP hls
  obtain ⟨hx, hb, hown, hml, hlocks, hK, hts, hST, -⟩ := id C0
  have hS0 : va_S (xA G) s.heap s.heap [] := va_S.rf
  have hS1 : va_S (fun _ => False) s.heap s.heap [] := va_S.rf
  refine va_gets hx hb hJ.2.2.1 hS0 hown (hts _ (x_FSt _ (List.mem_cons_of_mem _ (List.mem_cons_of_mem _ List.mem_cons_self)))) (fun _ q => q) (by decide +kernel) ?_
  refine lv_if_eq (tgt := 17) (off := 14) hx hb (by decide +kernel) (by decide) (fun h => absurd h (by decide)) (fun _ => ?_)
  refine lv_aload_n hx hb (show decode cJ0_isLatin1_aae02 6 = .ok (.aload_n 0, 1) by decide +kernel) rfl (j_l0 hls) ?_
  refine va_getX hx hb (j_coder hST) (i := k) hk hS0 hown (hts _ (x_FSt _ (List.mem_cons_of_mem _ List.mem_cons_self))) (fun _ q => q) (by decide +kernel) ?_
  refine lv_if_ne (tgt := 17) (off := 7) hx hb (by decide +kernel) (by decide) (fun h => absurd rfl h) (fun _ => ?_)
  refine lv_iconst (n := 1) (v := 1) hx hb (by decide +kernel) rfl ?_
  refine lv_goto (tgt := 18) (off := 4) hx hb (by decide +kernel) (by decide) ?_
  exact j_ret hx hb hrt (by decide) hlocks (by decide +kernel) hS1
abbrev cJ3_checkIndex : ByteArray := prog_23_method_11_code
def yJ3_checkIndex : MethodName := ⟨"jdk/internal/util/Preconditions", "checkIndex", "(IILjava/util/function/BiFunction;)I"⟩
theorem mPre (l : Launch) (X : Nat × (Nat → Int32)) {G : XG} (hA : xAP G) {i n : Int32} {z : Value} (hz : z.category = 1) (h0 : 0 ≤ i) (h1 : i < n) : jMet l X yJ3_checkIndex cJ3_checkIndex 3 (some .int) 0 G (fun _ _ => True) [.int i, .int n, z] (some (.int i)) := by
  refine jMet_of hA (by decide +kernel) ?_ ?_
  · cases z <;> first | exact Nat.le_refl _ | cases hz
  intro p e s m args below meth c ls C0 hrt hJ hP hls
  obtain ⟨hx, hb, hown, hml, hlocks, hK, hts, hST, -⟩ := id C0
  have hS1 : va_S (fun _ => False) s.heap s.heap [] := va_S.rf
  refine lv_iload_n hx hb (show decode cJ3_checkIndex 0 = .ok (.iload_n 0, 1) by decide +kernel) rfl (j_l0 hls) ?_
  refine lv_if_lt (tgt := 9) (off := 8) hx hb (by decide +kernel) (by decide) (fun h => absurd h0 (Int32.not_le.mpr h)) (fun _ => ?_)
  refine lv_iload_n hx hb (show decode cJ3_checkIndex 4 = .ok (.iload_n 0, 1) by decide +kernel) rfl (j_l0 hls) ?_
  refine lv_iload_n hx hb (show decode cJ3_checkIndex 5 = .ok (.iload_n 1, 1) by decide +kernel) rfl (j_l1 hls rfl) ?_
  refine lv_icmp_lt (tgt := 16) (off := 10) hx hb (by decide +kernel) (by decide) (fun _ => ?_) (fun h => absurd h1 h)
  refine lv_iload_n hx hb (show decode cJ3_checkIndex 16 = .ok (.iload_n 0, 1) by decide +kernel) rfl (j_l0 hls) ?_
  exact j_ret hx hb hrt rfl hlocks (by decide +kernel) hS1

section
variable {l : Launch} {p : Program} {e : Env} {R : Room} {s : State} {m : MethodId} {args : Array Value} {below : List Frame} {meth : Method} {c : Code} {H : Heap} {locs : List Loc} {cells slots : Nat} {Q : State → Prop} {cc : ByteArray} {pc : Nat} {ls : Array Slot} {G : XG} {X : Nat × (Nat → Int32)} {own : String} {nL : Nat}
theorem j_blind {P : State → Heap → Prop} {as : List Value} (hP : ∀ (u U : State) (H : Heap), u.WarmedH U.vm → P u H → P U H) : FrameBlind (va_Pc as (fun U => jW G X U U.heap ∧ P U U.heap)) := by
  intro a U g mk h
  obtain ⟨h0, h1, h2⟩ := h
  have hW : U.WarmedH (U.calling g mk a).vm := State.WarmedH.refl U
  exact ⟨h0, jW.moved hW h1, hP _ _ _ hW h2⟩
theorem j_pre {P : State → Heap → Prop} {as : List Value} (hJ : jW G X s s.heap) (hS : va_S (xA G) s.heap H locs) (hP : ∀ U : State, U.heap = H → s.WarmedH U.vm → P U U.heap) : ∀ U : State, U.heap = H → s.WarmedH U.vm → va_Pc as (fun U => jW G X U U.heap ∧ P U U.heap) as.toArray U := by
  intro U hU hW
  refine ⟨rfl, ?_, hP U hU hW⟩
  rw [hU]
  exact (hJ.kept hS.1 hS.2.1).moved hW
theorem j_go {st0 rest : List Value} {v : Option Value} {A : Nat → Prop} (hr : vx_Run p l e R s m args below meth c H locs cells slots 0 0 (F0 m pc ls st0) rest (jQ v) (fun _ _ _ => False) (fun _ => False)) (hS : va_S A s.heap H locs)
    (kk : ∀ (H1 : Heap) (locs1 : List Loc), H.size ≤ H1.size → (∀ q, q < H.size → H1[q]? = H[q]?) → va_S A s.heap H1 locs1 → W p l e R s m args below meth c H1 locs1 cells slots Q (F0 m (pc + 3) ls (v.toList ++ rest))) : W p l e R s m args below meth c H locs cells slots Q (F0 m pc ls st0) := by
  intro T hT X0
  rcases hr T hT X0 with ⟨v', st₀, t, T', L, h0, X', hL, e1, e2, ⟨hv, hF⟩, st⟩ | ⟨q, st₀, t, T', L, E, ce, h0, X', hL, e1, e2, hx, -⟩
  · cases hv
    have k1 : H.size ≤ T'.heap.size := by rw [e1, ← h0]; exact hF.1
    have k2 : ∀ q, q < H.size → T'.heap[q]? = H[q]? := fun q hq => by rw [e1, ← h0]; exact hF.2 q (by rw [h0]; exact hq) (fun h => h)
    have k3 : va_S A s.heap T'.heap (locs ++ L) := ⟨Nat.le_trans hS.1 k1, fun q h1 h2 => (k2 q (Nat.lt_of_lt_of_le h1 hS.1)).trans (hS.2.1 q h1 h2), fun q hq => (List.mem_append.mp hq).elim (hS.2.2 q) (fun h => absurd (hL q h) (fun h => h))⟩
    obtain ⟨t2, a1, b1⟩ := kk T'.heap (locs ++ L) k1 k2 k3 T' rfl X'
    exact ⟨t2, st t2 a1, b1⟩
  · exact hx.elim
theorem jCallS {y : MethodName} {cy : ByteArray} {maxL lev' i n : Nat} {ret : Option FieldType} {P : State → Heap → Prop} {As rest : List Value} {v : Option Value} {A : Nat → Prop} (hM : jMet l X y cy maxL ret lev' G P As v) (hw : ∀ w ∈ va_wsS own i y [.code y cy maxL ret], w ∈ xW) (hd : y.cls ≠ "java/lang/invoke/MethodHandle" ∧ y.cls ≠ "java/lang/invoke/VarHandle" ∧ (parseMethodDescriptor y.desc).map (fun d => d.parameters.length) = some n)
    (hPm : ∀ (u U : State) (H : Heap), u.WarmedH U.vm → P u H → P U H) (hP : ∀ U : State, U.heap = H → s.WarmedH U.vm → P U U.heap) (C0 : xCtx G X p s m args meth c cc own nL) (hJ : jW G X s s.heap) (hS : va_S A s.heap H locs) (hSA : ∀ q, A q → xA G q) (hfr : lev' + 1 ≤ R.frames ∧ 8 + (maxL + 11) + 37 * lev' ≤ R.locals) (hce : cells ≤ R.cells ∧ slots ≤ R.slots) (hsz : ls.size = nL) (hn : As.length = n) (hrest : (rest.map fun v => v.category).sum ≤ 8) (hdg : decode cc pc = .ok (.invokestatic i, 3))
    (kk : ∀ (H1 : Heap) (locs1 : List Loc), H.size ≤ H1.size → (∀ q, q < H.size → H1[q]? = H[q]?) → va_S A s.heap H1 locs1 → W p l e R s m args below meth c H1 locs1 cells slots Q (F0 m (pc + 3) ls (v.toList ++ rest))) : W p l e R s m args below meth c H locs cells slots Q (F0 m pc ls (As.reverse ++ rest)) := by
  obtain ⟨hx, hb, hown, hml, hlocks, hK, hts, hST, hA⟩ := id C0
  have hG : GoodIn xW (va_wsS own i y [.code y cy maxL ret]) := fun w h => ⟨hw w h, xW_good (hw w h)⟩
  have hcw := va_cwS (R := R) (s := s) (args := args) (mc := 0) (ms := 0) (rm := xRm lev' 0) n hts hG rfl rfl rfl hd hfr
  have hS' : va_S (xA G) s.heap H locs := ⟨hS.1, fun q h1 h2 => hS.2.1 q h1 (fun h => h2 (hSA q h)), fun q hq => hSA _ (hS.2.2 q hq)⟩
  have hr := vx_runS (As := As) (rest := rest) (g := F0 m pc ls (As.reverse ++ rest)) (below := below) (e := e) (cells := cells) (slots := slots) (locs := locs) (H := H) (meth := meth) ⟨hx, hb, hml, hown, hts⟩ hM hcw ⟨j_blind hPm, j_pre hJ hS' hP⟩ rfl hn hsz rfl (lv_room hrest) hdg hce
  exact j_go hr hS kk
theorem jCallV {y : MethodName} {cy : ByteArray} {maxL lev' i n k : Nat} {ret : Option FieldType} {P : State → Heap → Prop} {As rest : List Value} {v : Option Value} {A : Nat → Prop} (hk : k < 8) (hM : jMet l X y cy maxL ret lev' G P (.ref (xad G 16 k) :: As) v) (hw : ∀ w ∈ wsV own i "java/lang/String" y [.code y cy maxL ret], w ∈ xW) (hd : y.cls = "java/lang/String" ∧ y.cls ≠ "java/lang/invoke/MethodHandle" ∧ y.cls ≠ "java/lang/invoke/VarHandle" ∧ (parseMethodDescriptor y.desc).map (fun d => d.parameters.length) = some n)
    (hPm : ∀ (u U : State) (H : Heap), u.WarmedH U.vm → P u H → P U H) (hP : ∀ U : State, U.heap = H → s.WarmedH U.vm → P U U.heap) (C0 : xCtx G X p s m args meth c cc own nL) (hJ : jW G X s s.heap) (hS : va_S A s.heap H locs) (hSA : ∀ q, A q → xA G q) (hfr : lev' + 1 ≤ R.frames ∧ 8 + (maxL + 11) + 37 * lev' ≤ R.locals) (hce : cells ≤ R.cells ∧ slots ≤ R.slots) (hsz : ls.size = nL) (hn : As.length = n) (hrest : (rest.map fun v => v.category).sum ≤ 8) (hdg : decode cc pc = .ok (.invokevirtual i, 3))
    (kk : ∀ (H1 : Heap) (locs1 : List Loc), H.size ≤ H1.size → (∀ q, q < H.size → H1[q]? = H[q]?) → va_S A s.heap H1 locs1 → W p l e R s m args below meth c H1 locs1 cells slots Q (F0 m (pc + 3) ls (v.toList ++ rest))) : W p l e R s m args below meth c H locs cells slots Q (F0 m pc ls (As.reverse ++ .ref (xad G 16 k) :: rest)) := by
  obtain ⟨hx, hb, hown, hml, hlocks, hK, hts, hST, hA⟩ := id C0
  have hG : GoodIn xW (wsV own i "java/lang/String" y [.code y cy maxL ret]) := fun w h => ⟨hw w h, xW_good (hw w h)⟩
  have hcw : CallW R s args own "java/lang/String" i y cy maxL ret [.code y cy maxL ret] (xRm lev' 0) 0 0 n := cwV n hts hG rfl rfl rfl hd hfr
  have hS' : va_S (xA G) s.heap H locs := ⟨hS.1, fun q h1 h2 => hS.2.1 q h1 (fun h => h2 (hSA q h)), fun q hq => hSA _ (hS.2.2 q hq)⟩
  have hrc : ∃ cellB : Cell, H[xad G 16 k]? = some cellB ∧ cellB.vm.isStatics = false ∧ s.vm.findClass "java/lang/String" = some cellB.cls := by
    obtain ⟨-, -, -, -, -, -, -, -, -, -, -, -, hO, -⟩ := hST.kept hS'.1 hS'.2.1
    obtain ⟨cell, q1, q2, q3, -⟩ := hO k hk
    exact ⟨cell, q1, q2, q3⟩
  have hr := vx_runV (As := As) (rest := rest) (b := xad G 16 k) (g := F0 m pc ls (As.reverse ++ .ref (xad G 16 k) :: rest)) (below := below) (e := e) (cells := cells) (slots := slots) (locs := locs) (H := H) (meth := meth) ⟨hx, hb, hml, hown, hts⟩ hM hcw ⟨j_blind hPm, hrc, j_pre hJ hS' hP⟩ rfl hn hsz rfl (lv_room hrest) hdg hce
  exact j_go hr hS kk
end
end
