section
variable {p : Program} {l : Launch} {e : Env} {R : Room} {s : State} {m : MethodId} {args : Array Value} {below : List Frame} {meth : Method} {c : Code} {H : Heap} {locs : List Loc} {cells slots : Nat}
theorem vx_callVU {T : State} {locs : List Loc} {cells slots : Nat} (X : Stand p l e R s m args below meth c T locs cells slots) (hexec : p.tables.exec = Jvm.exec) {own C owner : String} {index : Nat} {x y : MethodName} {bytes : ByteArray} {maxL : Nat} {ret : Option FieldType}
    (hown : s.vm.findClass own = some m.cls) (hlink : (Cond.methodLink own index x).before args s = true) (hsame : (Cond.sameMethod x.cls owner x.name x.desc).before args s = true)
    (hd0 : va_Decl s ⟨owner, x.name, x.desc⟩) (howner : owner ≠ "java/lang/invoke/MethodHandle" ∧ owner ≠ "java/lang/invoke/VarHandle")
    (hsel : (Cond.selects C x y).before args s = true) (hinst : (Cond.instanceMethod y).before args s = true) (hcode : (Cond.code y bytes maxL ret).before args s = true)
    {W : Nat} {Pre : Pt → Array Value → Prop} {Post : Pt → Array Value → Option Value → Pt → Prop} {PostX : Pt → Array Value → Addr → Pt → Prop} (hK : vx_Back l R p e below s args y 3 W Pre Post PostX)
    {b : Addr} {cellB : Cell} (hcell : T.heap[b]? = some cellB) (hobj : cellB.vm.isStatics = false) (hcls : s.vm.findClass C = some cellB.cls)
    {g : JFrame} (hg : g.method = m) (hsize : g.locals.size = c.maxLocals) {argsL rest : List Value} (hlen : ∀ sig, parseMethodDescriptor x.desc = some sig → argsL.length = sig.parameters.length)
    (hstack : g.stack = argsL.reverse ++ .ref b :: rest) (hW : 2 * g.monitorRoom + (rest.map fun v => v.category).sum ≤ W) (hdg : decode c.code g.pc = .ok (.invokevirtual index, 3))
    (hpre : ∀ vm₁, s.WarmedH vm₁ → Pre ⟨T.setVm vm₁, locs, cells, slots⟩ (Value.ref b :: argsL).toArray) :
    (∃ (v : Option Value) (vm₁ : Vm) (B : Pt), s.WarmedH vm₁ ∧ Stand p l e R s m args below meth c B.U B.locs B.cells B.slots ∧ Post ⟨T.setVm vm₁, locs, cells, slots⟩ (Value.ref b :: argsL).toArray v B ∧
      ∀ target, Steps p.tables e below (B.U.setTop { g with pc := g.pc + 3, stack := v.toList ++ rest }) target → Steps p.tables e below (T.setTop g) target) ∨
    (∃ (q : Addr) (vm₁ : Vm) (B : Pt), s.WarmedH vm₁ ∧ Stand p l e R s m args below meth c B.U B.locs B.cells B.slots ∧ PostX ⟨T.setVm vm₁, locs, cells, slots⟩ (Value.ref b :: argsL).toArray q B ∧
      Steps p.tables e below (T.setTop g) ((B.U.setTop { g with stack := rest }).pushFrame (.throwing q))) := by
  obtain ⟨r0, r, hn, hrm, hstR, hsigR⟩ := hd0
  obtain ⟨cn, ck, r1, hcn, hck, hni, hf, hn1⟩ := Cond.sameMethod_found hsame
  cases hn.symm.trans hn1
  obtain ⟨mk, methM, hnamed, hmethM, -, habM⟩ := Cond.instanceMethod_spec hinst
  obtain ⟨c2, r2, m2, q1, q2, q3, q4, kP, hkP, hkPi⟩ := Cond.selects_spec hsel
  cases hcls.symm.trans q1
  cases hf.symm.trans q2
  cases hnamed.symm.trans q3
  have hselP : selectMethod e.platform s.vm cellB.cls r0 = .method mk := by rw [Launch.admits_selectMethod X.admits]; exact q4
  obtain ⟨vm₁, X₁, hstep₁⟩ := X.invokevirtualUp hexec hown hlink hsame howner hn hrm hstR (a := b) (cell := cellB) hcell
    (fun z h => by rw [h] at hobj; cases hobj) hselP hmethM habM hkP hkPi (g := g) hg (argsL := argsL) (rest := rest) (hlen _ hsigR) hstack hdg
  rcases hK m meth c ⟨T.setVm vm₁, locs, cells, slots⟩ { g with stack := rest } (.invokevirtual index) mk (Value.ref b :: argsL).toArray X₁ hg hsize hdg hW (X₁.named hnamed) (hpre vm₁ X₁.warmed) with ⟨v, B, X', hpost, hsteps⟩ | ⟨q, B, X', hpost, hsteps⟩
  · exact Or.inl ⟨v, vm₁, B, X₁.warmed, X', hpost, fun target h => hstep₁ _ fun acts => by rw [doInvoke_state]; exact hsteps.trans h⟩
  · exact Or.inr ⟨q, vm₁, B, X₁.warmed, X', hpost, hstep₁ _ fun acts => by rw [doInvoke_state]; exact hsteps⟩
theorem vx_runU {x y : MethodName} {bytes cc : ByteArray} {maxL nL mc ms n index : Nat} {ret : Option FieldType} {ws : List Cond} {rm : Room} {Pc : Array Value → State → Prop} {Qc : Array Value → State → Outcome → State → Prop} {XC : String → State → State → Prop} {free : Addr → Prop} {Ts : List Cond} {own C owner : String} {b : Addr} {As rest : List Value} {g : JFrame}
    (S : CallFix p m c cc nL s args Ts own) (hM : vx_Met l y ws rm Pc Qc XC mc ms free) (cw : va_CU R s args own C owner index x y bytes maxL ret ws rm mc ms n) (hp : PreV s H C b Pc As)
    (hg : g.method = m) (hn : As.length = n) (hsize : g.locals.size = nL) (hstack : g.stack = As.reverse ++ .ref b :: rest) (hW : 2 * g.monitorRoom + (rest.map fun v => v.category).sum ≤ 8) (hdg : decode cc g.pc = .ok (.invokevirtual index, 3)) (hf : cells + mc ≤ R.cells ∧ slots + ms ≤ R.slots) :
    vx_Run p l e R s m args below meth c H locs cells slots mc ms g rest (Qc (Value.ref b :: As).toArray) XC free := by
  obtain ⟨hrc, hrs, hfr, hlo, hws, hcw⟩ := cw.back
  have hini := cw.init
  have hK : vx_Back l R p e below s args y 3 8 (PreOf R mc ms Pc) (PostOf Qc mc ms free) (vx_Post XC mc ms free) := vx_back (bytes := bytes) (maxL := maxL) (ret := ret) hM hp.1 hrc hrs hfr hlo hws hcw (fun a' U hW => word_at hW (Or.inl (by first | rfl | simp [Cond.onTables, Cond.keeps, Cond.steady])) hini)
  obtain ⟨hx, hb, hml, ho, -⟩ := S
  obtain ⟨-, ⟨cellB, hcB, hoB, hclB⟩, hPc⟩ := hp
  intro T hT X
  rcases vx_callVU X hx (C := C) (owner := owner) (bytes := bytes) (maxL := maxL) (ret := ret) ho cw.link cw.same cw.decl cw.notMH cw.sel cw.inst cw.code hK (by rw [hT]; exact hcB) hoB hclB hg (hsize.trans hml.symm) (argsL := As) (rest := rest) (fun sig h => hn.trans (cw.len sig h)) hstack hW (by rw [hb]; exact hdg)
    (fun vm₁ hW₁ => ⟨hf.1, hf.2, hPc (T.setVm vm₁) hT hW₁⟩) with ⟨v, vm₁, ⟨U', l2, c2, s2⟩, hW₁, X', ⟨g', mk, t, L, e1, e2, hq, h1, hL, h2, h3⟩, st⟩ | ⟨q, vm₁, ⟨U', l2, c2, s2⟩, hW₁, X', ⟨g', mk, t, L, E, ce, e1, e2, hq, hce, hcv, hcl, h1, hL, h2, h3⟩, st⟩
  · dsimp only [Pt.U, Pt.locs, Pt.cells, Pt.slots] at X' e1 e2 h1 h2 h3 st
    subst h1; subst h2; subst h3
    exact Or.inl ⟨v, (T.setVm vm₁).calling g' mk (Value.ref b :: As).toArray, t, U', L, hT, X', hL, e1, e2, hq, st⟩
  · dsimp only [Pt.U, Pt.locs, Pt.cells, Pt.slots] at X' e1 e2 h1 h2 h3 st hcl
    subst h1; subst h2; subst h3
    exact Or.inr ⟨q, (T.setVm vm₁).calling g' mk (Value.ref b :: As).toArray, t, U', L, E, ce, hT, X', hL, e1, e2, hq, hce, hcv, vx_cls hW₁ hcl, st⟩
end
section
/-! ===== three calls into the JDK ===== -/
theorem xCS_U {l : Launch} {X : Nat × (Nat → Int32)} {own C owner : String} {lev lev' i n κ' maxL : Nat} {x y : MethodName} {cy : ByteArray} {ret : Option FieldType} {f : XS} (hM : xMet l X y cy maxL ret lev' κ' f)
    (hw : ∀ w ∈ va_wsU own i C owner x y [.code y cy maxL ret], w ∈ xW) (hyx : y = ⟨owner, x.name, x.desc⟩) (hd : owner ≠ "java/lang/invoke/MethodHandle" ∧ owner ≠ "java/lang/invoke/VarHandle" ∧ (parseMethodDescriptor x.desc).map (fun d => d.parameters.length) = some n) (hC : RX6 = C) (hl : lev' + 1 ≤ lev) (hm : maxL ≤ 18)
    (hf : ∀ as σ q, f as σ = some q → ∃ j as', as = xR 12 j :: as') : xCS l X own lev (2 * i) (n + 1) κ' f := by
  intro p e R s m args below meth c H locs cells slots cc pc ls G nL σ σ' r as rest C0 hR hS hfr hlo hce hsl hsz hlen hok hws hfa hdg
  obtain ⟨j, as', rfl⟩ := hf _ _ _ hfa
  obtain ⟨hx, hb, hown, hml, hlocks, hK, hts, hST, hA⟩ := id C0
  rw [xCI_V] at hdg
  subst hC
  have hj : j < 8 := hok _ List.mem_cons_self
  have hG : GoodIn xW (va_wsU own i RX6 owner x y [.code y cy maxL ret]) := fun w h => ⟨hw w h, xW_good (hw w h)⟩
  have hcw : va_CU R s args own RX6 owner i x y cy maxL ret [.code y cy maxL ret] (xRm lev' κ') κ' (6 * κ') n := va_cwU n hts hG rfl rfl rfl hyx hd ⟨by show lev' + 1 ≤ R.frames; omega, by show 8 + (maxL + 11) + 37 * lev' ≤ R.locals; omega⟩
  have hrc : ∃ cellB : Cell, H[xad G 12 j]? = some cellB ∧ cellB.vm.isStatics = false ∧ s.vm.findClass RX6 = some cellB.cls := by
    obtain ⟨-, -, -, -, -, -, -, -, -, -, -, hO, -⟩ := hST.kept hS.1 hS.2.1
    obtain ⟨cell, q1, q2, q3, -⟩ := hO j hj
    exact ⟨cell, q1, q2, q3⟩
  exact vx_runU (As := as'.map (xcv G)) (rest := rest.map (xcv G)) (b := xad G 12 j) (g := F0 m pc ls (((xR 12 j :: as').reverse ++ rest).map (xcv G))) (below := below) (e := e) (cells := cells) (slots := slots) (locs := locs) (H := H) (meth := meth) ⟨hx, hb, hml, hown, hts⟩ (hM G (xR 12 j :: as') σ r σ' hA hok hfa) hcw
    ⟨xPc0_blind _ _ _ _, hrc, xPc0_pre C0 hR hS⟩ rfl (by rw [List.length_map]; simpa using hlen) hsz (by simp [xcv]) (lv_room (by rw [xws_cat]; exact hws)) hdg ⟨hce, hsl⟩
/-- a JDK method of one place, by hand: what its body is walked with -/
theorem xMet_hand {l : Launch} {X : Nat × (Nat → Int32)} {y : MethodName} {cc : ByteArray} {maxL : Nat} {ret : Option FieldType} {lev κ : Nat} {f : XS}
    (hy : plainFor y = true) (hlen : ∀ as σ q, f as σ = some q → xws as ≤ maxL)
    (hgo : ∀ {G : XG} {p : Program} {e : Env} {s : State} {m : MethodId} {args : Array Value} {below : List Frame} {meth : Method} {c : Code} {as : List XV} {σ σ' : XH} {r : XR} {ls : Array Slot}, xCtx G X p s m args meth c cc y.cls maxL → meth.sig.returnType = ret → xRP G σ s.heap → xsok as → f as σ = some (r, σ') → lv_has ls maxL (xcl G (xargs 0 as)) → W p l e (xRm lev κ) s m args below meth c s.heap [] 0 0 (vx_MQ below (fun _ => xQR G σ' r) (xXR G σ' r) args s κ (6 * κ) (xA G)) (F0 m 0 ls [])) : xMet l X y cc maxL ret lev κ f := by
  intro G as σ r σ' hA hok hfa
  refine vx_ofWF (cc := cc) (maxL := maxL) (ret := ret) (ws' := []) hy rfl ?_
  intro p e s m args below meth c s₁ B hml ht hv
  obtain ⟨hargs, hWK, hST, hR⟩ := hv
  have hx := B.exec
  have hb := B.bytes
  have hr := B.returns
  have hown : s.vm.findClass y.cls = some m.cls := findClass_of_methodNamed B.named
  have hlocks := B.notSynchronized
  have hts : ∀ w ∈ xW, w.before args s = true := fun w hw => word_at (State.WarmedH.refl s) (xW_good hw) (hWK.2.1 w hw)
  have C0 : xCtx G X p s m args meth c cc y.cls maxL := ⟨hx, hb, hown, hml, hlocks, hWK, hts, hST, hA⟩
  have hl := lv_entry (as.map (xcv G)) (n := maxL) (by rw [xsl_len]; exact hlen _ _ _ hfa)
  rw [xargs_eq] at hl
  subst hargs
  rw [lg_entry_eq]
  exact hgo C0 hr hR hok hfa hl
theorem fOrd_e {as : List XV} {σ : XH} {q : XR × XH} (h : fOrd as σ = some q) : ∃ k, as = [xR 12 k] ∧ q = (.inl (some (xI (Int32.ofNat k))), σ) := by
  unfold fOrd at h
  split at h
  · cases h
    exact ⟨_, rfl, rfl⟩
  · cases h
theorem x_FEn : ∀ w ∈ ([.fieldLink "java/lang/Enum" 7 "java/lang/Enum" "ordinal" "I"] : List Jvm.Cond), w ∈ xW := xPk_in [1240] (by decide +kernel) (by decide +kernel)
theorem mOrd (l : Launch) (X : Nat × (Nat → Int32)) : xMet l X yJx29ce0_ordinal_8abf5 cJx29ce0_ordinal_8abf5 1 (some .int) 1 0 fOrd := by
  refine xMet_hand (by decide +kernel) (fun as σ q h => ?_) ?_
  · obtain ⟨k, rfl, -⟩ := fOrd_e h
    exact Nat.le_refl _
  · intro G p e s m args below meth c as σ σ' r ls C0 hrt hR hok hfa hls
    obtain ⟨k, rfl, hq⟩ := fOrd_e hfa
    cases hq
    obtain ⟨hx, hb, hown, hml, hlocks, hK, hts, hST, hA⟩ := id C0
    have hk : k < 8 := hok _ List.mem_cons_self
    refine lv_aload_n hx hb (show decode cJx29ce0_ordinal_8abf5 0 = .ok (.aload_n 0, 1) by decide +kernel) rfl (show ls[0]? = some (.val (.ref (xad G 12 k))) from xlg_at (v := xR 12 k) (i := 0) hls rfl) ?_
    have hord := hST.2.2.2.2.2.2.2.2.2.2.1
    have hS0 : va_S (xA G) s.heap s.heap [] := va_S.rf
    refine va_getX hx hb hord (i := k) hk hS0 hown (hts _ (x_FEn _ List.mem_cons_self)) (fun _ q => q) (by decide +kernel) ?_
    exact vx_ret (W.iret hx hb hrt (fun t ht hW => ⟨⟨_, rfl, rfl, fun w hw => by cases hw; trivial⟩, by rw [ht]; exact hR, hS0.F ht⟩) hS0.2.2 (by decide +kernel))
theorem csOrd_X7_245 (l : Launch) (X : Nat × (Nat → Int32)) {lev : Nat} (h : 4 ≤ lev) : xCS l X RX7 lev (2 * 245) 1 0 fOrd :=
  xCS_U (C := RX6) (owner := "java/lang/Enum") (x := ⟨RX6, "ordinal", "()I"⟩) (mOrd l X) (xPk_in [446, 447, 449, 450, 74, 451] (by decide +kernel) (by decide +kernel)) rfl (by decide +kernel) rfl (by omega) (by decide) (fun as σ q h => ⟨_, _, (fOrd_e h).choose_spec.1⟩)
end
