/-! ===== the engine is sound ===== -/
/-- how long an instruction is, where the engine goes on behind it (0: it doesn't) -/
def xLn : Instr → Nat
  | .iload_n _ => 1 | .iload _ => 2 | .lload_n _ => 1 | .lload _ => 2 | .aload_n _ => 1 | .aload _ => 2
  | .istore_n _ => 1 | .istore _ => 2 | .lstore_n _ => 1 | .lstore _ => 2 | .astore_n _ => 1 | .astore _ => 2
  | .iinc _ _ => 3 | .iconst _ => 1 | .bipush _ => 2 | .sipush _ => 3 | .lconst _ => 1 | .ldc _ => 2 | .ldc2_w _ => 3 | .aconst_null => 1
  | .dup => 1 | .dup2 => 1 | .pop => 1 | .iadd => 1 | .isub => 1 | .imul => 1 | .iand => 1 | .ixor => 1 | .ishr => 1 | .idiv => 1 | .irem => 1 | .ineg => 1
  | .ladd => 1 | .lmul => 1 | .lor => 1 | .lshl => 1 | .i2l => 1 | .lcmp => 1
  | .if_icmp _ _ => 3 | .ifCond _ _ => 3 | .goto _ => 3 | .ifnull _ => 3 | .ifnonnull _ => 3
  | .getfield _ => 3 | .putfield _ => 3 | .iaload => 1 | .iastore => 1 | .aaload => 1 | .arraylength => 1
  | .invokevirtual _ => 3 | .invokestatic _ => 3 | .ireturn => 1 | .lreturn => 1 | .areturn => 1 | .return_ => 1
  | _ => 0
/-- a table switch's cases: the values in their order from lo on, with their goals -/
def xSwT (pc : Nat) : Int → List Int → List (Int32 × Nat) → Bool
  | _, [], [] => true
  | lo, o :: os, (v, t) :: r => decide (v.toInt = lo) && (decide ((pc : Int) + o = (t : Int)) && xSwT pc (lo + 1) os r)
  | _, _, _ => false
/-- a lookup switch's cases -/
def xSwL (pc : Nat) : List (Int × Int) → List (Int32 × Nat) → Bool
  | [], [] => true
  | (a, o) :: os, (v, t) :: r => decide (v.toInt = a) && (decide ((pc : Int) + o = (t : Int)) && xSwL pc os r)
  | _, _ => false
/-- a row of the code's table is what it says -/
def xRowOK (own : String) (cc : ByteArray) (WL : List Jvm.Cond) (e : XE) : Bool :=
  decide (decode cc e.1 = .ok (e.2.1, e.2.2.1)) && (decide (xLn e.2.1 = 0 ∨ e.2.2.1 = xLn e.2.1) && match e.2.1 with
  | .bipush n => decide ((Int8.ofInt n).toInt32 = Int32.ofInt n)
  | .sipush n => decide ((Int16.ofInt n).toInt32 = Int32.ofInt n)
  | .ldc i => (match e.2.2.2.2.2 with
    | (v, _) :: _ => decide (Jvm.Cond.constant own i v ∈ WL)
    | _ => true)
  | .ldc2_w i => decide (Jvm.Cond.constantLong own i (Int64.ofNat e.2.2.2.1) ∈ WL)
  | .if_icmp _ o => decide ((e.1 : Int) + o = (e.2.2.2.1 : Int))
  | .ifCond _ o => decide ((e.1 : Int) + o = (e.2.2.2.1 : Int))
  | .goto o => decide ((e.1 : Int) + o = (e.2.2.2.1 : Int))
  | .ifnull o => decide ((e.1 : Int) + o = (e.2.2.2.1 : Int))
  | .ifnonnull o => decide ((e.1 : Int) + o = (e.2.2.2.1 : Int))
  | .tableswitch d lo hi os => decide ((e.1 : Int) + d = (e.2.2.2.1 : Int)) && (decide (hi = lo + os.toList.length - 1) && xSwT e.1 lo os.toList e.2.2.2.2.2)
  | .lookupswitch d ps => decide ((e.1 : Int) + d = (e.2.2.2.1 : Int)) && (decide ((ps.toList.zip (ps.toList.drop 1)).all (fun (a, next) => a.1 < next.1) = true) && xSwL e.1 ps.toList e.2.2.2.2.2)
  | .getfield i => decide (e.2.2.2.1 < 8 ∧ e.2.2.2.2.1 < xNN e.2.2.2.1 ∧ Jvm.Cond.fieldLink own i (xTT e.2.2.2.1 e.2.2.2.2.1).1 (xTT e.2.2.2.1 e.2.2.2.2.1).2.1 (xTT e.2.2.2.1 e.2.2.2.2.1).2.2.1 ∈ WL)
  | .putfield i => decide (e.2.2.2.1 < 8 ∧ e.2.2.2.2.1 < xNN e.2.2.2.1 ∧ (xTT e.2.2.2.1 e.2.2.2.2.1).2.2.2 = false ∧ Jvm.Cond.fieldLink own i (xTT e.2.2.2.1 e.2.2.2.2.1).1 (xTT e.2.2.2.1 e.2.2.2.2.1).2.1 (xTT e.2.2.2.1 e.2.2.2.2.1).2.2.1 ∈ WL)
  | .invokevirtual i => decide (e.2.2.2.1 = 2 * i)
  | .invokestatic i => decide (e.2.2.2.1 = 2 * i + 1) && decide (e.2.2.2.2.1 = 0 ∨ (Jvm.Cond.methodLink own i arraycopyName ∈ WL ∧ Jvm.Cond.native arraycopyName ∈ WL ∧ Jvm.Cond.static arraycopyName ∈ WL ∧ Jvm.Cond.initialized "java/lang/System" ∈ WL))
  | _ => true)
/-- which exception -/
def xXN : Nat → String
  | 0 => "java/lang/IndexOutOfBoundsException" | 1 => "java/lang/IllegalArgumentException" | _ => "java/lang/IllegalStateException"
/-- a method's end: its answer, the world; or what it has thrown -/
def xQR (G : XG) (σ' : XH) (r : XR) : State → Outcome → State → Prop := fun st oc t => (∃ v, r = .inl v ∧ oc = .returned (v.map (xcv G)) ∧ ∀ w, v = some w → xok w) ∧ xRP G σ' t.heap ∧ va_F (xA G) st t
def xXR (G : XG) (σ' : XH) (r : XR) : String → State → State → Prop := fun E st t => (∃ k, r = .inr k ∧ E = xXN k) ∧ xRP G σ' t.heap ∧ va_F (xA G) st t
abbrev xRm (lev κ : Nat) : Room := { frames := lev, cells := κ, slots := 6 * κ, locals := 37 * lev }
def xPc0 (G : XG) (X : Nat × (Nat → Int32)) (as : List XV) (σ : XH) : Array Value → State → Prop := va_Pc (as.map (xcv G)) (fun U => xWK G U ∧ xST G X U U.heap ∧ xRP G σ U.heap)
/-- a method's contract, by a pure function -/
def xMet (l : Launch) (X : Nat × (Nat → Int32)) (y : MethodName) (cc : ByteArray) (maxL : Nat) (ret : Option FieldType) (lev κ : Nat) (f : XS) : Prop :=
  ∀ (G : XG) (as : List XV) (σ : XH) (r : XR) (σ' : XH), xAP G → xsok as → f as σ = some (r, σ') →
    vx_Met l y [.code y cc maxL ret] (xRm lev κ) (xPc0 G X as σ) (fun _ => xQR G σ' r) (xXR G σ' r) κ (6 * κ) (xA G)
def xCI (a : Nat) : Instr := match a % 2 with
  | 0 => .invokevirtual (a / 2)
  | _ => .invokestatic (a / 2)
/-- a call's row, for any caller of the class own at the level lev -/
def xCS (l : Launch) (X : Nat × (Nat → Int32)) (own : String) (lev a n κ' : Nat) (f : XS) : Prop :=
  ∀ {p : Program} {e : Env} {R : Room} {s : State} {m : MethodId} {args : Array Value} {below : List Frame} {meth : Method} {c : Code} {H : Heap} {locs : List Loc} {cells slots : Nat} {cc : ByteArray} {pc : Nat} {ls : Array Slot} {G : XG} {nL : Nat} {σ σ' : XH} {r : XR} {as rest : List XV},
    xCtx G X p s m args meth c cc own nL → xRP G σ H → va_S (xA G) s.heap H locs → lev ≤ R.frames → 37 * lev ≤ R.locals → cells + κ' ≤ R.cells → slots + 6 * κ' ≤ R.slots → ls.size = nL → as.length = n → xsok as → xws rest ≤ 8 → f as σ = some (r, σ') → decode cc pc = .ok (xCI a, 3) →
      vx_Run p l e R s m args below meth c H locs cells slots κ' (6 * κ') (F0 m pc ls ((as.reverse ++ rest).map (xcv G))) (rest.map (xcv G)) (xQR G σ' r) (xXR G σ' r) (xA G)
theorem xWK.moved {G : XG} {u U : State} (hW : u.WarmedH U.vm) (h : xWK G u) : xWK G U := by
  obtain ⟨h1, h2, h3, h5, h6, h7, h8⟩ := h
  refine ⟨va_K.moved hW.alike h1, fun w hw => word_at hW (xW_good hw) (h2 w hw), fun w hw => ?_, fun w hw => ?_, fun q hq => ?_, va_Nc.moved hW.alike h7, va_Nc.moved hW.alike h8⟩
  · have h4 := h3 w hw
    rw [List.mem_singleton.mp hw] at h4 ⊢
    exact va_Nw.warmM hW h4
  · have h4 := h5 w hw
    simp only [xTW, List.mem_cons, List.not_mem_nil, or_false] at hw
    rcases hw with rfl | rfl | rfl | rfl | rfl | rfl
    · exact va_Nw.warmC hW h4
    · exact va_Nw.warmC hW h4
    · exact va_Nw.warmC hW h4
    · exact va_Nw.warmD hW h4
    · exact va_Nw.warmD hW h4
    · exact va_Nw.warmD hW h4
  · obtain ⟨a, ha⟩ := h6 q hq
    exact ⟨a, vk_R.warm hW ha⟩
theorem xPc0_blind (G : XG) (X : Nat × (Nat → Int32)) (as : List XV) (σ : XH) : FrameBlind (xPc0 G X as σ) := by
  intro a U g mk h
  obtain ⟨h0, h1, h2, h3⟩ := h
  have hW : U.WarmedH (U.calling g mk a).vm := State.WarmedH.refl U
  exact ⟨h0, xWK.moved hW h1, xST.moved hW.alike h2, h3⟩
theorem xPc0_pre {G : XG} {X : Nat × (Nat → Int32)} {as : List XV} {σ : XH} {p : Program} {s : State} {m : MethodId} {args : Array Value} {meth : Method} {c : Code} {cc : ByteArray} {own : String} {nL : Nat} {H : Heap} {locs : List Loc}
    (C0 : xCtx G X p s m args meth c cc own nL) (hR : xRP G σ H) (hS : va_S (xA G) s.heap H locs) : ∀ U : State, U.heap = H → s.WarmedH U.vm → xPc0 G X as σ (as.map (xcv G)).toArray U := by
  intro U hU hW
  obtain ⟨-, -, -, -, -, hK, -, hST, -⟩ := C0
  subst hU
  exact ⟨rfl, xWK.moved hW hK, (hST.kept hS.1 hS.2.1).moved hW.alike, hR⟩
theorem xws_cat (G : XG) (rest : List XV) : ((rest.map (xcv G)).map fun v => v.category).sum = xws rest := by
  induction rest with
  | nil => rfl
  | cons v r ih =>
    simp only [List.map_cons, List.sum_cons, ih, xcv_cat]
    rfl
theorem xCI_V (i : Nat) : xCI (2 * i) = .invokevirtual i := by
  unfold xCI
  rw [Nat.mul_mod_right, Nat.mul_div_cancel_left i (by decide)]
  rfl
theorem xCI_S (i : Nat) : xCI (2 * i + 1) = .invokestatic i := by
  unfold xCI
  rw [show (2 * i + 1) % 2 = 1 by omega, show (2 * i + 1) / 2 = i by omega]
  rfl
/-- a virtual call of a method of the receiver's own class -/
theorem xCS_V {l : Launch} {X : Nat × (Nat → Int32)} {own C : String} {lev lev' i n κ' maxL k : Nat} {y : MethodName} {cy : ByteArray} {ret : Option FieldType} {f : XS} (hM : xMet l X y cy maxL ret lev' κ' f)
    (hw : ∀ w ∈ wsV own i C y [.code y cy maxL ret], w ∈ xW) (hd : y.cls = C ∧ y.cls ≠ "java/lang/invoke/MethodHandle" ∧ y.cls ≠ "java/lang/invoke/VarHandle" ∧ (parseMethodDescriptor y.desc).map (fun d => d.parameters.length) = some n) (hk : k < 8) (hC : xRR k = C) (hl : lev' + 1 ≤ lev) (hm : 19 + maxL + 37 * lev' ≤ 37 * lev)
    (hf : ∀ as σ q, f as σ = some q → ∃ j as', as = xR k j :: as') : xCS l X own lev (2 * i) (n + 1) κ' f := by
  intro p e R s m args below meth c H locs cells slots cc pc ls G nL σ σ' r as rest C0 hR hS hfr hlo hce hsl hsz hlen hok hws hfa hdg
  obtain ⟨j, as', rfl⟩ := hf _ _ _ hfa
  obtain ⟨hx, hb, hown, hml, hlocks, hK, hts, hST, hA⟩ := id C0
  rw [xCI_V] at hdg
  have hj : j < xcnt k := hok _ List.mem_cons_self
  have hG : GoodIn xW (wsV own i C y [.code y cy maxL ret]) := fun w h => ⟨hw w h, xW_good (hw w h)⟩
  have hcw : CallW R s args own C i y cy maxL ret [.code y cy maxL ret] (xRm lev' κ') κ' (6 * κ') n := cwV n hts hG rfl rfl rfl hd ⟨by show lev' + 1 ≤ R.frames; omega, by show 8 + (maxL + 11) + 37 * lev' ≤ R.locals; omega⟩
  have hrc : ∃ cellB : Cell, H[xad G k j]? = some cellB ∧ cellB.vm.isStatics = false ∧ s.vm.findClass C = some cellB.cls := by
    obtain ⟨cell, q1, q2, q3, -⟩ := hR.1 k j hk hj
    refine ⟨cell, q1, by rw [q3]; rfl, ?_⟩
    rw [← hC, q2]
    exact (hK.1.1 k _ (x_cl k hk)).2.1
  have h := vx_runV (As := as'.map (xcv G)) (rest := rest.map (xcv G)) (b := xad G k j) (g := F0 m pc ls (((xR k j :: as').reverse ++ rest).map (xcv G))) (below := below) (e := e) (cells := cells) (slots := slots) (locs := locs) (H := H) (meth := meth) ⟨hx, hb, hml, hown, hts⟩ (hM G (xR k j :: as') σ r σ' hA hok hfa) hcw
    ⟨xPc0_blind _ _ _ _, hrc, xPc0_pre C0 hR hS⟩ rfl (by rw [List.length_map]; simpa using hlen) hsz (by simp [xcv]) (lv_room (by rw [xws_cat]; exact hws)) hdg ⟨hce, hsl⟩
  exact h
/-- a static call of a method of the caller's own class, or of another that is open to it -/
theorem xCS_S {l : Launch} {X : Nat × (Nat → Int32)} {own : String} {lev lev' i n κ' maxL : Nat} {y : MethodName} {cy : ByteArray} {ret : Option FieldType} {f : XS} (hM : xMet l X y cy maxL ret lev' κ' f)
    (hw : ∀ w ∈ va_wsS own i y [.code y cy maxL ret], w ∈ xW) (hd : y.cls ≠ "java/lang/invoke/MethodHandle" ∧ y.cls ≠ "java/lang/invoke/VarHandle" ∧ (parseMethodDescriptor y.desc).map (fun d => d.parameters.length) = some n) (hl : lev' + 1 ≤ lev) (hm : 19 + maxL + 37 * lev' ≤ 37 * lev) : xCS l X own lev (2 * i + 1) n κ' f := by
  intro p e R s m args below meth c H locs cells slots cc pc ls G nL σ σ' r as rest C0 hR hS hfr hlo hce hsl hsz hlen hok hws hfa hdg
  obtain ⟨hx, hb, hown, hml, hlocks, hK, hts, hST, hA⟩ := id C0
  rw [xCI_S] at hdg
  have hG : GoodIn xW (va_wsS own i y [.code y cy maxL ret]) := fun w h => ⟨hw w h, xW_good (hw w h)⟩
  have hcw := va_cwS (R := R) (s := s) (args := args) (mc := κ') (ms := 6 * κ') (rm := xRm lev' κ') n hts hG rfl rfl rfl hd ⟨by show lev' + 1 ≤ R.frames; omega, by show 8 + (maxL + 11) + 37 * lev' ≤ R.locals; omega⟩
  exact vx_runS (As := as.map (xcv G)) (rest := rest.map (xcv G)) (g := F0 m pc ls ((as.reverse ++ rest).map (xcv G))) (below := below) (e := e) (cells := cells) (slots := slots) (locs := locs) (H := H) (meth := meth) ⟨hx, hb, hml, hown, hts⟩ (hM G as σ r σ' hA hok hfa) hcw
    ⟨xPc0_blind _ _ _ _, xPc0_pre C0 hR hS⟩ rfl (by rw [List.length_map]; exact hlen) hsz (by simp) (lv_room (by rw [xws_cat]; exact hws)) hdg ⟨hce, hsl⟩
/-- a static call of a nest mate's private method -/
theorem xCS_N {l : Launch} {X : Nat × (Nat → Int32)} {own host : String} {lev lev' i n κ' maxL : Nat} {y : MethodName} {cy : ByteArray} {ret : Option FieldType} {f : XS} (hM : xMet l X y cy maxL ret lev' κ' f)
    (hw : ∀ w ∈ ([.static y, .initialized y.cls, .code y cy maxL ret] : List Jvm.Cond), w ∈ xW) (hn : Jvm.Cond.methodLinkNest own i y host ∈ xNest) (hd : y.cls ≠ "java/lang/invoke/MethodHandle" ∧ y.cls ≠ "java/lang/invoke/VarHandle" ∧ (parseMethodDescriptor y.desc).map (fun d => d.parameters.length) = some n) (hl : lev' + 1 ≤ lev) (hm : 19 + maxL + 37 * lev' ≤ 37 * lev) : xCS l X own lev (2 * i + 1) n κ' f := by
  intro p e R s m args below meth c H locs cells slots cc pc ls G nL σ σ' r as rest C0 hR hS hfr hlo hce hsl hsz hlen hok hws hfa hdg
  obtain ⟨hx, hb, hown, hml, hlocks, hK, hts, hST, hA⟩ := id C0
  rw [xCI_S] at hdg
  have hG : GoodIn xW [.code y cy maxL ret] := fun w h => by
    have := hw w (List.mem_cons_of_mem _ (List.mem_cons_of_mem _ h))
    exact ⟨this, xW_good this⟩
  have hcw := va_cnB (R := R) (s := s) (args := args) (mc := κ') (ms := 6 * κ') (rm := xRm lev' κ') (own := own) (index := i) (host := host) n hts hG rfl rfl rfl (hK.2.2.1 _ hn) (hts _ (hw _ (by simp))) hd ⟨by show lev' + 1 ≤ R.frames; omega, by show 8 + (maxL + 11) + 37 * lev' ≤ R.locals; omega⟩
  exact vx_runSN (As := as.map (xcv G)) (rest := rest.map (xcv G)) (g := F0 m pc ls ((as.reverse ++ rest).map (xcv G))) (below := below) (e := e) (cells := cells) (slots := slots) (locs := locs) (H := H) (meth := meth) ⟨hx, hb, hml, hown, hts⟩ (hM G as σ r σ' hA hok hfa) ⟨hcw, hts _ (hw _ (by simp)), trivial⟩
    ⟨xPc0_blind _ _ _ _, xPc0_pre C0 hR hS⟩ rfl (by rw [List.length_map]; exact hlen) hsz (by simp) (lv_room (by rw [xws_cat]; exact hws)) hdg ⟨hce, hsl⟩
